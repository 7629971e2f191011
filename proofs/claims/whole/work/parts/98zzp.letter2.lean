/-! A letter of a compressed proof: both -/
section LT2
variable {n : Nat} {k kc c p w h b : Int} {gl : Int → Int} {f : Nat → Nat → Int} {d : Nat → Nat} {a : Nat → Int → Int} {ni : Nat → Nat} {j : Nat → Int → Int64} {F : Nat → Int} {A : Nat → Int → Int} {J : Nat → Int → Int64}
theorem klt_3a {n : Nat} : klt n (.inl (qz b, ms F A J)) = some (qz 0, ms (u1 (u1 F 54 (-3)) 55 b) A J) := by
  unfold klt
  simp only [Sum.elim_inl]
  rw [zlm3, m_fails, bd_some, hp_bz_0, bd_some]
theorem klt_10a {n : Nat} : klt n (.inr (.inl (qz b, ms F A J))) = some (qz 0, ms (u1 (u1 F 54 (-10)) 55 b) A J) := by
  unfold klt
  simp only [Sum.elim_inl, Sum.elim_inr]
  rw [zlm10, m_fails, bd_some, hp_bz_0, bd_some]
theorem klt_10b {n : Nat} : klt n (.inr (.inr (.inl (qz b, ms F A J)))) = some (qz 0, ms (u1 (u1 F 54 (-10)) 55 b) A J) := by
  unfold klt
  simp only [Sum.elim_inl, Sum.elim_inr]
  rw [zlm10, m_fails, bd_some, hp_bz_0, bd_some]
theorem klt_3b {n : Nat} : klt n (.inr (.inr (.inr (.inl (qz b, ms F A J))))) = some (qz 0, ms (u1 (u1 F 54 (-3)) 55 b) A J) := by
  unfold klt
  simp only [Sum.elim_inl, Sum.elim_inr]
  unfold g_X11_readLetters_288
  rw [zlm3, m_fails, bd_some, hp_bz_0, bd_some]
theorem let_step (H : LTS k kc gl f a p w h F A) (b0 : 0 ≤ b) (b1 : b < F 48) (b2 : F 48 ≤ 8192) (hc : A 33 b = c) (c0 : 0 ≤ c) (c1 : c < 128) : ∃ (z : Int) (f2 : Nat → Nat → Int) (a2 : Nat → Int → Int), g_X3_takeLetter n 78 (qz c) (cs f d a ni j) = some (qz z, cs f2 d a2 ni j) ∧ DC f a f2 a2 ∧ ((z = 0 ∧ ∃ (p2 w2 h2 : Int) (F2 : Nat → Int) (A2 : Nat → Int → Int), gL_X11_readLetters_15 n 0 (qz p, qz w, qz h, qz b, ms F A J) = some (.inl (qz p2, qz w2, qz h2, qz (b + 1), ms F2 A2 J)) ∧ DM F A F2 A2 ∧ F2 48 = F 48 ∧ A2 33 = A 33 ∧ LTS k kc gl f2 a2 p2 w2 h2 F2 A2) ∨ ((z = -3 ∨ z = -10) ∧ ∃ X, gL_X11_readLetters_15 n 0 (qz p, qz w, qz h, qz b, ms F A J) = some (.inr X) ∧ klt n X = some (qz 0, ms (u1 (u1 F 54 z) 55 b) A J))) := by
  obtain ⟨⟨s1, s2, s3, s4, s5⟩, ⟨n1, n2, n3, n4, n5, n6⟩, hp, ⟨w1, w2, w3, w4, w5⟩, hD, h36⟩ := H
  have m0 : 0 ≤ F 53 := by rw [n5]; exact (mkc_r n2).1
  have pr : 0 ≤ f 78 10 ∧ f 78 10 ≤ 100000 ∧ 0 ≤ p ∧ p ≤ 600000 := by omega
  by_cases cU : 85 ≤ c ∧ c ≤ 89
  · obtain ⟨u0, u1'⟩ := cU
    have e1 := c_letU (n := n) (d := d) (a := a) (ni := ni) (j := j) (f := f) u0 u1' rfl pr.1 pr.2.1
    refine ⟨0, _, _, e1, ⟨fun i hi => by rw [u2_b hi, u2_b hi, u2_b hi], by rw [u2_c (by decide), u2_c (by decide), u2_c (by decide)], fun _ _ => rfl⟩, Or.inl ⟨rfl, (if p ≤ 100000 then 5 * p + c - 85 + 1 else p), 1, 0, F, A, ?_, dm_0, rfl, rfl, ?_⟩⟩
    · unfold gL_X11_readLetters_15 g_X11_readLetters_15 g_X11_readLetters_69 g_X11_readLetters_297
      simp only [zl0, zl1, zl5, zl85, zl89, zl100k]
      rw [gf_ms, if_neg (by rw [qz_le (by omega) (by omega) (by omega) (by omega)]; omega), gp_47, ga_33 (by omega) (by omega), bd_some, hc, if_neg (by rw [qz_lt (by omega) (by omega) (by omega) (by omega)]; omega), if_neg (by rw [qz_lt (by omega) (by omega) (by omega) (by omega)]; omega), qz_mul, qz_add, qz_sub, qz_add, qz_add]
      by_cases y : p ≤ 100000
      · rw [if_pos (by rw [qz_le (by omega) (by omega) (by omega) (by omega)]; exact y), if_pos y]
      · rw [if_neg (by rw [qz_le (by omega) (by omega) (by omega) (by omega)]; exact y), if_neg y]
    · unfold LTS
      rw [u2_c (by decide), u2_c (by decide), u2_c (by decide), u2_c (by decide), u2_c (by decide), u2_c (by decide), u2_c (by decide), u2_c (by decide), u2_c (by decide), u2_a, u2_c (by decide), u2_a, u2_c (by decide), u2_c (by decide), u2_a]
      refine ⟨⟨s1, s2, s3, s4, s5⟩, ⟨n1, n2, n3, n4, n5, n6⟩, ?_, ⟨rfl, Or.inr rfl, rfl, Or.inl rfl, fun z => by omega⟩, hD, h36⟩
      rcases hp with ⟨e, p0, p1⟩ | ⟨e, p0, p1⟩
      · rw [if_pos p1, e]
        by_cases y : 5 * p + c - 85 + 1 ≤ 100000
        · rw [if_pos y]; omega
        · rw [if_neg y]; omega
      · rw [e, if_neg (by omega : ¬(5 * (100000 : Int) + c - 85 + 1 ≤ 100000))]
        by_cases y : p ≤ 100000
        · rw [if_pos y]; omega
        · rw [if_neg y]; omega
  by_cases cA : 65 ≤ c ∧ c ≤ 84
  · obtain ⟨u0, u1'⟩ := cA
    have e1 := c_letA (n := n) (d := d) (a := a) (ni := ni) (j := j) (f := f) u0 u1' rfl
    have eR : gL_X11_readLetters_15 n 0 (qz p, qz w, qz h, qz b, ms F A J) = if 20 * p + c - 65 + 1 ≤ kc + F 53 then (if F 50 = 1000 then some (.inr (.inr (.inl (qz b, ms F A J)))) else if kc < 20 * p + c - 65 + 1 then g_X11_readLetters_190 n 0 (qz b) (qz (1000 + (20 * p + c - 65 + 1) - kc - 1)) (qz (F 50)) 34 (ms F A J) else (gA (ms F A J) 32 (qz (20 * p + c - 65 + 1 - 1))).bind fun x3 => g_X11_readLetters_190 n 0 (qz b) x3 (qz (F 50)) 34 (ms F A J)) else some (.inr (.inl (qz b, ms F A J))) := by
      unfold gL_X11_readLetters_15 g_X11_readLetters_15 g_X11_readLetters_78
      simp only [zl1, zl20, zl65, zl84, zl85, zl1000]
      rw [gf_ms, if_neg (by rw [qz_le (by omega) (by omega) (by omega) (by omega)]; omega), gp_47, ga_33 (by omega) (by omega), bd_some, hc, if_pos (by rw [qz_lt (by omega) (by omega) (by omega) (by omega)]; omega), if_neg (by rw [qz_lt (by omega) (by omega) (by omega) (by omega)]; omega), if_neg (by rw [qz_lt (by omega) (by omega) (by omega) (by omega)]; omega), qz_mul, qz_add, qz_sub, qz_add, gf_ms, gf_ms, gf_ms, s2, qz_add, qz_add, qz_sub, qz_sub, qz_sub, gp_45, gp_49]
      simp (disch := omega) only [qz_le, qz_lt, qz_inj]
    have DC3 : DC f a (u2 (u2 (u2 f 78 12 1) 78 11 0) 78 10 0) a := ⟨fun i hi => by rw [u2_b hi, u2_b hi, u2_b hi], by rw [u2_c (by decide), u2_c (by decide), u2_c (by decide)], fun _ _ => rfl⟩
    have g8 : u2 (u2 (u2 f 78 12 1) 78 11 0) 78 10 0 78 8 = kc := by rw [u2_c (by decide), u2_c (by decide), u2_c (by decide)]; exact s1
    have g5 : u2 (u2 (u2 f 78 12 1) 78 11 0) 78 10 0 78 5 = F 53 := by rw [u2_c (by decide), u2_c (by decide), u2_c (by decide)]; exact n4
    have g1 : u2 (u2 (u2 f 78 12 1) 78 11 0) 78 10 0 78 1 = F 50 := by rw [u2_c (by decide), u2_c (by decide), u2_c (by decide)]; exact n1
    by_cases cn' : 20 * p + c - 65 + 1 ≤ kc + F 53
    rotate_left
    · refine ⟨-3, _, _, by rw [e1, c_numBad g8 g5 s3 s4 m0 n6 (by omega) (by omega) (by omega), bd_some], DC3, Or.inr ⟨Or.inl rfl, _, by rw [eR, if_neg cn'], ?_⟩⟩
      unfold klt
      simp only [Sum.elim_inl, Sum.elim_inr]
      rw [zlm3, m_fails, bd_some, hp_bz_0, bd_some]
    have pe : f 78 10 = p := by omega
    rw [if_pos cn'] at eR
    by_cases cN : F 50 = 1000
    · refine ⟨-10, _, _, by rw [e1, pe, c_numFull g8 g5 (by rw [g1]; exact cN) s3 s4 m0 n6 (by omega) (by omega), bd_some], DC3, Or.inr ⟨Or.inr rfl, _, by rw [eR, if_pos cN], klt_10a⟩⟩
    rw [if_neg cN] at eR
    have e2 := c_numGood (n := n) (d := d) (a := a) (ni := ni) (j := j) g8 g5 g1 n2 (by omega) s3 s4 m0 n6 (num := 20 * p + c - 65 + 1) (by omega) cn'
    have e190 : ∀ v, g_X11_readLetters_190 n 0 (qz b) (qz v) (qz (F 50)) 34 (ms F A J) = some (.inl (qz 0, qz 0, qz 1, qz (b + 1), ms (u1 F 50 (F 50 + 1)) (v2 A 34 (F 50) v) J)) := by
      intro v
      unfold g_X11_readLetters_190 g_X11_readLetters_297
      simp only [zl0, zl1]
      rw [ua_34 n2 (by omega), bd_some, gf_ms, qz_add, wf_ms, bd_some, qz_add]
    have eR2 : gL_X11_readLetters_15 n 0 (qz p, qz w, qz h, qz b, ms F A J) = some (.inl (qz 0, qz 0, qz 1, qz (b + 1), ms (u1 F 50 (F 50 + 1)) (v2 A 34 (F 50) (if 20 * p + c - 65 + 1 ≤ kc then gl (20 * p + c - 65 + 1 - 1) else 1000 + (20 * p + c - 65 + 1) - kc - 1)) J)) := by
      rw [eR]
      by_cases y : 20 * p + c - 65 + 1 ≤ kc
      · rw [if_neg (by omega), ga_32 (by omega) (by omega), bd_some, e190, if_pos y, (s5 _ (by omega) (by omega)).2.1]
      · rw [if_pos (by omega), e190, if_neg y]
    refine ⟨0, _, _, by rw [e1, pe, e2, bd_some], ⟨fun i hi => by rw [u2_b hi]; exact DC3.1 i hi, by rw [u2_c (by decide)]; exact DC3.2.1, fun i hi => by rw [v2_o (by omega), v2_o (by omega)]⟩, Or.inl ⟨rfl, 0, 0, 1, _, _, eR2, ⟨fun i hi => u1_o (by omega), fun i hi => v2_o (by omega)⟩, u1_o (by decide), v2_o (by decide), ?_⟩⟩
    have hk80 : ∀ x, 0 ≤ x → x < F 50 → v1 (a 80) (F 50) 0 x = a 80 x := fun x x0 x1 => v1_o (by omega)
    unfold LTS
    simp (disch := decide) only [u2_a, u2_c, u1_s, u1_o, v2_s, v2_o]
    refine ⟨⟨s1, s2, s3, s4, s5⟩, ⟨trivial, by omega, by omega, n4, ?_, n6⟩, Or.inl ⟨trivial, by omega, by omega⟩, ⟨trivial, Or.inl trivial, trivial, Or.inr trivial, fun _ => ⟨by omega, by rw [show F 50 + 1 - 1 = F 50 by omega, v1_s]⟩⟩, dp_add hD n2 (h36 _ (Int.le_refl _) (by omega)) ?_, fun i i0 i1 => h36 i (by omega) i1⟩
    · rw [mkc_0 n2 v1_s, mkc_c hk80]
      exact n5
    · by_cases y : 20 * p + c - 65 + 1 ≤ kc
      · have z := s5 (20 * p + c - 65 + 1 - 1) (by omega) (by omega)
        rw [if_pos y, if_pos y, z.1]
        exact Or.inl ⟨z.2.2.1, z.2.2.2, rfl⟩
      · rw [if_neg y, if_neg y]
        exact Or.inr ⟨20 * p + c - 65 + 1 - kc - 1, by omega, by omega, by omega, by omega⟩
  have eX : gL_X11_readLetters_15 n 0 (qz p, qz w, qz h, qz b, ms F A J) = g_X11_readLetters_211 n 0 (qz p) (qz w) (qz h) (qz b) (qz c) (ms F A J) := by
    unfold gL_X11_readLetters_15 g_X11_readLetters_15 g_X11_readLetters_78
    simp only [zl65, zl84, zl85, zl89]
    rw [gf_ms, if_neg (by rw [qz_le (by omega) (by omega) (by omega) (by omega)]; omega), gp_47, ga_33 (by omega) (by omega), bd_some, hc]
    by_cases y : c < 65
    · rw [if_pos (by rw [qz_lt (by omega) (by omega) (by omega) (by omega)]; omega), if_pos (by rw [qz_lt (by omega) (by omega) (by omega) (by omega)]; omega)]
    · rw [if_neg (by rw [qz_lt (by omega) (by omega) (by omega) (by omega)]; omega), if_pos (by rw [qz_lt (by omega) (by omega) (by omega) (by omega)]; omega), if_neg (by rw [qz_lt (by omega) (by omega) (by omega) (by omega)]; omega), if_pos (by rw [qz_lt (by omega) (by omega) (by omega) (by omega)]; omega)]
  by_cases cZ : c = 90
  rotate_left
  · refine ⟨-3, f, a, c_letX (by omega) c0 c1, dc_0, Or.inr ⟨Or.inl rfl, _, ?_, klt_3b⟩⟩
    rw [eX]
    unfold g_X11_readLetters_211
    simp only [zl90]
    rw [if_neg (by rw [qz_inj (by omega) (by omega) (by omega) (by omega)]; exact cZ)]
  have e1 := c_letZ (n := n) (f := f) (d := d) (a := a) (ni := ni) (j := j)
  rw [← cZ] at e1
  have eZ : g_X11_readLetters_211 n 0 (qz p) (qz w) (qz h) (qz b) (qz c) (ms F A J) = if h = 0 then some (.inr (.inr (.inr (.inr (.inl (qz b, ms F A J)))))) else if F 53 = 200 then some (.inr (.inr (.inr (.inl (qz b, ms F A J))))) else (uA 0 (ms F A J) 35 (qz (F 53)) (qz (F 50 - 1))).bind fun w2 => (uA 0 w2 (gP w2 0 52) ((gF w2 0 50) - qz 1) (gF w2 0 53)).bind fun w4 => (wF w4 0 53 ((gF w4 0 53) + qz 1)).bind fun w5 => g_X11_readLetters_297 n 0 (qz p) (qz w) (qz 0) (qz b) w5 := by
    unfold g_X11_readLetters_211
    simp only [zl0, zl1, zl90, zl200]
    rw [if_pos (by rw [cZ]), gf_ms, gf_ms, qz_sub, gp_51]
    simp (disch := omega) only [qz_inj]
  by_cases ch : h = 0
  · refine ⟨-3, f, a, by rw [e1, c_mark0 (by omega), bd_some], dc_0, Or.inr ⟨Or.inl rfl, _, by rw [eX, eZ, if_pos ch], klt_3b⟩⟩
  rw [if_neg ch] at eZ
  by_cases cM : F 53 = 200
  · refine ⟨-10, f, a, by rw [e1, c_markF (by omega) (by omega), bd_some], dc_0, Or.inr ⟨Or.inr rfl, _, by rw [eX, eZ, if_pos cM], ?_⟩⟩
    unfold klt
    simp only [Sum.elim_inl, Sum.elim_inr]
    rw [zlm10, m_fails, bd_some, hp_bz_0, bd_some]
  rw [if_neg cM] at eZ
  have hN := w5 (by omega)
  have e2 := c_markG (n := n) (f := f) (d := d) (a := a) (ni := ni) (j := j) (M := F 53) (N := F 50) (by omega) n4 m0 (by omega) n1 hN.1 n3
  refine ⟨0, _, _, by rw [e1, e2, bd_some], ⟨fun i hi => by rw [u2_b hi, u2_b hi], by rw [u2_c (by decide), u2_c (by decide)], fun i hi => v2_o (by omega)⟩, Or.inl ⟨rfl, p, w, 0, u1 F 53 (F 53 + 1), v2 (v2 A 35 (F 53) (F 50 - 1)) 36 (F 50 - 1) (F 53), ?_, ⟨fun i hi => u1_o (by omega), fun i hi => by rw [v2_o (by omega), v2_o (by omega)]⟩, u1_o (by decide), by rw [v2_o (by decide), v2_o (by decide)], ?_⟩⟩
  · rw [eX, eZ, ua_35 m0 (by omega), bd_some, gp_52, gf_ms, gf_ms, qz_sub, ua_36 (by omega) (by omega), bd_some, gf_ms, qz_add, wf_ms, bd_some]
    unfold g_X11_readLetters_297
    rw [zl1, qz_add]
  · have eN := mkc_0 (g := a 80) (i := F 50 - 1) (by omega) hN.2
    rw [show F 50 - 1 + 1 = F 50 by omega] at eN
    have eM := mkc_1 (g := v1 (a 80) (F 50 - 1) 1) (i := F 50 - 1) (by omega) v1_s
    rw [show F 50 - 1 + 1 = F 50 by omega, mkc_c (g := v1 (a 80) (F 50 - 1) 1) (h := a 80) (i := F 50 - 1) (fun x x0 x1 => v1_o (by omega))] at eM
    unfold LTS
    simp (disch := decide) only [u2_a, u2_c, u1_s, u1_o, v2_s, v2_o]
    refine ⟨⟨s1, s2, s3, s4, s5⟩, ⟨n1, n2, n3, trivial, by rw [eM]; omega, by omega⟩, hp, ⟨w1, w2, trivial, Or.inl trivial, fun z => by omega⟩, ?_, fun i i0 i1 => by rw [v1_o (by omega)]; exact h36 i i0 i1⟩
    have := dp_mark hD hN.1 hN.2
    rw [← n5] at this
    exact this
end LT2
