/-! What is told: a list of bytes, on the class's sheet and in the reference -/
def ml (L : List Int) : Int := if 6000 ≤ (L.length : Int) then 6000 else L.length
def ov (L : List Int) : Int := if 6000 < (L.length : Int) then 1 else 0
def shC (s : Nat) (L : List Int) (f : Nat → Nat → Int) (d : Nat → Nat) (a : Nat → Int → Int) (ni : Nat → Nat) (j : Nat → Int → Int64) (st : st_T) : Prop := ∃ (f2 : Nat → Nat → Int) (a2 : Nat → Int → Int), st = cs f2 d a2 ni j ∧ (∀ i, i ≠ s → f2 i = f i) ∧ f2 s 1 = ml L ∧ f2 s 2 = ov L ∧ (∀ i, i ≠ s + 1 → a2 i = a i) ∧ ∀ x : Nat, x < L.length → x < 6000 → a2 (s + 1) x = L.getD x 0
def shM (L : List Int) (F : Nat → Int) (A : Nat → Int → Int) (J : Nat → Int → Int64) (st : st_T) : Prop := ∃ (F2 : Nat → Int) (A2 : Nat → Int → Int), st = ms F2 A2 J ∧ (∀ i, i ≠ 82 → F2 i = F i) ∧ F2 82 = L.length ∧ (∀ i, i ≠ 58 → A2 i = A i) ∧ ∀ x : Nat, x < L.length → x < 6000 → A2 58 x = L.getD x 0
theorem getD_l {L : List Int} {v : Int} {x : Nat} (h : x < L.length) : (L ++ [v]).getD x 0 = L.getD x 0 := by
  rw [List.getD_eq_getElem?_getD, List.getD_eq_getElem?_getD, List.getElem?_append_left h]
theorem getD_r {L : List Int} {v : Int} : (L ++ [v]).getD L.length 0 = v := by
  rw [List.getD_eq_getElem?_getD, List.getElem?_append_right (Nat.le_refl _), Nat.sub_self]
  rfl
theorem len_1 {L : List Int} {v : Int} : (L ++ [v]).length = L.length + 1 := by
  rw [List.length_append]; rfl
section SHE
variable {s n b : Nat} {L : List Int} {f : Nat → Nat → Int} {d : Nat → Nat} {a : Nat → Int → Int} {ni : Nat → Nat} {j : Nat → Int → Int64} {F : Nat → Int} {A : Nat → Int → Int} {J : Nat → Int → Int64} {st : st_T} {v q S K P len x k : Int}
theorem zl6000 : (6000 : Int32) = qz 6000 := id rfl
theorem c_put (hs : s = 117 ∨ s = 119) (v0 : 0 ≤ v) (v1 : v < 128) (H : shC s L f d a ni j st) : ∃ st2, g_X8_put n s (qz v) st = some st2 ∧ shC s (L ++ [v]) f d a ni j st2 := by
  obtain ⟨f2, a2, rfl, h1, h2, h3, h4, h5⟩ := H
  have hv : (Int32.toInt8 (qz v)).toInt32 = qz v := by
    rw [i32_8 v0 (by omega)]
    unfold sg8
    rw [if_pos v1]
  by_cases c : 6000 ≤ (L.length : Int)
  · refine ⟨cs (u2 f2 s 2 1) d a2 ni j, ?_, u2 f2 s 2 1, a2, rfl, fun i hi => by rw [u2_b hi]; exact h1 i hi, ?_, ?_, h4, fun x x1 x2 => ?_⟩
    · unfold g_X8_put g_X8_put_0
      simp only [zl1, zl6000]
      unfold ml at h2
      rw [if_pos c] at h2
      rw [gf_cs, h2, if_pos rfl, wf_cs, bd_some]
    · rw [u2_c (by decide), h2]
      unfold ml
      rw [if_pos c, if_pos (by rw [len_1]; omega)]
    · rw [u2_a]
      unfold ov
      rw [if_pos (by rw [len_1]; omega)]
    · rw [getD_l (by omega)]
      exact h5 x (by omega) x2
  · have e2 : f2 s 1 = L.length := by
      rw [h2]
      unfold ml
      rw [if_neg c]
    refine ⟨cs (u2 f2 s 1 (L.length + 1)) d (v2 a2 (s + 1) L.length v) ni j, ?_, _, _, rfl, fun i hi => by rw [u2_b hi]; exact h1 i hi, ?_, ?_, fun i hi => by rw [v2_o hi]; exact h4 i hi, fun x x1 x2 => ?_⟩
    · unfold g_X8_put g_X8_put_0
      simp only [zl1, zl6000]
      rw [gf_cs, e2, if_neg (by rw [qz_inj (by omega) (by omega) (by omega) (by omega)]; omega), hv]
      rcases hs with rfl | rfl
      · rw [gpc_117_0, uac_118 (by omega) (by omega) (by omega) v1, bd_some, gf_cs, e2, qz_add, wf_cs, bd_some]
      · rw [gpc_119_0, uac_120 (by omega) (by omega) (by omega) v1, bd_some, gf_cs, e2, qz_add, wf_cs, bd_some]
    · rw [u2_a]
      unfold ml
      rw [len_1]
      by_cases y : 6000 ≤ ((L.length + 1 : Nat) : Int)
      · rw [if_pos y]; omega
      · rw [if_neg y]; omega
    · rw [u2_c (by decide), h3]
      unfold ov
      rw [len_1, if_neg (by omega), if_neg (by omega)]
    · rw [len_1] at x1
      rw [v2_s]
      by_cases e : x = L.length
      · rw [e, v1_s, getD_r]
      · rw [v1_o (by omega), getD_l (by omega)]
        exact h5 x (by omega) x2
theorem m_say (hL : (L.length : Int) < 1000000000) (H : shM L F A J st) : ∃ st2, g_X11_say n 0 (qz v) st = some st2 ∧ shM (L ++ [v]) F A J st2 := by
  obtain ⟨F2, A2, rfl, h1, h2, h3, h4⟩ := H
  by_cases c : 6000 ≤ (L.length : Int)
  · refine ⟨ms (u1 F2 82 (L.length + 1)) A2 J, ?_, _, _, rfl, fun i hi => by rw [u1_o hi]; exact h1 i hi, ?_, h3, fun x x1 x2 => ?_⟩
    · unfold g_X11_say g_X11_say_0 g_X11_say_20
      simp only [zl1, zl6000]
      rw [gf_ms, h2, if_pos (by rw [qz_le (by omega) (by omega) (by omega) (by omega)]; exact c), qz_add, wf_ms, bd_some]
    · rw [u1_s, len_1]; omega
    · rw [getD_l (by omega)]
      exact h4 x (by omega) x2
  · refine ⟨ms (u1 F2 82 (L.length + 1)) (v2 A2 58 L.length v) J, ?_, _, _, rfl, fun i hi => by rw [u1_o hi]; exact h1 i hi, ?_, fun i hi => by rw [v2_o hi]; exact h3 i hi, fun x x1 x2 => ?_⟩
    · unfold g_X11_say g_X11_say_0 g_X11_say_20
      simp only [zl1, zl6000]
      rw [gf_ms, h2, if_neg (by rw [qz_le (by omega) (by omega) (by omega) (by omega)]; exact c), gp_81, ua_58 (by omega) (by omega), bd_some, gf_ms, h2, qz_add, wf_ms, bd_some]
    · rw [u1_s, len_1]; omega
    · rw [len_1] at x1
      rw [v2_s]
      by_cases e : x = L.length
      · rw [e, v1_s, getD_r]
      · rw [v1_o (by omega), getD_l (by omega)]
        exact h4 x (by omega) x2
/-- the bytes of a name -/
def nmb (T : Int → Int) (p : Int) (m : Nat) : List Int := (List.range m).map (fun i : Nat => T (p + i))
theorem nmb_s {T : Int → Int} {p : Int} {m : Nat} : nmb T p (m + 1) = nmb T p m ++ [T (p + m)] := by
  unfold nmb
  rw [List.range_succ, List.map_append]
  rfl
theorem nmb_len {T : Int → Int} {p : Int} {m : Nat} : (nmb T p m).length = m := by
  unfold nmb
  rw [List.length_map, List.length_range]
theorem shC_bk (hb : bks b) (hs : s = 117 ∨ s = 119) (G : BK b q S K P len f a ni j A J) {f2 : Nat → Nat → Int} {a2 : Nat → Int → Int} (h1 : ∀ i, i ≠ s → f2 i = f i) (h4 : ∀ i, i ≠ s + 1 → a2 i = a i) : BK b q S K P len f2 a2 ni j A J := by
  have hbb : b = 1 ∨ b = 33 := hb
  exact bk_eq G (fun i i1 i2 => h1 i (by omega)) (fun i i1 i2 => h4 i (by omega)) (fun _ _ _ => rfl) rfl (fun _ _ _ => rfl) ⟨rfl, rfl⟩
theorem c_putName (hn : 100000 ≤ n) (hs : s = 117 ∨ s = 119) (hb : bks b) (G : BK b q S K P len f a ni j A J) (hR : Rbk b q len a A) (hx : liv S K x) (H : shC s L f d a ni j st) : ∃ st2, g_X8_putName n s (b + 1) (qz x) st = some st2 ∧ shC s (L ++ nmb (fun y => A 2 (8192 * q + y)) (a (b + 5) x) (a (b + 6) x).toNat) f d a ni j st2 := by
  have hbb : b = 1 ∨ b = 33 := hb
  obtain ⟨y1, y2, y3, y4, y5, y6⟩ := bk_n G hx
  have H0 := H
  obtain ⟨f2, a2, rfl, h1, h2, h3, h4, h5⟩ := H0
  unfold g_X8_putName g_X8_putName_0
  rw [c_lengthOf hb y1 y2, bd_some, h4 (b + 6) (by omega), zl0]
  have lp := lp_inv (b := gL_X8_putName_9 n s (b + 1) (qz x) (qz (a (b + 6) x))) (fun t c => ∃ st, c = (qz t, st) ∧ shC s (L ++ nmb (fun y => A 2 (8192 * q + y)) (a (b + 5) x) t.toNat) f d a ni j st) (Q := fun st => shC s (L ++ nmb (fun y => A 2 (8192 * q + y)) (a (b + 5) x) (a (b + 6) x).toNat) f d a ni j st) (a (b + 6) x) (n := n) (i0 := 0) (by omega) (by omega) (c0 := (qz 0, cs f2 d a2 ni j)) ⟨_, rfl, by rw [show nmb (fun y => A 2 (8192 * q + y)) (a (b + 5) x) (0 : Int).toNat = [] from rfl, List.append_nil]; exact H⟩ ?_ ?_
  · obtain ⟨st2, e, h⟩ := lp
    exact ⟨st2, by rw [e, bd_some], h⟩
  · rintro t c t0 t1 ⟨st, rfl, hst⟩
    have hst' := hst
    obtain ⟨f3, a3, rfl, g1, g2, g3, g4, g5⟩ := hst'
    have hr := hR (a (b + 5) x + t) (by omega) (by omega)
    have hR3 : Rbk b q len a3 A := by
      unfold Rbk
      rw [g4 (b + 2) (by omega)]
      exact hR
    obtain ⟨st3, e3, h3'⟩ := c_put (n := n) (v := A 2 (8192 * q + (a (b + 5) x + t))) hs (by omega) (by omega) hst
    refine ⟨(qz (t + 1), st3), ?_, st3, rfl, ?_⟩
    · unfold gL_X8_putName_9 g_X8_putName_9
      simp only [zl1]
      rw [if_neg (by rw [qz_le (by omega) (by omega) (by omega) (by omega)]; omega), c_nm hb (shC_bk hb hs G g1 g4) hR3 hx (by omega) (by omega), bd_some, g4 (b + 5) (by omega), g4 (b + 6) (by omega), if_pos ⟨t0, t1⟩, show 8192 * q + a (b + 5) x + t = 8192 * q + (a (b + 5) x + t) by omega, e3, bd_some, qz_add]
    · rw [show (t + 1).toNat = t.toNat + 1 by omega, nmb_s, ← List.append_assoc, show ((t.toNat : Nat) : Int) = t by omega]
      exact h3'
  · rintro c ⟨st, rfl, hst⟩
    refine ⟨st, ?_, hst⟩
    unfold gL_X8_putName_9 g_X8_putName_9
    rw [if_pos (by rw [qz_le (by omega) (by omega) (by omega) (by omega)]; omega)]
theorem m_sayLabel (hn : 100000 ≤ n) (hq : 0 ≤ q ∧ q ≤ 1) (h4 : F 4 = q) (k0 : 0 ≤ k) (k1 : k < 200) (s0 : 0 ≤ A 8 (200 * q + k)) (l0 : 0 ≤ A 9 (200 * q + k)) (s1 : A 8 (200 * q + k) + A 9 (200 * q + k) ≤ 8192) (hL : (L.length : Int) < 900000000) (H : shM L F A J st) : ∃ st2, g_X11_sayLabel n 0 (qz k) st = some st2 ∧ shM (L ++ nmb (fun y => A 2 (8192 * q + y)) (A 8 (200 * q + k)) (A 9 (200 * q + k)).toNat) F A J st2 := by
  unfold g_X11_sayLabel g_X11_sayLabel_0
  have lp := lp_inv (b := gL_X11_sayLabel_2 n 0 (qz k)) (fun t c => ∃ st, c = (qz t, st) ∧ shM (L ++ nmb (fun y => A 2 (8192 * q + y)) (A 8 (200 * q + k)) t.toNat) F A J st) (Q := fun st => shM (L ++ nmb (fun y => A 2 (8192 * q + y)) (A 8 (200 * q + k)) (A 9 (200 * q + k)).toNat) F A J st) (A 9 (200 * q + k)) (n := n) (i0 := 0) (by omega) (by omega) (c0 := (qz 0, st)) ⟨_, rfl, by rw [show nmb (fun y => A 2 (8192 * q + y)) (A 8 (200 * q + k)) (0 : Int).toNat = [] from rfl, List.append_nil]; exact H⟩ ?_ ?_
  · obtain ⟨st2, e, h⟩ := lp
    exact ⟨st2, by rw [zl0, e, bd_some], h⟩
  · rintro t c t0 t1 ⟨st, rfl, hst⟩
    have hst' := hst
    obtain ⟨F3, A3, rfl, g1, g2, g3, g4⟩ := hst'
    have F34 : F3 4 = q := by rw [g1 4 (by decide)]; exact h4
    obtain ⟨st3, e3, h3'⟩ := m_say (n := n) (v := A 2 (8192 * q + (A 8 (200 * q + k) + t))) (by rw [List.length_append, nmb_len]; omega) hst
    refine ⟨(qz (t + 1), st3), ?_, st3, rfl, ?_⟩
    · unfold gL_X11_sayLabel_2 g_X11_sayLabel_2
      simp only [zl1, zl8192]
      rw [m_at F34, bd_some, gp_12, ga_9 (by omega) (by omega), bd_some, g3 9 (by decide), if_neg (by rw [qz_le (by omega) (by omega) (by omega) (by omega)]; omega), bd_some, gp_11, ga_8 (by omega) (by omega), bd_some, g3 8 (by decide), gf_ms, F34, qz_mul, qz_add, qz_add, gp_5, ga_2 (by omega) (by omega), bd_some, g3 2 (by decide), show 8192 * q + A 8 (200 * q + k) + t = 8192 * q + (A 8 (200 * q + k) + t) by omega, e3, bd_some, qz_add]
    · rw [show (t + 1).toNat = t.toNat + 1 by omega, nmb_s, ← List.append_assoc, show ((t.toNat : Nat) : Int) = t by omega]
      exact h3'
  · rintro c ⟨st, rfl, hst⟩
    refine ⟨st, ?_, hst⟩
    obtain ⟨F3, A3, rfl, g1, g2, g3, g4⟩ := hst
    have F34 : F3 4 = q := by rw [g1 4 (by decide)]; exact h4
    unfold gL_X11_sayLabel_2 g_X11_sayLabel_2
    rw [m_at F34, bd_some, gp_12, ga_9 (by omega) (by omega), bd_some, g3 9 (by decide), if_pos (by rw [qz_le (by omega) (by omega) (by omega) (by omega)]; omega)]
/-- the name of a symbol -/
theorem m_saySym {v1 v3 : Int32} (hn : 100000 ≤ n) (hq : 0 ≤ q ∧ q ≤ 1) (h4 : F 4 = q) (k0 : 0 ≤ k) (k1 : k < 300) (s0 : 0 ≤ A 3 (300 * q + k)) (l0 : 0 ≤ A 4 (300 * q + k)) (s1 : A 3 (300 * q + k) + A 4 (300 * q + k) ≤ 8192) (hL : (L.length : Int) < 900000000) (H : shM L F A J st) : ∃ st2, hp_lp (gL_X11_print_140 n 0 v1 v3 (qz (300 * q + k))) n (qz 0, st) = some st2 ∧ shM (L ++ nmb (fun y => A 2 (8192 * q + y)) (A 3 (300 * q + k)) (A 4 (300 * q + k)).toNat) F A J st2 := by
  refine lp_inv (b := gL_X11_print_140 n 0 v1 v3 (qz (300 * q + k))) (fun t c => ∃ st, c = (qz t, st) ∧ shM (L ++ nmb (fun y => A 2 (8192 * q + y)) (A 3 (300 * q + k)) t.toNat) F A J st) (Q := fun st => shM (L ++ nmb (fun y => A 2 (8192 * q + y)) (A 3 (300 * q + k)) (A 4 (300 * q + k)).toNat) F A J st) (A 4 (300 * q + k)) (n := n) (i0 := 0) (by omega) (by omega) (c0 := (qz 0, st)) ⟨_, rfl, by rw [show nmb (fun y => A 2 (8192 * q + y)) (A 3 (300 * q + k)) (0 : Int).toNat = [] from rfl, List.append_nil]; exact H⟩ ?_ ?_
  · rintro t c t0 t1 ⟨st, rfl, hst⟩
    have hst' := hst
    obtain ⟨F3, A3, rfl, g1, g2, g3, g4⟩ := hst'
    have F34 : F3 4 = q := by rw [g1 4 (by decide)]; exact h4
    obtain ⟨st3, e3, h3'⟩ := m_say (n := n) (v := A 2 (8192 * q + (A 3 (300 * q + k) + t))) (by rw [List.length_append, nmb_len]; omega) hst
    refine ⟨(qz (t + 1), st3), ?_, st3, rfl, ?_⟩
    · unfold gL_X11_print_140 g_X11_print_140
      simp only [zl1, zl8192]
      rw [gp_7, ga_4 (by omega) (by omega), bd_some, g3 4 (by decide), if_neg (by rw [qz_le (by omega) (by omega) (by omega) (by omega)]; omega), gp_6, ga_3 (by omega) (by omega), bd_some, g3 3 (by decide), gf_ms, F34, qz_mul, qz_add, qz_add, gp_5, ga_2 (by omega) (by omega), bd_some, g3 2 (by decide), show 8192 * q + A 3 (300 * q + k) + t = 8192 * q + (A 3 (300 * q + k) + t) by omega, e3, bd_some, qz_add]
    · rw [show (t + 1).toNat = t.toNat + 1 by omega, nmb_s, ← List.append_assoc, show ((t.toNat : Nat) : Int) = t by omega]
      exact h3'
  · rintro c ⟨st, rfl, hst⟩
    refine ⟨st, ?_, hst⟩
    obtain ⟨F3, A3, rfl, g1, g2, g3, g4⟩ := hst
    unfold gL_X11_print_140 g_X11_print_140
    rw [gp_7, ga_4 (by omega) (by omega), bd_some, g3 4 (by decide), if_pos (by rw [qz_le (by omega) (by omega) (by omega) (by omega)]; omega)]
end SHE
