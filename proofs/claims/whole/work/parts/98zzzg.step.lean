/-! A step of a proof that is no assertion: both -/
section STP
variable {n m b : Nat} {q S K P len k N i R e w : Int} {f : Nat → Nat → Int} {d : Nat → Nat} {a : Nat → Int → Int} {ni : Nat → Nat} {j : Nat → Int → Int64} {F : Nat → Int} {A : Nat → Int → Int} {J : Nat → Int → Int64}
theorem ri_next {f1 : Nat → Nat → Int} {a1 : Nat → Int → Int} {ni1 : Nat → Nat} {j1 : Nat → Int → Int64} {F1 : Nat → Int} {A1 : Nat → Int → Int} {v : Int32} {R1 node : Int} (hn : 100000 ≤ n) (hm : mch m) (hb : bks b) (H : RI m b q S K P len k N i f d a ni j F A J) (i0 : 0 ≤ i) (i1 : i < N) (hN : N ≤ 1000) (n0 : 0 ≤ ndf b a i) (hR1 : R1 = F 59 - ndf b a i) (r0 : 0 ≤ R1) (r1 : R1 < 100) (hF1 : F1 59 = R1) (hF2 : F1 67 = F 67 + ndf b a i) (SK : RWL (m + 1) 32768 (R1 + 1) S f1 a1 ni1 (A1 38) (A1 37)) (MK : RWL (m + 4) 65536 (mkc (a 80) i) S f1 a1 ni1 (A1 41) (A1 40)) (h1 : FRM m f a ni j f1 a1 ni1 j1) (h2 : FRR F A F1 A1) (g39 : A1 39 = A 39) (g47 : A1 47 = A 47) (g45 : A1 45 = v1 (A 45) i (F 67)) (g46 : A1 46 = v1 (A 46) i (ndf b a i)) (g44 : ∀ y, y < F 67 → A1 44 y = A 44 y) (k44 : ∀ t, 0 ≤ t → t < ndf b a i → A1 44 (F 67 + t) = A 39 (R1 + t)) (hp : 0 ≤ a 79 i → node = i) (hq' : a 79 i < 0 → 0 ≤ A 35 (-1 - a 79 i) ∧ A 35 (-1 - a 79 i) < i ∧ node = A 47 (A 35 (-1 - a 79 i))) : ∃ (f2 : Nat → Nat → Int) (a2 : Nat → Int → Int) (ni2 : Nat → Nat) (A2 : Nat → Int → Int), g_X1_run_102 n m 78 v (qz i) (qz 0) (cs f1 d a1 ni1 j1) = some (.inl (qz (i + 1), cs f2 d a2 ni2 j1)) ∧ g_X11_endThing n 0 (qz i) (qz node) (ms F1 A1 J) = some (ms (u1 F1 59 (R1 + 1)) A2 J) ∧ RI m b q S K P len k N (i + 1) f2 d a2 ni2 j1 (u1 F1 59 (R1 + 1)) A2 J ∧ FRM m f a ni j f2 a2 ni2 j1 ∧ FRR F A (u1 F1 59 (R1 + 1)) A2 := by
  have hbb : b = 1 ∨ b = 33 := hb
  have hmm : m = 83 ∨ m = 93 := hm
  obtain ⟨G, hd, h4, HP, SK0, hR, MK0, HD, hmk, h67, HT⟩ := H
  obtain ⟨G1, HP1, HD1, e79, e80, end'⟩ := ri_fr (F := F) (F2 := F1) hm hb G HP HD h1 h2
  rw [← e80] at MK hmk
  obtain ⟨f2, a2, ni2, A2, eC, eM, SK2, MK2, w1, w2, w3, o1, o2, o3⟩ := post_step (n := n) (d := d) (j := j1) (J := J) (nd := node) (e := v) (F := F1) hn hm i0 i1 hN HD1 hmk hF1 r0 r1 SK MK
  have hFM : FRM m f a ni j f2 a2 ni2 j1 := by
    refine ⟨fun x hx => ?_, h1.2⟩
    obtain ⟨y1, y2, y3, y4⟩ := h1.1 x hx
    exact ⟨by rw [w1 x (by omega)]; exact y1, by rw [w2 x (by omega) (by omega)]; exact y2, by rw [w3 x (by omega)]; exact y3, y4⟩
  have hFR : FRR F A (u1 F1 59 (R1 + 1)) A2 := by
    refine ⟨fun x x1 x2 x3 x4 => ?_, fun x hx => ?_⟩
    · rw [u1_o x3]; exact h2.1 x x1 x2 x3 x4
    · rw [o1 x (by omega) (by omega) (by omega) (by omega)]; exact h2.2 x hx
  obtain ⟨G2, HP2, HD2, k79, k80, knd⟩ := ri_fr (F := F) (F2 := u1 F1 59 (R1 + 1)) hm hb G HP HD hFM hFR
  refine ⟨f2, a2, ni2, A2, eC, eM, ⟨G2, hd, ?_, HP2, ?_, ?_, ?_, HD2, ?_, ?_, ?_⟩, hFM, hFR⟩
  · rw [hFR.1 4 (by decide) (by decide) (by decide) (by decide)]; exact h4
  · rw [u1_s]; exact SK2
  · rw [u1_s]; omega
  · rw [k80, ← e80]; exact MK2
  · rw [k80, ← e80]; exact hmk
  · rw [u1_s, u1_o (by decide), hF2]; omega
  · rw [u1_s, u1_o (by decide), hF2, knd, k79, hFR.2 35 (by omega), o2, o3, g39, g47, o1 44 (by decide) (by decide) (by decide) (by decide), o1 45 (by decide) (by decide) (by decide) (by decide), o1 46 (by decide) (by decide) (by decide) (by decide), g45, g46, hR1]
    have R59 := rwl_0 SK0
    refine tree_s (node := node) HT i0 n0 (by omega) (by omega) (fun r q0 q1 => by rw [v1_o (by omega)]) (by rw [v1_s]) g44 (fun t q0 q1 => by rw [k44 t q0 q1, hR1]) (fun x hx => by rw [v1_o (by omega)]) (by rw [v1_s]) (fun x hx => by rw [v1_o (by omega)]) (by rw [v1_s]) (fun x hx => by rw [v1_o (by omega)]) (by rw [v1_s]) hp hq'
/-- the mark m of the steps before i is that of an earlier step -/
theorem mk_at {g : Int → Int} (c : Nat) : ∀ mm, 0 ≤ mm → mm < mkc g c → ∃ x : Int, 0 ≤ x ∧ x < c ∧ g x = 1 ∧ mkc g x = mm := by
  induction c with
  | zero =>
    intro mm m0 m1
    have e : mkc g ((0 : Nat) : Int) = 0 := rfl
    omega
  | succ c ih =>
    intro mm m0 m1
    rw [show ((c + 1 : Nat) : Int) = (c : Int) + 1 by omega] at m1
    by_cases y : g c = 1
    · rw [mkc_1 (by omega) y] at m1
      by_cases z : mm < mkc g c
      · obtain ⟨x, x0, x1, x2, x3⟩ := ih mm m0 z
        exact ⟨x, x0, by omega, x2, x3⟩
      · exact ⟨c, by omega, by omega, y, by omega⟩
    · have e : mkc g ((c : Int) + 1) = mkc g c := cn_F (by omega) y
      rw [e] at m1
      obtain ⟨x, x0, x1, x2, x3⟩ := ih mm m0 m1
      exact ⟨x, x0, by omega, x2, x3⟩
theorem push_step (hn : 100000 ≤ n) (hm : mch m) (hb : bks b) (hq : 0 ≤ q ∧ q ≤ 1) (H : RI m b q S K P len k N i f d a ni j F A J) (h0 : 0 ≤ k) (h1 : k < K) (i0 : 0 ≤ i) (i1 : i < N) (hN : N ≤ 1000) (h50 : F 50 = N) (ie : i < e) (e1 : e ≤ 1000) (iw : i < w) (w1 : w ≤ 1001) (hna : a 79 i < 0 ∨ a (b + 8) (a 79 i) < 2) : ∃ (f2 : Nat → Nat → Int) (a2 : Nat → Int → Int) (ni2 : Nat → Nat) (j2 : Nat → Int → Int64) (F2 : Nat → Int) (A2 : Nat → Int → Int), FRM m f a ni j f2 a2 ni2 j2 ∧ FRR F A F2 A2 ∧ ((gL_X1_run_40 n m 78 (qz e) (qz i, cs f d a ni j) = some (.inl (qz (i + 1), cs f2 d a2 ni2 j2)) ∧ gL_X11_runSteps_15 n 0 (qz k) (qz w) (qz 1, qz i, ms F A J) = some (.inl (qz 1, qz (i + 1), ms F2 A2 J)) ∧ RI m b q S K P len k N (i + 1) f2 d a2 ni2 j2 F2 A2 J) ∨ ∃ z, -10 ≤ z ∧ z < 0 ∧ gL_X1_run_40 n m 78 (qz e) (qz i, cs f d a ni j) = some (.inr (.inl (qz i, qz z, cs f2 d a2 ni2 j2))) ∧ gL_X11_runSteps_15 n 0 (qz k) (qz w) (qz 1, qz i, ms F A J) = some (.inl (qz 0, qz (i + 1), ms F2 A2 J)) ∧ F2 54 = z ∧ F2 55 = i ∧ RWm m f2 a2 ni2) := by
  have hbb : b = 1 ∨ b = 33 := hb
  have hmm : m = 83 ∨ m = 93 := hm
  have H0 := H
  obtain ⟨G, hd, h4, HP, SK, hR, MK, HD, hmk, h67, HT⟩ := H0
  have hK : K ≤ 200 := G.2.1.2.2.2.1
  have hS : S ≤ 300 := G.2.1.2.1
  have R0 := rwl_0 SK
  have M0 := rwl_0 MK
  have mkN := mkc_m (g := a 80) (i := i) (y := N) i0 (by omega)
  obtain ⟨_, hnm⟩ := HD i i0 i1
  have hndr : -1000000 ≤ a 79 i ∧ a 79 i < k := by
    rcases hnm with ⟨z1, z2, z3⟩ | ⟨mm, z1, z2, z3, z4⟩ <;> omega
  have eC : gL_X1_run_40 n m 78 (qz e) (qz i, cs f d a ni j) = (g_X1_push n m (qz (a 79 i)) (cs f d a ni j)).bind fun x1 => g_X1_run_102 n m 78 (qz e) (qz i) x1.1 x1.2 := by
    unfold gL_X1_run_40 g_X1_run_40 g_X1_run_79 g_X1_run_80
    simp only [zl0, zl2]
    rw [if_neg (by rw [qz_le (by omega) (by omega) (by omega) (by omega)]; omega), gpc_78_3, gac_79 i0 (by omega), bd_some]
    by_cases y : a 79 i < 0
    · rw [if_pos (by rw [qz_lt (by omega) (by omega) (by omega) (by omega)]; exact y), if_pos trivial]
    · have gk := G.2.2.2.1 (a 79 i) (by omega) (by omega)
      rw [if_neg (by rw [qz_lt (by omega) (by omega) (by omega) (by omega)]; exact y), gpm_2 hm, hd, gpb_6 hb, gab_8 hb (by omega) (by omega), bd_some, if_pos (by rw [qz_lt (by omega) (by omega) (by omega) (by omega)]; omega), if_pos trivial]
  have eM : gL_X11_runSteps_15 n 0 (qz k) (qz w) (qz 1, qz i, ms F A J) = if 0 ≤ a 79 i then (g_X11_pushHypothesis n 0 (qz i) (qz (a 79 i)) (ms F A J)).bind fun x10 => some (.inl (x10.1, qz (i + 1), x10.2)) else (g_X11_pushMarked n 0 (qz i) (qz (-1 - a 79 i)) (ms F A J)).bind fun x10 => some (.inl (x10.1, qz (i + 1), x10.2)) := by
    unfold gL_X11_runSteps_15 g_X11_runSteps_15 g_X11_runSteps_104
    simp only [zl0, zl1, zl2, zl1000]
    rw [gf_ms, h50, if_neg (by rw [qz_le (by omega) (by omega) (by omega) (by omega)]; omega), if_neg (by rw [qz_le (by omega) (by omega) (by omega) (by omega)]; omega), if_neg n10, gp_49, ga_34 i0 (by omega), bd_some, qz_add]
    rcases hnm with ⟨z1, z2, z3⟩ | ⟨mm, z1, z2, z3, z4⟩
    · have gk := G.2.2.2.1 (a 79 i) z1 (by omega)
      rw [z3, if_pos (by rw [qz_lt (by omega) (by omega) (by omega) (by omega)]; omega), m_at h4, bd_some, gp_10, ga_7 (by omega) (by omega), bd_some, if_neg (by rw [qz_le (by omega) (by omega) (by omega) (by omega)]; omega), if_pos z1]
    · rw [z4, if_neg (by rw [qz_lt (by omega) (by omega) (by omega) (by omega)]; omega), qz_sub, show 1000 + mm - 1000 = -1 - a 79 i by omega, if_neg (by omega)]
  by_cases cF : F 59 = 100
  · refine ⟨f, a, ni, j, u1 (u1 F 54 (-10)) 55 i, A, ⟨fun x _ => ⟨rfl, rfl, rfl, rfl⟩, rfl⟩, ⟨fun x x1 x2 _ _ => by rw [u1_o x2, u1_o x1], fun _ _ => rfl⟩, Or.inr ⟨-10, by omega, by omega, ?_, ?_, by rw [u1_o (by decide), u1_s], by rw [u1_s], SK.1, MK.1⟩⟩
    · rw [eC]
      unfold g_X1_push g_X1_push_0
      simp only [zl100, zlm10]
      rw [gpm_0 hm, gf_cs, SK.2.1, cF, if_pos rfl, bd_some]
      unfold g_X1_run_102
      rw [if_neg (by rw [zl0, qz_inj (by omega) (by omega) (by omega) (by omega)]; omega)]
    · rw [eM]
      have e1 : g_X11_pushHypothesis n 0 (qz i) (qz (a 79 i)) (ms F A J) = some (qz 0, ms (u1 (u1 F 54 (-10)) 55 i) A J) := by
        unfold g_X11_pushHypothesis g_X11_pushHypothesis_0
        simp only [zl100, zlm10]
        rw [gf_ms, cF, if_pos rfl, m_fails, bd_some, hp_bz_0, bd_some]
      have e2 : g_X11_pushMarked n 0 (qz i) (qz (-1 - a 79 i)) (ms F A J) = some (qz 0, ms (u1 (u1 F 54 (-10)) 55 i) A J) := by
        unfold g_X11_pushMarked g_X11_pushMarked_0
        simp only [zl100, zlm10]
        rw [gf_ms, cF, if_pos rfl, m_fails, bd_some, hp_bz_0, bd_some]
      rw [e1, e2, bd_some, ite_self]
  have hFr : ∀ (B B45 : Int → Int) (l : Int), FRR F A F (v2 (v2 (u1 (v2 A 38 (F 59) l) 37 B) 45 i (F 67)) 46 i 0) := fun B B45 l => ⟨fun _ _ _ _ _ => rfl, fun x hx => by rw [v2_o (by omega), v2_o (by omega), u1_o (by omega), v2_o (by omega)]⟩
  rcases hnm with ⟨z1, z2, z3⟩ | ⟨mm, z1, z2, z3, z4⟩
  · -- a hypothesis
    have hk2 : a (b + 8) (a 79 i) < 2 := by omega
    obtain ⟨f1, f2', f3, f4, f5, f6, f7, f8, f9, f10, f11⟩ := bk_f G z1 (by omega)
    have nd0 : ndf b a i = 0 := by
      unfold ndf
      rw [if_pos z1, (G.2.2.2.2.2.2.1 _ z1 (by omega)).2.2.2 hk2, Int.sub_self]
    have G38 : BK b q S K P len f a ni j (v2 A 38 (F 59) (A 12 (200 * q + a 79 i))) J := bk_eq G (fun _ _ _ => rfl) (fun _ _ _ => rfl) (fun _ _ _ => rfl) rfl (fun x x1 x2 => v2_o (by omega)) ⟨rfl, rfl⟩
    obtain ⟨B, eB, b1, b2⟩ := m_copyH (n := n) (v1' := qz i) (J := J) hn hq h4 rfl R0 (by omega) G38 z1 (by omega)
    rw [v2_o (by decide), v2_o (by decide), v2_o (by decide)] at b2
    rw [v2_o (by decide)] at b1
    generalize hA1 : v2 (v2 (u1 (v2 A 38 (F 59) (A 12 (200 * q + a 79 i))) 37 B) 45 i (F 67)) 46 i 0 = A1
    have o38 : A1 38 = v1 (A 38) (F 59) (A 12 (200 * q + a 79 i)) := by rw [← hA1, v2_o (by decide), v2_o (by decide), u1_o (by decide), v2_s]
    have o37 : A1 37 = B := by rw [← hA1, v2_o (by decide), v2_o (by decide), u1_s]
    have ox : ∀ x, x ≠ 37 → x ≠ 38 → x ≠ 45 → x ≠ 46 → A1 x = A x := fun x x1 x2 x3 x4 => by rw [← hA1, v2_o x4, v2_o x3, u1_o x1, v2_o x2]
    obtain ⟨f2, a2, ni2, eP, SK1, p1, p2, p3⟩ := c_push (n := n) (d := d) (j := j) (k := a 79 i) (l := A 12 (200 * q + a 79 i)) (g := fsy q (a 79 i) (A 11) (A 16)) (L2 := A1 38) (T2 := A1 37) hn (rwm_1 hm) (rws_b11 hb) SK G.2.2.2.2.2.2.2.2.2.2.2.2.2.1 z1 (by rw [G.2.2.2.2.2.2.2.2.2.2.2.2.2.2.2.2.2.2.2.1]; omega) (by omega) f5 (by omega) (fun x x0 x1 => by
      obtain ⟨y1, y2, _⟩ := fsy_r G z1 (by omega : a 79 i < K) x0 x1
      exact ⟨bk_fs G z1 (by omega) x0 x1, y1, y2⟩) (by omega) (by rw [ncm_1 hm]; omega) (by rw [o38, v1_s]) (fun r q0 q1 => by rw [o38, v1_o (by omega)]) (fun x x0 x1 => by rw [o37]; exact b2 x x0 x1) (fun y q0 q1 => by rw [o37]; exact b1 y q1)
    have hF1 : FRM m f a ni j f2 a2 ni2 j := ⟨fun x hx => ⟨p1 x (by omega), p2 x (by omega) (by omega), p3 x (by omega), rfl⟩, rfl⟩
    have hF2 : FRR F A F A1 := by rw [← hA1]; exact hFr B B _
    obtain ⟨f3', a3, ni3, A3, e3, e4, HR, g1, g2⟩ := ri_next (n := n) (v := qz e) (node := i) (R1 := F 59) hn hm hb H i0 i1 hN (by omega) (by omega) R0 (by omega) rfl (by omega) SK1 (rwl_c MK (p1 _ (by omega)) (p2 _ (by omega) (by omega)) (p2 _ (by omega) (by omega)) (p3 _ (by omega)) (fun _ _ _ => by rw [ox 41 (by decide) (by decide) (by decide) (by decide)]) (fun _ _ _ => by rw [ox 40 (by decide) (by decide) (by decide) (by decide)])) hF1 hF2 (ox 39 (by decide) (by decide) (by decide) (by decide)) (ox 47 (by decide) (by decide) (by decide) (by decide)) (by rw [← hA1, v2_o (by decide), v2_s, u1_o (by decide), v2_o (by decide)]) (by rw [← hA1, v2_s, v2_o (by decide), u1_o (by decide), v2_o (by decide), nd0]) (fun y _ => by rw [ox 44 (by decide) (by decide) (by decide) (by decide)]) (fun t q0 q1 => by omega) (fun _ => rfl) (fun z => by omega)
    refine ⟨f3', a3, ni3, j, _, A3, g1, g2, Or.inl ⟨?_, ?_, HR⟩⟩
    · rw [eC]
      have ep : g_X1_push n m (qz (a 79 i)) (cs f d a ni j) = some (qz 0, cs f2 d a2 ni2 j) := by
        unfold g_X1_push g_X1_push_0 g_X1_push_53
        simp only [zl0, zl100]
        rw [gpm_0 hm, gf_cs, SK.2.1, if_neg (by rw [qz_inj (by omega) (by omega) (by omega) (by omega)]; omega), if_pos (by rw [qz_le (by omega) (by omega) (by omega) (by omega)]; omega), gpm_2 hm, hd, gpb_9 hb]
        obtain ⟨Gx, Nx, ex, _⟩ := c_addFrom (f := f) (d := d) (a := a) (ni := ni) (j := j) (n := n) (k := a 79 i) (i := 0) (l := A 12 (200 * q + a 79 i)) (rwm_1 hm) (rws_b11 hb) SK.1 G.2.2.2.2.2.2.2.2.2.2.2.2.2.1 z1 (by rw [G.2.2.2.2.2.2.2.2.2.2.2.2.2.2.2.2.2.2.2.1]; omega) (by omega) (by omega) (by omega) (by
          have hu := rwl_u SK (F 59).toNat (by omega)
          rw [show (((F 59).toNat : Nat) : Int) = F 59 by omega] at hu
          rw [SK.2.2.1]
          omega) hn
        rw [ex, bd_some] at eP
        rw [ex, bd_some, gpm_0 hm, eP, bd_some]
      rw [ep, bd_some]
      exact e3
    · rw [eM, if_pos z1]
      have ep : g_X11_pushHypothesis n 0 (qz i) (qz (a 79 i)) (ms F A J) = some (qz 1, ms (u1 F 59 (F 59 + 1)) A3 J) := by
        unfold g_X11_pushHypothesis g_X11_pushHypothesis_0
        simp only [zl0, zl1, zl100]
        rw [gf_ms, if_neg (by rw [qz_inj (by omega) (by omega) (by omega) (by omega)]; omega), m_at h4, bd_some, gp_15, ga_12 (by omega) (by omega), bd_some, gp_57, ua_38 R0 (by omega), bd_some, eB, bd_some, gp_65, gf_ms, ua_45 i0 (by omega), bd_some, gp_66, ua_46 i0 (by omega), bd_some, hA1, e4, bd_some]
      rw [ep, bd_some]
  · -- a marked step
    have nd0 : ndf b a i = 0 := by
      unfold ndf
      rw [if_neg (by omega)]
    have em : -1 - a 79 i = mm := by omega
    obtain ⟨l1, l2, l3, l4⟩ := MK.2.2.2 mm z1 z2
    obtain ⟨x, x0, x1, x2, x3⟩ := mk_at (g := a 80) i.toNat mm z1 (by rw [show ((i.toNat : Nat) : Int) = i by omega]; exact z2)
    have h35 : A 35 mm = x := by
      obtain ⟨y, _⟩ := HD x x0 (by omega)
      rcases y with ⟨y1, _⟩ | ⟨y1, y2, y3⟩
      · omega
      · rw [x3] at y3; exact y3
    obtain ⟨B, eB, b1, b2⟩ := m_copyM (n := n) (v1' := qz i) (F := F) (A := v2 A 38 (F 59) (A 41 mm)) (J := J) (mm := mm) hn rfl R0 (by omega) z1 (by omega) (by rw [v2_o (by decide)]; exact ⟨l2, l3⟩)
    rw [v2_o (by decide), v2_o (by decide)] at b2
    rw [v2_o (by decide)] at b1
    generalize hA1 : v2 (v2 (u1 (v2 A 38 (F 59) (A 41 mm)) 37 B) 45 i (F 67)) 46 i 0 = A1
    have o38 : A1 38 = v1 (A 38) (F 59) (A 41 mm) := by rw [← hA1, v2_o (by decide), v2_o (by decide), u1_o (by decide), v2_s]
    have o37 : A1 37 = B := by rw [← hA1, v2_o (by decide), v2_o (by decide), u1_s]
    have ox : ∀ x, x ≠ 37 → x ≠ 38 → x ≠ 45 → x ≠ 46 → A1 x = A x := fun x x1 x2 x3 x4 => by rw [← hA1, v2_o x4, v2_o x3, u1_o x1, v2_o x2]
    obtain ⟨f2, a2, ni2, eP, SK1, p1, p2, p3⟩ := c_push (n := n) (d := d) (j := j) (k := mm) (l := A 41 mm) (g := fun x => A 40 (200 * mm + x)) (L2 := A1 38) (T2 := A1 37) hn (rwm_1 hm) (rwm_4 hm) SK MK.1 z1 (by rw [MK.2.1]; exact z2) l1 l2 l3 (fun x x0 x1 => l4 x x0 x1) (by omega) (by rw [ncm_1 hm]; omega) (by rw [o38, v1_s]) (fun r q0 q1 => by rw [o38, v1_o (by omega)]) (fun x x0 x1 => by rw [o37]; exact b2 x x0 x1) (fun y q0 q1 => by rw [o37]; exact b1 y q1)
    have hF1 : FRM m f a ni j f2 a2 ni2 j := ⟨fun x hx => ⟨p1 x (by omega), p2 x (by omega) (by omega), p3 x (by omega), rfl⟩, rfl⟩
    have hF2 : FRR F A F A1 := by rw [← hA1]; exact hFr B B _
    obtain ⟨f3', a3, ni3, A3, e3, e4, HR, g1, g2⟩ := ri_next (n := n) (v := qz e) (node := A 47 (A 35 mm)) (R1 := F 59) hn hm hb H i0 i1 hN (by omega) (by omega) R0 (by omega) rfl (by omega) SK1 (rwl_c MK (p1 _ (by omega)) (p2 _ (by omega) (by omega)) (p2 _ (by omega) (by omega)) (p3 _ (by omega)) (fun _ _ _ => by rw [ox 41 (by decide) (by decide) (by decide) (by decide)]) (fun _ _ _ => by rw [ox 40 (by decide) (by decide) (by decide) (by decide)])) hF1 hF2 (ox 39 (by decide) (by decide) (by decide) (by decide)) (ox 47 (by decide) (by decide) (by decide) (by decide)) (by rw [← hA1, v2_o (by decide), v2_s, u1_o (by decide), v2_o (by decide)]) (by rw [← hA1, v2_s, v2_o (by decide), u1_o (by decide), v2_o (by decide), nd0]) (fun y _ => by rw [ox 44 (by decide) (by decide) (by decide) (by decide)]) (fun t q0 q1 => by omega) (fun z => by omega) (fun _ => by rw [em, h35]; exact ⟨x0, by omega, rfl⟩)
    refine ⟨f3', a3, ni3, j, _, A3, g1, g2, Or.inl ⟨?_, ?_, HR⟩⟩
    · rw [eC]
      have ep : g_X1_push n m (qz (a 79 i)) (cs f d a ni j) = some (qz 0, cs f2 d a2 ni2 j) := by
        unfold g_X1_push g_X1_push_0 g_X1_push_34 g_X1_push_53
        simp only [zl0, zl100, zlm1]
        rw [gpm_0 hm, gf_cs, SK.2.1, if_neg (by rw [qz_inj (by omega) (by omega) (by omega) (by omega)]; omega), if_neg (by rw [qz_le (by omega) (by omega) (by omega) (by omega)]; omega), gpm_1 hm, qz_sub, em]
        obtain ⟨Gx, Nx, ex, _⟩ := c_addFrom (f := f) (d := d) (a := a) (ni := ni) (j := j) (n := n) (k := mm) (i := 0) (l := A 41 mm) (rwm_1 hm) (rwm_4 hm) SK.1 MK.1 z1 (by rw [MK.2.1]; exact z2) (by omega) (by omega) (by omega) (by
          have hu := rwl_u SK (F 59).toNat (by omega)
          rw [show (((F 59).toNat : Nat) : Int) = F 59 by omega] at hu
          rw [SK.2.2.1]
          omega) hn
        rw [ex, bd_some] at eP
        rw [ex, bd_some, gpm_0 hm, eP, bd_some]
      rw [ep, bd_some]
      exact e3
    · rw [eM, if_neg (by omega), em]
      have ep : g_X11_pushMarked n 0 (qz i) (qz mm) (ms F A J) = some (qz 1, ms (u1 F 59 (F 59 + 1)) A3 J) := by
        unfold g_X11_pushMarked g_X11_pushMarked_0
        simp only [zl0, zl1, zl100]
        rw [gf_ms, if_neg (by rw [qz_inj (by omega) (by omega) (by omega) (by omega)]; omega), gp_61, ga_41 z1 (by omega), bd_some, gp_57, ua_38 R0 (by omega), bd_some, eB, bd_some, gp_65, gf_ms, ua_45 i0 (by omega), bd_some, gp_66, ua_46 i0 (by omega), bd_some, hA1, gp_51, ga_35 z1 (by omega), ox 35 (by decide) (by decide) (by decide) (by decide), bd_some, h35, gp_68, ga_47 x0 (by omega), ox 47 (by decide) (by decide) (by decide) (by decide), bd_some, ← h35, e4, bd_some]
      rw [ep, bd_some]
end STP
