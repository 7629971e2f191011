/-! frame, statement, symbol, name -/
theorem zlm1 : (-1 : Int32) = qz (-1) := id rfl
theorem zlm2 : (-2 : Int32) = qz (-2) := id rfl
theorem zl3 : (3 : Int32) = qz 3 := id rfl
theorem zl5 : (5 : Int32) = qz 5 := id rfl
section FRM
variable {b n v : Nat} {q S K P len k x y i w : Int} {f : Nat → Nat → Int} {d : Nat → Nat} {a : Nat → Int → Int} {ni : Nat → Nat} {j : Nat → Int → Int64} {F : Nat → Int} {A : Nat → Int → Int} {J : Nat → Int → Int64} {M : Int}
theorem c_frame (hv : rws v) (H : Rw (f v 3) (f v 2) (ni (v + 1)) (nC0 (v + 2)) M (a (v + 2))) (h0 : 0 ≤ k) (h1 : k < f v 3) (i0 : -2147483648 ≤ i) (i1 : i < 2147483648) (w0 : 0 ≤ w) (w1 : w ≤ 2) (hit : 0 < w → ∀ i, 0 ≤ i → i < a (v + 2) (k + 1) - a (v + 2) k → 0 ≤ a (v + 1) (a (v + 2) k + i) ∧ a (v + 1) (a (v + 2) k + i) < 90000) : g_X10_frame_43 n (qz k) (qz w) (qz i) v (cs f d a ni j) = some (qz (if 0 ≤ i ∧ i < a (v + 2) (k + 1) - a (v + 2) k then (if w = 0 then a (v + 1) (a (v + 2) k + i) else if w = 1 then a (v + 1) (a (v + 2) k + i) / 300 else a (v + 1) (a (v + 2) k + i) - a (v + 1) (a (v + 2) k + i) / 300 * 300) else -2)) := by
  have hm := rw_mono H
  have hk := mono_k hm h0 h1
  have hM : a (v + 2) (f v 3) ≤ 65536 := by
    obtain ⟨h1, h2, h3, h4, h5, h6, h7, h8, h9, h10, h11, h12⟩ := H
    omega
  unfold g_X10_frame_43
  simp only [zl0, zl1, zl300, zlm2, qz_neg]
  by_cases c0 : i < 0
  · rw [if_pos (by rw [qz_lt (by omega) (by omega) (by omega) (by omega)]; exact c0), if_neg (by omega)]
  rw [if_neg (by rw [qz_lt (by omega) (by omega) (by omega) (by omega)]; exact c0), c_size hv H h0 h1, bd_some]
  by_cases c1 : i < a (v + 2) (k + 1) - a (v + 2) k
  · rw [if_pos (by rw [qz_lt (by omega) (by omega) (by omega) (by omega)]; exact c1), c_get hv H h0 h1 (by omega) c1, bd_some, if_pos (show 0 ≤ i ∧ i < a (v + 2) (k + 1) - a (v + 2) k from ⟨by omega, c1⟩)]
    by_cases c2 : w = 0
    · rw [if_pos (by rw [c2]), if_pos c2]
    have hi := hit (by omega) i (by omega) c1
    rw [if_neg (by rw [qz_inj (by omega) (by omega) (by omega) (by omega)]; exact c2), if_neg c2, qz_div hi.1 (by omega) (by omega) (by omega)]
    by_cases c3 : w = 1
    · rw [if_pos (by rw [c3]), if_pos c3]
    · rw [if_neg (by rw [qz_inj (by omega) (by omega) (by omega) (by omega)]; exact c3), if_neg c3, qz_mul, qz_sub]
  · rw [if_neg (by rw [qz_lt (by omega) (by omega) (by omega) (by omega)]; exact c1), if_neg (fun y => c1 y.2)]
end FRM
theorem ok_frame : Ok_frame Rel := by
  rintro n hn sC sM R a0 a1 a2
  have R' := R
  obtain ⟨q, b, b2, S, K, P, len, dl, f, d, a, ni, j, F, A, J, rfl, rfl, r1, r2, r3, r4, r5, r6, r7, r8, r9, r10, r11, r12, r13, r14⟩ := R'
  obtain ⟨k, k1, k2, rfl⟩ := qz_of a0
  obtain ⟨w, w1, w2, rfl⟩ := qz_of a1
  obtain ⟨i, i1, i2, rfl⟩ := qz_of a2
  have hq := bq_q r1
  have hb := bq_b r1
  have G := r7
  obtain ⟨⟨b1, b2', b3, b4, b5, b6, b7, b8, b9⟩, gn, glb, gk, gf, gt, ghy, gma, gun, gpo, gpr, gfm, gax, grw⟩ := r7
  have hK0 : 0 ≤ K := gn.2.2.1
  have hK1 : K ≤ 200 := gn.2.2.2.1
  have eC := c_isAs (n := n) (d := d) (j := j) (ni := ni) (f := f) (a := a) hb k1 k2 (by omega) (by omega) (fun k x1 x2 => by have := gk k x1 (by omega); omega)
  have eM := m_isKind (n := n) (F := F) (A := A) (J := J) (l := 2) r3 hq b4 hK0 hK1 k1 k2 (fun k x1 x2 => by have := gk k x1 (by omega); omega) (by omega) (by omega)
  by_cases c : 0 ≤ k ∧ k < K ∧ 2 ≤ a (b + 8) k
  rotate_left
  · refine ⟨qz (-1), ?_, ?_, R⟩
    · unfold g_X10_frame g_X10_frame_0
      rw [gpc_0_0, r4, eC, bd_some, b3, qp_F c, if_pos (by decide)]
      rfl
    · unfold g_X11_frame g_X11_frame_0
      rw [zl2, eM, bd_some, qp_F (fun z => c ⟨z.1, z.2.1, by have := gk k z.1 z.2.1; omega⟩), if_pos (by decide)]
      rfl
  obtain ⟨c0, c1, c2⟩ := c
  have gk' := gk k c0 c1
  have XC : g_X10_frame n 0 (qz k) (qz w) (qz i) (cs f d a ni j) = if w < 0 then some (qz (-1)) else if w ≤ 2 then (if w = 0 then g_X10_frame_43 n (qz k) (qz w) (qz i) (b + 20) (cs f d a ni j) else g_X10_frame_43 n (qz k) (qz w) (qz i) (b + 23) (cs f d a ni j)) else some (qz (-1)) := by
    unfold g_X10_frame g_X10_frame_0
    rw [gpc_0_0, r4, eC, bd_some, b3, qp_T ⟨c0, c1, c2⟩, if_neg (by decide), gpb_12 hb, gpb_13 hb]
    simp only [zl0, zl2, zlm1, qz_neg]
    simp (disch := omega) only [qz_lt, qz_le, qz_inj]
  have XM : g_X11_frame n 0 (qz k) (qz w) (qz i) (ms F A J) = if w < 0 then some (qz (-1)) else if w ≤ 2 then (if 0 ≤ i then (if w = 0 then (g_X11_hypothesis n 0 (qz k) (qz i) (ms F A J)).bind fun x5 => some x5 else (g_X11_framePair n 0 (qz k) (qz i) (ms F A J)).bind fun x2 => if x2 = qz (-2) then some (qz (-2)) else if w = 1 then some (x2 / qz 1000) else some (x2 - x2 / qz 1000 * qz 1000)) else some (qz (-2))) else some (qz (-1)) := by
    unfold g_X11_frame g_X11_frame_0
    rw [zl2, eM, bd_some, qp_T ⟨c0, c1, by omega⟩, if_neg (by decide)]
    simp only [zl0, zl1, zlm1, zlm2, zl1000, qz_neg]
    simp (disch := omega) only [qz_lt, qz_le, qz_inj]
  by_cases w0 : w < 0
  · exact ⟨_, by rw [XC, if_pos w0], by rw [XM, if_pos w0], R⟩
  rw [if_neg w0] at XC XM
  by_cases w3 : w ≤ 2
  rotate_left
  · exact ⟨_, by rw [XC, if_neg w3], by rw [XM, if_neg w3], R⟩
  rw [if_pos w3] at XC XM
  by_cases wz : w = 0
  · rw [if_pos wz, c_frame (rws_b20 hb) grw.2.2.2.1 c0 (by rw [grw.2.2.2.2.2.2.2.2.2.1]; exact c1) i1 i2 (by omega) w3 (by omega), if_pos wz] at XC
    refine ⟨_, XC, ?_, R⟩
    rw [XM]
    by_cases ci : 0 ≤ i
    · rw [if_pos ci, if_pos wz, m_hyp hn G r1 r3 c0 c1 ci i2, bd_some]
      by_cases cj : i < a (b + 20 + 2) (k + 1) - a (b + 20 + 2) k
      · rw [if_pos cj, if_pos ⟨ci, cj⟩]
      · rw [if_neg cj, if_neg (fun y => cj y.2)]
    · rw [if_neg ci, if_neg (fun y => ci y.1)]
  · obtain ⟨d1, d2, d3, d4, d5, d6⟩ := bk_d G c0 c1
    have d5 := d5 c2
    have hS : S ≤ 300 := gn.2.1
    have hit : ∀ i, 0 ≤ i → i < a (b + 23 + 2) (k + 1) - a (b + 23 + 2) k → 0 ≤ a (b + 23 + 1) (a (b + 23 + 2) k + i) ∧ a (b + 23 + 1) (a (b + 23 + 2) k + i) < 90000 := by
      intro i x1 x2
      obtain ⟨x', y', z1, z2, z3, z4, _⟩ := (d5 (a (b + 23 + 1) (a (b + 23 + 2) k + i))).mp ⟨a (b + 23 + 2) k + i, by omega, by omega, rfl⟩
      omega
    rw [if_neg wz, c_frame (rws_b23 hb) grw.2.2.2.2.1 c0 (by rw [grw.2.2.2.2.2.2.2.2.2.2.1]; exact c1) i1 i2 (by omega) w3 (fun _ => hit), if_neg wz] at XC
    refine ⟨_, XC, ?_, R⟩
    rw [XM]
    by_cases ci : 0 ≤ i
    · rw [if_pos ci, if_neg wz, m_fpair hn G r1 r3 c0 c1 c2 (by omega) i2, bd_some, if_neg (by omega : ¬i = -1)]
      by_cases cj : i < a (b + 23 + 2) (k + 1) - a (b + 23 + 2) k
      · have hi := hit i ci cj
        generalize hz : a (b + 23 + 1) (a (b + 23 + 2) k + i) = z at hi ⊢
        have hcj : 0 ≤ i ∧ i < a (b + 23 + 2) (k + 1) - a (b + 23 + 2) k := ⟨ci, cj⟩
        rw [if_pos cj, if_pos hcj, if_neg (by rw [qz_inj (by omega) (by omega) (by omega) (by omega)]; omega), qz_div (by omega) (by omega) (by omega) (by omega), show (1000 * (z / 300) + (z - z / 300 * 300)) / 1000 = z / 300 by omega, qz_mul, qz_sub]
        by_cases cw : w = 1
        · rw [if_pos cw, if_pos cw]
        · rw [if_neg cw, if_neg cw, show 1000 * (z / 300) + (z - z / 300 * 300) - z / 300 * 1000 = z - z / 300 * 300 by omega]
      · have hcj : ¬(0 ≤ i ∧ i < a (b + 23 + 2) (k + 1) - a (b + 23 + 2) k) := fun y => cj y.2
        rw [if_neg cj, if_neg hcj, if_pos rfl]
    · rw [if_neg ci, if_neg (fun y => ci y.1)]
theorem ok_statement : Ok_statement Rel := by
  rintro n hn sC sM R a0 a1
  have R' := R
  obtain ⟨q, b, b2, S, K, P, len, dl, f, d, a, ni, j, F, A, J, rfl, rfl, r1, r2, r3, r4, r5, r6, r7, r8, r9, r10, r11, r12, r13, r14⟩ := R'
  obtain ⟨k, k1, k2, rfl⟩ := qz_of a0
  obtain ⟨w, w1, w2, rfl⟩ := qz_of a1
  have hq := bq_q r1
  have hb := bq_b r1
  have G := r7
  obtain ⟨⟨b1, b2', b3, b4, b5, b6, b7, b8, b9⟩, gn, glb, gk, gf, gt, ghy, gma, gun, gpo, gpr, gfm, gax, grw⟩ := r7
  have hK0 : 0 ≤ K := gn.2.2.1
  have hK1 : K ≤ 200 := gn.2.2.2.1
  have eC := c_isSt (n := n) (d := d) (j := j) (ni := ni) (f := f) (a := a) (b := b) k1 k2 (by omega) (by omega)
  have eM := m_isSt (n := n) (F := F) (A := A) (J := J) r3 hq b4 hK0 hK1 k1 k2
  by_cases c : 0 ≤ k ∧ k < K
  rotate_left
  · refine ⟨qz (-1), ?_, ?_, R⟩
    · unfold g_X10_statement g_X10_statement_0
      rw [gpc_0_0, r4, eC, bd_some, b3, qp_F c, if_pos (by decide)]
      rfl
    · unfold g_X11_statement g_X11_statement_0
      rw [eM, bd_some, qp_F c, if_pos (by decide)]
      rfl
  obtain ⟨c0, c1⟩ := c
  have gk' := gk k c0 c1
  have gf' := gf k c0 c1
  have gt' := gt k c0 c1
  obtain ⟨d1, d2, d3, d4, d5, d6⟩ := bk_d G c0 c1
  obtain ⟨z1, z2, z3, z4, z5, z6, z7, z8, z9, z10, z11, z12⟩ := grw
  have XC : g_X10_statement n 0 (qz k) (qz w) (cs f d a ni j) = if w = 0 then some (qz (a (b + 8) k)) else if w = 1 then some (qz (a (b + 11 + 2) (k + 1) - a (b + 11 + 2) k)) else if w = 2 then some (qz (a (b + 9) k)) else if w = 3 then some (qz (a (b + 20 + 2) (k + 1) - a (b + 20 + 2) k)) else if w = 4 then some (qz (a (b + 23 + 2) (k + 1) - a (b + 23 + 2) k)) else if w = 5 then some (qz (a (b + 14 + 2) (k + 1) - a (b + 14 + 2) k)) else some (qz (-1)) := by
    unfold g_X10_statement g_X10_statement_0
    rw [gpc_0_0, r4, eC, bd_some, b3, qp_T ⟨c0, c1⟩, if_neg (by decide), gpb_6 hb, gpb_7 hb, gpb_9 hb, gpb_10 hb, gpb_12 hb, gpb_13 hb, gab_8 hb c0 (by omega), gab_9 hb c0 (by omega), c_size (rws_b11 hb) z1 c0 (by omega), c_size (rws_b14 hb) z2 c0 (by omega), c_size (rws_b20 hb) z4 c0 (by omega), c_size (rws_b23 hb) z5 c0 (by omega)]
    simp only [zl0, zl1, zl2, zl3, zl4, zl5, zlm1, bd_some, qz_neg]
    simp (disch := omega) only [qz_lt, qz_le, qz_inj]
  have e4 : (if 2 ≤ qz (A 7 (200 * q + k)) then (g_X11_framePair n 0 (qz k) (qz (-1)) (ms F A J)).bind fun x20 => some x20 else some (qz 0)) = some (qz (a (b + 23 + 2) (k + 1) - a (b + 23 + 2) k)) := by
    by_cases y : 2 ≤ A 7 (200 * q + k)
    · rw [if_pos (by rw [zl2, qz_le (by omega) (by omega) (by omega) (by omega)]; exact y), m_fpair hn G r1 r3 c0 c1 (by omega) (by omega) (by omega), bd_some, if_pos rfl]
    · rw [if_neg (by rw [zl2, qz_le (by omega) (by omega) (by omega) (by omega)]; exact y), d6 (by omega), Int.sub_self]
  have XM : g_X11_statement n 0 (qz k) (qz w) (ms F A J) = if w = 0 then some (qz (a (b + 8) k)) else if w = 1 then some (qz (a (b + 11 + 2) (k + 1) - a (b + 11 + 2) k)) else if w = 2 then some (qz (a (b + 9) k)) else if w = 3 then some (qz (a (b + 20 + 2) (k + 1) - a (b + 20 + 2) k)) else if w = 4 then some (qz (a (b + 23 + 2) (k + 1) - a (b + 23 + 2) k)) else if w = 5 then some (qz (a (b + 14 + 2) (k + 1) - a (b + 14 + 2) k)) else some (qz (-1)) := by
    unfold g_X11_statement g_X11_statement_0
    rw [eM, bd_some, qp_T ⟨c0, c1⟩, if_neg (by decide), m_at r3]
    simp only [bd_some]
    rw [gp_10, gp_15, gp_13, gp_17, ga_7 (by omega) (by omega), ga_12 (by omega) (by omega), ga_10 (by omega) (by omega), ga_14 (by omega) (by omega), m_hyps hn G r1 r3 c0 c1]
    simp only [bd_some]
    rw [zlm1, zl0, e4]
    simp only [zl1, zl2, zl3, zl4, zl5]
    rw [show a (b + 11 + 2) (k + 1) - a (b + 11 + 2) k = A 12 (200 * q + k) by omega, show a (b + 14 + 2) (k + 1) - a (b + 14 + 2) k = A 14 (200 * q + k) by omega, gk'.1, gk'.2.2.2.1]
    simp (disch := omega) only [qz_lt, qz_le, qz_inj]
  refine ⟨(if w = 0 then qz (a (b + 8) k) else if w = 1 then qz (a (b + 11 + 2) (k + 1) - a (b + 11 + 2) k) else if w = 2 then qz (a (b + 9) k) else if w = 3 then qz (a (b + 20 + 2) (k + 1) - a (b + 20 + 2) k) else if w = 4 then qz (a (b + 23 + 2) (k + 1) - a (b + 23 + 2) k) else if w = 5 then qz (a (b + 14 + 2) (k + 1) - a (b + 14 + 2) k) else qz (-1)), ?_, ?_, R⟩
  · rw [XC]
    simp only [apply_ite some]
  · rw [XM]
    simp only [apply_ite some]
theorem ok_symbol : Ok_symbol Rel := by
  rintro n hn sC sM R a0 a1
  have R' := R
  obtain ⟨q, b, b2, S, K, P, len, dl, f, d, a, ni, j, F, A, J, rfl, rfl, r1, r2, r3, r4, r5, r6, r7, r8, r9, r10, r11, r12, r13, r14⟩ := R'
  obtain ⟨k, k1, k2, rfl⟩ := qz_of a0
  obtain ⟨i, i1, i2, rfl⟩ := qz_of a1
  have hq := bq_q r1
  have hb := bq_b r1
  have G := r7
  obtain ⟨⟨b1, b2', b3, b4, b5, b6, b7, b8, b9⟩, gn, glb, gk, gf, gt, ghy, gma, gun, gpo, gpr, gfm, gax, grw⟩ := r7
  have hK0 : 0 ≤ K := gn.2.2.1
  have hK1 : K ≤ 200 := gn.2.2.2.1
  have eC := c_isSt (n := n) (d := d) (j := j) (ni := ni) (f := f) (a := a) (b := b) k1 k2 (by omega) (by omega)
  have eM := m_isSt (n := n) (F := F) (A := A) (J := J) r3 hq b4 hK0 hK1 k1 k2
  by_cases c : 0 ≤ k ∧ k < K
  rotate_left
  · refine ⟨qz (-1), ?_, ?_, R⟩
    · unfold g_X10_symbol g_X10_symbol_0
      rw [gpc_0_0, r4, eC, bd_some, b3, qp_F c, if_pos (by decide)]
      rfl
    · unfold g_X11_symbol g_X11_symbol_0
      rw [eM, bd_some, qp_F c, if_pos (by decide)]
      rfl
  obtain ⟨c0, c1⟩ := c
  obtain ⟨f1, f2, f3, f4, f5, f6, f7, f8, f9, f10, f11⟩ := bk_f G c0 c1
  obtain ⟨z1, z2, z3, z4, z5, z6, z7, z8, z9, z10, z11, z12⟩ := grw
  have XC : g_X10_symbol n 0 (qz k) (qz i) (cs f d a ni j) = g_X5_get n (b + 11) (qz k) (qz i) (cs f d a ni j) := by
    unfold g_X10_symbol g_X10_symbol_0
    rw [gpc_0_0, r4, eC, bd_some, b3, qp_T ⟨c0, c1⟩, if_neg (by decide), gpb_9 hb]
    cases g_X5_get n (b + 11) (qz k) (qz i) (cs f d a ni j) <;> rfl
  by_cases ci : 0 ≤ i ∧ i < A 12 (200 * q + k)
  · refine ⟨_, XC.trans (c_get (rws_b11 hb) z1 c0 (by omega) ci.1 (by omega)), ?_, R⟩
    unfold g_X11_symbol g_X11_symbol_0
    rw [eM, bd_some, qp_T ⟨c0, c1⟩, if_neg (by decide), if_neg (by rw [zl0, qz_lt (by omega) (by omega) (by omega) (by omega)]; omega), m_at r3, bd_some, gp_15, ga_12 (by omega) (by omega), bd_some, if_pos (by rw [qz_lt (by omega) (by omega) (by omega) (by omega)]; exact ci.2), bd_some, gp_14, ga_11 (by omega) (by omega), bd_some, gf_ms, r3, zl4096, qz_mul, qz_add, qz_add, gp_19, ga_16 (by omega) (by omega), bd_some, (f7 i ci.1 ci.2).1]
  · refine ⟨_, XC.trans (c_get0 (rws_b11 hb) z1 k1 k2 i1 i2 (by omega)), ?_, R⟩
    unfold g_X11_symbol g_X11_symbol_0
    rw [eM, bd_some, qp_T ⟨c0, c1⟩, if_neg (by decide), m_at r3]
    by_cases cj : i < 0
    · rw [if_pos (by rw [zl0, qz_lt (by omega) (by omega) (by omega) (by omega)]; omega)]
      rfl
    · rw [if_neg (by rw [zl0, qz_lt (by omega) (by omega) (by omega) (by omega)]; omega), bd_some, gp_15, ga_12 (by omega) (by omega), bd_some, if_neg (by rw [qz_lt (by omega) (by omega) (by omega) (by omega)]; omega)]
      rfl
