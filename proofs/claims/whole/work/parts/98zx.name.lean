/-! name -/
section NME
variable {b n : Nat} {q S K P len k x y i s l : Int} {f : Nat → Nat → Int} {d : Nat → Nat} {a : Nat → Int → Int} {ni : Nat → Nat} {j : Nat → Int → Int64} {F : Nat → Int} {A : Nat → Int → Int} {J : Nat → Int → Int64}
theorem bk_n (G : BK b q S K P len f a ni j A J) (hx : liv S K x) : 0 ≤ x ∧ x < 500 ∧ 0 ≤ a (b + 5) x ∧ 1 ≤ a (b + 6) x ∧ a (b + 5) x + a (b + 6) x ≤ len ∧ len ≤ 8192 := by
  obtain ⟨⟨b1, b2', b3, b4, b5, b6, b7, b8, b9⟩, gn, _⟩ := G
  have h1 := gn.2.2.2.2.1.2.2 x hx
  have h2 := gn.2.2.2.2.2.1 x hx
  omega
theorem m_nm (hq : 0 ≤ q ∧ q ≤ 1) (h4 : F 4 = q) (s0 : 0 ≤ s) (l0 : 0 ≤ l) (sl : s + l ≤ 8192) (i0 : -2147483648 ≤ i) (i1 : i < 2147483648) : g_X11_name_119 n 0 (qz i) (qz l) (qz s) (ms F A J) = some (qz (if 0 ≤ i ∧ i < l then A 2 (8192 * q + s + i) else -1)) := by
  unfold g_X11_name_119 g_X11_name_131
  simp only [zl0, zl8192, zlm1, qz_neg]
  by_cases c0 : i < 0
  · rw [if_pos (by rw [qz_lt (by omega) (by omega) (by omega) (by omega)]; exact c0), if_neg (by omega)]
  rw [if_neg (by rw [qz_lt (by omega) (by omega) (by omega) (by omega)]; exact c0)]
  by_cases c1 : i < l
  · rw [if_pos (by rw [qz_lt (by omega) (by omega) (by omega) (by omega)]; exact c1), if_pos ⟨by omega, c1⟩, gf_ms, h4, qz_mul, qz_add, qz_add, gp_5, ga_2 (by omega) (by omega), bd_some]
  · rw [if_neg (by rw [qz_lt (by omega) (by omega) (by omega) (by omega)]; exact c1), if_neg (fun y => c1 y.2)]
theorem c_nm (hb : bks b) (G : BK b q S K P len f a ni j A J) (hR : Rbk b q len a A) (hx : liv S K x) (i0 : -2147483648 ≤ i) (i1 : i < 2147483648) : g_X2_byteOf n (b + 1) (qz x) (qz i) (cs f d a ni j) = some (qz (if 0 ≤ i ∧ i < a (b + 6) x then A 2 (8192 * q + a (b + 5) x + i) else -1)) := by
  obtain ⟨h1, h2, h3, h4, h5, h6⟩ := bk_n G hx
  by_cases c : 0 ≤ i ∧ i < a (b + 6) x
  · rw [c_byteOf hb h1 h2 h3 (by omega) (by omega) c.1 c.2, if_pos c, (hR (a (b + 5) x + i) (by omega) (by omega)).1, show 8192 * q + (a (b + 5) x + i) = 8192 * q + a (b + 5) x + i by omega]
  · rw [c_byteOf0 hb h1 h2 (by omega) (by omega) i0 i1 (by omega), if_neg c]
end NME
theorem ok_name : Ok_name Rel := by
  rintro n hn sC sM R a0 a1 a2
  have R' := R
  obtain ⟨q, b, b2, S, K, P, len, dl, f, d, a, ni, j, F, A, J, rfl, rfl, r1, r2, r3, r4, r5, r6, r7, r8, r9, r10, r11, r12, r13, r14⟩ := R'
  obtain ⟨w, w1, w2, rfl⟩ := qz_of a0
  obtain ⟨k, k1, k2, rfl⟩ := qz_of a1
  obtain ⟨i, i1, i2, rfl⟩ := qz_of a2
  have hq := bq_q r1
  have hb := bq_b r1
  have G := r7
  obtain ⟨⟨b1, b2', b3, b4, b5, b6, b7, b8, b9⟩, gn, glb, gk, gf, gt, ghy, gma, gun, gpo, gpr, gfm, gax, grw⟩ := r7
  have hK0 : 0 ≤ K := gn.2.2.1
  have hK1 : K ≤ 200 := gn.2.2.2.1
  have hS0 : 0 ≤ S := gn.1
  have hS1 : S ≤ 300 := gn.2.1
  have eC := c_isSt (n := n) (d := d) (j := j) (ni := ni) (f := f) (a := a) (b := b) k1 k2 (by omega) (by omega)
  by_cases cA : w = 0 ∧ 0 ≤ k ∧ k < S
  · obtain ⟨cw, c0, c1⟩ := cA
    have hl : liv S K k := Or.inl ⟨c0, c1⟩
    obtain ⟨h1, h2, h3, h4, h5, h6⟩ := bk_n G hl
    obtain ⟨g1, g2, g3, g4⟩ := gn.2.2.2.2.2.2.2.1 k c0 c1
    refine ⟨qz (if 0 ≤ i ∧ i < a (b + 6) k then A 2 (8192 * q + a (b + 5) k + i) else -1), ?_, ?_, R⟩
    · unfold g_X10_name g_X10_name_0
      simp only [zl0]
      rw [cw, if_pos rfl, if_neg (by rw [qz_lt (by omega) (by omega) (by omega) (by omega)]; omega), gpc_0_0, r4, gf_cs, b1, if_neg (by rw [qz_le (by omega) (by omega) (by omega) (by omega)]; omega), gpb_0 hb, c_nm hb G r8 hl i1 i2, bd_some]
    · unfold g_X11_name g_X11_name_0 g_X11_name_39 g_X11_name_44 g_X11_name_85
      simp only [zl0, zl1, zl300]
      rw [cw, if_neg (by rw [qz_lt (by omega) (by omega) (by omega) (by omega)]; omega), if_pos rfl, gp_9, gf_ms, r3, ga_6 (by omega) (by omega), bd_some, b2', if_pos (by rw [qz_lt (by omega) (by omega) (by omega) (by omega)]; omega), if_neg n10, if_pos rfl, gp_7, qz_mul, qz_add, ga_4 (by omega) (by omega), bd_some, if_pos rfl, gp_6, ga_3 (by omega) (by omega), bd_some, ← g1, ← g2, m_nm hq r3 (by omega) (by omega) (by omega) i1 i2]
  by_cases cB : w = 1 ∧ 0 ≤ k ∧ k < K
  · obtain ⟨cw, c0, c1⟩ := cB
    have hl : liv S K (300 + k) := Or.inr ⟨by omega, by omega⟩
    obtain ⟨h1, h2, h3, h4, h5, h6⟩ := bk_n G hl
    obtain ⟨g1, g2⟩ := gn.2.2.2.2.2.2.2.2 k c0 c1
    refine ⟨qz (if 0 ≤ i ∧ i < a (b + 6) (300 + k) then A 2 (8192 * q + a (b + 5) (300 + k) + i) else -1), ?_, ?_, R⟩
    · unfold g_X10_name g_X10_name_0 g_X10_name_32
      simp only [zl0, zl1, zl300]
      rw [cw, if_neg n10, if_pos rfl, gpc_0_0, r4, eC, bd_some, b3, qp_T ⟨c0, c1⟩, if_neg n10, gpb_0 hb, qz_add, c_nm hb G r8 hl i1 i2, bd_some]
    · unfold g_X11_name g_X11_name_0 g_X11_name_21 g_X11_name_39 g_X11_name_44 g_X11_name_85
      simp only [zl0, zl1, zl300]
      rw [cw, if_neg (by rw [qz_lt (by omega) (by omega) (by omega) (by omega)]; omega), if_neg n10, if_pos rfl, gp_18, gf_ms, r3, ga_15 (by omega) (by omega), bd_some, b4, if_neg (by rw [qz_le (by omega) (by omega) (by omega) (by omega)]; omega), if_neg n10, if_neg n10, m_at r3, bd_some, gp_12, ga_9 (by omega) (by omega), bd_some, if_neg n10, bd_some, gp_11, ga_8 (by omega) (by omega), bd_some, ← g1, ← g2, m_nm hq r3 (by omega) (by omega) (by omega) i1 i2]
  refine ⟨qz (-1), ?_, ?_, R⟩
  · have e32 : g_X10_name_32 n 0 (qz w) (qz k) (qz i) (cs f d a ni j) = some (qz (-1)) := by
      unfold g_X10_name_32
      simp only [zl0, zl1, zl300, zlm1, qz_neg]
      rw [gpc_0_0, r4, eC, b3]
      by_cases cv : w = 1
      · rw [if_pos (by rw [cv]), bd_some, qp_F (fun y => cB ⟨cv, y⟩), if_pos rfl]
      · rw [if_neg (by rw [qz_inj (by omega) (by omega) (by omega) (by omega)]; exact cv)]
    unfold g_X10_name g_X10_name_0
    simp only [zl0]
    rw [e32, gpc_0_0, r4, gf_cs, b1]
    by_cases cw : w = 0
    · rw [if_pos (by rw [cw])]
      by_cases c0 : k < 0
      · rw [if_pos (by rw [qz_lt (by omega) (by omega) (by omega) (by omega)]; exact c0)]
      · rw [if_neg (by rw [qz_lt (by omega) (by omega) (by omega) (by omega)]; exact c0), if_pos (by rw [qz_le (by omega) (by omega) (by omega) (by omega)]; omega)]
    · rw [if_neg (by rw [qz_inj (by omega) (by omega) (by omega) (by omega)]; exact cw)]
  · have e43 : g_X11_name_43 n 0 (qz w) (qz k) (qz i) (ms F A J) = some (qz (-1)) := by
      unfold g_X11_name_43 g_X11_name_44
      simp only [zl0, zlm1, qz_neg]
      rw [if_pos trivial]
    have e21 : (w = 1 → ¬(0 ≤ k ∧ k < K)) → 0 ≤ k → g_X11_name_21 n 0 (qz w) (qz k) (qz i) (ms F A J) = some (qz (-1)) := by
      intro h h0
      unfold g_X11_name_21
      simp only [zl1]
      rw [e43]
      by_cases cv : w = 1
      · rw [if_pos (by rw [cv]), gp_18, gf_ms, r3, ga_15 (by omega) (by omega), bd_some, b4, if_pos (by rw [qz_le (by omega) (by omega) (by omega) (by omega)]; have := h cv; omega)]
      · rw [if_neg (by rw [qz_inj (by omega) (by omega) (by omega) (by omega)]; exact cv)]
    unfold g_X11_name g_X11_name_0
    simp only [zl0]
    rw [e43]
    by_cases c0 : k < 0
    · rw [if_pos (by rw [qz_lt (by omega) (by omega) (by omega) (by omega)]; exact c0)]
    rw [if_neg (by rw [qz_lt (by omega) (by omega) (by omega) (by omega)]; exact c0), e21 (fun z y => cB ⟨z, y⟩) (by omega)]
    by_cases cw : w = 0
    · rw [if_pos (by rw [cw]), gp_9, gf_ms, r3, ga_6 (by omega) (by omega), bd_some, b2', if_neg (by rw [qz_lt (by omega) (by omega) (by omega) (by omega)]; omega)]
    · rw [if_neg (by rw [qz_inj (by omega) (by omega) (by omega) (by omega)]; exact cw)]
