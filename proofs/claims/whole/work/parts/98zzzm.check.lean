/-! check: the class as the reference -/
section CHK
variable {n b b2 : Nat} {q S K P len dl p : Int} {f f2 : Nat → Nat → Int} {d d2 : Nat → Nat} {a a2 : Nat → Int → Int} {ni ni2 : Nat → Nat} {j j2 : Nat → Int → Int64} {F F2 : Nat → Int} {A A2 : Nat → Int → Int} {J : Nat → Int → Int64}
theorem rel_ex (R : Rel0 q b b2 S K P len dl f d a ni j F A J) (X : EXF (u2 f 0 10 0) d a ni j (u1 F 3 0) A f2 d2 a2 ni2 j2 F2 A2) (W : RWm 83 f2 a2 ni2) : Rel0 q b b2 S K P len dl (u2 f2 0 10 p) d2 a2 ni2 j2 (u1 F2 3 p) A2 J := by
  have R1 := R
  obtain ⟨r1, r2, r3, r4, r5, r6, r7, r8, r9, r10, r11, r12, r13, r14⟩ := R1
  obtain ⟨x1, x2, x3, x4⟩ := X
  have ef : ∀ x, x ≠ 0 → x < 78 ∨ 93 ≤ x → u2 f2 0 10 p x = f x := fun x h1 h2 => by rw [u2_b h1, (x1 x h2).1, u2_b h1]
  have eF : ∀ x, ¬(45 ≤ x ∧ x ≤ 55) → x ≠ 59 → x ≠ 67 → x ≠ 3 → u1 F2 3 p x = F x := fun x h1 h2 h3 h4 => by rw [u1_o h4, x3 x h1 h2 h3, u1_o h4]
  have e2 : d2 2 = d 2 := x2 2 (by decide) (by decide)
  have e3 : d2 3 = d 3 := x2 3 (by decide) (by decide)
  have h117 : d 2 = 117 ∨ d 2 = 119 := by omega
  refine rel_gen R (fun i i1 i2 => ef i (by omega) (by omega)) (fun i i1 i2 => (x1 i (by omega)).2.1) (fun i i1 i2 => (x1 i (by omega)).2.2.1) (fun i i1 i2 => (x1 i (by omega)).2.2.2) (fun k hk => eF k (by omega) (by omega) (by omega) (by omega)) (fun i hi => x4 i (by omega)) ⟨rfl, rfl⟩ (x2 0 (by decide) (by decide)) (x2 1 (by decide) (by decide)) (by rw [e2, e3]; exact r6) ?_ ?_ ?_ ?_ ?_
  · unfold Rsh at r10 ⊢
    rw [e2, ef (d 2) (by omega) (by omega), (x1 (d 2 + 1) (by omega)).2.1, eF 80 (by omega) (by omega) (by omega) (by omega), x4 57 (by omega)]
    exact r10
  · unfold Rtr at r11 ⊢
    rw [ef 94 (by omega) (by omega), (x1 (94 + 1) (by omega)).2.1, (x1 (94 + 2) (by omega)).2.1, (x1 (94 + 1) (by omega)).2.2.1, eF 71 (by omega) (by omega) (by omega) (by omega), x4 48 (by omega), x4 49 (by omega)]
    exact r11
  · obtain ⟨w1, w2⟩ := W
    obtain ⟨m1, m2, m3, m4⟩ := r12
    refine ⟨by rw [u2_b (by decide)]; exact w1, by rw [u2_b (by decide)]; exact w2, ?_, ?_⟩
    · rw [ef 97 (by omega) (by omega), (x1 (97 + 1) (by omega)).2.2.1, (x1 (97 + 2) (by omega)).2.1]
      exact m3
    · rw [ef 105 (by omega) (by omega), (x1 (105 + 1) (by omega)).2.2.1, (x1 (105 + 2) (by omega)).2.1]
      exact m4
  · rw [u2_c (by decide), (x1 0 (by omega)).1, u2_c (by decide), eF 2 (by omega) (by omega) (by omega) (by omega)]
    exact r13
  · rw [u2_a, u1_s]
theorem rel_0 (R : Rel0 q b b2 S K P len dl f d a ni j F A J) : Rel0 q b b2 S K P len dl (u2 f 0 10 0) d a ni j (u1 F 3 0) A J := by
  have h := rel_ex (p := 0) R ⟨fun x hx => ⟨rfl, rfl, rfl, rfl⟩, fun x _ _ => rfl, fun x _ _ _ => rfl, fun x _ => rfl⟩ (by
    obtain ⟨r1, r2, r3, r4, r5, r6, r7, r8, r9, r10, r11, r12, r13, r14⟩ := R
    unfold RWm
    rw [u2_b (by decide), u2_b (by decide)]
    exact ⟨r12.1, r12.2.1⟩)
  rw [u2_d, u1_1] at h
  exact h
theorem ok_check : Ok_check Rel := by
  rintro n hn sC sM R a0
  obtain ⟨q, b, b2, S, K, P, len, dl, f, d, a, ni, j, F, A, J, rfl, rfl, R0⟩ := R
  have R1 := rel_0 R0
  obtain ⟨r1, r2, r3, r4, r5, r6, r7, r8, r9, r10, r11, r12, r13, r14⟩ := R1
  obtain ⟨k, k1, k2, rfl⟩ := qz_of a0
  have hq := bq_q r1
  have hb := bq_b r1
  have G := r7
  obtain ⟨⟨b1, b2', b3, b4, b5, b6, b7, b8, b9⟩, gn, glb, gk, gf, gt, ghy, gma, gun, gpo, gpr, gfm, gax, grw⟩ := r7
  have hK0 : 0 ≤ K := gn.2.2.1
  have hK1 : K ≤ 200 := gn.2.2.2.1
  have eC := c_isPr (n := n) (d := d) (j := j) (ni := ni) (f := u2 f 0 10 0) (a := a) hb k1 k2 (by omega) (by omega) (fun k x1 x2 => by have := gk k x1 (by omega); omega)
  have eM := m_isKind (n := n) (F := u1 F 3 0) (A := A) (J := J) (l := 3) r3 hq b4 hK0 hK1 k1 k2 (fun k x1 x2 => by have := gk k x1 (by omega); omega) (by omega) (by omega)
  by_cases c : 0 ≤ k ∧ k < K ∧ a (b + 8) k = 3
  rotate_left
  · refine ⟨qz (-1), _, _, ?_, ?_, ⟨q, b, b2, S, K, P, len, dl, _, d, a, ni, j, _, A, J, rfl, rfl, rel_0 R0⟩⟩
    · unfold g_X10_check g_X10_check_0
      simp only [zl0, zlm1]
      rw [wf_cs, bd_some, gpc_0_0, r4, eC, bd_some, b3, qp_F c, if_pos rfl]
    · unfold g_X11_check g_X11_check_0
      simp only [zl0, zl3, zlm1]
      rw [wf_ms, bd_some, eM, bd_some, qp_F (fun z => c ⟨z.1, z.2.1, by have := gk k z.1 z.2.1; omega⟩), if_pos rfl]
  obtain ⟨c0, c1, c2⟩ := c
  have gk' := gk k c0 c1
  obtain ⟨z, f2, d2, a2, ni2, j2, F2, A2, e1, e2, z0, z1, e3, X, W, _⟩ := exam (n := n) (J := J) hn r1 r3 r4 G r8 ⟨r12.1, r12.2.1⟩ c0 c1 c2
  have HR := rel_ex (p := F2 55) R0 X W
  refine ⟨qz (if 0 ≤ z then z else z - 100), _, _, ?_, ?_, ⟨q, b, b2, S, K, P, len, dl, _, d2, a2, ni2, j2, _, A2, J, rfl, rfl, HR⟩⟩
  · unfold g_X10_check g_X10_check_0 g_X10_check_23
    simp only [zl0, show (-100 : Int32) = qz (-100) from id rfl]
    rw [wf_cs, bd_some, gpc_0_0, r4, eC, bd_some, b3, qp_T ⟨c0, c1, c2⟩, if_neg n10, e1, bd_some, gpc_0_3, gf_cs, wf_cs, bd_some, e3]
    by_cases y : 0 ≤ z
    · rw [if_pos (by rw [qz_le (by omega) (by omega) (by omega) (by omega)]; exact y), if_pos y]
    · rw [if_neg (by rw [qz_le (by omega) (by omega) (by omega) (by omega)]; exact y), if_neg y, qz_add, show -100 + z = z - 100 by omega]
  · unfold g_X11_check g_X11_check_0
    simp only [zl0, zl3, zl100]
    rw [wf_ms, bd_some, eM, bd_some, qp_T ⟨c0, c1, by omega⟩, if_neg n10, e2, bd_some, gf_ms, wf_ms, bd_some]
    by_cases y : 0 ≤ z
    · rw [if_pos (by rw [qz_le (by omega) (by omega) (by omega) (by omega)]; exact y), if_pos y]
    · rw [if_neg (by rw [qz_le (by omega) (by omega) (by omega) (by omega)]; exact y), if_neg y, qz_sub]
end CHK
