/-! An assertion ends: the relation -/
section ENK
variable {b n : Nat} {q S K P len c b0 e0 w : Int} {f0 : Nat → Nat → Int} {a0 : Nat → Int → Int} {ni0 : Nat → Nat} {j0 : Nat → Int → Int64} {F0 : Nat → Int} {A0 : Nat → Int → Int} {J0 : Nat → Int → Int64} {f : Nat → Nat → Int} {d : Nat → Nat} {a : Nat → Int → Int} {ni : Nat → Nat} {j : Nat → Int → Int64} {F : Nat → Int} {A : Nat → Int → Int} {J : Nat → Int → Int64}
set_option maxHeartbeats 8000000 in
theorem s_enda (hn : 100000 ≤ n) (G : BK b q S K P len f a ni j A J) (L : Rl b q len c f d a F A) (R : Rs b q S K P f a F A) (C : Rc b K c f a F) (Fr : FR b q f0 a0 ni0 j0 F0 A0 J0 f a ni j F A J) (Ti : TI b len c b0 e0 w f a F A) (m5 : PB P (F 43) (f 66 0) 0 c) (m6 : Lb q S K len (a (b + 2)) (a (b + 5)) (a (b + 6)) (A 8) (A 9) (f 65 7) (f 65 8)) (x7 : A 7 (200 * q + K) = f 65 6) (x6a : 0 ≤ f 65 6) (x6b : f 65 6 ≤ 3) (x10 : A 10 (200 * q + K) = f 66 0) (x11 : A 11 (200 * q + K) = a (b + 11 + 2) K) (x12 : 1 ≤ A 12 (200 * q + K)) (x12b : A 12 (200 * q + K) ≤ 60) (x12c : f 65 6 = 0 → A 12 (200 * q + K) = 2) (m3 : F 36 = a (b + 11 + 2) K + A 12 (200 * q + K)) (x13 : A 13 (200 * q + K) = a (b + 14 + 2) K) (x14 : 0 ≤ A 14 (200 * q + K)) (x14b : A 14 (200 * q + K) ≤ 400) (x14c : f 65 6 ≠ 3 → A 14 (200 * q + K) = 0) (m4 : F 37 = a (b + 14 + 2) K + A 14 (200 * q + K)) (m9 : Fm q S K (f 65 6) (A 12 (200 * q + K)) (a (b + 11 + 2) K) (a (b + 11 + 1)) (a (b + 7)) (A 26) (A 27) (A 16)) (m10 : ∀ i, 0 ≤ i → i < A 14 (200 * q + K) → Gt2 q len K (a (b + 2)) (a (b + 14 + 1)) (a (b + 17 + 1)) (a (b + 5)) (a (b + 6)) (A 17) (A 18) (a (b + 14 + 2) K) i) (hkd : 2 ≤ f 65 6) : ∃ (f2 : Nat → Nat → Int) (a2 : Nat → Int → Int) (ni2 : Nat → Nat) (j2 : Nat → Int → Int64) (F2 : Nat → Int) (A2 : Nat → Int → Int) (J2 : Nat → Int → Int64), g_X4_endStatement n 65 (cs f d a ni j) = some (cs f2 d a2 ni2 j2) ∧ g_X11_endStatement n 0 (ms F A J) = some (ms F2 A2 J2) ∧ RD b q S (K + 1) P len e0 f0 a0 ni0 j0 F0 A0 J0 f2 d a2 ni2 j2 F2 A2 J2 ∧ f2 77 = f 77 ∧ f2 65 4 = 0 ∧ F2 31 = F 31 := by
  have G' := G
  obtain ⟨⟨b1, b2, b3, b4, b5, b6, b7, b8, b9⟩, gn, glb, gk, gf, gt, ghy, gma, gun, gpo, gpr, gfm, gax, grw⟩ := G'
  have L' := L
  obtain ⟨l1, l2, l3, l4, l5, l6, l7, l8, l9, l10, l11, l12, l13⟩ := L'
  have hb := bq_b l1
  have hq := bq_q l1
  have C' := C
  obtain ⟨k1, k2, k3, k4, k5, k6, k7, k8, k9, k10⟩ := C'
  have T' := Ti
  obtain ⟨t1, t2, t3, t4, t5, t6, t7, t8, t9, t10, t11, t12, t13⟩ := T'
  have hK : 0 ≤ K ∧ K ≤ 200 := ⟨gn.2.2.1, gn.2.2.2.1⟩
  have hS : 0 ≤ S ∧ S ≤ 300 := ⟨gn.1, gn.2.1⟩
  have hD : 0 ≤ f 66 0 ∧ f 66 0 ≤ 16 := ⟨R.1.1, R.1.2.1⟩
  have rwa := grw_rwa grw
  have hsc : scd f d a (b + 2) len := ⟨l3, tx_b hb, l4, b7, b8, b9⟩
  have htc : tkc f b0 e0 len := ⟨t1, t2, t6, t7, t8⟩
  have hce : c ≤ e0 := by omega
  have hbb : b = 1 ∨ b = 33 := hb
  have hK2 : K < 200 := m6.1
  have gw := grw
  obtain ⟨w1, w2, w3, w4, w5, w6, w7, w8, w9, w10, w11, w12⟩ := gw
  have m11 := rw_mono w1
  rw [w7] at m11
  have m14 := rw_mono w2
  rw [w8] at m14
  have m20 := rw_mono w4
  rw [w10] at m20
  have m23 := rw_mono w5
  rw [w11] at m23
  have m26 := rw_mono w6
  rw [w12] at m26
  have hst : 0 ≤ a (b + 11 + 2) K := by
    have := m11.2 0 K (by omega) hK.1 (by omega)
    have := m11.1
    omega
  have hst2 : 0 ≤ a (b + 14 + 2) K := by
    have := m14.2 0 K (by omega) hK.1 (by omega)
    have := m14.1
    omega
  have e17 : a (b + 17 + 2) K = a (b + 14 + 2) K := by
    by_cases z : K = 0
    · rw [z, (rw_mono w3).1, m14.1]
    · have := gt (K - 1) (by omega) (by omega)
      rw [show K - 1 + 1 = K by omega] at this
      exact this.2.2.2.1
  have R' := R
  obtain ⟨r1, r2, r3, r4, r5, r6, r7⟩ := R'
  have hcK : f 66 9 ≤ K := by
    rcases gh1_le r2 with z | z
    · exact z
    · omega
  have hc0 : 0 ≤ f 66 9 := r2.1
  have hhv : ∀ i, 0 ≤ i → i < f 66 9 → 0 ≤ a 73 i ∧ a 73 i < K := fun i i1 i2 => by
    have := r2.2.1 i i1 i2
    omega
  have hva : ∀ x, 0 ≤ x → x < S → a (b + 7) x = A 5 (300 * q + x) ∧ (a (b + 7) x = 0 ∨ a (b + 7) x = 1) := fun x x1 x2 => ⟨(gn.2.2.2.2.2.2.2.1 x x1 x2).2.2.1, (gn.2.2.2.2.2.2.2.1 x x1 x2).2.2.2⟩
  have hpc := r7.1
  have hpc2 := r7.2.1
  have hr74 : ∀ i, 0 ≤ i → i < f 66 12 → 0 ≤ a 74 i ∧ a 74 i < 90000 ∧ ∃ x y, 0 ≤ x ∧ x < y ∧ y < S ∧ a 74 i = 300 * x + y := by
    intro i i1 i2
    have hm : (a 74 i, a 75 i) ∈ tab (a 74) (a 75) (f 66 12).toNat := tab_mem.mpr ⟨i, i1, by omega, rfl⟩
    obtain ⟨k, z1, z2, z3⟩ := tab_mem.mp (r7.2.2.2.2.1.mem_iff.mp hm)
    have e := congrArg Prod.fst z3
    simp only at e
    have h7 := r7.2.2.2.2.2.2.1 k z1 (by omega)
    have o3 := gpo.2.2 (A 29 k - 10240 * q) (by omega) (by omega)
    rw [show 10240 * q + (A 29 k - 10240 * q) = A 29 k by omega] at o3
    exact ⟨by omega, by omega, _, _, o3.1, o3.2.1, o3.2.2.1, e.symm⟩
  have hndr : ∀ x, 0 ≤ x → x < 300 → 0 ≤ a 72 x ∧ a 72 x ≤ 12000 := by
    intro x x1 x2
    rw [r6 x x1 x2]
    exact ⟨(ndv_pos hc0).1, ndv_le hc0 (by omega) (fun i i1 i2 => by have h := hhv i i1 i2; exact (gf _ h.1 h.2).2.2.2.1)⟩
  have hF1 : ∀ i, 0 ≤ i → i < A 12 (200 * q + K) → 0 ≤ a (b + 11 + 1) (a (b + 11 + 2) K + i) ∧ a (b + 11 + 1) (a (b + 11 + 2) K + i) < S := fun i i1 i2 => (m9.1 i i1 i2).2
  have hF2 : ∀ i, 0 ≤ i → i < A 12 (200 * q + K) → a (b + 7) (a (b + 11 + 1) (a (b + 11 + 2) K + i)) = 1 → 0 ≤ A 27 (a (b + 11 + 1) (a (b + 11 + 2) K + i)) := m9.2.2.2 (by omega)
  obtain ⟨sA, sB, sC, sD, sE⟩ := sel_all (l := A 12 (200 * q + K)) r2 hK.1 hK.2 hS.2 r4 r5 r6 rfl gf (fun k z1 z2 => (gk k z1 z2).2.1) hF1 hF2
  have hu20 : f (b + 20) 2 + f 66 9 ≤ 32768 := by
    have hs : K * K ≤ 40000 := by
      have h1 : K * K ≤ K * 200 := Int.mul_le_mul_of_nonneg_left hK.2 hK.1
      omega
    omega
  obtain ⟨f2, a2, ni2, j2, u, v, w', X0, ⟨⟨c1, c2, c3, c4, c5, c6, c7, c8, c9, c10, c11, c12⟩, cF, ⟨y2, y7, y3, y4, y5, y6, y8, y9⟩, ⟨z11, s11, z14, s14, z17, s17, s20, s23, s26⟩, v67, v68, v69, v70, v74, v75⟩, grw2, c669, y10, v71, v72, v73, hni, hj, ⟨e1, e2, e3, e4, e5⟩, ⟨d1, d2, d3, d4, d5, d6, d7, d8, d9, d10⟩, n29, nfm, hjx, nax⟩ := E_a (f := f) (d := d) (a := a) (ni := ni) (j := j) (n := n) (K := K) (kd := f 65 6) (D := f 66 0) (ls := f 65 7) (ll := f 65 8) (p36 := F 36) (p37 := F 37) (hc := f 66 9) (l := A 12 (200 * q + K)) (pc := f 66 12) (sz := A 14 (200 * q + K)) (A18 := A 18) (q := q) (len := len) hn hb l2 grw b3 hK.1 hK2 rfl (by omega) rfl rfl rfl m6.2.2.2.1 (by have := m6.2.2.2.2.1; omega) (by have := m6.2.2.2.2.2.1; omega) k1 k2 k3 (by omega) x12b (fun i i1 i2 => by have := hF1 i i1 i2; omega) rfl hc0 hcK hu20 r2.2.2.1 (fun i i1 i2 => by
      have h := r2.2.1 i i1 i2
      have h2 := hhv i i1 i2
      have h3 := gk _ h2.1 h2.2
      have h4 := gf _ h2.1 h2.2
      refine ⟨h2.1, h2.2, by omega, fun z => ?_⟩
      have h5 := h4.2.2.2.2.2.2 z
      have h6 := h4.2.2.2.2.1 1 (by omega) (by omega)
      omega) rfl hpc hpc2 (by omega) (by omega) r7.2.2.2.1 (fun i i1 i2 => ⟨(hr74 i i1 i2).1, (hr74 i i1 i2).2.1⟩) hndr b6 b7 b8 b9 (by omega) (by omega) x14 x14b (fun i i1 i2 => (m10 i i1 i2).1.2.1) (fun i i1 i2 => by
      obtain ⟨⟨_, _, y⟩, _⟩ := m10 i i1 i2
      rw [e17]
      rcases y with ⟨y, _⟩ | ⟨y1, y2, _⟩ <;> omega) (fun k z1 z2 => ⟨(gk k z1 z2).2.1, (gk k z1 z2).2.2.1⟩)
  rw [k4] at e1 e2 e3 e4 e5
  rw [k5] at d1 d2 d5 d7 d9
  rw [k6] at d3 d4 d6 d8 d10
  have hA16 : ∀ k, 0 ≤ k → k ≤ K → ∀ i, 0 ≤ i → i < A 12 (200 * q + k) → A 11 (200 * q + k) = a (b + 11 + 2) k ∧ A 16 (4096 * q + A 11 (200 * q + k) + i) = a (b + 11 + 1) (a (b + 11 + 2) k + i) ∧ 0 ≤ a (b + 11 + 1) (a (b + 11 + 2) k + i) ∧ a (b + 11 + 1) (a (b + 11 + 2) k + i) < S := by
    intro k z1 z2 i i1 i2
    by_cases e : k = K
    · subst e
      have h := m9.1 i i1 i2
      rw [x11, show 4096 * q + a (b + 11 + 2) k + i = 4096 * q + (a (b + 11 + 2) k + i) by omega]
      exact ⟨rfl, h.1.symm, h.2⟩
    · have h := gf k z1 (by omega)
      have h5 := h.2.2.2.2.1 i i1 i2
      rw [← h.1, show 4096 * q + a (b + 11 + 2) k + i = 4096 * q + (a (b + 11 + 2) k + i) by omega]
      exact ⟨rfl, h5.1.symm, h5.2⟩
  obtain ⟨A2, J2, Y0, q1, q2, q5, q6, q7, q8, q9⟩ := M_a (F := F) (A := A) (J := J) (n := n) (q := q) (K := K) (kd := f 65 6) hn hq l7 b4 hK.1 hK2 x7 hkd x6b (fun k z1 z2 => ⟨(r2.2.2.2.1 k z1 (by omega)).1, by have := gk k z1 z2; omega, by have := gk k z1 z2; omega⟩) (fun k z1 z2 z3 => by
    have w4' := w1.2.2.2.2.2.2.2.2.2.2.1
    rw [w7] at w4'
    have hb5 := w1.2.2.2.1
    have hb6 := w1.2.2.2.2.2.1
    have base : 0 ≤ A 12 (200 * q + k) ∧ A 12 (200 * q + k) ≤ 60 ∧ 0 ≤ A 11 (200 * q + k) ∧ A 11 (200 * q + k) + A 12 (200 * q + k) ≤ 4096 := by
      by_cases e : k = K
      · subst e; omega
      · have h := gf k z1 (by omega)
        have m := mono_k m11 z1 (by omega)
        omega
    refine ⟨base.1, base.2.1, base.2.2.1, base.2.2.2, fun i i1 i2 => ?_⟩
    obtain ⟨h1, h2, h3, h4⟩ := hA16 k z1 z2 i i1 i2
    rw [h2]
    have hv := hva _ h3 h4
    rw [← hv.1]
    refine ⟨h3, by omega, hv.2, fun hx => ?_⟩
    have ht : 0 ≤ A 27 (a (b + 11 + 1) (a (b + 11 + 2) k + i)) := by
      by_cases e : k = K
      · subst e; exact hF2 i i1 i2 hx
      · rcases z3 with z3 | z3
        · exact absurd z3 e
        · have kk := gk k z1 (by omega)
          exact (r5 k z1 (by omega) z3.1 (by omega) i i1 i2 hx).1
    have := ((r4.1 _ h3 (by omega)).2.2.2 ht).1
    omega)
  have hmn : ∀ h, mnd q K A h ↔ mndc q K (A 28) (a (b + 8)) (a (b + 7)) (A 27) (a (b + 11 + 1)) (a (b + 11 + 2)) (A 12) h := by
    have hnd : ∀ k h, 0 ≤ k → k ≤ K → (ndt q A (200 * q + k) h ↔ ∃ i, 0 ≤ i ∧ i < A 12 (200 * q + k) ∧ a (b + 7) (a (b + 11 + 1) (a (b + 11 + 2) k + i)) = 1 ∧ A 27 (a (b + 11 + 1) (a (b + 11 + 2) k + i)) = h) := by
      intro k h z1 z2
      unfold ndt
      constructor
      · rintro ⟨i, i1, i2, i3, i4⟩
        obtain ⟨h1, h2, h3, h4⟩ := hA16 k z1 z2 i i1 i2
        rw [h2, ← (hva _ h3 h4).1] at i3
        rw [h2] at i4
        exact ⟨i, i1, i2, i3, i4⟩
      · rintro ⟨i, i1, i2, i3, i4⟩
        obtain ⟨h1, h2, h3, h4⟩ := hA16 k z1 z2 i i1 i2
        exact ⟨i, i1, i2, by rw [h2, ← (hva _ h3 h4).1]; exact i3, by rw [h2]; exact i4⟩
    intro h
    unfold mnd mndc
    rw [hnd K h hK.1 (Int.le_refl _)]
    constructor
    · rintro (z | ⟨e, e0', e1', e2', e3', e4'⟩)
      · exact Or.inl z
      · refine Or.inr ⟨e, e0', e1', e2', by rw [(gk e e0' e1').1]; exact e3', ?_⟩
        rcases e4' with z | z
        · exact Or.inl z
        · exact Or.inr ((hnd e h e0' (by omega)).mp z)
    · rintro (z | ⟨e, e0', e1', e2', e3', e4'⟩)
      · exact Or.inl z
      · refine Or.inr ⟨e, e0', e1', e2', by rw [← (gk e e0' e1').1]; exact e3', ?_⟩
        rcases e4' with z | z
        · exact Or.inl z
        · exact Or.inr ((hnd e h e0' (by omega)).mpr z)
  have hsel : ∀ h, mem (a2 (b + 20 + 1)) (a (b + 20 + 2) K) u h ↔ sel (f 66 9) (a 73) (a (b + 8)) (ndp (a 72) (a (b + 11 + 1)) (a (b + 11 + 2) K) (A 12 (200 * q + K)) 1) (a (b + 11 + 1)) (a (b + 11 + 2)) h := e5
  have hmf : ∀ x, mf (a2 (b + 20 + 1)) (v1 (a (b + 20 + 2)) (K + 1) u) (v1 (a (b + 8)) K (f 65 6)) (a (b + 11 + 1)) (v1 (a (b + 11 + 2)) (K + 1) (F 36)) K x ↔ ∃ h, sel (f 66 9) (a 73) (a (b + 8)) (ndp (a 72) (a (b + 11 + 1)) (a (b + 11 + 2) K) (A 12 (200 * q + K)) 1) (a (b + 11 + 1)) (a (b + 11 + 2)) h ∧ a (b + 8) h = 0 ∧ a (b + 11 + 1) (a (b + 11 + 2) h + 1) = x := by
    intro x
    unfold mf
    rw [v1_s, v1_o (by omega : K ≠ K + 1)]
    constructor
    · rintro ⟨h, z1, z2, z3⟩
      have z4 := (hsel h).mp z1
      have z5 := sB h z4
      rw [v1_o (by omega)] at z2 z3
      exact ⟨h, z4, z2, z3⟩
    · rintro ⟨h, z1, z2, z3⟩
      have z5 := sB h z1
      exact ⟨h, (hsel h).mpr z1, by rw [v1_o (by omega)]; exact z2, by rw [v1_o (by omega)]; exact z3⟩
  have hpair : ∀ x y, 0 ≤ x → x < y → y < 300 → (mem (a 74) 0 (f 66 12) (300 * x + y) ↔ pa q P (A 21) (A 22) (A 23) (A 24) K x y) := by
    intro x y h1 h2 h3
    rw [gp_mem r7 gpo hS.2 h1 (by omega) h3, gp_pa r7 hK2]
  have hvp : ∀ x y, pa q P (A 21) (A 22) (A 23) (A 24) K x y → a (b + 7) x = 1 ∧ a (b + 7) y = 1 := by
    rintro x y ⟨p, p1, p2, p3, p4, _⟩
    have := gpo.2.2 p p1 p2
    rw [← p3, ← p4]
    exact ⟨this.2.2.2.1, this.2.2.2.2.1⟩
  have hp3 : f 65 6 = 3 → ∀ z, mem (a2 (b + 26 + 1)) (a (b + 26 + 2) K) w' z ↔ ∃ x y, 0 ≤ x ∧ x < y ∧ y < 300 ∧ z = 300 * x + y ∧ pa q P (A 21) (A 22) (A 23) (A 24) K x y := by
    intro hk z
    rw [d10 z]
    constructor
    · rintro ⟨_, hm⟩
      obtain ⟨i, i1, i2, i3⟩ := hm
      obtain ⟨_, _, x, y, h1, h2, h3, h4⟩ := hr74 i i1 i2
      refine ⟨x, y, h1, h2, by omega, by rw [← i3]; exact h4, (hpair x y h1 h2 (by omega)).mp ⟨i, i1, i2, h4⟩⟩
    · rintro ⟨x, y, h1, h2, h3, rfl, h5⟩
      exact ⟨hk, (hpair x y h1 h2 h3).mpr h5⟩
  have hp4 : 2 ≤ f 65 6 → ∀ z, mem (a2 (b + 23 + 1)) (a (b + 23 + 2) K) v z ↔ ∃ x y, 0 ≤ x ∧ x < y ∧ y < 300 ∧ z = 300 * x + y ∧ pa q P (A 21) (A 22) (A 23) (A 24) K x y ∧ mf (a2 (b + 20 + 1)) (v1 (a (b + 20 + 2)) (K + 1) u) (v1 (a (b + 8)) K (f 65 6)) (a (b + 11 + 1)) (v1 (a (b + 11 + 2)) (K + 1) (F 36)) K x ∧ mf (a2 (b + 20 + 1)) (v1 (a (b + 20 + 2)) (K + 1) u) (v1 (a (b + 8)) K (f 65 6)) (a (b + 11 + 1)) (v1 (a (b + 11 + 2)) (K + 1) (F 36)) K y := by
    intro _ z
    rw [d9 z]
    have key : ∀ x y, 0 ≤ x → x < y → y < 300 → pa q P (A 21) (A 22) (A 23) (A 24) K x y → ((0 < ndp (a 72) (a (b + 11 + 1)) (a (b + 11 + 2) K) (A 12 (200 * q + K)) 1 ((300 * x + y) / 300) ∧ 0 < ndp (a 72) (a (b + 11 + 1)) (a (b + 11 + 2) K) (A 12 (200 * q + K)) 1 ((300 * x + y) - (300 * x + y) / 300 * 300)) ↔ (mf (a2 (b + 20 + 1)) (v1 (a (b + 20 + 2)) (K + 1) u) (v1 (a (b + 8)) K (f 65 6)) (a (b + 11 + 1)) (v1 (a (b + 11 + 2)) (K + 1) (F 36)) K x ∧ mf (a2 (b + 20 + 1)) (v1 (a (b + 20 + 2)) (K + 1) u) (v1 (a (b + 8)) K (f 65 6)) (a (b + 11 + 1)) (v1 (a (b + 11 + 2)) (K + 1) (F 36)) K y)) := by
      intro x y h1 h2 h3 h5
      obtain ⟨g1, g2⟩ := hvp x y h5
      rw [show (300 * x + y) / 300 = x by omega, show 300 * x + y - x * 300 = y by omega, hmf x, hmf y, sE x h1 (by omega) g1, sE y (by omega) h3 g2]
    constructor
    · rintro ⟨hm, h6⟩
      obtain ⟨i, i1, i2, i3⟩ := hm
      obtain ⟨_, _, x, y, h1, h2, h3, h4⟩ := hr74 i i1 i2
      have h5 := (hpair x y h1 h2 (by omega)).mp ⟨i, i1, i2, h4⟩
      rw [← i3, h4] at h6
      exact ⟨x, y, h1, h2, by omega, by rw [← i3]; exact h4, h5, (key x y h1 h2 (by omega) h5).mp h6⟩
    · rintro ⟨x, y, h1, h2, h3, rfl, h5, h6⟩
      exact ⟨(hpair x y h1 h2 h3).mpr h5, (key x y h1 h2 h3 h5).mpr h6⟩
  have frA := fr_end (f2 := f2) (a2 := a2) (ni2 := ni2) (j2 := j2) Fr hq hK.1 hK2 cF hni hj y2 (fun i i1 _ _ => q1 i i1) q5 q6 q7
  have hnun : ∀ h, 0 ≤ h → h < K → a (b + 8) h < 2 → (bt (J2 19) (4 * (200 * q + K)) h ↔ K < a (b + 10) h) ∧ 0 ≤ a (b + 10) h ∧ a (b + 10) h ≤ 200 := by
    intro h x1 x2 x3
    rw [q9 h x1 (by omega)]
    have y := r3 h x1 x2 x3
    omega
  have hRs : Rs b q S (K + 1) P f2 a2 (u1 F 34 0) A2 := by
    unfold Rs
    rw [c6 0 (by decide), c6 4 (by decide), c6 12 (by decide), c669, y7, y8, y9, y10, z11, s11, v67, v68, v69, v70, v71, v72, v73, v74, v75, u1_o (by decide : 43 ≠ 34), q1 26 (by decide), q1 12 (by decide), q1 29 (by decide), q1 30 (by decide), q1 21 (by decide), q1 22 (by decide), q1 23 (by decide), q1 24 (by decide), q1 28 (by decide), q1 27 (by decide)]
    have hid : v1 (A 28) K (A 28 K) = A 28 := v1_id rfl
    have h3 := gh3_o (kd := f 65 6) (D := f 66 0) (u := F 36) r4 hK.1 (by omega) (i := A 28 K) (Or.inl rfl)
    have h4 := gh4_n (kd := f 65 6) (D := f 66 0) (u := F 36) (tf2 := A 27) (i := A 28 K) r5 r4 hK.1 (fun x hx => rfl) (fun _ z2 => by omega)
    rw [hid] at h3 h4
    exact ⟨r1, gh1_st r2, gh2_a r3 hkd, h3, h4, fun x x1 x2 => by rw [ndv_a hhv]; exact r6 x x1 x2, gp_st r7⟩
  have hRc : Rc b (K + 1) e0 f2 a2 (u1 F 34 0) := by
    unfold Rc
    rw [c7, c8, c9, c10, c11, c12, s20, s23, s26, v1_s, v1_s, v1_s, u1_o (by decide : 36 ≠ 34), u1_o (by decide : 37 ≠ 34), sq_n hK.1]
    exact ⟨rfl, rfl, rfl, rfl, rfl, rfl, by omega, by omega, by omega, by omega⟩
  have hRl : Rl b q len e0 f2 d a2 (u1 F 34 0) A2 := by
    unfold Rl
    rw [c6 0 (by decide), c1, q1 1 (by decide), y2, u1_o (by decide : 1 ≠ 34), u1_o (by decide : 32 ≠ 34), u1_o (by decide : 33 ≠ 34)]
    exact ⟨l1, l2, l3, l4, l5, l6, l7, l8, l9, l10, by omega, t8, Or.inr t12⟩
  have hGm : Gmo b q S (K + 1) P len e0 f2 a2 (u1 F 34 0) A2 := by
    refine Or.inl ?_
    rw [c2, c6 0 (by decide), s11, s14, v1_s, v1_s, u1_s, u1_o (by decide : 36 ≠ 34), u1_o (by decide : 37 ≠ 34), u1_o (by decide : 43 ≠ 34)]
    exact ⟨rfl, rfl, rfl, rfl, pb_m m5 hce (by omega)⟩
  refine ⟨f2, a2, ni2, j2, u1 F 34 0, A2, J2, X0, Y0, ⟨?_, hRl, hRs, hRc, hGm, frA⟩, c1, c2, u1_o (by decide)⟩
  exact bk_next (u := u) (v := v) (w' := w') (p36 := F 36) (p37 := F 37) (kd := f 65 6) (D := f 66 0) G m6 (c4.trans b1) c3 (c5.trans b6) y2 y7 y3 y4 y5 y6 y8 y9 (fun h x1 x2 => by rw [y10]) z11 s11 z14 s14 z17 s17 e3 s20 d5 s23 d6 s26 (fun k _ x2 => n29 k (by omega)) hjx (fun i i1 i2 => q1 i i2) q2 (fun x hx => (q7 x hx).1) (fun x hx => (q7 x hx).2) x7 x6a x6b x10 hD.1 hD.2 x11 m3 x12 x12b x12c m9 x13 m4 e17 x14 x14b x14c m10 e4 (fun h x1 x2 => by rw [hsel h, sA h, q8 h x1 x2, hmn h]) (fun h hm => sB h ((hsel h).mp hm)) (fun z => by omega) (fun _ i i1 i2 i3 => by
    obtain ⟨h, z1, z2, z3⟩ := sC i i1 i2 i3
    exact ⟨h, (hsel h).mpr z1, z2, z3⟩) (fun _ e hm hk i i1 i2 i3 => by
    obtain ⟨h, z1, z2, z3, z4⟩ := sD e ((hsel e).mp hm) hk i i1 i2 i3
    exact ⟨h, (hsel h).mpr z1, z2, z3, z4⟩) hnun d7 d8 hp3 hp4 (fun z => by omega) nfm nax (fun _ => Or.inr trivial) grw2
end ENK
