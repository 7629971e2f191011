/-! A hypothesis ends: the relation -/
section ENJ
variable {b n : Nat} {q S K P len c b0 e0 w : Int} {f0 : Nat → Nat → Int} {a0 : Nat → Int → Int} {ni0 : Nat → Nat} {j0 : Nat → Int → Int64} {F0 : Nat → Int} {A0 : Nat → Int → Int} {J0 : Nat → Int → Int64} {f : Nat → Nat → Int} {d : Nat → Nat} {a : Nat → Int → Int} {ni : Nat → Nat} {j : Nat → Int → Int64} {F : Nat → Int} {A : Nat → Int → Int} {J : Nat → Int → Int64}
set_option maxHeartbeats 8000000 in
theorem s_endh (hn : 100000 ≤ n) (G : BK b q S K P len f a ni j A J) (L : Rl b q len c f d a F A) (R : Rs b q S K P f a F A) (C : Rc b K c f a F) (Fr : FR b q f0 a0 ni0 j0 F0 A0 J0 f a ni j F A J) (Ti : TI b len c b0 e0 w f a F A) (m5 : PB P (F 43) (f 66 0) 0 c) (m6 : Lb q S K len (a (b + 2)) (a (b + 5)) (a (b + 6)) (A 8) (A 9) (f 65 7) (f 65 8)) (x7 : A 7 (200 * q + K) = f 65 6) (x6a : 0 ≤ f 65 6) (x6b : f 65 6 ≤ 3) (x10 : A 10 (200 * q + K) = f 66 0) (x11 : A 11 (200 * q + K) = a (b + 11 + 2) K) (x12 : 1 ≤ A 12 (200 * q + K)) (x12b : A 12 (200 * q + K) ≤ 60) (x12c : f 65 6 = 0 → A 12 (200 * q + K) = 2) (m3 : F 36 = a (b + 11 + 2) K + A 12 (200 * q + K)) (x13 : A 13 (200 * q + K) = a (b + 14 + 2) K) (x14 : 0 ≤ A 14 (200 * q + K)) (x14b : A 14 (200 * q + K) ≤ 400) (x14c : f 65 6 ≠ 3 → A 14 (200 * q + K) = 0) (m4 : F 37 = a (b + 14 + 2) K + A 14 (200 * q + K)) (m9 : Fm q S K (f 65 6) (A 12 (200 * q + K)) (a (b + 11 + 2) K) (a (b + 11 + 1)) (a (b + 7)) (A 26) (A 27) (A 16)) (m10 : ∀ i, 0 ≤ i → i < A 14 (200 * q + K) → Gt2 q len K (a (b + 2)) (a (b + 14 + 1)) (a (b + 17 + 1)) (a (b + 5)) (a (b + 6)) (A 17) (A 18) (a (b + 14 + 2) K) i) (hkd : f 65 6 < 2) : ∃ (f2 : Nat → Nat → Int) (a2 : Nat → Int → Int) (ni2 : Nat → Nat) (j2 : Nat → Int → Int64) (F2 : Nat → Int) (A2 : Nat → Int → Int) (J2 : Nat → Int → Int64), g_X4_endStatement n 65 (cs f d a ni j) = some (cs f2 d a2 ni2 j2) ∧ g_X11_endStatement n 0 (ms F A J) = some (ms F2 A2 J2) ∧ RD b q S (K + 1) P len e0 f0 a0 ni0 j0 F0 A0 J0 f2 d a2 ni2 j2 F2 A2 J2 ∧ f2 77 = f 77 ∧ f2 65 4 = 0 ∧ F2 31 = F 31 := by
  have G' := G
  obtain ⟨⟨b1, b2, b3, b4, b5, b6, b7, b8, b9⟩, gn, glb, gk, gf, gt, ghy, gma, gun, gpo, gpr, gfm, gax, grw⟩ := G'
  have L' := L
  obtain ⟨l1, l2, l3, l4, l5, l6, l7, l8, l9, l10, l11, l12, l13⟩ := L'
  have hb := bq_b l1
  have hq := bq_q l1
  have C' := C
  obtain ⟨k1, k2, k3, k4, k5, k6, k7, k8, k9, k10⟩ := C'
  have T' := Ti
  obtain ⟨t1, t2, t3, t4, t5, t6, t7, t8, t9, t10, t11, t12, t13⟩ := T'
  have hK : 0 ≤ K ∧ K ≤ 200 := ⟨gn.2.2.1, gn.2.2.2.1⟩
  have hS : 0 ≤ S ∧ S ≤ 300 := ⟨gn.1, gn.2.1⟩
  have hD : 0 ≤ f 66 0 ∧ f 66 0 ≤ 16 := ⟨R.1.1, R.1.2.1⟩
  have rwa := grw_rwa grw
  have hsc : scd f d a (b + 2) len := ⟨l3, tx_b hb, l4, b7, b8, b9⟩
  have htc : tkc f b0 e0 len := ⟨t1, t2, t6, t7, t8⟩
  have hce : c ≤ e0 := by omega
  have hbb : b = 1 ∨ b = 33 := hb
  have hK2 : K < 200 := m6.1
  have gw := grw
  obtain ⟨w1, w2, w3, w4, w5, w6, w7, w8, w9, w10, w11, w12⟩ := gw
  have m11 := rw_mono w1
  rw [w7] at m11
  have m14 := rw_mono w2
  rw [w8] at m14
  have m20 := rw_mono w4
  rw [w10] at m20
  have m23 := rw_mono w5
  rw [w11] at m23
  have m26 := rw_mono w6
  rw [w12] at m26
  have hst : 0 ≤ a (b + 11 + 2) K := by
    have := m11.2 0 K (by omega) hK.1 (by omega)
    have := m11.1
    omega
  have hst2 : 0 ≤ a (b + 14 + 2) K := by
    have := m14.2 0 K (by omega) hK.1 (by omega)
    have := m14.1
    omega
  have e17 : a (b + 17 + 2) K = a (b + 14 + 2) K := by
    by_cases z : K = 0
    · rw [z, (rw_mono w3).1, m14.1]
    · have := gt (K - 1) (by omega) (by omega)
      rw [show K - 1 + 1 = K by omega] at this
      exact this.2.2.2.1
  have R' := R
  obtain ⟨r1, r2, r3, r4, r5, r6, r7⟩ := R'
  have hcK : f 66 9 ≤ K := by
    rcases gh1_le r2 with z | z
    · exact z
    · omega
  have hc0 : 0 ≤ f 66 9 := r2.1
  have hsym : f 65 6 = 0 → A 16 (4096 * q + a (b + 11 + 2) K + 1) = a (b + 11 + 1) (a (b + 11 + 2) K + 1) ∧ 0 ≤ a (b + 11 + 1) (a (b + 11 + 2) K + 1) ∧ a (b + 11 + 1) (a (b + 11 + 2) K + 1) < 300 := by
    intro z
    have h := m9.1 1 (by omega) (by have := x12c z; omega)
    rw [show 4096 * q + a (b + 11 + 2) K + 1 = 4096 * q + (a (b + 11 + 2) K + 1) by omega]
    exact ⟨h.1.symm, h.2.1, by omega⟩
  obtain ⟨f2, a2, X0, ⟨⟨c1, c2, c3, c4, c5, c6, c7, c8, c9, c10, c11, c12⟩, cF, ⟨y2, y7, y3, y4, y5, y6, y8, y9⟩, ⟨z11, s11, z14, s14, z17, s17, s20, s23, s26⟩, v67, v68, v69, v70, v74, v75⟩, grw2, c669, y10, v73, v71, v72, z20, z23, z26, z29, z30⟩ := E_h (f := f) (d := d) (a := a) (ni := ni) (j := j) (n := n) (K := K) (kd := f 65 6) (D := f 66 0) (ls := f 65 7) (ll := f 65 8) (p36 := F 36) (p37 := F 37) (u := a (b + 20 + 2) K) (v := a (b + 23 + 2) K) (w' := a (b + 26 + 2) K) (hc := f 66 9) (l := A 12 (200 * q + K)) hn hb l2 grw b3 hK.1 hK2 rfl x6a hkd rfl rfl rfl m6.2.2.2.1 (by have := m6.2.2.2.2.1; omega) (by have := m6.2.2.2.2.2.1; omega) k1 k2 k3 k4 k5 k6 rfl hc0 (by omega) (by omega) x12c (fun i i1 i2 => by have := m9.1 i i1 i2; omega)
  obtain ⟨A2, J2, Y0, q1, q2, q3, q4, q5, q6, q7, q8, q9⟩ := M_h (F := F) (A := A) (J := J) (n := n) (q := q) (K := K) (kd := f 65 6) (st0 := a (b + 11 + 2) K) (sym := a (b + 11 + 1) (a (b + 11 + 2) K + 1)) hn hq l7 b4 hK.1 hK2 x7 x6a hkd x11 hst (by omega) hsym (fun k x1 x2 => (r2.2.2.2.1 k x1 (by omega)).1)
  have frA := fr_end (f2 := f2) (a2 := a2) (ni2 := ni) (j2 := j) Fr hq hK.1 hK2 cF (fun _ _ => rfl) (fun _ _ => rfl) y2 q1 q5 q6 q7
  have hhv : ∀ i, 0 ≤ i → i < f 66 9 → 0 ≤ a 73 i ∧ a 73 i < K := fun i i1 i2 => by
    have := r2.2.1 i i1 i2
    omega
  have hnun : ∀ h, 0 ≤ h → h < K → a (b + 8) h < 2 → (bt (J2 19) (4 * (200 * q + K)) h ↔ K < a (b + 10) h) ∧ 0 ≤ a (b + 10) h ∧ a (b + 10) h ≤ 200 := by
    intro h x1 x2 x3
    rw [q9 h x1 (by omega)]
    have y := r3 h x1 x2 x3
    omega
  have hz : ∀ h, 0 ≤ h → h < 200 → ¬bt (J2 20) (4 * (200 * q + K)) h := fun h x1 x2 => bt_zero (q8 _ (by omega) (by omega))
  have hRs : Rs b q S (K + 1) P f2 a2 (u1 F 34 0) A2 := by
    unfold Rs
    rw [c6 0 (by decide), c6 4 (by decide), c6 12 (by decide), c669, y7, y8, y9, y10, z11, s11, v67, v68, v69, v70, v71, v72, v73, v74, v75, u1_o (by decide : 43 ≠ 34), q1 26 (by decide) (by decide) (by decide), q1 12 (by decide) (by decide) (by decide), q1 29 (by decide) (by decide) (by decide), q1 30 (by decide) (by decide) (by decide), q1 21 (by decide) (by decide) (by decide), q1 22 (by decide) (by decide) (by decide), q1 23 (by decide) (by decide) (by decide), q1 24 (by decide) (by decide) (by decide), q3, q4]
    have hocl : ∀ x, oc q (a (b + 11 + 1)) (a (b + 11 + 2)) (A 12) K x = cn (fun y => a (b + 11 + 1) (a (b + 11 + 2) K + y) = x) (A 12 (200 * q + K)).toNat := fun x => rfl
    by_cases z : f 65 6 = 0
    · rw [if_pos z, if_pos z, if_pos z]
      obtain ⟨f3a, f3b, f3c⟩ := m9.2.2.1 z (by have := x12c z; omega)
      obtain ⟨_, sa, sb⟩ := hsym z
      have had := (r1.2.2.2.1 _ sa sb).2.2.2.1
      refine ⟨r1, gh1_add r2 hD.1 hK.1 hkd, gh2_h r3 hK.1, ?_, gh4_n r5 r4 hK.1 (fun x hx => v1_o (fun y => by rw [y] at hx; omega)) (fun _ z2 => by omega), fun x x1 x2 => ?_, gp_st r7⟩
      · rw [z]; exact gh3_f r4 hK.1 f3c f3b had
      · rw [ndv_h hc0 hhv, if_neg (by omega), Int.add_zero]
        exact r6 x x1 x2
    · have z1 : f 65 6 = 1 := by omega
      rw [if_neg z, if_neg z, if_neg z]
      refine ⟨r1, gh1_add r2 hD.1 hK.1 hkd, gh2_h r3 hK.1, gh3_o r4 hK.1 z (Or.inr rfl), gh4_n r5 r4 hK.1 (fun x hx => rfl) (fun _ z2 y y0 y1 y2 => ?_), fun x x1 x2 => ?_, gp_st r7⟩
      · have h := m9.1 y y0 y1
        have h2 := m9.2.2.2 (by omega) y y0 y1 y2
        have h3 := (r4.1 _ h.2.1 (by omega)).2.2.2 h2
        obtain ⟨_, i, i1, i2, i3⟩ := (r2.2.2.2.1 _ h2 (by omega)).2 h3.2.1
        have h4 := (r2.2.1 i i1 i2).2.2.2.2.1
        rw [i3] at h4
        exact ⟨h.2.1, by omega, h2, h4⟩
      · rw [ndv_h hc0 hhv, if_pos z1, hocl x]
        unfold ndp
        rw [r6 x x1 x2]
        omega
  have hRc : Rc b (K + 1) e0 f2 a2 (u1 F 34 0) := by
    unfold Rc
    rw [c7, c8, c9, c10, c11, c12, s20, s23, s26, v1_s, v1_s, v1_s, u1_o (by decide : 36 ≠ 34), u1_o (by decide : 37 ≠ 34), sq_n hK.1]
    exact ⟨rfl, rfl, rfl, rfl, rfl, rfl, by omega, by omega, by omega, by omega⟩
  have hRl : Rl b q len e0 f2 d a2 (u1 F 34 0) A2 := by
    unfold Rl
    rw [c6 0 (by decide), c1, q1 1 (by decide) (by decide) (by decide), y2, u1_o (by decide : 1 ≠ 34), u1_o (by decide : 32 ≠ 34), u1_o (by decide : 33 ≠ 34)]
    exact ⟨l1, l2, l3, l4, l5, l6, l7, l8, l9, l10, by omega, t8, Or.inr t12⟩
  have hGm : Gmo b q S (K + 1) P len e0 f2 a2 (u1 F 34 0) A2 := by
    refine Or.inl ?_
    rw [c2, c6 0 (by decide), s11, s14, v1_s, v1_s, u1_s, u1_o (by decide : 36 ≠ 34), u1_o (by decide : 37 ≠ 34), u1_o (by decide : 43 ≠ 34)]
    exact ⟨rfl, rfl, rfl, rfl, pb_m m5 hce (by omega)⟩
  refine ⟨f2, a2, ni, j, u1 F 34 0, A2, J2, X0, Y0, ⟨?_, hRl, hRs, hRc, hGm, frA⟩, c1, c2, u1_o (by decide)⟩
  exact bk_next (u := a (b + 20 + 2) K) (v := a (b + 23 + 2) K) (w' := a (b + 26 + 2) K) (p36 := F 36) (p37 := F 37) (kd := f 65 6) (D := f 66 0) G m6 (c4.trans b1) c3 (c5.trans b6) y2 y7 y3 y4 y5 y6 y8 y9 (fun h x1 x2 => by rw [y10, v1_o (by omega)]) z11 s11 z14 s14 z17 s17 (fun i _ => by rw [z20]) s20 (fun i _ => by rw [z23]) s23 (fun i _ => by rw [z26]) s26 (fun k _ _ => by rw [z29, z30]; exact ⟨rfl, rfl⟩) (fun _ _ => rfl) (fun i i1 i2 => q1 i i2 (by omega) (by omega)) q2 (fun x hx => (q7 x hx).1) (fun x hx => (q7 x hx).2) x7 x6a x6b x10 hD.1 hD.2 x11 m3 x12 x12b x12c m9 x13 m4 e17 x14 x14b x14c m10 (fun i k i1 i2 i3 => by omega) (fun h x1 x2 => ⟨fun ⟨i, i1, i2, _⟩ => by omega, fun z => absurd z (hz h x1 x2)⟩) (fun h ⟨i, i1, i2, _⟩ => by omega) (fun _ => rfl) (fun z => by omega) (fun z => by omega) hnun (fun i k i1 i2 i3 => by omega) (fun i k i1 i2 i3 => by omega) (fun z => by omega) (fun z => by omega) (fun _ => rfl) (fun z => by omega) (fun z => by omega) (fun _ => Or.inr trivial) grw2
end ENJ
