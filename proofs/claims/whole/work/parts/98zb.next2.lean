/-! A statement more: the book -/
section NX2
variable {b n : Nat} {q S K P len c b0 e0 w : Int} {f0 : Nat → Nat → Int} {a0 : Nat → Int → Int} {ni0 : Nat → Nat} {j0 : Nat → Int → Int64} {F0 : Nat → Int} {A0 : Nat → Int → Int} {J0 : Nat → Int → Int64} {f : Nat → Nat → Int} {d : Nat → Nat} {a : Nat → Int → Int} {ni : Nat → Nat} {j : Nat → Int → Int64} {F : Nat → Int} {A : Nat → Int → Int} {J : Nat → Int → Int64}
set_option maxHeartbeats 4000000 in
theorem bk_next {f2 : Nat → Nat → Int} {a2 : Nat → Int → Int} {ni2 : Nat → Nat} {j2 : Nat → Int → Int64} {A2 : Nat → Int → Int} {J2 : Nat → Int → Int64} {ls ll kd D p36 p37 u v w' : Int} (G : BK b q S K P len f a ni j A J) (L : Lb q S K len (a (b + 2)) (a (b + 5)) (a (b + 6)) (A 8) (A 9) ls ll)
    (x3 : f2 b 3 = S) (x5 : f2 b 5 = K + 1) (x2 : f2 b 2 = len) (y2 : a2 (b + 2) = a (b + 2)) (y7 : a2 (b + 7) = a (b + 7)) (y3 : a2 (b + 3) = v1 (a (b + 3)) (hd (a (b + 2)) ls ll) (300 + K)) (y4 : a2 (b + 4) = v1 (a (b + 4)) (300 + K) (a (b + 3) (hd (a (b + 2)) ls ll))) (y5 : a2 (b + 5) = v1 (a (b + 5)) (300 + K) ls) (y6 : a2 (b + 6) = v1 (a (b + 6)) (300 + K) ll) (y8 : a2 (b + 8) = v1 (a (b + 8)) K kd) (y9 : a2 (b + 9) = v1 (a (b + 9)) K D) (y10 : ∀ h, 0 ≤ h → h < K → a2 (b + 10) h = a (b + 10) h)
    (z11 : a2 (b + 11 + 1) = a (b + 11 + 1)) (s11 : a2 (b + 11 + 2) = v1 (a (b + 11 + 2)) (K + 1) p36) (z14 : a2 (b + 14 + 1) = a (b + 14 + 1)) (s14 : a2 (b + 14 + 2) = v1 (a (b + 14 + 2)) (K + 1) p37) (z17 : a2 (b + 17 + 1) = a (b + 17 + 1)) (s17 : a2 (b + 17 + 2) = v1 (a (b + 17 + 2)) (K + 1) p37)
    (z20 : ∀ i, i < a (b + 20 + 2) K → a2 (b + 20 + 1) i = a (b + 20 + 1) i) (s20 : a2 (b + 20 + 2) = v1 (a (b + 20 + 2)) (K + 1) u) (z23 : ∀ i, i < a (b + 23 + 2) K → a2 (b + 23 + 1) i = a (b + 23 + 1) i) (s23 : a2 (b + 23 + 2) = v1 (a (b + 23 + 2)) (K + 1) v) (z26 : ∀ i, i < a (b + 26 + 2) K → a2 (b + 26 + 1) i = a (b + 26 + 1) i) (s26 : a2 (b + 26 + 2) = v1 (a (b + 26 + 2)) (K + 1) w')
    (c29 : ∀ k, 0 ≤ k → k < K → a2 (b + 29) k = a (b + 29) k ∧ a2 (b + 30) k = a (b + 30) k) (jx : ∀ x, ¬(K * 4 ≤ x ∧ x < K * 4 + 4) → j2 (b + 31) x = j (b + 31) x) (hA : ∀ i, i < 26 → i ≠ 15 → A2 i = A i) (hA15 : A2 15 q = K + 1) (hJ19 : ∀ x, ¬(4 * (200 * q + K) ≤ x ∧ x < 4 * (200 * q + K) + 4) → J2 19 x = J 19 x) (hJ20 : ∀ x, ¬(4 * (200 * q + K) ≤ x ∧ x < 4 * (200 * q + K) + 4) → J2 20 x = J 20 x)
    (n7 : A 7 (200 * q + K) = kd) (n7a : 0 ≤ kd) (n7b : kd ≤ 3) (n10 : A 10 (200 * q + K) = D) (n10a : 0 ≤ D) (n10b : D ≤ 16) (n11 : A 11 (200 * q + K) = a (b + 11 + 2) K) (n12 : p36 = a (b + 11 + 2) K + A 12 (200 * q + K)) (n12a : 1 ≤ A 12 (200 * q + K)) (n12b : A 12 (200 * q + K) ≤ 60) (n12c : kd = 0 → A 12 (200 * q + K) = 2) (nF : Fm q S K kd (A 12 (200 * q + K)) (a (b + 11 + 2) K) (a (b + 11 + 1)) (a (b + 7)) (A 26) (A 27) (A 16))
    (n13 : A 13 (200 * q + K) = a (b + 14 + 2) K) (n14 : p37 = a (b + 14 + 2) K + A 14 (200 * q + K)) (n14s : a (b + 17 + 2) K = a (b + 14 + 2) K) (n14a : 0 ≤ A 14 (200 * q + K)) (n14b : A 14 (200 * q + K) ≤ 400) (n14c : kd ≠ 3 → A 14 (200 * q + K) = 0) (nT : ∀ i, 0 ≤ i → i < A 14 (200 * q + K) → Gt2 q len K (a (b + 2)) (a (b + 14 + 1)) (a (b + 17 + 1)) (a (b + 5)) (a (b + 6)) (A 17) (A 18) (a (b + 14 + 2) K) i)
    (g1 : asc (a2 (b + 20 + 1)) (a (b + 20 + 2) K) u) (g2 : ∀ h, 0 ≤ h → h < 200 → (mem (a2 (b + 20 + 1)) (a (b + 20 + 2) K) u h ↔ bt (J2 20) (4 * (200 * q + K)) h)) (g3 : ∀ h, mem (a2 (b + 20 + 1)) (a (b + 20 + 2) K) u h → 0 ≤ h ∧ h < K ∧ a (b + 8) h < 2) (g4 : kd < 2 → u = a (b + 20 + 2) K)
    (ma1 : 2 ≤ kd → ∀ i, 0 ≤ i → i < A 12 (200 * q + K) → a (b + 7) (a (b + 11 + 1) (a (b + 11 + 2) K + i)) = 1 → ∃ h, mem (a2 (b + 20 + 1)) (a (b + 20 + 2) K) u h ∧ a (b + 8) h = 0 ∧ a (b + 11 + 1) (a (b + 11 + 2) h + 1) = a (b + 11 + 1) (a (b + 11 + 2) K + i)) (ma2 : 2 ≤ kd → ∀ e, mem (a2 (b + 20 + 1)) (a (b + 20 + 2) K) u e → a (b + 8) e = 1 → ∀ i, 0 ≤ i → i < A 12 (200 * q + e) → a (b + 7) (a (b + 11 + 1) (a (b + 11 + 2) e + i)) = 1 → ∃ h, mem (a2 (b + 20 + 1)) (a (b + 20 + 2) K) u h ∧ h < e ∧ a (b + 8) h = 0 ∧ a (b + 11 + 1) (a (b + 11 + 2) h + 1) = a (b + 11 + 1) (a (b + 11 + 2) e + i))
    (nun : ∀ h, 0 ≤ h → h < K → a (b + 8) h < 2 → (bt (J2 19) (4 * (200 * q + K)) h ↔ K < a (b + 10) h) ∧ 0 ≤ a (b + 10) h ∧ a (b + 10) h ≤ 200) (p1 : asc (a2 (b + 23 + 1)) (a (b + 23 + 2) K) v) (p2 : asc (a2 (b + 26 + 1)) (a (b + 26 + 2) K) w') (p3 : kd = 3 → ∀ z, mem (a2 (b + 26 + 1)) (a (b + 26 + 2) K) w' z ↔ ∃ x y, 0 ≤ x ∧ x < y ∧ y < 300 ∧ z = 300 * x + y ∧ pa q P (A 21) (A 22) (A 23) (A 24) K x y) (p4 : 2 ≤ kd → ∀ z, mem (a2 (b + 23 + 1)) (a (b + 23 + 2) K) v z ↔ ∃ x y, 0 ≤ x ∧ x < y ∧ y < 300 ∧ z = 300 * x + y ∧ pa q P (A 21) (A 22) (A 23) (A 24) K x y ∧ mf (a2 (b + 20 + 1)) (v1 (a (b + 20 + 2)) (K + 1) u) (v1 (a (b + 8)) K kd) (a (b + 11 + 1)) (v1 (a (b + 11 + 2)) (K + 1) p36) K x ∧ mf (a2 (b + 20 + 1)) (v1 (a (b + 20 + 2)) (K + 1) u) (v1 (a (b + 8)) K kd) (a (b + 11 + 1)) (v1 (a (b + 11 + 2)) (K + 1) p36) K y) (p5 : kd < 2 → v = a (b + 23 + 2) K)
    (nfm : kd = 3 → 0 ≤ a2 (b + 30) K ∧ a2 (b + 30) K ≤ A 14 (200 * q + K) ∧ ((a2 (b + 29) K = 1 ∧ 0 < A 14 (200 * q + K) ∧ one q (a (b + 2)) (a (b + 14 + 1)) (A 18) (a (b + 14 + 2) K) 40 ∧ 1 ≤ a2 (b + 30) K ∧ (∀ i, 1 ≤ i → i < a2 (b + 30) K → ¬one q (a (b + 2)) (a (b + 14 + 1)) (A 18) (a (b + 14 + 2) K + i) 41) ∧ (a2 (b + 30) K < A 14 (200 * q + K) → one q (a (b + 2)) (a (b + 14 + 1)) (A 18) (a (b + 14 + 2) K + a2 (b + 30) K) 41)) ∨ (a2 (b + 29) K = 0 ∧ ¬(0 < A 14 (200 * q + K) ∧ one q (a (b + 2)) (a (b + 14 + 1)) (A 18) (a (b + 14 + 2) K) 40) ∧ a2 (b + 30) K = A 14 (200 * q + K))))
    (nax : kd = 3 → ∀ x, 0 ≤ x → x < 200 → (bt (j2 (b + 31)) (K * 4) x ↔ ∃ i, 0 ≤ i ∧ i < a2 (b + 30) K ∧ ((a (b + 17 + 1) (a (b + 17 + 2) K + i) = x ∧ v1 (a (b + 8)) K kd x = 2) ∨ (0 ≤ a (b + 17 + 1) (a (b + 17 + 2) K + i) ∧ v1 (a (b + 8)) K kd (a (b + 17 + 1) (a (b + 17 + 2) K + i)) = 3 ∧ bt (j (b + 31)) (a (b + 17 + 1) (a (b + 17 + 2) K + i) * 4) x)))) (hle : kd ≠ 3 → a2 (b + 30) K ≤ 0 ∨ True) (grw2 : Grw b (K + 1) f2 a2 ni2) : BK b q S (K + 1) P len f2 a2 ni2 j2 A2 J2 := by
  obtain ⟨⟨b1, b2, b3, b4, b5, b6, b7, b8, b9⟩, gn, glb, gk, gf, gt, ghy, gma, gun, gpo, gpr, gfm, gax, grw⟩ := G
  have w := grw
  obtain ⟨w1, w2, w3, w4, w5, w6, w7, w8, w9, w10, w11, w12⟩ := w
  have m20 := rw_mono w4
  have m23 := rw_mono w5
  have m26 := rw_mono w6
  rw [w10] at m20
  rw [w11] at m23
  rw [w12] at m26
  unfold BK
  rw [x3, x5, x2, y2, y3, y4, y5, y6, y7, y8, y9, z11, s11, z14, s14, z17, s17, s20, s23, s26, hA15]
  rw [hA 3 (by omega) (by omega), hA 4 (by omega) (by omega), hA 5 (by omega) (by omega), hA 6 (by omega) (by omega), hA 7 (by omega) (by omega), hA 8 (by omega) (by omega), hA 9 (by omega) (by omega), hA 10 (by omega) (by omega), hA 11 (by omega) (by omega), hA 12 (by omega) (by omega), hA 13 (by omega) (by omega), hA 14 (by omega) (by omega), hA 16 (by omega) (by omega), hA 17 (by omega) (by omega), hA 18 (by omega) (by omega), hA 21 (by omega) (by omega), hA 22 (by omega) (by omega), hA 23 (by omega) (by omega), hA 24 (by omega) (by omega), hA 25 (by omega) (by omega)]
  obtain ⟨F1, F2, F3, F4⟩ := nF
  refine ⟨⟨rfl, b2, rfl, rfl, b5, rfl, b7, b8, b9⟩, gn_lab gn b8 L, glb_n glb L.2.2.2.2.2.2.1, gk_n gk n7 n7a n7b n10 n10a n10b, gf_n gf n11 n12 n12a n12b F1 (F2 (by omega)) (fun z => ⟨n12c z, (F3 z (by have := n12c z; omega)).1⟩), gt_n gt n13 n14 n14s n14a n14b n14c nT, ghy_n ghy m20 z20 hJ20 g1 g2 g3 g4, gma_n gma ghy m20 z20 (fun h x => ⟨(g3 h x).1, (g3 h x).2.1⟩) ma1 ma2, gun_n gun y10 hJ19 L.1 nun, gpo, gpr_n gpr ghy m20 m23 m26 z20 z23 z26 p1 p2 p3 p4 p5, gfm_n gfm c29 nfm, ?_, grw2⟩
  by_cases e : kd = 3
  · refine gax_n gax gt (fun k k1 k2 k3 => ⟨(gfm k k1 k2 k3).1, (gfm k k1 k2 k3).2.1⟩) (fun k k1 k2 => (c29 k k1 k2).2) jx L.1 (fun i i1 i2 => ?_) nax
    have := (nfm e).2.1
    have hK0 := gn.2.2.1
    obtain ⟨⟨_, _, y⟩, _⟩ := nT i i1 (by omega)
    rw [n14s]
    rcases y with ⟨y, _⟩ | ⟨y1, y2, _⟩ <;> omega
  · -- no proof: nothing is said of it
    intro k k1 k2 k3
    have hne : k ≠ K := by
      intro z
      rw [z, v1_s] at k3
      exact e k3
    have hb : ∀ y x, 0 ≤ y → y < K → 0 ≤ x → x < 200 → (bt (j2 (b + 31)) (y * 4) x ↔ bt (j (b + 31)) (y * 4) x) := by
      intro y x y1 y2 x1 x2
      unfold bt
      rw [jx _ (by omega)]
    rw [v1_o hne] at k3
    intro x q1 q2
    have hkK : k < K := by omega
    have hc := (c29 k k1 hkK).2
    obtain ⟨t1, t2, t3, t4, t5, t6, t7, t8⟩ := gt k k1 hkK
    obtain ⟨l1, l2, _⟩ := gfm k k1 hkK k3
    have hn : ∀ i, 0 ≤ i → i < a (b + 30) k → -1 ≤ a (b + 17 + 1) (a (b + 17 + 2) k + i) ∧ a (b + 17 + 1) (a (b + 17 + 2) k + i) < k := by
      intro i i1 i2
      obtain ⟨⟨_, _, y⟩, _⟩ := t8 i i1 (by omega)
      rw [t3]
      rcases y with ⟨y, _⟩ | ⟨y1, y2, _⟩ <;> omega
    have e1 : v1 (a (b + 17 + 2)) (K + 1) p37 k = a (b + 17 + 2) k := v1_o (by omega)
    have g := gax k k1 hkK k3 x q1 q2
    rw [hb k x k1 hkK q1 q2, g, hc, e1]
    clear g
    constructor
    · rintro ⟨i, i1, i2, i3 | ⟨i3, i4, i5⟩⟩
      · have := hn i i1 i2
        refine ⟨i, i1, i2, Or.inl ⟨i3.1, ?_⟩⟩
        rw [v1_o (by omega)]; exact i3.2
      · have := hn i i1 i2
        refine ⟨i, i1, i2, Or.inr ⟨i3, ?_, (hb _ x i3 (by omega) q1 q2).mpr i5⟩⟩
        rw [v1_o (by omega)]; exact i4
    · rintro ⟨i, i1, i2, i3 | ⟨i3, i4, i5⟩⟩
      · have := hn i i1 i2
        have i4 := i3.2
        rw [v1_o (by omega)] at i4
        exact ⟨i, i1, i2, Or.inl ⟨i3.1, i4⟩⟩
      · have := hn i i1 i2
        rw [v1_o (by omega)] at i4
        exact ⟨i, i1, i2, Or.inr ⟨i3, i4, (hb _ x i3 (by omega) q1 q2).mp i5⟩⟩
end NX2
