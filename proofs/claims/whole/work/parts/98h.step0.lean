/-! Small changes leave the relations -/
/-- A2 differs from A at most at the statement that comes next -/
def agK (q K : Int) (A A2 : Nat → Int → Int) : Prop := (∀ i, ¬(7 ≤ i ∧ i ≤ 14) → A2 i = A i) ∧ ∀ i, 7 ≤ i → i ≤ 14 → ∀ k, 0 ≤ k → k < K → A2 i (200 * q + k) = A i (200 * q + k)
theorem agK_0 {q K : Int} {A : Nat → Int → Int} : agK q K A A := ⟨fun _ _ => rfl, fun _ _ _ _ _ _ => rfl⟩
theorem agK_v {q K x : Int} {A A2 : Nat → Int → Int} {i : Nat} (h : agK q K A A2) (hi : 7 ≤ i ∧ i ≤ 14) : agK q K A (v2 A2 i (200 * q + K) x) := by
  obtain ⟨h1, h2⟩ := h
  refine ⟨fun y hy => ?_, fun y y1 y2 k k1 k2 => ?_⟩
  · rw [v2_o (by omega)]; exact h1 y hy
  · by_cases e : y = i
    · subst e
      rw [v2_s, v1_o (by omega)]; exact h2 y y1 y2 k k1 k2
    · rw [v2_o e]; exact h2 y y1 y2 k k1 k2
section CH
variable {b n : Nat} {q S K P len c : Int} {f f2 : Nat → Nat → Int} {a a2 : Nat → Int → Int} {ni ni2 : Nat → Nat} {j : Nat → Int → Int64} {F F2 : Nat → Int} {A A2 : Nat → Int → Int} {J : Nat → Int → Int64}
theorem grw_c (H : Grw b K f a ni) (hf : ∀ i, b ≤ i → i < b + 32 → f2 i = f i) : Grw b K f2 a ni := by
  unfold Grw at *
  rw [hf (b + 11) (by omega) (by omega), hf (b + 14) (by omega) (by omega), hf (b + 17) (by omega) (by omega), hf (b + 20) (by omega) (by omega), hf (b + 23) (by omega) (by omega), hf (b + 26) (by omega) (by omega)]
  exact H
theorem bk_k (G : BK b q S K P len f a ni j A J) (hf : ∀ i, b ≤ i → i < b + 32 → f2 i = f i) (h : agK q K A A2) : BK b q S K P len f2 a ni j A2 J := by
  obtain ⟨h1, h2⟩ := h
  have G' := G
  obtain ⟨⟨b1, b2, b3, b4, b5, b6, b7, b8, b9⟩, gn, glb, gk, gf, gt, ghy, gma, gun, gpo, gpr, gfm, gax, grw⟩ := G'
  refine bk_c G ⟨hf b (by omega) (by omega), fun _ _ => rfl, fun _ _ => ⟨rfl, fun _ _ _ => rfl⟩, rfl, by rw [h1 6 (by omega)], by rw [h1 15 (by omega)], fun i i1 i2 x _ _ => by rw [h1 i (by omega)], h2, fun s _ _ => by rw [h1 16 (by omega)], fun i i1 i2 s _ _ => by rw [h1 i (by omega)], fun _ _ _ _ _ _ _ _ _ => Iff.rfl⟩ gun (by rw [h1 25 (by omega)]; exact b5) (by rw [h1 21 (by omega), h1 22 (by omega), h1 23 (by omega), h1 24 (by omega)]; exact gpo) (fun k _ _ x y => by rw [h1 21 (by omega), h1 22 (by omega), h1 23 (by omega), h1 24 (by omega)]) (grw_c grw hf)
theorem oc_c {it it2 st A12 B12 : Int → Int} {k x : Int} (h1 : B12 (200 * q + k) = A12 (200 * q + k)) (h2 : ∀ i, 0 ≤ i → i < A12 (200 * q + k) → it2 (st k + i) = it (st k + i)) : oc q it2 st B12 k x = oc q it st A12 k x := by
  unfold oc
  rw [h1]
  apply cn_congr
  intro y y1 y2
  rw [h2 y y1 (by omega)]
/-- the hypotheses' counts depend on their formulas alone -/
theorem ndv_c {it it2 st A12 B12 ki hv : Int → Int} {hc x : Int} (h1 : ∀ i, 0 ≤ i → i < hc → B12 (200 * q + hv i) = A12 (200 * q + hv i) ∧ ∀ y, 0 ≤ y → y < A12 (200 * q + hv i) → it2 (st (hv i) + y) = it (st (hv i) + y)) : ndv q it2 st B12 ki hv hc x = ndv q it st A12 ki hv hc x := by
  unfold ndv
  apply nsum_congr
  intro i i1 i2
  rw [oc_c (h1 i i1 (by omega)).1 (h1 i i1 (by omega)).2]
theorem rs_c (R : Rs b q S K P f a F A) (G : BK b q S K P len f a ni j A J) (h1 : f2 66 = f 66) (h2 : ∀ i, 67 ≤ i → i ≤ 75 → a2 i = a i) (h3 : ∀ r, 7 ≤ r → r ≤ 10 → a2 (b + r) = a (b + r)) (h4 : a2 (b + 11 + 2) = a (b + 11 + 2)) (h5 : ∀ i, 0 ≤ i → i < a (b + 11 + 2) K → a2 (b + 11 + 1) i = a (b + 11 + 1) i) (h6 : F2 43 = F 43) (h7 : ∀ i, 21 ≤ i → i ≤ 30 → i ≠ 25 → A2 i = A i) (h8 : ∀ k, 0 ≤ k → k < K → A2 12 (200 * q + k) = A 12 (200 * q + k)) : Rs b q S K P f2 a2 F2 A2 := by
  obtain ⟨⟨b1, b2, b3, b4, b5, b6, b7, b8, b9⟩, gn, glb, gk, gf, gt, ghy, gma, gun, gpo, gpr, gfm, gax, grw⟩ := G
  obtain ⟨r1, r2, r3, r4, r5, r6, r7⟩ := R
  have m11 := rw_mono grw.1
  have w7 : f (b + 11) 3 = K := grw.2.2.2.2.2.2.1
  rw [w7] at m11
  unfold Rs
  rw [h1, h2 67 (by omega) (by omega), h2 68 (by omega) (by omega), h2 69 (by omega) (by omega), h2 70 (by omega) (by omega), h2 71 (by omega) (by omega), h2 72 (by omega) (by omega), h2 73 (by omega) (by omega), h2 74 (by omega) (by omega), h2 75 (by omega) (by omega), h3 7 (by omega) (by omega), h3 8 (by omega) (by omega), h3 9 (by omega) (by omega), h3 10 (by omega) (by omega), h4, h6, h7 21 (by omega) (by omega) (by omega), h7 22 (by omega) (by omega) (by omega), h7 23 (by omega) (by omega) (by omega), h7 24 (by omega) (by omega) (by omega), h7 26 (by omega) (by omega) (by omega), h7 27 (by omega) (by omega) (by omega), h7 28 (by omega) (by omega) (by omega), h7 29 (by omega) (by omega) (by omega), h7 30 (by omega) (by omega) (by omega)]
  refine ⟨r1, r2, r3, ⟨fun x x1 x2 => ?_, fun k k1 k2 k3 k4 => ?_⟩, fun e e1 e2 e3 e4 i i1 i2 i3 => ?_, fun x x1 x2 => ?_, r7⟩
  · obtain ⟨c1, c2, c3, c4⟩ := r4.1 x x1 x2
    refine ⟨c1, c2, c3, fun h => ?_⟩
    obtain ⟨d1, d2, d3, d4, d5⟩ := c4 h
    have m := mono_k m11 h d1
    have m2 := gf_two gf _ h d1 d3
    rw [h5 _ (by omega) (by omega)]
    exact ⟨d1, d2, d3, d4, d5⟩
  · have m := mono_k m11 k1 k2
    have m2 := gf_two gf k k1 k2 k4
    rw [h5 _ (by omega) (by omega)]
    exact r4.2 k k1 k2 k3 k4
  · have m := mono_k m11 e1 e2
    have g := gf e e1 e2
    rw [h8 e e1 e2] at i2
    rw [h5 _ (by omega) (by omega)] at i3 ⊢
    exact r5 e e1 e2 e3 e4 i i1 i2 i3
  · rw [r6 x x1 x2]
    apply Eq.symm
    apply ndv_c
    intro i i1 i2
    obtain ⟨c1, c2, c3⟩ := r2.2.1 i i1 i2
    have m := mono_k m11 (by omega : 0 ≤ a 73 i) c2
    have g := gf (a 73 i) (by omega) c2
    exact ⟨h8 _ (by omega) c2, fun y y1 y2 => h5 _ (by omega) (by omega)⟩
theorem rs_k (R : Rs b q S K P f a F A) (G : BK b q S K P len f a ni j A J) (h1 : f2 66 = f 66) (h6 : F2 43 = F 43) (h : agK q K A A2) : Rs b q S K P f2 a F2 A2 := rs_c R G h1 (fun _ _ _ => rfl) (fun _ _ _ => rfl) rfl (fun _ _ _ => rfl) h6 (fun i i1 i2 i3 => h.1 i (by omega)) (h.2 12 (by omega) (by omega))
theorem pb_m {om D tm e0 : Int} (h : PB P om D tm c) (h2 : c ≤ e0) (h3 : 0 < e0) : PB P om D tm e0 := by unfold PB at *; omega
end CH
