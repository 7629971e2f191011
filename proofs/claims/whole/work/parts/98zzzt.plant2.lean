/-! The nodes of a proof, in the class: all of them -/
section PLB
variable {n b : Nat} {N c i r k c2 : Int} {nd nm nu can cn lo dp can2 : Int → Int} {ch SS : Int → Int → Int} {f : Nat → Nat → Int} {d : Nat → Nat} {a : Nat → Int → Int} {ni : Nat → Nat} {j : Nat → Int → Int64} {A34 A35 A36 : Int → Int}
theorem nds_add (H : NDS i c nd nm ch nu can cn) (T : RPN N nd ch lo) (i0 : 0 ≤ i) (iN : i < N) (hr : (r = c ∧ can2 = v1 can c i ∧ c2 = c + 1 ∧ 0 ≤ nm i) ∨ (0 ≤ r ∧ r < c ∧ can2 = can ∧ c2 = c)) (h1 : nm i < 0 → nd i = 0) (h2 : r < c → 0 ≤ nm i → nm (can r) = nm i ∧ nd (can r) = nd i ∧ ∀ t, 0 ≤ t → t < nd i → nu (ch i t) = nu (ch (can r) t)) : NDS (i + 1) c2 nd nm ch (v1 nu i r) can2 (v1 cn (i + 1) c2) ∧ (∀ y, 0 ≤ y → y < c → can2 y = can y) ∧ (∀ y t, 0 ≤ y → y < c → 0 ≤ t → t < nd (can y) → v1 nu i r (ch (can2 y) t) = nu (ch (can y) t)) ∧ ∀ t, 0 ≤ t → t < nd i → v1 nu i r (ch i t) = nu (ch i t) := by
  have hci : cn i = c := H.2.1
  have hcan : ∀ y, 0 ≤ y → y < c → can2 y = can y := by
    intro y y0 y1
    rcases hr with ⟨_, e, _⟩ | ⟨_, _, e, _⟩
    · rw [e, v1_o (by omega)]
    · rw [e]
  have hch : ∀ x, 0 ≤ x → x ≤ i → ∀ t, 0 ≤ t → t < nd x → v1 nu i r (ch x t) = nu (ch x t) := by
    intro x x0 x1 t t0 t1
    obtain ⟨_, _, _, _, p5, _⟩ := T x x0 (by omega)
    obtain ⟨q1, q2⟩ := p5 t t0 t1
    rw [v1_o (by omega)]
  have hcc : ∀ y t, 0 ≤ y → y < c → 0 ≤ t → t < nd (can y) → v1 nu i r (ch (can2 y) t) = nu (ch (can y) t) := by
    intro y t y0 y1 t0 t1
    obtain ⟨c1, c2', _⟩ := nds_can H i0 y0 y1
    rw [hcan y y0 y1]
    exact hch _ c1 (by omega) t t0 t1
  refine ⟨⟨?_, by rw [v1_s], fun x x0 x1 => ?_⟩, hcan, hcc, fun t t0 t1 => hch i i0 (Int.le_refl _) t t0 t1⟩
  · rw [v1_o (by omega)]; exact H.1
  · by_cases e : x = i
    · rw [e, v1_s, v1_s, v1_o (by omega), hci]
      refine ⟨?_, h1, fun hm => ?_⟩
      · rcases hr with ⟨e1, e2, e3, e4⟩ | ⟨e1, e2, e3, e4⟩
        · exact Or.inl ⟨e1, by rw [e2, v1_s], e3, e4⟩
        · exact Or.inr ⟨e1, e2, e4⟩
      · rcases hr with ⟨e1, e2, e3, e4⟩ | ⟨e1, e2, e3, e4⟩
        · rw [e2, e1, v1_s]
          exact ⟨rfl, rfl, fun t _ _ => rfl⟩
        · obtain ⟨k1, k2, k3⟩ := h2 e2 hm
          rw [hcan r e1 e2]
          refine ⟨k1, k2, fun t t0 t1 => ?_⟩
          rw [hch i i0 (Int.le_refl _) t t0 t1, k3 t t0 t1]
          have := hcc r t e1 e2 t0 (by omega)
          rw [hcan r e1 e2] at this
          exact this.symm
    · obtain ⟨g1, g2, g3⟩ := H.2.2 x x0 (by omega)
      obtain ⟨n1, n2, n3⟩ := nds_nu H x0 (by omega : x < i)
      rw [v1_o e, v1_o (by omega), v1_o (by omega)]
      refine ⟨?_, g2, fun hm => ?_⟩
      · rcases g1 with ⟨q1, q2, q3, q4⟩ | ⟨q1, q2, q3⟩
        · exact Or.inl ⟨q1, by rw [hcan _ (by omega) (by omega)]; exact q2, q3, q4⟩
        · exact Or.inr ⟨q1, q2, q3⟩
      · obtain ⟨q1, q2, q3⟩ := g3 hm
        rw [hcan _ n1 n3]
        refine ⟨q1, q2, fun t t0 t1 => ?_⟩
        have := hcc (nu x) t n1 n3 t0 (by omega)
        rw [hcan _ n1 n3] at this
        rw [hch x x0 (by omega) t t0 t1, this]
        exact q3 t t0 t1
end PLB
