/-! The steps of a proof as a tree -/
section RPN
variable {N R tk : Int} {nd a79 A35 A39 A44 A45 A46 A47 dp : Int → Int}
/-- which step put the row r on, before step x -/
def sst (dp nd : Int → Int) : Nat → Int → Int
  | 0, _ => 0
  | i + 1, r => if r = dp i - nd i then (i : Int) else sst dp nd i r
def ssx (dp nd : Int → Int) (x r : Int) : Int := sst dp nd x.toNat r
theorem ssx_1 {x : Int} (h : 0 ≤ x) : ssx dp nd (x + 1) (dp x - nd x) = x := by
  unfold ssx
  rw [show (x + 1).toNat = x.toNat + 1 by omega]
  show (if dp x - nd x = dp ((x.toNat : Nat) : Int) - nd ((x.toNat : Nat) : Int) then ((x.toNat : Nat) : Int) else sst dp nd x.toNat (dp x - nd x)) = x
  rw [show ((x.toNat : Nat) : Int) = x by omega, if_pos rfl]
theorem ssx_o {x r : Int} (h : 0 ≤ x) (hr : r ≠ dp x - nd x) : ssx dp nd (x + 1) r = ssx dp nd x r := by
  unfold ssx
  rw [show (x + 1).toNat = x.toNat + 1 by omega]
  show (if r = dp ((x.toNat : Nat) : Int) - nd ((x.toNat : Nat) : Int) then ((x.toNat : Nat) : Int) else sst dp nd x.toNat r) = _
  rw [show ((x.toNat : Nat) : Int) = x by omega, if_neg hr]
theorem ssx_p (d0 : dp 0 = 0) (hd : ∀ x, 0 ≤ x → x < N → 0 ≤ nd x ∧ nd x ≤ dp x ∧ dp (x + 1) = dp x - nd x + 1) (x : Nat) : (x : Int) ≤ N → 0 ≤ dp x ∧ (0 < x → 1 ≤ dp x ∧ ssx dp nd x (dp x - 1) = x - 1) ∧ ∀ r, 0 ≤ r → r < dp x → 0 ≤ ssx dp nd x r ∧ ssx dp nd x r < x ∧ dp (ssx dp nd x r) - nd (ssx dp nd x r) = r ∧ ∀ r', 0 ≤ r' → r' < r → ssx dp nd (ssx dp nd x r) r' = ssx dp nd x r' ∧ ssx dp nd x r' < ssx dp nd x r := by
  induction x with
  | zero =>
    intro _
    have e : ((0 : Nat) : Int) = 0 := rfl
    rw [e, d0]
    exact ⟨by decide, fun h => absurd h (by decide), fun r r0 r1 => by omega⟩
  | succ x ih =>
    intro hx
    obtain ⟨i1, i2, i3⟩ := ih (by omega)
    obtain ⟨h1, h2, h3⟩ := hd x (by omega) (by omega)
    have e : ((x + 1 : Nat) : Int) = (x : Int) + 1 := by omega
    have es : ssx dp nd ((x : Int) + 1) (dp x - nd x) = x := ssx_1 (by omega)
    rw [e, h3]
    refine ⟨by omega, fun _ => ⟨by omega, by rw [show dp (x : Int) - nd x + 1 - 1 = dp x - nd x by omega, es]; omega⟩, fun r r0 r1 => ?_⟩
    by_cases c : r = dp x - nd x
    · rw [c, es]
      refine ⟨by omega, by omega, rfl, fun r' q0 q1 => ?_⟩
      rw [ssx_o (by omega) (by omega)]
      obtain ⟨k1, k2, _⟩ := i3 r' q0 (by omega)
      exact ⟨rfl, k2⟩
    · rw [ssx_o (by omega) c]
      obtain ⟨k1, k2, k3, k4⟩ := i3 r r0 (by omega)
      refine ⟨k1, by omega, k3, fun r' q0 q1 => ?_⟩
      rw [ssx_o (by omega) (by omega)]
      exact k4 r' q0 q1
/-- the steps of a proof, each with what it takes, and where its own begin -/
def RPN (N : Int) (nd : Int → Int) (ch : Int → Int → Int) (lo : Int → Int) : Prop := ∀ x, 0 ≤ x → x < N → 0 ≤ nd x ∧ 0 ≤ lo x ∧ lo x ≤ x ∧ (nd x = 0 → lo x = x) ∧ (∀ t, 0 ≤ t → t < nd x → 0 ≤ ch x t ∧ ch x t < x) ∧ (0 < nd x → lo (ch x 0) = lo x ∧ ch x (nd x - 1) = x - 1) ∧ ∀ t, 0 ≤ t → t + 1 < nd x → lo (ch x (t + 1)) = ch x t + 1
theorem rpn_of (H : TREE N R tk nd a79 A35 A39 A44 A45 A46 A47) (hN : 0 < N) (hR : R = 1) : ∃ (dp : Int → Int) (SS ch : Int → Int → Int) (lo : Int → Int), RPN N nd ch lo ∧ lo (N - 1) = 0 ∧ A39 0 = A47 (N - 1) ∧ dp 0 = 0 ∧ SS N 0 = N - 1 ∧ ∀ x, 0 ≤ x → x < N → (0 ≤ nd x ∧ nd x ≤ dp x ∧ dp x ≤ x ∧ dp (x + 1) = dp x - nd x + 1) ∧ SS (x + 1) (dp x - nd x) = x ∧ (∀ r, 0 ≤ r → r < dp x - nd x → SS (x + 1) r = SS x r) ∧ (∀ t, ch x t = SS x (dp x - nd x + t)) ∧ (∀ r, 0 ≤ r → r < dp x → 0 ≤ SS x r ∧ SS x r < x) ∧ A46 x = nd x ∧ 0 ≤ A45 x ∧ A45 x + nd x ≤ tk ∧ (∀ t, 0 ≤ t → t < nd x → A44 (A45 x + t) = A47 (ch x t)) ∧ (0 ≤ a79 x → A47 x = x) ∧ (a79 x < 0 → 0 ≤ A35 (-1 - a79 x) ∧ A35 (-1 - a79 x) < x ∧ A47 x = A47 (A35 (-1 - a79 x))) := by
  obtain ⟨dp, NS, d0, dN, dA, dx⟩ := H
  have hd : ∀ x, 0 ≤ x → x < N → 0 ≤ nd x ∧ nd x ≤ dp x ∧ dp (x + 1) = dp x - nd x + 1 := fun x x0 x1 => by
    obtain ⟨h1, h2, h3, _⟩ := dx x x0 x1
    exact ⟨h1, h2, h3⟩
  have hp : ∀ x, 0 ≤ x → x ≤ N → 0 ≤ dp x ∧ (0 < x → 1 ≤ dp x ∧ ssx dp nd x (dp x - 1) = x - 1) ∧ ∀ r, 0 ≤ r → r < dp x → 0 ≤ ssx dp nd x r ∧ ssx dp nd x r < x ∧ dp (ssx dp nd x r) - nd (ssx dp nd x r) = r ∧ ∀ r', 0 ≤ r' → r' < r → ssx dp nd (ssx dp nd x r) r' = ssx dp nd x r' ∧ ssx dp nd x r' < ssx dp nd x r := by
    intro x x0 x1
    have h := ssx_p d0 hd x.toNat (by omega)
    rw [show ((x.toNat : Nat) : Int) = x by omega] at h
    exact ⟨h.1, fun y => h.2.1 (by omega), h.2.2⟩
  have hns : ∀ x : Nat, (x : Int) ≤ N → ∀ r, 0 ≤ r → r < dp x → NS x r = A47 (ssx dp nd x r) := by
    intro x
    induction x with
    | zero =>
      intro _ r r0 r1
      have e : ((0 : Nat) : Int) = 0 := rfl
      rw [e, d0] at r1
      omega
    | succ x ih =>
      intro hx r r0 r1
      obtain ⟨h1, h2, h3, h4, h5, _⟩ := dx x (by omega) (by omega)
      rw [show ((x + 1 : Nat) : Int) = (x : Int) + 1 by omega] at r1 ⊢
      rw [h3] at r1
      by_cases c : r = dp x - nd x
      · rw [c, ssx_1 (by omega)]
        exact h5
      · rw [ssx_o (by omega) c, h4 r r0 (by omega)]
        exact ih (by omega) r r0 (by omega)
  have hle : ∀ x : Nat, (x : Int) ≤ N → dp x ≤ x := by
    intro x
    induction x with
    | zero =>
      intro _
      have e : ((0 : Nat) : Int) = 0 := rfl
      rw [e, d0]
      exact Int.le_refl _
    | succ x ih =>
      intro hx
      obtain ⟨h1, h2, h3⟩ := hd x (by omega) (by omega)
      have := ih (by omega)
      rw [show ((x + 1 : Nat) : Int) = (x : Int) + 1 by omega, h3]
      omega
  have hN' := hp N (by omega) (Int.le_refl _)
  rw [dN, hR] at hN'
  have hS : ssx dp nd N 0 = N - 1 := (hN'.2.1 hN).2
  have hlast := hp (N - 1) (by omega) (by omega)
  have hdl := hd (N - 1) (by omega) (by omega)
  rw [show N - 1 + 1 = N by omega, dN, hR] at hdl
  refine ⟨dp, ssx dp nd, fun x t => ssx dp nd x (dp x - nd x + t), fun x => if dp x - nd x = 0 then 0 else ssx dp nd x (dp x - nd x - 1) + 1, ?_, ?_, ?_, d0, hS, fun x x0 x1 => ?_⟩
  · intro x x0 x1
    obtain ⟨h1, h2, h3⟩ := hd x x0 x1
    obtain ⟨p1, p2, p3⟩ := hp x x0 (by omega)
    show 0 ≤ nd x ∧ 0 ≤ (if dp x - nd x = 0 then 0 else ssx dp nd x (dp x - nd x - 1) + 1) ∧ (if dp x - nd x = 0 then 0 else ssx dp nd x (dp x - nd x - 1) + 1) ≤ x ∧ (nd x = 0 → (if dp x - nd x = 0 then 0 else ssx dp nd x (dp x - nd x - 1) + 1) = x) ∧ (∀ t, 0 ≤ t → t < nd x → 0 ≤ ssx dp nd x (dp x - nd x + t) ∧ ssx dp nd x (dp x - nd x + t) < x) ∧ (0 < nd x → (if dp (ssx dp nd x (dp x - nd x + 0)) - nd (ssx dp nd x (dp x - nd x + 0)) = 0 then 0 else ssx dp nd (ssx dp nd x (dp x - nd x + 0)) (dp (ssx dp nd x (dp x - nd x + 0)) - nd (ssx dp nd x (dp x - nd x + 0)) - 1) + 1) = (if dp x - nd x = 0 then 0 else ssx dp nd x (dp x - nd x - 1) + 1) ∧ ssx dp nd x (dp x - nd x + (nd x - 1)) = x - 1) ∧ ∀ t, 0 ≤ t → t + 1 < nd x → (if dp (ssx dp nd x (dp x - nd x + (t + 1))) - nd (ssx dp nd x (dp x - nd x + (t + 1))) = 0 then 0 else ssx dp nd (ssx dp nd x (dp x - nd x + (t + 1))) (dp (ssx dp nd x (dp x - nd x + (t + 1))) - nd (ssx dp nd x (dp x - nd x + (t + 1))) - 1) + 1) = ssx dp nd x (dp x - nd x + t) + 1
    refine ⟨h1, ?_, ?_, fun h => ?_, fun t t0 t1 => ?_, fun h => ⟨?_, ?_⟩, fun t t0 t1 => ?_⟩
    · split
      · omega
      · have := p3 (dp x - nd x - 1) (by omega) (by omega)
        omega
    · split
      · omega
      · have := p3 (dp x - nd x - 1) (by omega) (by omega)
        omega
    · rw [h, Int.sub_zero]
      by_cases c : x = 0
      · rw [c, d0, if_pos rfl]
      · obtain ⟨q1, q2⟩ := p2 (by omega)
        rw [if_neg (by omega), q2]
        omega
    · obtain ⟨q1, q2, _⟩ := p3 (dp x - nd x + t) (by omega) (by omega)
      exact ⟨q1, q2⟩
    · obtain ⟨q1, q2, q3, q4⟩ := p3 (dp x - nd x + 0) (by omega) (by omega)
      rw [q3]
      by_cases c : dp x - nd x = 0
      · rw [if_pos (by omega), if_pos c]
      · rw [if_neg (by omega), if_neg c, show dp x - nd x + 0 - 1 = dp x - nd x - 1 by omega, (q4 _ (by omega) (by omega)).1]
    · rw [show dp x - nd x + (nd x - 1) = dp x - 1 by omega]
      by_cases c : x = 0
      · rw [c] at h h2
        omega
      · exact (p2 (by omega)).2
    · obtain ⟨q1, q2, q3, q4⟩ := p3 (dp x - nd x + (t + 1)) (by omega) (by omega)
      rw [q3, if_neg (by omega), show dp x - nd x + (t + 1) - 1 = dp x - nd x + t by omega, (q4 _ (by omega) (by omega)).1]
  · show (if dp (N - 1) - nd (N - 1) = 0 then 0 else ssx dp nd (N - 1) (dp (N - 1) - nd (N - 1) - 1) + 1) = 0
    rw [if_pos (by omega)]
  · have e := hns N.toNat (by omega) 0 (by omega) (by rw [show ((N.toNat : Nat) : Int) = N by omega, dN]; omega)
    rw [show ((N.toNat : Nat) : Int) = N by omega, hS] at e
    rw [dA 0 (by omega) (by omega), e]
  · obtain ⟨h1, h2, h3, h4, h5, h6, h7, h8, h9, h10, h11⟩ := dx x x0 x1
    obtain ⟨p1, p2, p3⟩ := hp x x0 (by omega)
    have hl := hle x.toNat (by omega)
    rw [show ((x.toNat : Nat) : Int) = x by omega] at hl
    refine ⟨⟨h1, h2, hl, h3⟩, ssx_1 x0, fun r r0 r1 => ssx_o x0 (by omega), fun t => rfl, fun r r0 r1 => ?_, h6, h7, h8, fun t t0 t1 => ?_, h10, h11⟩
    · obtain ⟨q1, q2, _⟩ := p3 r r0 r1
      exact ⟨q1, q2⟩
    · have e := hns x.toNat (by omega) (dp x - nd x + t) (by omega) (by rw [show ((x.toNat : Nat) : Int) = x by omega]; omega)
      rw [show ((x.toNat : Nat) : Int) = x by omega] at e
      rw [h9 t t0 t1, e]
end RPN
