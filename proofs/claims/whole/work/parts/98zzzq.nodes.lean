/-! The nodes of a proof -/
section NDE
variable {N c : Int} {nd nm nu can cn lo : Int → Int} {ch : Int → Int → Int} {EV : Int → List Int}
theorem rec_ex {α : Type} (a0 : α) (E : Int → (Int → α) → α) (N : Nat) (hE : ∀ x g h, 0 ≤ x → x < (N : Int) → (∀ y, 0 ≤ y → y < x → g y = h y) → E x g = E x h) : ∃ g : Int → α, ∀ x, 0 ≤ x → x < (N : Int) → g x = E x g := by
  induction N with
  | zero => exact ⟨fun _ => a0, fun x x0 x1 => by omega⟩
  | succ N ih =>
    obtain ⟨g, hg⟩ := ih (fun x g h x0 x1 hy => hE x g h x0 (by omega) hy)
    refine ⟨fun x => if x = (N : Int) then E N g else g x, fun x x0 x1 => ?_⟩
    show (if x = (N : Int) then E N g else g x) = _
    have key : ∀ y, 0 ≤ y → y < x → g y = (fun x => if x = (N : Int) then E N g else g x) y := by
      intro y y0 y1
      show g y = if y = (N : Int) then E N g else g y
      rw [if_neg (by omega)]
    by_cases e : x = (N : Int)
    · rw [if_pos e, e]
      rw [e] at key
      exact hE N g _ (by omega) (by omega) key
    · rw [if_neg e, hg x x0 (by omega)]
      exact hE x g _ x0 (by omega) key
def cat (g : Int → List Int) : Nat → List Int
  | 0 => []
  | n + 1 => cat g n ++ g n
theorem cat_c {g h : Int → List Int} (n : Nat) (e : ∀ t : Nat, t < n → g t = h t) : cat g n = cat h n := by
  induction n with
  | zero => rfl
  | succ n ih =>
    show cat g n ++ g n = cat h n ++ h n
    rw [ih (fun t ht => e t (by omega)), e n (by omega)]
def sm (g : Int → Int) : Nat → Int
  | 0 => 0
  | n + 1 => sm g n + g n
theorem sm_c {g h : Int → Int} (n : Nat) (e : ∀ t : Nat, t < n → g t = h t) : sm g n = sm h n := by
  induction n with
  | zero => rfl
  | succ n ih =>
    show sm g n + g n = sm h n + h n
    rw [ih (fun t ht => e t (by omega)), e n (by omega)]
theorem sm_0 {g : Int → Int} (n : Nat) (e : ∀ t : Nat, t < n → g t = 0) : sm g n = 0 := by
  induction n with
  | zero => rfl
  | succ n ih =>
    show sm g n + g n = 0
    rw [ih (fun t ht => e t (by omega)), e n (by omega)]
    rfl
/-- each step has its node; a new node is of a step that is no mark -/
def NDS (N c : Int) (nd nm : Int → Int) (ch : Int → Int → Int) (nu can cn : Int → Int) : Prop := cn 0 = 0 ∧ cn N = c ∧ ∀ x, 0 ≤ x → x < N → ((nu x = cn x ∧ can (cn x) = x ∧ cn (x + 1) = cn x + 1 ∧ 0 ≤ nm x) ∨ (0 ≤ nu x ∧ nu x < cn x ∧ cn (x + 1) = cn x)) ∧ (nm x < 0 → nd x = 0) ∧ (0 ≤ nm x → nm (can (nu x)) = nm x ∧ nd (can (nu x)) = nd x ∧ ∀ t, 0 ≤ t → t < nd x → nu (ch x t) = nu (ch (can (nu x)) t))
theorem nds_m (H : NDS N c nd nm ch nu can cn) {x : Int} (x0 : 0 ≤ x) (r : Nat) : x + r ≤ N → cn x ≤ cn (x + r) := by
  induction r with
  | zero => intro _; rw [show x + ((0 : Nat) : Int) = x by omega]; exact Int.le_refl _
  | succ r ih =>
    intro h
    have i := ih (by omega)
    obtain ⟨h1, _⟩ := H.2.2 (x + r) (by omega) (by omega)
    rw [show x + ((r + 1 : Nat) : Int) = x + r + 1 by omega]
    omega
theorem nds_le (H : NDS N c nd nm ch nu can cn) {x y : Int} (x0 : 0 ≤ x) (xy : x ≤ y) (y1 : y ≤ N) : cn x ≤ cn y := by
  have := nds_m H x0 (y - x).toNat (by omega)
  rwa [show x + ((y - x).toNat : Int) = y by omega] at this
theorem nds_x (H : NDS N c nd nm ch nu can cn) (x : Nat) : (x : Int) ≤ N → cn x ≤ x := by
  induction x with
  | zero => intro _; exact Int.le_of_eq H.1
  | succ x ih =>
    intro h
    have i := ih (by omega)
    obtain ⟨h1, _⟩ := H.2.2 x (by omega) (by omega)
    rw [show ((x + 1 : Nat) : Int) = (x : Int) + 1 by omega]
    omega
theorem nds_c (H : NDS N c nd nm ch nu can cn) (x : Nat) : (x : Int) ≤ N → ∀ j, 0 ≤ j → j < cn x → 0 ≤ can j ∧ can j < x ∧ nu (can j) = j ∧ cn (can j) = j ∧ cn (can j + 1) = j + 1 ∧ 0 ≤ nm (can j) := by
  induction x with
  | zero =>
    intro _ j j0 j1
    have e : cn ((0 : Nat) : Int) = 0 := H.1
    omega
  | succ x ih =>
    intro h j j0 j1
    obtain ⟨h1, _⟩ := H.2.2 x (by omega) (by omega)
    rw [show ((x + 1 : Nat) : Int) = (x : Int) + 1 by omega] at j1 ⊢
    by_cases e : j < cn x
    · obtain ⟨i1, i2, i3, i4, i5, i6⟩ := ih (by omega) j j0 e
      exact ⟨i1, by omega, i3, i4, i5, i6⟩
    · rcases h1 with ⟨h1, h2, h3, h4⟩ | ⟨h1, h2, h3⟩
      · have ej : j = cn x := by omega
        rw [ej, h2]
        exact ⟨by omega, by omega, h1, rfl, h3, h4⟩
      · omega
theorem nds_can (H : NDS N c nd nm ch nu can cn) (hN : 0 ≤ N) {j : Int} (j0 : 0 ≤ j) (j1 : j < c) : 0 ≤ can j ∧ can j < N ∧ nu (can j) = j ∧ cn (can j) = j ∧ cn (can j + 1) = j + 1 ∧ 0 ≤ nm (can j) := by
  have h := nds_c H N.toNat (by omega) j j0 (by rw [show ((N.toNat : Nat) : Int) = N by omega, H.2.1]; exact j1)
  rwa [show ((N.toNat : Nat) : Int) = N by omega] at h
theorem nds_nu (H : NDS N c nd nm ch nu can cn) {x : Int} (x0 : 0 ≤ x) (x1 : x < N) : 0 ≤ nu x ∧ nu x < cn (x + 1) ∧ nu x < c := by
  obtain ⟨h1, _⟩ := H.2.2 x x0 x1
  have h2 := nds_le H (x := 0) (y := x) (Int.le_refl _) x0 (by omega)
  have h3 := nds_le H (x := x + 1) (y := N) (by omega) (by omega) (Int.le_refl _)
  have h4 := H.1
  have h5 := H.2.1
  omega
/-- a node taken is an earlier one -/
theorem nds_lt (H : NDS N c nd nm ch nu can cn) (T : RPN N nd ch lo) {x t : Int} (x0 : 0 ≤ x) (x1 : x < N) (hm : 0 ≤ nm x) (t0 : 0 ≤ t) (t1 : t < nd x) : nu (ch x t) < nu x := by
  obtain ⟨_, _, h3⟩ := H.2.2 x x0 x1
  obtain ⟨k1, k2, k3⟩ := h3 hm
  obtain ⟨n1, n2, n3⟩ := nds_nu H x0 x1
  obtain ⟨c1, c2, c3, c4, c5, c6⟩ := nds_can H (by omega) n1 n3
  rw [k3 t t0 t1]
  obtain ⟨_, _, _, _, p5, _⟩ := T (can (nu x)) c1 c2
  obtain ⟨q1, q2⟩ := p5 t t0 (by omega)
  obtain ⟨m1, m2, m3⟩ := nds_nu H q1 (by omega)
  have := nds_le H (x := ch (can (nu x)) t + 1) (y := can (nu x)) (by omega) (by omega) (by omega)
  omega
/-- where the row after T rows of step x begins -/
def pos (ch : Int → Int → Int) (lo : Int → Int) (x T : Int) : Int := if T = 0 then lo x else ch x (T - 1) + 1
theorem pos_lo (T : RPN N nd ch lo) {x t : Int} (x0 : 0 ≤ x) (x1 : x < N) (t0 : 0 ≤ t) (t1 : t < nd x) : lo (ch x t) = pos ch lo x t ∧ pos ch lo x (t + 1) = ch x t + 1 := by
  obtain ⟨p1, p2, p3, p4, p5, p6, p7⟩ := T x x0 x1
  unfold pos
  refine ⟨?_, by rw [if_neg (by omega), show t + 1 - 1 = t by omega]⟩
  by_cases e : t = 0
  · rw [if_pos e, e]
    exact (p6 (by omega)).1
  · rw [if_neg e]
    have := p7 (t - 1) (by omega) (by omega)
    rwa [show t - 1 + 1 = t by omega] at this
theorem pos_e (T : RPN N nd ch lo) {x : Int} (x0 : 0 ≤ x) (x1 : x < N) : pos ch lo x (nd x) = x := by
  obtain ⟨p1, p2, p3, p4, p5, p6, p7⟩ := T x x0 x1
  unfold pos
  by_cases e : nd x = 0
  · rw [if_pos e]; exact p4 e
  · rw [if_neg e, (p6 (by omega)).2]; omega
/-- a step whose node stood before its own steps adds none; else its node is new -/
theorem nds_o (H : NDS N c nd nm ch nu can cn) (T : RPN N nd ch lo) (x : Nat) : ∀ y : Int, 0 ≤ y → y < x → y < N → (nu y < cn (lo y) → cn (y + 1) = cn (lo y)) ∧ (∀ z, lo y ≤ z → z < y → 0 ≤ nm y ∧ nu z < nu y) ∧ (cn (lo y) ≤ nu y → nu y = cn y ∧ can (nu y) = y ∧ cn (y + 1) = cn y + 1 ∧ 0 ≤ nm y) := by
  induction x with
  | zero => intro y y0 y1; omega
  | succ x ih =>
    intro y y0 y1 yN
    obtain ⟨p1, p2, p3, p4, p5, p6, p7⟩ := T y y0 yN
    obtain ⟨h1, h2, h3⟩ := H.2.2 y y0 yN
    have B : ∀ z, lo y ≤ z → z < y → 0 ≤ nm y ∧ nu z < nu y := by
      intro z z0 z1
      have hpos : 0 < nd y := by
        rcases Int.lt_or_eq_of_le p1 with h | h
        · exact h
        · have := p4 h.symm; omega
      have hm : 0 ≤ nm y := by
        rcases Int.lt_or_le (nm y) 0 with h | h
        · have := h2 h; omega
        · exact h
      refine ⟨hm, ?_⟩
      have key : ∀ t : Nat, (t : Int) < nd y → z ≤ ch y t → nu z < nu y := by
        intro t
        induction t with
        | zero =>
          intro t1 hz
          have e := pos_lo T y0 yN (t := 0) (by omega) (by omega)
          have e2 := (p6 hpos).1
          have q := p5 0 (by omega) (by omega)
          have hl := nds_lt H T y0 yN hm (t := 0) (by omega) (by omega)
          have ez : ((0 : Nat) : Int) = 0 := rfl
          rw [ez] at hz
          obtain ⟨_, i2, _⟩ := ih (ch y 0) q.1 (by omega) (by omega)
          by_cases c : z = ch y 0
          · rw [c]; exact hl
          · have := (i2 z (by omega) (by omega)).2
            omega
        | succ t iht =>
          intro t1 hz
          rw [show ((t + 1 : Nat) : Int) = (t : Int) + 1 by omega] at t1 hz
          have e := p7 t (by omega) (by omega)
          have q := p5 (t + 1) (by omega) (by omega)
          have hl := nds_lt H T y0 yN hm (t := t + 1) (by omega) (by omega)
          obtain ⟨_, i2, _⟩ := ih (ch y (t + 1)) q.1 (by omega) (by omega)
          by_cases c : z = ch y (t + 1)
          · rw [c]; exact hl
          · by_cases c2 : z ≤ ch y t
            · exact iht (by omega) c2
            · have := (i2 z (by omega) (by omega)).2
              omega
      have e := (p6 hpos).2
      exact key (nd y - 1).toNat (by omega) (by rw [show ((nd y - 1).toNat : Int) = nd y - 1 by omega, e]; omega)
    have A1 : nu y < cn (lo y) → cn (y + 1) = cn (lo y) := by
      intro hlt
      have hchain : ∀ t : Nat, (t : Int) ≤ nd y → cn (pos ch lo y t) = cn (lo y) := by
        intro t
        induction t with
        | zero => intro _; rfl
        | succ t iht =>
          intro t1
          have i := iht (by omega)
          rw [show ((t + 1 : Nat) : Int) = (t : Int) + 1 by omega] at t1 ⊢
          obtain ⟨e1, e2⟩ := pos_lo T y0 yN (t := t) (by omega) (by omega)
          have q := p5 t (by omega) (by omega)
          have hm : 0 ≤ nm y := by
            rcases Int.lt_or_le (nm y) 0 with h | h
            · have := h2 h; omega
            · exact h
          have hl := nds_lt H T y0 yN hm (t := t) (by omega) (by omega)
          obtain ⟨i1, _⟩ := ih (ch y t) q.1 (by omega) (by omega)
          rw [e2, i1 (by rw [e1, i]; omega), e1, i]
      have := hchain (nd y).toNat (by omega)
      rw [show (((nd y).toNat : Nat) : Int) = nd y by omega, pos_e T y0 yN] at this
      rcases h1 with ⟨k1, k2, k3, k4⟩ | ⟨k1, k2, k3⟩
      · omega
      · omega
    refine ⟨A1, B, fun hge => ?_⟩
    rcases h1 with ⟨k1, k2, k3, k4⟩ | ⟨k1, k2, k3⟩
    · exact ⟨k1, by rw [k1]; exact k2, k3, k4⟩
    · exfalso
      have cc := nds_c H y.toNat (by omega) (nu y) k1 (by rw [show ((y.toNat : Nat) : Int) = y by omega]; exact k2)
      rw [show ((y.toNat : Nat) : Int) = y by omega] at cc
      obtain ⟨c1, c2, c3, c4, c5, c6⟩ := cc
      by_cases e : lo y ≤ can (nu y)
      · have := (B _ e c2).2
        omega
      · have := nds_le H (x := can (nu y) + 1) (y := lo y) (by omega) (by omega) (by omega)
        omega
theorem nds_new (H : NDS N c nd nm ch nu can cn) (T : RPN N nd ch lo) {y : Int} (y0 : 0 ≤ y) (y1 : y < N) : (nu y < cn (lo y) → cn (y + 1) = cn (lo y)) ∧ (cn (lo y) ≤ nu y → nu y = cn y ∧ can (nu y) = y ∧ cn (y + 1) = cn y + 1 ∧ 0 ≤ nm y) := by
  obtain ⟨h1, _, h3⟩ := nds_o H T (y.toNat + 1) y y0 (by omega) y1
  exact ⟨h1, h3⟩
end NDE
