/-! What going down a proof comes to -/
section EVE
variable {N c : Int} {nd nm nu can cn lo : Int → Int} {ch : Int → Int → Int} {EV : Int → List Int}
def EVD (N : Int) (nd nu can cn lo : Int → Int) (ch : Int → Int → Int) (EV : Int → List Int) : Prop := ∀ x, 0 ≤ x → x < N → (nd (can (nu x)) = 0 → EV x = [nu x]) ∧ (nd (can (nu x)) ≠ 0 → nu x < cn (lo x) → EV x = [1000 + nu x]) ∧ (nd (can (nu x)) ≠ 0 → cn (lo x) ≤ nu x → EV x = cat (fun t => EV (ch x t)) (nd x).toNat ++ [nu x])
theorem ev_ex (T : RPN N nd ch lo) (hN : 0 ≤ N) : ∃ EV : Int → List Int, EVD N nd nu can cn lo ch EV := by
  obtain ⟨g, hg⟩ := rec_ex ([] : List Int) (fun x g => if nd (can (nu x)) = 0 then [nu x] else if nu x < cn (lo x) then [1000 + nu x] else cat (fun t => g (ch x t)) (nd x).toNat ++ [nu x]) N.toNat (by
    intro x g h x0 x1 e
    show (if nd (can (nu x)) = 0 then [nu x] else if nu x < cn (lo x) then [1000 + nu x] else cat (fun t => g (ch x t)) (nd x).toNat ++ [nu x]) = (if nd (can (nu x)) = 0 then [nu x] else if nu x < cn (lo x) then [1000 + nu x] else cat (fun t => h (ch x t)) (nd x).toNat ++ [nu x])
    rw [cat_c (g := fun t => g (ch x t)) (h := fun t => h (ch x t)) (nd x).toNat (fun t ht => by
      obtain ⟨_, _, _, _, p5, _⟩ := T x x0 (by omega)
      obtain ⟨q1, q2⟩ := p5 t (by omega) (by omega)
      exact e _ q1 q2)])
  refine ⟨g, fun x x0 x1 => ?_⟩
  have e := hg x x0 (by omega)
  refine ⟨fun h => ?_, fun h h2 => ?_, fun h h2 => ?_⟩
  · rw [e]; exact if_pos h
  · rw [e]
    show (if nd (can (nu x)) = 0 then [nu x] else if nu x < cn (lo x) then [1000 + nu x] else cat (fun t => g (ch x t)) (nd x).toNat ++ [nu x]) = _
    rw [if_neg h, if_pos h2]
  · rw [e]
    show (if nd (can (nu x)) = 0 then [nu x] else if nu x < cn (lo x) then [1000 + nu x] else cat (fun t => g (ch x t)) (nd x).toNat ++ [nu x]) = _
    rw [if_neg h, if_neg (by omega)]
/-- each is a node that is left anew, the next node, or a node come to again -/
def gd : Int → List Int → Int → Prop
  | m, [], m' => m = m'
  | m, e :: es, m' => (0 ≤ e ∧ e < m ∧ e < 1000 ∧ gd m es m') ∨ (e = m ∧ e < 1000 ∧ gd (m + 1) es m') ∨ (1000 ≤ e ∧ e - 1000 < m ∧ gd m es m')
theorem gd_app {l2 : List Int} (l : List Int) : ∀ {m m' m'' : Int}, gd m l m' → gd m' l2 m'' → gd m (l ++ l2) m'' := by
  induction l with
  | nil => intro m m' m'' h h2; rw [show m = m' from h]; exact h2
  | cons e es ih =>
    intro m m' m'' h h2
    rcases h with ⟨h0, h1, h3, h4⟩ | ⟨h1, h3, h4⟩ | ⟨h0, h1, h4⟩
    · exact Or.inl ⟨h0, h1, h3, ih h4 h2⟩
    · exact Or.inr (Or.inl ⟨h1, h3, ih h4 h2⟩)
    · exact Or.inr (Or.inr ⟨h0, h1, ih h4 h2⟩)
theorem gd_spl {l2 : List Int} (l : List Int) : ∀ {m m'' : Int}, gd m (l ++ l2) m'' → ∃ m', gd m l m' ∧ gd m' l2 m'' := by
  induction l with
  | nil => intro m m'' h; exact ⟨m, rfl, h⟩
  | cons e es ih =>
    intro m m'' h
    rcases h with ⟨h0, h1, h3, h4⟩ | ⟨h1, h3, h4⟩ | ⟨h0, h1, h4⟩
    · obtain ⟨m', g1, g2⟩ := ih h4
      exact ⟨m', Or.inl ⟨h0, h1, h3, g1⟩, g2⟩
    · obtain ⟨m', g1, g2⟩ := ih h4
      exact ⟨m', Or.inr (Or.inl ⟨h1, h3, g1⟩), g2⟩
    · obtain ⟨m', g1, g2⟩ := ih h4
      exact ⟨m', Or.inr (Or.inr ⟨h0, h1, g1⟩), g2⟩
def cE (j : Int) : List Int → Int
  | [] => 0
  | e :: es => (if e = j ∨ e = 1000 + j then 1 else 0) + cE j es
theorem cE_app {j : Int} {l2 : List Int} (l : List Int) : cE j (l ++ l2) = cE j l + cE j l2 := by
  induction l with
  | nil => show cE j l2 = 0 + cE j l2; omega
  | cons e es ih =>
    show (if e = j ∨ e = 1000 + j then 1 else 0) + cE j (es ++ l2) = (if e = j ∨ e = 1000 + j then 1 else 0) + cE j es + cE j l2
    rw [ih]; omega
theorem cE_0 {j : Int} (l : List Int) : 0 ≤ cE j l := by
  induction l with
  | nil => exact Int.le_refl _
  | cons e es ih =>
    show 0 ≤ (if e = j ∨ e = 1000 + j then 1 else 0) + cE j es
    split <;> omega
theorem gd_le (l : List Int) : ∀ {m m' : Int}, gd m l m' → m ≤ m' := by
  induction l with
  | nil => intro m m' h; exact Int.le_of_eq h
  | cons e es ih =>
    intro m m' h
    rcases h with ⟨h0, h1, h3, h4⟩ | ⟨h1, h3, h4⟩ | ⟨h0, h1, h4⟩
    · exact ih h4
    · have := ih h4; omega
    · exact ih h4
theorem gd_in {j : Int} (l : List Int) : ∀ {m m' : Int}, gd m l m' → m ≤ j → j < m' → 1 ≤ cE j l := by
  induction l with
  | nil => intro m m' h h1 h2; have : m = m' := h; omega
  | cons e es ih =>
    intro m m' h a b
    have h0' := cE_0 (j := j) es
    show 1 ≤ (if e = j ∨ e = 1000 + j then 1 else 0) + cE j es
    rcases h with ⟨h0, h1, h3, h4⟩ | ⟨h1, h3, h4⟩ | ⟨h0, h1, h4⟩
    · have := ih h4 a b
      split <;> omega
    · by_cases y : e = j
      · rw [if_pos (Or.inl y)]; omega
      · have := ih h4 (by omega) b
        split <;> omega
    · have := ih h4 a b
      split <;> omega
/-- how often a node is taken by nodes before m -/
def us (sz : Int → Int) (rw : Int → Int → Int) (m j : Int) : Int := sm (fun i => sm (fun t => if rw i t = j then 1 else 0) (sz i).toNat) m.toNat
theorem us_s {sz : Int → Int} {rw' : Int → Int → Int} {m j : Int} (h : 0 ≤ m) : us sz rw' (m + 1) j = us sz rw' m j + sm (fun t => if rw' m t = j then 1 else 0) (sz m).toNat := by
  unfold us
  rw [show (m + 1).toNat = m.toNat + 1 by omega]
  show sm _ m.toNat + sm (fun t => if rw' ((m.toNat : Nat) : Int) t = j then 1 else 0) (sz ((m.toNat : Nat) : Int)).toNat = _
  rw [show ((m.toNat : Nat) : Int) = m by omega]
theorem ev_all (H : NDS N c nd nm ch nu can cn) (T : RPN N nd ch lo) (E : EVD N nd nu can cn lo ch EV) (hc : c ≤ 1000) (x : Nat) : ∀ y : Int, 0 ≤ y → y < x → y < N → gd (cn (lo y)) (EV y) (cn (y + 1)) ∧ 1 ≤ (EV y).length ∧ ((EV y).length : Int) ≤ y + 1 - lo y ∧ ∀ j, 0 ≤ j → j < c → cE j (EV y) = (if nu y = j then 1 else 0) + us (fun i => nd (can i)) (fun i t => nu (ch (can i) t)) (cn (y + 1)) j - us (fun i => nd (can i)) (fun i t => nu (ch (can i) t)) (cn (lo y)) j := by
  induction x with
  | zero => intro y y0 y1; omega
  | succ x ih =>
    intro y y0 y1 yN
    obtain ⟨p1, p2, p3, p4, p5, p6, p7⟩ := T y y0 yN
    obtain ⟨h1, h2, h3⟩ := H.2.2 y y0 yN
    obtain ⟨n1, n2, n3⟩ := nds_nu H y0 yN
    obtain ⟨o1, o2⟩ := nds_new H T y0 yN
    obtain ⟨E1, E2, E3⟩ := E y y0 yN
    have hcn : cn (y + 1) ≤ 1000 := by
      have := nds_le H (x := y + 1) (y := N) (by omega) (by omega) (Int.le_refl _)
      have := H.2.1
      omega
    have hcl : 0 ≤ cn (lo y) := by
      have := nds_le H (x := 0) (y := lo y) (Int.le_refl _) p2 (by omega)
      have := H.1
      omega
    by_cases c0 : nd (can (nu y)) = 0
    · rw [E1 c0]
      have hl : lo y = y := by
        apply p4
        rcases Int.lt_or_le (nm y) 0 with h | h
        · exact h2 h
        · rw [← (h3 h).2.1]; exact c0
      rw [hl] at o1 o2 ⊢
      refine ⟨?_, Nat.le_refl 1, by show (1 : Int) ≤ _; omega, fun j j0 j1 => ?_⟩
      · rcases h1 with ⟨k1, k2, k3, k4⟩ | ⟨k1, k2, k3⟩
        · exact Or.inr (Or.inl ⟨k1, by omega, by rw [k3]; rfl⟩)
        · exact Or.inl ⟨k1, k2, by omega, by rw [k3]; rfl⟩
      · show (if nu y = j ∨ nu y = 1000 + j then 1 else 0) + 0 = _
        have eu : us (fun i => nd (can i)) (fun i t => nu (ch (can i) t)) (cn (y + 1)) j = us (fun i => nd (can i)) (fun i t => nu (ch (can i) t)) (cn y) j := by
          rcases h1 with ⟨k1, k2, k3, k4⟩ | ⟨k1, k2, k3⟩
          · rw [k3, us_s (by omega), ← k1, c0]
            show _ + 0 = _
            omega
          · rw [k3]
        rw [eu]
        by_cases e : nu y = j
        · rw [if_pos (Or.inl e), if_pos e]; omega
        · rw [if_neg (by omega), if_neg e]; omega
    · by_cases c1 : nu y < cn (lo y)
      · rw [E2 c0 c1, o1 c1]
        refine ⟨Or.inr (Or.inr ⟨by omega, by omega, rfl⟩), Nat.le_refl 1, by show (1 : Int) ≤ _; omega, fun j j0 j1 => ?_⟩
        show (if 1000 + nu y = j ∨ 1000 + nu y = 1000 + j then 1 else 0) + 0 = _
        by_cases e : nu y = j
        · rw [if_pos (Or.inr (by omega)), if_pos e]; omega
        · rw [if_neg (by omega), if_neg e]; omega
      · rw [E3 c0 (by omega)]
        obtain ⟨k1, k2, k3, k4⟩ := o2 (by omega)
        have key : ∀ t : Nat, (t : Int) ≤ nd y → gd (cn (lo y)) (cat (fun t => EV (ch y t)) t) (cn (pos ch lo y t)) ∧ ((cat (fun t => EV (ch y t)) t).length : Int) ≤ pos ch lo y t - lo y ∧ ∀ j, 0 ≤ j → j < c → cE j (cat (fun t => EV (ch y t)) t) = sm (fun t => if nu (ch y t) = j then 1 else 0) t + us (fun i => nd (can i)) (fun i t => nu (ch (can i) t)) (cn (pos ch lo y t)) j - us (fun i => nd (can i)) (fun i t => nu (ch (can i) t)) (cn (lo y)) j := by
          intro t
          induction t with
          | zero =>
            intro _
            refine ⟨rfl, by show (0 : Int) ≤ lo y - lo y; omega, fun j j0 j1 => ?_⟩
            show (0 : Int) = 0 + us (fun i => nd (can i)) (fun i t => nu (ch (can i) t)) (cn (lo y)) j - us (fun i => nd (can i)) (fun i t => nu (ch (can i) t)) (cn (lo y)) j
            omega
          | succ t iht =>
            intro t1
            obtain ⟨i1, i2, i3⟩ := iht (by omega)
            obtain ⟨e1, e2⟩ := pos_lo T y0 yN (t := t) (by omega) (by omega)
            obtain ⟨q1, q2⟩ := p5 t (by omega) (by omega)
            obtain ⟨g1, g2, g3, g4⟩ := ih (ch y t) q1 (by omega) (by omega)
            rw [e1, ← e2] at g1
            rw [show ((t + 1 : Nat) : Int) = (t : Int) + 1 by omega]
            refine ⟨gd_app _ i1 g1, ?_, fun j j0 j1 => ?_⟩
            · show ((cat (fun t => EV (ch y t)) t ++ EV (ch y t)).length : Int) ≤ _
              rw [List.length_append]
              omega
            · show cE j (cat (fun t => EV (ch y t)) t ++ EV (ch y t)) = sm (fun t => if nu (ch y t) = j then 1 else 0) t + (if nu (ch y t) = j then 1 else 0) + _ - _
              rw [cE_app, i3 j j0 j1, g4 j j0 j1, e1, ← e2]
              omega
        obtain ⟨g1, g2, g3⟩ := key (nd y).toNat (by omega)
        rw [show (((nd y).toNat : Nat) : Int) = nd y by omega, pos_e T y0 yN] at g1 g2 g3
        refine ⟨gd_app _ g1 (Or.inr (Or.inl ⟨k1, by omega, by rw [k3]; rfl⟩)), by rw [List.length_append]; exact Nat.le_add_left _ _, ?_, fun j j0 j1 => ?_⟩
        · rw [List.length_append]
          show (((cat (fun t => EV (ch y t)) (nd y).toNat).length + 1 : Nat) : Int) ≤ _
          omega
        · have ecy : can (cn y) = y := by rw [← k1]; exact k2
          rw [cE_app, g3 j j0 j1, k3, us_s (by omega), ecy]
          show _ + ((if nu y = j ∨ nu y = 1000 + j then 1 else 0) + 0) = _
          by_cases e : nu y = j
          · rw [if_pos (Or.inl e), if_pos e]; omega
          · rw [if_neg (by omega), if_neg e]; omega
/-- all of a proof -/
theorem ev_root (H : NDS N c nd nm ch nu can cn) (T : RPN N nd ch lo) (E : EVD N nd nu can cn lo ch EV) (hN : 0 < N) (hN1 : N ≤ 1000) (hl : lo (N - 1) = 0) : c ≤ N ∧ 0 < c ∧ nu (N - 1) = c - 1 ∧ can (c - 1) = N - 1 ∧ gd 0 (EV (N - 1)) c ∧ 1 ≤ (EV (N - 1)).length ∧ ((EV (N - 1)).length : Int) ≤ N ∧ (∀ j, 0 ≤ j → j < c → (2 ≤ cE j (EV (N - 1)) ↔ 2 ≤ us (fun i => nd (can i)) (fun i t => nu (ch (can i) t)) c j)) ∧ ∀ pre j post, EV (N - 1) = pre ++ (1000 + j) :: post → 0 ≤ j → 2 ≤ us (fun i => nd (can i)) (fun i t => nu (ch (can i) t)) c j := by
  have hcN : c ≤ N := by
    have := nds_x H N.toNat (by omega)
    rw [show ((N.toNat : Nat) : Int) = N by omega, H.2.1] at this
    exact this
  obtain ⟨n1, n2, n3⟩ := nds_nu H (x := N - 1) (by omega) (by omega)
  obtain ⟨g1, g2, g3, g4⟩ := ev_all H T E (by omega) N.toNat (N - 1) (by omega) (by omega) (by omega)
  obtain ⟨_, o2⟩ := nds_new H T (y := N - 1) (by omega) (by omega)
  rw [hl, H.1] at o2 g1
  obtain ⟨k1, k2, k3, k4⟩ := o2 (by omega)
  rw [show N - 1 + 1 = N by omega, H.2.1] at g1 k3 g4
  have er : nu (N - 1) = c - 1 := by omega
  have h0 : us (fun i => nd (can i)) (fun i t => nu (ch (can i) t)) c (c - 1) = 0 := by
    unfold us
    refine sm_0 _ (fun i hi => sm_0 _ (fun t ht => ?_))
    have ht' : (t : Int) < nd (can i) := by
      have : t < (nd (can (i : Int))).toNat := ht
      omega
    obtain ⟨c1, c2, c3, c4, c5, c6⟩ := nds_can H (by omega) (j := i) (by omega) (by omega)
    have := nds_lt H T c1 c2 c6 (t := t) (by omega) ht'
    rw [c3] at this
    show (if nu (ch (can i) t) = c - 1 then (1 : Int) else 0) = 0
    rw [if_neg (by omega)]
  have hct : ∀ j, 0 ≤ j → j < c → (2 ≤ cE j (EV (N - 1)) ↔ 2 ≤ us (fun i => nd (can i)) (fun i t => nu (ch (can i) t)) c j) := by
    intro j j0 j1
    have e := g4 j j0 j1
    rw [hl, H.1] at e
    have e0 : us (fun i => nd (can i)) (fun i t => nu (ch (can i) t)) 0 j = 0 := rfl
    rw [e0] at e
    by_cases y : j = c - 1
    · rw [er, if_pos y.symm, y, h0] at e
      rw [y, h0]
      omega
    · rw [er, if_neg (by omega)] at e
      omega
  refine ⟨hcN, by omega, er, by rw [← er]; exact k2, g1, g2, by omega, hct, fun pre j post he j0 => ?_⟩
  rw [he] at g1
  obtain ⟨m', q1, q2⟩ := gd_spl pre g1
  rcases q2 with ⟨z0, z1, z2, z3⟩ | ⟨z0, z1, z2⟩ | ⟨z0, z1, z2⟩
  · omega
  · omega
  · have hm' := gd_le _ z2
    have hin := gd_in (j := j) pre q1 j0 (by omega)
    refine (hct j j0 (by omega)).mp ?_
    rw [he, cE_app]
    have := cE_0 (j := j) post
    show 2 ≤ cE j pre + ((if 1000 + j = j ∨ 1000 + j = 1000 + j then 1 else 0) + cE j post)
    rw [if_pos (Or.inr rfl)]
    omega
end EVE
