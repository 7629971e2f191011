/-! What is active: pairs -/
def tab (g h : Int → Int) (n : Nat) : List (Int × Int) := (List.range n).map fun i => (g (i : Nat), h (i : Nat))
theorem tab_s (g h : Int → Int) (n : Nat) : tab g h (n + 1) = tab g h n ++ [(g n, h n)] := by
  unfold tab
  rw [List.range_succ, List.map_append]
  rfl
theorem tab_len (g h : Int → Int) (n : Nat) : (tab g h n).length = n := by simp [tab]
theorem tab_mem {g h : Int → Int} {n : Nat} {z : Int × Int} : z ∈ tab g h n ↔ ∃ i, 0 ≤ i ∧ i < (n : Int) ∧ (g i, h i) = z := by
  unfold tab
  rw [List.mem_map]
  constructor
  · rintro ⟨i, h1, h2⟩
    rw [List.mem_range] at h1
    exact ⟨i, by omega, by omega, h2⟩
  · rintro ⟨i, h1, h2, h3⟩
    exact ⟨i.toNat, by rw [List.mem_range]; omega, by rw [show ((i.toNat : Nat) : Int) = i by omega]; exact h3⟩
theorem tab_congr {g h g2 h2 : Int → Int} {n : Nat} (e : ∀ i, 0 ≤ i → i < (n : Int) → g i = g2 i ∧ h i = h2 i) : tab g h n = tab g2 h2 n := by
  unfold tab
  apply List.map_congr_left
  intro i hi
  rw [List.mem_range] at hi
  have := e i (by omega) (by omega)
  rw [this.1, this.2]
/-- an element more, at a place in between -/
theorem tab_ins {g h g2 h2 : Int → Int} {x y : Int} {m : Nat} : ∀ n : Nat, m ≤ n → (∀ i, 0 ≤ i → i < (m : Int) → g2 i = g i ∧ h2 i = h i) → g2 m = x ∧ h2 m = y → (∀ i, (m : Int) ≤ i → i < (n : Int) → g2 (i + 1) = g i ∧ h2 (i + 1) = h i) → (tab g2 h2 (n + 1)).Perm ((x, y) :: tab g h n) := by
  intro n
  induction n with
  | zero =>
    intro h1 h3 h4 h5
    obtain rfl : m = 0 := by omega
    rw [tab_s]
    have e : ((g2 ((0 : Nat) : Int), h2 ((0 : Nat) : Int)) : Int × Int) = (x, y) := by rw [h4.1, h4.2]
    rw [e]
    exact List.Perm.refl _
  | succ n ih =>
    intro h1 h3 h4 h5
    by_cases q : m = n + 1
    · subst q
      rw [tab_s]
      have e : ((g2 ((n + 1 : Nat) : Int), h2 ((n + 1 : Nat) : Int)) : Int × Int) = (x, y) := by rw [h4.1, h4.2]
      rw [e, tab_congr h3]
      exact List.perm_append_singleton _ _
    · rw [tab_s, tab_s g h n]
      have := ih (by omega) h3 h4 (fun i i1 i2 => h5 i i1 (by omega))
      have e := h5 n (by omega) (by omega)
      have e2 : (((n + 1 : Nat) : Int)) = (n : Int) + 1 := by omega
      rw [e2, e.1, e.2]
      exact this.append_right _
/-- the pairs that are active -/
def Gp (q K P D pc om : Int) (pr pd op od A21 A22 A23 A24 : Int → Int) : Prop :=
  0 ≤ pc ∧ pc ≤ 200 ∧ pc = om ∧ asc pr 0 pc ∧ (tab pr pd pc.toNat).Perm (tab (fun i => 300 * A21 (op i) + A22 (op i)) od om.toNat) ∧ (∀ i k, 0 ≤ i → i ≤ k → k < om → od i ≤ od k) ∧ (∀ i, 0 ≤ i → i < om → 0 ≤ od i ∧ od i ≤ D ∧ 10240 * q ≤ op i ∧ op i < 10240 * q + P ∧ A24 (op i) = 200) ∧ (∀ i k, 0 ≤ i → i < k → k < om → op i ≠ op k) ∧ ∀ p, 0 ≤ p → p < P → A23 (10240 * q + p) ≤ K ∧ (A24 (10240 * q + p) ≤ K ∨ ∃ i, 0 ≤ i ∧ i < om ∧ op i = 10240 * q + p)
section PAIRS
variable {q K P D pc om x y S : Int} {pr pd op od A21 A22 A23 A24 va : Int → Int}
/-- the pairs of the class, as pairs -/
theorem gp_mem (G : Gp q K P D pc om pr pd op od A21 A22 A23 A24) (O : Gpo q P S A21 A22 A23 A24 va) (hS : S ≤ 300) (hx : 0 ≤ x) (hy : 0 ≤ y) (hy2 : y < 300) : mem pr 0 pc (300 * x + y) ↔ ∃ i, 0 ≤ i ∧ i < om ∧ A21 (op i) = x ∧ A22 (op i) = y := by
  obtain ⟨g1, g2, g3, g4, g5, g6, g7, g8, g9⟩ := G
  obtain ⟨o1, o2, o3⟩ := O
  constructor
  · rintro ⟨i, i1, i2, i3⟩
    have hm : (pr i, pd i) ∈ tab pr pd pc.toNat := tab_mem.mpr ⟨i, i1, by omega, rfl⟩
    obtain ⟨k, k1, k2, k3⟩ := tab_mem.mp (g5.mem_iff.mp hm)
    have h7 := g7 k k1 (by omega)
    have h3 := o3 (op k - 10240 * q) (by omega) (by omega)
    rw [show 10240 * q + (op k - 10240 * q) = op k by omega] at h3
    have := congrArg Prod.fst k3
    simp only at this
    exact ⟨k, k1, by omega, by omega, by omega⟩
  · rintro ⟨k, k1, k2, k3, k4⟩
    have hm : (300 * A21 (op k) + A22 (op k), od k) ∈ tab (fun i => 300 * A21 (op i) + A22 (op i)) od om.toNat := tab_mem.mpr ⟨k, k1, by omega, rfl⟩
    obtain ⟨i, i1, i2, i3⟩ := tab_mem.mp (g5.mem_iff.mpr hm)
    have := congrArg Prod.fst i3
    simp only at this
    exact ⟨i, i1, by omega, by omega⟩
/-- which pairs are active at the statement that comes next -/
theorem gp_pa (G : Gp q K P D pc om pr pd op od A21 A22 A23 A24) (hK : K < 200) : pa q P A21 A22 A23 A24 K x y ↔ ∃ i, 0 ≤ i ∧ i < om ∧ A21 (op i) = x ∧ A22 (op i) = y := by
  obtain ⟨g1, g2, g3, g4, g5, g6, g7, g8, g9⟩ := G
  constructor
  · rintro ⟨p, p1, p2, p3, p4, p5, p6⟩
    rcases (g9 p p1 p2).2 with h | ⟨i, i1, i2, i3⟩
    · omega
    · exact ⟨i, i1, i2, by rw [i3]; exact p3, by rw [i3]; exact p4⟩
  · rintro ⟨i, i1, i2, i3, i4⟩
    obtain ⟨h1, h2, h3, h4, h5⟩ := g7 i i1 i2
    have e : 10240 * q + (op i - 10240 * q) = op i := by omega
    have h9 := g9 (op i - 10240 * q) (by omega) (by omega)
    rw [e] at h9
    exact ⟨op i - 10240 * q, by omega, by omega, by rw [e]; exact i3, by rw [e]; exact i4, by rw [e]; omega, by rw [e]; omega⟩
theorem gp_open (G : Gp q K P D pc om pr pd op od A21 A22 A23 A24) : Gp q K P (D + 1) pc om pr pd op od A21 A22 A23 A24 := by
  obtain ⟨g1, g2, g3, g4, g5, g6, g7, g8, g9⟩ := G
  refine ⟨g1, g2, g3, g4, g5, g6, fun i i1 i2 => ?_, g8, g9⟩
  have := g7 i i1 i2
  exact ⟨this.1, by omega, this.2.2⟩
theorem gp_st (G : Gp q K P D pc om pr pd op od A21 A22 A23 A24) : Gp q (K + 1) P D pc om pr pd op od A21 A22 A23 A24 := by
  obtain ⟨g1, g2, g3, g4, g5, g6, g7, g8, g9⟩ := G
  refine ⟨g1, g2, g3, g4, g5, g6, g7, g8, fun p p1 p2 => ?_⟩
  have := g9 p p1 p2
  refine ⟨by omega, ?_⟩
  rcases this.2 with h | h
  · exact Or.inl (by omega)
  · exact Or.inr h
/-- a pair more -/
theorem gp_add (G : Gp q K P D pc om pr pd op od A21 A22 A23 A24) (hD : 0 ≤ D) (hpc : pc < 200) (hP : 0 ≤ P) (h0 : 0 ≤ x) (hy : 0 ≤ y) {at' : Int} (a0 : 0 ≤ at') (a1 : at' ≤ pc) (a2 : ∀ i, 0 ≤ i → i < at' → pr i < 300 * x + y) (a3 : at' < pc → 300 * x + y < pr at') {pr2 pd2 : Int → Int}
    (b1 : ∀ i, 0 ≤ i → i < at' → pr2 i = pr i ∧ pd2 i = pd i) (b2 : pr2 at' = 300 * x + y ∧ pd2 at' = D) (b3 : ∀ i, at' ≤ i → i < pc → pr2 (i + 1) = pr i ∧ pd2 (i + 1) = pd i) :
    Gp q K (P + 1) D (pc + 1) (om + 1) pr2 pd2 (v1 op om (10240 * q + P)) (v1 od om D) (v1 A21 (10240 * q + P) x) (v1 A22 (10240 * q + P) y) (v1 A23 (10240 * q + P) K) (v1 A24 (10240 * q + P) 200) := by
  obtain ⟨g1, g2, g3, g4, g5, g6, g7, g8, g9⟩ := G
  refine ⟨by omega, by omega, by omega, ?_, ?_, ?_, ?_, ?_, ?_⟩
  · intro i k i1 i2 i3
    by_cases c1 : k < at'
    · rw [(b1 i i1 (by omega)).1, (b1 k (by omega) c1).1]
      exact g4 i k i1 i2 (by omega)
    · by_cases c2 : k = at'
      · subst c2
        rw [(b1 i i1 i2).1, b2.1]
        exact a2 i i1 i2
      · have e2 := (b3 (k - 1) (by omega) (by omega)).1
        rw [show k - 1 + 1 = k by omega] at e2
        rw [e2]
        have hk := a3 (by omega)
        by_cases c3 : i < at'
        · rw [(b1 i i1 c3).1]
          exact g4 i (k - 1) i1 (by omega) (by omega)
        · by_cases c4 : i = at'
          · subst c4
            rw [b2.1]
            by_cases c5 : k - 1 = i
            · rw [c5]; exact hk
            · have := g4 i (k - 1) i1 (by omega) (by omega)
              omega
          · have e3 := (b3 (i - 1) (by omega) (by omega)).1
            rw [show i - 1 + 1 = i by omega] at e3
            rw [e3]
            exact g4 (i - 1) (k - 1) (by omega) (by omega) (by omega)
  · have p1 := tab_ins (g := pr) (h := pd) (g2 := pr2) (h2 := pd2) (x := 300 * x + y) (y := D) (m := at'.toNat) pc.toNat (by omega) (fun i i1 i2 => b1 i i1 (by omega)) (by rw [show ((at'.toNat : Nat) : Int) = at' by omega]; exact b2) (fun i i1 i2 => b3 i (by omega) (by omega))
    rw [show (pc + 1).toNat = pc.toNat + 1 by omega, show (om + 1).toNat = om.toNat + 1 by omega]
    rw [tab_s (fun i => 300 * v1 A21 (10240 * q + P) x (v1 op om (10240 * q + P) i) + v1 A22 (10240 * q + P) y (v1 op om (10240 * q + P) i)) (v1 od om D) om.toNat]
    rw [show ((om.toNat : Nat) : Int) = om by omega]
    simp only [v1_s]
    have e : tab (fun i => 300 * v1 A21 (10240 * q + P) x (v1 op om (10240 * q + P) i) + v1 A22 (10240 * q + P) y (v1 op om (10240 * q + P) i)) (v1 od om D) om.toNat = tab (fun i => 300 * A21 (op i) + A22 (op i)) od om.toNat := by
      apply tab_congr
      intro i i1 i2
      have h7 := g7 i i1 (by omega)
      rw [v1_o (f := op) (by omega), v1_o (f := A21) (by omega), v1_o (f := A22) (by omega), v1_o (f := od) (by omega)]
      exact ⟨rfl, rfl⟩
    rw [e]
    exact (p1.trans (g5.cons _)).trans (List.perm_append_singleton _ _).symm
  · intro i k i1 i2 i3
    by_cases c1 : k = om
    · subst c1
      rw [v1_s]
      by_cases c2 : i = k
      · rw [c2, v1_s]; omega
      · rw [v1_o c2]; exact (g7 i i1 (by omega)).2.1
    · rw [v1_o c1, v1_o (by omega)]
      exact g6 i k i1 i2 (by omega)
  · intro i i1 i2
    by_cases c1 : i = om
    · subst c1
      rw [v1_s, v1_s, v1_s]
      omega
    · have h7 := g7 i i1 (by omega)
      rw [v1_o c1, v1_o c1, v1_o (by omega)]
      omega
  · intro i k i1 i2 i3
    by_cases c1 : k = om
    · subst c1
      have h7 := g7 i i1 i2
      rw [v1_s, v1_o (by omega)]
      omega
    · rw [v1_o c1, v1_o (by omega)]
      exact g8 i k i1 i2 (by omega)
  · intro p p1 p2
    by_cases c1 : p = P
    · subst c1
      rw [v1_s, v1_s]
      exact ⟨Int.le_refl _, Or.inr ⟨om, by omega, by omega, by rw [v1_s]⟩⟩
    · rw [v1_o (by omega), v1_o (by omega)]
      refine ⟨(g9 p p1 (by omega)).1, ?_⟩
      rcases (g9 p p1 (by omega)).2 with h | ⟨i, i1, i2, i3⟩
      · exact Or.inl h
      · exact Or.inr ⟨i, i1, by omega, by rw [v1_o (by omega)]; exact i3⟩
end PAIRS
