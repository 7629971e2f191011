/-! What is active: variables -/
noncomputable def cn (p : Int → Prop) : Nat → Int
  | 0 => 0
  | n + 1 => cn p n + @ite _ (p n) (Classical.propDecidable _) 1 0
theorem cn_le (p : Int → Prop) (n : Nat) : 0 ≤ cn p n ∧ cn p n ≤ n := by
  induction n with
  | zero => exact ⟨Int.le_refl _, Int.le_refl _⟩
  | succ n ih =>
    have e : cn p (n + 1) = cn p n + @ite _ (p n) (Classical.propDecidable _) 1 0 := rfl
    by_cases h : p n
    · rw [if_pos h] at e; omega
    · rw [if_neg h] at e; omega
theorem cn_congr {p r : Int → Prop} {n : Nat} (h : ∀ y, 0 ≤ y → y < (n : Int) → (p y ↔ r y)) : cn p n = cn r n := by
  induction n with
  | zero => rfl
  | succ n ih =>
    show cn p n + @ite _ (p n) (Classical.propDecidable _) 1 0 = cn r n + @ite _ (r n) (Classical.propDecidable _) 1 0
    rw [ih (fun y h1 h2 => h y h1 (by omega))]
    by_cases q : p n
    · rw [if_pos q, if_pos ((h n (by omega) (by omega)).mp q)]
    · rw [if_neg q, if_neg (fun z => q ((h n (by omega) (by omega)).mpr z))]
theorem cn_add {p r : Int → Prop} {x : Int} {n : Nat} (hx : 0 ≤ x) (hx2 : x < (n : Int)) (h : ¬p x) (h2 : ∀ y, 0 ≤ y → y < (n : Int) → (r y ↔ p y ∨ y = x)) : cn r n = cn p n + 1 := by
  induction n with
  | zero => omega
  | succ n ih =>
    show cn r n + @ite _ (r n) (Classical.propDecidable _) 1 0 = cn p n + @ite _ (p n) (Classical.propDecidable _) 1 0 + 1
    by_cases q : x = n
    · rw [if_pos ((h2 n (by omega) (by omega)).mpr (Or.inr q.symm)), if_neg (q ▸ h), cn_congr (p := r) (r := p) (fun y h3 h4 => ?_)]
      · omega
      · rw [h2 y h3 (by omega)]
        constructor
        · rintro (z | z)
          · exact z
          · omega
        · exact Or.inl
    · have := ih (by omega) (fun y h3 h4 => h2 y h3 (by omega))
      by_cases q2 : p n
      · rw [if_pos q2, if_pos ((h2 n (by omega) (by omega)).mpr (Or.inl q2))]; omega
      · rw [if_neg q2, if_neg (fun z => ?_)]
        · omega
        · rcases (h2 n (by omega) (by omega)).mp z with z | z
          · exact q2 z
          · omega
/-- different numbers below N are at most N -/
theorem inj_le {vs : Int → Int} {N m : Nat} (h : ∀ i, 0 ≤ i → i < (m : Int) → 0 ≤ vs i ∧ vs i < (N : Int)) (h2 : ∀ i k, 0 ≤ i → i < k → k < (m : Int) → vs i ≠ vs k) : m ≤ N := by
  have key : ∀ l : Nat, l ≤ m → cn (fun x => ∃ i, 0 ≤ i ∧ i < (l : Int) ∧ vs i = x) N = l := by
    intro l
    induction l with
    | zero =>
      intro _
      rw [cn_congr (r := fun _ => False) (fun y _ _ => ⟨fun ⟨i, a, b, _⟩ => by omega, False.elim⟩)]
      have : ∀ n, cn (fun _ => False) n = 0 := by
        intro n
        induction n with
        | zero => rfl
        | succ n ih =>
          show cn (fun _ => False) n + @ite _ False (Classical.propDecidable _) 1 0 = 0
          rw [ih, if_neg not_false]; rfl
      exact this N
    | succ l ih =>
      intro hl
      have hv := h l (by omega) (by omega)
      have := cn_add (p := fun x => ∃ i, 0 ≤ i ∧ i < (l : Int) ∧ vs i = x) (r := fun x => ∃ i, 0 ≤ i ∧ i < ((l + 1 : Nat) : Int) ∧ vs i = x) (x := vs l) (n := N) hv.1 hv.2 (fun ⟨i, a, b, c⟩ => h2 i l a b (by omega) c) (fun y _ _ => ?_)
      · rw [this, ih (by omega)]; omega
      · constructor
        · rintro ⟨i, a, b, c⟩
          by_cases q : i = l
          · subst q; exact Or.inr c.symm
          · exact Or.inl ⟨i, a, by omega, c⟩
        · rintro (⟨i, a, b, c⟩ | c)
          · exact ⟨i, a, by omega, c⟩
          · exact ⟨l, by omega, by omega, c.symm⟩
  have := key m (Nat.le_refl _)
  have := cn_le (fun x => ∃ i, 0 ≤ i ∧ i < (m : Int) ∧ vs i = x) N
  omega
/-- the active variables -/
def Gv (D S vc : Int) (ov vs ac va act : Int → Int) : Prop :=
  0 ≤ D ∧ D ≤ 16 ∧ 0 ≤ vc ∧ (∀ x, 0 ≤ x → x < 300 → (ac x = 0 ∨ ac x = 1) ∧ (ac x = 1 ↔ 0 ≤ act x) ∧ -1 ≤ act x ∧ act x ≤ D ∧ (0 ≤ act x → x < S ∧ va x = 1)) ∧ (∀ i, 0 ≤ i → i < vc → 0 ≤ vs i ∧ vs i < 300 ∧ 0 ≤ act (vs i) ∧ ∀ l, 0 ≤ l → l < D → (ov l ≤ i ↔ l < act (vs i))) ∧ (∀ i k, 0 ≤ i → i < k → k < vc → vs i ≠ vs k) ∧ (∀ x, 0 ≤ x → x < 300 → 0 ≤ act x → ∃ i, 0 ≤ i ∧ i < vc ∧ vs i = x) ∧ ∀ l, 0 ≤ l → l < D → 0 ≤ ov l ∧ ov l ≤ vc
section GV
variable {D S vc x : Int} {ov vs ac va act ac2 act2 : Int → Int}
theorem gv_le (G : Gv D S vc ov vs ac va act) : vc ≤ 300 := by
  obtain ⟨g1, g2, g3, g4, g5, g6, g7, g8⟩ := G
  have := inj_le (vs := vs) (N := 300) (m := vc.toNat) (fun i h1 h2 => ⟨(g5 i h1 (by omega)).1, (g5 i h1 (by omega)).2.1⟩) (fun i k h1 h2 h3 => g6 i k h1 h2 (by omega))
  omega
theorem gv_open (G : Gv D S vc ov vs ac va act) (hD : D < 16) : Gv (D + 1) S vc (v1 ov D vc) vs ac va act := by
  obtain ⟨g1, g2, g3, g4, g5, g6, g7, g8⟩ := G
  refine ⟨by omega, by omega, g3, fun x h1 h2 => ?_, fun i h1 h2 => ?_, g6, g7, fun l h1 h2 => ?_⟩
  · obtain ⟨a1, a2, a3, a4, a5⟩ := g4 x h1 h2
    exact ⟨a1, a2, a3, by omega, a5⟩
  · obtain ⟨a1, a2, a3, a4⟩ := g5 i h1 h2
    refine ⟨a1, a2, a3, fun l l1 l2 => ?_⟩
    by_cases q : l = D
    · subst q
      have := g4 (vs i) a1 a2
      rw [v1_s]; omega
    · rw [v1_o q]; exact a4 l l1 (by omega)
  · by_cases q : l = D
    · subst q
      rw [v1_s]; omega
    · rw [v1_o q]; exact g8 l h1 (by omega)
theorem gv_act (G : Gv D S vc ov vs ac va act) (h0 : 0 ≤ x) (h1 : x < 300) (h2 : x < S) (h3 : va x = 1) (h4 : act x < 0) : Gv D S (vc + 1) ov (v1 vs vc x) (v1 ac x 1) va (v1 act x D) := by
  obtain ⟨g1, g2, g3, g4, g5, g6, g7, g8⟩ := G
  have hne : ∀ i, 0 ≤ i → i < vc → vs i ≠ x := by
    intro i i1 i2 e
    have := (g5 i i1 i2).2.2.1
    rw [e] at this; omega
  refine ⟨g1, g2, by omega, fun y y1 y2 => ?_, fun i i1 i2 => ?_, fun i k i1 i2 i3 => ?_, fun y y1 y2 y3 => ?_, fun l l1 l2 => ?_⟩
  · by_cases q : y = x
    · subst q
      rw [v1_s, v1_s]
      exact ⟨Or.inr rfl, by omega, by omega, by omega, fun _ => ⟨h2, h3⟩⟩
    · rw [v1_o q, v1_o q]; exact g4 y y1 y2
  · by_cases q : i = vc
    · subst q
      rw [v1_s, v1_s]
      refine ⟨h0, h1, g1, fun l l1 l2 => ?_⟩
      have := g8 l l1 l2
      omega
    · rw [v1_o q, v1_o (hne i i1 (by omega))]
      exact g5 i i1 (by omega)
  · by_cases q : k = vc
    · subst q
      rw [v1_s, v1_o (by omega)]
      exact hne i i1 i2
    · rw [v1_o (by omega), v1_o q]
      exact g6 i k i1 i2 (by omega)
  · by_cases q : y = x
    · subst q
      exact ⟨vc, g3, by omega, by rw [v1_s]⟩
    · rw [v1_o q] at y3
      obtain ⟨i, a1, a2, a3⟩ := g7 y y1 y2 y3
      exact ⟨i, a1, by omega, by rw [v1_o (by omega)]; exact a3⟩
  · have := g8 l l1 l2
    omega
theorem gv_sym (G : Gv D S vc ov vs ac va act) {z : Int} : Gv D (S + 1) vc ov vs ac (v1 va S z) act := by
  obtain ⟨g1, g2, g3, g4, g5, g6, g7, g8⟩ := G
  refine ⟨g1, g2, g3, fun x h1 h2 => ?_, g5, g6, g7, g8⟩
  obtain ⟨a1, a2, a3, a4, a5⟩ := g4 x h1 h2
  refine ⟨a1, a2, a3, a4, fun h => ?_⟩
  have := a5 h
  exact ⟨by omega, by rw [v1_o (by omega)]; exact this.2⟩
theorem gv_close (G : Gv D S vc ov vs ac va act) (hD : 0 < D) (h1 : ∀ x, 0 ≤ x → x < 300 → (mem vs (ov (D - 1)) vc x → ac2 x = 0) ∧ (¬mem vs (ov (D - 1)) vc x → ac2 x = ac x)) (h2 : ∀ x, 0 ≤ x → x < 300 → (act x = D → act2 x = -1) ∧ (act x ≠ D → act2 x = act x)) : Gv (D - 1) S (ov (D - 1)) ov vs ac2 va act2 := by
  obtain ⟨g1, g2, g3, g4, g5, g6, g7, g8⟩ := G
  obtain ⟨o1, o2⟩ := g8 (D - 1) (by omega) (by omega)
  have hm : ∀ x, 0 ≤ x → x < 300 → 0 ≤ act x → (mem vs (ov (D - 1)) vc x ↔ act x = D) := by
    intro x x1 x2 x3
    obtain ⟨i, i1, i2, i3⟩ := g7 x x1 x2 x3
    have a4 := (g5 i i1 i2).2.2.2 (D - 1) (by omega) (by omega)
    have a5 := (g4 x x1 x2).2.2.2.1
    rw [i3] at a4
    constructor
    · rintro ⟨k, k1, k2, k3⟩
      have : k = i := by
        by_cases q : k < i
        · exact absurd (k3.trans i3.symm) (g6 k i (by omega) q i2)
        · by_cases q2 : i < k
          · exact absurd (i3.trans k3.symm) (g6 i k i1 q2 k2)
          · omega
      subst this; omega
    · intro e
      exact ⟨i, by omega, i2, i3⟩
  have hlow : ∀ i, 0 ≤ i → i < ov (D - 1) → act (vs i) ≠ D := by
    intro i i1 i2 e
    have a4 := (g5 i i1 (by omega)).2.2.2 (D - 1) (by omega) (by omega)
    omega
  refine ⟨by omega, by omega, o1, fun x x1 x2 => ?_, fun i i1 i2 => ?_, fun i k i1 i2 i3 => g6 i k i1 i2 (by omega), fun x x1 x2 x3 => ?_, fun l l1 l2 => ?_⟩
  · obtain ⟨a1, a2, a3, a4, a5⟩ := g4 x x1 x2
    have b1 := h1 x x1 x2
    have b2 := h2 x x1 x2
    by_cases q : 0 ≤ act x
    · have b3 := hm x x1 x2 q
      by_cases q2 : act x = D
      · rw [b1.1 (b3.mpr q2), b2.1 q2]
        exact ⟨Or.inl rfl, by omega, by omega, by omega, fun z => by omega⟩
      · rw [b1.2 (fun z => q2 (b3.mp z)), b2.2 q2]
        exact ⟨a1, a2, a3, by omega, a5⟩
    · have b3 : ¬mem vs (ov (D - 1)) vc x := by
        rintro ⟨i, i1, i2, i3⟩
        have := (g5 i (by omega) i2).2.2.1
        rw [i3] at this; omega
      rw [b1.2 b3, b2.2 (by omega)]
      exact ⟨a1, a2, a3, by omega, a5⟩
  · obtain ⟨a1, a2, a3, a4⟩ := g5 i i1 (by omega)
    rw [(h2 (vs i) a1 a2).2 (hlow i i1 i2)]
    exact ⟨a1, a2, a3, fun l l1 l2 => a4 l l1 (by omega)⟩
  · have q2 : act x ≠ D := by
      intro e
      rw [(h2 x x1 x2).1 e] at x3; omega
    rw [(h2 x x1 x2).2 q2] at x3
    obtain ⟨i, i1, i2, i3⟩ := g7 x x1 x2 x3
    refine ⟨i, i1, ?_, i3⟩
    by_cases q : i < ov (D - 1)
    · exact q
    · exact absurd ((hm x x1 x2 x3).mp ⟨i, by omega, i2, i3⟩) q2
  · obtain ⟨c1, c2⟩ := g8 l l1 (by omega)
    refine ⟨c1, ?_⟩
    by_cases q : ov l ≤ ov (D - 1)
    · exact q
    · have a4 := (g5 (ov (D - 1)) o1 (by omega)).2.2.2
      have a5 := a4 l l1 (by omega)
      have a6 := a4 (D - 1) (by omega) (by omega)
      have a7 := (g4 (vs (ov (D - 1))) (g5 _ o1 (by omega)).1 (g5 _ o1 (by omega)).2.1).2.2.2.1
      omega
end GV
