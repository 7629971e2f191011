/-! What is active: hypotheses -/
def Gh1 (D K hc : Int) (oh hv isA de ki : Int → Int) : Prop :=
  0 ≤ hc ∧ (∀ i, 0 ≤ i → i < hc → i ≤ hv i ∧ hv i < K ∧ isA (hv i) = 1 ∧ ki (hv i) < 2 ∧ de (hv i) ≤ D ∧ ∀ l, 0 ≤ l → l < D → (oh l ≤ i ↔ l < de (hv i))) ∧ asc hv 0 hc ∧ (∀ k, 0 ≤ k → k < 200 → (isA k = 0 ∨ isA k = 1) ∧ (isA k = 1 → k < K ∧ mem hv 0 hc k)) ∧ ∀ l, 0 ≤ l → l < D → 0 ≤ oh l ∧ oh l ≤ hc
/-- until when they are active -/
def Gh2 (K : Int) (un ki isA : Int → Int) : Prop := ∀ h, 0 ≤ h → h < K → ki h < 2 → (isA h = 1 ∧ un h = 200) ∨ (isA h = 0 ∧ 0 ≤ un h ∧ un h ≤ K)
/-- the types of variables -/
def Gh3 (K : Int) (fl tf isA ki de act it st : Int → Int) : Prop := (∀ x, 0 ≤ x → x < 300 → (fl x = 0 ∨ fl x = 1) ∧ (fl x = 1 ↔ 0 ≤ tf x) ∧ -1 ≤ tf x ∧ (0 ≤ tf x → tf x < K ∧ isA (tf x) = 1 ∧ ki (tf x) = 0 ∧ it (st (tf x) + 1) = x ∧ 0 ≤ act x ∧ act x ≤ de (tf x))) ∧ ∀ k, 0 ≤ k → k < K → isA k = 1 → ki k = 0 → tf (it (st k + 1)) = k
/-- what stands in active essential hypotheses is typed before them -/
def Gh4 (q K : Int) (isA ki it st va tf de A12 : Int → Int) : Prop := ∀ e, 0 ≤ e → e < K → isA e = 1 → ki e = 1 → ∀ i, 0 ≤ i → i < A12 (200 * q + e) → va (it (st e + i)) = 1 → 0 ≤ tf (it (st e + i)) ∧ tf (it (st e + i)) < e ∧ de (tf (it (st e + i))) ≤ de e
def nsum (g : Int → Int) : Nat → Int
  | 0 => 0
  | n + 1 => nsum g n + g n
theorem nsum_congr {g h : Int → Int} {n : Nat} (e : ∀ i, 0 ≤ i → i < (n : Int) → g i = h i) : nsum g n = nsum h n := by
  induction n with
  | zero => rfl
  | succ n ih =>
    show nsum g n + g n = nsum h n + h n
    rw [ih (fun i h1 h2 => e i h1 (by omega)), e n (by omega) (by omega)]
theorem nsum_pos {g : Int → Int} {n : Nat} (h : ∀ i, 0 ≤ i → i < (n : Int) → 0 ≤ g i) : 0 ≤ nsum g n ∧ (0 < nsum g n ↔ ∃ i, 0 ≤ i ∧ i < (n : Int) ∧ 0 < g i) := by
  induction n with
  | zero =>
    refine ⟨Int.le_refl _, ⟨fun z => ?_, fun ⟨i, a, b, _⟩ => by omega⟩⟩
    have : nsum g 0 = 0 := rfl
    omega
  | succ n ih =>
    obtain ⟨i1, i2⟩ := ih (fun i h1 h2 => h i h1 (by omega))
    have e : nsum g (n + 1) = nsum g n + g n := rfl
    have hg := h n (by omega) (by omega)
    refine ⟨by omega, ?_⟩
    constructor
    · intro z
      by_cases q : 0 < g n
      · exact ⟨n, by omega, by omega, q⟩
      · obtain ⟨i, a, b, c⟩ := i2.mp (by omega)
        exact ⟨i, a, by omega, c⟩
    · rintro ⟨i, a, b, c⟩
      by_cases q : i = n
      · subst q; omega
      · have := i2.mpr ⟨i, a, by omega, c⟩
        omega
theorem cn_pos {p : Int → Prop} {n : Nat} : 0 < cn p n ↔ ∃ i, 0 ≤ i ∧ i < (n : Int) ∧ p i := by
  induction n with
  | zero =>
    refine ⟨fun z => ?_, fun ⟨i, a, b, _⟩ => by omega⟩
    have : cn p 0 = 0 := rfl
    omega
  | succ n ih =>
    have e : cn p (n + 1) = cn p n + @ite _ (p n) (Classical.propDecidable _) 1 0 := rfl
    have hp := cn_le p n
    by_cases q : p n
    · rw [if_pos q] at e
      exact ⟨fun _ => ⟨n, by omega, by omega, q⟩, fun _ => by omega⟩
    · rw [if_neg q] at e
      rw [e]
      constructor
      · intro z
        obtain ⟨i, a, b, c⟩ := ih.mp (by omega)
        exact ⟨i, a, by omega, c⟩
      · rintro ⟨i, a, b, c⟩
        have : i ≠ n := fun z => q (z ▸ c)
        have := ih.mpr ⟨i, a, by omega, c⟩
        omega
/-- how often x stands in statement k -/
noncomputable def oc (q : Int) (it st A12 : Int → Int) (k x : Int) : Int := cn (fun i => it (st k + i) = x) (A12 (200 * q + k)).toNat
/-- what the class counts: how often symbols stand in active essential hypotheses -/
noncomputable def ndv (q : Int) (it st A12 ki hv : Int → Int) (hc x : Int) : Int := nsum (fun i => if ki (hv i) = 1 then oc q it st A12 (hv i) x else 0) hc.toNat
def Gh5 (q hc : Int) (nd it st A12 ki hv : Int → Int) : Prop := ∀ x, 0 ≤ x → x < 300 → nd x = ndv q it st A12 ki hv hc x
theorem oc_nn (q : Int) (it st A12 : Int → Int) (k x : Int) : 0 ≤ oc q it st A12 k x ∧ oc q it st A12 k x ≤ (A12 (200 * q + k)).toNat := cn_le _ _
section GH
variable {D K hc q κ : Int} {oh hv isA de ki un fl tf act it st va nd A12 isA2 un2 fl2 tf2 nd2 act2 : Int → Int}
theorem gh1_le (G : Gh1 D K hc oh hv isA de ki) : hc ≤ K ∨ hc = 0 := by
  obtain ⟨g1, g2, _⟩ := G
  by_cases q : hc = 0
  · exact Or.inr q
  · have := g2 (hc - 1) (by omega) (by omega)
    exact Or.inl (by omega)
theorem gh1_open (G : Gh1 D K hc oh hv isA de ki) (hD : 0 ≤ D) : Gh1 (D + 1) K hc (v1 oh D hc) hv isA de ki := by
  obtain ⟨g1, g2, g3, g4, g5⟩ := G
  refine ⟨g1, fun i i1 i2 => ?_, g3, g4, fun l l1 l2 => ?_⟩
  · obtain ⟨a1, a2, a3, a4, a5, a6⟩ := g2 i i1 i2
    refine ⟨a1, a2, a3, a4, by omega, fun l l1 l2 => ?_⟩
    by_cases q : l = D
    · subst q; rw [v1_s]; omega
    · rw [v1_o q]; exact a6 l l1 (by omega)
  · by_cases q : l = D
    · subst q; rw [v1_s]; omega
    · rw [v1_o q]; exact g5 l l1 (by omega)
theorem gh1_add (G : Gh1 D K hc oh hv isA de ki) (hD : 0 ≤ D) (hK : 0 ≤ K) (hκ : κ < 2) : Gh1 D (K + 1) (hc + 1) oh (v1 hv hc K) (v1 isA K 1) (v1 de K D) (v1 ki K κ) := by
  have hle := gh1_le G
  obtain ⟨g1, g2, g3, g4, g5⟩ := G
  refine ⟨by omega, fun i i1 i2 => ?_, fun i k i1 i2 i3 => ?_, fun k k1 k2 => ?_, fun l l1 l2 => ?_⟩
  · by_cases e : i = hc
    · subst e
      rw [v1_s, v1_s, v1_s, v1_s]
      refine ⟨by omega, by omega, rfl, hκ, by omega, fun l l1 l2 => ?_⟩
      have := g5 l l1 l2
      omega
    · obtain ⟨a1, a2, a3, a4, a5, a6⟩ := g2 i i1 (by omega)
      rw [v1_o e, v1_o (by omega), v1_o (by omega), v1_o (by omega)]
      exact ⟨a1, by omega, a3, a4, a5, a6⟩
  · by_cases e : k = hc
    · subst e
      rw [v1_s, v1_o (by omega)]
      exact (g2 i i1 i2).2.1
    · rw [v1_o e, v1_o (by omega)]
      exact g3 i k i1 i2 (by omega)
  · by_cases e : k = K
    · subst e
      rw [v1_s]
      exact ⟨Or.inr rfl, fun _ => ⟨by omega, hc, g1, by omega, by rw [v1_s]⟩⟩
    · rw [v1_o e]
      refine ⟨(g4 k k1 k2).1, fun h => ?_⟩
      obtain ⟨b1, i, b2, b3, b4⟩ := (g4 k k1 k2).2 h
      exact ⟨by omega, i, b2, by omega, by rw [v1_o (by omega)]; exact b4⟩
  · have := g5 l l1 l2
    omega
theorem gh1_st (G : Gh1 D K hc oh hv isA de ki) {δ : Int} : Gh1 D (K + 1) hc oh hv isA (v1 de K δ) (v1 ki K κ) := by
  obtain ⟨g1, g2, g3, g4, g5⟩ := G
  refine ⟨g1, fun i i1 i2 => ?_, g3, fun k k1 k2 => ?_, g5⟩
  · obtain ⟨a1, a2, a3, a4, a5, a6⟩ := g2 i i1 i2
    rw [v1_o (by omega), v1_o (by omega)]
    exact ⟨a1, by omega, a3, a4, a5, a6⟩
  · refine ⟨(g4 k k1 k2).1, fun h => ?_⟩
    have := (g4 k k1 k2).2 h
    exact ⟨by omega, this.2⟩
theorem gh1_close (G : Gh1 D K hc oh hv isA de ki) (hD : 0 < D) (hK : K ≤ 200) (h : ∀ k, 0 ≤ k → k < 200 → (k < K ∧ isA k = 1 ∧ de k = D → isA2 k = 0) ∧ (¬(k < K ∧ isA k = 1 ∧ de k = D) → isA2 k = isA k)) : Gh1 (D - 1) K (oh (D - 1)) oh hv isA2 de ki := by
  obtain ⟨g1, g2, g3, g4, g5⟩ := G
  obtain ⟨o1, o2⟩ := g5 (D - 1) (by omega) (by omega)
  refine ⟨o1, fun i i1 i2 => ?_, fun i k i1 i2 i3 => g3 i k i1 i2 (by omega), fun k k1 k2 => ?_, fun l l1 l2 => ?_⟩
  · obtain ⟨a1, a2, a3, a4, a5, a6⟩ := g2 i i1 (by omega)
    have := a6 (D - 1) (by omega) (by omega)
    rw [(h (hv i) (by omega) (by omega)).2 (by omega)]
    exact ⟨a1, a2, a3, a4, by omega, fun l l1 l2 => a6 l l1 (by omega)⟩
  · by_cases e : k < K ∧ isA k = 1 ∧ de k = D
    · rw [(h k k1 k2).1 e]
      exact ⟨Or.inl rfl, fun z => by omega⟩
    · rw [(h k k1 k2).2 e]
      refine ⟨(g4 k k1 k2).1, fun z => ?_⟩
      obtain ⟨b1, i, b2, b3, b4⟩ := (g4 k k1 k2).2 z
      refine ⟨b1, i, b2, ?_, b4⟩
      obtain ⟨a1, a2, a3, a4, a5, a6⟩ := g2 i b2 b3
      have := a6 (D - 1) (by omega) (by omega)
      rw [b4] at a5 this
      have : de k ≠ D := fun y => e ⟨b1, z, y⟩
      omega
  · obtain ⟨c1, c2⟩ := g5 l l1 (by omega)
    refine ⟨c1, ?_⟩
    by_cases e : oh l ≤ oh (D - 1)
    · exact e
    · obtain ⟨a1, a2, a3, a4, a5, a6⟩ := g2 (oh (D - 1)) o1 (by omega)
      have h1 := a6 l l1 (by omega)
      have h2 := a6 (D - 1) (by omega) (by omega)
      omega
/-- which hypotheses end with a block: those on the stack from its beginning on -/
theorem gh1_mem (G : Gh1 D K hc oh hv isA de ki) (hD : 0 < D) (hK : K ≤ 200) {k : Int} (k1 : 0 ≤ k) (k2 : k < K) : mem hv (oh (D - 1)) hc k ↔ isA k = 1 ∧ de k = D := by
  obtain ⟨g1, g2, g3, g4, g5⟩ := G
  obtain ⟨o1, o2⟩ := g5 (D - 1) (by omega) (by omega)
  constructor
  · rintro ⟨i, i1, i2, rfl⟩
    obtain ⟨a1, a2, a3, a4, a5, a6⟩ := g2 i (by omega) i2
    have := a6 (D - 1) (by omega) (by omega)
    exact ⟨a3, by omega⟩
  · rintro ⟨h1, h2⟩
    obtain ⟨b1, i, b2, b3, b4⟩ := (g4 k k1 (by omega)).2 h1
    obtain ⟨a1, a2, a3, a4, a5, a6⟩ := g2 i b2 b3
    have := a6 (D - 1) (by omega) (by omega)
    rw [b4] at this
    exact ⟨i, by omega, b3, b4⟩
theorem ndv_split {k x : Int} (h0 : 0 ≤ k) (h : k < hc) : ndv q it st A12 ki hv (k + 1) x = ndv q it st A12 ki hv k x + (if ki (hv k) = 1 then oc q it st A12 (hv k) x else 0) := by
  unfold ndv
  rw [show (k + 1).toNat = k.toNat + 1 by omega]
  show nsum _ k.toNat + (if ki (hv ((k.toNat : Nat) : Int)) = 1 then oc q it st A12 (hv ((k.toNat : Nat) : Int)) x else 0) = _
  rw [show ((k.toNat : Nat) : Int) = k by omega]
theorem ndv_pos {x : Int} (hc0 : 0 ≤ hc) : 0 ≤ ndv q it st A12 ki hv hc x ∧ (0 < ndv q it st A12 ki hv hc x ↔ ∃ i, 0 ≤ i ∧ i < hc ∧ ki (hv i) = 1 ∧ ∃ y, 0 ≤ y ∧ y < A12 (200 * q + hv i) ∧ it (st (hv i) + y) = x) := by
  unfold ndv
  have := nsum_pos (g := fun i => if ki (hv i) = 1 then oc q it st A12 (hv i) x else 0) (n := hc.toNat) (fun i _ _ => by
    by_cases e : ki (hv i) = 1
    · simp only [e, if_true]; exact (oc_nn q it st A12 (hv i) x).1
    · simp only [e, if_false]; omega)
  refine ⟨this.1, this.2.trans ?_⟩
  constructor
  · rintro ⟨i, i1, i2, i3⟩
    by_cases e : ki (hv i) = 1
    · simp only [e, if_true] at i3
      obtain ⟨y, y1, y2, y3⟩ := cn_pos.mp i3
      exact ⟨i, i1, by omega, e, y, y1, by omega, y3⟩
    · simp only [e, if_false] at i3; omega
  · rintro ⟨i, i1, i2, e, y, y1, y2, y3⟩
    refine ⟨i, i1, by omega, ?_⟩
    simp only [e, if_true]
    exact cn_pos.mpr ⟨y, y1, by omega, y3⟩
end GH
