/-! Bytes with and without a sign -/
def sgn (v w : Int) : Prop := (v = w ∧ v < 128) ∨ (128 ≤ w ∧ w < 256 ∧ v = w - 256)
def txs (T t : Int → Int) (sz : Int) : Prop := ∀ x, 0 ≤ x → x < sz → sgn (T x) (t x)
theorem sgn_eq {v w v2 w2 : Int} (h : sgn v w) (h2 : sgn v2 w2) (hw : 0 ≤ w) (hw2 : 0 ≤ w2) : (v = v2) ↔ (w = w2) := by unfold sgn at h h2; omega
section SGN
variable {T t : Int → Int} {sz b e c : Int}
theorem sg_blk (h : txs T t sz) (hb : 0 ≤ b) (hc : b < sz) : blk (T b) ↔ blk (t b) := by
  have := h b hb hc
  unfold sgn at this
  unfold blk
  omega
theorem sg_tk (h : txs T t sz) (hc : 0 ≤ c) (ht : tk t sz c b e) : tk T sz c b e := by
  obtain ⟨t1, t2, t3, t4, t5, t6, t7⟩ := ht
  exact ⟨t1, t2, t3, fun x h1 h2 => (sg_blk h (by omega) (by omega)).mpr (t4 x h1 h2), fun z => fun y => t5 z ((sg_blk h (by omega) (by omega)).mp y), fun x h1 h2 => fun y => t6 x h1 h2 ((sg_blk h (by omega) (by omega)).mp y), fun z => (sg_blk h (by omega) (by omega)).mpr (t7 z)⟩
theorem sg_bad (h : txs T t sz) (hb : 0 ≤ b) (he : e ≤ sz) : bad T b e ↔ bad t b e := by
  unfold bad
  constructor
  · rintro ⟨x, h1, h2, h3⟩
    have := h x (by omega) (by omega)
    unfold sgn at this
    exact ⟨x, h1, h2, by unfold badc at *; omega⟩
  · rintro ⟨x, h1, h2, h3⟩
    have := h x (by omega) (by omega)
    unfold sgn at this
    exact ⟨x, h1, h2, by unfold badc at *; omega⟩
theorem sg_dol (h : txs T t sz) (hb : 0 ≤ b) (he : e ≤ sz) : dol T b e ↔ dol t b e := by
  unfold dol
  constructor
  · rintro ⟨x, h1, h2, h3⟩
    have := h x (by omega) (by omega)
    unfold sgn at this
    exact ⟨x, h1, h2, by omega⟩
  · rintro ⟨x, h1, h2, h3⟩
    have := h x (by omega) (by omega)
    unfold sgn at this
    exact ⟨x, h1, h2, by omega⟩
theorem sg_prt (h : txs T t sz) (hb : 0 ≤ b) (he : e ≤ sz) (hc : 0 ≤ c ∧ c < 128) : prt T b e c ↔ prt t b e c := by
  unfold prt
  constructor
  · rintro ⟨x, h1, h2, h3, h4⟩
    have := h x (by omega) (by omega)
    have := h (x + 1) (by omega) (by omega)
    unfold sgn at *
    exact ⟨x, h1, h2, by omega, by omega⟩
  · rintro ⟨x, h1, h2, h3, h4⟩
    have := h x (by omega) (by omega)
    have := h (x + 1) (by omega) (by omega)
    unfold sgn at *
    exact ⟨x, h1, h2, by omega, by omega⟩
theorem sg_isw (h : txs T t sz) (hb : 0 ≤ b) (he : e ≤ sz) (hc : 0 ≤ c ∧ c < 128) : isw T b e c ↔ isw t b e c := by
  unfold isw
  constructor
  · rintro ⟨h1, h2, h3⟩
    have := h b (by omega) (by omega)
    have := h (b + 1) (by omega) (by omega)
    unfold sgn at *
    exact ⟨h1, by omega, by omega⟩
  · rintro ⟨h1, h2, h3⟩
    have := h b (by omega) (by omega)
    have := h (b + 1) (by omega) (by omega)
    unfold sgn at *
    exact ⟨h1, by omega, by omega⟩
theorem sg_lab (h : txs T t sz) (hb : 0 ≤ b) (he : e ≤ sz) : lab T b e ↔ lab t b e := by
  unfold lab
  constructor
  · intro g x h1 h2
    have := h x (by omega) (by omega)
    have := g x h1 h2
    unfold sgn at *
    unfold lch at *
    omega
  · intro g x h1 h2
    have := h x (by omega) (by omega)
    have := g x h1 h2
    unfold sgn at *
    unfold lch at *
    omega
theorem sg_scn (h : txs T t sz) : ∀ {k : Nat} {c : Int} {q : Prop} {o b e : Int}, 0 ≤ c → scn t sz k c q o b e → scn T sz k c q o b e := by
  intro k
  induction k with
  | zero => intro c q o b e _ h; exact h
  | succ k ih =>
    intro c q o b e hc hs
    obtain ⟨b', e', ht, hs⟩ := hs
    have ⟨t1, t2, t3, _⟩ := ht
    refine ⟨b', e', sg_tk h hc ht, ?_⟩
    have f1 := sg_bad h (b := b') (e := e') (by omega) t3
    have f2 := sg_isw h (b := b') (e := e') (c := 40) (by omega) t3 (by omega)
    have f3 := sg_isw h (b := b') (e := e') (c := 41) (by omega) t3 (by omega)
    have f4 := sg_prt h (b := b') (e := e') (c := 40) (by omega) t3 (by omega)
    have f5 := sg_prt h (b := b') (e := e') (c := 41) (by omega) t3 (by omega)
    rw [f1, f2, f3, f4, f5]
    rcases hs with h2 | h2 | h2 | h2 | ⟨h2, h3, h4, h5, h6⟩ | ⟨h2, h3, h4, h5, h6⟩ | ⟨h2, h3, h4, h5, h6, h7⟩
    · exact Or.inl h2
    · exact Or.inr (Or.inl h2)
    · exact Or.inr (Or.inr (Or.inl h2))
    · exact Or.inr (Or.inr (Or.inr (Or.inl h2)))
    · exact Or.inr (Or.inr (Or.inr (Or.inr (Or.inl ⟨h2, h3, h4, h5, ih (by omega) h6⟩))))
    · exact Or.inr (Or.inr (Or.inr (Or.inr (Or.inr (Or.inl ⟨h2, h3, h4, h5, ih (by omega) h6⟩)))))
    · exact Or.inr (Or.inr (Or.inr (Or.inr (Or.inr (Or.inr ⟨h2, h3, h4, h5, h6, ih (by omega) h7⟩)))))
/-- which keyword the token is -/
theorem wrd_isw {w : Int} (h : wrd T b e w) (hc : c = 46 ∨ c = 61 ∨ c = 97 ∨ c = 99 ∨ c = 100 ∨ c = 101 ∨ c = 102 ∨ c = 112 ∨ c = 118 ∨ c = 123 ∨ c = 125) : isw T b e c ↔ w = c := by
  constructor
  · intro hi
    have hk : kwd T b e := by
      unfold kwd
      rcases hc with rfl | rfl | rfl | rfl | rfl | rfl | rfl | rfl | rfl | rfl | rfl <;> simp [hi]
    have hd : dol T b e := ⟨b, by omega, by unfold isw at hi; omega, hi.2.1⟩
    rcases h with ⟨h1, _⟩ | ⟨_, h2, _⟩ | ⟨_, h2, _⟩
    · exact absurd hd h1
    · rw [h2]; exact hi.2.2
    · exact absurd hk h2
  · rintro rfl
    rcases h with ⟨_, h2⟩ | ⟨_, h2, h3⟩ | ⟨_, _, h2⟩
    · omega
    · exact h3
    · omega
theorem wrd_dol {w : Int} (h : wrd T b e w) : dol T b e ↔ w ≠ 0 := by
  rcases h with ⟨h1, rfl⟩ | ⟨h0, h2, h3⟩ | ⟨h1, _, rfl⟩
  · simp [h1]
  · have hd : dol T b e := ⟨b, by omega, by unfold isw at h3; omega, h3.2.1⟩
    constructor
    · intro _
      unfold kwd at h0
      have : w = 46 ∨ w = 61 ∨ w = 97 ∨ w = 99 ∨ w = 100 ∨ w = 101 ∨ w = 102 ∨ w = 112 ∨ w = 118 ∨ w = 123 ∨ w = 125 := by
        unfold isw at h0
        omega
      omega
    · exact fun _ => hd
  · simp [h1]
theorem wrd_kwd {w : Int} (h : wrd T b e w) : (dol T b e ∧ ¬kwd T b e) ↔ w = -1 := by
  constructor
  · rintro ⟨h1, h2⟩
    rcases h with ⟨h3, _⟩ | ⟨h3, _⟩ | ⟨_, _, h3⟩
    · exact absurd h1 h3
    · exact absurd h3 h2
    · exact h3
  · rintro rfl
    rcases h with ⟨_, h3⟩ | ⟨h3, h4, h5⟩ | ⟨h1, h2, _⟩
    · omega
    · unfold kwd at h3
      unfold isw at h3 h5
      omega
    · exact ⟨h1, h2⟩
theorem wrd_rng {w : Int} (h : wrd T b e w) (ht : byt T) (h0 : 0 ≤ b) (h1 : b < e) (h2 : e ≤ 8192) : -1 ≤ w ∧ w < 128 := by
  rcases h with ⟨_, rfl⟩ | ⟨h3, h4, h5⟩ | ⟨_, _, rfl⟩
  · omega
  · unfold kwd at h3
    unfold isw at h3 h5
    omega
  · omega
end SGN
