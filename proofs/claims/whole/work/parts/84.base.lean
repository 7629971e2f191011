/-! Numbers as integers; loops by their states -/
def qz (a : Int) : Int32 := Int32.ofInt a
noncomputable def qp (p : Prop) : Int32 := @ite _ p (Classical.propDecidable p) (qz 1) (qz 0)
theorem qz_lit (n : Nat) : (OfNat.ofNat n : Int32) = qz (OfNat.ofNat n) := id rfl
theorem qz_add (a b : Int) : qz a + qz b = qz (a + b) := (Int32.ofInt_add a b).symm
theorem qz_mul (a b : Int) : qz a * qz b = qz (a * b) := (Int32.ofInt_mul a b).symm
theorem qz_neg (a : Int) : -qz a = qz (-a) := (Int32.ofInt_neg a).symm
theorem qz_sub (a b : Int) : qz a - qz b = qz (a - b) := (Int32.ofInt_sub a b).symm
theorem qz_toInt {a : Int} (h : -2147483648 ≤ a) (h2 : a < 2147483648) : (qz a).toInt = a := by
  show (Int32.ofInt a).toInt = a
  rw [Int32.toInt_ofInt, Int.bmod_eq_of_le] <;> simp <;> omega
theorem qz_inj {a b : Int} (ha : -2147483648 ≤ a) (ha2 : a < 2147483648) (hb : -2147483648 ≤ b) (hb2 : b < 2147483648) : (qz a = qz b) = (a = b) := by
  apply propext
  constructor
  · intro h
    have := congrArg Int32.toInt h
    rwa [qz_toInt ha ha2, qz_toInt hb hb2] at this
  · intro h; rw [h]
theorem qz_lt {a b : Int} (ha : -2147483648 ≤ a) (ha2 : a < 2147483648) (hb : -2147483648 ≤ b) (hb2 : b < 2147483648) : (qz a < qz b) = (a < b) := by
  rw [Int32.lt_iff_toInt_lt, qz_toInt ha ha2, qz_toInt hb hb2]
theorem qz_le {a b : Int} (ha : -2147483648 ≤ a) (ha2 : a < 2147483648) (hb : -2147483648 ≤ b) (hb2 : b < 2147483648) : (qz a ≤ qz b) = (a ≤ b) := by
  rw [Int32.le_iff_toInt_le, qz_toInt ha ha2, qz_toInt hb hb2]
theorem qz_div {a b : Int} (ha : 0 ≤ a) (ha2 : a < 2147483648) (h0 : 0 < b) (hb : b < 2147483648) : qz a / qz b = qz (a / b) := by
  apply Int32.toInt_inj.mp
  have hd : a / b ≤ a := Int.ediv_le_self b ha
  have hd2 : 0 ≤ a / b := Int.ediv_nonneg ha (by omega)
  rw [qz_toInt (by omega) (by omega), Int32.toInt_div_of_ne_right, qz_toInt (by omega) ha2, qz_toInt (by omega) hb]
  · exact Int.tdiv_eq_ediv_of_nonneg ha
  · intro h
    have := congrArg Int32.toInt h
    rw [qz_toInt (by omega) hb] at this
    have e : (-1 : Int32).toInt = -1 := by decide
    omega
theorem qz_of (v : Int32) : ∃ a, -2147483648 ≤ a ∧ a < 2147483648 ∧ v = qz a := by
  have h1 := Int32.le_toInt v
  have h2 := Int32.toInt_lt v
  refine ⟨v.toInt, by omega, by omega, ?_⟩
  exact (Int32.ofInt_toInt v).symm
theorem qz_clamp {a : Int} (h : 0 ≤ a) (h2 : a < 2147483648) : (qz a).toNatClampNeg = a.toNat := by
  have := qz_toInt (a := a) (by omega) h2
  rw [Int32.toNatClampNeg, this]
theorem qp_T {p : Prop} (h : p) : qp p = qz 1 := by unfold qp; rw [if_pos h]
theorem qp_F {p : Prop} (h : ¬p) : qp p = qz 0 := by unfold qp; rw [if_neg h]
theorem qp_0 (p : Prop) : (qp p = qz 0) = ¬p := by
  apply propext
  by_cases h : p
  · rw [qp_T h]; simp only [h, not_true_eq_false, iff_false]; decide
  · rw [qp_F h]; simp [h]
theorem qp_1 (p : Prop) : (qp p = qz 1) = p := by
  apply propext
  by_cases h : p
  · rw [qp_T h]; simp [h]
  · rw [qp_F h]; simp only [h, iff_false]; decide
theorem qp_congr {p r : Prop} (h : p ↔ r) : qp p = qp r := by rw [propext h]
theorem hp_bz_qp (p : Prop) : hp_bz (qp p) = some () := by
  by_cases h : p
  · rw [qp_T h]; decide
  · rw [qp_F h]; decide
theorem hp_bz_0 : hp_bz (qz 0) = some () := by decide
theorem hp_bz_1 : hp_bz (qz 1) = some () := by decide
theorem qp_ite (p : Prop) [Decidable p] : (if p then qz 1 else qz 0) = qp p := by
  by_cases h : p
  · rw [if_pos h, qp_T h]
  · rw [if_neg h, qp_F h]
theorem bd_some {α β : Type} (a : α) (f : α → Option β) : (some a).bind f = f a := id rfl
theorem gA_n {s : st_T} {i : Nat} {m : Int} (h0 : 0 ≤ m) (h : m < (s.2.2.2.1 i : Int)) (h2 : m < 2147483648) : gA s i (qz m) = some (s.2.2.1 i m.toNat) := by
  unfold gA
  rw [if_pos (by rw [qz_toInt (by omega) h2]; omega), qz_clamp h0 h2]
theorem gJ_n {s : st_T} {i : Nat} {m : Int} (h0 : 0 ≤ m) (h : m < (s.2.2.2.1 i : Int)) (h2 : m < 2147483648) : gJ s i (qz m) = some (s.2.2.2.2 i m.toNat) := by
  unfold gJ
  rw [if_pos (by rw [qz_toInt (by omega) h2]; omega), qz_clamp h0 h2]
theorem uA_n {s : st_T} {t i : Nat} {m : Int} {x : Int32} (h0 : 0 ≤ m) (h : m < (s.2.2.2.1 i : Int)) (h2 : m < 2147483648) : uA t s i (qz m) x = some (s.1, s.2.1, u2 s.2.2.1 i m.toNat (hp_nar t x), s.2.2.2) := by
  unfold uA
  rw [if_pos (by rw [qz_toInt (by omega) h2]; omega), qz_clamp h0 h2]
theorem uJ_n {s : st_T} {i : Nat} {m : Int} {x : Int64} (h0 : 0 ≤ m) (h : m < (s.2.2.2.1 i : Int)) (h2 : m < 2147483648) : uJ s i (qz m) x = some (s.1, s.2.1, s.2.2.1, s.2.2.2.1, u2 s.2.2.2.2 i m.toNat x) := by
  unfold uJ
  rw [if_pos (by rw [qz_toInt (by omega) h2]; omega), qz_clamp h0 h2]
theorem nar_0 (x : Int32) : hp_nar 0 x = x := id rfl
theorem nar_2 {x : Int} (h : x = 0 ∨ x = 1) : hp_nar 2 (qz x) = qz x := by rcases h with rfl | rfl <;> rfl
theorem lp_run {S X : Type} {b : S → Option (S ⊕ X)} {I : S → Prop} {μ : S → Int} {Q : X → Prop} (h : ∀ c, I c → 0 ≤ μ c ∧ ((∃ c2, b c = some (.inl c2) ∧ I c2 ∧ μ c2 < μ c) ∨ ∃ x, b c = some (.inr x) ∧ Q x)) : ∀ (n : Nat) c, I c → μ c < n → ∃ x, hp_lp b n c = some x ∧ Q x := by
  intro n
  induction n with
  | zero => intro c hI hm; have := (h c hI).1; omega
  | succ n ih =>
    intro c hI hm
    rcases (h c hI).2 with ⟨c2, e, hI2, hl⟩ | ⟨x, e, hx⟩
    · obtain ⟨x, e2, hx⟩ := ih c2 hI2 (by omega)
      exact ⟨x, hp_lp_s e e2, hx⟩
    · exact ⟨x, hp_lp_x e, hx⟩
theorem lp_for {S X : Type} {b : S → Option (S ⊕ X)} (c : Int → S) {x : X} (m : Int) {n : Nat} {i0 : Int} (h0 : i0 ≤ m) (hn : m - i0 < n) (hs : ∀ i, i0 ≤ i → i < m → b (c i) = some (.inl (c (i + 1)))) (he : b (c m) = some (.inr x)) : hp_lp b n (c i0) = some x := by
  have key : ∀ (d : Nat) (i : Int) (n : Nat), i0 ≤ i → i + d = m → d < n → hp_lp b n (c i) = some x := by
    intro d
    induction d with
    | zero =>
      intro i n h1 h2 h3
      obtain ⟨n, rfl⟩ : ∃ k, n = k + 1 := ⟨n - 1, by omega⟩
      have : i = m := by omega
      subst this
      exact hp_lp_x he
    | succ d ih =>
      intro i n h1 h2 h3
      obtain ⟨n, rfl⟩ : ∃ k, n = k + 1 := ⟨n - 1, by omega⟩
      exact hp_lp_s (hs i h1 (by omega)) (ih (i + 1) n (by omega) (by omega) (by omega))
  exact key (m - i0).toNat i0 n (by omega) (by omega) (by omega)
/-- the same with some property of the state in place of the state -/
theorem lp_inv {S X : Type} {b : S → Option (S ⊕ X)} (I : Int → S → Prop) {Q : X → Prop} (m : Int) {n : Nat} {i0 : Int} (h0 : i0 ≤ m) (hn : m - i0 < n) {c0 : S} (hI : I i0 c0) (hs : ∀ i c, i0 ≤ i → i < m → I i c → ∃ c2, b c = some (.inl c2) ∧ I (i + 1) c2) (he : ∀ c, I m c → ∃ x, b c = some (.inr x) ∧ Q x) : ∃ x, hp_lp b n c0 = some x ∧ Q x := by
  have key : ∀ (d : Nat) (i : Int) (n : Nat) (c : S), i0 ≤ i → i + d = m → d < n → I i c → ∃ x, hp_lp b n c = some x ∧ Q x := by
    intro d
    induction d with
    | zero =>
      intro i n c h1 h2 h3 h4
      obtain ⟨n, rfl⟩ : ∃ k, n = k + 1 := ⟨n - 1, by omega⟩
      have : i = m := by omega
      subst this
      obtain ⟨x, e, hx⟩ := he c h4
      exact ⟨x, hp_lp_x e, hx⟩
    | succ d ih =>
      intro i n c h1 h2 h3 h4
      obtain ⟨n, rfl⟩ : ∃ k, n = k + 1 := ⟨n - 1, by omega⟩
      obtain ⟨c2, e, h5⟩ := hs i c h1 (by omega) h4
      obtain ⟨x, e2, hx⟩ := ih (i + 1) n c2 (by omega) (by omega) (by omega) h5
      exact ⟨x, hp_lp_s e e2, hx⟩
  exact key (m - i0).toNat i0 n c0 (by omega) (by omega) (by omega) hI
theorem ex_step {p : Int → Prop} {b i : Int} (h : b ≤ i) : (∃ x, b ≤ x ∧ x < i + 1 ∧ p x) = ((∃ x, b ≤ x ∧ x < i ∧ p x) ∨ p i) := by
  apply propext
  constructor
  · rintro ⟨x, h1, h2, h3⟩
    by_cases e : x = i
    · subst e; exact Or.inr h3
    · exact Or.inl ⟨x, h1, by omega, h3⟩
  · rintro (⟨x, h1, h2, h3⟩ | h3)
    · exact ⟨x, h1, by omega, h3⟩
    · exact ⟨i, h, by omega, h3⟩
theorem ex_none {p : Int → Prop} {b : Int} : (∃ x, b ≤ x ∧ x < b ∧ p x) = False := by
  apply propext
  constructor
  · rintro ⟨x, h1, h2, h3⟩; omega
  · exact False.elim
theorem al_step {p : Int → Prop} {b i : Int} (h : b ≤ i) : (∀ x, b ≤ x → x < i + 1 → p x) = ((∀ x, b ≤ x → x < i → p x) ∧ p i) := by
  apply propext
  constructor
  · exact fun g => ⟨fun x h1 h2 => g x h1 (by omega), g i h (by omega)⟩
  · rintro ⟨g, g2⟩ x h1 h2
    by_cases e : x = i
    · subst e; exact g2
    · exact g x h1 (by omega)
theorem al_none {p : Int → Prop} {b : Int} : (∀ x, b ≤ x → x < b → p x) = True := by
  apply propext
  exact ⟨fun _ => trivial, fun _ x h1 h2 => by omega⟩
theorem lp_any {S X : Type} {b : S → Option (S ⊕ X)} (c : Int → Prop → S) (xx : Prop → X) (p : Int → Prop) {n : Nat} {lo : Int} (hi : Int) (h0 : lo ≤ hi) (hn : hi - lo < n) (hs : ∀ i P, lo ≤ i → i < hi → b (c i P) = some (.inl (c (i + 1) (P ∨ p i)))) (he : ∀ P, b (c hi P) = some (.inr (xx P))) : hp_lp b n (c lo False) = some (xx (∃ x, lo ≤ x ∧ x < hi ∧ p x)) := by
  have := lp_for (b := b) (x := xx (∃ x, lo ≤ x ∧ x < hi ∧ p x)) (fun i => c i (∃ x, lo ≤ x ∧ x < i ∧ p x)) hi (n := n) h0 hn (fun i h1 h2 => by rw [hs i _ h1 h2, ex_step h1]) (he _)
  rw [← this, ex_none]
theorem lp_all {S X : Type} {b : S → Option (S ⊕ X)} (c : Int → Prop → S) (xx : Prop → X) (p : Int → Prop) {n : Nat} {lo : Int} (hi : Int) (h0 : lo ≤ hi) (hn : hi - lo < n) (hs : ∀ i P, lo ≤ i → i < hi → b (c i P) = some (.inl (c (i + 1) (P ∧ p i)))) (he : ∀ P, b (c hi P) = some (.inr (xx P))) : hp_lp b n (c lo True) = some (xx (∀ x, lo ≤ x → x < hi → p x)) := by
  have := lp_for (b := b) (x := xx (∀ x, lo ≤ x → x < hi → p x)) (fun i => c i (∀ x, lo ≤ x → x < i → p x)) hi (n := n) h0 hn (fun i h1 h2 => by rw [hs i _ h1 h2, al_step h1]) (he _)
  rw [← this, al_none]
/-- a loop that ends at the first i with p i -/
theorem lp_find {S X : Type} {b : S → Option (S ⊕ X)} (c : Int → S) (p : Int → Prop) (x : Int → X) (y : X) {n : Nat} {lo : Int} (hi : Int) (h0 : lo ≤ hi) (hn : hi - lo < n) (hs : ∀ i, lo ≤ i → i < hi → ¬p i → b (c i) = some (.inl (c (i + 1)))) (hx : ∀ i, lo ≤ i → i < hi → p i → b (c i) = some (.inr (x i))) (he : b (c hi) = some (.inr y)) : (∃ i, lo ≤ i ∧ i < hi ∧ p i ∧ (∀ k, lo ≤ k → k < i → ¬p k) ∧ hp_lp b n (c lo) = some (x i)) ∨ ((∀ k, lo ≤ k → k < hi → ¬p k) ∧ hp_lp b n (c lo) = some y) := by
  have key : ∀ (d : Nat) (i : Int) (n : Nat), lo ≤ i → i + d = hi → d < n → (∃ k, i ≤ k ∧ k < hi ∧ p k ∧ (∀ l, i ≤ l → l < k → ¬p l) ∧ hp_lp b n (c i) = some (x k)) ∨ ((∀ k, i ≤ k → k < hi → ¬p k) ∧ hp_lp b n (c i) = some y) := by
    intro d
    induction d with
    | zero =>
      intro i n h1 h2 h3
      obtain ⟨n, rfl⟩ : ∃ k, n = k + 1 := ⟨n - 1, by omega⟩
      have : i = hi := by omega
      subst this
      exact Or.inr ⟨fun k _ _ => by omega, hp_lp_x he⟩
    | succ d ih =>
      intro i n h1 h2 h3
      obtain ⟨n, rfl⟩ : ∃ k, n = k + 1 := ⟨n - 1, by omega⟩
      by_cases hp : p i
      · exact Or.inl ⟨i, by omega, by omega, hp, fun l _ _ => by omega, hp_lp_x (hx i h1 (by omega) hp)⟩
      · have e := hs i h1 (by omega) hp
        rcases ih (i + 1) n (by omega) (by omega) (by omega) with ⟨k, g1, g2, g3, g4, g5⟩ | ⟨g4, g5⟩
        · refine Or.inl ⟨k, by omega, g2, g3, fun l l1 l2 => ?_, hp_lp_s e g5⟩
          by_cases q : l = i
          · subst q; exact hp
          · exact g4 l (by omega) l2
        · refine Or.inr ⟨fun k k1 k2 => ?_, hp_lp_s e g5⟩
          by_cases q : k = i
          · subst q; exact hp
          · exact g4 k (by omega) k2
  exact key (hi - lo).toNat lo n (by omega) (by omega) (by omega)
/-- the same where the answer is whether there was one -/
theorem lp_some {S X : Type} {b : S → Option (S ⊕ X)} (c : Int → S) (p : Int → Prop) (xx : Prop → X) {n : Nat} {lo : Int} (hi : Int) (h0 : lo ≤ hi) (hn : hi - lo < n) (hs : ∀ i, lo ≤ i → i < hi → ¬p i → b (c i) = some (.inl (c (i + 1)))) (hx : ∀ i, lo ≤ i → i < hi → p i → b (c i) = some (.inr (xx True))) (he : b (c hi) = some (.inr (xx False))) : hp_lp b n (c lo) = some (xx (∃ x, lo ≤ x ∧ x < hi ∧ p x)) := by
  rcases lp_find c p (fun _ => xx True) (xx False) hi h0 hn hs hx he with ⟨i, h1, h2, h3, h4, h5⟩ | ⟨h4, h5⟩
  · rw [h5, eq_true (p := ∃ x, lo ≤ x ∧ x < hi ∧ p x) ⟨i, h1, h2, h3⟩]
  · rw [h5, eq_false (p := ∃ x, lo ≤ x ∧ x < hi ∧ p x) (fun ⟨i, h1, h2, h3⟩ => h4 i h1 h2 h3)]
theorem qpT : qp True = qz 1 := qp_T trivial
theorem qpF : qp False = qz 0 := qp_F not_false
/-- a loop that goes on while all was well, and looks at that at its head -/
theorem lp_brk {S X : Type} {b : S → Option (S ⊕ X)} (c c0 : Int → S) (xx : Prop → X) (p : Int → Prop) {n : Nat} {lo : Int} (hi : Int) (h0 : lo ≤ hi) (hn : hi - lo + 1 < n) (hs : ∀ i, lo ≤ i → i < hi → p i → b (c i) = some (.inl (c (i + 1)))) (hf : ∀ i, lo ≤ i → i < hi → ¬p i → b (c i) = some (.inl (c0 (i + 1)))) (hz : ∀ i, lo < i → i ≤ hi → b (c0 i) = some (.inr (xx False))) (he : b (c hi) = some (.inr (xx True))) : hp_lp b n (c lo) = some (xx (∀ x, lo ≤ x → x < hi → p x)) := by
  have key : ∀ (d : Nat) (i : Int) (n : Nat), lo ≤ i → i + d = hi → d + 1 < n → hp_lp b n (c i) = some (xx (∀ x, i ≤ x → x < hi → p x)) := by
    intro d
    induction d with
    | zero =>
      intro i n h1 h2 h3
      obtain ⟨n, rfl⟩ : ∃ k, n = k + 1 := ⟨n - 1, by omega⟩
      have : i = hi := by omega
      subst this
      rw [al_none]
      exact hp_lp_x he
    | succ d ih =>
      intro i n h1 h2 h3
      obtain ⟨n, rfl⟩ : ∃ k, n = k + 1 := ⟨n - 1, by omega⟩
      by_cases hp : p i
      · have e := hp_lp_s (hs i h1 (by omega) hp) (ih (i + 1) n (by omega) (by omega) (by omega))
        rw [e]
        congr 2
        apply propext
        constructor
        · intro g x x1 x2
          by_cases q : x = i
          · subst q; exact hp
          · exact g x (by omega) x2
        · exact fun g x x1 x2 => g x (by omega) x2
      · rw [eq_false (p := ∀ x, i ≤ x → x < hi → p x) (fun g => hp (g i (by omega) (by omega)))]
        obtain ⟨n, rfl⟩ : ∃ k, n = k + 1 := ⟨n - 1, by omega⟩
        exact hp_lp_s (hf i h1 (by omega) hp) (hp_lp_x (hz (i + 1) (by omega) (by omega)))
  exact key (hi - lo).toNat lo n (by omega) (by omega) (by omega)
