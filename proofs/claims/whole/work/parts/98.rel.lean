/-! What a book is, in class and reference -/
def bq (b : Nat) (q : Int) : Prop := (b = 1 ∧ q = 0) ∨ (b = 33 ∧ q = 1)
theorem bq_b {b : Nat} {q : Int} (h : bq b q) : bks b := by
  rcases h with ⟨rfl, _⟩ | ⟨rfl, _⟩
  · exact Or.inl rfl
  · exact Or.inr rfl
theorem bq_q {b : Nat} {q : Int} (h : bq b q) : 0 ≤ q ∧ q ≤ 1 := by
  rcases h with ⟨_, rfl⟩ | ⟨_, rfl⟩ <;> omega
def asc (it : Int → Int) (lo hi : Int) : Prop := ∀ i k, lo ≤ i → i < k → k < hi → it i < it k
def mem (it : Int → Int) (lo hi x : Int) : Prop := ∃ i, lo ≤ i ∧ i < hi ∧ it i = x
/-- kinds and depths -/
def Gk (q K : Int) (ki de A7 A10 : Int → Int) : Prop := ∀ k, 0 ≤ k → k < K → ki k = A7 (200 * q + k) ∧ 0 ≤ ki k ∧ ki k ≤ 3 ∧ de k = A10 (200 * q + k) ∧ 0 ≤ de k ∧ de k ≤ 16
/-- formulas -/
def Gf (q K S : Int) (it st va ki A11 A12 A16 : Int → Int) : Prop := ∀ k, 0 ≤ k → k < K → st k = A11 (200 * q + k) ∧ st (k + 1) = st k + A12 (200 * q + k) ∧ 1 ≤ A12 (200 * q + k) ∧ A12 (200 * q + k) ≤ 60 ∧ (∀ i, 0 ≤ i → i < A12 (200 * q + k) → it (st k + i) = A16 (4096 * q + (st k + i)) ∧ 0 ≤ it (st k + i) ∧ it (st k + i) < S) ∧ va (it (st k)) = 0 ∧ (ki k = 0 → A12 (200 * q + k) = 2 ∧ va (it (st k + 1)) = 1)
/-- a token of a proof: its place p and its length l -/
def tkn (T : Int → Int) (len p l : Int) : Prop := 0 ≤ p ∧ 1 ≤ l ∧ p + l ≤ len ∧ (∀ x, p ≤ x → x < p + l → 32 < T x ∧ T x < 127) ∧ (p + l < len → T (p + l) ≤ 32)
/-- the statement before k that it names -/
def nmd (T stn lnn : Int → Int) (k p l r : Int) : Prop := (r = -1 ∧ ∀ s, 0 ≤ s → s < k → ¬nme T (stn (300 + s)) (lnn (300 + s)) T p l) ∨ (0 ≤ r ∧ r < k ∧ nme T (stn (300 + r)) (lnn (300 + r)) T p l)
def Gt1 (q len k : Int) (T it nm stn lnn A17 A18 : Int → Int) (s : Int) : Prop := it s = A17 (4096 * q + s) ∧ tkn T len (it s) (A18 (4096 * q + s)) ∧ nmd T stn lnn k (it s) (A18 (4096 * q + s)) (nm s)
/-- the same, and where it stands behind the one before it -/
def Gt2 (q len k : Int) (T it nm stn lnn A17 A18 : Int → Int) (s i : Int) : Prop := Gt1 q len k T it nm stn lnn A17 A18 (s + i) ∧ (0 < i → it (s + (i - 1)) + A18 (4096 * q + (s + (i - 1))) ≤ it (s + i))
/-- tokens of proofs -/
def Gt (q K len : Int) (T it st nm nst stn lnn ki A13 A14 A17 A18 : Int → Int) : Prop := ∀ k, 0 ≤ k → k < K → st k = A13 (200 * q + k) ∧ st (k + 1) = st k + A14 (200 * q + k) ∧ nst k = st k ∧ nst (k + 1) = st (k + 1) ∧ 0 ≤ A14 (200 * q + k) ∧ A14 (200 * q + k) ≤ 400 ∧ (ki k ≠ 3 → A14 (200 * q + k) = 0) ∧ ∀ i, 0 ≤ i → i < A14 (200 * q + k) → Gt2 q len k T it nm stn lnn A17 A18 (st k) i
/-- mandatory hypotheses -/
def Ghy (q K : Int) (hit hst ki : Int → Int) (Jm : Int → Int64) : Prop := ∀ k, 0 ≤ k → k < K → asc hit (hst k) (hst (k + 1)) ∧ (∀ h, 0 ≤ h → h < 200 → (mem hit (hst k) (hst (k + 1)) h ↔ bt Jm (4 * (200 * q + k)) h)) ∧ (∀ h, mem hit (hst k) (hst (k + 1)) h → 0 ≤ h ∧ h < k ∧ ki h < 2) ∧ (ki k < 2 → hst (k + 1) = hst k)
/-- x has a mandatory type in statement k -/
def mf (hit hst ki it st : Int → Int) (k x : Int) : Prop := ∃ h, mem hit (hst k) (hst (k + 1)) h ∧ ki h = 0 ∧ it (st h + 1) = x
/-- what is mandatory is closed -/
def Gma (q K : Int) (hit hst ki it st va A12 : Int → Int) : Prop := ∀ k, 0 ≤ k → k < K → 2 ≤ ki k → (∀ i, 0 ≤ i → i < A12 (200 * q + k) → va (it (st k + i)) = 1 → mf hit hst ki it st k (it (st k + i))) ∧ ∀ e, mem hit (hst k) (hst (k + 1)) e → ki e = 1 → ∀ i, 0 ≤ i → i < A12 (200 * q + e) → va (it (st e + i)) = 1 → ∃ h, mem hit (hst k) (hst (k + 1)) h ∧ h < e ∧ ki h = 0 ∧ it (st h + 1) = it (st e + i)
/-- active hypotheses -/
def Gun (q K : Int) (un ki : Int → Int) (Ja : Int → Int64) : Prop := ∀ k, 0 ≤ k → k < K → ∀ h, 0 ≤ h → h < k → ki h < 2 → (bt Ja (4 * (200 * q + k)) h ↔ k < un h) ∧ 0 ≤ un h ∧ un h ≤ 200
/-- x and y are an active pair at k -/
def pa (q P : Int) (A21 A22 A23 A24 : Int → Int) (k x y : Int) : Prop := ∃ p, 0 ≤ p ∧ p < P ∧ A21 (10240 * q + p) = x ∧ A22 (10240 * q + p) = y ∧ A23 (10240 * q + p) ≤ k ∧ k < A24 (10240 * q + p)
def Gpo (q P S : Int) (A21 A22 A23 A24 va : Int → Int) : Prop := 0 ≤ P ∧ P ≤ 10240 ∧ ∀ p, 0 ≤ p → p < P → 0 ≤ A21 (10240 * q + p) ∧ A21 (10240 * q + p) < A22 (10240 * q + p) ∧ A22 (10240 * q + p) < S ∧ va (A21 (10240 * q + p)) = 1 ∧ va (A22 (10240 * q + p)) = 1 ∧ 0 ≤ A23 (10240 * q + p) ∧ A23 (10240 * q + p) ≤ 200 ∧ 0 ≤ A24 (10240 * q + p) ∧ A24 (10240 * q + p) ≤ 200
/-- pairs of distinct variables -/
def Gpr (q K P : Int) (dit dst pit pst hit hst ki it st A21 A22 A23 A24 : Int → Int) : Prop := ∀ k, 0 ≤ k → k < K → asc dit (dst k) (dst (k + 1)) ∧ asc pit (pst k) (pst (k + 1)) ∧ (ki k = 3 → ∀ z, mem pit (pst k) (pst (k + 1)) z ↔ ∃ x y, 0 ≤ x ∧ x < y ∧ y < 300 ∧ z = 300 * x + y ∧ pa q P A21 A22 A23 A24 k x y) ∧ (2 ≤ ki k → ∀ z, mem dit (dst k) (dst (k + 1)) z ↔ ∃ x y, 0 ≤ x ∧ x < y ∧ y < 300 ∧ z = 300 * x + y ∧ pa q P A21 A22 A23 A24 k x y ∧ mf hit hst ki it st k x ∧ mf hit hst ki it st k y) ∧ (ki k < 2 → dst (k + 1) = dst k)
def one (q : Int) (T it A18 : Int → Int) (s c : Int) : Prop := A18 (4096 * q + s) = 1 ∧ T (it s) = c
/-- the form of a proof -/
def Gfm (q K : Int) (T it st cm le ki A14 A18 : Int → Int) : Prop := ∀ k, 0 ≤ k → k < K → ki k = 3 → 0 ≤ le k ∧ le k ≤ A14 (200 * q + k) ∧ ((cm k = 1 ∧ 0 < A14 (200 * q + k) ∧ one q T it A18 (st k) 40 ∧ 1 ≤ le k ∧ (∀ i, 1 ≤ i → i < le k → ¬one q T it A18 (st k + i) 41) ∧ (le k < A14 (200 * q + k) → one q T it A18 (st k + le k) 41)) ∨ (cm k = 0 ∧ ¬(0 < A14 (200 * q + k) ∧ one q T it A18 (st k) 40) ∧ le k = A14 (200 * q + k)))
/-- the axioms under a statement -/
def Gax (K : Int) (jx : Int → Int64) (le nm nst ki : Int → Int) : Prop := ∀ k, 0 ≤ k → k < K → ki k = 3 → ∀ x, 0 ≤ x → x < 200 → (bt jx (k * 4) x ↔ ∃ i, 0 ≤ i ∧ i < le k ∧ ((nm (nst k + i) = x ∧ ki x = 2) ∨ (0 ≤ nm (nst k + i) ∧ ki (nm (nst k + i)) = 3 ∧ bt jx (nm (nst k + i) * 4) x)))
/-- the rooms of the row lists -/
def Grw (b : Nat) (K : Int) (f : Nat → Nat → Int) (a : Nat → Int → Int) (ni : Nat → Nat) : Prop :=
  Rw (f (b + 11) 3) (f (b + 11) 2) (ni (b + 11 + 1)) (nC0 (b + 11 + 2)) 4096 (a (b + 11 + 2)) ∧ Rw (f (b + 14) 3) (f (b + 14) 2) (ni (b + 14 + 1)) (nC0 (b + 14 + 2)) 4096 (a (b + 14 + 2)) ∧ Rw (f (b + 17) 3) (f (b + 17) 2) (ni (b + 17 + 1)) (nC0 (b + 17 + 2)) 4096 (a (b + 17 + 2)) ∧ Rw (f (b + 20) 3) (f (b + 20) 2) (ni (b + 20 + 1)) (nC0 (b + 20 + 2)) 32768 (a (b + 20 + 2)) ∧ Rw (f (b + 23) 3) (f (b + 23) 2) (ni (b + 23 + 1)) (nC0 (b + 23 + 2)) 65536 (a (b + 23 + 2)) ∧ Rw (f (b + 26) 3) (f (b + 26) 2) (ni (b + 26 + 1)) (nC0 (b + 26 + 2)) 65536 (a (b + 26 + 2)) ∧ f (b + 11) 3 = K ∧ f (b + 14) 3 = K ∧ f (b + 17) 3 = K ∧ f (b + 20) 3 = K ∧ f (b + 23) 3 = K ∧ f (b + 26) 3 = K
/-- labels are written with the letters of labels -/
def Glb (K : Int) (T st ln : Int → Int) : Prop := ∀ k, 0 ≤ k → k < K → ∀ x, 0 ≤ x → x < ln (300 + k) → lch (T (st (300 + k) + x))
/-- a book of the class and one of the reference -/
def BK (b : Nat) (q S K P len : Int) (f : Nat → Nat → Int) (a : Nat → Int → Int) (ni : Nat → Nat) (j : Nat → Int → Int64) (A : Nat → Int → Int) (J : Nat → Int → Int64) : Prop :=
  (f b 3 = S ∧ A 6 q = S ∧ f b 5 = K ∧ A 15 q = K ∧ A 25 q = P ∧ f b 2 = len ∧ 0 ≤ len ∧ len ≤ 8192 ∧ byt (a (b + 2))) ∧
  Gn q S K len (a (b + 2)) (a (b + 3)) (a (b + 4)) (a (b + 5)) (a (b + 6)) (a (b + 7)) (A 3) (A 4) (A 5) (A 8) (A 9) ∧
  Glb K (a (b + 2)) (a (b + 5)) (a (b + 6)) ∧
  Gk q K (a (b + 8)) (a (b + 9)) (A 7) (A 10) ∧
  Gf q K S (a (b + 11 + 1)) (a (b + 11 + 2)) (a (b + 7)) (a (b + 8)) (A 11) (A 12) (A 16) ∧
  Gt q K len (a (b + 2)) (a (b + 14 + 1)) (a (b + 14 + 2)) (a (b + 17 + 1)) (a (b + 17 + 2)) (a (b + 5)) (a (b + 6)) (a (b + 8)) (A 13) (A 14) (A 17) (A 18) ∧
  Ghy q K (a (b + 20 + 1)) (a (b + 20 + 2)) (a (b + 8)) (J 20) ∧
  Gma q K (a (b + 20 + 1)) (a (b + 20 + 2)) (a (b + 8)) (a (b + 11 + 1)) (a (b + 11 + 2)) (a (b + 7)) (A 12) ∧
  Gun q K (a (b + 10)) (a (b + 8)) (J 19) ∧
  Gpo q P S (A 21) (A 22) (A 23) (A 24) (a (b + 7)) ∧
  Gpr q K P (a (b + 23 + 1)) (a (b + 23 + 2)) (a (b + 26 + 1)) (a (b + 26 + 2)) (a (b + 20 + 1)) (a (b + 20 + 2)) (a (b + 8)) (a (b + 11 + 1)) (a (b + 11 + 2)) (A 21) (A 22) (A 23) (A 24) ∧
  Gfm q K (a (b + 2)) (a (b + 14 + 1)) (a (b + 14 + 2)) (a (b + 29)) (a (b + 30)) (a (b + 8)) (A 14) (A 18) ∧
  Gax K (j (b + 31)) (a (b + 30)) (a (b + 17 + 1)) (a (b + 17 + 2)) (a (b + 8)) ∧
  Grw b K f a ni
