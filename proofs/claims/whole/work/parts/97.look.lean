/-! The name of a token: class and reference -/
def liv (S K x : Int) : Prop := (0 ≤ x ∧ x < S) ∨ (300 ≤ x ∧ x < 300 + K)
/-- names, symbols and labels of a book -/
def Gn (q S K len : Int) (T hs nx st ln va A3 A4 A5 A8 A9 : Int → Int) : Prop :=
  0 ≤ S ∧ S ≤ 300 ∧ 0 ≤ K ∧ K ≤ 200 ∧ NI (S + K) T hs nx st ln (liv S K) ∧ (∀ x, liv S K x → 1 ≤ ln x ∧ st x + ln x ≤ len) ∧ (∀ x y, liv S K x → liv S K y → nme T (st x) (ln x) T (st y) (ln y) → x = y) ∧ (∀ x, 0 ≤ x → x < S → st x = A3 (300 * q + x) ∧ ln x = A4 (300 * q + x) ∧ va x = A5 (300 * q + x) ∧ (va x = 0 ∨ va x = 1)) ∧ (∀ k, 0 ≤ k → k < K → st (300 + k) = A8 (200 * q + k) ∧ ln (300 + k) = A9 (200 * q + k))
theorem nme_sme {T t : Int → Int} {len s l b m : Int} (ht : txt t len) (hx : txs T t len) (h1 : 0 ≤ s) (h2 : s + l ≤ len) (h3 : 0 ≤ b) (h4 : b + m ≤ len) : sme t b m s l ↔ nme T s l T b m := by
  obtain ⟨t1, t2, t3⟩ := ht
  unfold sme nme
  constructor
  · rintro ⟨rfl, g⟩
    refine ⟨rfl, fun x x1 x2 => ?_⟩
    have := g x x1 x2
    have y1 := hx (s + x) (by omega) (by omega)
    have y2 := hx (b + x) (by omega) (by omega)
    have z1 := t3 (s + x) (by omega) (by omega)
    have z2 := t3 (b + x) (by omega) (by omega)
    exact (sgn_eq y1 y2 (by omega) (by omega)).mpr this.symm
  · rintro ⟨rfl, g⟩
    refine ⟨rfl, fun x x1 x2 => ?_⟩
    have := g x x1 x2
    have y1 := hx (s + x) (by omega) (by omega)
    have y2 := hx (b + x) (by omega) (by omega)
    have z1 := t3 (s + x) (by omega) (by omega)
    have z2 := t3 (b + x) (by omega) (by omega)
    exact ((sgn_eq y1 y2 (by omega) (by omega)).mp this).symm
theorem nme_tr {T : Int → Int} {s l s2 l2 s3 l3 : Int} (h : nme T s l T s3 l3) (h2 : nme T s2 l2 T s3 l3) : nme T s l T s2 l2 := by
  obtain ⟨rfl, g⟩ := h
  obtain ⟨rfl, g2⟩ := h2
  exact ⟨rfl, fun x x1 x2 => (g x x1 x2).trans (g2 x x1 x2).symm⟩
section LOOK
variable {f : Nat → Nat → Int} {d : Nat → Nat} {a : Nat → Int → Int} {ni : Nat → Nat} {j : Nat → Int → Int64} {n b : Nat} {F : Nat → Int} {A : Nat → Int → Int} {J : Nat → Int → Int64} {q S K len b0 e0 : Int}
theorem look (hn : 100000 ≤ n) (hb : bks b) (hq : 0 ≤ q ∧ q ≤ 1) (G : Gn q S K len (a (b + 2)) (a (b + 3)) (a (b + 4)) (a (b + 5)) (a (b + 6)) (a (b + 7)) (A 3) (A 4) (A 5) (A 8) (A 9)) (ht : txt (A 1) len) (hby : byt (a (b + 2))) (hx : txs (a (b + 2)) (A 1) len) (htok : tok F b0 e0) (he : e0 ≤ len) (h32 : F 32 = q) (hS : A 6 q = S) (hK : A 15 q = K) :
    ∃ r, g_X2_lookUp n (b + 1) (b + 2) (qz b0) (qz (e0 - b0)) (cs f d a ni j) = some (qz r) ∧ g_X11_symbolHere n 0 (ms F A J) = some (qz (if 0 ≤ r ∧ r < 300 then r else -1)) ∧ g_X11_labelHere n 0 (ms F A J) = some (qz (if 300 ≤ r then r - 300 else -1)) ∧ ((r = -1 ∧ ∀ x, liv S K x → ¬nme (a (b + 2)) (a (b + 5) x) (a (b + 6) x) (a (b + 2)) b0 (e0 - b0)) ∨ (liv S K r ∧ nme (a (b + 2)) (a (b + 5) r) (a (b + 6) r) (a (b + 2)) b0 (e0 - b0))) := by
  obtain ⟨g1, g2, g3, g4, g5, g6, g7, g8, g9⟩ := G
  have g5' := g5.2.2
  have ⟨k1, k2, k3, k4, k5⟩ := htok
  have ⟨t1, t2, t3⟩ := ht
  obtain ⟨r, er, hr⟩ := c_lookUp (f := f) (d := d) (ni := ni) (j := j) (n := n) (p := b + 2) (s := b0) (l := e0 - b0) hb (tx_b hb) hby hby k1 (by omega) (by omega) hn g5
  have ms := m_symbolHere (j := J) (n := n) (by omega) ht htok he h32 hq hS ⟨g1, g2⟩ (fun k h1 h2 => by
    have l := g5' k (Or.inl ⟨h1, h2⟩)
    have l2 := g6 k (Or.inl ⟨h1, h2⟩)
    have l3 := g8 k h1 h2
    omega)
  have ml := m_labelHere (j := J) (n := n) (by omega) ht htok he h32 hq hK ⟨g3, g4⟩ (fun k h1 h2 => by
    have l := g5' (300 + k) (Or.inr ⟨by omega, by omega⟩)
    have l2 := g6 (300 + k) (Or.inr ⟨by omega, by omega⟩)
    have l3 := g9 k h1 h2
    omega)
  have es : ∀ k, 0 ≤ k → k < S → (sme (A 1) b0 (e0 - b0) (A 3 (300 * q + k)) (A 4 (300 * q + k)) ↔ nme (a (b + 2)) (a (b + 5) k) (a (b + 6) k) (a (b + 2)) b0 (e0 - b0)) := by
    intro k h1 h2
    have l := g5' k (Or.inl ⟨h1, h2⟩)
    have l2 := g6 k (Or.inl ⟨h1, h2⟩)
    obtain ⟨l3, l4, _⟩ := g8 k h1 h2
    rw [← l3, ← l4]
    exact nme_sme ht hx (by omega) (by omega) k1 (by omega)
  have el : ∀ k, 0 ≤ k → k < K → (sme (A 1) b0 (e0 - b0) (A 8 (200 * q + k)) (A 9 (200 * q + k)) ↔ nme (a (b + 2)) (a (b + 5) (300 + k)) (a (b + 6) (300 + k)) (a (b + 2)) b0 (e0 - b0)) := by
    intro k h1 h2
    have l := g5' (300 + k) (Or.inr ⟨by omega, by omega⟩)
    have l2 := g6 (300 + k) (Or.inr ⟨by omega, by omega⟩)
    obtain ⟨l3, l4⟩ := g9 k h1 h2
    rw [← l3, ← l4]
    exact nme_sme ht hx (by omega) (by omega) k1 (by omega)
  refine ⟨r, er, ?_, ?_, hr⟩
  · rcases ms with ⟨k, h1, h2, h3, h4⟩ | ⟨h3, h4⟩
    · have h5 := (es k h1 h2).mp h3
      rcases hr with ⟨rfl, hr⟩ | ⟨hr, hr2⟩
      · exact absurd h5 (hr k (Or.inl ⟨h1, h2⟩))
      · have := g7 r k hr (Or.inl ⟨h1, h2⟩) (nme_tr hr2 h5)
        subst this
        rw [h4, if_pos (by omega)]
    · rw [h4]
      rcases hr with ⟨rfl, hr⟩ | ⟨hr, hr2⟩
      · rw [if_neg (by omega)]
      · rcases hr with z | z
        · exact absurd ((es r z.1 z.2).mpr hr2) (h3 r z.1 z.2)
        · rw [if_neg (by omega)]
  · rcases ml with ⟨k, h1, h2, h3, h4⟩ | ⟨h3, h4⟩
    · have h5 := (el k h1 h2).mp h3
      rcases hr with ⟨rfl, hr⟩ | ⟨hr, hr2⟩
      · exact absurd h5 (hr _ (Or.inr ⟨by omega, by omega⟩))
      · have := g7 r (300 + k) hr (Or.inr ⟨by omega, by omega⟩) (nme_tr hr2 h5)
        subst this
        rw [h4, if_pos (by omega)]
        congr 2
        omega
    · rw [h4]
      rcases hr with ⟨rfl, hr⟩ | ⟨hr, hr2⟩
      · rw [if_neg (by omega)]
      · rcases hr with z | z
        · rw [if_neg (by omega)]
        · refine absurd ((el (r - 300) (by omega) (by omega)).mpr ?_) (h3 (r - 300) (by omega) (by omega))
          rw [show 300 + (r - 300) = r by omega]
          exact hr2
theorem look3 (hn : 100000 ≤ n) (hb : bks b) (hq : 0 ≤ q ∧ q ≤ 1) (G : Gn q S K len (a (b + 2)) (a (b + 3)) (a (b + 4)) (a (b + 5)) (a (b + 6)) (a (b + 7)) (A 3) (A 4) (A 5) (A 8) (A 9)) (ht : txt (A 1) len) (hby : byt (a (b + 2))) (hx : txs (a (b + 2)) (A 1) len) (htok : tok F b0 e0) (he : e0 ≤ len) (h32 : F 32 = q) (hS : A 6 q = S) (hK : A 15 q = K) :
    ∃ r sy lb, g_X2_lookUp n (b + 1) (b + 2) (qz b0) (qz (e0 - b0)) (cs f d a ni j) = some (qz r) ∧ g_X11_symbolHere n 0 (ms F A J) = some (qz sy) ∧ g_X11_labelHere n 0 (ms F A J) = some (qz lb) ∧ ((r = -1 ∧ sy = -1 ∧ lb = -1 ∧ ∀ x, liv S K x → ¬nme (a (b + 2)) (a (b + 5) x) (a (b + 6) x) (a (b + 2)) b0 (e0 - b0)) ∨ (0 ≤ r ∧ r < S ∧ S ≤ 300 ∧ sy = r ∧ lb = -1 ∧ nme (a (b + 2)) (a (b + 5) r) (a (b + 6) r) (a (b + 2)) b0 (e0 - b0)) ∨ (300 ≤ r ∧ r < 300 + K ∧ K ≤ 200 ∧ sy = -1 ∧ lb = r - 300 ∧ nme (a (b + 2)) (a (b + 5) r) (a (b + 6) r) (a (b + 2)) b0 (e0 - b0))) := by
  obtain ⟨r, e1, e2, e3, h⟩ := look (f := f) (d := d) (ni := ni) (j := j) (J := J) hn hb hq G ht hby hx htok he h32 hS hK
  have g2 := G.2.1
  have g4 := G.2.2.2.1
  refine ⟨r, _, _, e1, e2, e3, ?_⟩
  rcases h with ⟨rfl, h⟩ | ⟨h, h2⟩
  · exact Or.inl ⟨rfl, by decide, by decide, h⟩
  · rcases h with h | h
    · exact Or.inr (Or.inl ⟨h.1, h.2, g2, by rw [if_pos (by omega)], by rw [if_neg (by omega)], h2⟩)
    · exact Or.inr (Or.inr ⟨h.1, h.2, g4, by rw [if_neg (by omega)], by rw [if_pos (by omega)], h2⟩)
end LOOK
