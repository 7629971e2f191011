/-! A book stays what it is where only other things change -/
theorem mem_c {it it2 : Int → Int} {lo hi x : Int} (h : ∀ i, lo ≤ i → i < hi → it2 i = it i) : mem it2 lo hi x ↔ mem it lo hi x := by
  constructor
  · rintro ⟨i, a, b, c⟩; exact ⟨i, a, b, by rw [← h i a b]; exact c⟩
  · rintro ⟨i, a, b, c⟩; exact ⟨i, a, b, by rw [h i a b]; exact c⟩
theorem asc_c {it it2 : Int → Int} {lo hi : Int} (h : ∀ i, lo ≤ i → i < hi → it2 i = it i) (g : asc it lo hi) : asc it2 lo hi := by
  intro i k a b c
  rw [h i a (by omega), h k (by omega) c]
  exact g i k a b c
def mono (K : Int) (st : Int → Int) : Prop := st 0 = 0 ∧ ∀ i k, 0 ≤ i → i ≤ k → k ≤ K → st i ≤ st k
theorem rw_mono {r u N : Int} {L : Nat} {M : Int} {st : Int → Int} (H : Rw r u N L M st) : mono r st := by
  obtain ⟨h1, h2, h3, h4, h5, h6, h7, h8, h9, h10, h11, h12⟩ := H
  exact ⟨h10, h12⟩
/-- st k and st (k + 1) lie in between -/
theorem mono_k {K k : Int} {st : Int → Int} (h : mono K st) (h1 : 0 ≤ k) (h2 : k < K) : 0 ≤ st k ∧ st k ≤ st (k + 1) ∧ st (k + 1) ≤ st K := by
  obtain ⟨a, b⟩ := h
  have c1 := b 0 k (by omega) h1 (by omega)
  have c2 := b k (k + 1) h1 (by omega) (by omega)
  have c3 := b (k + 1) K (by omega) (by omega) (by omega)
  omega
section CONGR
variable {q S K P P2 len : Int} {T it st it2 nm nst nm2 stn lnn ki va hit hst hit2 dit dst dit2 pit pst pit2 cm le un hs nx ln : Int → Int} {A3 A4 A5 A7 A8 A9 A10 A11 A12 A13 A14 A16 A17 A18 A21 A22 A23 A24 B3 B4 B5 B7 B8 B9 B10 B11 B12 B13 B14 B16 B17 B18 B21 B22 B23 B24 de : Int → Int} {Jm Jm2 Ja Ja2 : Int → Int64}
theorem gn_c (G : Gn q S K len T hs nx st ln va A3 A4 A5 A8 A9) (h1 : ∀ x, 0 ≤ x → x < S → B3 (300 * q + x) = A3 (300 * q + x) ∧ B4 (300 * q + x) = A4 (300 * q + x) ∧ B5 (300 * q + x) = A5 (300 * q + x)) (h2 : ∀ k, 0 ≤ k → k < K → B8 (200 * q + k) = A8 (200 * q + k) ∧ B9 (200 * q + k) = A9 (200 * q + k)) : Gn q S K len T hs nx st ln va B3 B4 B5 B8 B9 := by
  obtain ⟨g1, g2, g3, g4, g5, g6, g7, g8, g9⟩ := G
  refine ⟨g1, g2, g3, g4, g5, g6, g7, fun x a b => ?_, fun k a b => ?_⟩
  · obtain ⟨e1, e2, e3⟩ := h1 x a b
    rw [e1, e2, e3]; exact g8 x a b
  · obtain ⟨e1, e2⟩ := h2 k a b
    rw [e1, e2]; exact g9 k a b
theorem gk_c (G : Gk q K ki de A7 A10) (h : ∀ k, 0 ≤ k → k < K → B7 (200 * q + k) = A7 (200 * q + k) ∧ B10 (200 * q + k) = A10 (200 * q + k)) : Gk q K ki de B7 B10 := by
  intro k a b
  obtain ⟨e1, e2⟩ := h k a b
  rw [e1, e2]; exact G k a b
theorem gf_c (G : Gf q K S it st va ki A11 A12 A16) (hm : mono K st) (h1 : ∀ k, 0 ≤ k → k < K → B11 (200 * q + k) = A11 (200 * q + k) ∧ B12 (200 * q + k) = A12 (200 * q + k)) (h2 : ∀ i, 0 ≤ i → i < st K → it2 i = it i ∧ B16 (4096 * q + i) = A16 (4096 * q + i)) : Gf q K S it2 st va ki B11 B12 B16 := by
  intro k a b
  obtain ⟨m1, m2, m3⟩ := mono_k hm a b
  obtain ⟨e1, e2⟩ := h1 k a b
  obtain ⟨g1, g2, g3, g4, g5, g6, g7⟩ := G k a b
  rw [e1, e2]
  refine ⟨g1, g2, g3, g4, fun i i1 i2 => ?_, ?_, fun h => ?_⟩
  · obtain ⟨f1, f2⟩ := h2 (st k + i) (by omega) (by omega)
    rw [f1, f2]; exact g5 i i1 i2
  · rw [(h2 (st k) (by omega) (by omega)).1]; exact g6
  · obtain ⟨f1, f2⟩ := g7 h
    rw [(h2 (st k + 1) (by omega) (by omega)).1]; exact ⟨f1, f2⟩
theorem gt_c (G : Gt q K len T it st nm nst stn lnn ki A13 A14 A17 A18) (hm : mono K st) (h1 : ∀ k, 0 ≤ k → k < K → B13 (200 * q + k) = A13 (200 * q + k) ∧ B14 (200 * q + k) = A14 (200 * q + k)) (h2 : ∀ i, 0 ≤ i → i < st K → it2 i = it i ∧ nm2 i = nm i ∧ B17 (4096 * q + i) = A17 (4096 * q + i) ∧ B18 (4096 * q + i) = A18 (4096 * q + i)) : Gt q K len T it2 st nm2 nst stn lnn ki B13 B14 B17 B18 := by
  intro k a b
  obtain ⟨m1, m2, m3⟩ := mono_k hm a b
  obtain ⟨e1, e2⟩ := h1 k a b
  obtain ⟨g1, g2, g3, g4, g5, g6, g7, g8⟩ := G k a b
  rw [e1, e2]
  refine ⟨g1, g2, g3, g4, g5, g6, g7, fun i i1 i2 => ?_⟩
  obtain ⟨f1, f2, f3, f4⟩ := h2 (st k + i) (by omega) (by omega)
  obtain ⟨y1, y2⟩ := g8 i i1 i2
  refine ⟨?_, fun z => ?_⟩
  · unfold Gt1
    rw [f1, f2, f3, f4]; exact y1
  · obtain ⟨p1, p2, p3, p4⟩ := h2 (st k + (i - 1)) (by omega) (by omega)
    rw [f1, p1, p4]; exact y2 z
theorem ghy_c (G : Ghy q K hit hst ki Jm) (hm : mono K hst) (h1 : ∀ i, 0 ≤ i → i < hst K → hit2 i = hit i) (h2 : ∀ k, 0 ≤ k → k < K → ∀ h, 0 ≤ h → h < 200 → (bt Jm2 (4 * (200 * q + k)) h ↔ bt Jm (4 * (200 * q + k)) h)) : Ghy q K hit2 hst ki Jm2 := by
  intro k a b
  obtain ⟨m1, m2, m3⟩ := mono_k hm a b
  obtain ⟨g1, g2, g3, g4⟩ := G k a b
  have hc : ∀ i, hst k ≤ i → i < hst (k + 1) → hit2 i = hit i := fun i i1 i2 => h1 i (by omega) (by omega)
  refine ⟨asc_c hc g1, fun h x y => ?_, fun h x => g3 h ((mem_c hc).mp x), g4⟩
  rw [mem_c hc, h2 k a b h x y]; exact g2 h x y
theorem mf_c {k x : Int} (m0 : mono K hst) (m1 : mono K st) (a : 0 ≤ k) (b : k < K) (g : ∀ h, mem hit (hst k) (hst (k + 1)) h → 0 ≤ h ∧ h < k) (h1 : ∀ i, 0 ≤ i → i < hst K → hit2 i = hit i) (h2 : ∀ i, 0 ≤ i → i < st K → it2 i = it i) (h3 : ∀ h, 0 ≤ h → h < K → ki h = 0 → st h + 1 < st (h + 1)) : mf hit2 hst ki it2 st k x ↔ mf hit hst ki it st k x := by
  obtain ⟨n1, n2, n3⟩ := mono_k m0 a b
  have hc : ∀ i, hst k ≤ i → i < hst (k + 1) → hit2 i = hit i := fun i i1 i2 => h1 i (by omega) (by omega)
  unfold mf
  constructor
  · rintro ⟨h, x1, x2, x3⟩
    rw [mem_c hc] at x1
    have := g h x1
    have n4 := mono_k m1 this.1 (by omega)
    have n5 := h3 h this.1 (by omega) x2
    rw [h2 _ (by omega) (by omega)] at x3
    exact ⟨h, x1, x2, x3⟩
  · rintro ⟨h, x1, x2, x3⟩
    have := g h x1
    have n4 := mono_k m1 this.1 (by omega)
    have n5 := h3 h this.1 (by omega) x2
    exact ⟨h, (mem_c hc).mpr x1, x2, by rw [h2 _ (by omega) (by omega)]; exact x3⟩
theorem gf_two (G : Gf q K S it st va ki A11 A12 A16) : ∀ h, 0 ≤ h → h < K → ki h = 0 → st h + 1 < st (h + 1) := by
  intro h a b c
  obtain ⟨g1, g2, g3, g4, g5, g6, g7⟩ := G h a b
  have := g7 c
  omega
theorem gma_c (G : Gma q K hit hst ki it st va A12) (Gf' : Gf q K S it st va ki A11 A12 A16) (Gh : Ghy q K hit hst ki Jm) (m0 : mono K hst) (m1 : mono K st) (h1 : ∀ i, 0 ≤ i → i < hst K → hit2 i = hit i) (h2 : ∀ i, 0 ≤ i → i < st K → it2 i = it i) (h3 : ∀ k, 0 ≤ k → k < K → B12 (200 * q + k) = A12 (200 * q + k)) : Gma q K hit2 hst ki it2 st va B12 := by
  intro k a b c
  obtain ⟨g1, g2⟩ := G k a b c
  obtain ⟨n1, n2, n3⟩ := mono_k m0 a b
  obtain ⟨n4, n5, n6⟩ := mono_k m1 a b
  have hc : ∀ i, hst k ≤ i → i < hst (k + 1) → hit2 i = hit i := fun i i1 i2 => h1 i (by omega) (by omega)
  have hg := (Gh k a b).2.2.1
  have hf := Gf' k a b
  constructor
  · intro i i1 i2 i3
    rw [h3 k a b] at i2
    rw [h2 _ (by omega) (by omega)] at i3 ⊢
    exact (mf_c m0 m1 a b (fun h x => ⟨(hg h x).1, (hg h x).2.1⟩) h1 h2 (gf_two Gf')).mpr (g1 i i1 i2 i3)
  · intro e x1 x2 i i1 i2 i3
    rw [mem_c hc] at x1
    have e1 := hg e x1
    have e2 := mono_k m1 e1.1 (by omega)
    have e3 := Gf' e e1.1 (by omega)
    rw [h3 e e1.1 (by omega)] at i2
    rw [h2 _ (by omega) (by omega)] at i3 ⊢
    obtain ⟨h, y1, y2, y3, y4⟩ := g2 e x1 x2 i i1 i2 i3
    have e4 := hg h y1
    have e5 := mono_k m1 e4.1 (by omega)
    have e6 := gf_two Gf' h e4.1 (by omega) y3
    exact ⟨h, (mem_c hc).mpr y1, y2, y3, by rw [h2 _ (by omega) (by omega)]; exact y4⟩
theorem gun_c (G : Gun q K un ki Ja) (h2 : ∀ k, 0 ≤ k → k < K → ∀ h, 0 ≤ h → h < 200 → (bt Ja2 (4 * (200 * q + k)) h ↔ bt Ja (4 * (200 * q + k)) h)) (hK : K ≤ 200) : Gun q K un ki Ja2 := by
  intro k a b h x y z
  rw [h2 k a b h x (by omega)]
  exact G k a b h x y z
theorem gpr_c (G : Gpr q K P dit dst pit pst hit hst ki it st A21 A22 A23 A24) (Gf' : Gf q K S it st va ki A11 A12 A16) (Gh : Ghy q K hit hst ki Jm) (m0 : mono K hst) (m1 : mono K st) (m2 : mono K dst) (m3 : mono K pst) (h1 : ∀ i, 0 ≤ i → i < hst K → hit2 i = hit i) (h2 : ∀ i, 0 ≤ i → i < st K → it2 i = it i) (h3 : ∀ i, 0 ≤ i → i < dst K → dit2 i = dit i) (h4 : ∀ i, 0 ≤ i → i < pst K → pit2 i = pit i) (h5 : ∀ k, 0 ≤ k → k < K → ∀ x y, pa q P2 B21 B22 B23 B24 k x y ↔ pa q P A21 A22 A23 A24 k x y) : Gpr q K P2 dit2 dst pit2 pst hit2 hst ki it2 st B21 B22 B23 B24 := by
  intro k a b
  obtain ⟨g1, g2, g3, g4, g5⟩ := G k a b
  obtain ⟨n1, n2, n3⟩ := mono_k m2 a b
  obtain ⟨n4, n5, n6⟩ := mono_k m3 a b
  have hc : ∀ i, dst k ≤ i → i < dst (k + 1) → dit2 i = dit i := fun i i1 i2 => h3 i (by omega) (by omega)
  have hc2 : ∀ i, pst k ≤ i → i < pst (k + 1) → pit2 i = pit i := fun i i1 i2 => h4 i (by omega) (by omega)
  have hg := (Gh k a b).2.2.1
  refine ⟨asc_c hc g1, asc_c hc2 g2, fun h z => ?_, fun h z => ?_, g5⟩
  · rw [mem_c hc2, g3 h z]
    simp only [h5 k a b]
  · rw [mem_c hc, g4 h z]
    simp only [h5 k a b, mf_c m0 m1 a b (fun h x => ⟨(hg h x).1, (hg h x).2.1⟩) h1 h2 (gf_two Gf')]
theorem gfm_c (G : Gfm q K T it st cm le ki A14 A18) (Gt' : Gt q K len T it st nm nst stn lnn ki A13 A14 A17 A18) (m1 : mono K st) (h1 : ∀ k, 0 ≤ k → k < K → B14 (200 * q + k) = A14 (200 * q + k)) (h2 : ∀ i, 0 ≤ i → i < st K → it2 i = it i ∧ B18 (4096 * q + i) = A18 (4096 * q + i)) : Gfm q K T it2 st cm le ki B14 B18 := by
  intro k a b c
  obtain ⟨n1, n2, n3⟩ := mono_k m1 a b
  obtain ⟨g1, g2, g3⟩ := G k a b c
  obtain ⟨t1, t2, t3, t4, t5, t6, t7, t8⟩ := Gt' k a b
  have ho : ∀ i x, 0 ≤ i → i < A14 (200 * q + k) → (one q T it2 B18 (st k + i) x ↔ one q T it A18 (st k + i) x) := by
    intro i x i1 i2
    obtain ⟨f1, f2⟩ := h2 (st k + i) (by omega) (by omega)
    unfold one
    rw [f1, f2]
  have ho0 : ∀ x, 0 < A14 (200 * q + k) → (one q T it2 B18 (st k) x ↔ one q T it A18 (st k) x) := by
    intro x hx
    have := ho 0 x (by omega) hx
    rw [show st k + 0 = st k by omega] at this
    exact this
  rw [h1 k a b]
  refine ⟨g1, g2, ?_⟩
  rcases g3 with ⟨x1, x2, x3, x4, x5, x6⟩ | ⟨x1, x2, x3⟩
  · exact Or.inl ⟨x1, x2, (ho0 40 x2).mpr x3, x4, fun i i1 i2 => fun z => x5 i i1 i2 ((ho i 41 (by omega) (by omega)).mp z), fun z => (ho _ 41 (by omega) z).mpr (x6 z)⟩
  · exact Or.inr ⟨x1, fun z => x2 ⟨z.1, (ho0 40 z.1).mp z.2⟩, x3⟩
theorem gax_c {jx : Int → Int64} (G : Gax K jx le nm nst ki) (Gt' : Gt q K len T it st nm nst stn lnn ki A13 A14 A17 A18) (Gm : Gfm q K T it st cm le ki A14 A18) (m1 : mono K st) (h2 : ∀ i, 0 ≤ i → i < st K → nm2 i = nm i) : Gax K jx le nm2 nst ki := by
  intro k a b c x x1 x2
  rw [G k a b c x x1 x2]
  obtain ⟨n1, n2, n3⟩ := mono_k m1 a b
  obtain ⟨t1, t2, t3, t4, t5, t6, t7, t8⟩ := Gt' k a b
  obtain ⟨g1, g2, g3⟩ := Gm k a b c
  constructor
  · rintro ⟨i, i1, i2, i3⟩
    exact ⟨i, i1, i2, by rw [h2 _ (by omega) (by omega)]; exact i3⟩
  · rintro ⟨i, i1, i2, i3⟩
    exact ⟨i, i1, i2, by rw [h2 _ (by omega) (by omega)] at i3; exact i3⟩
end CONGR
/-- what a change beyond the book's statements leaves alone -/
def AG (b : Nat) (q S K : Int) (f : Nat → Nat → Int) (a : Nat → Int → Int) (j : Nat → Int → Int64) (A : Nat → Int → Int) (J : Nat → Int → Int64) (f2 : Nat → Nat → Int) (a2 : Nat → Int → Int) (j2 : Nat → Int → Int64) (A2 : Nat → Int → Int) (J2 : Nat → Int → Int64) : Prop :=
  f2 b = f b ∧ (∀ r, (2 ≤ r ∧ r ≤ 9) ∨ r = 29 ∨ r = 30 → a2 (b + r) = a (b + r)) ∧ (∀ r, r = 11 ∨ r = 14 ∨ r = 17 ∨ r = 20 ∨ r = 23 ∨ r = 26 → a2 (b + r + 2) = a (b + r + 2) ∧ ∀ i, 0 ≤ i → i < a (b + r + 2) K → a2 (b + r + 1) i = a (b + r + 1) i) ∧ j2 (b + 31) = j (b + 31) ∧ A2 6 q = A 6 q ∧ A2 15 q = A 15 q ∧
  (∀ i, 3 ≤ i → i ≤ 5 → ∀ x, 0 ≤ x → x < S → A2 i (300 * q + x) = A i (300 * q + x)) ∧ (∀ i, 7 ≤ i → i ≤ 14 → ∀ k, 0 ≤ k → k < K → A2 i (200 * q + k) = A i (200 * q + k)) ∧ (∀ s, 0 ≤ s → s < a (b + 11 + 2) K → A2 16 (4096 * q + s) = A 16 (4096 * q + s)) ∧ (∀ i, 17 ≤ i → i ≤ 18 → ∀ s, 0 ≤ s → s < a (b + 14 + 2) K → A2 i (4096 * q + s) = A i (4096 * q + s)) ∧
  (∀ i, 19 ≤ i → i ≤ 20 → ∀ k, 0 ≤ k → k < K → ∀ h, 0 ≤ h → h < 200 → (bt (J2 i) (4 * (200 * q + k)) h ↔ bt (J i) (4 * (200 * q + k)) h))
theorem bk_c {b : Nat} {q S K P P2 len : Int} {f f2 : Nat → Nat → Int} {a a2 : Nat → Int → Int} {ni ni2 : Nat → Nat} {j j2 : Nat → Int → Int64} {A A2 : Nat → Int → Int} {J J2 : Nat → Int → Int64} (G : BK b q S K P len f a ni j A J) (H : AG b q S K f a j A J f2 a2 j2 A2 J2) (hun : Gun q K (a2 (b + 10)) (a (b + 8)) (J 19)) (hP : A2 25 q = P2) (hpo : Gpo q P2 S (A2 21) (A2 22) (A2 23) (A2 24) (a (b + 7))) (hpa : ∀ k, 0 ≤ k → k < K → ∀ x y, pa q P2 (A2 21) (A2 22) (A2 23) (A2 24) k x y ↔ pa q P (A 21) (A 22) (A 23) (A 24) k x y) (hrw : Grw b K f2 a2 ni2) : BK b q S K P2 len f2 a2 ni2 j2 A2 J2 := by
  obtain ⟨⟨b1, b2, b3, b4, b5, b6, b7, b8, b9⟩, gn, glb, gk, gf, gt, ghy, gma, gun, gpo, gpr, gfm, gax, grw⟩ := G
  obtain ⟨c1, c2, c3, c4, c5, c6, c7, c8, c9, c10, c11⟩ := H
  have w := grw
  obtain ⟨w1, w2, w3, w4, w5, w6, w7, w8, w9, w10, w11, w12⟩ := w
  have m11 := rw_mono w1
  have m14 := rw_mono w2
  have m20 := rw_mono w4
  have m23 := rw_mono w5
  have m26 := rw_mono w6
  rw [w7] at m11
  rw [w8] at m14
  rw [w10] at m20
  rw [w11] at m23
  rw [w12] at m26
  obtain ⟨s11, i11⟩ := c3 11 (by omega)
  obtain ⟨s14, i14⟩ := c3 14 (by omega)
  obtain ⟨s17, i17⟩ := c3 17 (by omega)
  obtain ⟨s20, i20⟩ := c3 20 (by omega)
  obtain ⟨s23, i23⟩ := c3 23 (by omega)
  obtain ⟨s26, i26⟩ := c3 26 (by omega)
  have hK : 0 ≤ K ∧ K ≤ 200 := ⟨gn.2.2.1, gn.2.2.2.1⟩
  have e17 : K = 0 ∨ a (b + 17 + 2) K = a (b + 14 + 2) K := by
    by_cases z : K = 0
    · exact Or.inl z
    · have := gt (K - 1) (by omega) (by omega)
      rw [show K - 1 + 1 = K by omega] at this
      exact Or.inr this.2.2.2.1
  have i17' : ∀ i, 0 ≤ i → i < a (b + 14 + 2) K → a2 (b + 17 + 1) i = a (b + 17 + 1) i := by
    intro i x y
    rcases e17 with z | z
    · have := m14.1
      rw [z] at y
      omega
    · exact i17 i x (by omega)
  unfold BK
  rw [c2 2 (by omega), c2 3 (by omega), c2 4 (by omega), c2 5 (by omega), c2 6 (by omega), c2 7 (by omega), c2 8 (by omega), c2 9 (by omega), c2 29 (by omega), c2 30 (by omega), s11, s14, s17, s20, s23, s26, c1, c4, c5, c6]
  refine ⟨⟨b1, b2, b3, b4, hP, b6, b7, b8, b9⟩, gn_c gn (fun x h1 h2 => ⟨c7 3 (by omega) (by omega) x h1 h2, c7 4 (by omega) (by omega) x h1 h2, c7 5 (by omega) (by omega) x h1 h2⟩) (fun k h1 h2 => ⟨c8 8 (by omega) (by omega) k h1 h2, c8 9 (by omega) (by omega) k h1 h2⟩), glb, gk_c gk (fun k h1 h2 => ⟨c8 7 (by omega) (by omega) k h1 h2, c8 10 (by omega) (by omega) k h1 h2⟩), gf_c gf m11 (fun k h1 h2 => ⟨c8 11 (by omega) (by omega) k h1 h2, c8 12 (by omega) (by omega) k h1 h2⟩) (fun i h1 h2 => ⟨i11 i h1 h2, c9 i h1 h2⟩), gt_c gt m14 (fun k h1 h2 => ⟨c8 13 (by omega) (by omega) k h1 h2, c8 14 (by omega) (by omega) k h1 h2⟩) (fun i h1 h2 => ⟨i14 i h1 h2, i17' i h1 h2, c10 17 (by omega) (by omega) i h1 h2, c10 18 (by omega) (by omega) i h1 h2⟩), ghy_c ghy m20 i20 (c11 20 (by omega) (by omega)), gma_c gma gf ghy m20 m11 i20 i11 (c8 12 (by omega) (by omega)), gun_c hun (c11 19 (by omega) (by omega)) hK.2, hpo, gpr_c gpr gf ghy m20 m11 m23 m26 i20 i11 i23 i26 hpa, gfm_c gfm gt m14 (c8 14 (by omega) (by omega)) (fun i h1 h2 => ⟨i14 i h1 h2, c10 18 (by omega) (by omega) i h1 h2⟩), gax_c gax gt gfm m14 i17', hrw⟩
