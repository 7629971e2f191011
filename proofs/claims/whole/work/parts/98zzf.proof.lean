/-! The tokens of a proof: the reference -/
section PTK
variable {b n : Nat} {q S K P len k x y i c : Int} {f : Nat → Nat → Int} {d : Nat → Nat} {a : Nat → Int → Int} {ni : Nat → Nat} {j : Nat → Int → Int64} {F : Nat → Int} {A : Nat → Int → Int} {J : Nat → Int → Int64}
theorem zl40 : (40 : Int32) = qz 40 := id rfl
theorem zl41 : (41 : Int32) = qz 41 := id rfl
/-- what the reference keeps of the tokens -/
theorem bk_t (G : BK b q S K P len f a ni j A J) (h0 : 0 ≤ k) (h1 : k < K) : a (b + 14 + 2) k = A 13 (200 * q + k) ∧ a (b + 14 + 2) (k + 1) = A 13 (200 * q + k) + A 14 (200 * q + k) ∧ a (b + 17 + 2) k = A 13 (200 * q + k) ∧ a (b + 17 + 2) (k + 1) = A 13 (200 * q + k) + A 14 (200 * q + k) ∧ 0 ≤ A 13 (200 * q + k) ∧ 0 ≤ A 14 (200 * q + k) ∧ A 14 (200 * q + k) ≤ 400 ∧ A 13 (200 * q + k) + A 14 (200 * q + k) ≤ 4096 ∧ ∀ i, 0 ≤ i → i < A 14 (200 * q + k) → a (b + 14 + 1) (A 13 (200 * q + k) + i) = A 17 (4096 * q + A 13 (200 * q + k) + i) ∧ tkn (a (b + 2)) len (A 17 (4096 * q + A 13 (200 * q + k) + i)) (A 18 (4096 * q + A 13 (200 * q + k) + i)) ∧ nmd (a (b + 2)) (a (b + 5)) (a (b + 6)) k (A 17 (4096 * q + A 13 (200 * q + k) + i)) (A 18 (4096 * q + A 13 (200 * q + k) + i)) (a (b + 17 + 1) (A 13 (200 * q + k) + i)) ∧ (0 < i → A 17 (4096 * q + A 13 (200 * q + k) + (i - 1)) + A 18 (4096 * q + A 13 (200 * q + k) + (i - 1)) ≤ A 17 (4096 * q + A 13 (200 * q + k) + i)) := by
  obtain ⟨_, gn, glb, gk, gf, gt, ghy, gma, gun, gpo, gpr, gfm, gax, grw⟩ := G
  obtain ⟨e1, e2, e3, e4, e5, e6, e7, e8⟩ := gt k h0 h1
  have w := grw.2.1
  have w7 := grw.2.2.2.2.2.2.2.1
  have m := rw_mono w
  rw [w7] at m
  have m1 := mono_k m h0 h1
  have w4 : a (b + 14 + 2) K ≤ 4096 := by
    obtain ⟨h1, h2, h3, h4, h5, h6, h7, h8, h9, h10, h11, h12⟩ := w
    rw [w7] at h11
    omega
  refine ⟨e1, by omega, by omega, by omega, by omega, e5, e6, by omega, fun i i0 i1 => ?_⟩
  obtain ⟨⟨g1, g2, g3⟩, g4⟩ := e8 i i0 i1
  rw [e1] at g1 g2 g3 g4
  rw [show 4096 * q + (A 13 (200 * q + k) + i) = 4096 * q + A 13 (200 * q + k) + i by omega] at g1 g2 g3
  rw [g1] at g2 g3
  refine ⟨g1, g2, g3, fun z => ?_⟩
  have y := g4 z
  obtain ⟨⟨p1, _⟩, _⟩ := e8 (i - 1) (by omega) (by omega)
  rw [e1] at p1
  rw [g1, p1, show 4096 * q + (A 13 (200 * q + k) + (i - 1)) = 4096 * q + A 13 (200 * q + k) + (i - 1) by omega] at y
  exact y
theorem m_ptok (h4 : F 4 = q) (hq : 0 ≤ q ∧ q ≤ 1) (h0 : 0 ≤ k) (h1 : k < 200) : g_X11_proofToken n 0 (qz k) (qz i) (ms F A J) = some (qz (4096 * q + A 13 (200 * q + k) + i)) := by
  unfold g_X11_proofToken g_X11_proofToken_0
  rw [m_at h4, bd_some, gp_16, ga_13 (by omega) (by omega), bd_some, gf_ms, h4, zl4096, qz_mul, qz_add, qz_add]
theorem m_isOne (hq : 0 ≤ q ∧ q ≤ 1) (h4 : F 4 = q) (G : BK b q S K P len f a ni j A J) (hR : Rbk b q len a A) (h0 : 0 ≤ k) (h1 : k < K) (i0 : 0 ≤ i) (i1 : i < A 14 (200 * q + k)) (c0 : 0 ≤ c) (c1 : c < 128) : g_X11_isOne n 0 (qz k) (qz i) (qz c) (ms F A J) = some (qp (one q (a (b + 2)) (a (b + 14 + 1)) (A 18) (A 13 (200 * q + k) + i) c)) := by
  have hK : K ≤ 200 := G.2.1.2.2.2.1
  have hl : len ≤ 8192 := G.1.2.2.2.2.2.2.2.1
  obtain ⟨t1, t2, t3, t4, t5, t6, t7, t8, t9⟩ := bk_t G h0 h1
  obtain ⟨g1, ⟨u1', u2', u3, u4, u5⟩, g3, g4⟩ := t9 i i0 i1
  have hb := hR (A 17 (4096 * q + A 13 (200 * q + k) + i)) (by omega) (by omega)
  unfold g_X11_isOne g_X11_isOne_0 one
  rw [m_ptok h4 hq h0 (by omega), bd_some, gp_21, ga_18 (by omega) (by omega), bd_some, g1, show 4096 * q + (A 13 (200 * q + k) + i) = 4096 * q + A 13 (200 * q + k) + i by omega]
  simp only [zl0, zl1, zl8192]
  by_cases c2 : A 18 (4096 * q + A 13 (200 * q + k) + i) = 1
  · rw [if_pos (by rw [c2]), gp_20, ga_17 (by omega) (by omega), bd_some, gf_ms, h4, qz_mul, qz_add, gp_5, ga_2 (by omega) (by omega), bd_some, ← hb.1]
    by_cases c3 : a (b + 2) (A 17 (4096 * q + A 13 (200 * q + k) + i)) = c
    · rw [if_pos (by rw [c3]), qp_T ⟨c2, c3⟩]
    · rw [if_neg (by rw [qz_inj (by omega) (by omega) (by omega) (by omega)]; exact c3), qp_F (fun z => c3 z.2)]
  · rw [if_neg (by rw [qz_inj (by omega) (by omega) (by omega) (by omega)]; exact c2), qp_F (fun z => c2 z.1)]
theorem m_compr (hq : 0 ≤ q ∧ q ≤ 1) (h4 : F 4 = q) (G : BK b q S K P len f a ni j A J) (hR : Rbk b q len a A) (h0 : 0 ≤ k) (h1 : k < K) (hk : a (b + 8) k = 3) : g_X11_isCompressed n 0 (qz k) (ms F A J) = some (qp (a (b + 29) k = 1)) := by
  have hK : K ≤ 200 := G.2.1.2.2.2.1
  obtain ⟨t1, t2, t3, t4, t5, t6, t7, t8, t9⟩ := bk_t G h0 h1
  have gfm := G.2.2.2.2.2.2.2.2.2.2.2.1 k h0 h1 hk
  rw [t1] at gfm
  unfold g_X11_isCompressed g_X11_isCompressed_0
  rw [m_at h4, bd_some, gp_17, ga_14 (by omega) (by omega), bd_some]
  simp only [zl0, zl1, zl40]
  by_cases c0 : A 14 (200 * q + k) ≤ 0
  · rw [if_pos (by rw [qz_le (by omega) (by omega) (by omega) (by omega)]; exact c0), qp_F (by omega)]
  · rw [if_neg (by rw [qz_le (by omega) (by omega) (by omega) (by omega)]; exact c0), m_isOne hq h4 G hR h0 h1 (by omega) (by omega) (by omega) (by omega), bd_some, Int.add_zero]
    rcases gfm.2.2 with ⟨z1, z2, z3, _⟩ | ⟨z1, z2, _⟩
    · rw [qp_T z3, if_neg n10, qp_T z1]
    · rw [qp_F (fun y => z2 ⟨by omega, y⟩), if_pos rfl, qp_F (by omega)]
theorem m_listEnd (hn : 100000 ≤ n) (hq : 0 ≤ q ∧ q ≤ 1) (h4 : F 4 = q) (G : BK b q S K P len f a ni j A J) (hR : Rbk b q len a A) (h0 : 0 ≤ k) (h1 : k < K) (hk : a (b + 8) k = 3) (hc : a (b + 29) k = 1) : g_X11_listEnd n 0 (qz k) (ms F A J) = some (qz (a (b + 30) k)) := by
  have hK : K ≤ 200 := G.2.1.2.2.2.1
  obtain ⟨t1, t2, t3, t4, t5, t6, t7, t8, t9⟩ := bk_t G h0 h1
  have gfm := G.2.2.2.2.2.2.2.2.2.2.2.1 k h0 h1 hk
  rw [t1] at gfm
  obtain ⟨l1, l2, l3⟩ := gfm
  have l4 : 1 ≤ a (b + 30) k ∧ (∀ i, 1 ≤ i → i < a (b + 30) k → ¬one q (a (b + 2)) (a (b + 14 + 1)) (A 18) (A 13 (200 * q + k) + i) 41) ∧ (a (b + 30) k < A 14 (200 * q + k) → one q (a (b + 2)) (a (b + 14 + 1)) (A 18) (A 13 (200 * q + k) + a (b + 30) k) 41) := by
    rcases l3 with ⟨z1, z2, z3, z4, z5, z6⟩ | ⟨z1, _⟩
    · exact ⟨z4, z5, z6⟩
    · omega
  obtain ⟨l5, l6, l7⟩ := l4
  unfold g_X11_listEnd g_X11_listEnd_0
  have lp := lp_for (b := gL_X11_listEnd_2 n 0 (qz k) (ms F A J)) (fun t => qz t) (x := qz (a (b + 30) k)) (a (b + 30) k) (n := n) (i0 := 1) l5 (by omega) ?_ ?_
  · rw [zl1, lp, bd_some]
  · intro t t0 t1'
    unfold gL_X11_listEnd_2 g_X11_listEnd_2
    simp only [zl0, zl1, zl41]
    rw [m_at h4, bd_some, gp_17, ga_14 (by omega) (by omega), bd_some, if_neg (by rw [qz_le (by omega) (by omega) (by omega) (by omega)]; omega), m_isOne hq h4 G hR h0 h1 (by omega) (by omega) (by omega) (by omega), bd_some, qp_F (l6 t t0 t1'), if_pos rfl, qz_add]
  · unfold gL_X11_listEnd_2 g_X11_listEnd_2
    simp only [zl0, zl1, zl41]
    rw [m_at h4, bd_some, gp_17, ga_14 (by omega) (by omega), bd_some]
    by_cases c : A 14 (200 * q + k) ≤ a (b + 30) k
    · rw [if_pos (by rw [qz_le (by omega) (by omega) (by omega) (by omega)]; exact c)]
    · rw [if_neg (by rw [qz_le (by omega) (by omega) (by omega) (by omega)]; exact c), m_isOne hq h4 G hR h0 h1 (by omega) (by omega) (by omega) (by omega), bd_some, qp_T (l7 (by omega)), if_neg n10]
/-- statement t has the name that stands at p -/
def nhit (q p l : Int) (A2 A8 A9 : Int → Int) (t : Int) : Prop := A9 (200 * q + t) = l ∧ ∀ x, 0 ≤ x → x < l → A2 (8192 * q + A8 (200 * q + t) + x) = A2 (8192 * q + p + x)
theorem m_nb46 {w t : Int} (hn : 100000 ≤ n) (hq : 0 ≤ q ∧ q ≤ 1) (h4 : F 4 = q) (w0 : 0 ≤ w) (w1 : w < 8192) (t0 : 0 ≤ t) (t1 : t < 200) (p0 : 0 ≤ A 17 w) (l0 : 0 ≤ A 18 w) (p1 : A 17 w + A 18 w ≤ 8192) (s0 : 0 ≤ A 8 (200 * q + t)) (s1 : A 8 (200 * q + t) + A 18 w ≤ 8192) (hb : ∀ x, 8192 * q ≤ x → x < 8192 * q + 8192 → (8192 * q + A 17 w ≤ x ∧ x < 8192 * q + A 17 w + A 18 w ∨ 8192 * q + A 8 (200 * q + t) ≤ x ∧ x < 8192 * q + A 8 (200 * q + t) + A 18 w) → 0 ≤ A 2 x ∧ A 2 x < 256) : hp_lp (gL_X11_namedBy_46 n 0 (qz k) (qz w) (qz t) (ms F A J)) n (qz 1, qz 0) = some (qp (∀ x, 0 ≤ x → x < A 18 w → A 2 (8192 * q + A 8 (200 * q + t) + x) = A 2 (8192 * q + A 17 w + x))) := by
  refine lp_brk (b := gL_X11_namedBy_46 n 0 (qz k) (qz w) (qz t) (ms F A J)) (fun i => (qz 1, qz i)) (fun i => (qz 0, qz i)) (fun Q => qp Q) (fun x => A 2 (8192 * q + A 8 (200 * q + t) + x) = A 2 (8192 * q + A 17 w + x)) (n := n) (lo := 0) (A 18 w) l0 (by omega) ?_ ?_ ?_ ?_
  · intro i i0 i1 hp
    have h1 := hb (8192 * q + A 8 (200 * q + t) + i) (by omega) (by omega) (by omega)
    have h2 := hb (8192 * q + A 17 w + i) (by omega) (by omega) (by omega)
    unfold gL_X11_namedBy_46 g_X11_namedBy_46 g_X11_namedBy_121
    simp only [zl0, zl1, zl8192]
    rw [gp_21, ga_18 w0 w1, bd_some, if_neg (by rw [qz_le (by omega) (by omega) (by omega) (by omega)]; omega), if_neg n10, m_at h4, bd_some, gp_11, ga_8 (by omega) (by omega), bd_some, gf_ms, h4, qz_mul, qz_add, qz_add, gp_5, ga_2 (by omega) (by omega), bd_some, gp_20, ga_17 w0 w1, bd_some, qz_add, qz_add, ga_2 (by omega) (by omega), bd_some, if_pos (by rw [hp]), qz_add]
  · intro i i0 i1 hp
    have h1 := hb (8192 * q + A 8 (200 * q + t) + i) (by omega) (by omega) (by omega)
    have h2 := hb (8192 * q + A 17 w + i) (by omega) (by omega) (by omega)
    unfold gL_X11_namedBy_46 g_X11_namedBy_46 g_X11_namedBy_121
    simp only [zl0, zl1, zl8192]
    rw [gp_21, ga_18 w0 w1, bd_some, if_neg (by rw [qz_le (by omega) (by omega) (by omega) (by omega)]; omega), if_neg n10, m_at h4, bd_some, gp_11, ga_8 (by omega) (by omega), bd_some, gf_ms, h4, qz_mul, qz_add, qz_add, gp_5, ga_2 (by omega) (by omega), bd_some, gp_20, ga_17 w0 w1, bd_some, qz_add, qz_add, ga_2 (by omega) (by omega), bd_some, if_neg (by rw [qz_inj (by omega) (by omega) (by omega) (by omega)]; exact hp), qz_add]
  · intro i i0 i1
    unfold gL_X11_namedBy_46 g_X11_namedBy_46
    simp only [zl0]
    rw [gp_21, ga_18 w0 w1, bd_some, if_pos trivial, ite_self, qpF]
  · unfold gL_X11_namedBy_46 g_X11_namedBy_46
    simp only [zl0]
    rw [gp_21, ga_18 w0 w1, bd_some, if_pos (by rw [qz_le (by omega) (by omega) (by omega) (by omega)]; omega), qpT]
/-- what a token of a proof names -/
theorem m_namedBy (hn : 100000 ≤ n) (hq : 0 ≤ q ∧ q ≤ 1) (h4 : F 4 = q) (G : BK b q S K P len f a ni j A J) (hR : Rbk b q len a A) (h0 : 0 ≤ k) (h1 : k < K) (i0 : 0 ≤ i) (i1 : i < A 14 (200 * q + k)) : g_X11_namedBy n 0 (qz k) (qz i) (ms F A J) = some (qz (a (b + 17 + 1) (A 13 (200 * q + k) + i))) := by
  have hK : K ≤ 200 := G.2.1.2.2.2.1
  have hl : len ≤ 8192 := G.1.2.2.2.2.2.2.2.1
  obtain ⟨t1, t2, t3, t4, t5, t6, t7, t8, t9⟩ := bk_t G h0 h1
  obtain ⟨g1, ⟨u1', u2', u3, u4, u5⟩, g3, g4⟩ := t9 i i0 i1
  generalize hw : 4096 * q + A 13 (200 * q + k) + i = w at *
  have w0 : 0 ≤ w := by omega
  have w1 : w < 8192 := by omega
  have hlab : ∀ t, 0 ≤ t → t < K → a (b + 5) (300 + t) = A 8 (200 * q + t) ∧ a (b + 6) (300 + t) = A 9 (200 * q + t) ∧ 0 ≤ A 8 (200 * q + t) ∧ 1 ≤ A 9 (200 * q + t) ∧ A 8 (200 * q + t) + A 9 (200 * q + t) ≤ len := by
    intro t t0 t1
    have h1 := bk_n G (x := 300 + t) (Or.inr ⟨by omega, by omega⟩)
    have h2 := G.2.1.2.2.2.2.2.2.2.2 t t0 t1
    omega
  have hby : ∀ x, 0 ≤ x → x < len → a (b + 2) x = A 2 (8192 * q + x) := fun x x0 x1 => (hR x x0 x1).1
  have hhit : ∀ t, 0 ≤ t → t < K → (nme (a (b + 2)) (a (b + 5) (300 + t)) (a (b + 6) (300 + t)) (a (b + 2)) (A 17 w) (A 18 w) ↔ nhit q (A 17 w) (A 18 w) (A 2) (A 8) (A 9) t) := by
    intro t t0 t1
    obtain ⟨h1, h2, h3, h4, h5⟩ := hlab t t0 t1
    rw [h1, h2]
    unfold nme nhit
    constructor
    · rintro ⟨e1, e2⟩
      refine ⟨e1, fun x x0 x1 => ?_⟩
      have y := e2 x x0 x1
      rw [hby _ (by omega) (by omega), hby _ (by omega) (by omega)] at y
      rw [show 8192 * q + A 8 (200 * q + t) + x = 8192 * q + (A 8 (200 * q + t) + x) by omega, show 8192 * q + A 17 w + x = 8192 * q + (A 17 w + x) by omega]
      exact y
    · rintro ⟨e1, e2⟩
      refine ⟨e1, fun x x0 x1 => ?_⟩
      have y := e2 x x0 x1
      rw [hby _ (by omega) (by omega), hby _ (by omega) (by omega)]
      rw [show 8192 * q + A 8 (200 * q + t) + x = 8192 * q + (A 8 (200 * q + t) + x) by omega, show 8192 * q + A 17 w + x = 8192 * q + (A 17 w + x) by omega] at y
      exact y
  have step : ∀ t, 0 ≤ t → t < k → (nhit q (A 17 w) (A 18 w) (A 2) (A 8) (A 9) t → gL_X11_namedBy_10 n 0 (qz k) (qz w) (ms F A J) (qz t) = some (.inr (qz t))) ∧ (¬nhit q (A 17 w) (A 18 w) (A 2) (A 8) (A 9) t → gL_X11_namedBy_10 n 0 (qz k) (qz w) (ms F A J) (qz t) = some (.inl (qz (t + 1)))) := by
    intro t t0 t1'
    obtain ⟨h1', h2, h3, h4', h5⟩ := hlab t t0 (by omega)
    have e : gL_X11_namedBy_10 n 0 (qz k) (qz w) (ms F A J) (qz t) = if A 9 (200 * q + t) = A 18 w then g_X11_namedBy_41 n 0 (qz k) (qz w) (qz t) (qz 1) (ms F A J) else g_X11_namedBy_41 n 0 (qz k) (qz w) (qz t) (qz 0) (ms F A J) := by
      unfold gL_X11_namedBy_10 g_X11_namedBy_10
      simp only [zl0, zl1]
      rw [if_neg (by rw [qz_le (by omega) (by omega) (by omega) (by omega)]; omega), m_at h4, bd_some, gp_12, ga_9 (by omega) (by omega), bd_some, gp_21, ga_18 w0 w1, bd_some]
      simp (disch := omega) only [qz_inj]
    by_cases c1 : A 9 (200 * q + t) = A 18 w
    · have e2 : g_X11_namedBy_41 n 0 (qz k) (qz w) (qz t) (qz 1) (ms F A J) = (if qp (∀ x, 0 ≤ x → x < A 18 w → A 2 (8192 * q + A 8 (200 * q + t) + x) = A 2 (8192 * q + A 17 w + x)) = qz 0 then some (.inl (qz (t + 1))) else some (.inr (qz t))) := by
        unfold g_X11_namedBy_41 g_X11_namedBy_129
        simp only [zl0, zl1]
        rw [m_nb46 hn hq h4 w0 w1 t0 (by omega) u1' (by omega) (by omega) h3 (by omega) (fun x x0 x1 hx => by
          have := hR (x - 8192 * q) (by omega) (by omega)
          rw [show 8192 * q + (x - 8192 * q) = x by omega] at this
          omega), bd_some, qz_add]
      rw [if_pos c1, e2] at e
      refine ⟨fun h => ?_, fun h => ?_⟩
      · rw [e, qp_T h.2, if_neg n10]
      · rw [e, qp_F (fun y => h ⟨c1, y⟩), if_pos rfl]
    · have e2 : g_X11_namedBy_41 n 0 (qz k) (qz w) (qz t) (qz 0) (ms F A J) = some (.inl (qz (t + 1))) := by
        unfold g_X11_namedBy_41 g_X11_namedBy_129
        simp only [zl0, zl1]
        have e3 : hp_lp (gL_X11_namedBy_46 n 0 (qz k) (qz w) (qz t) (ms F A J)) n (qz 0, qz 0) = some (qz 0) := by
          obtain ⟨n, rfl⟩ : ∃ x, n = x + 1 := ⟨n - 1, by omega⟩
          apply hp_lp_x
          unfold gL_X11_namedBy_46 g_X11_namedBy_46
          simp only [zl0]
          rw [gp_21, ga_18 w0 w1, bd_some, if_pos trivial, ite_self]
        rw [e3, bd_some, if_pos rfl, qz_add]
      rw [if_neg c1, e2] at e
      exact ⟨fun h => absurd h.1 c1, fun _ => e⟩
  unfold g_X11_namedBy g_X11_namedBy_0
  rw [m_ptok h4 hq h0 (by omega), bd_some, hw, zl0]
  rcases g3 with ⟨r1, r2⟩ | ⟨r1, r2, r3⟩
  · have lp := lp_for (b := gL_X11_namedBy_10 n 0 (qz k) (qz w) (ms F A J)) (fun t => qz t) (x := qz (-1)) k (n := n) (i0 := 0) h0 (by omega) (fun t t0 t1' => (step t t0 t1').2 (fun y => r2 t t0 t1' ((hhit t t0 (by omega)).mpr y))) (by
      unfold gL_X11_namedBy_10 g_X11_namedBy_10
      rw [if_pos (by rw [qz_le (by omega) (by omega) (by omega) (by omega)]; omega)]
      rfl)
    rw [lp, bd_some, r1]
  · generalize hr : a (b + 17 + 1) (A 13 (200 * q + k) + i) = r at r1 r2 r3 ⊢
    have lp := lp_for (b := gL_X11_namedBy_10 n 0 (qz k) (qz w) (ms F A J)) (fun t => qz t) (x := qz r) r (n := n) (i0 := 0) r1 (by omega) (fun t t0 t1' => (step t t0 (by omega)).2 (fun y => by
      have y1 := (hhit t t0 (by omega)).mpr y
      have e := G.2.1.2.2.2.2.2.2.1 (300 + t) (300 + r) (Or.inr ⟨by omega, by omega⟩) (Or.inr ⟨by omega, by omega⟩) ⟨by rw [y1.1, r3.1], fun x x0 x1 => by
        have z1 := y1.2 x x0 (by have := r3.1; omega)
        have z2 := r3.2 x x0 (by have := r3.1; omega)
        rw [z1, z2]⟩
      omega)) ((step r r1 r2).1 ((hhit r r1 (by omega)).mp r3))
    rw [lp, bd_some]
end PTK
