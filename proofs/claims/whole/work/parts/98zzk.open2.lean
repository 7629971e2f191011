/-! A proof with a question mark: the reference -/
section OP2
variable {b n : Nat} {q S K P len k le x y i c : Int} {f : Nat → Nat → Int} {d : Nat → Nat} {a : Nat → Int → Int} {ni : Nat → Nat} {j : Nat → Int → Int64} {F : Nat → Int} {A : Nat → Int → Int} {J : Nat → Int → Int64}
/-- a letter is a byte of a token behind the list -/
theorem ltr_at {B : Int → Int} (G : BK b q S K P len f a ni j A J) (hR : Rbk b q len a A) (h0 : 0 ≤ k) (h1 : k < K) (hle : 0 ≤ le) (hB : ltr q k le (A 2) (A 13) (A 17) (A 18) B (A 14 (200 * q + k) - le - 1).toNat) (x0 : 0 ≤ x) (x1 : x < lof q k le (A 13) (A 18) (A 14 (200 * q + k) - le - 1).toNat) : ∃ i y, le < i ∧ i < A 14 (200 * q + k) ∧ 0 ≤ y ∧ y < tkl q k (A 13) (A 18) i ∧ x = lof q k le (A 13) (A 18) (i - le - 1).toNat + y ∧ B x = a (b + 2) (tkp q k (A 13) (A 17) i + y) ∧ 32 < B x ∧ B x < 127 := by
  obtain ⟨t1, t2, t3, t4, t5, t6, t7, t8, t9⟩ := bk_t G h0 h1
  obtain ⟨g1, g2, g3⟩ := bk_tl G h0 h1
  obtain ⟨m, hm, y, y0, y1, y2⟩ := lof_dec (A 14 (200 * q + k) - le - 1).toNat (fun i hi => (g1 _ (by omega) (by omega)).2) x x0 x1
  have e := hB m hm y y0 y1
  have z1 := g1 (le + 1 + m) (by omega) (by omega)
  have z3 := g3 (le + 1 + m) (by omega) (by omega)
  have r := hR (tkp q k (A 13) (A 17) (le + 1 + m) + y) (by omega) (by omega)
  obtain ⟨u1', u2', u3, u4, u5⟩ := (t9 (le + 1 + m) (by omega) (by omega)).2.1
  have u := u4 (tkp q k (A 13) (A 17) (le + 1 + m) + y) (by unfold tkp; omega) (by unfold tkp tkl at *; omega)
  have eB : B x = a (b + 2) (tkp q k (A 13) (A 17) (le + 1 + m) + y) := by
    rw [y2, e, r.1, show 8192 * q + (tkp q k (A 13) (A 17) (le + 1 + m) + y) = 8192 * q + tkp q k (A 13) (A 17) (le + 1 + m) + y by omega]
  refine ⟨le + 1 + m, y, by omega, by omega, y0, y1, ?_, eB, by omega, by omega⟩
  rw [show (le + 1 + (m : Int) - le - 1).toNat = m by omega]
  exact y2
theorem ltr_eq {B : Int → Int} (G : BK b q S K P len f a ni j A J) (hR : Rbk b q len a A) (h0 : 0 ≤ k) (h1 : k < K) (hle : 0 ≤ le) (hB : ltr q k le (A 2) (A 13) (A 17) (A 18) B (A 14 (200 * q + k) - le - 1).toNat) (i0 : le < i) (i1 : i < A 14 (200 * q + k)) (y0 : 0 ≤ y) (y1 : y < tkl q k (A 13) (A 18) i) : B (lof q k le (A 13) (A 18) (i - le - 1).toNat + y) = a (b + 2) (tkp q k (A 13) (A 17) i + y) ∧ lof q k le (A 13) (A 18) (i - le - 1).toNat + y < lof q k le (A 13) (A 18) (A 14 (200 * q + k) - le - 1).toNat := by
  obtain ⟨g1, g2, g3⟩ := bk_tl G h0 h1
  have hi : le + 1 + (((i - le - 1).toNat : Nat) : Int) = i := by omega
  have e := hB (i - le - 1).toNat (by omega) y y0 (by rw [hi]; exact y1)
  rw [hi] at e
  have z1 := g1 i (by omega) (by omega)
  have z3 := g3 i (by omega) (by omega)
  have r := hR (tkp q k (A 13) (A 17) i + y) (by omega) (by omega)
  refine ⟨?_, ?_⟩
  · rw [e, r.1, show 8192 * q + (tkp q k (A 13) (A 17) i + y) = 8192 * q + tkp q k (A 13) (A 17) i + y by omega]
  · have q1 := lof_m (q := q) (k := k) (le := le) (A13 := A 13) (A18 := A 18) ((i - le - 1).toNat + 1) ((A 14 (200 * q + k) - le - 1).toNat - ((i - le - 1).toNat + 1)) (fun i hi => (g1 _ (by omega) (by omega)).2)
    rw [show (i - le - 1).toNat + 1 + ((A 14 (200 * q + k) - le - 1).toNat - ((i - le - 1).toNat + 1)) = (A 14 (200 * q + k) - le - 1).toNat by omega, lof_s, hi] at q1
    omega
theorem m_open (hn : 100000 ≤ n) (hq : 0 ≤ q ∧ q ≤ 1) (h4 : F 4 = q) (G : BK b q S K P len f a ni j A J) (hR : Rbk b q len a A) (h0 : 0 ≤ k) (h1 : k < K) (hk : a (b + 8) k = 3) : ∃ (F2 : Nat → Int) (A2 : Nat → Int → Int), g_X11_isOpen n 0 (qz k) (ms F A J) = some (qp (opn q k (a (b + 30) k) (a (b + 2)) (a (b + 14 + 1)) (A 13) (A 14) (A 17) (A 18)), ms F2 A2 J) ∧ (∀ i, i ≠ 48 → F2 i = F i) ∧ ∀ i, i ≠ 33 → A2 i = A i := by
  have hK : K ≤ 200 := G.2.1.2.2.2.1
  obtain ⟨t1, t2, t3, t4, t5, t6, t7, t8, t9⟩ := bk_t G h0 h1
  obtain ⟨l1, l2, l3⟩ := G.2.2.2.2.2.2.2.2.2.2.2.1 k h0 h1 hk
  have lp := lp_for (b := gL_X11_isOpen_4 n 0 (qz k) (ms F A J)) (fun t => (qp (∃ x, 0 ≤ x ∧ x < t ∧ one q (a (b + 2)) (a (b + 14 + 1)) (A 18) (A 13 (200 * q + k) + x) 63), qz t)) (x := qp (∃ x, 0 ≤ x ∧ x < A 14 (200 * q + k) ∧ one q (a (b + 2)) (a (b + 14 + 1)) (A 18) (A 13 (200 * q + k) + x) 63)) (A 14 (200 * q + k)) (n := n) (i0 := 0) t6 (by omega) ?_ ?_
  rotate_left
  · intro t u0 u1'
    unfold gL_X11_isOpen_4 g_X11_isOpen_4 g_X11_isOpen_33 g_X11_isOpen_38
    simp only [zl0, zl1, zl63]
    rw [m_at h4, bd_some, gp_17, ga_14 (by omega) (by omega), bd_some, if_neg (by rw [qz_le (by omega) (by omega) (by omega) (by omega)]; omega), m_isOne hq h4 G hR h0 h1 u0 u1' (by omega) (by omega), bd_some, qz_add]
    by_cases c : ∃ x, 0 ≤ x ∧ x < t ∧ one q (a (b + 2)) (a (b + 14 + 1)) (A 18) (A 13 (200 * q + k) + x) 63
    · rw [qp_T c, if_neg n10, qp_T]
      obtain ⟨x, x0, x1, x2⟩ := c
      exact ⟨x, x0, by omega, x2⟩
    · rw [qp_F c, if_pos rfl]
      by_cases c2 : one q (a (b + 2)) (a (b + 14 + 1)) (A 18) (A 13 (200 * q + k) + t) 63
      · rw [qp_T c2, if_neg n10, qp_T ⟨t, u0, by omega, c2⟩]
      · rw [qp_F c2, if_pos rfl, qp_F]
        rintro ⟨x, x0, x1, x2⟩
        by_cases e : x = t
        · rw [e] at x2; exact c2 x2
        · exact c ⟨x, x0, by omega, x2⟩
  · unfold gL_X11_isOpen_4 g_X11_isOpen_4
    rw [m_at h4, bd_some, gp_17, ga_14 (by omega) (by omega), bd_some, if_pos (by rw [qz_le (by omega) (by omega) (by omega) (by omega)]; omega)]
  have e0 : qp (∃ x, 0 ≤ x ∧ x < (0 : Int) ∧ one q (a (b + 2)) (a (b + 14 + 1)) (A 18) (A 13 (200 * q + k) + x) 63) = qz 0 := qp_F (fun ⟨x, x0, x1, _⟩ => by omega)
  simp only [e0] at lp
  unfold g_X11_isOpen g_X11_isOpen_0
  simp only [zl0]
  rw [lp, bd_some]
  by_cases c1 : ∃ x, 0 ≤ x ∧ x < A 14 (200 * q + k) ∧ one q (a (b + 2)) (a (b + 14 + 1)) (A 18) (A 13 (200 * q + k) + x) 63
  · refine ⟨F, A, ?_, fun _ _ => rfl, fun _ _ => rfl⟩
    rw [qp_T c1, if_neg n10, hp_bz_1, bd_some, qp_T (show opn q k (a (b + 30) k) (a (b + 2)) (a (b + 14 + 1)) (A 13) (A 14) (A 17) (A 18) from Or.inl c1)]
  rw [qp_F c1, if_pos rfl, m_compr hq h4 G hR h0 h1 hk, bd_some]
  by_cases c2 : a (b + 29) k = 1
  rotate_left
  · refine ⟨F, A, ?_, fun _ _ => rfl, fun _ _ => rfl⟩
    rw [qp_F c2, if_pos rfl, hp_bz_0, bd_some, qp_F]
    rintro (z | ⟨i, i0, i1, _⟩)
    · exact c1 z
    · rcases l3 with ⟨z1, _⟩ | ⟨z1, z2, z3⟩
      · exact c2 z1
      · omega
  obtain ⟨B, eB, hB, o0, o1⟩ := m_take (F := F) (J := J) hn hq h4 G hR h0 h1 hk c2 rfl
  rw [qp_T c2, if_neg n10, eB, bd_some]
  have lp2 := lp_for (b := gL_X11_isOpen_64 n 0 (ms (u1 F 48 (lof q k (a (b + 30) k) (A 13) (A 18) (A 14 (200 * q + k) - a (b + 30) k - 1).toNat)) (u1 A 33 B) J)) (fun t => (qp (∃ x, 0 ≤ x ∧ x < t ∧ B x = 63), qz t)) (x := qp (∃ x, 0 ≤ x ∧ x < lof q k (a (b + 30) k) (A 13) (A 18) (A 14 (200 * q + k) - a (b + 30) k - 1).toNat ∧ B x = 63)) (lof q k (a (b + 30) k) (A 13) (A 18) (A 14 (200 * q + k) - a (b + 30) k - 1).toNat) (n := n) (i0 := 0) o0 (by omega) ?_ ?_
  rotate_left
  · intro t u0 u1'
    obtain ⟨_, _, _, _, _, _, _, _, v1', v2'⟩ := ltr_at G hR h0 h1 l1 hB u0 u1'
    unfold gL_X11_isOpen_64 g_X11_isOpen_64 g_X11_isOpen_87 g_X11_isOpen_92
    simp only [zl0, zl1, zl63]
    rw [gf_ms, u1_s, if_neg (by rw [qz_le (by omega) (by omega) (by omega) (by omega)]; omega), gp_47, ga_33 (by omega) (by omega), u1_s, bd_some, qz_add]
    by_cases c : ∃ x, 0 ≤ x ∧ x < t ∧ B x = 63
    · rw [qp_T c, if_neg n10, qp_T]
      obtain ⟨x, x0, x1, x2⟩ := c
      exact ⟨x, x0, by omega, x2⟩
    · rw [qp_F c, if_pos rfl]
      by_cases c2 : B t = 63
      · rw [if_pos (by rw [c2]), qp_T ⟨t, u0, by omega, c2⟩]
      · rw [if_neg (by rw [qz_inj (by omega) (by omega) (by omega) (by omega)]; exact c2), qp_F]
        rintro ⟨x, x0, x1, x2⟩
        by_cases e : x = t
        · rw [e] at x2; exact c2 x2
        · exact c ⟨x, x0, by omega, x2⟩
  · unfold gL_X11_isOpen_64 g_X11_isOpen_64
    rw [gf_ms, u1_s, if_pos (by rw [qz_le (by omega) (by omega) (by omega) (by omega)]; omega)]
    by_cases c : ∃ x, 0 ≤ x ∧ x < lof q k (a (b + 30) k) (A 13) (A 18) (A 14 (200 * q + k) - a (b + 30) k - 1).toNat ∧ B x = 63
    · rw [qp_T c, hp_bz_1, bd_some]
    · rw [qp_F c, hp_bz_0, bd_some]
  have e1 : qp (∃ x, 0 ≤ x ∧ x < (0 : Int) ∧ B x = 63) = qz 0 := qp_F (fun ⟨x, x0, x1, _⟩ => by omega)
  simp only [e1] at lp2
  refine ⟨u1 F 48 (lof q k (a (b + 30) k) (A 13) (A 18) (A 14 (200 * q + k) - a (b + 30) k - 1).toNat), u1 A 33 B, ?_, fun i hi => u1_o hi, fun i hi => u1_o hi⟩
  rw [lp2, bd_some]
  congr 2
  apply qp_congr
  constructor
  · rintro ⟨x, x0, x1, x2⟩
    obtain ⟨i, y, i0, i1, y0, y1, y2, y3, _, _⟩ := ltr_at G hR h0 h1 l1 hB x0 x1
    exact Or.inr ⟨i, i0, i1, tkp q k (A 13) (A 17) i + y, by omega, by omega, by rw [← y3]; exact x2⟩
  · rintro (z | ⟨i, i0, i1, x, x0, x1, x2⟩)
    · exact absurd z c1
    · obtain ⟨y1, y2⟩ := ltr_eq G hR h0 h1 l1 hB i0 i1 (y := x - tkp q k (A 13) (A 17) i) (by omega) (by omega)
      have := (lof_b l1 (bk_tl G h0 h1).1 (bk_tl G h0 h1).2.1 (i - a (b + 30) k - 1).toNat (by omega)).1
      refine ⟨_, ?_, y2, ?_⟩
      · omega
      · rw [y1, show tkp q k (A 13) (A 17) i + (x - tkp q k (A 13) (A 17) i) = x by omega]
        exact x2
end OP2
