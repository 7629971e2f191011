/-! The list of a compressed proof: the reference -/
section LI2
variable {b n : Nat} {q S K P len k le x y i c r : Int} {f : Nat → Nat → Int} {d : Nat → Nat} {a : Nat → Int → Int} {ni : Nat → Nat} {j : Nat → Int → Int64} {F : Nat → Int} {A : Nat → Int → Int} {J : Nat → Int → Int64}
theorem m_list2 (hn : 100000 ≤ n) (hq : 0 ≤ q ∧ q ≤ 1) (h4 : F 4 = q) (hs : F 46 = 0) (G : BK b q S K P len f a ni j A J) (h0 : 0 ≤ k) (h1 : k < K) : ∃ F2 A2, hp_lp (gL_X11_readList_2 n 0 (qz k)) n (qz 0, ms F A J) = some (ms F2 A2 J) ∧ (∀ i, i ≠ 46 → F2 i = F i) ∧ (∀ i, i ≠ 32 → A2 i = A i) ∧ F2 46 = (a (b + 20 + 2) (k + 1) - a (b + 20 + 2) k) ∧ ∀ x, 0 ≤ x → x < (a (b + 20 + 2) (k + 1) - a (b + 20 + 2) k) → A2 32 x = a (b + 20 + 1) (a (b + 20 + 2) k + x) := by
  have hK : K ≤ 200 := G.2.1.2.2.2.1
  obtain ⟨e1, e2, e3, e4⟩ := bk_h G h0 h1
  have lp := lp_inv (b := gL_X11_readList_2 n 0 (qz k)) (fun t c => ∃ F2 A2 m, c = (qz t, ms F2 A2 J) ∧ (∀ i, i ≠ 46 → F2 i = F i) ∧ (∀ i, i ≠ 32 → A2 i = A i) ∧ F2 46 = m ∧ m ≤ t ∧ cnt (a (b + 20 + 1)) (a (b + 20 + 2) k) (a (b + 20 + 2) (k + 1)) t m ∧ ∀ x, 0 ≤ x → x < m → A2 32 x = a (b + 20 + 1) (a (b + 20 + 2) k + x)) (Q := fun s => ∃ F2 A2, s = ms F2 A2 J ∧ (∀ i, i ≠ 46 → F2 i = F i) ∧ (∀ i, i ≠ 32 → A2 i = A i) ∧ F2 46 = (a (b + 20 + 2) (k + 1) - a (b + 20 + 2) k) ∧ ∀ x, 0 ≤ x → x < (a (b + 20 + 2) (k + 1) - a (b + 20 + 2) k) → A2 32 x = a (b + 20 + 1) (a (b + 20 + 2) k + x)) k (n := n) (i0 := 0) h0 (by omega) (c0 := (qz 0, ms F A J)) ⟨F, A, 0, rfl, fun _ _ => rfl, fun _ _ => rfl, hs, by omega, cnt_0 e2 (fun x hx => (e4 x hx).1), fun x x0 x1 => by omega⟩ ?_ ?_
  · obtain ⟨s, es, F2, A2, rfl, h⟩ := lp
    exact ⟨F2, A2, es, h⟩
  · rintro t c t0 t1 ⟨F2, A2, m, rfl, h1', h2', h3', h4', h5', h6'⟩
    have F24 : F2 4 = q := by rw [h1' 4 (by decide)]; exact h4
    have m0 := h5'.1
    unfold gL_X11_readList_2 g_X11_readList_2 g_X11_readList_40
    simp only [zl0, zl1]
    rw [if_neg (by rw [qz_le (by omega) (by omega) (by omega) (by omega)]; omega), gp_23, m_isBit (Or.inr rfl) F24 hq h0 (by omega) t0 (by omega), bd_some, qz_add]
    by_cases c : bt (J 20) (4 * (200 * q + k)) t
    · obtain ⟨g1, g2, g3⟩ := cnt_in e1 h5' ((e3 t t0 (by omega)).mpr c)
      rw [qp_T c, if_neg n10, gp_45, gf_ms, h3', ua_32 m0 (by omega), bd_some, gf_ms, h3', qz_add, wf_ms, bd_some]
      refine ⟨_, rfl, _, _, m + 1, rfl, fun i hi => by rw [u1_o hi]; exact h1' i hi, fun i hi => by rw [v2_o hi]; exact h2' i hi, by rw [u1_s], by omega, g1, fun x x0 x1 => ?_⟩
      rw [v2_s]
      by_cases e : x = m
      · rw [e, v1_s, g3]
      · rw [v1_o e]; exact h6' x x0 (by omega)
    · rw [qp_F c, if_pos rfl]
      exact ⟨_, rfl, F2, A2, m, rfl, h1', h2', h3', by omega, cnt_o1 h5' (fun y => c ((e3 t t0 (by omega)).mp y)), h6'⟩
  · rintro c ⟨F2, A2, m, rfl, h1', h2', h3', h4', h5', h6'⟩
    have em := cnt_end h5' (fun x hx => (e4 x hx).2.1)
    refine ⟨_, ?_, F2, A2, rfl, h1', h2', by rw [h3', em], by rw [← em]; exact h6'⟩
    unfold gL_X11_readList_2 g_X11_readList_2
    rw [if_pos (by rw [qz_le (by omega) (by omega) (by omega) (by omega)]; omega)]
theorem m_list79 {v2 v3 : Int32} {N : Int} (hn : 100000 ≤ n) (h46 : F 46 = N) (n0 : 0 ≤ N) (n1 : N ≤ 600) (r0 : 0 ≤ r) (r1 : r < 1000) (hb : ∀ x, 0 ≤ x → x < N → 0 ≤ A 32 x ∧ A 32 x < 1000) : hp_lp (gL_X11_readList_79 n 0 (qz k) v2 v3 (qz r) (ms F A J)) n (qz 1, qz 0) = some (qp (∀ x, 0 ≤ x → x < N → A 32 x ≠ r)) := by
  refine lp_brk (b := gL_X11_readList_79 n 0 (qz k) v2 v3 (qz r) (ms F A J)) (fun i => (qz 1, qz i)) (fun i => (qz 0, qz i)) (fun Q => qp Q) (fun x => A 32 x ≠ r) (n := n) (lo := 0) N n0 (by omega) ?_ ?_ ?_ ?_
  · intro i i0 i1 hp
    have := hb i i0 i1
    unfold gL_X11_readList_79 g_X11_readList_79 g_X11_readList_110
    simp only [zl0, zl1]
    rw [gf_ms, h46, if_neg (by rw [qz_le (by omega) (by omega) (by omega) (by omega)]; omega), if_neg n10, gp_45, ga_32 (by omega) (by omega), bd_some, if_neg (by rw [qz_inj (by omega) (by omega) (by omega) (by omega)]; exact hp), qz_add]
  · intro i i0 i1 hp
    have e : A 32 i = r := Classical.byContradiction hp
    unfold gL_X11_readList_79 g_X11_readList_79 g_X11_readList_110
    simp only [zl0, zl1]
    rw [gf_ms, h46, if_neg (by rw [qz_le (by omega) (by omega) (by omega) (by omega)]; omega), if_neg n10, gp_45, ga_32 (by omega) (by omega), bd_some, if_pos (by rw [e]), qz_add]
  · intro i i0 i1
    unfold gL_X11_readList_79 g_X11_readList_79
    simp only [zl0]
    rw [if_pos trivial, ite_self, qpF]
  · unfold gL_X11_readList_79 g_X11_readList_79
    simp only [zl0]
    rw [gf_ms, h46, if_pos (by rw [qz_le (by omega) (by omega) (by omega) (by omega)]; omega), qpT]
theorem m_list (hn : 100000 ≤ n) (hq : 0 ≤ q ∧ q ≤ 1) (h4 : F 4 = q) (hs : F 46 = 0) (G : BK b q S K P len f a ni j A J) (hR : Rbk b q len a A) (h0 : 0 ≤ k) (h1 : k < K) (hk : a (b + 8) k = 3) (hc : a (b + 29) k = 1) : ∃ F2 A2, (∀ i, i ≠ 46 → i ≠ 54 → i ≠ 55 → F2 i = F i) ∧ (∀ i, i ≠ 32 → A2 i = A i) ∧ ((∃ t, 1 ≤ t ∧ t < a (b + 30) k ∧ lbad q k (a (b + 20 + 2) (k + 1) - a (b + 20 + 2) k) (fun x => a (b + 20 + 1) (a (b + 20 + 2) k + x)) (A 13) (a (b + 17 + 1)) (a (b + 8)) (a (b + 10)) t ∧ (∀ y, 1 ≤ y → y < t → ¬lbad q k (a (b + 20 + 2) (k + 1) - a (b + 20 + 2) k) (fun x => a (b + 20 + 1) (a (b + 20 + 2) k + x)) (A 13) (a (b + 17 + 1)) (a (b + 8)) (a (b + 10)) y) ∧ g_X11_readList n 0 (qz k) (ms F A J) = some (qz 0, ms F2 A2 J) ∧ F2 54 = -2 ∧ F2 55 = t) ∨ ((∀ y, 1 ≤ y → y < a (b + 30) k → ¬lbad q k (a (b + 20 + 2) (k + 1) - a (b + 20 + 2) k) (fun x => a (b + 20 + 1) (a (b + 20 + 2) k + x)) (A 13) (a (b + 17 + 1)) (a (b + 8)) (a (b + 10)) y) ∧ a (b + 30) k = A 14 (200 * q + k) ∧ g_X11_readList n 0 (qz k) (ms F A J) = some (qz 0, ms F2 A2 J) ∧ F2 54 = -3 ∧ F2 55 = a (b + 30) k) ∨ ((∀ y, 1 ≤ y → y < a (b + 30) k → ¬lbad q k (a (b + 20 + 2) (k + 1) - a (b + 20 + 2) k) (fun x => a (b + 20 + 1) (a (b + 20 + 2) k + x)) (A 13) (a (b + 17 + 1)) (a (b + 8)) (a (b + 10)) y) ∧ a (b + 30) k < A 14 (200 * q + k) ∧ g_X11_readList n 0 (qz k) (ms F A J) = some (qz 1, ms F2 A2 J) ∧ F2 46 = (a (b + 20 + 2) (k + 1) - a (b + 20 + 2) k) + (a (b + 30) k - 1) ∧ ∀ x, 0 ≤ x → x < (a (b + 20 + 2) (k + 1) - a (b + 20 + 2) k) + (a (b + 30) k - 1) → A2 32 x = gls q k (a (b + 20 + 2) (k + 1) - a (b + 20 + 2) k) (fun x => a (b + 20 + 1) (a (b + 20 + 2) k + x)) (A 13) (a (b + 17 + 1)) x)) := by
  have hK : K ≤ 200 := G.2.1.2.2.2.1
  obtain ⟨t1, t2, t3, t4, t5, t6, t7, t8, t9⟩ := bk_t G h0 h1
  obtain ⟨l1, l2, l3⟩ := G.2.2.2.2.2.2.2.2.2.2.2.1 k h0 h1 hk
  have l4 : 1 ≤ a (b + 30) k := by
    rcases l3 with ⟨z1, z2, z3, z4, _⟩ | ⟨z1, _⟩ <;> omega
  obtain ⟨F1, A1, eh, f1, f2', f3, f4⟩ := m_list2 (F := F) (J := J) hn hq h4 hs G h0 h1
  have bk : ∀ A2 : Nat → Int → Int, (∀ i, i ≠ 32 → A2 i = A i) → BK b q S K P len f a ni j A2 J ∧ Rbk b q len a A2 := by
    intro A2 h
    refine ⟨bk_eq G (fun _ _ _ => rfl) (fun _ _ _ => rfl) (fun _ _ _ => rfl) rfl (fun i i1 i2 => h i (by omega)) ⟨rfl, rfl⟩, ?_⟩
    unfold Rbk
    rw [h 2 (by decide)]
    exact hR
  have lp := lp_ix (b := gL_X11_readList_54 n 0 (qz k) (qz (a (b + 30) k))) (fun t c => ∃ F2 A2, c = (qz t, ms F2 A2 J) ∧ (∀ i, i ≠ 46 → F2 i = F i) ∧ (∀ i, i ≠ 32 → A2 i = A i) ∧ (∀ y, 1 ≤ y → y < t → ¬lbad q k (a (b + 20 + 2) (k + 1) - a (b + 20 + 2) k) (fun x => a (b + 20 + 1) (a (b + 20 + 2) k + x)) (A 13) (a (b + 17 + 1)) (a (b + 8)) (a (b + 10)) y) ∧ F2 46 = (a (b + 20 + 2) (k + 1) - a (b + 20 + 2) k) + (t - 1) ∧ ∀ x, 0 ≤ x → x < (a (b + 20 + 2) (k + 1) - a (b + 20 + 2) k) + (t - 1) → A2 32 x = gls q k (a (b + 20 + 2) (k + 1) - a (b + 20 + 2) k) (fun x => a (b + 20 + 1) (a (b + 20 + 2) k + x)) (A 13) (a (b + 17 + 1)) x) (Q := fun r => ∃ F2 A2, (∀ i, i ≠ 46 → F2 i = F i) ∧ (∀ i, i ≠ 32 → A2 i = A i) ∧ ((∃ t, r = .inl (qz t, ms F2 A2 J) ∧ 1 ≤ t ∧ t < a (b + 30) k ∧ lbad q k (a (b + 20 + 2) (k + 1) - a (b + 20 + 2) k) (fun x => a (b + 20 + 1) (a (b + 20 + 2) k + x)) (A 13) (a (b + 17 + 1)) (a (b + 8)) (a (b + 10)) t ∧ ∀ y, 1 ≤ y → y < t → ¬lbad q k (a (b + 20 + 2) (k + 1) - a (b + 20 + 2) k) (fun x => a (b + 20 + 1) (a (b + 20 + 2) k + x)) (A 13) (a (b + 17 + 1)) (a (b + 8)) (a (b + 10)) y) ∨ (r = .inr (ms F2 A2 J) ∧ (∀ y, 1 ≤ y → y < a (b + 30) k → ¬lbad q k (a (b + 20 + 2) (k + 1) - a (b + 20 + 2) k) (fun x => a (b + 20 + 1) (a (b + 20 + 2) k + x)) (A 13) (a (b + 17 + 1)) (a (b + 8)) (a (b + 10)) y) ∧ F2 46 = (a (b + 20 + 2) (k + 1) - a (b + 20 + 2) k) + (a (b + 30) k - 1) ∧ ∀ x, 0 ≤ x → x < (a (b + 20 + 2) (k + 1) - a (b + 20 + 2) k) + (a (b + 30) k - 1) → A2 32 x = gls q k (a (b + 20 + 2) (k + 1) - a (b + 20 + 2) k) (fun x => a (b + 20 + 1) (a (b + 20 + 2) k + x)) (A 13) (a (b + 17 + 1)) x))) (a (b + 30) k) (n := n) (i0 := 1) l4 (by omega) (c0 := (qz 1, ms F1 A1 J)) ⟨F1, A1, rfl, f1, f2', fun y y0 y1 => by omega, by omega, fun x x0 x1 => by
      rw [f4 x x0 (by omega)]
      unfold gls
      rw [if_pos (by omega)]⟩ ?_ ?_
  · obtain ⟨r, er, F2, A2, g1, g2, h⟩ := lp
    have e0 : g_X11_readList n 0 (qz k) (ms F A J) = Sum.elim (fun y5 => (g_X11_fails n 0 (-2 : Int32) y5.1 y5.2).bind fun x7 => (hp_bz x7.1).bind fun _ => some (x7.1, x7.2)) (fun y6 => (g_X11_at n 0 (qz k) y6).bind fun x10 => (gA y6 (gP y6 0 17) x10).bind fun x11 => if qz (a (b + 30) k) < x11 then g_X11_readList_191 n y6 else (g_X11_at n 0 (qz k) y6).bind fun x13 => (gA y6 (gP y6 0 17) x13).bind fun x14 => (g_X11_fails n 0 (-3 : Int32) x14 y6).bind fun x15 => if x15.1 = 0 then some ((0 : Int32), x15.2) else g_X11_readList_191 n x15.2) r := by
      unfold g_X11_readList g_X11_readList_0
      rw [zl0, eh, bd_some, m_listEnd hn hq (by rw [f1 4 (by decide)]; exact h4) (bk A1 f2').1 (bk A1 f2').2 h0 h1 hk hc, bd_some, zl1, er, bd_some]
    rcases h with ⟨t, rfl, u1', u2', u3, u4⟩ | ⟨rfl, u1', u2', u3⟩
    · refine ⟨u1 (u1 F2 54 (-2)) 55 t, A2, fun i i1 i2 i3 => by rw [u1_o i3, u1_o i2]; exact g1 i i1, g2, Or.inl ⟨t, u1', u2', u3, u4, ?_, by rw [u1_o (by decide), u1_s], by rw [u1_s]⟩⟩
      rw [e0, Sum.elim_inl]
      unfold g_X11_fails g_X11_fails_0
      simp only [zl0, zlm2, qz_neg]
      rw [wf_ms, bd_some, wf_ms, bd_some, bd_some, hp_bz_0, bd_some]
    · have F24 : F2 4 = q := by rw [g1 4 (by decide)]; exact h4
      rw [Sum.elim_inr, m_at F24, bd_some, gp_17, ga_14 (by omega) (by omega), g2 14 (by decide), bd_some] at e0
      by_cases c : a (b + 30) k < A 14 (200 * q + k)
      · refine ⟨F2, A2, fun i i1 i2 i3 => g1 i i1, g2, Or.inr (Or.inr ⟨u1', c, ?_, u2', u3⟩)⟩
        rw [e0, if_pos (by rw [qz_lt (by omega) (by omega) (by omega) (by omega)]; exact c)]
        rfl
      · refine ⟨u1 (u1 F2 54 (-3)) 55 (A 14 (200 * q + k)), A2, fun i i1 i2 i3 => by rw [u1_o i3, u1_o i2]; exact g1 i i1, g2, Or.inr (Or.inl ⟨u1', by omega, ?_, by rw [u1_o (by decide), u1_s], by rw [u1_s]; omega⟩)⟩
        rw [e0, if_neg (by rw [qz_lt (by omega) (by omega) (by omega) (by omega)]; exact c), bd_some, ga_14 (by omega) (by omega), g2 14 (by decide), bd_some]
        unfold g_X11_fails g_X11_fails_0
        simp only [zl0, show (-3 : Int32) = qz (-3) from rfl]
        rw [wf_ms, bd_some, wf_ms, bd_some, bd_some, if_pos rfl]
  · rintro t c u0 u1' ⟨F2, A2, rfl, g1, g2, hg, h46, h32⟩
    obtain ⟨G2, hR2⟩ := bk A2 g2
    have F24 : F2 4 = q := by rw [g1 4 (by decide)]; exact h4
    have e14 : A2 14 = A 14 := g2 14 (by decide)
    have e13 : A2 13 = A 13 := g2 13 (by decide)
    have en := m_namedBy (F := F2) (J := J) (i := t) hn hq F24 G2 hR2 h0 h1 (by omega) (by rw [e14]; omega)
    rw [e13] at en
    have hr := nmr_r G h0 h1 (i := t) (by omega) (by omega)
    have em := m_mayName (n := n) (F := F2) (r := nmr q k (A 13) (a (b + 17 + 1)) t) hq F24 G2 h0 h1 hr.1 hr.2
    obtain ⟨z1, z2, z3⟩ := gls_r G h0 h1 u0 (by omega) hg
    unfold gL_X11_readList_54 g_X11_readList_54 g_X11_readList_118
    simp only [zl0, zl1]
    rw [if_neg (by rw [qz_le (by omega) (by omega) (by omega) (by omega)]; omega), en, bd_some, show a (b + 17 + 1) (A 13 (200 * q + k) + t) = nmr q k (A 13) (a (b + 17 + 1)) t from rfl, em, bd_some]
    by_cases c : may k (a (b + 8)) (a (b + 10)) (nmr q k (A 13) (a (b + 17 + 1)) t)
    rotate_left
    · have ed : hp_lp (gL_X11_readList_79 n 0 (qz k) (qz (a (b + 30) k)) (qz t) (qz (nmr q k (A 13) (a (b + 17 + 1)) t)) (ms F2 A2 J)) n (qz 0, qz 0) = some (qz 0) := by
        obtain ⟨n, rfl⟩ : ∃ x, n = x + 1 := ⟨n - 1, by omega⟩
        apply hp_lp_x
        unfold gL_X11_readList_79 g_X11_readList_79
        simp only [zl0]
        rw [if_pos trivial, ite_self]
      rw [qp_F c, ed, bd_some, if_pos rfl]
      exact Or.inr ⟨_, rfl, F2, A2, g1, g2, Or.inl ⟨t, rfl, u0, u1', Or.inl c, hg⟩⟩
    have r0 := c.1
    rw [qp_T c, m_list79 hn h46 (by omega) (by omega) r0 (by omega) (fun x x0 x1 => by
      rw [h32 x x0 x1]
      have := z3 x x0 x1
      omega), bd_some]
    by_cases c2 : ∀ x, 0 ≤ x → x < (a (b + 20 + 2) (k + 1) - a (b + 20 + 2) k) + (t - 1) → A2 32 x ≠ nmr q k (A 13) (a (b + 17 + 1)) t
    · have nb : ¬lbad q k (a (b + 20 + 2) (k + 1) - a (b + 20 + 2) k) (fun x => a (b + 20 + 1) (a (b + 20 + 2) k + x)) (A 13) (a (b + 17 + 1)) (a (b + 8)) (a (b + 10)) t := by
        rintro (z | ⟨x, x0, x1, x2⟩)
        · exact z c
        · exact c2 x x0 x1 (by rw [h32 x x0 x1]; exact x2)
      have hg' : ∀ y, 1 ≤ y → y < t + 1 → ¬lbad q k (a (b + 20 + 2) (k + 1) - a (b + 20 + 2) k) (fun x => a (b + 20 + 1) (a (b + 20 + 2) k + x)) (A 13) (a (b + 17 + 1)) (a (b + 8)) (a (b + 10)) y := fun y y0 y1 => by
        by_cases e : y = t
        · rw [e]; exact nb
        · exact hg y y0 (by omega)
      rw [qp_T c2, if_neg n10, gp_45, gf_ms, h46, ua_32 (by omega) (by omega), bd_some, gf_ms, h46, qz_add, wf_ms, bd_some, qz_add]
      refine Or.inl ⟨_, rfl, _, _, rfl, fun i hi => by rw [u1_o hi]; exact g1 i hi, fun i hi => by rw [v2_o hi]; exact g2 i hi, hg', by rw [u1_s]; omega, fun x x0 x1 => ?_⟩
      rw [v2_s]
      by_cases e : x = (a (b + 20 + 2) (k + 1) - a (b + 20 + 2) k) + (t - 1)
      · rw [e, v1_s]
        unfold gls
        rw [if_neg (by omega), show (a (b + 20 + 2) (k + 1) - a (b + 20 + 2) k) + (t - 1) - (a (b + 20 + 2) (k + 1) - a (b + 20 + 2) k) + 1 = t by omega]
      · rw [v1_o e]; exact h32 x x0 (by omega)
    · rw [qp_F c2, if_pos rfl]
      refine Or.inr ⟨_, rfl, F2, A2, g1, g2, Or.inl ⟨t, rfl, u0, u1', Or.inr ?_, hg⟩⟩
      apply Classical.byContradiction
      intro z
      exact c2 (fun x x0 x1 x2 => z ⟨x, x0, x1, by rw [← h32 x x0 x1]; exact x2⟩)
  · rintro c ⟨F2, A2, rfl, g1, g2, hg, h46, h32⟩
    refine ⟨_, ?_, F2, A2, g1, g2, Or.inr ⟨rfl, hg, h46, h32⟩⟩
    unfold gL_X11_readList_54 g_X11_readList_54
    rw [if_pos (by rw [qz_le (by omega) (by omega) (by omega) (by omega)]; omega)]
end LI2
