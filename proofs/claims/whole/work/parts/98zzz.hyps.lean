/-! The hypotheses of an assertion, one by one: class and reference -/
section HYL
variable {n m b : Nat} {q S K P len e R s bs : Int} {f : Nat → Nat → Int} {d : Nat → Nat} {a : Nat → Int → Int} {ni : Nat → Nat} {j : Nat → Int → Int64} {F : Nat → Int} {A : Nat → Int → Int} {J : Nat → Int → Int64}
/-- h is a mandatory hypothesis of e -/
def hmem (b : Nat) (e : Int) (a : Nat → Int → Int) (h : Int) : Prop := mem (a (b + 20 + 1)) (a (b + 20 + 2) e) (a (b + 20 + 2) (e + 1)) h
/-- something stands for x, of the hypotheses before t -/
def stX (b : Nat) (q e : Int) (a : Nat → Int → Int) (A11 A16 : Int → Int) (t x : Int) : Prop := ∃ h, hmem b e a h ∧ h < t ∧ a (b + 8) h = 0 ∧ x = fsy q h A11 A16 1
theorem bk_fs {h i : Int} (G : BK b q S K P len f a ni j A J) (h0 : 0 ≤ h) (h1 : h < K) (i0 : 0 ≤ i) (i1 : i < A 12 (200 * q + h)) : a (b + 11 + 1) (a (b + 11 + 2) h + i) = fsy q h (A 11) (A 16) i := by
  obtain ⟨f1, f2', f3, f4, f5, f6, f7, f8, f9, f10, f11⟩ := bk_f G h0 h1
  exact (f7 i i0 i1).1
theorem gma_2 {t i : Int} (G : BK b q S K P len f a ni j A J) (h0 : 0 ≤ e) (h1 : e < K) (hk : 2 ≤ a (b + 8) e) (ht : hmem b e a t) (kt : a (b + 8) t = 1) (i0 : 0 ≤ i) (i1 : i < A 12 (200 * q + t)) (hv : a (b + 7) (fsy q t (A 11) (A 16) i) = 1) : stX b q e a (A 11) (A 16) t (fsy q t (A 11) (A 16) i) := by
  obtain ⟨e1, e2, e3, e4⟩ := bk_h G h0 h1
  have et := e4 t ht
  have g := (G.2.2.2.2.2.2.2.1 e h0 h1 hk).2 t ht kt i i0 i1
  rw [bk_fs G et.1 (by omega) i0 i1] at g
  obtain ⟨h, hh, hlt, kh, eh⟩ := g hv
  have hr := e4 h hh
  have f11 := (bk_f G hr.1 (by omega)).2.2.2.2.2.2.2.2.2.2
  have gk := G.2.2.2.1 h hr.1 (by omega)
  rw [bk_fs G hr.1 (by omega) (by omega) (by have := f11 (by omega); omega)] at eh
  exact ⟨h, hh, hlt, kh, eh.symm⟩
theorem gma_1 {i : Int} (G : BK b q S K P len f a ni j A J) (h0 : 0 ≤ e) (h1 : e < K) (hk : 2 ≤ a (b + 8) e) (i0 : 0 ≤ i) (i1 : i < A 12 (200 * q + e)) (hv : a (b + 7) (fsy q e (A 11) (A 16) i) = 1) : stX b q e a (A 11) (A 16) e (fsy q e (A 11) (A 16) i) := by
  obtain ⟨e1, e2, e3, e4⟩ := bk_h G h0 h1
  have g := (G.2.2.2.2.2.2.2.1 e h0 h1 hk).1 i i0 i1
  rw [bk_fs G h0 h1 i0 i1] at g
  obtain ⟨h, hh, kh, eh⟩ := g hv
  have hr := e4 h hh
  have f11 := (bk_f G hr.1 (by omega)).2.2.2.2.2.2.2.2.2.2
  have gk := G.2.2.2.1 h hr.1 (by omega)
  rw [bk_fs G hr.1 (by omega) (by omega) (by have := f11 (by omega); omega)] at eh
  exact ⟨h, hh, hr.2.1, kh, eh.symm⟩
theorem hyp_loop (hn : 100000 ≤ n) (hm : mch m) (hb : bks b) (hd : d (mi m) = b) (hq : 0 ≤ q ∧ q ≤ 1) (h4 : F 4 = q) (G : BK b q S K P len f a ni j A J) (h0 : 0 ≤ e) (h1 : e < K) (hk : 2 ≤ a (b + 8) e) (SK : RWL (m + 1) 32768 R S f a ni (A 38) (A 37)) (hR : R ≤ 100) {N : Int} (hN : a (b + 20 + 2) (e + 1) - a (b + 20 + 2) e = N) (hbs : bs = R - N) (b0 : 0 ≤ bs) {v1 v4 : Int32} : ∃ (a2 A2 : Nat → Int → Int), (∀ i, i ≠ m + 7 → a2 i = a i) ∧ (∀ i, i ≠ 42 → i ≠ 43 → A2 i = A i) ∧ ((hp_lp (gL_X1_apply_32 n m (qz e) (qz N) (qz bs)) n (qz 0, cs f d a ni j) = some (.inl (cs f d a2 ni j)) ∧ hp_lp (gL_X11_pushAssertion_40 n 0 v1 (qz s) (qz e) v4 (qz bs)) n (qz bs, qz 0, ms F A J) = some (.inl (ms F A2 J)) ∧ ∀ x, stX b q e a (A 11) (A 16) e x → a2 (m + 7) x = A2 43 x ∧ 0 ≤ A2 43 x ∧ A2 43 x < R) ∨ ∃ z, (z = -5 ∨ z = -6) ∧ hp_lp (gL_X1_apply_32 n m (qz e) (qz N) (qz bs)) n (qz 0, cs f d a ni j) = some (.inr (qz z, cs f d a2 ni j)) ∧ hp_lp (gL_X11_pushAssertion_40 n 0 v1 (qz s) (qz e) v4 (qz bs)) n (qz bs, qz 0, ms F A J) = some (.inr (qz 0, ms (u1 (u1 F 54 z) 55 s) A2 J))) := by
  have hbb : b = 1 ∨ b = 33 := hb
  have hmm : m = 83 ∨ m = 93 := hm
  have hK : K ≤ 200 := G.2.1.2.2.2.1
  obtain ⟨e1, e2, e3, e4⟩ := bk_h G h0 h1
  have grw := G.2.2.2.2.2.2.2.2.2.2.2.2.2
  have lp := lp_ix (b := gL_X11_pushAssertion_40 n 0 v1 (qz s) (qz e) v4 (qz bs)) (fun t c => ∃ (k : Int) (a2 A2 : Nat → Int → Int), c = (qz (bs + k), qz t, ms F A2 J) ∧ cnt (a (b + 20 + 1)) (a (b + 20 + 2) e) (a (b + 20 + 2) (e + 1)) t k ∧ (∀ i, i ≠ m + 7 → a2 i = a i) ∧ (∀ i, i ≠ 42 → i ≠ 43 → A2 i = A i) ∧ (∀ x, stX b q e a (A 11) (A 16) t x → a2 (m + 7) x = A2 43 x ∧ 0 ≤ A2 43 x ∧ A2 43 x < R) ∧ hp_lp (gL_X1_apply_32 n m (qz e) (qz N) (qz bs)) n (qz 0, cs f d a ni j) = hp_lp (gL_X1_apply_32 n m (qz e) (qz N) (qz bs)) (n - k.toNat) (qz k, cs f d a2 ni j)) (Q := fun r => ∃ (a2 A2 : Nat → Int → Int), (∀ i, i ≠ m + 7 → a2 i = a i) ∧ (∀ i, i ≠ 42 → i ≠ 43 → A2 i = A i) ∧ ((hp_lp (gL_X1_apply_32 n m (qz e) (qz N) (qz bs)) n (qz 0, cs f d a ni j) = some (.inl (cs f d a2 ni j)) ∧ r = .inl (ms F A2 J) ∧ ∀ x, stX b q e a (A 11) (A 16) e x → a2 (m + 7) x = A2 43 x ∧ 0 ≤ A2 43 x ∧ A2 43 x < R) ∨ ∃ z, (z = -5 ∨ z = -6) ∧ hp_lp (gL_X1_apply_32 n m (qz e) (qz N) (qz bs)) n (qz 0, cs f d a ni j) = some (.inr (qz z, cs f d a2 ni j)) ∧ r = .inr (qz 0, ms (u1 (u1 F 54 z) 55 s) A2 J))) e (n := n) (i0 := 0) h0 (by omega) (c0 := (qz bs, qz 0, ms F A J)) ⟨0, a, A, by rw [Int.add_zero], cnt_0 e2 (fun x hx => (e4 x hx).1), fun _ _ => rfl, fun _ _ _ => rfl, fun x ⟨h, h1', h2', _⟩ => by have := e4 h h1'; omega, rfl⟩ ?_ ?_
  · obtain ⟨r, er, a2, A2, g1, g2, h⟩ := lp
    refine ⟨a2, A2, g1, g2, ?_⟩
    rcases h with ⟨x1, rfl, x2⟩ | ⟨z, x1, x2, rfl⟩
    · exact Or.inl ⟨x1, er, x2⟩
    · exact Or.inr ⟨z, x1, x2, er⟩
  · rintro t c t0 t1 ⟨k, a2, A2, rfl, hc, g1, g2, hX, hRA⟩
    have k0 := hc.1
    have k1 := hc.2.1
    by_cases cb : bt (J 20) (4 * (200 * q + e)) t
    rotate_left
    · have hnm : ¬hmem b e a t := fun y => cb ((e3 t t0 (by omega)).mp y)
      refine Or.inl ⟨_, ?_, k, a2, A2, rfl, cnt_o1 hc hnm, g1, g2, fun x ⟨h, h1', h2', h3'⟩ => hX x ⟨h, h1', ?_, h3'⟩, hRA⟩
      · unfold gL_X11_pushAssertion_40 g_X11_pushAssertion_40 g_X11_pushAssertion_77
        simp only [zl0, zl1]
        rw [if_neg (by rw [qz_le (by omega) (by omega) (by omega) (by omega)]; omega), gp_23, m_isBit (Or.inr rfl) h4 hq h0 (by omega) t0 (by omega), bd_some, qp_F cb, if_pos rfl, qz_add]
      · by_cases y : h = t
        · rw [y] at h1'; exact absurd h1' hnm
        · omega
    have hmt : hmem b e a t := (e3 t t0 (by omega)).mpr cb
    obtain ⟨c1, c2, c3⟩ := cnt_in e1 hc hmt
    have et := e4 t hmt
    have G2 : BK b q S K P len f a2 ni j A2 J := bk_eq G (fun _ _ _ => rfl) (fun i i1 i2 => g1 i (by omega)) (fun _ _ _ => rfl) rfl (fun i i1 i2 => g2 i (by omega) (by omega)) ⟨rfl, rfl⟩
    have SK2 : RWL (m + 1) 32768 R S f a2 ni (A2 38) (A2 37) := by
      unfold RWL
      rw [g1 (m + 1 + 2) (by omega), g1 (m + 1 + 1) (by omega), g2 38 (by decide) (by decide), g2 37 (by decide) (by decide)]
      exact SK
    have o8 : a2 (b + 8) = a (b + 8) := g1 _ (by omega)
    have o7 : a2 (b + 7) = a (b + 7) := g1 _ (by omega)
    have o11 : A2 11 = A 11 := g2 11 (by decide) (by decide)
    have o12 : A2 12 = A 12 := g2 12 (by decide) (by decide)
    have o16 : A2 16 = A 16 := g2 16 (by decide) (by decide)
    have F24 := h4
    obtain ⟨a3, A3, f1, f2, h3⟩ := fit_step (n := n) (s := s) (h := t) (r := bs + k) (X := stX b q e a (A 11) (A 16) t) hn hm hb hd hq h4 G2 t0 (by omega) (by rw [o8]; exact et.2.2) SK2 hR (by omega) (by omega) hX (by
      rw [o8, o7, o11, o12, o16]
      exact fun kt i i0 i1 hv => gma_2 G h0 h1 hk hmt kt i0 i1 hv)
    have g1' : ∀ i, i ≠ m + 7 → a3 i = a i := fun i hi => by rw [f1 i hi]; exact g1 i hi
    have g2' : ∀ i, i ≠ 42 → i ≠ 43 → A3 i = A i := fun i i1 i2 => by rw [f2 i i1 i2]; exact g2 i i1 i2
    have eg : g_X5_get n (b + 20) (qz e) (qz k) (cs f d a2 ni j) = some (qz t) := by
      rw [c_get (rws_b20 hb) (M := 32768) (by rw [g1 (b + 20 + 2) (by omega)]; exact grw.2.2.2.1) h0 (by rw [grw.2.2.2.2.2.2.2.2.2.1]; exact h1) k0 (by rw [g1 (b + 20 + 2) (by omega)]; omega), g1 (b + 20 + 2) (by omega), g1 (b + 20 + 1) (by omega), c3]
    have en : n - k.toNat = n - (k + 1).toNat + 1 := by omega
    have eC : gL_X1_apply_32 n m (qz e) (qz N) (qz bs) (qz k, cs f d a2 ni j) = (g_X1_fit n m (qz t) (qz (bs + k)) (cs f d a2 ni j)).bind fun x4 => if x4.1 = qz 0 then some (.inl (qz (k + 1), x4.2)) else some (.inr (.inr (x4.1, x4.2))) := by
      unfold gL_X1_apply_32 g_X1_apply_32
      simp only [zl0, zl1]
      rw [if_neg (by rw [qz_le (by omega) (by omega) (by omega) (by omega)]; omega), gpm_2 hm, hd, gpb_12 hb, eg, bd_some, qz_add, qz_add]
    have eM : gL_X11_pushAssertion_40 n 0 v1 (qz s) (qz e) v4 (qz bs) (qz (bs + k), qz t, ms F A2 J) = (g_X11_meets n 0 (qz s) (qz t) (qz (bs + k)) (ms F A2 J)).bind fun x3 => if x3.1 = qz 0 then some (.inr (.inr (qz 0, x3.2))) else some (.inl (qz (bs + (k + 1)), qz (t + 1), x3.2)) := by
      unfold gL_X11_pushAssertion_40 g_X11_pushAssertion_40 g_X11_pushAssertion_77
      simp only [zl0, zl1]
      rw [if_neg (by rw [qz_le (by omega) (by omega) (by omega) (by omega)]; omega), gp_23, m_isBit (Or.inr rfl) h4 hq h0 (by omega) t0 (by omega), bd_some, qp_T cb, if_neg n10, qz_add, qz_add, Int.add_assoc]
    rcases h3 with ⟨x1, x2, x3⟩ | ⟨z, x1, x2, x3⟩
    · rw [x1, bd_some] at eC
      rw [x2, bd_some] at eM
      have eC' : gL_X1_apply_32 n m (qz e) (qz N) (qz bs) (qz k, cs f d a2 ni j) = some (.inl (qz (k + 1), cs f d a3 ni j)) := by rw [eC]; exact if_pos rfl
      have eM' : gL_X11_pushAssertion_40 n 0 v1 (qz s) (qz e) v4 (qz bs) (qz (bs + k), qz t, ms F A2 J) = some (.inl (qz (bs + (k + 1)), qz (t + 1), ms F A3 J)) := by rw [eM]; exact if_neg n10
      refine Or.inl ⟨_, eM', k + 1, a3, A3, rfl, c1, g1', g2', fun x ⟨h, h1', h2', h3', h4'⟩ => x3 x ?_, ?_⟩
      · by_cases y : h = t
        · right
          rw [o8, o11, o16, ← y]
          exact ⟨h3', h4'⟩
        · exact Or.inl ⟨h, h1', by omega, h3', h4'⟩
      · rw [hRA, en, lp_st eC']
    · rw [x2, bd_some] at eC
      rw [x3, bd_some] at eM
      have eC' : gL_X1_apply_32 n m (qz e) (qz N) (qz bs) (qz k, cs f d a2 ni j) = some (.inr (.inr (qz z, cs f d a3 ni j))) := by
        rw [eC]
        exact if_neg (by rw [qz_inj (by omega) (by omega) (by omega) (by omega)]; omega)
      have eM' : gL_X11_pushAssertion_40 n 0 v1 (qz s) (qz e) v4 (qz bs) (qz (bs + k), qz t, ms F A2 J) = some (.inr (.inr (qz 0, ms (u1 (u1 F 54 z) 55 s) A3 J))) := by rw [eM]; exact if_pos rfl
      exact Or.inr ⟨_, eM', a3, A3, g1', g2', Or.inr ⟨z, x1, by rw [hRA, en, hp_lp_x eC'], rfl⟩⟩
  · rintro c ⟨k, a2, A2, rfl, hc, g1, g2, hX, hRA⟩
    have ek := cnt_end hc (fun x hx => (e4 x hx).2.1)
    have k0 := hc.1
    have en : n - k.toNat = n - k.toNat - 1 + 1 := by omega
    refine ⟨.inl (ms F A2 J), ?_, a2, A2, g1, g2, Or.inl ⟨?_, rfl, hX⟩⟩
    · unfold gL_X11_pushAssertion_40 g_X11_pushAssertion_40
      rw [if_pos (by rw [qz_le (by omega) (by omega) (by omega) (by omega)]; omega)]
    · rw [hRA, en, hp_lp_x]
      unfold gL_X1_apply_32 g_X1_apply_32
      rw [if_pos (by rw [qz_le (by omega) (by omega) (by omega) (by omega)]; omega)]
end HYL
