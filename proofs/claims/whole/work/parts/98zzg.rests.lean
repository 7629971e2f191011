/-! rests -/
theorem cn_T {p : Int → Prop} {t : Int} (h0 : 0 ≤ t) (h : p t) : cn p (t + 1).toNat = cn p t.toNat + 1 := by
  rw [show (t + 1).toNat = t.toNat + 1 by omega]
  have e : cn p (t.toNat + 1) = cn p t.toNat + @ite _ (p (t.toNat : Nat)) (Classical.propDecidable _) 1 0 := rfl
  rw [e, if_pos (by rw [show ((t.toNat : Nat) : Int) = t by omega]; exact h)]
theorem cn_F {p : Int → Prop} {t : Int} (h0 : 0 ≤ t) (h : ¬p t) : cn p (t + 1).toNat = cn p t.toNat := by
  rw [show (t + 1).toNat = t.toNat + 1 by omega]
  have e : cn p (t.toNat + 1) = cn p t.toNat + @ite _ (p (t.toNat : Nat)) (Classical.propDecidable _) 1 0 := rfl
  rw [e, if_neg (by rw [show ((t.toNat : Nat) : Int) = t by omega]; exact h), Int.add_zero]
theorem cn_m {p : Int → Prop} (m k : Nat) : cn p m ≤ cn p (m + k) := by
  induction k with
  | zero => exact Int.le_refl _
  | succ k ih =>
    have e : cn p (m + k + 1) = cn p (m + k) + @ite _ (p ((m + k : Nat) : Int)) (Classical.propDecidable _) 1 0 := rfl
    rw [show m + (k + 1) = m + k + 1 from rfl, e]
    by_cases h : p ((m + k : Nat) : Int)
    · rw [if_pos h]; omega
    · rw [if_neg h]; omega
theorem cn_mi {p : Int → Prop} {s t : Int} (h0 : 0 ≤ s) (h : s ≤ t) : cn p s.toNat ≤ cn p t.toNat := by
  have := cn_m (p := p) s.toNat (t - s).toNat
  rw [show s.toNat + (t - s).toNat = t.toNat by omega] at this
  exact this
/-- the i-th of the numbers below k -/
def nth (p : Int → Prop) (k i : Int) (r : Int32) : Prop := (∃ s, r = qz s ∧ 0 ≤ s ∧ s < k ∧ p s ∧ cn p s.toNat = i) ∨ (r = qz (-2) ∧ (i < 0 ∨ cn p k.toNat ≤ i))
theorem nth_1 {p : Int → Prop} {k i : Int} {r r2 : Int32} (h : nth p k i r) (h2 : nth p k i r2) : r = r2 := by
  have key : ∀ s, 0 ≤ s → s < k → p s → cn p s.toNat + 1 ≤ cn p k.toNat := by
    intro s s0 s1 hs
    rw [← cn_T s0 hs]
    exact cn_mi (by omega) (by omega)
  rcases h with ⟨s, rfl, s0, s1, hs, es⟩ | ⟨rfl, e⟩
  · rcases h2 with ⟨t, rfl, t0, t1, ht, et⟩ | ⟨rfl, e⟩
    · by_cases c : s = t
      · rw [c]
      · exfalso
        by_cases c2 : s < t
        · have h1 := cn_T s0 hs
          have h2 := cn_mi (p := p) (s := s + 1) (t := t) (by omega) (by omega)
          omega
        · have h1 := cn_T t0 ht
          have h2 := cn_mi (p := p) (s := t + 1) (t := s) (by omega) (by omega)
          omega
    · exfalso
      have := key s s0 s1 hs
      have := (cn_le p s.toNat).1
      omega
  · rcases h2 with ⟨t, rfl, t0, t1, ht, et⟩ | ⟨rfl, _⟩
    · exfalso
      have := key t t0 t1 ht
      have := (cn_le p t.toNat).1
      omega
    · rfl
theorem nth_c {p p2 : Int → Prop} {k i : Int} {r : Int32} (hk : 0 ≤ k) (h : nth p k i r) (e : ∀ x, 0 ≤ x → x < k → (p2 x ↔ p x)) : nth p2 k i r := by
  have ec : ∀ t, 0 ≤ t → t ≤ k → cn p2 t.toNat = cn p t.toNat := fun t t0 t1 => cn_congr (fun y y0 y1 => e y y0 (by omega))
  rcases h with ⟨s, h1, s0, s1, hs, es⟩ | ⟨h1, h2⟩
  · exact Or.inl ⟨s, h1, s0, s1, (e s s0 s1).mpr hs, by rw [ec s s0 (by omega)]; exact es⟩
  · refine Or.inr ⟨h1, ?_⟩
    rw [ec k hk (Int.le_refl _)]
    exact h2
section RST
variable {b n : Nat} {q S K P len k x y i : Int} {f : Nat → Nat → Int} {d : Nat → Nat} {a : Nat → Int → Int} {ni : Nat → Nat} {j : Nat → Int → Int64} {F : Nat → Int} {A : Nat → Int → Int} {J : Nat → Int → Int64}
theorem c_axUnder (hn : 100000 ≤ n) (hb : bks b) (h0 : 0 ≤ k) (h1 : k < 200) (i1 : -2147483648 ≤ i) (i2 : i < 2147483648) : ∃ r, g_X0_axiomUnder n b (qz k) (qz i) (cs f d a ni j) = some r ∧ nth (bt (j (b + 31)) (k * 4)) k i r := by
  unfold g_X0_axiomUnder g_X0_axiomUnder_0
  by_cases c : i < 0
  · refine ⟨qz (-2), ?_, Or.inr ⟨rfl, Or.inl c⟩⟩
    have e : hp_lp (gL_X0_axiomUnder_5 n b (qz k) (cs f d a ni j)) n (qz i, (0 : Int32)) = some (qz (-2)) := by
      obtain ⟨n, rfl⟩ : ∃ x, n = x + 1 := ⟨n - 1, by omega⟩
      apply hp_lp_x
      unfold gL_X0_axiomUnder_5 g_X0_axiomUnder_5
      simp only [zl0, zlm2, qz_neg]
      by_cases ck : k ≤ 0
      · rw [if_pos (by rw [qz_le (by omega) (by omega) (by omega) (by omega)]; exact ck)]
      · rw [if_neg (by rw [qz_le (by omega) (by omega) (by omega) (by omega)]; exact ck), if_pos (by rw [qz_lt (by omega) (by omega) (by omega) (by omega)]; exact c)]
    rw [e, bd_some]
  have lp := lp_ix (b := gL_X0_axiomUnder_5 n b (qz k) (cs f d a ni j)) (fun t c => c = (qz (i - cn (bt (j (b + 31)) (k * 4)) t.toNat), qz t) ∧ cn (bt (j (b + 31)) (k * 4)) t.toNat ≤ i) (Q := fun r => nth (bt (j (b + 31)) (k * 4)) k i r) k (n := n) (i0 := 0) h0 (by omega) (c0 := (qz i, qz 0)) ⟨by rw [show cn (bt (j (b + 31)) (k * 4)) (0 : Int).toNat = 0 from rfl, Int.sub_zero], by show (0 : Int) ≤ i; omega⟩ ?_ ?_
  · obtain ⟨r, e, h⟩ := lp
    exact ⟨r, by rw [zl0, e, bd_some], h⟩
  · rintro t c t0 t1 ⟨rfl, hc⟩
    have hr := cn_le (bt (j (b + 31)) (k * 4)) t.toNat
    have hz : (lg_cmp (((Int64.toUInt64 (j (b + 31) (k * 4 + t / 64)) >>> (Int64.toUInt64 (Int32.toInt64 (qz (t - t / 64 * 64))) &&& Int64.toUInt64 63)).toInt64) &&& (1 : Int64)) (0 : Int64) = 0) = ¬bt (j (b + 31)) (k * 4) t := bt_t0 (by omega) (by omega) _
    unfold gL_X0_axiomUnder_5 g_X0_axiomUnder_5 g_X0_axiomUnder_56
    simp only [zl4, zl64]
    rw [if_neg (by rw [qz_le (by omega) (by omega) (by omega) (by omega)]; omega), if_neg (by rw [zl0, qz_lt (by omega) (by omega) (by omega) (by omega)]; omega), qz_div (by omega) (by omega) (by omega) (by omega), qz_mul, qz_add, gpb_17 hb, gjb_31 hb (by omega) (by omega), bd_some, qz_mul, qz_sub]
    by_cases y : bt (j (b + 31)) (k * 4) t
    · rw [if_neg (by rw [hz]; exact fun z => z y)]
      have e1 := cn_T t0 y
      by_cases y2 : cn (bt (j (b + 31)) (k * 4)) t.toNat = i
      · rw [if_pos (by rw [y2, Int.sub_self]; rfl)]
        exact Or.inr ⟨_, rfl, Or.inl ⟨t, rfl, t0, t1, y, y2⟩⟩
      · rw [if_neg (by rw [zl0, qz_inj (by omega) (by omega) (by omega) (by omega)]; omega), zlm1, zl1, qz_add, qz_add]
        exact Or.inl ⟨_, rfl, by rw [e1, show i - cn (bt (j (b + 31)) (k * 4)) t.toNat + -1 = i - (cn (bt (j (b + 31)) (k * 4)) t.toNat + 1) by omega], by omega⟩
    · have e1 := cn_F t0 y
      rw [if_pos (by rw [hz]; exact y), zl1, qz_add]
      exact Or.inl ⟨_, rfl, by rw [e1], by omega⟩
  · rintro c ⟨rfl, hc⟩
    refine ⟨qz (-2), ?_, Or.inr ⟨rfl, Or.inr hc⟩⟩
    unfold gL_X0_axiomUnder_5 g_X0_axiomUnder_5
    rw [if_pos (by rw [qz_le (by omega) (by omega) (by omega) (by omega)]; omega)]
    rfl
/-- a parenthesis names nothing -/
theorem nm_par (G : BK b q S K P len f a ni j A J) (h0 : 0 ≤ k) (h1 : k < K) (hk : a (b + 8) k = 3) (hc : a (b + 29) k = 1) : a (b + 17 + 1) (A 13 (200 * q + k) + 0) < 0 := by
  obtain ⟨t1, t2, t3, t4, t5, t6, t7, t8, t9⟩ := bk_t G h0 h1
  have gfm := G.2.2.2.2.2.2.2.2.2.2.2.1 k h0 h1 hk
  rw [t1] at gfm
  rcases gfm.2.2 with ⟨z1, z2, z3, _⟩ | ⟨z1, _⟩
  · obtain ⟨g1, ⟨u1', u2', u3, u4, u5⟩, g3, g4⟩ := t9 0 (by omega) z2
    simp only [Int.add_zero] at g1 g3 u2' ⊢
    unfold one at z3
    rw [g1] at z3
    rcases g3 with ⟨r1, r2⟩ | ⟨r1, r2, r3⟩
    · omega
    · exfalso
      have gl := G.2.2.1 _ r1 (by omega) 0 (by omega) (by rw [r3.1]; omega)
      have e := r3.2 0 (by omega) (by omega)
      rw [e, Int.add_zero, z3.2] at gl
      unfold lch at gl
      omega
  · omega
theorem m_rest40 {lo hi : Int} (hn : 100000 ≤ n) (hq : 0 ≤ q ∧ q ≤ 1) (h4 : F 4 = q) (G : BK b q S K P len f a ni j A J) (hR : Rbk b q len a A) (h0 : 0 ≤ k) (h1 : k < K) (l0 : 0 ≤ lo) (l1 : lo ≤ hi) (l2 : hi ≤ A 14 (200 * q + k)) (hv : ∀ x, 0 ≤ x → x < 200 → A 59 x = 0 ∨ A 59 x = 1) : ∃ R : Int → Int, hp_lp (gL_X11_restOn_40 n 0 (qz k) (qz hi)) n (qz lo, ms F A J) = some (ms F (u1 A 59 R) J) ∧ ∀ x, 0 ≤ x → x < 200 → (R x = 0 ∨ R x = 1) ∧ (R x = 1 ↔ A 59 x = 1 ∨ ∃ i, lo ≤ i ∧ i < hi ∧ a (b + 17 + 1) (A 13 (200 * q + k) + i) = x) := by
  have hK : K ≤ 200 := G.2.1.2.2.2.1
  obtain ⟨t1, t2, t3, t4, t5, t6, t7, t8, t9⟩ := bk_t G h0 h1
  have lp := lp_inv (b := gL_X11_restOn_40 n 0 (qz k) (qz hi)) (fun t c => ∃ R : Int → Int, c = (qz t, ms F (u1 A 59 R) J) ∧ ∀ x, 0 ≤ x → x < 200 → (R x = 0 ∨ R x = 1) ∧ (R x = 1 ↔ A 59 x = 1 ∨ ∃ i, lo ≤ i ∧ i < t ∧ a (b + 17 + 1) (A 13 (200 * q + k) + i) = x)) (Q := fun s => ∃ R : Int → Int, s = ms F (u1 A 59 R) J ∧ ∀ x, 0 ≤ x → x < 200 → (R x = 0 ∨ R x = 1) ∧ (R x = 1 ↔ A 59 x = 1 ∨ ∃ i, lo ≤ i ∧ i < hi ∧ a (b + 17 + 1) (A 13 (200 * q + k) + i) = x)) hi (n := n) (i0 := lo) l1 (by omega) (c0 := (qz lo, ms F A J)) ⟨A 59, by rw [u1_id rfl], fun x x0 x1 => ⟨hv x x0 x1, ⟨fun z => Or.inl z, fun z => by
      rcases z with z | ⟨i, i0, i1, _⟩
      · exact z
      · omega⟩⟩⟩ ?_ ?_
  · obtain ⟨s, es, R, rfl, h⟩ := lp
    exact ⟨R, es, h⟩
  · rintro t c t0 t1' ⟨R, rfl, h⟩
    have e := m_namedBy (F := F) (A := u1 A 59 R) (J := J) (i := t) hn hq h4 (bk_eq G (fun _ _ _ => rfl) (fun _ _ _ => rfl) (fun _ _ _ => rfl) rfl (fun i i1 i2 => u1_o (by omega)) ⟨rfl, rfl⟩) (by unfold Rbk; rw [u1_o (by decide)]; exact hR) h0 h1 (by omega) (by rw [u1_o (by decide)]; omega)
    rw [u1_o (by decide)] at e
    obtain ⟨g1, g2, g3, g4⟩ := t9 t (by omega) (by omega)
    have hr : -1 ≤ a (b + 17 + 1) (A 13 (200 * q + k) + t) ∧ a (b + 17 + 1) (A 13 (200 * q + k) + t) < k := by
      rcases g3 with ⟨z, _⟩ | ⟨z, z2, _⟩ <;> omega
    by_cases c : a (b + 17 + 1) (A 13 (200 * q + k) + t) < 0
    · refine ⟨_, ?_, R, rfl, fun x x0 x1 => ⟨(h x x0 x1).1, ?_⟩⟩
      · unfold gL_X11_restOn_40 g_X11_restOn_40 g_X11_restOn_68
        simp only [zl0, zl1]
        rw [if_neg (by rw [qz_le (by omega) (by omega) (by omega) (by omega)]; omega), e, bd_some, if_pos (by rw [qz_lt (by omega) (by omega) (by omega) (by omega)]; exact c), qz_add]
      · rw [(h x x0 x1).2]
        constructor
        · rintro (z | ⟨i, i0, i1, i2⟩)
          · exact Or.inl z
          · exact Or.inr ⟨i, i0, by omega, i2⟩
        · rintro (z | ⟨i, i0, i1, i2⟩)
          · exact Or.inl z
          · by_cases y : i = t
            · rw [y] at i2; omega
            · exact Or.inr ⟨i, i0, by omega, i2⟩
    · refine ⟨_, ?_, v1 R (a (b + 17 + 1) (A 13 (200 * q + k) + t)) 1, rfl, fun x x0 x1 => ?_⟩
      · unfold gL_X11_restOn_40 g_X11_restOn_40 g_X11_restOn_68
        simp only [zl0, zl1]
        rw [if_neg (by rw [qz_le (by omega) (by omega) (by omega) (by omega)]; omega), e, bd_some, if_neg (by rw [qz_lt (by omega) (by omega) (by omega) (by omega)]; exact c), gp_83, ua_59 (by omega) (by omega) (Or.inr rfl), bd_some, qz_add, v2_u1, u1_s, u1_1]
      · by_cases y : x = a (b + 17 + 1) (A 13 (200 * q + k) + t)
        · rw [y, v1_s]
          exact ⟨Or.inr rfl, fun _ => Or.inr ⟨t, t0, by omega, rfl⟩, fun _ => rfl⟩
        · rw [v1_o y]
          refine ⟨(h x x0 x1).1, ?_⟩
          rw [(h x x0 x1).2]
          constructor
          · rintro (z | ⟨i, i0, i1, i2⟩)
            · exact Or.inl z
            · exact Or.inr ⟨i, i0, by omega, i2⟩
          · rintro (z | ⟨i, i0, i1, i2⟩)
            · exact Or.inl z
            · by_cases y' : i = t
              · rw [y'] at i2; omega
              · exact Or.inr ⟨i, i0, by omega, i2⟩
  · rintro c ⟨R, rfl, h⟩
    refine ⟨_, ?_, R, rfl, h⟩
    unfold gL_X11_restOn_40 g_X11_restOn_40
    rw [if_pos (by rw [qz_le (by omega) (by omega) (by omega) (by omega)]; omega)]
theorem m_restOn (hn : 100000 ≤ n) (hq : 0 ≤ q ∧ q ≤ 1) (h4 : F 4 = q) (G : BK b q S K P len f a ni j A J) (hR : Rbk b q len a A) (h0 : 0 ≤ k) (h1 : k < K) (hk : a (b + 8) k = 3) (hv : ∀ x, 0 ≤ x → x < 200 → A 59 x = 0 ∨ A 59 x = 1) : ∃ R : Int → Int, g_X11_restOn n 0 (qz k) (ms F A J) = some (ms F (u1 A 59 R) J) ∧ ∀ x, 0 ≤ x → x < 200 → (R x = 0 ∨ R x = 1) ∧ (R x = 1 ↔ A 59 x = 1 ∨ ∃ i, 0 ≤ i ∧ i < a (b + 30) k ∧ a (b + 17 + 1) (A 13 (200 * q + k) + i) = x) := by
  have hK : K ≤ 200 := G.2.1.2.2.2.1
  have gfm := G.2.2.2.2.2.2.2.2.2.2.2.1 k h0 h1 hk
  obtain ⟨l1, l2, l3⟩ := gfm
  unfold g_X11_restOn g_X11_restOn_0 g_X11_restOn_28 g_X11_restOn_38
  rw [m_compr hq h4 G hR h0 h1 hk, bd_some]
  simp only [zl0, zl1]
  by_cases c : a (b + 29) k = 1
  · rw [qp_T c, if_neg n10, m_listEnd hn hq h4 G hR h0 h1 hk c, bd_some, if_neg n10]
    have l4 : 1 ≤ a (b + 30) k := by
      rcases l3 with ⟨z1, z2, z3, z4, _⟩ | ⟨z1, _⟩ <;> omega
    obtain ⟨R, eR, hR'⟩ := m_rest40 (lo := 1) hn hq h4 G hR h0 h1 (by omega) l4 l2 hv
    refine ⟨R, by rw [eR, bd_some], fun x x0 x1 => ⟨(hR' x x0 x1).1, ?_⟩⟩
    rw [(hR' x x0 x1).2]
    constructor
    · rintro (z | ⟨i, i0, i1, i2⟩)
      · exact Or.inl z
      · exact Or.inr ⟨i, by omega, i1, i2⟩
    · rintro (z | ⟨i, i0, i1, i2⟩)
      · exact Or.inl z
      · by_cases y : i = 0
        · rw [y] at i2
          have := nm_par G h0 h1 hk c
          omega
        · exact Or.inr ⟨i, by omega, i1, i2⟩
  · have l4 : a (b + 30) k = A 14 (200 * q + k) := by
      rcases l3 with ⟨z1, _⟩ | ⟨z1, z2, z3⟩
      · exact absurd z1 c
      · exact z3
    rw [qp_F c, if_pos rfl, m_at h4, bd_some, gp_17, ga_14 (by omega) (by omega), bd_some, if_pos rfl, ← l4]
    obtain ⟨R, eR, hR'⟩ := m_rest40 (lo := 0) hn hq h4 G hR h0 h1 (by omega) l1 l2 hv
    exact ⟨R, by rw [eR, bd_some], hR'⟩
end RST
