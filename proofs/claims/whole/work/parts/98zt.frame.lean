/-! The frame of an assertion: class and reference -/
theorem lp_ix {S X : Type} {b : S → Option (S ⊕ X)} (I : Int → S → Prop) {Q : X → Prop} (m : Int) {n : Nat} {i0 : Int} (h0 : i0 ≤ m) (hn : m - i0 < n) {c0 : S} (hI : I i0 c0) (hs : ∀ i c, i0 ≤ i → i < m → I i c → (∃ c2, b c = some (.inl c2) ∧ I (i + 1) c2) ∨ ∃ x, b c = some (.inr x) ∧ Q x) (he : ∀ c, I m c → ∃ x, b c = some (.inr x) ∧ Q x) : ∃ x, hp_lp b n c0 = some x ∧ Q x := by
  have key : ∀ (d : Nat) (i : Int) (n : Nat) (c : S), i0 ≤ i → i + d = m → d < n → I i c → ∃ x, hp_lp b n c = some x ∧ Q x := by
    intro d
    induction d with
    | zero =>
      intro i n c h1 h2 h3 h4
      obtain ⟨n, rfl⟩ : ∃ k, n = k + 1 := ⟨n - 1, by omega⟩
      have : i = m := by omega
      subst this
      obtain ⟨x, e, hx⟩ := he c h4
      exact ⟨x, hp_lp_x e, hx⟩
    | succ d ih =>
      intro i n c h1 h2 h3 h4
      obtain ⟨n, rfl⟩ : ∃ k, n = k + 1 := ⟨n - 1, by omega⟩
      rcases hs i c h1 (by omega) h4 with ⟨c2, e, h5⟩ | ⟨x, e, hx⟩
      · obtain ⟨x, e2, hx⟩ := ih (i + 1) n c2 (by omega) (by omega) (by omega) h5
        exact ⟨x, hp_lp_s e e2, hx⟩
      · exact ⟨x, hp_lp_x e, hx⟩
  exact key (m - i0).toNat i0 n c0 (by omega) (by omega) (by omega) hI
theorem lp_hit {S X : Type} {b : S → Option (S ⊕ X)} (c c1 : Int → S) (xx : Prop → X) (p : Int → Prop) {n : Nat} {lo : Int} (hi : Int) (h0 : lo ≤ hi) (hn : hi - lo + 1 < n) (hs : ∀ i, lo ≤ i → i < hi → ¬p i → b (c i) = some (.inl (c (i + 1)))) (hf : ∀ i, lo ≤ i → i < hi → p i → b (c i) = some (.inl (c1 (i + 1)))) (hz : ∀ i, lo < i → i ≤ hi → b (c1 i) = some (.inr (xx True))) (he : b (c hi) = some (.inr (xx False))) : hp_lp b n (c lo) = some (xx (∃ x, lo ≤ x ∧ x < hi ∧ p x)) := by
  have := lp_brk (b := b) c c1 (fun Q => xx (¬Q)) (fun i => ¬p i) (n := n) hi h0 hn hs (fun i h1 h2 h3 => hf i h1 h2 (Classical.byContradiction h3)) (fun i h1 h2 => by rw [hz i h1 h2, not_false_eq_true]) (by rw [he, not_true_eq_false])
  rw [this]
  have e : (¬∀ x, lo ≤ x → x < hi → ¬p x) = ∃ x, lo ≤ x ∧ x < hi ∧ p x := by
    apply propext
    constructor
    · intro g
      apply Classical.byContradiction
      intro g2
      exact g (fun x x1 x2 x3 => g2 ⟨x, x1, x2, x3⟩)
    · rintro ⟨x, x1, x2, x3⟩ g
      exact g x x1 x2 x3
  rw [e]
section FRA
variable {b n : Nat} {q S K P len k x y i : Int} {f : Nat → Nat → Int} {d : Nat → Nat} {a : Nat → Int → Int} {ni : Nat → Nat} {j : Nat → Int → Int64} {F : Nat → Int} {A : Nat → Int → Int} {J : Nat → Int → Int64}
theorem bk_f (G : BK b q S K P len f a ni j A J) (h0 : 0 ≤ k) (h1 : k < K) : a (b + 11 + 2) k = A 11 (200 * q + k) ∧ a (b + 11 + 2) (k + 1) = A 11 (200 * q + k) + A 12 (200 * q + k) ∧ 0 ≤ A 11 (200 * q + k) ∧ A 11 (200 * q + k) + A 12 (200 * q + k) ≤ 4096 ∧ 1 ≤ A 12 (200 * q + k) ∧ A 12 (200 * q + k) ≤ 60 ∧ (∀ i, 0 ≤ i → i < A 12 (200 * q + k) → a (b + 11 + 1) (a (b + 11 + 2) k + i) = A 16 (4096 * q + A 11 (200 * q + k) + i) ∧ 0 ≤ A 16 (4096 * q + A 11 (200 * q + k) + i) ∧ A 16 (4096 * q + A 11 (200 * q + k) + i) < S) ∧ a (b + 8) k = A 7 (200 * q + k) ∧ 0 ≤ A 7 (200 * q + k) ∧ A 7 (200 * q + k) ≤ 3 ∧ (A 7 (200 * q + k) = 0 → A 12 (200 * q + k) = 2) := by
  obtain ⟨_, gn, glb, gk, gf, gt, ghy, gma, gun, gpo, gpr, gfm, gax, grw⟩ := G
  obtain ⟨e1, e2, e3, e4, e5, e6, e7⟩ := gf k h0 h1
  obtain ⟨k1, k2, k3, k4, k5, k6⟩ := gk k h0 h1
  have w := grw.1
  have w7 := grw.2.2.2.2.2.2.1
  have m := rw_mono w
  rw [w7] at m
  have m1 := mono_k m h0 h1
  have w4 : a (b + 11 + 2) K ≤ 4096 := by
    obtain ⟨h1, h2, h3, h4, h5, h6, h7, h8, h9, h10, h11, h12⟩ := w
    rw [w7] at h11
    omega
  refine ⟨e1, by omega, by omega, by omega, e3, e4, fun i i1 i2 => ?_, k1, by omega, by omega, fun z => (e7 (by omega)).1⟩
  have := e5 i i1 i2
  rw [e1, show 4096 * q + (A 11 (200 * q + k) + i) = 4096 * q + A 11 (200 * q + k) + i by omega] at this
  rw [e1]
  exact ⟨this.1, by omega, by omega⟩
theorem bk_h (G : BK b q S K P len f a ni j A J) (h0 : 0 ≤ k) (h1 : k < K) : asc (a (b + 20 + 1)) (a (b + 20 + 2) k) (a (b + 20 + 2) (k + 1)) ∧ a (b + 20 + 2) k ≤ a (b + 20 + 2) (k + 1) ∧ (∀ h, 0 ≤ h → h < 200 → (mem (a (b + 20 + 1)) (a (b + 20 + 2) k) (a (b + 20 + 2) (k + 1)) h ↔ bt (J 20) (4 * (200 * q + k)) h)) ∧ (∀ h, mem (a (b + 20 + 1)) (a (b + 20 + 2) k) (a (b + 20 + 2) (k + 1)) h → 0 ≤ h ∧ h < k ∧ a (b + 8) h < 2) := by
  obtain ⟨_, gn, glb, gk, gf, gt, ghy, gma, gun, gpo, gpr, gfm, gax, grw⟩ := G
  obtain ⟨e1, e2, e3, e4⟩ := ghy k h0 h1
  have w := grw.2.2.2.1
  have w7 := grw.2.2.2.2.2.2.2.2.2.1
  have m := rw_mono w
  rw [w7] at m
  exact ⟨e1, (mono_k m h0 h1).2.1, e2, e3⟩
theorem m_hyps (hn : 100000 ≤ n) (G : BK b q S K P len f a ni j A J) (hbq : bq b q) (h4 : F 4 = q) (h0 : 0 ≤ k) (h1 : k < K) : g_X11_hypotheses n 0 (qz k) (ms F A J) = some (qz (a (b + 20 + 2) (k + 1) - a (b + 20 + 2) k)) := by
  have hq := bq_q hbq
  obtain ⟨e1, e2, e3, e4⟩ := bk_h G h0 h1
  have hK : K ≤ 200 := G.2.1.2.2.2.1
  unfold g_X11_hypotheses g_X11_hypotheses_0
  have lp := lp_inv (b := gL_X11_hypotheses_4 n 0 (qz k) (ms F A J)) (fun t c => ∃ m, c = (qz m, qz t) ∧ cnt (a (b + 20 + 1)) (a (b + 20 + 2) k) (a (b + 20 + 2) (k + 1)) t m) (Q := fun r => r = qz (a (b + 20 + 2) (k + 1) - a (b + 20 + 2) k)) 200 (n := n) (i0 := 0) (by omega) (by omega) (c0 := (qz 0, qz 0)) ⟨0, rfl, cnt_0 e2 (fun x hx => (e4 x hx).1)⟩ ?_ ?_
  · obtain ⟨r, er, hr⟩ := lp
    rw [zl0, er, bd_some, hr]
  · rintro t c t1 t2 ⟨m, rfl, hm⟩
    unfold gL_X11_hypotheses_4 g_X11_hypotheses_4 g_X11_hypotheses_31
    simp only [zl0, zl1, zl200]
    rw [if_neg (by rw [qz_le (by omega) (by omega) (by omega) (by omega)]; omega), gp_23, m_isBit (Or.inr rfl) h4 hq h0 (by omega) t1 t2, bd_some]
    by_cases c : bt (J 20) (4 * (200 * q + k)) t
    · rw [qp_T c, if_neg n10, qz_add, qz_add]
      exact ⟨_, rfl, m + 1, rfl, (cnt_in e1 hm ((e3 t t1 t2).mpr c)).1⟩
    · rw [qp_F c, if_pos rfl, qz_add]
      exact ⟨_, rfl, m, rfl, cnt_o1 hm (fun y => c ((e3 t t1 t2).mp y))⟩
  · rintro c ⟨m, rfl, hm⟩
    refine ⟨_, ?_, rfl⟩
    unfold gL_X11_hypotheses_4 g_X11_hypotheses_4
    simp only [zl0, zl1, zl200]
    rw [if_pos (by rw [qz_le (by omega) (by omega) (by omega) (by omega)]; omega), cnt_end hm (fun x hx => by have := e4 x hx; omega)]
theorem m_hyp (hn : 100000 ≤ n) (G : BK b q S K P len f a ni j A J) (hbq : bq b q) (h4 : F 4 = q) (h0 : 0 ≤ k) (h1 : k < K) (i0 : 0 ≤ i) (i1 : i < 2147483648) : g_X11_hypothesis n 0 (qz k) (qz i) (ms F A J) = some (qz (if i < a (b + 20 + 2) (k + 1) - a (b + 20 + 2) k then a (b + 20 + 1) (a (b + 20 + 2) k + i) else -2)) := by
  have hq := bq_q hbq
  obtain ⟨e1, e2, e3, e4⟩ := bk_h G h0 h1
  have hK : K ≤ 200 := G.2.1.2.2.2.1
  unfold g_X11_hypothesis g_X11_hypothesis_0
  have lp := lp_ix (b := gL_X11_hypothesis_5 n 0 (qz k) (qz i) (ms F A J)) (fun t c => ∃ m, c = (qz (m - 1), qz t) ∧ cnt (a (b + 20 + 1)) (a (b + 20 + 2) k) (a (b + 20 + 2) (k + 1)) t m ∧ m ≤ t ∧ m ≤ i) (Q := fun r => r = qz (if i < a (b + 20 + 2) (k + 1) - a (b + 20 + 2) k then a (b + 20 + 1) (a (b + 20 + 2) k + i) else -2)) k (n := n) (i0 := 0) (by omega) (by omega) (c0 := (qz (-1), qz 0)) ⟨0, rfl, cnt_0 e2 (fun x hx => (e4 x hx).1), by omega, by omega⟩ ?_ ?_
  · obtain ⟨r, er, hr⟩ := lp
    have z : (-1 : Int32) = qz (-1) := rfl
    rw [zl0, z, er, bd_some, hr]
  · rintro t c t1 t2 ⟨m, rfl, hm, hm1, hm2⟩
    have hm0 := hm.1
    unfold gL_X11_hypothesis_5 g_X11_hypothesis_5 g_X11_hypothesis_32
    simp only [zl0, zl1]
    rw [if_neg (by rw [qz_le (by omega) (by omega) (by omega) (by omega)]; omega), gp_23, m_isBit (Or.inr rfl) h4 hq h0 (by omega) t1 (by omega), bd_some]
    by_cases c : bt (J 20) (4 * (200 * q + k)) t
    · obtain ⟨g1, g2, g3⟩ := cnt_in e1 hm ((e3 t t1 (by omega)).mpr c)
      rw [qp_T c, if_neg n10, qz_add, qz_add]
      by_cases c2 : m = i
      · refine Or.inr ⟨_, if_pos (by rw [qz_inj (by omega) (by omega) (by omega) (by omega)]; omega), ?_⟩
        rw [if_pos (by omega), ← c2, g3]
      · refine Or.inl ⟨_, if_neg (by rw [qz_inj (by omega) (by omega) (by omega) (by omega)]; omega), m + 1, by rw [show m + 1 - 1 = m - 1 + 1 by omega], g1, by omega, by omega⟩
    · rw [qp_F c, if_pos rfl, qz_add]
      exact Or.inl ⟨_, if_neg (by rw [qz_inj (by omega) (by omega) (by omega) (by omega)]; omega), m, rfl, cnt_o1 hm (fun y => c ((e3 t t1 (by omega)).mp y)), by omega, hm2⟩
  · rintro c ⟨m, rfl, hm, hm1, hm2⟩
    refine ⟨_, ?_, rfl⟩
    have := cnt_end hm (fun x hx => by have := e4 x hx; omega)
    unfold gL_X11_hypothesis_5 g_X11_hypothesis_5
    simp only [zl0, zl1]
    rw [if_pos (by rw [qz_le (by omega) (by omega) (by omega) (by omega)]; omega), if_neg (by omega)]
    rfl
theorem m_isMan (hn : 100000 ≤ n) (G : BK b q S K P len f a ni j A J) (hbq : bq b q) (h4 : F 4 = q) (h0 : 0 ≤ k) (h1 : k < K) (x0 : 0 ≤ x) (x1 : x < 300) : g_X11_isMandatory n 0 (qz k) (qz x) (ms F A J) = some (qp (mf (a (b + 20 + 1)) (a (b + 20 + 2)) (a (b + 8)) (a (b + 11 + 1)) (a (b + 11 + 2)) k x)) := by
  have hq := bq_q hbq
  obtain ⟨e1, e2, e3, e4⟩ := bk_h G h0 h1
  have hK : K ≤ 200 := G.2.1.2.2.2.1
  have hS : S ≤ 300 := G.2.1.2.1
  unfold g_X11_isMandatory g_X11_isMandatory_0
  have lp := lp_hit (b := gL_X11_isMandatory_5 n 0 (qz k) (qz x) (ms F A J)) (fun t => (qz 0, qz t)) (fun t => (qz 1, qz t)) (fun Q => qp Q) (fun h => bt (J 20) (4 * (200 * q + k)) h ∧ A 7 (200 * q + h) = 0 ∧ A 16 (4096 * q + A 11 (200 * q + h) + 1) = x) (n := n) (lo := 0) k h0 (by omega) ?_ ?_ ?_ ?_
  · rw [zl0, lp, bd_some]
    congr 1
    apply qp_congr
    constructor
    · rintro ⟨h, g1, g2, g3, g4, g5⟩
      obtain ⟨f1, f2, f3, f4, f5, f6, f7, f8, f9, f10, f11⟩ := bk_f G g1 (by omega)
      exact ⟨h, (e3 h g1 (by omega)).mpr g3, by omega, by rw [(f7 1 (by omega) (by have := f11 g4; omega)).1]; exact g5⟩
    · rintro ⟨h, g1, g2, g3⟩
      have g4 := e4 h g1
      obtain ⟨f1, f2, f3, f4, f5, f6, f7, f8, f9, f10, f11⟩ := bk_f G g4.1 (by omega)
      exact ⟨h, g4.1, g4.2.1, (e3 h g4.1 (by omega)).mp g1, by omega, by rw [← (f7 1 (by omega) (by have := f11 (by omega); omega)).1]; exact g3⟩
  · intro t t1 t2 hp
    obtain ⟨f1, f2, f3, f4, f5, f6, f7, f8, f9, f10, f11⟩ := bk_f G t1 (by omega)
    unfold gL_X11_isMandatory_5 g_X11_isMandatory_5 g_X11_isMandatory_78 g_X11_isMandatory_79
    simp only [zl0, zl1, zl4096]
    rw [if_neg (by rw [qz_le (by omega) (by omega) (by omega) (by omega)]; omega), if_pos trivial, gp_23, m_isBit (Or.inr rfl) h4 hq h0 (by omega) t1 (by omega), bd_some, qz_add]
    by_cases c : bt (J 20) (4 * (200 * q + k)) t
    · rw [qp_T c, if_neg n10, m_at h4, bd_some, gp_10, ga_7 (by omega) (by omega), bd_some]
      by_cases c2 : A 7 (200 * q + t) = 0
      · have := f11 c2
        have f7' := f7 1 (by omega) (by omega)
        rw [if_pos (by rw [c2]), bd_some, gp_14, ga_11 (by omega) (by omega), bd_some, gf_ms, h4, qz_mul, qz_add, qz_add, gp_19, ga_16 (by omega) (by omega), bd_some, if_neg (by rw [qz_inj (by omega) (by omega) (by omega) (by omega)]; exact fun y => hp ⟨c, c2, y⟩)]
      · rw [if_neg (by rw [qz_inj (by omega) (by omega) (by omega) (by omega)]; exact c2)]
    · rw [qp_F c, if_pos rfl]
  · intro t t1 t2 hp
    obtain ⟨f1, f2, f3, f4, f5, f6, f7, f8, f9, f10, f11⟩ := bk_f G t1 (by omega)
    obtain ⟨c, c2, c3⟩ := hp
    have := f11 c2
    unfold gL_X11_isMandatory_5 g_X11_isMandatory_5 g_X11_isMandatory_79
    simp only [zl0, zl1, zl4096]
    rw [if_neg (by rw [qz_le (by omega) (by omega) (by omega) (by omega)]; omega), if_pos trivial, gp_23, m_isBit (Or.inr rfl) h4 hq h0 (by omega) t1 (by omega), bd_some, qz_add, qp_T c, if_neg n10, m_at h4, bd_some, gp_10, ga_7 (by omega) (by omega), bd_some, if_pos (by rw [c2]), bd_some, gp_14, ga_11 (by omega) (by omega), bd_some, gf_ms, h4, qz_mul, qz_add, qz_add, gp_19, ga_16 (by omega) (by omega), bd_some, c3, if_pos rfl]
  · intro t t1 t2
    unfold gL_X11_isMandatory_5 g_X11_isMandatory_5
    simp only [zl0]
    rw [hp_bz_1, bd_some, if_neg n10, ite_self, qpT]
  · unfold gL_X11_isMandatory_5 g_X11_isMandatory_5
    simp only [zl0]
    rw [if_pos (by rw [qz_le (by omega) (by omega) (by omega) (by omega)]; omega), hp_bz_0, bd_some, qpF]
end FRA
