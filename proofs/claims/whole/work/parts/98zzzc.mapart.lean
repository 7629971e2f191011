/-! Two things are apart: the reference -/
section MAP
variable {n b : Nat} {q S K P len k e x y u r r2 : Int} {f : Nat → Nat → Int} {d : Nat → Nat} {a : Nat → Int → Int} {ni : Nat → Nat} {j : Nat → Int → Int64} {F : Nat → Int} {A : Nat → Int → Int} {J : Nat → Int → Int64}
/-- a thing of the reference -/
def thg (S : Int) (A : Nat → Int → Int) (r : Int) : Prop := 0 ≤ r ∧ r < 100 ∧ 1 ≤ A 38 r ∧ A 38 r ≤ 200 ∧ ∀ x, 0 ≤ x → x < A 38 r → 0 ≤ A 37 (200 * r + x) ∧ A 37 (200 * r + x) < S
theorem pak_ne (G : BK b q S K P len f a ni j A J) (h : pak q P (A 21) (A 22) (A 23) (A 24) k u u) : False := by
  unfold pak at h
  rw [if_pos (Int.le_refl _)] at h
  obtain ⟨p, p0, p1, p2, p3, _⟩ := h
  have := G.2.2.2.2.2.2.2.2.2.1.2.2 p p0 p1
  omega
theorem m_ka58 {i : Int} (hn : 100000 ≤ n) (hbq : bq b q) (h4 : F 4 = q) (G : BK b q S K P len f a ni j A J) (h0 : 0 ≤ k) (h1 : k < K) (u0 : 0 ≤ u) (u1' : u < S) (h2 : thg S A r2) : hp_lp (gL_X11_keepApart_58 n 0 (qz k) (qz r) (qz r2) (qz i) (qz u) (ms F A J)) n (qz 1, qz 1) = some (qp (a (b + 7) u = 1 → ∀ l, 1 ≤ l → l < A 38 r2 → a (b + 7) (A 37 (200 * r2 + l)) = 1 → pak q P (A 21) (A 22) (A 23) (A 24) k u (A 37 (200 * r2 + l)))) := by
  have hq := bq_q hbq
  have hS : S ≤ 300 := G.2.1.2.1
  obtain ⟨k1, k2, k3, k4, k5⟩ := h2
  have hva := fun x x0 x1 => G.2.1.2.2.2.2.2.2.2.1 x x0 x1
  have gu := hva u u0 u1'
  by_cases c : a (b + 7) u = 1
  · have lp := lp_brk (b := gL_X11_keepApart_58 n 0 (qz k) (qz r) (qz r2) (qz i) (qz u) (ms F A J)) (fun l => (qz 1, qz l)) (fun l => (qz 0, qz l)) (fun Q => qp Q) (fun l => a (b + 7) (A 37 (200 * r2 + l)) = 1 → pak q P (A 21) (A 22) (A 23) (A 24) k u (A 37 (200 * r2 + l))) (n := n) (lo := 1) (A 38 r2) k3 (by omega) ?_ ?_ ?_ ?_
    · rw [lp]
      congr 1
      apply qp_congr
      exact ⟨fun z _ => z, fun z => z c⟩
    · intro l l0 l1 hp
      have v := k5 l (by omega) l1
      have gv := hva _ v.1 v.2
      unfold gL_X11_keepApart_58 g_X11_keepApart_58 g_X11_keepApart_148 g_X11_keepApart_152 g_X11_keepApart_153
      simp only [zl0, zl1, zl300]
      rw [gp_57, ga_38 k1 k2, bd_some, if_neg (by rw [qz_le (by omega) (by omega) (by omega) (by omega)]; omega), if_neg n10, gf_ms, h4, qz_mul, qz_add, gp_8, ga_5 (by omega) (by omega), bd_some, ← gu.2.2.1, c, if_neg n10, m_thing, bd_some, qz_add, gp_56, ga_37 (by omega) (by omega), bd_some, qz_add, ga_5 (by omega) (by omega), bd_some, ← gv.2.2.1, qz_add]
      by_cases c2 : a (b + 7) (A 37 (200 * r2 + l)) = 1
      · have hpk := hp c2
        have hne : u ≠ A 37 (200 * r2 + l) := fun z => pak_ne (k := k) G (u := u) (by rw [← z] at hpk; exact hpk)
        rw [c2, if_neg n10, if_neg (by rw [qz_inj (by omega) (by omega) (by omega) (by omega)]; exact hne), m_apart hn G hbq h4 h0 h1 u0 (by omega) v.1 (by omega), bd_some, qp_T (show pa q P (A 21) (A 22) (A 23) (A 24) k (if A 37 (200 * r2 + l) ≤ u then A 37 (200 * r2 + l) else u) (if A 37 (200 * r2 + l) ≤ u then u else A 37 (200 * r2 + l)) from hpk), if_neg n10]
      · rw [show a (b + 7) (A 37 (200 * r2 + l)) = 0 by omega, if_pos rfl]
    · intro l l0 l1 hp
      have v := k5 l (by omega) l1
      have gv := hva _ v.1 v.2
      have c2 : a (b + 7) (A 37 (200 * r2 + l)) = 1 := Classical.byContradiction (fun z => hp (fun y => absurd y z))
      unfold gL_X11_keepApart_58 g_X11_keepApart_58 g_X11_keepApart_148 g_X11_keepApart_152 g_X11_keepApart_153
      simp only [zl0, zl1, zl300]
      rw [gp_57, ga_38 k1 k2, bd_some, if_neg (by rw [qz_le (by omega) (by omega) (by omega) (by omega)]; omega), if_neg n10, gf_ms, h4, qz_mul, qz_add, gp_8, ga_5 (by omega) (by omega), bd_some, ← gu.2.2.1, c, if_neg n10, m_thing, bd_some, qz_add, gp_56, ga_37 (by omega) (by omega), bd_some, qz_add, ga_5 (by omega) (by omega), bd_some, ← gv.2.2.1, qz_add, c2, if_neg n10]
      by_cases hne : u = A 37 (200 * r2 + l)
      · rw [if_pos (by rw [← hne])]
      · rw [if_neg (by rw [qz_inj (by omega) (by omega) (by omega) (by omega)]; exact hne), m_apart hn G hbq h4 h0 h1 u0 (by omega) v.1 (by omega), bd_some, qp_F (fun z : pa q P (A 21) (A 22) (A 23) (A 24) k (if A 37 (200 * r2 + l) ≤ u then A 37 (200 * r2 + l) else u) (if A 37 (200 * r2 + l) ≤ u then u else A 37 (200 * r2 + l)) => hp (fun _ => z)), if_pos rfl]
    · intro l l0 l1
      unfold gL_X11_keepApart_58 g_X11_keepApart_58
      simp only [zl0]
      rw [gp_57, ga_38 k1 k2, bd_some, if_pos trivial, ite_self, qpF]
    · unfold gL_X11_keepApart_58 g_X11_keepApart_58
      simp only [zl0]
      rw [gp_57, ga_38 k1 k2, bd_some, if_pos (by rw [qz_le (by omega) (by omega) (by omega) (by omega)]; omega), qpT]
  · rw [qp_T (fun z => absurd z c)]
    obtain ⟨n, rfl⟩ : ∃ x, n = x + 1 := ⟨n - 1, by omega⟩
    apply hp_lp_x
    unfold gL_X11_keepApart_58 g_X11_keepApart_58
    simp only [zl0, zl300]
    rw [gp_57, ga_38 k1 k2, bd_some, gf_ms, h4, qz_mul, qz_add, gp_8, ga_5 (by omega) (by omega), bd_some, ← gu.2.2.1, show a (b + 7) u = 0 by omega, if_neg n10, if_pos rfl, ite_self]
theorem m_keepApart (hn : 100000 ≤ n) (hbq : bq b q) (h4 : F 4 = q) (G : BK b q S K P len f a ni j A J) (h0 : 0 ≤ k) (h1 : k < K) (x0 : 0 ≤ x) (x1 : x < 300) (y0 : 0 ≤ y) (y1 : y < 300) (hx : thg S A (A 43 x)) (hy : thg S A (A 43 y)) : g_X11_keepApart n 0 (qz k) (qz x) (qz y) (ms F A J) = some (qp (rap q P k (a (b + 7)) (A 38) (A 37) (A 21) (A 22) (A 23) (A 24) (A 43 x) (A 43 y))) := by
  have hx' := hx
  obtain ⟨k1, k2, k3, k4, k5⟩ := hx'
  unfold g_X11_keepApart g_X11_keepApart_0
  rw [gp_63, ga_43 x0 x1, bd_some, ga_43 y0 y1, bd_some, zl1]
  have lp := lp_brk (b := gL_X11_keepApart_22 n 0 (qz k) (qz (A 43 x)) (qz (A 43 y)) (ms F A J)) (fun i => (qz 1, qz i)) (fun i => (qz 0, qz i)) (fun Q => qp Q) (fun i => a (b + 7) (A 37 (200 * A 43 x + i)) = 1 → ∀ l, 1 ≤ l → l < A 38 (A 43 y) → a (b + 7) (A 37 (200 * A 43 y + l)) = 1 → pak q P (A 21) (A 22) (A 23) (A 24) k (A 37 (200 * A 43 x + i)) (A 37 (200 * A 43 y + l))) (n := n) (lo := 1) (A 38 (A 43 x)) k3 (by omega) ?_ ?_ ?_ ?_
  · rw [lp, bd_some]
    rfl
  · intro i i0 i1 hp
    have v := k5 i (by omega) i1
    unfold gL_X11_keepApart_22 g_X11_keepApart_22 g_X11_keepApart_161
    simp only [zl0, zl1]
    rw [gp_57, ga_38 k1 k2, bd_some, if_neg (by rw [qz_le (by omega) (by omega) (by omega) (by omega)]; omega), if_neg n10, m_thing, bd_some, qz_add, gp_56, ga_37 (by omega) (by omega), bd_some, m_ka58 hn hbq h4 G h0 h1 v.1 v.2 hy, bd_some, qz_add, qp_T hp]
  · intro i i0 i1 hp
    have v := k5 i (by omega) i1
    unfold gL_X11_keepApart_22 g_X11_keepApart_22 g_X11_keepApart_161
    simp only [zl0, zl1]
    rw [gp_57, ga_38 k1 k2, bd_some, if_neg (by rw [qz_le (by omega) (by omega) (by omega) (by omega)]; omega), if_neg n10, m_thing, bd_some, qz_add, gp_56, ga_37 (by omega) (by omega), bd_some, m_ka58 hn hbq h4 G h0 h1 v.1 v.2 hy, bd_some, qz_add, qp_F hp]
  · intro i i0 i1
    unfold gL_X11_keepApart_22 g_X11_keepApart_22
    simp only [zl0]
    rw [gp_57, ga_38 k1 k2, bd_some, if_pos trivial, ite_self, hp_bz_0, bd_some, qpF]
  · unfold gL_X11_keepApart_22 g_X11_keepApart_22
    simp only [zl0]
    rw [gp_57, ga_38 k1 k2, bd_some, if_pos (by rw [qz_le (by omega) (by omega) (by omega) (by omega)]; omega), hp_bz_1, bd_some, qpT]
/-- the pairs of an assertion: all are kept apart, or not -/
theorem m_pairs {v2 v4 v5 : Int32} (hn : 100000 ≤ n) (hbq : bq b q) (h4 : F 4 = q) (G : BK b q S K P len f a ni j A J) (h0 : 0 ≤ k) (h1 : k < K) (e0 : 0 ≤ e) (e1 : e < K) (hk : 2 ≤ a (b + 8) e) (hs : ∀ x, mf (a (b + 20 + 1)) (a (b + 20 + 2)) (a (b + 8)) (a (b + 11 + 1)) (a (b + 11 + 2)) e x → thg S A (A 43 x)) : ((∀ x y, mem (a (b + 23 + 1)) (a (b + 23 + 2) e) (a (b + 23 + 2) (e + 1)) (300 * x + y) → 0 ≤ x → x < y → y < 300 → rap q P k (a (b + 7)) (A 38) (A 37) (A 21) (A 22) (A 23) (A 24) (A 43 x) (A 43 y)) → hp_lp (gL_X11_pushAssertion_93 n 0 (qz k) v2 (qz e) v4 v5 (ms F A J)) n (qz (10240 * q)) = some (.inr ())) ∧ (¬(∀ x y, mem (a (b + 23 + 1)) (a (b + 23 + 2) e) (a (b + 23 + 2) (e + 1)) (300 * x + y) → 0 ≤ x → x < y → y < 300 → rap q P k (a (b + 7)) (A 38) (A 37) (A 21) (A 22) (A 23) (A 24) (A 43 x) (A 43 y)) → hp_lp (gL_X11_pushAssertion_93 n 0 (qz k) v2 (qz e) v4 v5 (ms F A J)) n (qz (10240 * q)) = some (.inl ())) := by
  have hq := bq_q hbq
  have hS : S ≤ 300 := G.2.1.2.1
  have hK : K ≤ 200 := G.2.1.2.2.2.1
  have hP : A 25 q = P := G.1.2.2.2.2.1
  obtain ⟨o1, o2, o3⟩ := G.2.2.2.2.2.2.2.2.2.1
  obtain ⟨d1, d2, d3, d4, d5, d6⟩ := bk_d G e0 e1
  have d5 := d5 hk
  have lp := lp_ix (b := gL_X11_pushAssertion_93 n 0 (qz k) v2 (qz e) v4 v5 (ms F A J)) (fun t c => c = qz t ∧ ∀ p, 10240 * q ≤ p → p < t → A 23 p ≤ e → e < A 24 p → mf (a (b + 20 + 1)) (a (b + 20 + 2)) (a (b + 8)) (a (b + 11 + 1)) (a (b + 11 + 2)) e (A 21 p) → mf (a (b + 20 + 1)) (a (b + 20 + 2)) (a (b + 8)) (a (b + 11 + 1)) (a (b + 11 + 2)) e (A 22 p) → rap q P k (a (b + 7)) (A 38) (A 37) (A 21) (A 22) (A 23) (A 24) (A 43 (A 21 p)) (A 43 (A 22 p))) (Q := fun x => (x = .inr () ∧ ∀ x y, mem (a (b + 23 + 1)) (a (b + 23 + 2) e) (a (b + 23 + 2) (e + 1)) (300 * x + y) → 0 ≤ x → x < y → y < 300 → rap q P k (a (b + 7)) (A 38) (A 37) (A 21) (A 22) (A 23) (A 24) (A 43 x) (A 43 y)) ∨ (x = .inl () ∧ ¬(∀ x y, mem (a (b + 23 + 1)) (a (b + 23 + 2) e) (a (b + 23 + 2) (e + 1)) (300 * x + y) → 0 ≤ x → x < y → y < 300 → rap q P k (a (b + 7)) (A 38) (A 37) (A 21) (A 22) (A 23) (A 24) (A 43 x) (A 43 y)))) (10240 * q + P) (n := n) (i0 := 10240 * q) (by omega) (by omega) (c0 := qz (10240 * q)) ⟨rfl, fun p p0 p1 => by omega⟩ ?_ ?_
  · obtain ⟨x, ex, ⟨rfl, h⟩ | ⟨rfl, h⟩⟩ := lp
    · exact ⟨fun _ => ex, fun z => absurd h z⟩
    · exact ⟨fun z => absurd z h, fun _ => ex⟩
  · rintro t c t0 t1 ⟨rfl, h⟩
    have o := o3 (t - 10240 * q) (by omega) (by omega)
    rw [show 10240 * q + (t - 10240 * q) = t by omega] at o
    have next : ¬(A 23 t ≤ e ∧ e < A 24 t ∧ mf (a (b + 20 + 1)) (a (b + 20 + 2)) (a (b + 8)) (a (b + 11 + 1)) (a (b + 11 + 2)) e (A 21 t) ∧ mf (a (b + 20 + 1)) (a (b + 20 + 2)) (a (b + 8)) (a (b + 11 + 1)) (a (b + 11 + 2)) e (A 22 t)) → ∀ p, 10240 * q ≤ p → p < t + 1 → A 23 p ≤ e → e < A 24 p → mf (a (b + 20 + 1)) (a (b + 20 + 2)) (a (b + 8)) (a (b + 11 + 1)) (a (b + 11 + 2)) e (A 21 p) → mf (a (b + 20 + 1)) (a (b + 20 + 2)) (a (b + 8)) (a (b + 11 + 1)) (a (b + 11 + 2)) e (A 22 p) → rap q P k (a (b + 7)) (A 38) (A 37) (A 21) (A 22) (A 23) (A 24) (A 43 (A 21 p)) (A 43 (A 22 p)) := by
      intro z p p0 p1 z1 z2 z3 z4
      by_cases ee : p = t
      · rw [ee] at z1 z2 z3 z4
        exact absurd ⟨z1, z2, z3, z4⟩ z
      · exact h p p0 (by omega) z1 z2 z3 z4
    unfold gL_X11_pushAssertion_93 g_X11_pushAssertion_93 g_X11_pushAssertion_160 g_X11_pushAssertion_161 g_X11_pushAssertion_198
    simp only [zl0, zl1, zl10240]
    rw [gp_28, gf_ms, h4, ga_25 (by omega) (by omega), bd_some, hP, qz_mul, qz_add, if_neg (by rw [qz_le (by omega) (by omega) (by omega) (by omega)]; omega), m_isPairAt (by omega) (by omega) e0 (by omega) ⟨by omega, by omega⟩ ⟨by omega, by omega⟩, bd_some, qz_add, if_pos trivial]
    by_cases c1 : A 23 t ≤ e ∧ e < A 24 t
    rotate_left
    · rw [qp_F c1, if_pos rfl]
      exact Or.inl ⟨_, rfl, rfl, next (fun z => c1 ⟨z.1, z.2.1⟩)⟩
    rw [qp_T c1, if_neg n10, gp_24, ga_21 (by omega) (by omega), bd_some, m_isMan hn G hbq h4 e0 e1 o.1 (by omega), bd_some]
    by_cases c2 : mf (a (b + 20 + 1)) (a (b + 20 + 2)) (a (b + 8)) (a (b + 11 + 1)) (a (b + 11 + 2)) e (A 21 t)
    rotate_left
    · rw [qp_F c2, if_pos rfl]
      exact Or.inl ⟨_, rfl, rfl, next (fun z => c2 z.2.2.1)⟩
    rw [qp_T c2, if_neg n10, gp_25, ga_22 (by omega) (by omega), bd_some, m_isMan hn G hbq h4 e0 e1 (by omega) (by omega), bd_some]
    by_cases c3 : mf (a (b + 20 + 1)) (a (b + 20 + 2)) (a (b + 8)) (a (b + 11 + 1)) (a (b + 11 + 2)) e (A 22 t)
    rotate_left
    · rw [qp_F c3, if_pos rfl]
      exact Or.inl ⟨_, rfl, rfl, next (fun z => c3 z.2.2.2)⟩
    have hm : mem (a (b + 23 + 1)) (a (b + 23 + 2) e) (a (b + 23 + 2) (e + 1)) (300 * A 21 t + A 22 t) := (d5 _).mpr ⟨A 21 t, A 22 t, o.1, o.2.1, o.2.2.1, rfl, o.2.2.2.1, o.2.2.2.2.1, ⟨t - 10240 * q, by omega, by omega, by rw [show 10240 * q + (t - 10240 * q) = t by omega], by rw [show 10240 * q + (t - 10240 * q) = t by omega], by rw [show 10240 * q + (t - 10240 * q) = t by omega]; exact c1.1, by rw [show 10240 * q + (t - 10240 * q) = t by omega]; exact c1.2⟩, c2, c3⟩
    rw [qp_T c3, if_neg n10, if_neg n10, bd_some, bd_some, m_keepApart hn hbq h4 G h0 h1 o.1 (by omega) (by omega) (by omega) (hs _ c2) (hs _ c3), bd_some]
    by_cases c4 : rap q P k (a (b + 7)) (A 38) (A 37) (A 21) (A 22) (A 23) (A 24) (A 43 (A 21 t)) (A 43 (A 22 t))
    · rw [qp_T c4, if_neg n10]
      refine Or.inl ⟨_, rfl, rfl, fun p p0 p1 z1 z2 z3 z4 => ?_⟩
      by_cases ee : p = t
      · rw [ee]; exact c4
      · exact h p p0 (by omega) z1 z2 z3 z4
    · rw [qp_F c4, if_pos rfl]
      exact Or.inr ⟨_, rfl, Or.inr ⟨rfl, fun z => c4 (z _ _ hm o.1 o.2.1 (by omega))⟩⟩
  · rintro c ⟨rfl, h⟩
    refine ⟨.inr (), ?_, Or.inl ⟨rfl, fun x y hxy x0 xy y1 => ?_⟩⟩
    · unfold gL_X11_pushAssertion_93 g_X11_pushAssertion_93
      simp only [zl10240]
      rw [gp_28, gf_ms, h4, ga_25 (by omega) (by omega), bd_some, hP, qz_mul, qz_add, if_pos (by rw [qz_le (by omega) (by omega) (by omega) (by omega)]; omega)]
    · obtain ⟨x', y', z1, z2, z3, z4, _, _, ⟨p, p0, p1, p2, p3, p4, p5⟩, z8, z9⟩ := (d5 _).mp hxy
      have ex : x' = x := by omega
      have ey : y' = y := by omega
      subst ex
      subst ey
      have := h (10240 * q + p) (by omega) (by omega) p4 p5 (by rw [p2]; exact z8) (by rw [p3]; exact z9)
      rw [p2, p3] at this
      exact this
end MAP
