/-! Pairs of a frame; frame and statement -/
section PRA
variable {b n : Nat} {q S K P len k x y i : Int} {f : Nat → Nat → Int} {d : Nat → Nat} {a : Nat → Int → Int} {ni : Nat → Nat} {j : Nat → Int → Int64} {F : Nat → Int} {A : Nat → Int → Int} {J : Nat → Int → Int64}
theorem m_isPairAt {p : Int} (hp0 : 0 ≤ p) (hp1 : p < 20480) (h0 : 0 ≤ k) (h1 : k < 2147483648) (b1 : 0 ≤ A 23 p ∧ A 23 p ≤ 200) (b2 : 0 ≤ A 24 p ∧ A 24 p ≤ 200) : g_X11_isPairAt n 0 (qz p) (qz k) (ms F A J) = some (qp (A 23 p ≤ k ∧ k < A 24 p)) := by
  unfold g_X11_isPairAt g_X11_isPairAt_0
  rw [gp_26, ga_23 hp0 hp1, bd_some]
  by_cases c1 : k < A 23 p
  · rw [if_pos (by rw [qz_lt (by omega) (by omega) (by omega) (by omega)]; exact c1), qp_F (by omega)]
    rfl
  rw [if_neg (by rw [qz_lt (by omega) (by omega) (by omega) (by omega)]; exact c1), gp_27, ga_24 hp0 hp1, bd_some]
  by_cases c2 : A 24 p ≤ k
  · rw [if_pos (by rw [qz_le (by omega) (by omega) (by omega) (by omega)]; exact c2), qp_F (by omega)]
    rfl
  · rw [if_neg (by rw [qz_le (by omega) (by omega) (by omega) (by omega)]; exact c2), qp_T (by omega)]
    rfl
theorem m_apart22 (hn : 100000 ≤ n) (G : BK b q S K P len f a ni j A J) (hbq : bq b q) (h4 : F 4 = q) (h0 : 0 ≤ k) (h1 : k < K) (x0 : 0 ≤ x) (x1 : x < 300) (y0 : 0 ≤ y) (y1 : y < 300) : g_X11_apart_22 n 0 (qz k) (qz x) (qz y) (ms F A J) = some (qp (pa q P (A 21) (A 22) (A 23) (A 24) k x y)) := by
  have hq := bq_q hbq
  obtain ⟨⟨_, _, _, _, hP, _⟩, gn, glb, gk, gf, gt, ghy, gma, gun, ⟨o1, o2, o3⟩, gpr, gfm, gax, grw⟩ := G
  have hK : K ≤ 200 := gn.2.2.2.1
  have hS : S ≤ 300 := gn.2.1
  unfold g_X11_apart_22
  have lp := lp_hit (b := gL_X11_apart_37 n 0 (qz k) (qz x) (qz y) (ms F A J)) (fun t => (qz 0, qz t)) (fun t => (qz 1, qz t)) (fun Q => qp Q) (fun t => A 21 t = x ∧ A 22 t = y ∧ A 23 t ≤ k ∧ k < A 24 t) (n := n) (lo := 10240 * q) (10240 * q + P) (by omega) (by omega) ?_ ?_ ?_ ?_
  · rw [gf_ms, h4, zl0, zl10240, qz_mul, lp, bd_some]
    congr 1
    apply qp_congr
    constructor
    · rintro ⟨t, g1, g2, g3⟩
      refine ⟨t - 10240 * q, by omega, by omega, ?_⟩
      rw [show 10240 * q + (t - 10240 * q) = t by omega]
      exact g3
    · rintro ⟨p, g1, g2, g3⟩
      exact ⟨10240 * q + p, by omega, by omega, g3⟩
  · intro t t1 t2 hp
    have o := o3 (t - 10240 * q) (by omega) (by omega)
    rw [show 10240 * q + (t - 10240 * q) = t by omega] at o
    unfold gL_X11_apart_37 g_X11_apart_37 g_X11_apart_103 g_X11_apart_104
    simp only [zl0, zl1, zl10240]
    rw [gp_28, gf_ms, h4, ga_25 (by omega) (by omega), bd_some, hP, qz_mul, qz_add, if_neg (by rw [qz_le (by omega) (by omega) (by omega) (by omega)]; omega), if_pos trivial, gp_24, ga_21 (by omega) (by omega), bd_some]
    by_cases c1 : A 21 t = x
    · rw [if_pos (by rw [c1]), gp_25, ga_22 (by omega) (by omega), bd_some]
      by_cases c2 : A 22 t = y
      · rw [if_pos (by rw [c2]), m_isPairAt (by omega) (by omega) h0 (by omega) ⟨by omega, by omega⟩ ⟨by omega, by omega⟩, bd_some, qp_F (fun z => hp ⟨c1, c2, z.1, z.2⟩), if_pos rfl, qz_add]
      · rw [if_neg (by rw [qz_inj (by omega) (by omega) (by omega) (by omega)]; exact c2), qz_add]
    · rw [if_neg (by rw [qz_inj (by omega) (by omega) (by omega) (by omega)]; exact c1), qz_add]
  · rintro t t1 t2 ⟨c1, c2, c3⟩
    have o := o3 (t - 10240 * q) (by omega) (by omega)
    rw [show 10240 * q + (t - 10240 * q) = t by omega] at o
    unfold gL_X11_apart_37 g_X11_apart_37 g_X11_apart_104
    simp only [zl0, zl1, zl10240]
    rw [gp_28, gf_ms, h4, ga_25 (by omega) (by omega), bd_some, hP, qz_mul, qz_add, if_neg (by rw [qz_le (by omega) (by omega) (by omega) (by omega)]; omega), if_pos trivial, gp_24, ga_21 (by omega) (by omega), bd_some, if_pos (by rw [c1]), gp_25, ga_22 (by omega) (by omega), bd_some, if_pos (by rw [c2]), m_isPairAt (by omega) (by omega) h0 (by omega) ⟨by omega, by omega⟩ ⟨by omega, by omega⟩, bd_some, qp_T c3, if_neg n10, qz_add]
  · intro t t1 t2
    unfold gL_X11_apart_37 g_X11_apart_37
    simp only [zl0, zl10240]
    rw [gp_28, gf_ms, h4, ga_25 (by omega) (by omega), bd_some, hp_bz_1, bd_some, if_neg n10, ite_self, qpT]
  · unfold gL_X11_apart_37 g_X11_apart_37
    simp only [zl0, zl10240]
    rw [gp_28, gf_ms, h4, ga_25 (by omega) (by omega), bd_some, hP, qz_mul, qz_add, if_pos (by rw [qz_le (by omega) (by omega) (by omega) (by omega)]; omega), hp_bz_0, bd_some, qpF]
/-- two variables are apart at a statement -/
theorem m_apart (hn : 100000 ≤ n) (G : BK b q S K P len f a ni j A J) (hbq : bq b q) (h4 : F 4 = q) (h0 : 0 ≤ k) (h1 : k < K) (x0 : 0 ≤ x) (x1 : x < 300) (y0 : 0 ≤ y) (y1 : y < 300) : g_X11_apart n 0 (qz k) (qz x) (qz y) (ms F A J) = some (qp (pa q P (A 21) (A 22) (A 23) (A 24) k (if y ≤ x then y else x) (if y ≤ x then x else y))) := by
  unfold g_X11_apart g_X11_apart_0 g_X11_apart_10
  by_cases c : y ≤ x
  · have c' : qz y ≤ qz x := by rw [qz_le (by omega) (by omega) (by omega) (by omega)]; exact c
    rw [if_pos c', if_pos c', if_pos c, if_pos c]
    exact m_apart22 hn G hbq h4 h0 h1 y0 y1 x0 x1
  · have c' : ¬qz y ≤ qz x := by rw [qz_le (by omega) (by omega) (by omega) (by omega)]; exact c
    rw [if_neg c', if_neg c', if_neg c, if_neg c]
    exact m_apart22 hn G hbq h4 h0 h1 x0 x1 y0 y1
/-- the pairs of a frame, in the class's row -/
theorem bk_d (G : BK b q S K P len f a ni j A J) (h0 : 0 ≤ k) (h1 : k < K) : asc (a (b + 23 + 1)) (a (b + 23 + 2) k) (a (b + 23 + 2) (k + 1)) ∧ 0 ≤ a (b + 23 + 2) k ∧ a (b + 23 + 2) k ≤ a (b + 23 + 2) (k + 1) ∧ a (b + 23 + 2) (k + 1) ≤ 65536 ∧ (2 ≤ a (b + 8) k → ∀ z, mem (a (b + 23 + 1)) (a (b + 23 + 2) k) (a (b + 23 + 2) (k + 1)) z ↔ ∃ x y, 0 ≤ x ∧ x < y ∧ y < S ∧ z = 300 * x + y ∧ a (b + 7) x = 1 ∧ a (b + 7) y = 1 ∧ pa q P (A 21) (A 22) (A 23) (A 24) k x y ∧ mf (a (b + 20 + 1)) (a (b + 20 + 2)) (a (b + 8)) (a (b + 11 + 1)) (a (b + 11 + 2)) k x ∧ mf (a (b + 20 + 1)) (a (b + 20 + 2)) (a (b + 8)) (a (b + 11 + 1)) (a (b + 11 + 2)) k y) ∧ (a (b + 8) k < 2 → a (b + 23 + 2) (k + 1) = a (b + 23 + 2) k) := by
  obtain ⟨_, gn, glb, gk, gf, gt, ghy, gma, gun, ⟨o1, o2, o3⟩, gpr, gfm, gax, grw⟩ := G
  obtain ⟨e1, e2, e3, e4, e5⟩ := gpr k h0 h1
  have hS : S ≤ 300 := gn.2.1
  have w := grw.2.2.2.2.1
  have w7 := grw.2.2.2.2.2.2.2.2.2.2.1
  have m := rw_mono w
  rw [w7] at m
  have m1 := mono_k m h0 h1
  have w4 : a (b + 23 + 2) K ≤ 65536 := by
    obtain ⟨h1, h2, h3, h4, h5, h6, h7, h8, h9, h10, h11, h12⟩ := w
    rw [w7] at h11
    omega
  refine ⟨e1, by omega, by omega, by omega, fun hk z => ?_, e5⟩
  rw [e4 hk z]
  constructor
  · rintro ⟨x, y, x1, x2, x3, x4, x5, x6, x7⟩
    obtain ⟨p, p1, p2, p3, p4, p5⟩ := x5
    have o := o3 p p1 p2
    rw [p3, p4] at o
    exact ⟨x, y, x1, x2, o.2.2.1, x4, o.2.2.2.1, o.2.2.2.2.1, ⟨p, p1, p2, p3, p4, p5⟩, x6, x7⟩
  · rintro ⟨x, y, x1, x2, x3, x4, x5, x6, x7, x8, x9⟩
    exact ⟨x, y, x1, x2, by omega, x4, x7, x8, x9⟩
end PRA
