/-! The pairs of a frame, one by one -/
section FPA
variable {b n : Nat} {q S K P len k x y i : Int} {f : Nat → Nat → Int} {d : Nat → Nat} {a : Nat → Int → Int} {ni : Nat → Nat} {j : Nat → Int → Int64} {F : Nat → Int} {A : Nat → Int → Int} {J : Nat → Int → Int64}
theorem m_fp_dead {m : Int} (hn : 100000 ≤ n) (hq : 0 ≤ q ∧ q ≤ 1) (h4 : F 4 = q) : hp_lp (gL_X11_framePair_61 n 0 (qz k) (qz i) (qz x) (qz 0) (ms F A J)) n (qz m, qz y) = some (.inr (qz m)) := by
  obtain ⟨n, rfl⟩ : ∃ x, n = x + 1 := ⟨n - 1, by omega⟩
  apply hp_lp_x
  unfold gL_X11_framePair_61 g_X11_framePair_61
  simp only [zl0]
  rw [gp_9, gf_ms, h4, ga_6 (by omega) (by omega), bd_some, if_pos trivial, ite_self]
theorem m_fp_in {m : Int} (hn : 100000 ≤ n) (G : BK b q S K P len f a ni j A J) (hbq : bq b q) (h4 : F 4 = q) (h0 : 0 ≤ k) (h1 : k < K) (hk : 2 ≤ a (b + 8) k) (i0 : -1 ≤ i) (i1 : i < 2147483648) (x0 : 0 ≤ x) (x1 : x < S) (hx : a (b + 7) x = 1) (hm : mf (a (b + 20 + 1)) (a (b + 20 + 2)) (a (b + 8)) (a (b + 11 + 1)) (a (b + 11 + 2)) k x) (hc : cnt (a (b + 23 + 1)) (a (b + 23 + 2) k) (a (b + 23 + 2) (k + 1)) (300 * x + (x + 1)) m) (hmi : i = -1 ∨ m ≤ i) : ∃ r, hp_lp (gL_X11_framePair_61 n 0 (qz k) (qz i) (qz x) (qz 1) (ms F A J)) n (qz m, qz (x + 1)) = some r ∧ ((∃ y, r = .inl (qz y) ∧ x < y ∧ y < S ∧ 0 ≤ i ∧ i < a (b + 23 + 2) (k + 1) - a (b + 23 + 2) k ∧ a (b + 23 + 1) (a (b + 23 + 2) k + i) = 300 * x + y) ∨ ∃ m2, r = .inr (qz m2) ∧ cnt (a (b + 23 + 1)) (a (b + 23 + 2) k) (a (b + 23 + 2) (k + 1)) (300 * x + S) m2 ∧ (i = -1 ∨ m2 ≤ i)) := by
  have hq := bq_q hbq
  obtain ⟨d1, d2, d3, d4, d5, d6⟩ := bk_d G h0 h1
  have d5 := d5 hk
  have hS : S ≤ 300 := G.2.1.2.1
  have hS6 : A 6 q = S := G.1.2.1
  have gv : ∀ y, 0 ≤ y → y < S → a (b + 7) y = A 5 (300 * q + y) ∧ (a (b + 7) y = 0 ∨ a (b + 7) y = 1) := fun y y0 y1 => by
    have := G.2.1.2.2.2.2.2.2.2.1 y y0 y1
    exact ⟨this.2.2.1, this.2.2.2⟩
  refine lp_ix (b := gL_X11_framePair_61 n 0 (qz k) (qz i) (qz x) (qz 1) (ms F A J)) (fun t c => ∃ m, c = (qz m, qz t) ∧ cnt (a (b + 23 + 1)) (a (b + 23 + 2) k) (a (b + 23 + 2) (k + 1)) (300 * x + t) m ∧ (i = -1 ∨ m ≤ i)) S (n := n) (i0 := x + 1) (by omega) (by omega) ⟨m, rfl, hc, hmi⟩ ?_ ?_
  · rintro t c t1 t2 ⟨m, rfl, hm', hmi'⟩
    have mb := hm'.1
    have mb2 := hm'.2.1
    have gt := gv t (by omega) t2
    have e : mem (a (b + 23 + 1)) (a (b + 23 + 2) k) (a (b + 23 + 2) (k + 1)) (300 * x + t) ↔ a (b + 7) t = 1 ∧ pa q P (A 21) (A 22) (A 23) (A 24) k x t ∧ mf (a (b + 20 + 1)) (a (b + 20 + 2)) (a (b + 8)) (a (b + 11 + 1)) (a (b + 11 + 2)) k t := by
      rw [d5]
      constructor
      · rintro ⟨x', y', z1, z2, z3, z4, z5, z6, z7, z8, z9⟩
        have e1 : x' = x := by omega
        have e2 : y' = t := by omega
        subst e1
        subst e2
        exact ⟨z6, z7, z9⟩
      · rintro ⟨z1, z2, z3⟩
        exact ⟨x, t, x0, by omega, t2, rfl, hx, z1, z2, hm, z3⟩
    have eo : ¬(a (b + 7) t = 1 ∧ pa q P (A 21) (A 22) (A 23) (A 24) k x t ∧ mf (a (b + 20 + 1)) (a (b + 20 + 2)) (a (b + 8)) (a (b + 11 + 1)) (a (b + 11 + 2)) k t) → cnt (a (b + 23 + 1)) (a (b + 23 + 2) k) (a (b + 23 + 2) (k + 1)) (300 * x + (t + 1)) m := by
      intro z
      rw [show 300 * x + (t + 1) = 300 * x + t + 1 by omega]
      exact cnt_o1 hm' (fun y => z (e.mp y))
    unfold gL_X11_framePair_61 g_X11_framePair_61 g_X11_framePair_139
    simp only [zl0, zl1, zl300]
    rw [gp_9, gf_ms, h4, ga_6 (by omega) (by omega), bd_some, hS6, if_neg (by rw [qz_le (by omega) (by omega) (by omega) (by omega)]; omega), if_neg n10, gp_8, qz_mul, qz_add, ga_5 (by omega) (by omega), bd_some]
    by_cases c1 : A 5 (300 * q + t) = 0
    · rw [if_pos (by rw [c1]), qz_add]
      exact Or.inl ⟨_, rfl, m, rfl, eo (fun z => by omega), hmi'⟩
    rw [if_neg (by rw [qz_inj (by omega) (by omega) (by omega) (by omega)]; exact c1), m_apart hn G hbq h4 h0 h1 x0 (by omega) (by omega) (by omega), bd_some, if_neg (by omega : ¬t ≤ x), if_neg (by omega : ¬t ≤ x)]
    by_cases c2 : pa q P (A 21) (A 22) (A 23) (A 24) k x t
    rotate_left
    · rw [qp_F c2, if_pos rfl, qz_add]
      exact Or.inl ⟨_, rfl, m, rfl, eo (fun z => c2 z.2.1), hmi'⟩
    rw [qp_T c2, if_neg n10, m_isMan hn G hbq h4 h0 h1 (by omega) (by omega), bd_some]
    by_cases c3 : mf (a (b + 20 + 1)) (a (b + 20 + 2)) (a (b + 8)) (a (b + 11 + 1)) (a (b + 11 + 2)) k t
    rotate_left
    · rw [qp_F c3, if_pos rfl, qz_add]
      exact Or.inl ⟨_, rfl, m, rfl, eo (fun z => c3 z.2.2), hmi'⟩
    obtain ⟨g1, g2, g3⟩ := cnt_in d1 hm' (e.mpr ⟨by omega, c2, c3⟩)
    rw [qp_T c3, if_neg n10]
    by_cases c4 : m = i
    · rw [if_pos (by rw [c4])]
      exact Or.inr ⟨_, rfl, Or.inl ⟨t, rfl, by omega, t2, by omega, by omega, by rw [← c4]; exact g3⟩⟩
    · rw [if_neg (by rw [qz_inj (by omega) (by omega) (by omega) (by omega)]; exact c4), qz_add, qz_add]
      exact Or.inl ⟨_, rfl, m + 1, rfl, by rw [show 300 * x + (t + 1) = 300 * x + t + 1 by omega]; exact g1, by omega⟩
  · rintro c ⟨m, rfl, hm', hmi'⟩
    refine ⟨.inr (qz m), ?_, Or.inr ⟨m, rfl, hm', hmi'⟩⟩
    unfold gL_X11_framePair_61 g_X11_framePair_61
    rw [gp_9, gf_ms, h4, ga_6 (by omega) (by omega), bd_some, hS6, if_pos (by rw [qz_le (by omega) (by omega) (by omega) (by omega)]; omega)]
theorem m_fpair (hn : 100000 ≤ n) (G : BK b q S K P len f a ni j A J) (hbq : bq b q) (h4 : F 4 = q) (h0 : 0 ≤ k) (h1 : k < K) (hk : 2 ≤ a (b + 8) k) (i0 : -1 ≤ i) (i1 : i < 2147483648) : g_X11_framePair n 0 (qz k) (qz i) (ms F A J) = some (qz (if i = -1 then a (b + 23 + 2) (k + 1) - a (b + 23 + 2) k else if i < a (b + 23 + 2) (k + 1) - a (b + 23 + 2) k then 1000 * (a (b + 23 + 1) (a (b + 23 + 2) k + i) / 300) + (a (b + 23 + 1) (a (b + 23 + 2) k + i) - a (b + 23 + 1) (a (b + 23 + 2) k + i) / 300 * 300) else -2)) := by
  have hq := bq_q hbq
  obtain ⟨d1, d2, d3, d4, d5, d6⟩ := bk_d G h0 h1
  have d5 := d5 hk
  have hS0 : 0 ≤ S := G.2.1.1
  have hS : S ≤ 300 := G.2.1.2.1
  have hS6 : A 6 q = S := G.1.2.1
  have gv : ∀ y, 0 ≤ y → y < S → a (b + 7) y = A 5 (300 * q + y) ∧ (a (b + 7) y = 0 ∨ a (b + 7) y = 1) := fun y y0 y1 => by
    have := G.2.1.2.2.2.2.2.2.2.1 y y0 y1
    exact ⟨this.2.2.1, this.2.2.2⟩
  unfold g_X11_framePair g_X11_framePair_0
  have lp := lp_ix (b := gL_X11_framePair_5 n 0 (qz k) (qz i) (ms F A J)) (fun t c => ∃ m, c = (qz m, qz t) ∧ cnt (a (b + 23 + 1)) (a (b + 23 + 2) k) (a (b + 23 + 2) (k + 1)) (300 * t) m ∧ (i = -1 ∨ m ≤ i)) (Q := fun r => (∃ x y, r = .inl (qz x, qz y) ∧ 0 ≤ x ∧ x < y ∧ y < 300 ∧ 0 ≤ i ∧ i < a (b + 23 + 2) (k + 1) - a (b + 23 + 2) k ∧ a (b + 23 + 1) (a (b + 23 + 2) k + i) = 300 * x + y) ∨ (r = .inr (qz (a (b + 23 + 2) (k + 1) - a (b + 23 + 2) k)) ∧ (i = -1 ∨ a (b + 23 + 2) (k + 1) - a (b + 23 + 2) k ≤ i))) S (n := n) (i0 := 0) hS0 (by omega) (c0 := (qz 0, qz 0)) ⟨0, rfl, cnt_0 d3 (fun z hz => by obtain ⟨x', y', z1, z2, z3, z4, _⟩ := (d5 z).mp hz; omega), by omega⟩ ?_ ?_
  · obtain ⟨r, er, hr⟩ := lp
    rw [zl0, er, bd_some]
    rcases hr with ⟨x, y, rfl, z1, z2, z3, z4, z5, z6⟩ | ⟨rfl, z1⟩
    · simp only [Sum.elim_inl]
      rw [zl1000, qz_mul, qz_add, if_neg (by omega), if_pos z5, z6, show (300 * x + y) / 300 = x by omega, show 300 * x + y - x * 300 = y by omega]
    · simp only [Sum.elim_inr]
      have z : (-1 : Int32) = qz (-1) := rfl
      by_cases c : i = -1
      · rw [if_pos (by rw [c]; rfl), if_pos c]
      · rw [if_neg (by rw [z, qz_inj (by omega) (by omega) (by omega) (by omega)]; exact c), if_neg c, if_neg (by omega)]
        rfl
  · rintro t c t1 t2 ⟨m, rfl, hm, hmi⟩
    have gt := gv t (by omega) t2
    have eo : ¬(a (b + 7) t = 1 ∧ mf (a (b + 20 + 1)) (a (b + 20 + 2)) (a (b + 8)) (a (b + 11 + 1)) (a (b + 11 + 2)) k t) → cnt (a (b + 23 + 1)) (a (b + 23 + 2) k) (a (b + 23 + 2) (k + 1)) (300 * (t + 1)) m := by
      intro z
      refine cnt_out hm (by omega) (fun z' y1 y2 hz => ?_) (Or.inr trivial)
      obtain ⟨x', y', z1, z2, z3, z4, z5, z6, z7, z8, z9⟩ := (d5 z').mp hz
      have e1 : x' = t := by omega
      subst e1
      exact z ⟨z5, z8⟩
    unfold gL_X11_framePair_5 g_X11_framePair_5 g_X11_framePair_52 g_X11_framePair_53 g_X11_framePair_145
    simp only [zl0, zl1, zl300]
    rw [gp_9, gf_ms, h4, ga_6 (by omega) (by omega), bd_some, hS6, if_neg (by rw [qz_le (by omega) (by omega) (by omega) (by omega)]; omega), gp_8, qz_mul, qz_add, ga_5 (by omega) (by omega), bd_some, qz_add]
    by_cases c1 : A 5 (300 * q + t) = 0
    · rw [if_pos (by rw [c1]), m_fp_dead hn hq h4, bd_some, Sum.elim_inr]
      exact Or.inl ⟨_, rfl, m, rfl, eo (fun z => by omega), hmi⟩
    rw [if_neg (by rw [qz_inj (by omega) (by omega) (by omega) (by omega)]; exact c1), m_isMan hn G hbq h4 h0 h1 (by omega) (by omega), bd_some]
    by_cases c2 : mf (a (b + 20 + 1)) (a (b + 20 + 2)) (a (b + 8)) (a (b + 11 + 1)) (a (b + 11 + 2)) k t
    rotate_left
    · rw [qp_F c2, if_pos rfl, m_fp_dead hn hq h4, bd_some, Sum.elim_inr]
      exact Or.inl ⟨_, rfl, m, rfl, eo (fun z => c2 z.2), hmi⟩
    obtain ⟨r, er, hr⟩ := m_fp_in (x := t) (m := m) hn G hbq h4 h0 h1 hk i0 i1 t1 t2 (by omega) c2 (cnt_out hm (by omega) (fun z' y1 y2 hz => by
      obtain ⟨x', y', z1, z2, z3, z4, _⟩ := (d5 z').mp hz
      omega) (Or.inr trivial)) hmi
    rw [qp_T c2, if_neg n10, er, bd_some]
    rcases hr with ⟨y, rfl, z1, z2, z3, z4, z5⟩ | ⟨m2, rfl, z1, z2⟩
    · rw [Sum.elim_inl]
      exact Or.inr ⟨_, rfl, Or.inl ⟨t, y, rfl, t1, z1, by omega, z3, z4, z5⟩⟩
    · rw [Sum.elim_inr]
      refine Or.inl ⟨_, rfl, m2, rfl, cnt_out z1 (by omega) (fun z' y1 y2 hz => ?_) (Or.inr trivial), z2⟩
      obtain ⟨x', y', w1, w2, w3, w4, _⟩ := (d5 z').mp hz
      omega
  · rintro c ⟨m, rfl, hm, hmi⟩
    have em := cnt_end hm (fun z hz => by
      obtain ⟨x', y', w1, w2, w3, w4, _⟩ := (d5 z).mp hz
      omega)
    refine ⟨.inr (qz m), ?_, Or.inr ⟨by rw [em], by omega⟩⟩
    unfold gL_X11_framePair_5 g_X11_framePair_5
    rw [gp_9, gf_ms, h4, ga_6 (by omega) (by omega), bd_some, hS6, if_pos (by rw [qz_le (by omega) (by omega) (by omega) (by omega)]; omega)]
end FPA
