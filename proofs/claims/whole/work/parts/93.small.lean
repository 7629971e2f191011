/-! Small methods of the class's book and scope -/
section SMALL
variable {f : Nat → Nat → Int} {d : Nat → Nat} {a : Nat → Int → Int} {ni : Nat → Nat} {j : Nat → Int → Int64} {n b : Nat} {k i x : Int}
theorem c_isSt (hk : -2147483648 ≤ k) (hk2 : k < 2147483648) (h0 : 0 ≤ f b 5) (h1 : f b 5 ≤ 200) : g_X0_isStatement n b (qz k) (cs f d a ni j) = some (qp (0 ≤ k ∧ k < f b 5)) := by
  unfold g_X0_isStatement g_X0_isStatement_0
  by_cases q : k < 0
  · rw [qp_F (by omega)]
    simp (disch := first | assumption | omega) only [gf_cs, qpT, qpF, qz_lit, qz_add, qz_mul, qz_neg, qz_sub, qz_inj, qz_lt, qz_le, qz_div, qp_0, qp_1, hp_bz_qp, hp_bz_0, hp_bz_1, if_pos, if_neg, if_true, if_false, u2_a, u2_b, u2_c, u2_d, u1_s, u1_o, u1_1, v1_s, v1_o, v1_e, v1_1, v2_s, v2_o, v2_2, not_true_eq_false, not_false_eq_true]
  · by_cases q2 : f b 5 ≤ k
    · rw [qp_F (by omega)]
      simp (disch := first | assumption | omega) only [gf_cs, qpT, qpF, qz_lit, qz_add, qz_mul, qz_neg, qz_sub, qz_inj, qz_lt, qz_le, qz_div, qp_0, qp_1, hp_bz_qp, hp_bz_0, hp_bz_1, if_pos, if_neg, if_true, if_false, u2_a, u2_b, u2_c, u2_d, u1_s, u1_o, u1_1, v1_s, v1_o, v1_e, v1_1, v2_s, v2_o, v2_2, not_true_eq_false, not_false_eq_true]
    · rw [qp_T (by omega)]
      simp (disch := first | assumption | omega) only [gf_cs, qpT, qpF, qz_lit, qz_add, qz_mul, qz_neg, qz_sub, qz_inj, qz_lt, qz_le, qz_div, qp_0, qp_1, hp_bz_qp, hp_bz_0, hp_bz_1, if_pos, if_neg, if_true, if_false, u2_a, u2_b, u2_c, u2_d, u1_s, u1_o, u1_1, v1_s, v1_o, v1_e, v1_1, v2_s, v2_o, v2_2, not_true_eq_false, not_false_eq_true]
theorem c_isAs (hb : bks b) (hk : -2147483648 ≤ k) (hk2 : k < 2147483648) (h0 : 0 ≤ f b 5) (h1 : f b 5 ≤ 200) (hr : ∀ k, 0 ≤ k → k < f b 5 → 0 ≤ a (b + 8) k ∧ a (b + 8) k ≤ 3) : g_X0_isAssertion n b (qz k) (cs f d a ni j) = some (qp (0 ≤ k ∧ k < f b 5 ∧ 2 ≤ a (b + 8) k)) := by
  unfold g_X0_isAssertion g_X0_isAssertion_0
  rw [c_isSt hk hk2 h0 h1, bd_some]
  by_cases q : 0 ≤ k ∧ k < f b 5
  · obtain ⟨q1, q2⟩ := q
    have q3 := hr k q1 q2
    rw [qp_T ⟨q1, q2⟩]
    by_cases q4 : 2 ≤ a (b + 8) k
    · rw [qp_T ⟨q1, q2, q4⟩]
      simp (disch := first | assumption | omega) only [bd_some, gpb_6, gab_8, qpT, qpF, qz_lit, qz_add, qz_mul, qz_neg, qz_sub, qz_inj, qz_lt, qz_le, qz_div, qp_0, qp_1, hp_bz_qp, hp_bz_0, hp_bz_1, if_pos, if_neg, if_true, if_false, u2_a, u2_b, u2_c, u2_d, u1_s, u1_o, u1_1, v1_s, v1_o, v1_e, v1_1, v2_s, v2_o, v2_2, not_true_eq_false, not_false_eq_true, qz_1_0]
    · rw [qp_F (by omega)]
      simp (disch := first | assumption | omega) only [bd_some, gpb_6, gab_8, qpT, qpF, qz_lit, qz_add, qz_mul, qz_neg, qz_sub, qz_inj, qz_lt, qz_le, qz_div, qp_0, qp_1, hp_bz_qp, hp_bz_0, hp_bz_1, if_pos, if_neg, if_true, if_false, u2_a, u2_b, u2_c, u2_d, u1_s, u1_o, u1_1, v1_s, v1_o, v1_e, v1_1, v2_s, v2_o, v2_2, not_true_eq_false, not_false_eq_true, qz_1_0]
  · rw [qp_F q, qp_F (by omega)]
    simp (disch := first | assumption | omega) only [qpT, qpF, qz_lit, qz_add, qz_mul, qz_neg, qz_sub, qz_inj, qz_lt, qz_le, qz_div, qp_0, qp_1, hp_bz_qp, hp_bz_0, hp_bz_1, if_pos, if_neg, if_true, if_false, u2_a, u2_b, u2_c, u2_d, u1_s, u1_o, u1_1, v1_s, v1_o, v1_e, v1_1, v2_s, v2_o, v2_2, not_true_eq_false, not_false_eq_true]
theorem c_isPr (hb : bks b) (hk : -2147483648 ≤ k) (hk2 : k < 2147483648) (h0 : 0 ≤ f b 5) (h1 : f b 5 ≤ 200) (hr : ∀ k, 0 ≤ k → k < f b 5 → 0 ≤ a (b + 8) k ∧ a (b + 8) k ≤ 3) : g_X0_isProvable n b (qz k) (cs f d a ni j) = some (qp (0 ≤ k ∧ k < f b 5 ∧ a (b + 8) k = 3)) := by
  unfold g_X0_isProvable g_X0_isProvable_0
  rw [c_isSt hk hk2 h0 h1, bd_some]
  by_cases q : 0 ≤ k ∧ k < f b 5
  · obtain ⟨q1, q2⟩ := q
    have q3 := hr k q1 q2
    rw [qp_T ⟨q1, q2⟩]
    by_cases q4 : a (b + 8) k = 3
    · rw [qp_T ⟨q1, q2, q4⟩]
      simp (disch := first | assumption | omega) only [bd_some, gpb_6, gab_8, qpT, qpF, qz_lit, qz_add, qz_mul, qz_neg, qz_sub, qz_inj, qz_lt, qz_le, qz_div, qp_0, qp_1, hp_bz_qp, hp_bz_0, hp_bz_1, if_pos, if_neg, if_true, if_false, u2_a, u2_b, u2_c, u2_d, u1_s, u1_o, u1_1, v1_s, v1_o, v1_e, v1_1, v2_s, v2_o, v2_2, not_true_eq_false, not_false_eq_true, qz_1_0]
    · rw [qp_F (by omega)]
      simp (disch := first | assumption | omega) only [bd_some, gpb_6, gab_8, qpT, qpF, qz_lit, qz_add, qz_mul, qz_neg, qz_sub, qz_inj, qz_lt, qz_le, qz_div, qp_0, qp_1, hp_bz_qp, hp_bz_0, hp_bz_1, if_pos, if_neg, if_true, if_false, u2_a, u2_b, u2_c, u2_d, u1_s, u1_o, u1_1, v1_s, v1_o, v1_e, v1_1, v2_s, v2_o, v2_2, not_true_eq_false, not_false_eq_true, qz_1_0]
  · rw [qp_F q, qp_F (by omega)]
    simp (disch := first | assumption | omega) only [qpT, qpF, qz_lit, qz_add, qz_mul, qz_neg, qz_sub, qz_inj, qz_lt, qz_le, qz_div, qp_0, qp_1, hp_bz_qp, hp_bz_0, hp_bz_1, if_pos, if_neg, if_true, if_false, u2_a, u2_b, u2_c, u2_d, u1_s, u1_o, u1_1, v1_s, v1_o, v1_e, v1_1, v2_s, v2_o, v2_2, not_true_eq_false, not_false_eq_true]
theorem c_isVar (hb : bks b) (hk : -2147483648 ≤ k) (hk2 : k < 2147483648) (h0 : 0 ≤ f b 3) (h1 : f b 3 ≤ 300) (hr : ∀ k, 0 ≤ k → k < f b 3 → a (b + 7) k = 0 ∨ a (b + 7) k = 1) : g_X0_isVariable n b (qz k) (cs f d a ni j) = some (qp (0 ≤ k ∧ k < f b 3 ∧ a (b + 7) k = 1)) := by
  unfold g_X0_isVariable g_X0_isVariable_0
  by_cases q : k < 0
  · rw [qp_F (by omega)]
    simp (disch := first | assumption | omega) only [gf_cs, qpT, qpF, qz_lit, qz_add, qz_mul, qz_neg, qz_sub, qz_inj, qz_lt, qz_le, qz_div, qp_0, qp_1, hp_bz_qp, hp_bz_0, hp_bz_1, if_pos, if_neg, if_true, if_false, u2_a, u2_b, u2_c, u2_d, u1_s, u1_o, u1_1, v1_s, v1_o, v1_e, v1_1, v2_s, v2_o, v2_2, not_true_eq_false, not_false_eq_true]
  by_cases q2 : f b 3 ≤ k
  · rw [qp_F (by omega)]
    simp (disch := first | assumption | omega) only [gf_cs, qpT, qpF, qz_lit, qz_add, qz_mul, qz_neg, qz_sub, qz_inj, qz_lt, qz_le, qz_div, qp_0, qp_1, hp_bz_qp, hp_bz_0, hp_bz_1, if_pos, if_neg, if_true, if_false, u2_a, u2_b, u2_c, u2_d, u1_s, u1_o, u1_1, v1_s, v1_o, v1_e, v1_1, v2_s, v2_o, v2_2, not_true_eq_false, not_false_eq_true]
  rcases hr k (by omega) (by omega) with z | z
  · rw [qp_F (by omega)]
    simp (disch := first | assumption | omega) only [bd_some, gf_cs, gpb_4, gab_7, z, qpT, qpF, qz_lit, qz_add, qz_mul, qz_neg, qz_sub, qz_inj, qz_lt, qz_le, qz_div, qp_0, qp_1, hp_bz_qp, hp_bz_0, hp_bz_1, if_pos, if_neg, if_true, if_false, u2_a, u2_b, u2_c, u2_d, u1_s, u1_o, u1_1, v1_s, v1_o, v1_e, v1_1, v2_s, v2_o, v2_2, not_true_eq_false, not_false_eq_true]
  · rw [qp_T (by omega)]
    simp (disch := first | assumption | omega) only [bd_some, gf_cs, gpb_4, gab_7, z, qpT, qpF, qz_lit, qz_add, qz_mul, qz_neg, qz_sub, qz_inj, qz_lt, qz_le, qz_div, qp_0, qp_1, hp_bz_qp, hp_bz_0, hp_bz_1, if_pos, if_neg, if_true, if_false, u2_a, u2_b, u2_c, u2_d, u1_s, u1_o, u1_1, v1_s, v1_o, v1_e, v1_1, v2_s, v2_o, v2_2, not_true_eq_false, not_false_eq_true]
theorem c_isCon (hb : bks b) (hk : -2147483648 ≤ k) (hk2 : k < 2147483648) (h0 : 0 ≤ f b 3) (h1 : f b 3 ≤ 300) (hr : ∀ k, 0 ≤ k → k < f b 3 → a (b + 7) k = 0 ∨ a (b + 7) k = 1) : g_X0_isConstant n b (qz k) (cs f d a ni j) = some (qp (0 ≤ k ∧ k < f b 3 ∧ a (b + 7) k = 0)) := by
  unfold g_X0_isConstant g_X0_isConstant_0
  by_cases q : k < 0
  · rw [qp_F (by omega)]
    simp (disch := first | assumption | omega) only [gf_cs, qpT, qpF, qz_lit, qz_add, qz_mul, qz_neg, qz_sub, qz_inj, qz_lt, qz_le, qz_div, qp_0, qp_1, hp_bz_qp, hp_bz_0, hp_bz_1, if_pos, if_neg, if_true, if_false, u2_a, u2_b, u2_c, u2_d, u1_s, u1_o, u1_1, v1_s, v1_o, v1_e, v1_1, v2_s, v2_o, v2_2, not_true_eq_false, not_false_eq_true]
  by_cases q2 : f b 3 ≤ k
  · rw [qp_F (by omega)]
    simp (disch := first | assumption | omega) only [gf_cs, qpT, qpF, qz_lit, qz_add, qz_mul, qz_neg, qz_sub, qz_inj, qz_lt, qz_le, qz_div, qp_0, qp_1, hp_bz_qp, hp_bz_0, hp_bz_1, if_pos, if_neg, if_true, if_false, u2_a, u2_b, u2_c, u2_d, u1_s, u1_o, u1_1, v1_s, v1_o, v1_e, v1_1, v2_s, v2_o, v2_2, not_true_eq_false, not_false_eq_true]
  rcases hr k (by omega) (by omega) with z | z
  · rw [qp_T (by omega)]
    simp (disch := first | assumption | omega) only [bd_some, gf_cs, gpb_4, gab_7, z, qpT, qpF, qz_lit, qz_add, qz_mul, qz_neg, qz_sub, qz_inj, qz_lt, qz_le, qz_div, qp_0, qp_1, hp_bz_qp, hp_bz_0, hp_bz_1, if_pos, if_neg, if_true, if_false, u2_a, u2_b, u2_c, u2_d, u1_s, u1_o, u1_1, v1_s, v1_o, v1_e, v1_1, v2_s, v2_o, v2_2, not_true_eq_false, not_false_eq_true]
  · rw [qp_F (by omega)]
    simp (disch := first | assumption | omega) only [bd_some, gf_cs, gpb_4, gab_7, z, qpT, qpF, qz_lit, qz_add, qz_mul, qz_neg, qz_sub, qz_inj, qz_lt, qz_le, qz_div, qp_0, qp_1, hp_bz_qp, hp_bz_0, hp_bz_1, if_pos, if_neg, if_true, if_false, u2_a, u2_b, u2_c, u2_d, u1_s, u1_o, u1_1, v1_s, v1_o, v1_e, v1_1, v2_s, v2_o, v2_2, not_true_eq_false, not_false_eq_true]
theorem c_inTok (hb : bks b) (h0 : f b 2 ≤ 8192) (h1 : 0 ≤ f b 2) (ht : byt (a (b + 2))) (hx : 0 ≤ x) (hx2 : x < 100000) : g_X0_isInToken n b (qz x) (cs f d a ni j) = some (qp (x < f b 2 ∧ 32 < a (b + 2) x)) := by
  unfold g_X0_isInToken g_X0_isInToken_0
  by_cases q : f b 2 ≤ x
  · rw [qp_F (by omega)]
    simp (disch := first | assumption | omega) only [gf_cs, qpT, qpF, qz_lit, qz_add, qz_mul, qz_neg, qz_sub, qz_inj, qz_lt, qz_le, qz_div, qp_0, qp_1, hp_bz_qp, hp_bz_0, hp_bz_1, if_pos, if_neg, if_true, if_false, u2_a, u2_b, u2_c, u2_d, u1_s, u1_o, u1_1, v1_s, v1_o, v1_e, v1_1, v2_s, v2_o, v2_2, not_true_eq_false, not_false_eq_true]
  have t := ht x (by omega) (by omega)
  by_cases q2 : 32 < a (b + 2) x
  · rw [qp_T (by omega)]
    simp (disch := first | assumption | omega) only [bd_some, gf_cs, gpb_1, gab_2, qpT, qpF, qz_lit, qz_add, qz_mul, qz_neg, qz_sub, qz_inj, qz_lt, qz_le, qz_div, qp_0, qp_1, hp_bz_qp, hp_bz_0, hp_bz_1, if_pos, if_neg, if_true, if_false, u2_a, u2_b, u2_c, u2_d, u1_s, u1_o, u1_1, v1_s, v1_o, v1_e, v1_1, v2_s, v2_o, v2_2, not_true_eq_false, not_false_eq_true]
  · rw [qp_F (by omega)]
    simp (disch := first | assumption | omega) only [bd_some, gf_cs, gpb_1, gab_2, qpT, qpF, qz_lit, qz_add, qz_mul, qz_neg, qz_sub, qz_inj, qz_lt, qz_le, qz_div, qp_0, qp_1, hp_bz_qp, hp_bz_0, hp_bz_1, if_pos, if_neg, if_true, if_false, u2_a, u2_b, u2_c, u2_d, u1_s, u1_o, u1_1, v1_s, v1_o, v1_e, v1_1, v2_s, v2_o, v2_2, not_true_eq_false, not_false_eq_true]
theorem c_isAct (hk : -2147483648 ≤ x) (hk2 : x < 2147483648) (hr : ∀ k, 0 ≤ k → k < 300 → a 70 k = 0 ∨ a 70 k = 1) : g_X7_isActive n 66 (qz x) (cs f d a ni j) = some (qp (0 ≤ x ∧ x < 300 ∧ a 70 x = 1)) := by
  unfold g_X7_isActive g_X7_isActive_0
  by_cases q : x < 0
  · rw [qp_F (by omega)]
    simp (disch := first | assumption | omega) only [gf_cs, qpT, qpF, qz_lit, qz_add, qz_mul, qz_neg, qz_sub, qz_inj, qz_lt, qz_le, qz_div, qp_0, qp_1, hp_bz_qp, hp_bz_0, hp_bz_1, if_pos, if_neg, if_true, if_false, u2_a, u2_b, u2_c, u2_d, u1_s, u1_o, u1_1, v1_s, v1_o, v1_e, v1_1, v2_s, v2_o, v2_2, not_true_eq_false, not_false_eq_true]
  by_cases q2 : 300 ≤ x
  · rw [qp_F (by omega)]
    simp (disch := first | assumption | omega) only [gf_cs, qpT, qpF, qz_lit, qz_add, qz_mul, qz_neg, qz_sub, qz_inj, qz_lt, qz_le, qz_div, qp_0, qp_1, hp_bz_qp, hp_bz_0, hp_bz_1, if_pos, if_neg, if_true, if_false, u2_a, u2_b, u2_c, u2_d, u1_s, u1_o, u1_1, v1_s, v1_o, v1_e, v1_1, v2_s, v2_o, v2_2, not_true_eq_false, not_false_eq_true]
  rcases hr x (by omega) (by omega) with z | z
  · rw [qp_F (by omega)]
    simp (disch := first | assumption | omega) only [bd_some, gf_cs, gpc_66_5, gac_70, z, qpT, qpF, qz_lit, qz_add, qz_mul, qz_neg, qz_sub, qz_inj, qz_lt, qz_le, qz_div, qp_0, qp_1, hp_bz_qp, hp_bz_0, hp_bz_1, if_pos, if_neg, if_true, if_false, u2_a, u2_b, u2_c, u2_d, u1_s, u1_o, u1_1, v1_s, v1_o, v1_e, v1_1, v2_s, v2_o, v2_2, not_true_eq_false, not_false_eq_true]
  · rw [qp_T (by omega)]
    simp (disch := first | assumption | omega) only [bd_some, gf_cs, gpc_66_5, gac_70, z, qpT, qpF, qz_lit, qz_add, qz_mul, qz_neg, qz_sub, qz_inj, qz_lt, qz_le, qz_div, qp_0, qp_1, hp_bz_qp, hp_bz_0, hp_bz_1, if_pos, if_neg, if_true, if_false, u2_a, u2_b, u2_c, u2_d, u1_s, u1_o, u1_1, v1_s, v1_o, v1_e, v1_1, v2_s, v2_o, v2_2, not_true_eq_false, not_false_eq_true]
theorem c_isTyp (hk : -2147483648 ≤ x) (hk2 : x < 2147483648) (hr : ∀ k, 0 ≤ k → k < 300 → a 71 k = 0 ∨ a 71 k = 1) : g_X7_isTyped n 66 (qz x) (cs f d a ni j) = some (qp (0 ≤ x ∧ x < 300 ∧ a 71 x = 1)) := by
  unfold g_X7_isTyped g_X7_isTyped_0
  by_cases q : x < 0
  · rw [qp_F (by omega)]
    simp (disch := first | assumption | omega) only [gf_cs, qpT, qpF, qz_lit, qz_add, qz_mul, qz_neg, qz_sub, qz_inj, qz_lt, qz_le, qz_div, qp_0, qp_1, hp_bz_qp, hp_bz_0, hp_bz_1, if_pos, if_neg, if_true, if_false, u2_a, u2_b, u2_c, u2_d, u1_s, u1_o, u1_1, v1_s, v1_o, v1_e, v1_1, v2_s, v2_o, v2_2, not_true_eq_false, not_false_eq_true]
  by_cases q2 : 300 ≤ x
  · rw [qp_F (by omega)]
    simp (disch := first | assumption | omega) only [gf_cs, qpT, qpF, qz_lit, qz_add, qz_mul, qz_neg, qz_sub, qz_inj, qz_lt, qz_le, qz_div, qp_0, qp_1, hp_bz_qp, hp_bz_0, hp_bz_1, if_pos, if_neg, if_true, if_false, u2_a, u2_b, u2_c, u2_d, u1_s, u1_o, u1_1, v1_s, v1_o, v1_e, v1_1, v2_s, v2_o, v2_2, not_true_eq_false, not_false_eq_true]
  rcases hr x (by omega) (by omega) with z | z
  · rw [qp_F (by omega)]
    simp (disch := first | assumption | omega) only [bd_some, gf_cs, gpc_66_6, gac_71, z, qpT, qpF, qz_lit, qz_add, qz_mul, qz_neg, qz_sub, qz_inj, qz_lt, qz_le, qz_div, qp_0, qp_1, hp_bz_qp, hp_bz_0, hp_bz_1, if_pos, if_neg, if_true, if_false, u2_a, u2_b, u2_c, u2_d, u1_s, u1_o, u1_1, v1_s, v1_o, v1_e, v1_1, v2_s, v2_o, v2_2, not_true_eq_false, not_false_eq_true]
  · rw [qp_T (by omega)]
    simp (disch := first | assumption | omega) only [bd_some, gf_cs, gpc_66_6, gac_71, z, qpT, qpF, qz_lit, qz_add, qz_mul, qz_neg, qz_sub, qz_inj, qz_lt, qz_le, qz_div, qp_0, qp_1, hp_bz_qp, hp_bz_0, hp_bz_1, if_pos, if_neg, if_true, if_false, u2_a, u2_b, u2_c, u2_d, u1_s, u1_o, u1_1, v1_s, v1_o, v1_e, v1_1, v2_s, v2_o, v2_2, not_true_eq_false, not_false_eq_true]
end SMALL
