/-! out and thing -/
theorem ok_out : Ok_out Rel := by
  rintro n hn sC sM R a0
  have R' := R
  obtain ⟨q, b, b2, S, K, P, len, dl, f, d, a, ni, j, F, A, J, rfl, rfl, r1, r2, r3, r4, r5, r6, r7, r8, r9, ⟨s1, s2, s3, s4⟩, r11, r12, r13, r14⟩ := R'
  obtain ⟨w, w1, w2, rfl⟩ := qz_of a0
  by_cases c0 : w < 0
  · refine ⟨qz (-1), ?_, ?_, R⟩
    · unfold g_X10_out g_X10_out_0
      simp (disch := first | assumption | omega) only [qpT, qpF, qz_lit, qz_add, qz_mul, qz_neg, qz_sub, qz_inj, qz_lt, qz_le, qz_div, qp_0, qp_1, hp_bz_qp, hp_bz_0, hp_bz_1, if_pos]
    · unfold g_X11_out g_X11_out_0 g_X11_out_12
      simp (disch := first | assumption | omega) only [qpT, qpF, qz_lit, qz_add, qz_mul, qz_neg, qz_sub, qz_inj, qz_lt, qz_le, qz_div, qp_0, qp_1, hp_bz_qp, hp_bz_0, hp_bz_1, if_pos]
  by_cases c1 : F 80 ≤ w
  · refine ⟨qz (-1), ?_, ?_, R⟩
    · unfold g_X10_out g_X10_out_0
      simp (disch := first | assumption | omega) only [qpT, qpF, qz_lit, qz_add, qz_mul, qz_neg, qz_sub, qz_inj, qz_lt, qz_le, qz_div, qp_0, qp_1, hp_bz_qp, hp_bz_0, hp_bz_1, if_neg, if_pos, gpc_0_7, gf_cs, s1]
    · unfold g_X11_out g_X11_out_0 g_X11_out_12
      simp (disch := first | assumption | omega) only [qpT, qpF, qz_lit, qz_add, qz_mul, qz_neg, qz_sub, qz_inj, qz_lt, qz_le, qz_div, qp_0, qp_1, hp_bz_qp, hp_bz_0, hp_bz_1, if_neg, gf_ms]
  obtain ⟨e1, e2, e3⟩ := s4 w (by omega) (by omega)
  refine ⟨qz (A 57 w), ?_, ?_, R⟩
  · unfold g_X10_out g_X10_out_0
    simp (disch := first | assumption | omega) only [qpT, qpF, qz_lit, qz_add, qz_mul, qz_neg, qz_sub, qz_inj, qz_lt, qz_le, qz_div, qp_0, qp_1, hp_bz_qp, hp_bz_0, hp_bz_1, if_neg, gpc_0_7, gf_cs, s1]
    rcases r6 with ⟨z, _⟩ | ⟨z, _⟩
    · rw [z] at e1 ⊢
      simp (disch := first | assumption | omega) only [gpc_117_0, gac_118, bd_some]
      rw [e1]
    · rw [z] at e1 ⊢
      simp (disch := first | assumption | omega) only [gpc_119_0, gac_120, bd_some]
      rw [e1]
  · unfold g_X11_out g_X11_out_0
    simp (disch := first | assumption | omega) only [qpT, qpF, qz_lit, qz_add, qz_mul, qz_neg, qz_sub, qz_inj, qz_lt, qz_le, qz_div, qp_0, qp_1, hp_bz_qp, hp_bz_0, hp_bz_1, if_neg, if_pos, gf_ms, gp_0, gp_5, gp_6, gp_7, gp_8, gp_9, gp_10, gp_11, gp_12, gp_13, gp_14, gp_15, gp_16, gp_17, gp_18, gp_19, gp_20, gp_21, gp_22, gp_23, gp_24, gp_25, gp_26, gp_27, gp_28, gp_38, gp_39, gp_40, gp_41, gp_42, gp_44, gp_45, gp_47, gp_49, gp_51, gp_52, gp_56, gp_57, gp_58, gp_60, gp_61, gp_62, gp_63, gp_64, gp_65, gp_66, gp_68, gp_69, gp_70, gp_72, gp_73, gp_74, gp_75, gp_76, gp_77, gp_78, gp_79, gp_81, gp_83, gp_84, ga_57, bd_some]
