/-! What class and reference have in common between two calls -/
def Rbk (b : Nat) (q len : Int) (a A : Nat → Int → Int) : Prop := ∀ x, 0 ≤ x → x < len → a (b + 2) x = A 2 (8192 * q + x) ∧ 0 < a (b + 2) x ∧ a (b + 2) x < 127
def Rdr (b2 : Nat) (dl : Int) (f : Nat → Nat → Int) (a : Nat → Int → Int) (ni : Nat → Nat) (F : Nat → Int) (A : Nat → Int → Int) : Prop := RwA b2 f a ni ∧ f b2 2 = dl ∧ F 1 = dl ∧ 0 ≤ dl ∧ dl ≤ 8192 ∧ byt (a (b2 + 2)) ∧ txt (A 1) dl ∧ txs (a (b2 + 2)) (A 1) dl
def Rsh (s : Nat) (f : Nat → Nat → Int) (a : Nat → Int → Int) (F : Nat → Int) (A : Nat → Int → Int) : Prop := f s 1 = F 80 ∧ 0 ≤ F 80 ∧ F 80 ≤ 6000 ∧ ∀ x, 0 ≤ x → x < F 80 → a (s + 1) x = A 57 x ∧ 0 ≤ a (s + 1) x ∧ a (s + 1) x < 128
def Rtr (f : Nat → Nat → Int) (a : Nat → Int → Int) (ni : Nat → Nat) (F : Nat → Int) (A : Nat → Int → Int) : Prop := Rw (f 94 3) (f 94 2) (ni (94 + 1)) (nC0 (94 + 2)) 32768 (a (94 + 2)) ∧ f 94 3 = F 71 ∧ 0 ≤ F 71 ∧ F 71 ≤ 100 ∧ ∀ r, 0 ≤ r → r < F 71 → a (94 + 2) (r + 1) - a (94 + 2) r = A 49 r ∧ 0 ≤ A 49 r ∧ A 49 r ≤ 200 ∧ ∀ i, 0 ≤ i → i < A 49 r → a (94 + 1) (a (94 + 2) r + i) = A 48 (200 * r + i)
def Rmc (f : Nat → Nat → Int) (a : Nat → Int → Int) (ni : Nat → Nat) : Prop := Rw (f 84 3) (f 84 2) (ni (84 + 1)) (nC0 (84 + 2)) 32768 (a (84 + 2)) ∧ Rw (f 87 3) (f 87 2) (ni (87 + 1)) (nC0 (87 + 2)) 65536 (a (87 + 2)) ∧ Rw (f 97 3) (f 97 2) (ni (97 + 1)) (nC0 (97 + 2)) 65536 (a (97 + 2)) ∧ Rw (f 105 3) (f 105 2) (ni (105 + 1)) (nC0 (105 + 2)) 1024 (a (105 + 2))
def Rel0 (q : Int) (b b2 : Nat) (S K P len dl : Int) (f : Nat → Nat → Int) (d : Nat → Nat) (a : Nat → Int → Int) (ni : Nat → Nat) (j : Nat → Int → Int64) (F : Nat → Int) (A : Nat → Int → Int) (J : Nat → Int → Int64) : Prop :=
  bq b q ∧ bq b2 (1 - q) ∧ F 4 = q ∧ d 0 = b ∧ d 1 = b2 ∧ ((d 2 = 117 ∧ d 3 = 119) ∨ (d 2 = 119 ∧ d 3 = 117)) ∧ BK b q S K P len f a ni j A J ∧ Rbk b q len a A ∧ Rdr b2 dl f a ni F A ∧ Rsh (d 2) f a F A ∧ Rtr f a ni F A ∧ Rmc f a ni ∧ f 0 9 = F 2 ∧ f 0 10 = F 3
def Rel (sC sM : st_T) : Prop := ∃ (q : Int) (b b2 : Nat) (S K P len dl : Int) (f : Nat → Nat → Int) (d : Nat → Nat) (a : Nat → Int → Int) (ni : Nat → Nat) (j : Nat → Int → Int64) (F : Nat → Int) (A : Nat → Int → Int) (J : Nat → Int → Int64), sC = cs f d a ni j ∧ sM = ms F A J ∧ Rel0 q b b2 S K P len dl f d a ni j F A J
theorem ok_place : Ok_place Rel := by
  rintro n hn sC sM R _
  have R' := R
  obtain ⟨q, b, b2, S, K, P, len, dl, f, d, a, ni, j, F, A, J, rfl, rfl, r1, r2, r3, r4, r5, r6, r7, r8, r9, r10, r11, r12, r13, r14⟩ := R'
  refine ⟨qz (F 2), ?_, ?_, R⟩
  · unfold g_X10_place g_X10_place_0
    rw [gf_cs, r13]
  · unfold g_X11_place g_X11_place_0
    rw [gf_ms]
theorem ok_step : Ok_step Rel := by
  rintro n hn sC sM R _
  have R' := R
  obtain ⟨q, b, b2, S, K, P, len, dl, f, d, a, ni, j, F, A, J, rfl, rfl, r1, r2, r3, r4, r5, r6, r7, r8, r9, r10, r11, r12, r13, r14⟩ := R'
  refine ⟨qz (F 3), ?_, ?_, R⟩
  · unfold g_X10_step g_X10_step_0
    rw [gf_cs, r14]
  · unfold g_X11_step g_X11_step_0
    rw [gf_ms]
theorem ok_count : Ok_count Rel := by
  rintro n hn sC sM R a0
  have R' := R
  obtain ⟨q, b, b2, S, K, P, len, dl, f, d, a, ni, j, F, A, J, rfl, rfl, r1, r2, r3, r4, r5, r6, r7, r8, r9, r10, r11, r12, r13, r14⟩ := R'
  obtain ⟨w, w1, w2, rfl⟩ := qz_of a0
  have hq := bq_q r1
  obtain ⟨⟨b1, b2', b3, b4, b5, b6, b7, b8, b9⟩, _⟩ := r7
  have s1 : f (d 2) 1 = F 80 := r10.1
  have s2 : f b2 2 = dl ∧ F 1 = dl := ⟨r9.2.1, r9.2.2.1⟩
  have s3 : f 94 3 = F 71 := r11.2.1
  by_cases w0 : w = 0
  · refine ⟨qz S, ?_, ?_, R⟩
    · unfold g_X10_count g_X10_count_0
      simp (disch := first | assumption | omega) only [qpT, qpF, qz_lit, qz_add, qz_mul, qz_neg, qz_sub, qz_inj, qz_lt, qz_le, qz_div, qp_0, qp_1, hp_bz_qp, hp_bz_0, hp_bz_1, if_true, gpc_0_0, gf_cs, r4, b1, w0]
    · unfold g_X11_count g_X11_count_0
      simp (disch := first | assumption | omega) only [qpT, qpF, qz_lit, qz_add, qz_mul, qz_neg, qz_sub, qz_inj, qz_lt, qz_le, qz_div, qp_0, qp_1, hp_bz_qp, hp_bz_0, hp_bz_1, if_true, gf_ms, r3, gp_0, gp_5, gp_6, gp_7, gp_8, gp_9, gp_10, gp_11, gp_12, gp_13, gp_14, gp_15, gp_16, gp_17, gp_18, gp_19, gp_20, gp_21, gp_22, gp_23, gp_24, gp_25, gp_26, gp_27, gp_28, gp_38, gp_39, gp_40, gp_41, gp_42, gp_44, gp_45, gp_47, gp_49, gp_51, gp_52, gp_56, gp_57, gp_58, gp_60, gp_61, gp_62, gp_63, gp_64, gp_65, gp_66, gp_68, gp_69, gp_70, gp_72, gp_73, gp_74, gp_75, gp_76, gp_77, gp_78, gp_79, gp_81, gp_83, gp_84, ga_6, b2', bd_some, w0]
  by_cases w1' : w = 1
  · refine ⟨qz K, ?_, ?_, R⟩
    · unfold g_X10_count g_X10_count_0
      simp (disch := first | assumption | omega) only [qpT, qpF, qz_lit, qz_add, qz_mul, qz_neg, qz_sub, qz_inj, qz_lt, qz_le, qz_div, qp_0, qp_1, hp_bz_qp, hp_bz_0, hp_bz_1, if_true, if_neg, gpc_0_0, gf_cs, r4, b3, w1']
    · unfold g_X11_count g_X11_count_0
      simp (disch := first | assumption | omega) only [qpT, qpF, qz_lit, qz_add, qz_mul, qz_neg, qz_sub, qz_inj, qz_lt, qz_le, qz_div, qp_0, qp_1, hp_bz_qp, hp_bz_0, hp_bz_1, if_true, if_neg, gf_ms, r3, gp_0, gp_5, gp_6, gp_7, gp_8, gp_9, gp_10, gp_11, gp_12, gp_13, gp_14, gp_15, gp_16, gp_17, gp_18, gp_19, gp_20, gp_21, gp_22, gp_23, gp_24, gp_25, gp_26, gp_27, gp_28, gp_38, gp_39, gp_40, gp_41, gp_42, gp_44, gp_45, gp_47, gp_49, gp_51, gp_52, gp_56, gp_57, gp_58, gp_60, gp_61, gp_62, gp_63, gp_64, gp_65, gp_66, gp_68, gp_69, gp_70, gp_72, gp_73, gp_74, gp_75, gp_76, gp_77, gp_78, gp_79, gp_81, gp_83, gp_84, ga_15, b4, bd_some, w1']
  by_cases w2' : w = 2
  · refine ⟨qz dl, ?_, ?_, R⟩
    · unfold g_X10_count g_X10_count_0
      simp (disch := first | assumption | omega) only [qpT, qpF, qz_lit, qz_add, qz_mul, qz_neg, qz_sub, qz_inj, qz_lt, qz_le, qz_div, qp_0, qp_1, hp_bz_qp, hp_bz_0, hp_bz_1, if_true, if_neg, gpc_0_1, gf_cs, r5, s2.1, w2']
    · unfold g_X11_count g_X11_count_0
      simp (disch := first | assumption | omega) only [qpT, qpF, qz_lit, qz_add, qz_mul, qz_neg, qz_sub, qz_inj, qz_lt, qz_le, qz_div, qp_0, qp_1, hp_bz_qp, hp_bz_0, hp_bz_1, if_true, if_neg, gf_ms, s2.2, w2']
  by_cases w3' : w = 3
  · refine ⟨qz (F 80), ?_, ?_, R⟩
    · unfold g_X10_count g_X10_count_0
      simp (disch := first | assumption | omega) only [qpT, qpF, qz_lit, qz_add, qz_mul, qz_neg, qz_sub, qz_inj, qz_lt, qz_le, qz_div, qp_0, qp_1, hp_bz_qp, hp_bz_0, hp_bz_1, if_true, if_neg, gpc_0_7, gf_cs, s1, w3']
    · unfold g_X11_count g_X11_count_0
      simp (disch := first | assumption | omega) only [qpT, qpF, qz_lit, qz_add, qz_mul, qz_neg, qz_sub, qz_inj, qz_lt, qz_le, qz_div, qp_0, qp_1, hp_bz_qp, hp_bz_0, hp_bz_1, if_true, if_neg, gf_ms, w3']
  by_cases w4' : w = 4
  · refine ⟨qz (F 71), ?_, ?_, R⟩
    · unfold g_X10_count g_X10_count_0
      simp (disch := first | assumption | omega) only [qpT, qpF, qz_lit, qz_add, qz_mul, qz_neg, qz_sub, qz_inj, qz_lt, qz_le, qz_div, qp_0, qp_1, hp_bz_qp, hp_bz_0, hp_bz_1, if_true, if_neg, gpc_0_5, gpc_93_0, gf_cs, s3, w4']
    · unfold g_X11_count g_X11_count_0
      simp (disch := first | assumption | omega) only [qpT, qpF, qz_lit, qz_add, qz_mul, qz_neg, qz_sub, qz_inj, qz_lt, qz_le, qz_div, qp_0, qp_1, hp_bz_qp, hp_bz_0, hp_bz_1, if_true, if_neg, gf_ms, w4']
  · refine ⟨qz (-1), ?_, ?_, R⟩
    · unfold g_X10_count g_X10_count_0
      simp (disch := first | assumption | omega) only [qpT, qpF, qz_lit, qz_add, qz_mul, qz_neg, qz_sub, qz_inj, qz_lt, qz_le, qz_div, qp_0, qp_1, hp_bz_qp, hp_bz_0, hp_bz_1, if_neg]
    · unfold g_X11_count g_X11_count_0
      simp (disch := first | assumption | omega) only [qpT, qpF, qz_lit, qz_add, qz_mul, qz_neg, qz_sub, qz_inj, qz_lt, qz_le, qz_div, qp_0, qp_1, hp_bz_qp, hp_bz_0, hp_bz_1, if_neg]
