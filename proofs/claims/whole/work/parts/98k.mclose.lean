/-! Blocks: the reference -/
section MCL
variable {F : Nat → Int} {A : Nat → Int → Int} {J : Nat → Int → Int64} {n : Nat} {q S K D om : Int}
theorem m_close1 (hn : 100000 ≤ n) (h32 : F 32 = q) (hq : 0 ≤ q ∧ q ≤ 1) (hS : A 6 q = S) (hS0 : 0 ≤ S) (hS1 : S ≤ 300) (h33 : F 33 = D) (hD : 0 ≤ D ∧ D ≤ 16) (hr : ∀ x, 0 ≤ x → x < 300 → -1 ≤ A 26 x ∧ A 26 x ≤ 16) : ∃ act2 : Int → Int, hp_lp (gL_X11_closeBlock_2 n 0) n (qz 0, ms F A J) = some (ms F (u1 A 26 act2) J) ∧ ∀ x, (0 ≤ x ∧ x < S ∧ A 26 x = D → act2 x = -1) ∧ (¬(0 ≤ x ∧ x < S ∧ A 26 x = D) → act2 x = A 26 x) := by
  have lp := lp_inv (b := gL_X11_closeBlock_2 n 0) (fun t c => ∃ act2 : Int → Int, c = (qz t, ms F (u1 A 26 act2) J) ∧ ∀ x, (0 ≤ x ∧ x < t ∧ A 26 x = D → act2 x = -1) ∧ (¬(0 ≤ x ∧ x < t ∧ A 26 x = D) → act2 x = A 26 x)) (Q := fun c => ∃ act2 : Int → Int, c = ms F (u1 A 26 act2) J ∧ ∀ x, (0 ≤ x ∧ x < S ∧ A 26 x = D → act2 x = -1) ∧ (¬(0 ≤ x ∧ x < S ∧ A 26 x = D) → act2 x = A 26 x)) S (n := n) (i0 := 0) hS0 (by omega) (c0 := (qz 0, ms F A J)) ?_ ?_ ?_
  · obtain ⟨c, e, act2, rfl, h⟩ := lp
    exact ⟨act2, e, h⟩
  · exact ⟨A 26, by rw [u1_id (f := A) rfl], fun x => ⟨fun z => by omega, fun _ => rfl⟩⟩
  · rintro t c t1 t2 ⟨act2, rfl, h⟩
    have e1 : act2 t = A 26 t := (h t).2 (by omega)
    have hr' := hr t t1 (by omega)
    by_cases q1 : A 26 t = D
    · refine ⟨_, ?_, v1 act2 t (-1), rfl, fun x => ⟨fun z => ?_, fun z => ?_⟩⟩
      · unfold gL_X11_closeBlock_2 g_X11_closeBlock_2 g_X11_closeBlock_43
        simp (disch := first | assumption | omega) only [qpT, qpF, qz_lit, qz_add, qz_mul, qz_neg, qz_sub, qz_inj, qz_lt, qz_le, qz_div, qp_0, qp_1, hp_bz_qp, hp_bz_0, hp_bz_1, if_neg, if_true, gf_ms, h32, h33, gp_0, gp_5, gp_6, gp_7, gp_8, gp_9, gp_10, gp_11, gp_12, gp_13, gp_14, gp_15, gp_16, gp_17, gp_18, gp_19, gp_20, gp_21, gp_22, gp_23, gp_24, gp_25, gp_26, gp_27, gp_28, gp_38, gp_39, gp_40, gp_41, gp_42, gp_44, gp_45, gp_47, gp_49, gp_51, gp_52, gp_56, gp_57, gp_58, gp_60, gp_61, gp_62, gp_63, gp_64, gp_65, gp_66, gp_68, gp_69, gp_70, gp_72, gp_73, gp_74, gp_75, gp_76, gp_77, gp_78, gp_79, gp_81, gp_83, gp_84, ga_6, ga_26, ua_26, u1_o, u1_s, hS, bd_some, e1, q1]
        rw [v2_u1, u1_s, u1_1]
      · by_cases q2 : x = t
        · rw [q2, v1_s]
        · rw [v1_o q2]; exact (h x).1 ⟨z.1, by omega, z.2.2⟩
      · have q2 : x ≠ t := fun y => z ⟨by omega, by omega, by rw [y]; exact q1⟩
        rw [v1_o q2]; exact (h x).2 (fun y => z ⟨y.1, by omega, y.2.2⟩)
    · refine ⟨_, ?_, act2, rfl, fun x => ⟨fun z => ?_, fun z => ?_⟩⟩
      · unfold gL_X11_closeBlock_2 g_X11_closeBlock_2 g_X11_closeBlock_43
        simp (disch := first | assumption | omega) only [qpT, qpF, qz_lit, qz_add, qz_mul, qz_neg, qz_sub, qz_inj, qz_lt, qz_le, qz_div, qp_0, qp_1, hp_bz_qp, hp_bz_0, hp_bz_1, if_neg, if_false, gf_ms, h32, h33, gp_0, gp_5, gp_6, gp_7, gp_8, gp_9, gp_10, gp_11, gp_12, gp_13, gp_14, gp_15, gp_16, gp_17, gp_18, gp_19, gp_20, gp_21, gp_22, gp_23, gp_24, gp_25, gp_26, gp_27, gp_28, gp_38, gp_39, gp_40, gp_41, gp_42, gp_44, gp_45, gp_47, gp_49, gp_51, gp_52, gp_56, gp_57, gp_58, gp_60, gp_61, gp_62, gp_63, gp_64, gp_65, gp_66, gp_68, gp_69, gp_70, gp_72, gp_73, gp_74, gp_75, gp_76, gp_77, gp_78, gp_79, gp_81, gp_83, gp_84, ga_6, ga_26, ua_26, u1_o, u1_s, hS, bd_some, e1, q1]
        rw [v2_u1, u1_s, u1_1]
        have : v1 act2 t (A 26 t) = act2 := by
          funext x
          by_cases q2 : x = t
          · rw [q2, v1_s, e1]
          · rw [v1_o q2]
        rw [this]
      · have q2 : x ≠ t := fun y => q1 (by rw [← y]; exact z.2.2)
        exact (h x).1 ⟨z.1, by omega, z.2.2⟩
      · by_cases q2 : x = t
        · rw [q2]; exact e1
        · exact (h x).2 (fun y => z ⟨y.1, by omega, y.2.2⟩)
  · rintro c ⟨act2, rfl, h⟩
    refine ⟨_, ?_, act2, rfl, h⟩
    unfold gL_X11_closeBlock_2 g_X11_closeBlock_2
    simp (disch := first | assumption | omega) only [qpT, qpF, qz_lit, qz_add, qz_mul, qz_neg, qz_sub, qz_inj, qz_lt, qz_le, qz_div, qp_0, qp_1, hp_bz_qp, hp_bz_0, hp_bz_1, if_pos, gf_ms, h32, gp_0, gp_5, gp_6, gp_7, gp_8, gp_9, gp_10, gp_11, gp_12, gp_13, gp_14, gp_15, gp_16, gp_17, gp_18, gp_19, gp_20, gp_21, gp_22, gp_23, gp_24, gp_25, gp_26, gp_27, gp_28, gp_38, gp_39, gp_40, gp_41, gp_42, gp_44, gp_45, gp_47, gp_49, gp_51, gp_52, gp_56, gp_57, gp_58, gp_60, gp_61, gp_62, gp_63, gp_64, gp_65, gp_66, gp_68, gp_69, gp_70, gp_72, gp_73, gp_74, gp_75, gp_76, gp_77, gp_78, gp_79, gp_81, gp_83, gp_84, ga_6, u1_o, hS, bd_some]
theorem m_close2 (hn : 100000 ≤ n) (h32 : F 32 = q) (hq : 0 ≤ q ∧ q ≤ 1) (hK : A 15 q = K) (hK0 : 0 ≤ K) (hK1 : K ≤ 200) (h33 : F 33 = D) (hD : 0 ≤ D ∧ D ≤ 16) (hr : ∀ k, 0 ≤ k → k < K → (A 28 k = 0 ∨ A 28 k = 1) ∧ 0 ≤ A 10 (200 * q + k) ∧ A 10 (200 * q + k) ≤ 16 ∧ 0 ≤ A 7 (200 * q + k) ∧ A 7 (200 * q + k) ≤ 3 ∧ (A 7 (200 * q + k) = 0 → 0 ≤ A 11 (200 * q + k) ∧ A 11 (200 * q + k) + 1 < 4096 ∧ 0 ≤ A 16 (4096 * q + A 11 (200 * q + k) + 1) ∧ A 16 (4096 * q + A 11 (200 * q + k) + 1) < 300)) :
    ∃ isA2 tf2 : Int → Int, hp_lp (gL_X11_closeBlock_52 n 0) n (qz 0, ms F A J) = some (ms F (u1 (u1 A 28 isA2) 27 tf2) J) ∧ (∀ k, (0 ≤ k ∧ k < K ∧ A 28 k = 1 ∧ A 10 (200 * q + k) = D → isA2 k = 0) ∧ (¬(0 ≤ k ∧ k < K ∧ A 28 k = 1 ∧ A 10 (200 * q + k) = D) → isA2 k = A 28 k)) ∧ ∀ x, ((∃ k, 0 ≤ k ∧ k < K ∧ A 28 k = 1 ∧ A 10 (200 * q + k) = D ∧ A 7 (200 * q + k) = 0 ∧ A 16 (4096 * q + A 11 (200 * q + k) + 1) = x) → tf2 x = -1) ∧ (¬(∃ k, 0 ≤ k ∧ k < K ∧ A 28 k = 1 ∧ A 10 (200 * q + k) = D ∧ A 7 (200 * q + k) = 0 ∧ A 16 (4096 * q + A 11 (200 * q + k) + 1) = x) → tf2 x = A 27 x) := by
  have lp := lp_inv (b := gL_X11_closeBlock_52 n 0) (fun t c => ∃ isA2 tf2 : Int → Int, c = (qz t, ms F (u1 (u1 A 28 isA2) 27 tf2) J) ∧ (∀ k, (0 ≤ k ∧ k < t ∧ A 28 k = 1 ∧ A 10 (200 * q + k) = D → isA2 k = 0) ∧ (¬(0 ≤ k ∧ k < t ∧ A 28 k = 1 ∧ A 10 (200 * q + k) = D) → isA2 k = A 28 k)) ∧ ∀ x, ((∃ k, 0 ≤ k ∧ k < t ∧ A 28 k = 1 ∧ A 10 (200 * q + k) = D ∧ A 7 (200 * q + k) = 0 ∧ A 16 (4096 * q + A 11 (200 * q + k) + 1) = x) → tf2 x = -1) ∧ (¬(∃ k, 0 ≤ k ∧ k < t ∧ A 28 k = 1 ∧ A 10 (200 * q + k) = D ∧ A 7 (200 * q + k) = 0 ∧ A 16 (4096 * q + A 11 (200 * q + k) + 1) = x) → tf2 x = A 27 x))
    (Q := fun c => ∃ isA2 tf2 : Int → Int, c = ms F (u1 (u1 A 28 isA2) 27 tf2) J ∧ (∀ k, (0 ≤ k ∧ k < K ∧ A 28 k = 1 ∧ A 10 (200 * q + k) = D → isA2 k = 0) ∧ (¬(0 ≤ k ∧ k < K ∧ A 28 k = 1 ∧ A 10 (200 * q + k) = D) → isA2 k = A 28 k)) ∧ ∀ x, ((∃ k, 0 ≤ k ∧ k < K ∧ A 28 k = 1 ∧ A 10 (200 * q + k) = D ∧ A 7 (200 * q + k) = 0 ∧ A 16 (4096 * q + A 11 (200 * q + k) + 1) = x) → tf2 x = -1) ∧ (¬(∃ k, 0 ≤ k ∧ k < K ∧ A 28 k = 1 ∧ A 10 (200 * q + k) = D ∧ A 7 (200 * q + k) = 0 ∧ A 16 (4096 * q + A 11 (200 * q + k) + 1) = x) → tf2 x = A 27 x)) K (n := n) (i0 := 0) hK0 (by omega) (c0 := (qz 0, ms F A J)) ?_ ?_ ?_
  · obtain ⟨c, e, isA2, tf2, rfl, h⟩ := lp
    exact ⟨isA2, tf2, e, h⟩
  · refine ⟨A 28, A 27, ?_, fun k => ⟨fun z => by omega, fun _ => rfl⟩, fun x => ⟨fun ⟨k, k1, k2, _⟩ => by omega, fun _ => rfl⟩⟩
    rw [u1_id (f := A) rfl, u1_id (f := A) rfl]
  · rintro t c t1 t2 ⟨isA2, tf2, rfl, h1, h2⟩
    obtain ⟨r1, r2, r3, r4, r5, r6⟩ := hr t t1 t2
    have e1 : isA2 t = A 28 t := (h1 t).2 (by omega)
    have keep : ¬(A 28 t = 1 ∧ A 10 (200 * q + t) = D) → (∀ k, (0 ≤ k ∧ k < t + 1 ∧ A 28 k = 1 ∧ A 10 (200 * q + k) = D → isA2 k = 0) ∧ (¬(0 ≤ k ∧ k < t + 1 ∧ A 28 k = 1 ∧ A 10 (200 * q + k) = D) → isA2 k = A 28 k)) ∧ ∀ x, ((∃ k, 0 ≤ k ∧ k < t + 1 ∧ A 28 k = 1 ∧ A 10 (200 * q + k) = D ∧ A 7 (200 * q + k) = 0 ∧ A 16 (4096 * q + A 11 (200 * q + k) + 1) = x) → tf2 x = -1) ∧ (¬(∃ k, 0 ≤ k ∧ k < t + 1 ∧ A 28 k = 1 ∧ A 10 (200 * q + k) = D ∧ A 7 (200 * q + k) = 0 ∧ A 16 (4096 * q + A 11 (200 * q + k) + 1) = x) → tf2 x = A 27 x) := by
      intro hne
      refine ⟨fun k => ⟨fun z => ?_, fun z => ?_⟩, fun x => ⟨?_, fun z => ?_⟩⟩
      · have : k ≠ t := fun y => hne (by rw [← y]; exact z.2.2)
        exact (h1 k).1 ⟨z.1, by omega, z.2.2⟩
      · exact (h1 k).2 (fun y => z ⟨y.1, by omega, y.2.2⟩)
      · rintro ⟨k, k1, k2, k3, k4, k5⟩
        have : k ≠ t := fun y => hne (by rw [← y]; exact ⟨k3, k4⟩)
        exact (h2 x).1 ⟨k, k1, by omega, k3, k4, k5⟩
      · exact (h2 x).2 (fun ⟨k, k1, k2, k3⟩ => z ⟨k, k1, by omega, k3⟩)
    have hisA : A 28 t = 1 → A 10 (200 * q + t) = D → ∀ k, (0 ≤ k ∧ k < t + 1 ∧ A 28 k = 1 ∧ A 10 (200 * q + k) = D → v1 isA2 t 0 k = 0) ∧ (¬(0 ≤ k ∧ k < t + 1 ∧ A 28 k = 1 ∧ A 10 (200 * q + k) = D) → v1 isA2 t 0 k = A 28 k) := by
      intro y1 y2 k
      refine ⟨fun z => ?_, fun z => ?_⟩
      · by_cases e : k = t
        · rw [e, v1_s]
        · rw [v1_o e]; exact (h1 k).1 ⟨z.1, by omega, z.2.2⟩
      · have e : k ≠ t := fun y => z ⟨by omega, by omega, by rw [y]; exact ⟨y1, y2⟩⟩
        rw [v1_o e]; exact (h1 k).2 (fun y => z ⟨y.1, by omega, y.2.2⟩)
    by_cases q0 : A 28 t = 0
    · refine ⟨_, ?_, isA2, tf2, rfl, keep (by omega)⟩
      unfold gL_X11_closeBlock_52 g_X11_closeBlock_52 g_X11_closeBlock_142
      simp (disch := first | assumption | omega) only [qpT, qpF, qz_lit, qz_add, qz_mul, qz_neg, qz_sub, qz_inj, qz_lt, qz_le, qz_div, qp_0, qp_1, hp_bz_qp, hp_bz_0, hp_bz_1, if_neg, if_true, gf_ms, h32, h33, gp_0, gp_5, gp_6, gp_7, gp_8, gp_9, gp_10, gp_11, gp_12, gp_13, gp_14, gp_15, gp_16, gp_17, gp_18, gp_19, gp_20, gp_21, gp_22, gp_23, gp_24, gp_25, gp_26, gp_27, gp_28, gp_38, gp_39, gp_40, gp_41, gp_42, gp_44, gp_45, gp_47, gp_49, gp_51, gp_52, gp_56, gp_57, gp_58, gp_60, gp_61, gp_62, gp_63, gp_64, gp_65, gp_66, gp_68, gp_69, gp_70, gp_72, gp_73, gp_74, gp_75, gp_76, gp_77, gp_78, gp_79, gp_81, gp_83, gp_84, ga_15, ga_28, u1_o, u1_s, hK, bd_some, e1, q0]
    have q0' : A 28 t = 1 := by omega
    by_cases q1 : A 10 (200 * q + t) = D
    · by_cases q2 : A 7 (200 * q + t) = 0
      · obtain ⟨p1, p2, p3, p4⟩ := r6 q2
        refine ⟨_, ?_, v1 isA2 t 0, v1 tf2 (A 16 (4096 * q + A 11 (200 * q + t) + 1)) (-1), rfl, hisA q0' q1, fun x => ⟨?_, fun z => ?_⟩⟩
        · unfold gL_X11_closeBlock_52 g_X11_closeBlock_52 g_X11_closeBlock_142
          simp (disch := first | assumption | omega) only [qpT, qpF, qz_lit, qz_add, qz_mul, qz_neg, qz_sub, qz_inj, qz_lt, qz_le, qz_div, qp_0, qp_1, hp_bz_qp, hp_bz_0, hp_bz_1, if_neg, if_true, if_false, gf_ms, h32, h33, gp_0, gp_5, gp_6, gp_7, gp_8, gp_9, gp_10, gp_11, gp_12, gp_13, gp_14, gp_15, gp_16, gp_17, gp_18, gp_19, gp_20, gp_21, gp_22, gp_23, gp_24, gp_25, gp_26, gp_27, gp_28, gp_38, gp_39, gp_40, gp_41, gp_42, gp_44, gp_45, gp_47, gp_49, gp_51, gp_52, gp_56, gp_57, gp_58, gp_60, gp_61, gp_62, gp_63, gp_64, gp_65, gp_66, gp_68, gp_69, gp_70, gp_72, gp_73, gp_74, gp_75, gp_76, gp_77, gp_78, gp_79, gp_81, gp_83, gp_84, ga_15, ga_28, ga_10, ga_7, ga_11, ga_16, ua_28, ua_27, u1_o, u1_s, v2_o, hK, bd_some, e1, q0', q1, q2]
          rw [v2_u1, v2_u1]
          simp (disch := omega) only [u1_o, u1_s]
          rw [u1_sw (i := 27) (k := 28) (by decide), u1_1, u1_1]
        · rintro ⟨k, k1, k2, k3, k4, k5, k6⟩
          by_cases e : x = A 16 (4096 * q + A 11 (200 * q + t) + 1)
          · rw [e, v1_s]
          · rw [v1_o e]
            have : k ≠ t := fun y => e (by rw [← k6, y])
            exact (h2 x).1 ⟨k, k1, by omega, k3, k4, k5, k6⟩
        · have e : x ≠ A 16 (4096 * q + A 11 (200 * q + t) + 1) := fun y => z ⟨t, t1, by omega, q0', q1, q2, y.symm⟩
          rw [v1_o e]
          exact (h2 x).2 (fun ⟨k, k1, k2, k3⟩ => z ⟨k, k1, by omega, k3⟩)
      · refine ⟨_, ?_, v1 isA2 t 0, tf2, rfl, hisA q0' q1, fun x => ⟨?_, fun z => ?_⟩⟩
        · unfold gL_X11_closeBlock_52 g_X11_closeBlock_52 g_X11_closeBlock_142
          simp (disch := first | assumption | omega) only [qpT, qpF, qz_lit, qz_add, qz_mul, qz_neg, qz_sub, qz_inj, qz_lt, qz_le, qz_div, qp_0, qp_1, hp_bz_qp, hp_bz_0, hp_bz_1, if_neg, if_true, if_false, gf_ms, h32, h33, gp_0, gp_5, gp_6, gp_7, gp_8, gp_9, gp_10, gp_11, gp_12, gp_13, gp_14, gp_15, gp_16, gp_17, gp_18, gp_19, gp_20, gp_21, gp_22, gp_23, gp_24, gp_25, gp_26, gp_27, gp_28, gp_38, gp_39, gp_40, gp_41, gp_42, gp_44, gp_45, gp_47, gp_49, gp_51, gp_52, gp_56, gp_57, gp_58, gp_60, gp_61, gp_62, gp_63, gp_64, gp_65, gp_66, gp_68, gp_69, gp_70, gp_72, gp_73, gp_74, gp_75, gp_76, gp_77, gp_78, gp_79, gp_81, gp_83, gp_84, ga_15, ga_28, ga_10, ga_7, ua_28, u1_o, u1_s, v2_o, hK, bd_some, e1, q0', q1, q2]
          rw [v2_u1]
          simp (disch := omega) only [u1_o, u1_s]
          rw [u1_sw (i := 27) (k := 28) (by decide), u1_1]
        · rintro ⟨k, k1, k2, k3, k4, k5, k6⟩
          have : k ≠ t := fun y => q2 (by rw [← y]; exact k5)
          exact (h2 x).1 ⟨k, k1, by omega, k3, k4, k5, k6⟩
        · exact (h2 x).2 (fun ⟨k, k1, k2, k3⟩ => z ⟨k, k1, by omega, k3⟩)
    · refine ⟨_, ?_, isA2, tf2, rfl, keep (fun z => q1 z.2)⟩
      unfold gL_X11_closeBlock_52 g_X11_closeBlock_52 g_X11_closeBlock_142
      simp (disch := first | assumption | omega) only [qpT, qpF, qz_lit, qz_add, qz_mul, qz_neg, qz_sub, qz_inj, qz_lt, qz_le, qz_div, qp_0, qp_1, hp_bz_qp, hp_bz_0, hp_bz_1, if_neg, if_true, if_false, gf_ms, h32, h33, gp_0, gp_5, gp_6, gp_7, gp_8, gp_9, gp_10, gp_11, gp_12, gp_13, gp_14, gp_15, gp_16, gp_17, gp_18, gp_19, gp_20, gp_21, gp_22, gp_23, gp_24, gp_25, gp_26, gp_27, gp_28, gp_38, gp_39, gp_40, gp_41, gp_42, gp_44, gp_45, gp_47, gp_49, gp_51, gp_52, gp_56, gp_57, gp_58, gp_60, gp_61, gp_62, gp_63, gp_64, gp_65, gp_66, gp_68, gp_69, gp_70, gp_72, gp_73, gp_74, gp_75, gp_76, gp_77, gp_78, gp_79, gp_81, gp_83, gp_84, ga_15, ga_28, ga_10, u1_o, u1_s, hK, bd_some, e1, q0', q1]
  · rintro c ⟨isA2, tf2, rfl, h⟩
    refine ⟨_, ?_, isA2, tf2, rfl, h⟩
    unfold gL_X11_closeBlock_52 g_X11_closeBlock_52
    simp (disch := first | assumption | omega) only [qpT, qpF, qz_lit, qz_add, qz_mul, qz_neg, qz_sub, qz_inj, qz_lt, qz_le, qz_div, qp_0, qp_1, hp_bz_qp, hp_bz_0, hp_bz_1, if_pos, gf_ms, h32, gp_0, gp_5, gp_6, gp_7, gp_8, gp_9, gp_10, gp_11, gp_12, gp_13, gp_14, gp_15, gp_16, gp_17, gp_18, gp_19, gp_20, gp_21, gp_22, gp_23, gp_24, gp_25, gp_26, gp_27, gp_28, gp_38, gp_39, gp_40, gp_41, gp_42, gp_44, gp_45, gp_47, gp_49, gp_51, gp_52, gp_56, gp_57, gp_58, gp_60, gp_61, gp_62, gp_63, gp_64, gp_65, gp_66, gp_68, gp_69, gp_70, gp_72, gp_73, gp_74, gp_75, gp_76, gp_77, gp_78, gp_79, gp_81, gp_83, gp_84, ga_15, u1_o, hK, bd_some]
theorem m_close3 {P : Int} (hn : 100000 ≤ n) (h32 : F 32 = q) (hq : 0 ≤ q ∧ q ≤ 1) (hK : A 15 q = K) (h33 : F 33 = D) (hD : 0 ≤ D ∧ D ≤ 16) (hom : F 43 = om) (ho0 : 0 ≤ om) (ho1 : om ≤ 200) (hP : P ≤ 10240) (hmo : ∀ i k, 0 ≤ i → i ≤ k → k < om → A 30 i ≤ A 30 k) (hr : ∀ i, 0 ≤ i → i < om → 0 ≤ A 30 i ∧ A 30 i ≤ D ∧ 10240 * q ≤ A 29 i ∧ A 29 i < 10240 * q + P) :
    ∃ (om2 : Int) (E : Int → Int), hp_lp (gL_X11_closeBlock_148 n 0) n (ms F A J) = some (ms (u1 F 43 om2) (u1 A 24 E) J) ∧ 0 ≤ om2 ∧ om2 ≤ om ∧ (∀ i, 0 ≤ i → i < om2 → A 30 i < D) ∧ (∀ i, om2 ≤ i → i < om → A 30 i = D) ∧ ∀ p, (mem (A 29) om2 om p → E p = K) ∧ (¬mem (A 29) om2 om p → E p = A 24 p) := by
  have lp := lp_run (b := gL_X11_closeBlock_148 n 0) (I := fun c => ∃ (m : Int) (E : Int → Int), c = ms (u1 F 43 m) (u1 A 24 E) J ∧ 0 ≤ m ∧ m ≤ om ∧ (∀ i, m ≤ i → i < om → A 30 i = D) ∧ ∀ p, (mem (A 29) m om p → E p = K) ∧ (¬mem (A 29) m om p → E p = A 24 p)) (μ := fun c => (gF c 0 43).toInt)
    (Q := fun c => ∃ (om2 : Int) (E : Int → Int), c = ms (u1 F 43 om2) (u1 A 24 E) J ∧ 0 ≤ om2 ∧ om2 ≤ om ∧ (∀ i, 0 ≤ i → i < om2 → A 30 i < D) ∧ (∀ i, om2 ≤ i → i < om → A 30 i = D) ∧ ∀ p, (mem (A 29) om2 om p → E p = K) ∧ (¬mem (A 29) om2 om p → E p = A 24 p)) ?_ n (ms F A J) ?_ ?_
  · obtain ⟨c, e, om2, E, rfl, h⟩ := lp
    exact ⟨om2, E, e, h⟩
  · rintro c ⟨m, E, rfl, g1, g2, g3, g4⟩
    have em : (gF (ms (u1 F 43 m) (u1 A 24 E) J) 0 43).toInt = m := by
      rw [gf_ms, u1_s, qz_toInt (by omega) (by omega)]
    refine ⟨by rw [em]; exact g1, ?_⟩
    by_cases q0 : m = 0
    · right
      refine ⟨_, ?_, m, E, rfl, g1, g2, fun i i1 i2 => by omega, g3, g4⟩
      unfold gL_X11_closeBlock_148 g_X11_closeBlock_148
      simp (disch := first | assumption | omega) only [qpT, qpF, qz_lit, qz_add, qz_mul, qz_neg, qz_sub, qz_inj, qz_lt, qz_le, qz_div, qp_0, qp_1, hp_bz_qp, hp_bz_0, hp_bz_1, if_pos, gf_ms, u1_s]
    have hr' := hr (m - 1) (by omega) (by omega)
    by_cases q1 : A 30 (m - 1) = D
    · left
      refine ⟨ms (u1 F 43 (m - 1)) (u1 A 24 (v1 E (A 29 (m - 1)) K)) J, ?_, ⟨m - 1, v1 E (A 29 (m - 1)) K, rfl, by omega, by omega, fun i i1 i2 => ?_, fun p => ⟨?_, fun z => ?_⟩⟩, ?_⟩
      · unfold gL_X11_closeBlock_148 g_X11_closeBlock_148
        simp (disch := first | assumption | omega) only [qpT, qpF, qz_lit, qz_add, qz_mul, qz_neg, qz_sub, qz_inj, qz_lt, qz_le, qz_div, qp_0, qp_1, hp_bz_qp, hp_bz_0, hp_bz_1, if_neg, if_true, gf_ms, wf_ms, u1_s, u1_o, u1_1, h32, h33, gp_0, gp_5, gp_6, gp_7, gp_8, gp_9, gp_10, gp_11, gp_12, gp_13, gp_14, gp_15, gp_16, gp_17, gp_18, gp_19, gp_20, gp_21, gp_22, gp_23, gp_24, gp_25, gp_26, gp_27, gp_28, gp_38, gp_39, gp_40, gp_41, gp_42, gp_44, gp_45, gp_47, gp_49, gp_51, gp_52, gp_56, gp_57, gp_58, gp_60, gp_61, gp_62, gp_63, gp_64, gp_65, gp_66, gp_68, gp_69, gp_70, gp_72, gp_73, gp_74, gp_75, gp_76, gp_77, gp_78, gp_79, gp_81, gp_83, gp_84, ga_30, ga_29, ga_15, ua_24, hK, bd_some, q1]
        rw [v2_u1, u1_s, u1_1]
      · by_cases e : i = m - 1
        · rw [e]; exact q1
        · exact g3 i (by omega) i2
      · rintro ⟨i, i1, i2, rfl⟩
        by_cases e : A 29 i = A 29 (m - 1)
        · rw [e, v1_s]
        · rw [v1_o e]
          have : i ≠ m - 1 := fun y => e (by rw [y])
          exact (g4 _).1 ⟨i, by omega, i2, rfl⟩
      · rw [v1_o (fun y => z ⟨m - 1, by omega, by omega, y.symm⟩)]
        exact (g4 p).2 (fun ⟨i, i1, i2, i3⟩ => z ⟨i, by omega, i2, i3⟩)
      · rw [em, gf_ms, u1_s, qz_toInt (by omega) (by omega)]
        omega
    · right
      refine ⟨_, ?_, m, E, rfl, g1, g2, fun i i1 i2 => ?_, g3, g4⟩
      · unfold gL_X11_closeBlock_148 g_X11_closeBlock_148
        simp (disch := first | assumption | omega) only [qpT, qpF, qz_lit, qz_add, qz_mul, qz_neg, qz_sub, qz_inj, qz_lt, qz_le, qz_div, qp_0, qp_1, hp_bz_qp, hp_bz_0, hp_bz_1, if_neg, if_false, gf_ms, wf_ms, u1_s, u1_o, u1_1, h32, h33, gp_0, gp_5, gp_6, gp_7, gp_8, gp_9, gp_10, gp_11, gp_12, gp_13, gp_14, gp_15, gp_16, gp_17, gp_18, gp_19, gp_20, gp_21, gp_22, gp_23, gp_24, gp_25, gp_26, gp_27, gp_28, gp_38, gp_39, gp_40, gp_41, gp_42, gp_44, gp_45, gp_47, gp_49, gp_51, gp_52, gp_56, gp_57, gp_58, gp_60, gp_61, gp_62, gp_63, gp_64, gp_65, gp_66, gp_68, gp_69, gp_70, gp_72, gp_73, gp_74, gp_75, gp_76, gp_77, gp_78, gp_79, gp_81, gp_83, gp_84, ga_30, bd_some, q1]
      · have := hmo i (m - 1) i1 (by omega) (by omega)
        omega
  · exact ⟨om, A 24, by rw [u1_id (f := F) hom, u1_id (f := A) rfl], ho0, Int.le_refl _, fun i i1 i2 => by omega, fun p => ⟨fun ⟨i, i1, i2, _⟩ => by omega, fun _ => rfl⟩⟩
  · show (gF (ms F A J) 0 43).toInt < n
    rw [gf_ms, hom, qz_toInt (by omega) (by omega)]
    omega
end MCL
