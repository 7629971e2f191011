/-! thing; how many of a row of rising numbers lie below a number -/
theorem ok_thing : Ok_thing Rel := by
  rintro n hn sC sM R a0 a1
  have R' := R
  obtain ⟨q, b, b2, S, K, P, len, dl, f, d, a, ni, j, F, A, J, rfl, rfl, r1, r2, r3, r4, r5, r6, r7, r8, r9, r10, ⟨s1, s2, s3, s4, s5⟩, r12, r13, r14⟩ := R'
  obtain ⟨w, w1, w2, rfl⟩ := qz_of a0
  obtain ⟨i, i1, i2, rfl⟩ := qz_of a1
  by_cases c0 : w < 0
  · refine ⟨qz (-1), ?_, ?_, R⟩
    · unfold g_X10_thing g_X10_thing_0
      simp (disch := first | assumption | omega) only [qpT, qpF, qz_lit, qz_add, qz_mul, qz_neg, qz_sub, qz_inj, qz_lt, qz_le, qz_div, qp_0, qp_1, hp_bz_qp, hp_bz_0, hp_bz_1, if_pos]
    · unfold g_X11_thing_ g_X11_thing__0
      simp (disch := first | assumption | omega) only [qpT, qpF, qz_lit, qz_add, qz_mul, qz_neg, qz_sub, qz_inj, qz_lt, qz_le, qz_div, qp_0, qp_1, hp_bz_qp, hp_bz_0, hp_bz_1, if_pos]
  by_cases c1 : F 71 ≤ w
  · refine ⟨qz (-1), ?_, ?_, R⟩
    · unfold g_X10_thing g_X10_thing_0
      simp (disch := first | assumption | omega) only [qpT, qpF, qz_lit, qz_add, qz_mul, qz_neg, qz_sub, qz_inj, qz_lt, qz_le, qz_div, qp_0, qp_1, hp_bz_qp, hp_bz_0, hp_bz_1, if_neg, gpc_0_5, gpc_93_0, gf_cs, s2]
    · unfold g_X11_thing_ g_X11_thing__0
      simp (disch := first | assumption | omega) only [qpT, qpF, qz_lit, qz_add, qz_mul, qz_neg, qz_sub, qz_inj, qz_lt, qz_le, qz_div, qp_0, qp_1, hp_bz_qp, hp_bz_0, hp_bz_1, if_neg, gf_ms]
  obtain ⟨e1, e2, e3, e4⟩ := s5 (F 71 - 1 - w) (by omega) (by omega)
  by_cases c2 : i = -1
  · refine ⟨qz (A 49 (F 71 - 1 - w)), ?_, ?_, R⟩
    · unfold g_X10_thing g_X10_thing_0
      simp (disch := first | assumption | omega) only [qpT, qpF, qz_lit, qz_add, qz_mul, qz_neg, qz_sub, qz_inj, qz_lt, qz_le, qz_div, qp_0, qp_1, hp_bz_qp, hp_bz_0, hp_bz_1, if_neg, if_pos, gpc_0_5, gpc_93_0, gf_cs, s2]
      rw [c_size rws_94 s1 (by omega) (by rw [s2]; omega), bd_some, e1]
    · unfold g_X11_thing_ g_X11_thing__0
      simp (disch := first | assumption | omega) only [qpT, qpF, qz_lit, qz_add, qz_mul, qz_neg, qz_sub, qz_inj, qz_lt, qz_le, qz_div, qp_0, qp_1, hp_bz_qp, hp_bz_0, hp_bz_1, if_neg, if_pos, gf_ms, gp_0, gp_5, gp_6, gp_7, gp_8, gp_9, gp_10, gp_11, gp_12, gp_13, gp_14, gp_15, gp_16, gp_17, gp_18, gp_19, gp_20, gp_21, gp_22, gp_23, gp_24, gp_25, gp_26, gp_27, gp_28, gp_38, gp_39, gp_40, gp_41, gp_42, gp_44, gp_45, gp_47, gp_49, gp_51, gp_52, gp_56, gp_57, gp_58, gp_60, gp_61, gp_62, gp_63, gp_64, gp_65, gp_66, gp_68, gp_69, gp_70, gp_72, gp_73, gp_74, gp_75, gp_76, gp_77, gp_78, gp_79, gp_81, gp_83, gp_84, ga_49, bd_some]
  by_cases c3 : i < 0
  · refine ⟨qz (-1), ?_, ?_, R⟩
    · unfold g_X10_thing g_X10_thing_0
      simp (disch := first | assumption | omega) only [qpT, qpF, qz_lit, qz_add, qz_mul, qz_neg, qz_sub, qz_inj, qz_lt, qz_le, qz_div, qp_0, qp_1, hp_bz_qp, hp_bz_0, hp_bz_1, if_neg, if_pos, gpc_0_5, gpc_93_0, gf_cs, s2]
      rw [c_get0 rws_94 s1 (by omega) (by omega) (by omega) (by omega) (by omega), bd_some]
    · unfold g_X11_thing_ g_X11_thing__0 g_X11_thing__49
      simp (disch := first | assumption | omega) only [qpT, qpF, qz_lit, qz_add, qz_mul, qz_neg, qz_sub, qz_inj, qz_lt, qz_le, qz_div, qp_0, qp_1, hp_bz_qp, hp_bz_0, hp_bz_1, if_neg, if_pos, gf_ms, gp_0, gp_5, gp_6, gp_7, gp_8, gp_9, gp_10, gp_11, gp_12, gp_13, gp_14, gp_15, gp_16, gp_17, gp_18, gp_19, gp_20, gp_21, gp_22, gp_23, gp_24, gp_25, gp_26, gp_27, gp_28, gp_38, gp_39, gp_40, gp_41, gp_42, gp_44, gp_45, gp_47, gp_49, gp_51, gp_52, gp_56, gp_57, gp_58, gp_60, gp_61, gp_62, gp_63, gp_64, gp_65, gp_66, gp_68, gp_69, gp_70, gp_72, gp_73, gp_74, gp_75, gp_76, gp_77, gp_78, gp_79, gp_81, gp_83, gp_84, ga_49, bd_some]
  by_cases c4 : A 49 (F 71 - 1 - w) ≤ i
  · refine ⟨qz (-1), ?_, ?_, R⟩
    · unfold g_X10_thing g_X10_thing_0
      simp (disch := first | assumption | omega) only [qpT, qpF, qz_lit, qz_add, qz_mul, qz_neg, qz_sub, qz_inj, qz_lt, qz_le, qz_div, qp_0, qp_1, hp_bz_qp, hp_bz_0, hp_bz_1, if_neg, if_pos, gpc_0_5, gpc_93_0, gf_cs, s2]
      rw [c_get0 rws_94 s1 (by omega) (by omega) (by omega) (by omega) (by omega), bd_some]
    · unfold g_X11_thing_ g_X11_thing__0 g_X11_thing__49
      simp (disch := first | assumption | omega) only [qpT, qpF, qz_lit, qz_add, qz_mul, qz_neg, qz_sub, qz_inj, qz_lt, qz_le, qz_div, qp_0, qp_1, hp_bz_qp, hp_bz_0, hp_bz_1, if_neg, if_pos, gf_ms, gp_0, gp_5, gp_6, gp_7, gp_8, gp_9, gp_10, gp_11, gp_12, gp_13, gp_14, gp_15, gp_16, gp_17, gp_18, gp_19, gp_20, gp_21, gp_22, gp_23, gp_24, gp_25, gp_26, gp_27, gp_28, gp_38, gp_39, gp_40, gp_41, gp_42, gp_44, gp_45, gp_47, gp_49, gp_51, gp_52, gp_56, gp_57, gp_58, gp_60, gp_61, gp_62, gp_63, gp_64, gp_65, gp_66, gp_68, gp_69, gp_70, gp_72, gp_73, gp_74, gp_75, gp_76, gp_77, gp_78, gp_79, gp_81, gp_83, gp_84, ga_49, bd_some]
  refine ⟨qz (A 48 (200 * (F 71 - 1 - w) + i)), ?_, ?_, R⟩
  · unfold g_X10_thing g_X10_thing_0
    simp (disch := first | assumption | omega) only [qpT, qpF, qz_lit, qz_add, qz_mul, qz_neg, qz_sub, qz_inj, qz_lt, qz_le, qz_div, qp_0, qp_1, hp_bz_qp, hp_bz_0, hp_bz_1, if_neg, if_pos, gpc_0_5, gpc_93_0, gf_cs, s2]
    rw [c_get rws_94 s1 (by omega) (by rw [s2]; omega) (by omega) (by omega), bd_some, e4 i (by omega) (by omega)]
  · unfold g_X11_thing_ g_X11_thing__0 g_X11_thing__49 g_X11_thing g_X11_thing_0
    simp (disch := first | assumption | omega) only [qpT, qpF, qz_lit, qz_add, qz_mul, qz_neg, qz_sub, qz_inj, qz_lt, qz_le, qz_div, qp_0, qp_1, hp_bz_qp, hp_bz_0, hp_bz_1, if_neg, if_pos, gf_ms, gp_0, gp_5, gp_6, gp_7, gp_8, gp_9, gp_10, gp_11, gp_12, gp_13, gp_14, gp_15, gp_16, gp_17, gp_18, gp_19, gp_20, gp_21, gp_22, gp_23, gp_24, gp_25, gp_26, gp_27, gp_28, gp_38, gp_39, gp_40, gp_41, gp_42, gp_44, gp_45, gp_47, gp_49, gp_51, gp_52, gp_56, gp_57, gp_58, gp_60, gp_61, gp_62, gp_63, gp_64, gp_65, gp_66, gp_68, gp_69, gp_70, gp_72, gp_73, gp_74, gp_75, gp_76, gp_77, gp_78, gp_79, gp_81, gp_83, gp_84, ga_49, ga_48, bd_some]
def cnt (it : Int → Int) (lo hi i m : Int) : Prop := 0 ≤ m ∧ lo + m ≤ hi ∧ (∀ x, lo ≤ x → x < lo + m → it x < i) ∧ ∀ x, lo + m ≤ x → x < hi → i ≤ it x
theorem cnt_0 {it : Int → Int} {lo hi i : Int} (h : lo ≤ hi) (g : ∀ x, mem it lo hi x → i ≤ x) : cnt it lo hi i 0 :=
  ⟨by omega, by omega, fun x _ _ => by omega, fun x x1 x2 => g _ ⟨x, by omega, x2, rfl⟩⟩
theorem cnt_in {it : Int → Int} {lo hi i m : Int} (g : asc it lo hi) (h : cnt it lo hi i m) (hm : mem it lo hi i) : cnt it lo hi (i + 1) (m + 1) ∧ lo + m < hi ∧ it (lo + m) = i := by
  obtain ⟨h1, h2, h3, h4⟩ := h
  obtain ⟨x, x1, x2, x3⟩ := hm
  have e1 : ¬x < lo + m := fun y => by
    have := h3 x x1 y
    omega
  have e2 : x = lo + m := by
    by_cases y : x = lo + m
    · exact y
    · have := g (lo + m) x (by omega) (by omega) x2
      have := h4 (lo + m) (by omega) (by omega)
      omega
  subst e2
  refine ⟨⟨by omega, by omega, fun y y1 y2 => ?_, fun y y1 y2 => ?_⟩, x2, x3⟩
  · by_cases z : y = lo + m
    · rw [z]; omega
    · have := h3 y y1 (by omega)
      omega
  · have := g (lo + m) y (by omega) (by omega) y2
    omega
theorem cnt_out {it : Int → Int} {lo hi i k m : Int} (h : cnt it lo hi i m) (hk : i ≤ k) (hm : ∀ z, i ≤ z → z < k → ¬mem it lo hi z) (h0 : 0 ≤ lo ∨ True) : cnt it lo hi k m := by
  obtain ⟨h1, h2, h3, h4⟩ := h
  refine ⟨h1, h2, fun y y1 y2 => by have := h3 y y1 y2; omega, fun y y1 y2 => ?_⟩
  have e := h4 y y1 y2
  by_cases z : k ≤ it y
  · exact z
  · exact absurd ⟨y, by omega, y2, rfl⟩ (hm (it y) e (by omega))
theorem cnt_o1 {it : Int → Int} {lo hi i m : Int} (h : cnt it lo hi i m) (hm : ¬mem it lo hi i) : cnt it lo hi (i + 1) m :=
  cnt_out h (by omega) (fun z z1 z2 => by rw [show z = i by omega]; exact hm) (Or.inr trivial)
theorem cnt_end {it : Int → Int} {lo hi i m : Int} (h : cnt it lo hi i m) (g : ∀ x, mem it lo hi x → x < i) : m = hi - lo := by
  obtain ⟨h1, h2, h3, h4⟩ := h
  by_cases z : lo + m = hi
  · omega
  · have := h4 (lo + m) (by omega) (by omega)
    have := g _ ⟨lo + m, by omega, by omega, rfl⟩
    omega
theorem zl0 : (0 : Int32) = qz 0 := id rfl
theorem zl1 : (1 : Int32) = qz 1 := id rfl
theorem zl2 : (2 : Int32) = qz 2 := id rfl
theorem zl4 : (4 : Int32) = qz 4 := id rfl
theorem zl64 : (64 : Int32) = qz 64 := id rfl
theorem zl200 : (200 : Int32) = qz 200 := id rfl
theorem zl300 : (300 : Int32) = qz 300 := id rfl
theorem zl1000 : (1000 : Int32) = qz 1000 := id rfl
theorem zl4096 : (4096 : Int32) = qz 4096 := id rfl
theorem zl8192 : (8192 : Int32) = qz 8192 := id rfl
theorem zl10240 : (10240 : Int32) = qz 10240 := id rfl
section MNOW
variable {F : Nat → Int} {A : Nat → Int → Int} {J : Nat → Int → Int64} {n v : Nat} {q S K P len k h x y : Int}
theorem m_at (h4 : F 4 = q) : g_X11_at n 0 (qz k) (ms F A J) = some (qz (200 * q + k)) := by
  unfold g_X11_at g_X11_at_0
  rw [gf_ms, h4, zl200, qz_mul, qz_add]
theorem m_isSt (h4 : F 4 = q) (hq : 0 ≤ q ∧ q ≤ 1) (hK : A 15 q = K) (hK0 : 0 ≤ K) (hK1 : K ≤ 200) (hk : -2147483648 ≤ k) (hk2 : k < 2147483648) : g_X11_isStatement n 0 (qz k) (ms F A J) = some (qp (0 ≤ k ∧ k < K)) := by
  unfold g_X11_isStatement g_X11_isStatement_0
  by_cases c0 : k < 0
  · rw [if_pos (by rw [zl0, qz_lt (by omega) (by omega) (by omega) (by omega)]; exact c0), qp_F (by omega)]
    rfl
  rw [if_neg (by rw [zl0, qz_lt (by omega) (by omega) (by omega) (by omega)]; exact c0)]
  simp (disch := first | assumption | omega) only [gf_ms, h4, gp_0, gp_5, gp_6, gp_7, gp_8, gp_9, gp_10, gp_11, gp_12, gp_13, gp_14, gp_15, gp_16, gp_17, gp_18, gp_19, gp_20, gp_21, gp_22, gp_23, gp_24, gp_25, gp_26, gp_27, gp_28, gp_38, gp_39, gp_40, gp_41, gp_42, gp_44, gp_45, gp_47, gp_49, gp_51, gp_52, gp_56, gp_57, gp_58, gp_60, gp_61, gp_62, gp_63, gp_64, gp_65, gp_66, gp_68, gp_69, gp_70, gp_72, gp_73, gp_74, gp_75, gp_76, gp_77, gp_78, gp_79, gp_81, gp_83, gp_84, ga_15, hK, bd_some]
  by_cases c1 : K ≤ k
  · rw [if_pos (by rw [qz_le (by omega) (by omega) (by omega) (by omega)]; exact c1), qp_F (by omega)]
    rfl
  · rw [if_neg (by rw [qz_le (by omega) (by omega) (by omega) (by omega)]; exact c1), qp_T (by omega)]
    rfl
theorem m_isKind {l : Int} (h4 : F 4 = q) (hq : 0 ≤ q ∧ q ≤ 1) (hK : A 15 q = K) (hK0 : 0 ≤ K) (hK1 : K ≤ 200) (hk : -2147483648 ≤ k) (hk2 : k < 2147483648) (hr : ∀ k, 0 ≤ k → k < K → 0 ≤ A 7 (200 * q + k) ∧ A 7 (200 * q + k) ≤ 3) (hl : 0 ≤ l) (hl2 : l < 100) : g_X11_isKind n 0 (qz k) (qz l) (ms F A J) = some (qp (0 ≤ k ∧ k < K ∧ l ≤ A 7 (200 * q + k))) := by
  unfold g_X11_isKind g_X11_isKind_0
  rw [m_isSt h4 hq hK hK0 hK1 hk hk2, bd_some]
  by_cases c0 : 0 ≤ k ∧ k < K
  · have := hr k c0.1 c0.2
    rw [qp_T c0, if_neg (by decide), m_at h4, bd_some]
    simp (disch := first | assumption | omega) only [gp_0, gp_5, gp_6, gp_7, gp_8, gp_9, gp_10, gp_11, gp_12, gp_13, gp_14, gp_15, gp_16, gp_17, gp_18, gp_19, gp_20, gp_21, gp_22, gp_23, gp_24, gp_25, gp_26, gp_27, gp_28, gp_38, gp_39, gp_40, gp_41, gp_42, gp_44, gp_45, gp_47, gp_49, gp_51, gp_52, gp_56, gp_57, gp_58, gp_60, gp_61, gp_62, gp_63, gp_64, gp_65, gp_66, gp_68, gp_69, gp_70, gp_72, gp_73, gp_74, gp_75, gp_76, gp_77, gp_78, gp_79, gp_81, gp_83, gp_84, ga_7, bd_some]
    by_cases c1 : A 7 (200 * q + k) < l
    · rw [if_pos (by rw [qz_lt (by omega) (by omega) (by omega) (by omega)]; exact c1), qp_F (by omega)]
      rfl
    · rw [if_neg (by rw [qz_lt (by omega) (by omega) (by omega) (by omega)]; exact c1), qp_T (by omega)]
      rfl
  · rw [qp_F c0, if_pos (by decide), qp_F (fun y => c0 ⟨y.1, y.2.1⟩)]
    rfl
theorem m_isBit (hv : v = 19 ∨ v = 20) (h4 : F 4 = q) (hq : 0 ≤ q ∧ q ≤ 1) (hk : 0 ≤ k) (hk2 : k < 200) (h0 : 0 ≤ h) (h1 : h < 200) : g_X11_isBit n 0 v (qz k) (qz h) (ms F A J) = some (qp (bt (J v) (4 * (200 * q + k)) h)) := by
  unfold g_X11_isBit g_X11_isBit_0
  rw [m_at h4, bd_some, zl4, zl64, qz_div (by omega) (by omega) (by omega) (by omega), qz_mul, qz_mul, qz_add, qz_sub]
  have e : gJ (ms F A J) v (qz (4 * (200 * q + k) + h / 64)) = some (J v (4 * (200 * q + k) + h / 64)) := by
    rcases hv with rfl | rfl
    · exact gj_19 (by omega) (by omega)
    · exact gj_20 (by omega) (by omega)
  rw [e, bd_some]
  by_cases c : bt (J v) (4 * (200 * q + k)) h
  · rw [qp_T c, if_pos (by rw [bt_t1 (by omega) (by omega)]; exact c)]
    rfl
  · rw [qp_F c, if_neg (by rw [bt_t1 (by omega) (by omega)]; exact c)]
    rfl
end MNOW
