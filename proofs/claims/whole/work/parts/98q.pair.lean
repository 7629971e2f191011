/-! A pair of distinct variables: both -/
theorem qmn {u v : Int} (hu : -2147483648 ≤ u) (hu2 : u < 2147483648) (hv : -2147483648 ≤ v) (hv2 : v < 2147483648) : hp_mn (qz u) (qz v) = qz (if u ≤ v then u else v) := by
  unfold hp_mn
  by_cases h : u ≤ v
  · rw [if_pos h, if_neg (by rw [qz_lt hv hv2 hu hu2]; omega)]
  · rw [if_neg h, if_pos (by rw [qz_lt hv hv2 hu hu2]; omega)]
theorem qmx {u v : Int} (hu : -2147483648 ≤ u) (hu2 : u < 2147483648) (hv : -2147483648 ≤ v) (hv2 : v < 2147483648) : hp_mx (qz u) (qz v) = qz (if u ≤ v then v else u) := by
  unfold hp_mx
  by_cases h : u < v
  · rw [if_pos (c := u ≤ v) (by omega), if_pos (by rw [qz_lt hu hu2 hv hv2]; exact h)]
  · rw [if_neg (by rw [qz_lt hu hu2 hv hv2]; exact h)]
    by_cases h2 : u = v
    · rw [h2, if_pos (by omega)]
    · rw [if_neg (by omega)]
section PAI
variable {f : Nat → Nat → Int} {d : Nat → Nat} {a : Nat → Int → Int} {ni : Nat → Nat} {j : Nat → Int → Int64} {n : Nat} {x y pc D : Int}
/-- where the pair stands, or would stand -/
theorem c_addPair (hn : 100000 ≤ n) (h0 : 0 ≤ x) (h1 : x < y) (h2 : y < 300) {u v : Int} (huv : (u = x ∧ v = y) ∨ (u = y ∧ v = x)) (hp : f 66 12 = pc) (hp0 : 0 ≤ pc) (hp1 : pc ≤ 200) (hD : f 66 0 = D) (ha : asc (a 74) 0 pc) (hr : ∀ i, 0 ≤ i → i < pc → 0 ≤ a 74 i ∧ a 74 i < 100000) :
    (mem (a 74) 0 pc (300 * x + y) ∧ g_X7_addPair n 66 (qz u) (qz v) (cs f d a ni j) = some (qz 1, cs f d a ni j)) ∨ (¬mem (a 74) 0 pc (300 * x + y) ∧ pc = 200 ∧ g_X7_addPair n 66 (qz u) (qz v) (cs f d a ni j) = some (qz 0, cs f d a ni j)) ∨ (¬mem (a 74) 0 pc (300 * x + y) ∧ pc < 200 ∧ ∃ (at' : Int) (pr2 pd2 : Int → Int), g_X7_addPair n 66 (qz u) (qz v) (cs f d a ni j) = some (qz 1, cs (u2 f 66 12 (pc + 1)) d (u1 (u1 a 74 pr2) 75 pd2) ni j) ∧ 0 ≤ at' ∧ at' ≤ pc ∧ (∀ i, 0 ≤ i → i < at' → a 74 i < 300 * x + y) ∧ (at' < pc → 300 * x + y < a 74 at') ∧ (∀ i, 0 ≤ i → i < at' → pr2 i = a 74 i ∧ pd2 i = a 75 i) ∧ (pr2 at' = 300 * x + y ∧ pd2 at' = D) ∧ ∀ i, at' ≤ i → i < pc → pr2 (i + 1) = a 74 i ∧ pd2 (i + 1) = a 75 i) := by
  have e0 : hp_mn (qz u) (qz v) * qz 300 + hp_mx (qz u) (qz v) = qz (300 * x + y) := by
    rw [qmn (by omega) (by omega) (by omega) (by omega), qmx (by omega) (by omega) (by omega) (by omega), qz_mul, qz_add]
    congr 1
    rcases huv with ⟨rfl, rfl⟩ | ⟨rfl, rfl⟩
    · rw [if_pos (by omega), if_pos (by omega)]; omega
    · rw [if_neg (by omega), if_neg (by omega)]; omega
  have hlp := lp_find (b := gL_X7_addPair_19 n 66 (qz (300 * x + y)) (cs f d a ni j)) (fun i => qz i) (fun i => 300 * x + y ≤ a 74 i) (fun i => qz i) (qz pc) (n := n) (lo := 0) pc hp0 (by omega) (fun i i1 i2 i3 => by
      have hr' := hr i i1 i2
      unfold gL_X7_addPair_19 g_X7_addPair_19
      simp (disch := first | assumption | omega) only [qpT, qpF, qz_lit, qz_add, qz_mul, qz_neg, qz_sub, qz_inj, qz_lt, qz_le, qz_div, qp_0, qp_1, hp_bz_qp, hp_bz_0, hp_bz_1, if_neg, gf_cs, hp, gpc_66_10, gac_74, bd_some]) (fun i i1 i2 i3 => by
      have hr' := hr i i1 i2
      unfold gL_X7_addPair_19 g_X7_addPair_19
      simp (disch := first | assumption | omega) only [qpT, qpF, qz_lit, qz_add, qz_mul, qz_neg, qz_sub, qz_inj, qz_lt, qz_le, qz_div, qp_0, qp_1, hp_bz_qp, hp_bz_0, hp_bz_1, if_neg, if_pos, gf_cs, hp, gpc_66_10, gac_74, bd_some]) (by
      unfold gL_X7_addPair_19 g_X7_addPair_19
      simp (disch := first | assumption | omega) only [qpT, qpF, qz_lit, qz_add, qz_mul, qz_neg, qz_sub, qz_inj, qz_lt, qz_le, qz_div, qp_0, qp_1, hp_bz_qp, hp_bz_0, hp_bz_1, if_pos, gf_cs, hp])
  obtain ⟨at', e1, a0, a1, a2, a3⟩ : ∃ at', hp_lp (gL_X7_addPair_19 n 66 (qz (300 * x + y)) (cs f d a ni j)) n (qz 0) = some (qz at') ∧ 0 ≤ at' ∧ at' ≤ pc ∧ (∀ i, 0 ≤ i → i < at' → a 74 i < 300 * x + y) ∧ (at' < pc → 300 * x + y ≤ a 74 at') := by
    rcases hlp with ⟨i, i1, i2, i3, i4, i5⟩ | ⟨i4, i5⟩
    · exact ⟨i, i5, i1, by omega, fun k k1 k2 => by have := i4 k k1 k2; omega, fun _ => i3⟩
    · exact ⟨pc, i5, hp0, Int.le_refl _, fun k k1 k2 => by have := i4 k k1 k2; omega, fun z => by omega⟩
  have X0 : g_X7_addPair n 66 (qz u) (qz v) (cs f d a ni j) = g_X7_addPair_45 n 66 (qz (300 * x + y)) (qz at') (cs f d a ni j) := by
    unfold g_X7_addPair g_X7_addPair_0
    simp only [qz_lit]
    rw [e0, e1, bd_some]
  by_cases hm : mem (a 74) 0 pc (300 * x + y)
  · refine Or.inl ⟨hm, ?_⟩
    obtain ⟨i, i1, i2, i3⟩ := hm
    have hi : i = at' := by
      by_cases z : i < at'
      · have := a2 i i1 z
        omega
      · by_cases z2 : at' < i
        · have := ha at' i a0 z2 i2
          have := a3 (by omega)
          omega
        · omega
    subst hi
    rw [X0]
    unfold g_X7_addPair_45
    simp (disch := first | assumption | omega) only [qpT, qpF, qz_lit, qz_add, qz_mul, qz_neg, qz_sub, qz_inj, qz_lt, qz_le, qz_div, qp_0, qp_1, hp_bz_qp, hp_bz_0, hp_bz_1, if_neg, if_true, gf_cs, hp, gpc_66_10, gac_74, bd_some, i3]
  have hne : at' < pc → 300 * x + y < a 74 at' := by
    intro z
    have := a3 z
    have : a 74 at' ≠ 300 * x + y := fun z2 => hm ⟨at', a0, z, z2⟩
    omega
  have X1 : g_X7_addPair n 66 (qz u) (qz v) (cs f d a ni j) = g_X7_addPair_67 n 66 (qz (300 * x + y)) (qz at') (cs f d a ni j) := by
    rw [X0]
    unfold g_X7_addPair_45
    by_cases z : at' < pc
    · have := hne z
      have hr' := hr at' a0 z
      simp (disch := first | assumption | omega) only [qpT, qpF, qz_lit, qz_add, qz_mul, qz_neg, qz_sub, qz_inj, qz_lt, qz_le, qz_div, qp_0, qp_1, hp_bz_qp, hp_bz_0, hp_bz_1, if_neg, gf_cs, hp, gpc_66_10, gac_74, bd_some]
    · simp (disch := first | assumption | omega) only [qpT, qpF, qz_lit, qz_add, qz_mul, qz_neg, qz_sub, qz_inj, qz_lt, qz_le, qz_div, qp_0, qp_1, hp_bz_qp, hp_bz_0, hp_bz_1, if_pos, gf_cs, hp]
  by_cases hc : pc = 200
  · refine Or.inr (Or.inl ⟨hm, hc, ?_⟩)
    rw [X1]
    unfold g_X7_addPair_67
    simp (disch := first | assumption | omega) only [qpT, qpF, qz_lit, qz_add, qz_mul, qz_neg, qz_sub, qz_inj, qz_lt, qz_le, qz_div, qp_0, qp_1, hp_bz_qp, hp_bz_0, hp_bz_1, if_true, gf_cs, hp, hc]
  · refine Or.inr (Or.inr ⟨hm, by omega, at', v1 (cy (a 74) (a 74) at' (at' + 1) (pc - at')) at' (300 * x + y), v1 (cy (a 75) (a 75) at' (at' + 1) (pc - at')) at' D, ?_, a0, a1, a2, hne, fun i i1 i2 => ?_, ⟨by rw [v1_s], by rw [v1_s]⟩, fun i i1 i2 => ?_⟩)
    · rw [X1]
      unfold g_X7_addPair_67
      have n74 : (nC ni 74 : Int) = 200 := rfl
      have n75 : (nC ni 75 : Int) = 200 := rfl
      simp (disch := first | assumption | omega) only [qpT, qpF, qz_lit, qz_add, qz_mul, qz_neg, qz_sub, qz_inj, qz_lt, qz_le, qz_div, qp_0, qp_1, hp_bz_qp, hp_bz_0, hp_bz_1, if_neg, gf_cs, hp, gpc_66_10, gpc_66_11]
      rw [c_copy a0 (by omega) (by omega) (by omega) (by omega) (by omega) (by omega) (by omega), bd_some]
      simp (disch := first | assumption | omega) only [qpT, qpF, qz_lit, qz_add, qz_mul, qz_neg, qz_sub, qz_inj, qz_lt, qz_le, qz_div, qp_0, qp_1, hp_bz_qp, hp_bz_0, hp_bz_1, gf_cs, hp, gpc_66_10, gpc_66_11]
      rw [c_copy a0 (by omega) (by omega) (by omega) (by omega) (by omega) (by omega) (by omega), bd_some]
      simp (disch := first | assumption | omega) only [qpT, qpF, qz_lit, qz_add, qz_mul, qz_neg, qz_sub, qz_inj, qz_lt, qz_le, qz_div, qp_0, qp_1, hp_bz_qp, hp_bz_0, hp_bz_1, gf_cs, wf_cs, hp, hD, gpc_66_10, gpc_66_11, uac_74, uac_75, bd_some, v2_u1]
      simp (disch := omega) only [u1_o, u1_s]
      rw [u1_sw (i := 75) (k := 74) (by decide), u1_1, u1_1]
    · rw [v1_o (by omega), v1_o (by omega), cy_lo (by omega), cy_lo (by omega)]
      exact ⟨rfl, rfl⟩
    · rw [v1_o (by omega), v1_o (by omega), cy_in (by omega) (by omega), cy_in (by omega) (by omega), show at' + (i + 1 - (at' + 1)) = i by omega]
      exact ⟨rfl, rfl⟩
end PAI
section MPA
variable {F : Nat → Int} {A : Nat → Int → Int} {J : Nat → Int → Int64} {n : Nat} {q K P om D x y : Int}
theorem m_isOpen (hn : 100000 ≤ n) (hq : 0 ≤ q ∧ q ≤ 1) (hom : F 43 = om) (ho0 : 0 ≤ om) (ho1 : om ≤ 200) (hP : P ≤ 10240) (hr : ∀ i, 0 ≤ i → i < om → 10240 * q ≤ A 29 i ∧ A 29 i < 10240 * q + P ∧ 0 ≤ A 21 (A 29 i) ∧ A 21 (A 29 i) < 300 ∧ 0 ≤ A 22 (A 29 i) ∧ A 22 (A 29 i) < 300) (hx : 0 ≤ x ∧ x < 300) (hy : 0 ≤ y ∧ y < 300) : g_X11_isOpenPair n 0 (qz x) (qz y) (ms F A J) = some (qp (∃ i, 0 ≤ i ∧ i < om ∧ (A 21 (A 29 i) = x ∧ A 22 (A 29 i) = y))) := by
  have := lp_any (b := gL_X11_isOpenPair_5 n 0 (qz x) (qz y) (ms F A J)) (fun i P => (qp P, qz i)) qp (fun i => A 21 (A 29 i) = x ∧ A 22 (A 29 i) = y) (n := n) (lo := 0) om ho0 (by omega) ?_ ?_
  · unfold g_X11_isOpenPair g_X11_isOpenPair_0
    simp only [qz_lit]
    rw [show ((qz 0, qz 0) : Int32 × Int32) = (qp False, qz 0) by rw [qpF], this, bd_some]
  · intro i P1 i1 i2
    have hr' := hr i i1 i2
    unfold gL_X11_isOpenPair_5 g_X11_isOpenPair_5 g_X11_isOpenPair_50 g_X11_isOpenPair_54 g_X11_isOpenPair_55
    by_cases c1 : P1
    · simp (disch := first | assumption | omega) only [qpT, qpF, qz_lit, qz_add, qz_mul, qz_neg, qz_sub, qz_inj, qz_lt, qz_le, qz_div, qp_0, qp_1, hp_bz_qp, hp_bz_0, hp_bz_1, if_neg, gf_ms, hom, c1, qz_1_0, if_false, true_or, not_true_eq_false]
    · by_cases c2 : A 21 (A 29 i) = x
      · by_cases c3 : A 22 (A 29 i) = y
        · simp (disch := first | assumption | omega) only [qpT, qpF, qz_lit, qz_add, qz_mul, qz_neg, qz_sub, qz_inj, qz_lt, qz_le, qz_div, qp_0, qp_1, hp_bz_qp, hp_bz_0, hp_bz_1, if_neg, if_true, gf_ms, hom, c1, gp_0, gp_5, gp_6, gp_7, gp_8, gp_9, gp_10, gp_11, gp_12, gp_13, gp_14, gp_15, gp_16, gp_17, gp_18, gp_19, gp_20, gp_21, gp_22, gp_23, gp_24, gp_25, gp_26, gp_27, gp_28, gp_38, gp_39, gp_40, gp_41, gp_42, gp_44, gp_45, gp_47, gp_49, gp_51, gp_52, gp_56, gp_57, gp_58, gp_60, gp_61, gp_62, gp_63, gp_64, gp_65, gp_66, gp_68, gp_69, gp_70, gp_72, gp_73, gp_74, gp_75, gp_76, gp_77, gp_78, gp_79, gp_81, gp_83, gp_84, ga_29, ga_21, ga_22, bd_some, c2, c3, false_or, true_and, not_false_eq_true]
        · simp (disch := first | assumption | omega) only [qpT, qpF, qz_lit, qz_add, qz_mul, qz_neg, qz_sub, qz_inj, qz_lt, qz_le, qz_div, qp_0, qp_1, hp_bz_qp, hp_bz_0, hp_bz_1, if_neg, if_true, if_false, gf_ms, hom, c1, gp_0, gp_5, gp_6, gp_7, gp_8, gp_9, gp_10, gp_11, gp_12, gp_13, gp_14, gp_15, gp_16, gp_17, gp_18, gp_19, gp_20, gp_21, gp_22, gp_23, gp_24, gp_25, gp_26, gp_27, gp_28, gp_38, gp_39, gp_40, gp_41, gp_42, gp_44, gp_45, gp_47, gp_49, gp_51, gp_52, gp_56, gp_57, gp_58, gp_60, gp_61, gp_62, gp_63, gp_64, gp_65, gp_66, gp_68, gp_69, gp_70, gp_72, gp_73, gp_74, gp_75, gp_76, gp_77, gp_78, gp_79, gp_81, gp_83, gp_84, ga_29, ga_21, ga_22, bd_some, c2, c3, false_or, and_false, not_false_eq_true]
      · simp (disch := first | assumption | omega) only [qpT, qpF, qz_lit, qz_add, qz_mul, qz_neg, qz_sub, qz_inj, qz_lt, qz_le, qz_div, qp_0, qp_1, hp_bz_qp, hp_bz_0, hp_bz_1, if_neg, if_true, if_false, gf_ms, hom, c1, gp_0, gp_5, gp_6, gp_7, gp_8, gp_9, gp_10, gp_11, gp_12, gp_13, gp_14, gp_15, gp_16, gp_17, gp_18, gp_19, gp_20, gp_21, gp_22, gp_23, gp_24, gp_25, gp_26, gp_27, gp_28, gp_38, gp_39, gp_40, gp_41, gp_42, gp_44, gp_45, gp_47, gp_49, gp_51, gp_52, gp_56, gp_57, gp_58, gp_60, gp_61, gp_62, gp_63, gp_64, gp_65, gp_66, gp_68, gp_69, gp_70, gp_72, gp_73, gp_74, gp_75, gp_76, gp_77, gp_78, gp_79, gp_81, gp_83, gp_84, ga_29, ga_21, ga_22, bd_some, c2, false_or, false_and, not_false_eq_true]
  · intro P1
    unfold gL_X11_isOpenPair_5 g_X11_isOpenPair_5
    simp (disch := first | assumption | omega) only [qpT, qpF, qz_lit, qz_add, qz_mul, qz_neg, qz_sub, qz_inj, qz_lt, qz_le, qz_div, qp_0, qp_1, hp_bz_qp, hp_bz_0, hp_bz_1, if_pos, gf_ms, hom, bd_some]
theorem m_openPair (hq : 0 ≤ q ∧ q ≤ 1) (h32 : F 32 = q) (hK : A 15 q = K) (h33 : F 33 = D) (hom : F 43 = om) (ho0 : 0 ≤ om) (ho1 : om < 200) (hPq : A 25 q = P) (hP0 : 0 ≤ P) (hP : P < 10240) : g_X11_openPair n 0 (qz x) (qz y) (ms F A J) = some (ms (u1 F 43 (om + 1)) (v2 (v2 (v2 (v2 (v2 (v2 (v2 A 21 (10240 * q + P) x) 22 (10240 * q + P) y) 23 (10240 * q + P) K) 24 (10240 * q + P) 200) 25 q (P + 1)) 29 om (10240 * q + P)) 30 om D) J) := by
  unfold g_X11_openPair g_X11_openPair_0
  simp (disch := first | assumption | omega) only [qpT, qpF, qz_lit, qz_add, qz_mul, qz_neg, qz_sub, qz_inj, qz_lt, qz_le, qz_div, qp_0, qp_1, hp_bz_qp, hp_bz_0, hp_bz_1, gf_ms, wf_ms, h32, h33, hom, gp_0, gp_5, gp_6, gp_7, gp_8, gp_9, gp_10, gp_11, gp_12, gp_13, gp_14, gp_15, gp_16, gp_17, gp_18, gp_19, gp_20, gp_21, gp_22, gp_23, gp_24, gp_25, gp_26, gp_27, gp_28, gp_38, gp_39, gp_40, gp_41, gp_42, gp_44, gp_45, gp_47, gp_49, gp_51, gp_52, gp_56, gp_57, gp_58, gp_60, gp_61, gp_62, gp_63, gp_64, gp_65, gp_66, gp_68, gp_69, gp_70, gp_72, gp_73, gp_74, gp_75, gp_76, gp_77, gp_78, gp_79, gp_81, gp_83, gp_84, ga_25, ga_15, ua_21, ua_22, ua_23, ua_24, ua_25, ua_29, ua_30, v2_o, hK, hPq, bd_some]
end MPA
