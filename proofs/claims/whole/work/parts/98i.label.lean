/-! Outside statements: labels, declarations, blocks that open -/
section S0
variable {b n : Nat} {q S K P len c b0 e0 w : Int} {f0 : Nat → Nat → Int} {a0 : Nat → Int → Int} {ni0 : Nat → Nat} {j0 : Nat → Int → Int64} {F0 : Nat → Int} {A0 : Nat → Int → Int} {J0 : Nat → Int → Int64} {f : Nat → Nat → Int} {d : Nat → Nat} {a : Nat → Int → Int} {ni : Nat → Nat} {j : Nat → Int → Int64} {F : Nat → Int} {A : Nat → Int → Int} {J : Nat → Int → Int64}
theorem s_label (hn : 100000 ≤ n) (G : BK b q S K P len f a ni j A J) (L : Rl b q len c f d a F A) (R : Rs b q S K P f a F A) (C : Rc b K c f a F) (Fr : FR b q f0 a0 ni0 j0 F0 A0 J0 f a ni j F A J) (Ti : TI b len c b0 e0 w f a F A) (hw : w = 0) (m1 : f 65 4 = 0) (m2 : F 34 = 0) (m3 : F 36 = a (b + 11 + 2) K) (m4 : F 37 = a (b + 14 + 2) K) (m5 : PB P (F 43) (f 66 0) 0 c) : OUT b n q len b0 e0 f0 a0 ni0 j0 F0 A0 J0 d (g_X4_takeLabel n 65 (cs f d a ni j)) (g_X11_outside n 0 (ms F A J)) := by
  have G' := G
  obtain ⟨⟨b1, b2, b3, b4, b5, b6, b7, b8, b9⟩, gn, glb, gk, gf, gt, ghy, gma, gun, gpo, gpr, gfm, gax, grw⟩ := G'
  have L' := L
  obtain ⟨l1, l2, l3, l4, l5, l6, l7, l8, l9, l10, l11, l12, l13⟩ := L'
  have hb := bq_b l1
  have hq := bq_q l1
  have C' := C
  obtain ⟨k1, k2, k3, k4, k5, k6, k7, k8, k9, k10⟩ := C'
  have T' := Ti
  obtain ⟨t1, t2, t3, t4, t5, t6, t7, t8, t9, t10, t11, t12, t13⟩ := T'
  have hK : 0 ≤ K ∧ K ≤ 200 := ⟨gn.2.2.1, gn.2.2.2.1⟩
  have hS : 0 ≤ S ∧ S ≤ 300 := ⟨gn.1, gn.2.1⟩
  have hD : 0 ≤ f 66 0 ∧ f 66 0 ≤ 16 := ⟨R.1.1, R.1.2.1⟩
  have rwa := grw_rwa grw
  have hsc : scd f d a (b + 2) len := ⟨l3, tx_b hb, l4, b7, b8, b9⟩
  have htc : tkc f b0 e0 len := ⟨t1, t2, t6, t7, t8⟩
  have hce : c ≤ e0 := by omega
  have hbb : b = 1 ∨ b = 33 := hb
  have htok : tok (u1 F 35 0) b0 e0 := ti_tok Ti b8 (u1_o (by decide)) (u1_o (by decide))
  have FrF : FR b q f0 a0 ni0 j0 F0 A0 J0 f a ni j (u1 F 35 0) A J := fr_F Fr (by omega)
  obtain ⟨r, sy, lb, e1, e2, e3, hr⟩ := look3 (f := f) (d := d) (ni := ni) (j := j) (J := J) (n := n) hn hb hq gn l9 b9 l10 htok t8 (by rw [u1_o (by decide)]; exact l7) b2 b4
  have hlb := sg_lab l10 t6 t8
  have X0 : g_X4_takeLabel n 65 (cs f d a ni j) = if K = 200 then some (qz 7, cs f d a ni j) else if qp (lab (a (b + 2)) b0 e0) = qz 0 then some (qz 4, cs f d a ni j) else if qz r = qz (-1) then some (qz 0, cs (u2 (u2 (u2 f 65 7 b0) 65 8 (e0 - b0)) 65 4 1) d a ni j) else some (qz 4, cs f d a ni j) := by
    unfold g_X4_takeLabel g_X4_takeLabel_0
    simp only [qz_lit, qz_neg]
    rw [gpc_65_1, l2, gf_cs, b3, gpc_65_2, c_isLabel hn hsc htc, bd_some, c_named hb l2 t1 t2, e1, bd_some]
    simp (disch := omega) only [qz_inj (a := K), gf_cs, wf_cs, bd_some, gpc_65_2, u2_b, u2_c, t1, t2, qz_sub]
  have Y0 : g_X11_outside n 0 (ms F A J) = if K = 200 then some (qz 7, ms (u1 F 35 0) A J) else if qp (lab (A 1) b0 e0) = qz 0 then some (qz 4, ms (u1 F 35 0) A J) else if qz 0 ≤ qz lb then some (qz 4, ms (u1 F 35 0) A J) else if qz sy < qz 0 then some (qz 0, ms (u1 (u1 F 35 0) 34 1) (v2 (v2 A 8 (200 * q + K) b0) 9 (200 * q + K) (e0 - b0)) J) else some (qz 4, ms (u1 F 35 0) A J) := by
    unfold g_X11_outside g_X11_outside_0
    simp only [qz_lit]
    rw [wf_ms, bd_some]
    rw [mW l9 l10 htok t8 t13 (by omega), bd_some, qp_F (by omega), if_pos rfl]
    rw [mW l9 l10 htok t8 t13 (by omega), bd_some, qp_F (by omega), if_pos rfl]
    rw [mW l9 l10 htok t8 t13 (by omega), bd_some, qp_F (by omega), if_pos rfl]
    rw [mW l9 l10 htok t8 t13 (by omega), bd_some, qp_F (by omega), if_pos rfl]
    rw [mW l9 l10 htok t8 t13 (by omega), bd_some, qp_F (by omega), if_pos rfl]
    rw [mD hn l9 l10 htok t8 t13, bd_some, qp_F (by omega), if_pos rfl, mL hn l9 htok t8, bd_some, e3, bd_some, e2, bd_some]
    simp (disch := first | assumption | omega) only [gf_ms, wf_ms, bd_some, gp_0, gp_5, gp_6, gp_7, gp_8, gp_9, gp_10, gp_11, gp_12, gp_13, gp_14, gp_15, gp_16, gp_17, gp_18, gp_19, gp_20, gp_21, gp_22, gp_23, gp_24, gp_25, gp_26, gp_27, gp_28, gp_38, gp_39, gp_40, gp_41, gp_42, gp_44, gp_45, gp_47, gp_49, gp_51, gp_52, gp_56, gp_57, gp_58, gp_60, gp_61, gp_62, gp_63, gp_64, gp_65, gp_66, gp_68, gp_69, gp_70, gp_72, gp_73, gp_74, gp_75, gp_76, gp_77, gp_78, gp_79, gp_81, gp_83, gp_84, ga_1, ga_2, ga_3, ga_4, ga_5, ga_6, ga_7, ga_8, ga_9, ga_10, ga_11, ga_12, ga_13, ga_14, ga_15, ga_16, ga_17, ga_18, gj_19, gj_20, ga_21, ga_22, ga_23, ga_24, ga_25, ga_26, ga_27, ga_28, ga_29, ga_30, ga_31, ga_32, ga_33, ga_34, ga_35, ga_36, ga_37, ga_38, ga_39, ga_40, ga_41, ga_42, ga_43, ga_44, ga_45, ga_46, ga_47, ga_48, ga_49, ga_50, ga_51, ga_52, ga_53, ga_54, ga_55, ga_56, ga_57, ga_58, ga_59, ga_60, ua_1, ua_2, ua_3, ua_4, ua_5, ua_6, ua_7, ua_8, ua_9, ua_10, ua_11, ua_12, ua_13, ua_14, ua_15, ua_16, ua_17, ua_18, uj_19, uj_20, ua_21, ua_22, ua_23, ua_24, ua_25, ua_26, ua_27, ua_28, ua_29, ua_30, ua_31, ua_32, ua_33, ua_34, ua_35, ua_36, ua_37, ua_38, ua_39, ua_40, ua_41, ua_42, ua_43, ua_44, ua_45, ua_46, ua_47, ua_48, ua_49, ua_50, ua_51, ua_52, ua_53, ua_54, ua_55, ua_56, ua_57, ua_58, ua_59, ua_60, u1_o, l7, b4, qpT, qpF, qz_lit, qz_add, qz_mul, qz_neg, qz_sub, qz_inj, qz_lt, qz_le, qz_div, qp_0, qp_1, hp_bz_qp, hp_bz_0, hp_bz_1, t3, t4]
  by_cases cK : K = 200
  · rw [if_pos cK] at X0 Y0
    exact out_fault (by omega) (by omega) X0 Y0 t1 (by rw [u1_o (by decide)]; exact t3) FrF rwa (by omega) (by omega)
  rw [if_neg cK] at X0 Y0
  by_cases cl : ¬lab (A 1) b0 e0
  · rw [qp_F (fun z => cl (hlb.mp z)), if_pos rfl] at X0
    rw [qp_F cl, if_pos rfl] at Y0
    exact out_fault (by omega) (by omega) X0 Y0 t1 (by rw [u1_o (by decide)]; exact t3) FrF rwa (by omega) (by omega)
  have cl := Classical.not_not.mp cl
  rw [qp_T (hlb.mpr cl), if_neg n10] at X0
  rw [qp_T cl, if_neg n10] at Y0
  by_cases hr0 : r = -1
  rotate_left
  · have h1 : ¬(qz r = qz (-1)) := by
      rw [qz_inj (by omega) (by omega) (by omega) (by omega)]
      omega
    rw [if_neg h1] at X0
    have Y1 : g_X11_outside n 0 (ms F A J) = some (qz 4, ms (u1 F 35 0) A J) := by
      rw [Y0]
      by_cases z : 300 ≤ r
      · rw [if_pos (by rw [qz_le (by omega) (by omega) (by omega) (by omega)]; omega)]
      · rw [if_neg (by rw [qz_le (by omega) (by omega) (by omega) (by omega)]; omega), if_neg (by rw [qz_lt (by omega) (by omega) (by omega) (by omega)]; omega)]
    exact out_fault (by omega) (by omega) X0 Y1 t1 (by rw [u1_o (by decide)]; exact t3) FrF rwa (by omega) (by omega)
  have hr : sy = -1 ∧ lb = -1 ∧ ∀ x, liv S K x → ¬nme (a (b + 2)) (a (b + 5) x) (a (b + 6) x) (a (b + 2)) b0 (e0 - b0) := by
    rcases hr with hr | hr | hr
    · exact hr.2
    · omega
    · omega
  obtain ⟨hs, hl, hr⟩ := hr
  rw [if_pos (by rw [hr0])] at X0
  rw [hs, hl, if_neg (by decide), if_pos (by decide)] at Y0
  have ag : agK q K A (v2 (v2 A 8 (200 * q + K) b0) 9 (200 * q + K) (e0 - b0)) := agK_v (agK_v agK_0 (by omega)) (by omega)
  have hf : ∀ i, b ≤ i → i < b + 32 → u2 (u2 (u2 f 65 7 b0) 65 8 (e0 - b0)) 65 4 1 i = f i := by
    intro i i1 i2
    rw [u2_b (by omega), u2_b (by omega), u2_b (by omega)]
  have h66 : u2 (u2 (u2 f 65 7 b0) 65 8 (e0 - b0)) 65 4 1 66 = f 66 := by rw [u2_b (by omega), u2_b (by omega), u2_b (by omega)]
  have h77 : u2 (u2 (u2 f 65 7 b0) 65 8 (e0 - b0)) 65 4 1 77 = f 77 := by rw [u2_b (by omega), u2_b (by omega), u2_b (by omega)]
  refine out_good X0 Y0 (by rw [u2_a]; omega) (by rw [u2_a]; omega) ⟨bk_k G hf ag, ?_, rs_k R G h66 (by simp (disch := omega) only [u1_o]) ag, ?_, ?_, ?_⟩ (by rw [h77]; exact t2) (by simp (disch := omega) only [u1_o]; exact t5)
  · unfold Rl
    rw [h66, h77]
    simp (disch := omega) only [u1_o, v2_o]
    exact ⟨l1, l2, l3, l4, l5, l6, l7, l8, l9, l10, by omega, t8, Or.inr t12⟩
  · unfold Rc
    rw [hf (b + 11) (by omega) (by omega), hf (b + 14) (by omega) (by omega), hf (b + 17) (by omega) (by omega), hf (b + 20) (by omega) (by omega), hf (b + 23) (by omega) (by omega), hf (b + 26) (by omega) (by omega)]
    simp (disch := omega) only [u1_o]
    exact ⟨k1, k2, k3, k4, k5, k6, by omega, k8, k9, k10⟩
  · refine Or.inr (Or.inl ⟨by rw [u2_a], by rw [u1_s], ?_⟩)
    rw [h66]
    simp (disch := omega) only [u1_o, u2_a, u2_c, v2_s, v2_o, v1_s]
    refine ⟨m3, m4, pb_m m5 hce (by omega), by omega, by rw [v1_s], by rw [v1_s], t6, by omega, by omega, fun x x1 x2 => ?_, hr⟩
    exact (hlb.mpr cl) (b0 + x) (by omega) (by omega)
  · exact fr_V (fr_V (fr_F (fr_F (fr_f (fr_f (fr_f Fr (by omega)) (by omega)) (by omega)) (by omega)) (by omega)) (by omega) 200 rfl (by omega)) (by omega) 200 rfl (by omega)
theorem rd65 (hn : 100000 ≤ n) (G : BK b q S K P len f a ni j A J) (L : Rl b q len c f d a F A) (R : Rs b q S K P f a F A) (C : Rc b K c f a F) (Fr : FR b q f0 a0 ni0 j0 F0 A0 J0 f a ni j F A J) (Ti : TI b len c b0 e0 w f a F A) {f2 : Nat → Nat → Int} {F2 : Nat → Int} {A2 : Nat → Int → Int} (h1 : ∀ i, i ≠ 65 → f2 i = f i) (h2 : ∀ k, k ≠ 34 → k ≠ 35 → F2 k = F k) (ag : agK q K A A2) (M : Gmo b q S K P len e0 f2 a F2 A2) (Fr2 : FR b q f0 a0 ni0 j0 F0 A0 J0 f2 a ni j F2 A2 J) : RD b q S K P len e0 f0 a0 ni0 j0 F0 A0 J0 f2 d a ni j F2 A2 J := by
  have G' := G
  obtain ⟨⟨b1, b2, b3, b4, b5, b6, b7, b8, b9⟩, gn, glb, gk, gf, gt, ghy, gma, gun, gpo, gpr, gfm, gax, grw⟩ := G'
  have L' := L
  obtain ⟨l1, l2, l3, l4, l5, l6, l7, l8, l9, l10, l11, l12, l13⟩ := L'
  have hb := bq_b l1
  have hq := bq_q l1
  have C' := C
  obtain ⟨k1, k2, k3, k4, k5, k6, k7, k8, k9, k10⟩ := C'
  have T' := Ti
  obtain ⟨t1, t2, t3, t4, t5, t6, t7, t8, t9, t10, t11, t12, t13⟩ := T'
  have hK : 0 ≤ K ∧ K ≤ 200 := ⟨gn.2.2.1, gn.2.2.2.1⟩
  have hS : 0 ≤ S ∧ S ≤ 300 := ⟨gn.1, gn.2.1⟩
  have hD : 0 ≤ f 66 0 ∧ f 66 0 ≤ 16 := ⟨R.1.1, R.1.2.1⟩
  have rwa := grw_rwa grw
  have hsc : scd f d a (b + 2) len := ⟨l3, tx_b hb, l4, b7, b8, b9⟩
  have htc : tkc f b0 e0 len := ⟨t1, t2, t6, t7, t8⟩
  have hce : c ≤ e0 := by omega
  have hbb : b = 1 ∨ b = 33 := hb
  have hf : ∀ i, b ≤ i → i < b + 32 → f2 i = f i := fun i i1 i2 => h1 i (by omega)
  refine ⟨bk_k G hf ag, ?_, rs_k R G (h1 66 (by decide)) (h2 43 (by decide) (by decide)) ag, ?_, M, Fr2⟩
  · unfold Rl
    rw [h1 66 (by decide), h1 77 (by decide), h2 1 (by decide) (by decide), h2 32 (by decide) (by decide), h2 33 (by decide) (by decide), ag.1 1 (by omega)]
    exact ⟨l1, l2, l3, l4, l5, l6, l7, l8, l9, l10, by omega, t8, Or.inr t12⟩
  · unfold Rc
    rw [hf (b + 11) (by omega) (by omega), hf (b + 14) (by omega) (by omega), hf (b + 17) (by omega) (by omega), hf (b + 20) (by omega) (by omega), hf (b + 23) (by omega) (by omega), hf (b + 26) (by omega) (by omega), h2 36 (by decide) (by decide), h2 37 (by decide) (by decide)]
    exact ⟨k1, k2, k3, k4, k5, k6, by omega, k8, k9, k10⟩
theorem c_begin {m : Int} : g_X4_begin n 65 (qz m) (cs f d a ni j) = some (qz 0, cs (u2 (u2 f 65 4 m) 65 9 0) d a ni j) := by
  unfold g_X4_begin g_X4_begin_0
  simp only [qz_lit, wf_cs, bd_some]
theorem wrd_two (h : wrd (a (b + 2)) b0 e0 w) (h1 : w ≠ 0) (h2 : w ≠ -1) : e0 = b0 + 2 := by
  rcases h with ⟨_, h⟩ | ⟨_, _, h⟩ | ⟨_, _, h⟩
  · omega
  · have := h.1
    omega
  · omega
theorem s_c (hn : 100000 ≤ n) (G : BK b q S K P len f a ni j A J) (L : Rl b q len c f d a F A) (R : Rs b q S K P f a F A) (C : Rc b K c f a F) (Fr : FR b q f0 a0 ni0 j0 F0 A0 J0 f a ni j F A J) (Ti : TI b len c b0 e0 w f a F A) (hw : w = 99) (m1 : f 65 4 = 0) (m2 : F 34 = 0) (m3 : F 36 = a (b + 11 + 2) K) (m4 : F 37 = a (b + 14 + 2) K) (m5 : PB P (F 43) (f 66 0) 0 c) : OUT b n q len b0 e0 f0 a0 ni0 j0 F0 A0 J0 d (g_X4_takeOutside n 65 (qz w) (cs f d a ni j)) (g_X11_outside n 0 (ms F A J)) := by
  have G' := G
  obtain ⟨⟨b1, b2, b3, b4, b5, b6, b7, b8, b9⟩, gn, glb, gk, gf, gt, ghy, gma, gun, gpo, gpr, gfm, gax, grw⟩ := G'
  have L' := L
  obtain ⟨l1, l2, l3, l4, l5, l6, l7, l8, l9, l10, l11, l12, l13⟩ := L'
  have hb := bq_b l1
  have hq := bq_q l1
  have C' := C
  obtain ⟨k1, k2, k3, k4, k5, k6, k7, k8, k9, k10⟩ := C'
  have T' := Ti
  obtain ⟨t1, t2, t3, t4, t5, t6, t7, t8, t9, t10, t11, t12, t13⟩ := T'
  have hK : 0 ≤ K ∧ K ≤ 200 := ⟨gn.2.2.1, gn.2.2.2.1⟩
  have hS : 0 ≤ S ∧ S ≤ 300 := ⟨gn.1, gn.2.1⟩
  have hD : 0 ≤ f 66 0 ∧ f 66 0 ≤ 16 := ⟨R.1.1, R.1.2.1⟩
  have rwa := grw_rwa grw
  have hsc : scd f d a (b + 2) len := ⟨l3, tx_b hb, l4, b7, b8, b9⟩
  have htc : tkc f b0 e0 len := ⟨t1, t2, t6, t7, t8⟩
  have hce : c ≤ e0 := by omega
  have hbb : b = 1 ∨ b = 33 := hb
  have htok : tok (u1 F 35 0) b0 e0 := ti_tok Ti b8 (u1_o (by decide)) (u1_o (by decide))
  have FrF : FR b q f0 a0 ni0 j0 F0 A0 J0 (u2 f 65 5 0) a ni j (u1 (u1 F 35 0) 34 2) A J := fr_F (fr_F (fr_f Fr (by omega)) (by omega)) (by omega)
  have X0 : g_X4_takeOutside n 65 (qz w) (cs f d a ni j) = if f 66 0 = 0 then some (qz 0, cs (u2 (u2 (u2 f 65 5 0) 65 4 2) 65 9 0) d a ni j) else some (qz 3, cs (u2 f 65 5 0) d a ni j) := by
    unfold g_X4_takeOutside g_X4_takeOutside_0
    simp only [qz_lit]
    rw [hw, if_pos rfl]
    unfold g_X4_takeOutside_52
    simp only [qz_lit]
    rw [if_neg (by decide)]
    unfold g_X4_takeOutside_64 g_X4_takeOutside_84
    simp (disch := omega) only [qz_lit, hp_bz_0, bd_some, wf_cs, gf_cs, u2_a, gpc_65_3, u2_b, c_begin, qz_inj, if_true]
  have Y0 : g_X11_outside n 0 (ms F A J) = if f 66 0 ≤ 0 then some (qz 0, ms (u1 (u1 F 35 0) 34 2) A J) else some (qz 3, ms (u1 (u1 F 35 0) 34 2) A J) := by
    unfold g_X11_outside g_X11_outside_0
    simp only [qz_lit]
    rw [wf_ms, bd_some]
    rw [mW l9 l10 htok t8 t13 (by omega), bd_some, qp_T (by omega), if_neg n10]
    simp (disch := omega) only [wf_ms, bd_some, gf_ms, u1_o, l8, qz_le]
  by_cases cD : f 66 0 = 0
  · rw [if_pos cD] at X0
    rw [if_pos (by omega)] at Y0
    refine out_good X0 Y0 (by simp (disch := omega) only [u2_a, u2_c]; omega) (by simp (disch := omega) only [u2_a, u2_c]; omega) (rd65 hn G L R C Fr Ti (fun i hi => by rw [u2_b hi, u2_b hi, u2_b hi]) (fun k k1 k2 => by rw [u1_o k1, u1_o k2]) agK_0 ?_ (fr_F (fr_F (fr_f (fr_f (fr_f Fr (by omega)) (by omega)) (by omega)) (by omega)) (by omega))) (by simp (disch := omega) only [u2_b]; exact t2) (by simp (disch := omega) only [u1_o]; exact t5)
    refine Or.inr (Or.inr (Or.inl ?_))
    simp (disch := omega) only [u2_a, u2_b, u2_c, u1_s, u1_o]
    exact ⟨trivial, Or.inl ⟨trivial, trivial⟩, m3, m4, pb_m m5 hce (by omega), trivial, by omega, by omega⟩
  · rw [if_neg cD] at X0
    rw [if_neg (by omega)] at Y0
    exact out_fault (by omega) (by omega) X0 Y0 (by simp (disch := omega) only [u2_b]; exact t1) (by simp (disch := omega) only [u1_o]; exact t3) FrF (grw_rwa (grw_c grw (fun i i1 i2 => by rw [u2_b (by omega)]))) (by simp (disch := omega) only [u2_c]; omega) (by simp (disch := omega) only [u2_c]; omega)
theorem s_v (hn : 100000 ≤ n) (G : BK b q S K P len f a ni j A J) (L : Rl b q len c f d a F A) (R : Rs b q S K P f a F A) (C : Rc b K c f a F) (Fr : FR b q f0 a0 ni0 j0 F0 A0 J0 f a ni j F A J) (Ti : TI b len c b0 e0 w f a F A) (hw : w = 118) (m1 : f 65 4 = 0) (m2 : F 34 = 0) (m3 : F 36 = a (b + 11 + 2) K) (m4 : F 37 = a (b + 14 + 2) K) (m5 : PB P (F 43) (f 66 0) 0 c) : OUT b n q len b0 e0 f0 a0 ni0 j0 F0 A0 J0 d (g_X4_takeOutside n 65 (qz w) (cs f d a ni j)) (g_X11_outside n 0 (ms F A J)) := by
  have G' := G
  obtain ⟨⟨b1, b2, b3, b4, b5, b6, b7, b8, b9⟩, gn, glb, gk, gf, gt, ghy, gma, gun, gpo, gpr, gfm, gax, grw⟩ := G'
  have L' := L
  obtain ⟨l1, l2, l3, l4, l5, l6, l7, l8, l9, l10, l11, l12, l13⟩ := L'
  have hb := bq_b l1
  have hq := bq_q l1
  have C' := C
  obtain ⟨k1, k2, k3, k4, k5, k6, k7, k8, k9, k10⟩ := C'
  have T' := Ti
  obtain ⟨t1, t2, t3, t4, t5, t6, t7, t8, t9, t10, t11, t12, t13⟩ := T'
  have hK : 0 ≤ K ∧ K ≤ 200 := ⟨gn.2.2.1, gn.2.2.2.1⟩
  have hS : 0 ≤ S ∧ S ≤ 300 := ⟨gn.1, gn.2.1⟩
  have hD : 0 ≤ f 66 0 ∧ f 66 0 ≤ 16 := ⟨R.1.1, R.1.2.1⟩
  have rwa := grw_rwa grw
  have hsc : scd f d a (b + 2) len := ⟨l3, tx_b hb, l4, b7, b8, b9⟩
  have htc : tkc f b0 e0 len := ⟨t1, t2, t6, t7, t8⟩
  have hce : c ≤ e0 := by omega
  have hbb : b = 1 ∨ b = 33 := hb
  have htok : tok (u1 F 35 0) b0 e0 := ti_tok Ti b8 (u1_o (by decide)) (u1_o (by decide))
  have X0 : g_X4_takeOutside n 65 (qz w) (cs f d a ni j) = some (qz 0, cs (u2 (u2 (u2 f 65 5 1) 65 4 2) 65 9 0) d a ni j) := by
    unfold g_X4_takeOutside g_X4_takeOutside_0
    simp only [qz_lit]
    rw [hw, if_neg (by decide), if_neg (by decide), if_pos rfl]
    unfold g_X4_takeOutside_52
    simp only [qz_lit]
    rw [if_pos trivial]
    unfold g_X4_takeOutside_64 g_X4_takeOutside_84
    simp (disch := omega) only [qz_lit, hp_bz_1, bd_some, wf_cs, gf_cs, u2_a, gpc_65_3, u2_b, c_begin, qz_1_0, if_false]
  have Y0 : g_X11_outside n 0 (ms F A J) = some (qz 0, ms (u1 (u1 F 35 0) 34 3) A J) := by
    unfold g_X11_outside g_X11_outside_0
    simp only [qz_lit]
    rw [wf_ms, bd_some]
    rw [mW l9 l10 htok t8 t13 (by omega), bd_some, qp_F (by omega), if_pos rfl]
    rw [mW l9 l10 htok t8 t13 (by omega), bd_some, qp_T (by omega), if_neg n10]
    unfold g_X11_outside_50 g_X11_outside_65
    simp only [qz_lit]
    rw [mW l9 l10 htok t8 t13 (by omega), bd_some, qp_T (by omega), if_neg n10]
    rw [wf_ms, bd_some]
  refine out_good X0 Y0 (by simp (disch := omega) only [u2_a, u2_c]; omega) (by simp (disch := omega) only [u2_a, u2_c]; omega) (rd65 hn G L R C Fr Ti (fun i hi => by rw [u2_b hi, u2_b hi, u2_b hi]) (fun k k1 k2 => by rw [u1_o k1, u1_o k2]) agK_0 ?_ (fr_F (fr_F (fr_f (fr_f (fr_f Fr (by omega)) (by omega)) (by omega)) (by omega)) (by omega))) (by simp (disch := omega) only [u2_b]; exact t2) (by simp (disch := omega) only [u1_o]; exact t5)
  refine Or.inr (Or.inr (Or.inl ?_))
  simp (disch := omega) only [u2_a, u2_b, u2_c, u1_s, u1_o]
  exact ⟨trivial, Or.inr ⟨trivial, trivial⟩, m3, m4, pb_m m5 hce (by omega), trivial, by omega, by omega⟩
theorem s_d (hn : 100000 ≤ n) (G : BK b q S K P len f a ni j A J) (L : Rl b q len c f d a F A) (R : Rs b q S K P f a F A) (C : Rc b K c f a F) (Fr : FR b q f0 a0 ni0 j0 F0 A0 J0 f a ni j F A J) (Ti : TI b len c b0 e0 w f a F A) (hw : w = 100) (m1 : f 65 4 = 0) (m2 : F 34 = 0) (m3 : F 36 = a (b + 11 + 2) K) (m4 : F 37 = a (b + 14 + 2) K) (m5 : PB P (F 43) (f 66 0) 0 c) : OUT b n q len b0 e0 f0 a0 ni0 j0 F0 A0 J0 d (g_X4_takeOutside n 65 (qz w) (cs f d a ni j)) (g_X11_outside n 0 (ms F A J)) := by
  have G' := G
  obtain ⟨⟨b1, b2, b3, b4, b5, b6, b7, b8, b9⟩, gn, glb, gk, gf, gt, ghy, gma, gun, gpo, gpr, gfm, gax, grw⟩ := G'
  have L' := L
  obtain ⟨l1, l2, l3, l4, l5, l6, l7, l8, l9, l10, l11, l12, l13⟩ := L'
  have hb := bq_b l1
  have hq := bq_q l1
  have C' := C
  obtain ⟨k1, k2, k3, k4, k5, k6, k7, k8, k9, k10⟩ := C'
  have T' := Ti
  obtain ⟨t1, t2, t3, t4, t5, t6, t7, t8, t9, t10, t11, t12, t13⟩ := T'
  have hK : 0 ≤ K ∧ K ≤ 200 := ⟨gn.2.2.1, gn.2.2.2.1⟩
  have hS : 0 ≤ S ∧ S ≤ 300 := ⟨gn.1, gn.2.1⟩
  have hD : 0 ≤ f 66 0 ∧ f 66 0 ≤ 16 := ⟨R.1.1, R.1.2.1⟩
  have rwa := grw_rwa grw
  have hsc : scd f d a (b + 2) len := ⟨l3, tx_b hb, l4, b7, b8, b9⟩
  have htc : tkc f b0 e0 len := ⟨t1, t2, t6, t7, t8⟩
  have hce : c ≤ e0 := by omega
  have hbb : b = 1 ∨ b = 33 := hb
  have htok : tok (u1 F 35 0) b0 e0 := ti_tok Ti b8 (u1_o (by decide)) (u1_o (by decide))
  have h2 := wrd_two t13 (by omega) (by omega)
  have X0 : g_X4_takeOutside n 65 (qz w) (cs f d a ni j) = some (qz 0, cs (u2 (u2 f 65 4 3) 65 9 0) d a ni j) := by
    unfold g_X4_takeOutside g_X4_takeOutside_0
    simp only [qz_lit]
    rw [hw, if_neg (by decide), if_pos rfl, c_begin]
    rfl
  have Y0 : g_X11_outside n 0 (ms F A J) = some (qz 0, ms (u1 (u1 F 35 0) 34 4) A J) := by
    unfold g_X11_outside g_X11_outside_0
    simp only [qz_lit]
    rw [wf_ms, bd_some]
    rw [mW l9 l10 htok t8 t13 (by omega), bd_some, qp_F (by omega), if_pos rfl]
    rw [mW l9 l10 htok t8 t13 (by omega), bd_some, qp_F (by omega), if_pos rfl]
    rw [mW l9 l10 htok t8 t13 (by omega), bd_some, qp_T (by omega), if_neg n10]
    unfold g_X11_outside_50 g_X11_outside_65
    simp only [qz_lit]
    rw [mW l9 l10 htok t8 t13 (by omega), bd_some, qp_F (by omega), if_pos rfl]
    rw [wf_ms, bd_some]
  refine out_good X0 Y0 (by simp (disch := omega) only [u2_a, u2_c]; omega) (by simp (disch := omega) only [u2_a, u2_c]; omega) (rd65 hn G L R C Fr Ti (fun i hi => by rw [u2_b hi, u2_b hi]) (fun k k1 k2 => by rw [u1_o k1, u1_o k2]) agK_0 ?_ (fr_F (fr_F (fr_f (fr_f Fr (by omega)) (by omega)) (by omega)) (by omega))) (by simp (disch := omega) only [u2_b]; exact t2) (by simp (disch := omega) only [u1_o]; exact t5)
  refine Or.inr (Or.inr (Or.inr (Or.inl ?_)))
  simp (disch := omega) only [u2_a, u2_b, u2_c, u1_s, u1_o]
  refine ⟨trivial, trivial, m3, m4, ?_, trivial, by omega, by omega, fun i i1 i2 => by omega⟩
  unfold PB at *
  omega
end S0
