/-! Distinct variables: the token -/
section SDJ
variable {b n : Nat} {q S K P len c b0 e0 w : Int} {f0 : Nat → Nat → Int} {a0 : Nat → Int → Int} {ni0 : Nat → Nat} {j0 : Nat → Int → Int64} {F0 : Nat → Int} {A0 : Nat → Int → Int} {J0 : Nat → Int → Int64} {f : Nat → Nat → Int} {d : Nat → Nat} {a : Nat → Int → Int} {ni : Nat → Nat} {j : Nat → Int → Int64} {F : Nat → Int} {A : Nat → Int → Int} {J : Nat → Int → Int64}
theorem tm_7 {m : Int} (h0 : 0 ≤ m) (h1 : m ≤ 7) : ∃ tm, 8400 + 5600 * m - 1100 * (m * (m - 1)) = tm ∧ 1400 ≤ tm ∧ 8400 + 5600 * (m + 1) - 1100 * ((m + 1) * (m + 1 - 1)) = tm + 5600 - 2200 * m := by
  refine ⟨_, rfl, ?_⟩
  rcases (by omega : m = 0 ∨ m = 1 ∨ m = 2 ∨ m = 3 ∨ m = 4 ∨ m = 5 ∨ m = 6 ∨ m = 7) with rfl | rfl | rfl | rfl | rfl | rfl | rfl | rfl <;> omega
theorem tm_8 {m : Int} (h0 : 0 ≤ m) (h1 : m ≤ 8) : ∃ tm, 8400 + 5600 * m - 1100 * (m * (m - 1)) = tm ∧ -8400 ≤ tm := by
  refine ⟨_, rfl, ?_⟩
  rcases (by omega : m = 0 ∨ m = 1 ∨ m = 2 ∨ m = 3 ∨ m = 4 ∨ m = 5 ∨ m = 6 ∨ m = 7 ∨ m = 8) with rfl | rfl | rfl | rfl | rfl | rfl | rfl | rfl | rfl <;> omega
theorem s_dist (hn : 100000 ≤ n) (G : BK b q S K P len f a ni j A J) (L : Rl b q len c f d a F A) (R : Rs b q S K P f a F A) (C : Rc b K c f a F) (Fr : FR b q f0 a0 ni0 j0 F0 A0 J0 f a ni j F A J) (Ti : TI b len c b0 e0 w f a F A) (hw1 : w ≠ -1) (m1 : f 65 4 = 3) (m2 : F 34 = 4) (m3 : F 36 = a (b + 11 + 2) K) (m4 : F 37 = a (b + 14 + 2) K) (m5 : PB P (F 43) (f 66 0) (8400 + 5600 * F 35 - 1100 * (F 35 * (F 35 - 1))) c) (m6 : f 65 9 = F 35) (m7 : 0 ≤ F 35) (m8 : F 35 ≤ 8) (m9 : ∀ i, 0 ≤ i → i < F 35 → a 76 i = A 31 i ∧ 0 ≤ a 76 i ∧ a 76 i < S ∧ a (b + 7) (a 76 i) = 1) : OUT b n q len b0 e0 f0 a0 ni0 j0 F0 A0 J0 d (g_X4_takeSeparated n 65 (qz w) (cs f d a ni j)) (g_X11_distinct n 0 (ms F A J)) := by
  have G' := G
  obtain ⟨⟨b1, b2, b3, b4, b5, b6, b7, b8, b9⟩, gn, glb, gk, gf, gt, ghy, gma, gun, gpo, gpr, gfm, gax, grw⟩ := G'
  have L' := L
  obtain ⟨l1, l2, l3, l4, l5, l6, l7, l8, l9, l10, l11, l12, l13⟩ := L'
  have hb := bq_b l1
  have hq := bq_q l1
  have C' := C
  obtain ⟨k1, k2, k3, k4, k5, k6, k7, k8, k9, k10⟩ := C'
  have T' := Ti
  obtain ⟨t1, t2, t3, t4, t5, t6, t7, t8, t9, t10, t11, t12, t13⟩ := T'
  have hK : 0 ≤ K ∧ K ≤ 200 := ⟨gn.2.2.1, gn.2.2.2.1⟩
  have hS : 0 ≤ S ∧ S ≤ 300 := ⟨gn.1, gn.2.1⟩
  have hD : 0 ≤ f 66 0 ∧ f 66 0 ≤ 16 := ⟨R.1.1, R.1.2.1⟩
  have rwa := grw_rwa grw
  have hsc : scd f d a (b + 2) len := ⟨l3, tx_b hb, l4, b7, b8, b9⟩
  have htc : tkc f b0 e0 len := ⟨t1, t2, t6, t7, t8⟩
  have hce : c ≤ e0 := by omega
  have hbb : b = 1 ∨ b = 33 := hb
  have htok : tok F b0 e0 := ti_tok Ti b8 rfl rfl
  have R' := R
  obtain ⟨r1, r2, r3, r4, r5, r6, r7⟩ := R'
  have hwr : -1 ≤ w ∧ w < 128 := wrd_rng t13 b9 t6 t7 (by omega)
  have hac : ∀ k, 0 ≤ k → k < 300 → a 70 k = 0 ∨ a 70 k = 1 := fun k x1 x2 => (r1.2.2.2.1 k x1 x2).1
  by_cases cw : w = 46 ∧ 2 ≤ F 35
  · have X0 : g_X4_takeSeparated n 65 (qz w) (cs f d a ni j) = some (qz 0, cs (u2 (u2 f 65 4 0) 65 9 0) d a ni j) := by
      unfold g_X4_takeSeparated g_X4_takeSeparated_0
      simp only [qz_lit]
      rw [cw.1, if_pos rfl, gf_cs, m6, if_neg (by rw [qz_lt (by omega) (by omega) (by omega) (by omega)]; omega), c_begin, bd_some]
    have Y0 : g_X11_distinct n 0 (ms F A J) = some (qz 0, ms (u1 F 34 0) A J) := by
      unfold g_X11_distinct g_X11_distinct_0
      simp only [qz_lit]
      rw [mW l9 l10 htok t8 t13 (by omega), bd_some, qp_T (by omega), if_neg n10]
      rw [gf_ms, if_neg (by rw [qz_le (by omega) (by omega) (by omega) (by omega)]; omega), wf_ms, bd_some]
    refine out_good X0 Y0 (by simp (disch := omega) only [u2_a, u2_c]; omega) (by simp (disch := omega) only [u2_a, u2_c]; omega) (rd65 hn G L R C Fr Ti (fun i hi => by rw [u2_b hi, u2_b hi]) (fun k k1 k2 => by rw [u1_o k1]) agK_0 ?_ (fr_F (fr_f (fr_f Fr (by omega)) (by omega)) (by omega))) (by simp (disch := omega) only [u2_b]; exact t2) (by simp (disch := omega) only [u1_o]; exact t5)
    refine Or.inl ?_
    simp (disch := omega) only [u2_a, u2_b, u2_c, u1_s, u1_o]
    refine ⟨trivial, trivial, m3, m4, ?_⟩
    obtain ⟨tm, h1, h2⟩ := tm_8 m7 m8
    rw [h1] at m5
    have h3 := wrd_two t13 (by omega) (by omega)
    unfold PB at *
    omega
  have X1 : g_X4_takeSeparated n 65 (qz w) (cs f d a ni j) = g_X4_takeSeparated_20 n 65 (qz w) (cs f d a ni j) := by
    unfold g_X4_takeSeparated g_X4_takeSeparated_0
    simp only [qz_lit]
    by_cases z : w = 46
    · rw [z, if_pos rfl, gf_cs, m6, if_pos (by rw [qz_lt (by omega) (by omega) (by omega) (by omega)]; omega)]
    · rw [if_neg (by rw [qz_inj (by omega) (by omega) (by omega) (by omega)]; exact z)]
  have Y1 : g_X11_distinct n 0 (ms F A J) = g_X11_distinct_24 n 0 (ms F A J) := by
    unfold g_X11_distinct g_X11_distinct_0
    simp only [qz_lit]
    by_cases z : w = 46
    · rw [mW l9 l10 htok t8 t13 (by omega), bd_some, qp_T (by omega), if_neg n10]
      rw [gf_ms, if_pos (by rw [qz_le (by omega) (by omega) (by omega) (by omega)]; omega)]
    · rw [mW l9 l10 htok t8 t13 (by omega), bd_some, qp_F (by omega), if_pos rfl]
  by_cases w0 : w ≠ 0
  · refine out_fault (z := 3) (by omega) (by omega) (f := f) (a := a) (ni := ni) (j := j) (F := F) (A := A) (J := J) ?_ ?_ t1 t3 Fr rwa (by omega) (by omega)
    · rw [X1]
      unfold g_X4_takeSeparated_20
      simp only [qz_lit]
      rw [if_neg (by rw [qz_inj (by omega) (by omega) (by omega) (by omega)]; exact w0)]
    · rw [Y1]
      unfold g_X11_distinct_24
      simp only [qz_lit]
      rw [mD hn l9 l10 htok t8 t13, bd_some, qp_T w0, if_neg n10]
  have w0 := Classical.not_not.mp w0
  by_cases c8 : F 35 = 8
  · refine out_fault (z := 7) (by omega) (by omega) (f := f) (a := a) (ni := ni) (j := j) (F := F) (A := A) (J := J) ?_ ?_ t1 t3 Fr rwa (by omega) (by omega)
    · rw [X1]
      unfold g_X4_takeSeparated_20
      simp only [qz_lit]
      rw [w0, if_pos rfl, gf_cs, m6, c8, if_pos rfl]
    · rw [Y1]
      unfold g_X11_distinct_24
      simp only [qz_lit]
      rw [mD hn l9 l10 htok t8 t13, bd_some, qp_F (fun z => z w0), if_pos rfl, gf_ms, c8, if_pos rfl]
  obtain ⟨r, sy, lb, e1, e2, e3, hr⟩ := look3 (f := f) (d := d) (ni := ni) (j := j) (J := J) (n := n) hn hb hq gn l9 b9 l10 htok t8 l7 b2 b4
  have n8 : ¬(qz (F 35) = qz 8) := by rw [qz_inj (by omega) (by omega) (by omega) (by omega)]; exact c8
  have hrr : -1 ≤ r ∧ r < 500 := by omega
  by_cases ca : ¬(0 ≤ r ∧ r < 300 ∧ a 70 r = 1)
  · refine out_fault (z := 6) (by omega) (by omega) (f := f) (a := a) (ni := ni) (j := j) (F := F) (A := A) (J := J) ?_ ?_ t1 t3 Fr rwa (by omega) (by omega)
    · rw [X1]
      unfold g_X4_takeSeparated_20
      simp only [qz_lit]
      rw [w0, if_pos rfl, gf_cs, m6, if_neg n8, c_named hb l2 t1 t2, e1, bd_some, gpc_65_3, c_isAct (by omega) (by omega) hac, bd_some, qp_F ca, if_pos rfl]
    · rw [Y1]
      unfold g_X11_distinct_24
      simp only [qz_lit]
      rw [mD hn l9 l10 htok t8 t13, bd_some, qp_F (fun z => z w0), if_pos rfl, gf_ms, if_neg n8, e2, bd_some]
      by_cases z : sy < 0
      · rw [if_pos (by rw [qz_lt (by omega) (by omega) (by omega) (by omega)]; exact z)]
      · have z1 : sy = r ∧ 0 ≤ r ∧ r < S := by omega
        have v4 := r1.2.2.2.1 r (by omega) (by omega)
        rw [if_neg (by rw [qz_lt (by omega) (by omega) (by omega) (by omega)]; exact z), z1.1]
        simp (disch := first | assumption | omega) only [gp_0, gp_5, gp_6, gp_7, gp_8, gp_9, gp_10, gp_11, gp_12, gp_13, gp_14, gp_15, gp_16, gp_17, gp_18, gp_19, gp_20, gp_21, gp_22, gp_23, gp_24, gp_25, gp_26, gp_27, gp_28, gp_38, gp_39, gp_40, gp_41, gp_42, gp_44, gp_45, gp_47, gp_49, gp_51, gp_52, gp_56, gp_57, gp_58, gp_60, gp_61, gp_62, gp_63, gp_64, gp_65, gp_66, gp_68, gp_69, gp_70, gp_72, gp_73, gp_74, gp_75, gp_76, gp_77, gp_78, gp_79, gp_81, gp_83, gp_84, ga_26, bd_some]
        rw [if_neg (by rw [qz_le (by omega) (by omega) (by omega) (by omega)]; omega)]
  obtain ⟨ca0, ca1, ca2⟩ := Classical.not_not.mp ca
  have v4 := r1.2.2.2.1 r ca0 ca1
  have es : sy = r := by omega
  have hrS : r < S ∧ a (b + 7) r = 1 := v4.2.2.2.2 (v4.2.1.mp ca2)
  have hact : 0 ≤ A 26 r := v4.2.1.mp ca2
  -- is it there already
  have lpC := lp_find (b := gL_X4_takeSeparated_59 n 65 (qz r) (cs f d a ni j)) (fun i => qz i) (fun i => a 76 i = r) (fun _ => (.inr (qz 6) : Unit ⊕ Int32)) (.inl ()) (n := n) (lo := 0) (F 35) m7 (by omega) (fun i i1 i2 i3 => by
      have := m9 i i1 i2
      unfold gL_X4_takeSeparated_59 g_X4_takeSeparated_59
      simp (disch := first | assumption | omega) only [qpT, qpF, qz_lit, qz_add, qz_mul, qz_neg, qz_sub, qz_inj, qz_lt, qz_le, qz_div, qp_0, qp_1, hp_bz_qp, hp_bz_0, hp_bz_1, if_neg, if_false, gf_cs, m6, gpc_65_10, gac_76, bd_some, i3]) (fun i i1 i2 i3 => by
      have := m9 i i1 i2
      unfold gL_X4_takeSeparated_59 g_X4_takeSeparated_59
      simp (disch := first | assumption | omega) only [qpT, qpF, qz_lit, qz_add, qz_mul, qz_neg, qz_sub, qz_inj, qz_lt, qz_le, qz_div, qp_0, qp_1, hp_bz_qp, hp_bz_0, hp_bz_1, if_neg, if_true, gf_cs, m6, gpc_65_10, gac_76, bd_some, i3]) (by
      unfold gL_X4_takeSeparated_59 g_X4_takeSeparated_59
      simp (disch := first | assumption | omega) only [qpT, qpF, qz_lit, qz_add, qz_mul, qz_neg, qz_sub, qz_inj, qz_lt, qz_le, qz_div, qp_0, qp_1, hp_bz_qp, hp_bz_0, hp_bz_1, if_pos, gf_cs, m6])
  have lpM := lp_find (b := gL_X11_distinct_68 n 0 (qz r) (ms F A J)) (fun i => qz i) (fun i => a 76 i = r) (fun _ => (.inr (qz 6) : Unit ⊕ Int32)) (.inl ()) (n := n) (lo := 0) (F 35) m7 (by omega) (fun i i1 i2 i3 => by
      have := m9 i i1 i2
      have e31 : A 31 i = a 76 i := this.1.symm
      unfold gL_X11_distinct_68 g_X11_distinct_68
      simp (disch := first | assumption | omega) only [qpT, qpF, qz_lit, qz_add, qz_mul, qz_neg, qz_sub, qz_inj, qz_lt, qz_le, qz_div, qp_0, qp_1, hp_bz_qp, hp_bz_0, hp_bz_1, if_neg, if_false, gf_ms, gp_0, gp_5, gp_6, gp_7, gp_8, gp_9, gp_10, gp_11, gp_12, gp_13, gp_14, gp_15, gp_16, gp_17, gp_18, gp_19, gp_20, gp_21, gp_22, gp_23, gp_24, gp_25, gp_26, gp_27, gp_28, gp_38, gp_39, gp_40, gp_41, gp_42, gp_44, gp_45, gp_47, gp_49, gp_51, gp_52, gp_56, gp_57, gp_58, gp_60, gp_61, gp_62, gp_63, gp_64, gp_65, gp_66, gp_68, gp_69, gp_70, gp_72, gp_73, gp_74, gp_75, gp_76, gp_77, gp_78, gp_79, gp_81, gp_83, gp_84, ga_31, bd_some, e31, i3]) (fun i i1 i2 i3 => by
      have := m9 i i1 i2
      have e31 : A 31 i = a 76 i := this.1.symm
      unfold gL_X11_distinct_68 g_X11_distinct_68
      simp (disch := first | assumption | omega) only [qpT, qpF, qz_lit, qz_add, qz_mul, qz_neg, qz_sub, qz_inj, qz_lt, qz_le, qz_div, qp_0, qp_1, hp_bz_qp, hp_bz_0, hp_bz_1, if_neg, if_true, gf_ms, gp_0, gp_5, gp_6, gp_7, gp_8, gp_9, gp_10, gp_11, gp_12, gp_13, gp_14, gp_15, gp_16, gp_17, gp_18, gp_19, gp_20, gp_21, gp_22, gp_23, gp_24, gp_25, gp_26, gp_27, gp_28, gp_38, gp_39, gp_40, gp_41, gp_42, gp_44, gp_45, gp_47, gp_49, gp_51, gp_52, gp_56, gp_57, gp_58, gp_60, gp_61, gp_62, gp_63, gp_64, gp_65, gp_66, gp_68, gp_69, gp_70, gp_72, gp_73, gp_74, gp_75, gp_76, gp_77, gp_78, gp_79, gp_81, gp_83, gp_84, ga_31, bd_some, e31, i3]) (by
      unfold gL_X11_distinct_68 g_X11_distinct_68
      simp (disch := first | assumption | omega) only [qpT, qpF, qz_lit, qz_add, qz_mul, qz_neg, qz_sub, qz_inj, qz_lt, qz_le, qz_div, qp_0, qp_1, hp_bz_qp, hp_bz_0, hp_bz_1, if_pos, gf_ms])
  have X3 : g_X4_takeSeparated n 65 (qz w) (cs f d a ni j) = (hp_lp (gL_X4_takeSeparated_59 n 65 (qz r) (cs f d a ni j)) n (qz 0)).bind fun x4 => Sum.elim (fun y5 => (hp_lp (gL_X4_takeSeparated_88 n 65 (qz r)) n (qz 0, cs f d a ni j)).bind fun x7 => Sum.elim (fun y8 => (uA 0 y8 (gP y8 65 10) (gF y8 65 9) (qz r)).bind fun w11 => (wF w11 65 9 ((gF w11 65 9) + qz 1)).bind fun w12 => some (qz 0, w12)) (fun y9 => some (y9.1, y9.2)) x7) (fun y6 => some (y6, cs f d a ni j)) x4 := by
    rw [X1]
    unfold g_X4_takeSeparated_20
    simp only [qz_lit]
    rw [w0, if_pos rfl, gf_cs, m6, if_neg n8, c_named hb l2 t1 t2, e1, bd_some, gpc_65_3, c_isAct (by omega) (by omega) hac, bd_some, qp_T ⟨ca0, ca1, ca2⟩, if_neg n10]
  have Y3 : g_X11_distinct n 0 (ms F A J) = (hp_lp (gL_X11_distinct_68 n 0 (qz r) (ms F A J)) n (qz 0)).bind fun x5 => Sum.elim (fun y6 => (hp_lp (gL_X11_distinct_97 n 0 (qz r)) n (qz 0, ms F A J)).bind fun x8 => Sum.elim (fun y9 => (uA 0 y9 (gP y9 0 44) (gF y9 0 35) (qz r)).bind fun w12 => (wF w12 0 35 ((gF w12 0 35) + qz 1)).bind fun w13 => some (qz 0, w13)) (fun y10 => some (y10.1, y10.2)) x8) (fun y7 => some (y7, ms F A J)) x5 := by
    rw [Y1]
    unfold g_X11_distinct_24
    simp only [qz_lit]
    rw [mD hn l9 l10 htok t8 t13, bd_some, qp_F (fun z => z w0), if_pos rfl, gf_ms, if_neg n8, e2, bd_some, es, if_neg (by rw [qz_lt (by omega) (by omega) (by omega) (by omega)]; omega)]
    simp (disch := first | assumption | omega) only [gp_0, gp_5, gp_6, gp_7, gp_8, gp_9, gp_10, gp_11, gp_12, gp_13, gp_14, gp_15, gp_16, gp_17, gp_18, gp_19, gp_20, gp_21, gp_22, gp_23, gp_24, gp_25, gp_26, gp_27, gp_28, gp_38, gp_39, gp_40, gp_41, gp_42, gp_44, gp_45, gp_47, gp_49, gp_51, gp_52, gp_56, gp_57, gp_58, gp_60, gp_61, gp_62, gp_63, gp_64, gp_65, gp_66, gp_68, gp_69, gp_70, gp_72, gp_73, gp_74, gp_75, gp_76, gp_77, gp_78, gp_79, gp_81, gp_83, gp_84, ga_26, bd_some]
    rw [if_pos (by rw [qz_le (by omega) (by omega) (by omega) (by omega)]; exact hact)]
  rcases lpC with ⟨i, i1, i2, i3, i4, i5⟩ | ⟨i4, i5⟩
  · rcases lpM with ⟨i', y1, y2, y3, y4, y5⟩ | ⟨y4, y5⟩
    · rw [i5, bd_some] at X3
      rw [y5, bd_some] at Y3
      exact out_fault (z := 6) (by omega) (by omega) X3 Y3 t1 t3 Fr rwa (by omega) (by omega)
    · exact absurd i3 (y4 i i1 i2)
  rcases lpM with ⟨i', y1, y2, y3, y4, y5⟩ | ⟨y4, y5⟩
  · exact absurd y3 (i4 i' y1 y2)
  rw [i5, bd_some] at X3
  rw [y5, bd_some] at Y3
  simp only [Sum.elim_inl] at X3 Y3
  obtain ⟨tm, h1, h2, h3⟩ := tm_7 m7 (by omega)
  rw [h1] at m5
  have hP : P + 8 ≤ 10240 := by
    have := r7.2.1
    have := r7.2.2.1
    unfold PB at m5
    omega
  obtain ⟨f2, a2, F2, A2, P2, q1, q2, q3⟩ := pairs_loop (d := d) (ni := ni) (j := j) (J := J) (f0 := f0) (a0 := a0) (ni0 := ni0) (j0 := j0) (F0 := F0) (A0 := A0) (J0 := J0) (m := F 35) (s := r) (D := f 66 0) hn hb hq hD.1 rfl l8 l7 rfl m6 ⟨m7, m8⟩ b4 hK hS.2 ⟨ca0, hrS.1, hrS.2⟩ (fun i x1 x2 => i4 i x1 x2) m9 hP (F 35).toNat 0 n n f a F A P (by omega) (by omega) (by omega) (by omega) ⟨fun _ _ => rfl, fun _ _ => rfl, fun _ _ _ => rfl, fun _ _ => rfl, fun _ _ _ _ => rfl, r7, gpo, b5, by omega, by omega, fun _ _ _ _ _ => Iff.rfl⟩ Fr
  obtain ⟨p1, p2, p3, p4, p5, p6, p7, p8, p9, p10, p11⟩ := q1
  have hf2 : ∀ i, b ≤ i → i < b + 32 → f2 i = f i := fun i x1 x2 => p1 i (by omega)
  have ha2 : ∀ i, b ≤ i → i < b + 32 → i ≠ b + 10 → a2 i = a i := fun i x1 x2 _ => p3 i (by omega) (by omega)
  have grw2 : Grw b K f2 a2 ni := by
    unfold Grw at *
    rw [hf2 (b + 11) (by omega) (by omega), hf2 (b + 14) (by omega) (by omega), hf2 (b + 17) (by omega) (by omega), hf2 (b + 20) (by omega) (by omega), hf2 (b + 23) (by omega) (by omega), hf2 (b + 26) (by omega) (by omega), ha2 (b + 11 + 2) (by omega) (by omega) (by omega), ha2 (b + 14 + 2) (by omega) (by omega) (by omega), ha2 (b + 17 + 2) (by omega) (by omega) (by omega), ha2 (b + 20 + 2) (by omega) (by omega) (by omega), ha2 (b + 23 + 2) (by omega) (by omega) (by omega), ha2 (b + 26 + 2) (by omega) (by omega) (by omega)]
    exact grw
  have f265 : f2 65 = f 65 := p1 65 (by decide)
  have f277 : f2 77 = f 77 := p1 77 (by decide)
  rcases q3 with ⟨q3, q4⟩ | ⟨q3, q4⟩
  rotate_left
  · rw [q3, bd_some] at X3
    rw [q4, bd_some] at Y3
    exact out_fault (z := 7) (by omega) (by omega) X3 Y3 (by rw [f277]; exact t1) (by rw [p4 29 (by decide)]; exact t3) q2 (grw_rwa grw2) (by rw [f265]; omega) (by rw [f265]; omega)
  rw [q3, bd_some] at X3
  rw [q4, bd_some] at Y3
  simp only [Sum.elim_inl] at X3 Y3
  have X4 : g_X4_takeSeparated n 65 (qz w) (cs f d a ni j) = some (qz 0, cs (u2 f2 65 9 (F 35 + 1)) d (v2 a2 76 (F 35) r) ni j) := by
    rw [X3]
    simp (disch := first | assumption | omega) only [qpT, qpF, qz_lit, qz_add, qz_mul, qz_neg, qz_sub, qz_inj, qz_lt, qz_le, qz_div, qp_0, qp_1, hp_bz_qp, hp_bz_0, hp_bz_1, gf_cs, wf_cs, gpc_65_10, f265, m6, uac_76, bd_some]
  have Y4 : g_X11_distinct n 0 (ms F A J) = some (qz 0, ms (u1 F2 35 (F 35 + 1)) (v2 A2 31 (F 35) r) J) := by
    rw [Y3]
    simp (disch := first | assumption | omega) only [qpT, qpF, qz_lit, qz_add, qz_mul, qz_neg, qz_sub, qz_inj, qz_lt, qz_le, qz_div, qp_0, qp_1, hp_bz_qp, hp_bz_0, hp_bz_1, gf_ms, wf_ms, gp_0, gp_5, gp_6, gp_7, gp_8, gp_9, gp_10, gp_11, gp_12, gp_13, gp_14, gp_15, gp_16, gp_17, gp_18, gp_19, gp_20, gp_21, gp_22, gp_23, gp_24, gp_25, gp_26, gp_27, gp_28, gp_38, gp_39, gp_40, gp_41, gp_42, gp_44, gp_45, gp_47, gp_49, gp_51, gp_52, gp_56, gp_57, gp_58, gp_60, gp_61, gp_62, gp_63, gp_64, gp_65, gp_66, gp_68, gp_69, gp_70, gp_72, gp_73, gp_74, gp_75, gp_76, gp_77, gp_78, gp_79, gp_81, gp_83, gp_84, p4 35 (by decide), ua_31, bd_some]
  have f266 : ∀ k, k ≠ 12 → f2 66 k = f 66 k := p2
  have hfz : ∀ i, b ≤ i → i < b + 32 → u2 f2 65 9 (F 35 + 1) i = f i := fun i x1 x2 => by rw [u2_b (by omega)]; exact hf2 i x1 x2
  have haz : ∀ i, b ≤ i → i < b + 32 → v2 a2 76 (F 35) r i = a i := fun i x1 x2 => by rw [v2_o (by omega)]; exact p3 i (by omega) (by omega)
  have hAz : ∀ i, ¬(21 ≤ i ∧ i ≤ 25) → ¬(29 ≤ i ∧ i ≤ 31) → v2 A2 31 (F 35) r i = A i := fun i x1 x2 => by rw [v2_o (by omega)]; exact p5 i x1 (by omega) (by omega)
  refine out_good X4 Y4 (by simp (disch := omega) only [u2_c]; rw [f265]; omega) (by simp (disch := omega) only [u2_c]; rw [f265]; omega) ⟨bk_c (P2 := P2) G ⟨hfz b (by omega) (by omega), fun r hr => haz _ (by omega) (by omega), fun r hr => ⟨haz _ (by omega) (by omega), fun i _ _ => by rw [haz _ (by omega) (by omega)]⟩, rfl, by rw [hAz 6 (by omega) (by omega)], by rw [hAz 15 (by omega) (by omega)], fun i i1 i2 x _ _ => by rw [hAz i (by omega) (by omega)], fun i i1 i2 k _ _ => by rw [hAz i (by omega) (by omega)], fun s _ _ => by rw [hAz 16 (by omega) (by omega)], fun i i1 i2 s _ _ => by rw [hAz i (by omega) (by omega)], fun _ _ _ _ _ _ _ _ _ => Iff.rfl⟩ (by rw [haz (b + 10) (by omega) (by omega)]; exact gun) (by rw [v2_o (by decide)]; exact p8) (by rw [v2_o (by decide), v2_o (by decide), v2_o (by decide), v2_o (by decide)]; exact p7) (by rw [v2_o (by decide), v2_o (by decide), v2_o (by decide), v2_o (by decide)]; exact p11) ?_, ?_, ?_, ?_, ?_, fr_V (fr_F (fr_v (fr_f q2 (by omega)) (by omega)) (by omega)) (by omega) 0 rfl (fun z => absurd rfl z)⟩ (by rw [u2_b (by decide), f277]; exact t2) (by rw [u1_o (by decide), p4 31 (by decide)]; exact t5)
  · unfold Grw at *
    rw [hfz (b + 11) (by omega) (by omega), hfz (b + 14) (by omega) (by omega), hfz (b + 17) (by omega) (by omega), hfz (b + 20) (by omega) (by omega), hfz (b + 23) (by omega) (by omega), hfz (b + 26) (by omega) (by omega), haz (b + 11 + 2) (by omega) (by omega), haz (b + 14 + 2) (by omega) (by omega), haz (b + 17 + 2) (by omega) (by omega), haz (b + 20 + 2) (by omega) (by omega), haz (b + 23 + 2) (by omega) (by omega), haz (b + 26 + 2) (by omega) (by omega)]
    exact grw
  · unfold Rl
    rw [hAz 1 (by omega) (by omega), haz (b + 2) (by omega) (by omega)]
    simp (disch := omega) only [u1_o, u2_b]
    rw [f277, f266 0 (by decide), p4 1 (by decide), p4 32 (by decide), p4 33 (by decide)]
    exact ⟨l1, l2, l3, l4, l5, l6, l7, l8, l9, l10, by omega, t8, Or.inr t12⟩
  · unfold Rs
    rw [haz (b + 7) (by omega) (by omega), haz (b + 8) (by omega) (by omega), haz (b + 9) (by omega) (by omega), haz (b + 10) (by omega) (by omega), haz (b + 11 + 1) (by omega) (by omega), haz (b + 11 + 2) (by omega) (by omega), hAz 26 (by omega) (by omega), hAz 27 (by omega) (by omega), hAz 28 (by omega) (by omega), hAz 12 (by omega) (by omega)]
    simp (disch := omega) only [u1_o, u2_b, v2_o]
    rw [f266 0 (by decide), f266 4 (by decide), f266 9 (by decide), p3 67 (by decide) (by decide), p3 68 (by decide) (by decide), p3 69 (by decide) (by decide), p3 70 (by decide) (by decide), p3 71 (by decide) (by decide), p3 72 (by decide) (by decide), p3 73 (by decide) (by decide)]
    exact ⟨r1, r2, r3, r4, r5, r6, p6⟩
  · exact rc_m C hce hfz (fun i x1 x2 _ => haz i x1 x2) (by rw [u1_o (by decide), p4 36 (by decide)]) (by rw [u1_o (by decide), p4 37 (by decide)])
  · refine Or.inr (Or.inr (Or.inr (Or.inl ?_)))
    rw [haz (b + 7) (by omega) (by omega), haz (b + 11 + 2) (by omega) (by omega), haz (b + 14 + 2) (by omega) (by omega)]
    simp (disch := omega) only [u1_o, u1_s, u2_a, u2_b, u2_c, v2_s]
    rw [f265, f266 0 (by decide), p4 34 (by decide), p4 36 (by decide), p4 37 (by decide), p3 76 (by decide) (by decide), p5 31 (by omega) (by decide) (by decide)]
    refine ⟨m1, m2, m3, m4, ?_, trivial, by omega, by omega, fun i x1 x2 => ?_⟩
    · rw [h3]
      unfold PB at *
      omega
    · by_cases z : i = F 35
      · rw [z, v1_s, v1_s]
        exact ⟨rfl, ca0, hrS.1, hrS.2⟩
      · rw [v1_o z, v1_o z]
        exact m9 i x1 (by omega)
end SDJ
