/-! Kinds and declarations: both -/
section SKD
variable {b n : Nat} {q S K P len c b0 e0 w : Int} {f0 : Nat → Nat → Int} {a0 : Nat → Int → Int} {ni0 : Nat → Nat} {j0 : Nat → Int → Int64} {F0 : Nat → Int} {A0 : Nat → Int → Int} {J0 : Nat → Int → Int64} {f : Nat → Nat → Int} {d : Nat → Nat} {a : Nat → Int → Int} {ni : Nat → Nat} {j : Nat → Int → Int64} {F : Nat → Int} {A : Nat → Int → Int} {J : Nat → Int → Int64}
theorem s_kind (hn : 100000 ≤ n) (G : BK b q S K P len f a ni j A J) (L : Rl b q len c f d a F A) (R : Rs b q S K P f a F A) (C : Rc b K c f a F) (Fr : FR b q f0 a0 ni0 j0 F0 A0 J0 f a ni j F A J) (Ti : TI b len c b0 e0 w f a F A) (hw1 : w ≠ -1) (m1 : f 65 4 = 1) (m2 : F 34 = 1) (m3 : F 36 = a (b + 11 + 2) K) (m4 : F 37 = a (b + 14 + 2) K) (m5 : PB P (F 43) (f 66 0) 0 c) (m6 : Lb q S K len (a (b + 2)) (a (b + 5)) (a (b + 6)) (A 8) (A 9) (f 65 7) (f 65 8)) : OUT b n q len b0 e0 f0 a0 ni0 j0 F0 A0 J0 d (g_X4_takeKind n 65 (qz w) (cs f d a ni j)) (g_X11_kindOf n 0 (ms F A J)) := by
  have G' := G
  obtain ⟨⟨b1, b2, b3, b4, b5, b6, b7, b8, b9⟩, gn, glb, gk, gf, gt, ghy, gma, gun, gpo, gpr, gfm, gax, grw⟩ := G'
  have L' := L
  obtain ⟨l1, l2, l3, l4, l5, l6, l7, l8, l9, l10, l11, l12, l13⟩ := L'
  have hb := bq_b l1
  have hq := bq_q l1
  have C' := C
  obtain ⟨k1, k2, k3, k4, k5, k6, k7, k8, k9, k10⟩ := C'
  have T' := Ti
  obtain ⟨t1, t2, t3, t4, t5, t6, t7, t8, t9, t10, t11, t12, t13⟩ := T'
  have hK : 0 ≤ K ∧ K ≤ 200 := ⟨gn.2.2.1, gn.2.2.2.1⟩
  have hS : 0 ≤ S ∧ S ≤ 300 := ⟨gn.1, gn.2.1⟩
  have hD : 0 ≤ f 66 0 ∧ f 66 0 ≤ 16 := ⟨R.1.1, R.1.2.1⟩
  have rwa := grw_rwa grw
  have hsc : scd f d a (b + 2) len := ⟨l3, tx_b hb, l4, b7, b8, b9⟩
  have htc : tkc f b0 e0 len := ⟨t1, t2, t6, t7, t8⟩
  have hce : c ≤ e0 := by omega
  have hbb : b = 1 ∨ b = 33 := hb
  have htok : tok F b0 e0 := ti_tok Ti b8 rfl rfl
  have hK2 : K < 200 := m6.1
  have good : ∀ kd : Int, 0 ≤ kd → kd ≤ 3 → g_X4_takeKind n 65 (qz w) (cs f d a ni j) = some (qz 0, cs (u2 (u2 (u2 f 65 6 kd) 65 4 4) 65 9 0) d a ni j) → g_X11_kindOf n 0 (ms F A J) = g_X11_kindOf_53 n 0 (qz kd) (ms F A J) → OUT b n q len b0 e0 f0 a0 ni0 j0 F0 A0 J0 d (g_X4_takeKind n 65 (qz w) (cs f d a ni j)) (g_X11_kindOf n 0 (ms F A J)) := by
    intro kd h0 h3 X0 Y
    have Y0 : g_X11_kindOf n 0 (ms F A J) = some (qz 0, ms (u1 F 34 (if kd = 0 then 5 else 6)) (v2 (v2 (v2 (v2 (v2 (v2 A 7 (200 * q + K) kd) 10 (200 * q + K) (f 66 0)) 11 (200 * q + K) (F 36)) 12 (200 * q + K) 0) 13 (200 * q + K) (F 37)) 14 (200 * q + K) 0) J) := by
      rw [Y]
      unfold g_X11_kindOf_53 g_X11_kindOf_141
      by_cases z : kd = 0
      · simp (disch := first | assumption | omega) only [qpT, qpF, qz_lit, qz_add, qz_mul, qz_neg, qz_sub, qz_inj, qz_lt, qz_le, qz_div, qp_0, qp_1, hp_bz_qp, hp_bz_0, hp_bz_1, if_pos, if_true, gf_ms, wf_ms, l7, l8, gp_0, gp_5, gp_6, gp_7, gp_8, gp_9, gp_10, gp_11, gp_12, gp_13, gp_14, gp_15, gp_16, gp_17, gp_18, gp_19, gp_20, gp_21, gp_22, gp_23, gp_24, gp_25, gp_26, gp_27, gp_28, gp_38, gp_39, gp_40, gp_41, gp_42, gp_44, gp_45, gp_47, gp_49, gp_51, gp_52, gp_56, gp_57, gp_58, gp_60, gp_61, gp_62, gp_63, gp_64, gp_65, gp_66, gp_68, gp_69, gp_70, gp_72, gp_73, gp_74, gp_75, gp_76, gp_77, gp_78, gp_79, gp_81, gp_83, gp_84, ga_15, ua_7, ua_10, ua_11, ua_12, ua_13, ua_14, b4, bd_some, z]
      · simp (disch := first | assumption | omega) only [qpT, qpF, qz_lit, qz_add, qz_mul, qz_neg, qz_sub, qz_inj, qz_lt, qz_le, qz_div, qp_0, qp_1, hp_bz_qp, hp_bz_0, hp_bz_1, if_pos, if_false, gf_ms, wf_ms, l7, l8, gp_0, gp_5, gp_6, gp_7, gp_8, gp_9, gp_10, gp_11, gp_12, gp_13, gp_14, gp_15, gp_16, gp_17, gp_18, gp_19, gp_20, gp_21, gp_22, gp_23, gp_24, gp_25, gp_26, gp_27, gp_28, gp_38, gp_39, gp_40, gp_41, gp_42, gp_44, gp_45, gp_47, gp_49, gp_51, gp_52, gp_56, gp_57, gp_58, gp_60, gp_61, gp_62, gp_63, gp_64, gp_65, gp_66, gp_68, gp_69, gp_70, gp_72, gp_73, gp_74, gp_75, gp_76, gp_77, gp_78, gp_79, gp_81, gp_83, gp_84, ga_15, ua_7, ua_10, ua_11, ua_12, ua_13, ua_14, b4, bd_some, z]
    have ag : agK q K A (v2 (v2 (v2 (v2 (v2 (v2 A 7 (200 * q + K) kd) 10 (200 * q + K) (f 66 0)) 11 (200 * q + K) (F 36)) 12 (200 * q + K) 0) 13 (200 * q + K) (F 37)) 14 (200 * q + K) 0) := agK_v (agK_v (agK_v (agK_v (agK_v (agK_v agK_0 (by omega)) (by omega)) (by omega)) (by omega)) (by omega)) (by omega)
    refine out_good X0 Y0 (by simp (disch := omega) only [u2_a, u2_c]; omega) (by simp (disch := omega) only [u2_a, u2_c]; omega) (rd65 hn G L R C Fr Ti (fun i hi => by rw [u2_b hi, u2_b hi, u2_b hi]) (fun k k1 k2 => by rw [u1_o k1]) ag ?_ (fr_V (fr_V (fr_V (fr_V (fr_V (fr_V (fr_F (fr_f (fr_f (fr_f Fr (by omega)) (by omega)) (by omega)) (by omega)) (by omega) 200 rfl (by omega)) (by omega) 200 rfl (by omega)) (by omega) 200 rfl (by omega)) (by omega) 200 rfl (by omega)) (by omega) 200 rfl (by omega)) (by omega) 200 rfl (by omega))) (by simp (disch := omega) only [u2_b]; exact t2) (by simp (disch := omega) only [u1_o]; exact t5)
    refine Or.inr (Or.inr (Or.inr (Or.inr (Or.inl ?_))))
    simp (disch := omega) only [u2_a, u2_b, u2_c, u1_s, u1_o, v2_s, v2_o, v1_s]
    refine ⟨trivial, pb_m m5 hce (by omega), m6, trivial, trivial, m3, trivial, m4, trivial, by omega, ?_, by omega, m4, fun i i1 i2 => by omega, fun z => by omega, fun _ z => by omega, fun _ i i1 i2 => by omega⟩
    by_cases z : kd = 0
    · exact Or.inl ⟨z, by rw [if_pos z], by omega⟩
    · exact Or.inr ⟨by omega, h3, by rw [if_neg z], by omega⟩
  have XU : ∀ kd : Int, (wF (cs f d a ni j) 65 6 (qz kd)).bind (fun w2 => (g_X4_begin n 65 (qz 4) w2).bind fun x3 => some (x3.1, x3.2)) = some (qz 0, cs (u2 (u2 (u2 f 65 6 kd) 65 4 4) 65 9 0) d a ni j) := by
    intro kd
    rw [wf_cs, bd_some, c_begin, bd_some]
  by_cases w1 : w = 102
  · refine good 0 (by omega) (by omega) ?_ ?_
    · unfold g_X4_takeKind g_X4_takeKind_0
      simp only [qz_lit]
      rw [w1, if_neg (by decide), if_neg (by decide), if_pos rfl]
      exact XU 0
    · unfold g_X11_kindOf g_X11_kindOf_0
      simp only [qz_lit]
      rw [mW l9 l10 htok t8 t13 (by omega), bd_some, qp_T (by omega), if_neg n10]
  by_cases w2 : w = 101
  · refine good 1 (by omega) (by omega) ?_ ?_
    · unfold g_X4_takeKind g_X4_takeKind_0
      simp only [qz_lit]
      rw [w2, if_neg (by decide), if_pos rfl]
      exact XU 1
    · unfold g_X11_kindOf g_X11_kindOf_0
      simp only [qz_lit]
      rw [mW l9 l10 htok t8 t13 (by omega), bd_some, qp_F (by omega), if_pos rfl]
      rw [mW l9 l10 htok t8 t13 (by omega), bd_some, qp_T (by omega), if_neg n10]
  by_cases w3 : w = 97
  · refine good 2 (by omega) (by omega) ?_ ?_
    · unfold g_X4_takeKind g_X4_takeKind_0
      simp only [qz_lit]
      rw [w3, if_pos rfl]
      exact XU 2
    · unfold g_X11_kindOf g_X11_kindOf_0
      simp only [qz_lit]
      rw [mW l9 l10 htok t8 t13 (by omega), bd_some, qp_F (by omega), if_pos rfl]
      rw [mW l9 l10 htok t8 t13 (by omega), bd_some, qp_F (by omega), if_pos rfl]
      rw [mW l9 l10 htok t8 t13 (by omega), bd_some, qp_T (by omega), if_neg n10]
  by_cases w4 : w = 112
  · refine good 3 (by omega) (by omega) ?_ ?_
    · unfold g_X4_takeKind g_X4_takeKind_0
      simp only [qz_lit]
      rw [w4, if_neg (by decide), if_neg (by decide), if_neg (by decide), if_pos rfl]
      exact XU 3
    · unfold g_X11_kindOf g_X11_kindOf_0
      simp only [qz_lit]
      rw [mW l9 l10 htok t8 t13 (by omega), bd_some, qp_F (by omega), if_pos rfl]
      rw [mW l9 l10 htok t8 t13 (by omega), bd_some, qp_F (by omega), if_pos rfl]
      rw [mW l9 l10 htok t8 t13 (by omega), bd_some, qp_F (by omega), if_pos rfl]
      rw [mW l9 l10 htok t8 t13 (by omega), bd_some, qp_T (by omega), if_neg n10]
  have hwr : -1 ≤ w ∧ w < 128 := wrd_rng t13 b9 t6 t7 (by omega)
  refine out_fault (z := 3) (by omega) (by omega) (f := f) (a := a) (ni := ni) (j := j) (F := F) (A := A) (J := J) ?_ ?_ t1 t3 Fr rwa (by omega) (by omega)
  · unfold g_X4_takeKind g_X4_takeKind_0
    simp (disch := omega) only [qz_lit, qz_inj, if_neg]
  · unfold g_X11_kindOf g_X11_kindOf_0
    simp only [qz_lit]
    rw [mW l9 l10 htok t8 t13 (by omega), bd_some, qp_F (by omega), if_pos rfl]
    rw [mW l9 l10 htok t8 t13 (by omega), bd_some, qp_F (by omega), if_pos rfl]
    rw [mW l9 l10 htok t8 t13 (by omega), bd_some, qp_F (by omega), if_pos rfl]
    rw [mW l9 l10 htok t8 t13 (by omega), bd_some, qp_F (by omega), if_pos rfl]
    unfold g_X11_kindOf_53
    simp only [qz_lit, qz_neg]
    exact if_neg (by decide)
/-- a name more in the table -/
theorem gn_add {T hs nx st ln va A3 A4 A5 A8 A9 : Int → Int} {v : Int} (Gn' : Gn q S K len T hs nx st ln va A3 A4 A5 A8 A9) (hl : len ≤ 8192) (hS : S < 300) (h0 : 0 ≤ b0) (h1 : b0 < e0) (h2 : e0 ≤ len) (hv : v = 0 ∨ v = 1) (hu : ∀ x, liv S K x → ¬nme T (st x) (ln x) T b0 (e0 - b0)) :
    Gn q (S + 1) K len T (v1 hs (hd T b0 (e0 - b0)) S) (v1 nx S (hs (hd T b0 (e0 - b0)))) (v1 st S b0) (v1 ln S (e0 - b0)) (v1 va S v) (v1 A3 (300 * q + S) b0) (v1 A4 (300 * q + S) (e0 - b0)) (v1 A5 (300 * q + S) v) A8 A9 := by
  obtain ⟨g1, g2, g3, g4, g5, g6, g7, g8, g9⟩ := Gn'
  have hid : ¬liv S K S := by unfold liv; omega
  have hlv : ∀ x, liv (S + 1) K x ↔ (liv S K x ∨ x = S) := by
    intro x
    unfold liv
    omega
  refine ⟨by omega, by omega, g3, g4, ni_iff (ni_add g5 (by omega) hid h0 (by omega) (by omega) g1 (by omega)) (by omega) (fun x => (hlv x).symm), fun x hx => ?_, fun x y hx hy => ?_, fun x x1 x2 => ?_, fun k k1 k2 => ?_⟩
  · rcases (hlv x).mp hx with z | z
    · have : x ≠ S := fun y => hid (y ▸ z)
      rw [v1_o this, v1_o this]; exact g6 x z
    · rw [z, v1_s, v1_s]; omega
  · intro hnm
    rcases (hlv x).mp hx with z | z
    · have n1 : x ≠ S := fun y => hid (y ▸ z)
      rw [v1_o n1, v1_o n1] at hnm
      rcases (hlv y).mp hy with z2 | z2
      · have n2 : y ≠ S := fun y => hid (y ▸ z2)
        rw [v1_o n2, v1_o n2] at hnm
        exact g7 x y z z2 hnm
      · rw [z2, v1_s, v1_s] at hnm
        exact absurd hnm (hu x z)
    · rcases (hlv y).mp hy with z2 | z2
      · have n2 : y ≠ S := fun y => hid (y ▸ z2)
        rw [z, v1_s, v1_s, v1_o n2, v1_o n2] at hnm
        refine absurd ⟨hnm.1.symm, fun i i1 i2 => (hnm.2 i i1 (by have := hnm.1; omega)).symm⟩ (hu y z2)
      · rw [z, z2]
  · by_cases e : x = S
    · rw [e, v1_s, v1_s, v1_s, v1_s, v1_s, v1_s]
      exact ⟨rfl, rfl, rfl, hv⟩
    · rw [v1_o e, v1_o e, v1_o e, v1_o (by omega), v1_o (by omega), v1_o (by omega)]
      exact g8 x x1 (by omega)
  · rw [v1_o (by omega), v1_o (by omega)]; exact g9 k k1 k2
end SKD
