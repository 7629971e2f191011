/-! Symbols of statements: both -/
section SSY
variable {b n : Nat} {q S K P len c b0 e0 w : Int} {f0 : Nat → Nat → Int} {a0 : Nat → Int → Int} {ni0 : Nat → Nat} {j0 : Nat → Int → Int64} {F0 : Nat → Int} {A0 : Nat → Int → Int} {J0 : Nat → Int → Int64} {f : Nat → Nat → Int} {d : Nat → Nat} {a : Nat → Int → Int} {ni : Nat → Nat} {j : Nat → Int → Int64} {F : Nat → Int} {A : Nat → Int → Int} {J : Nat → Int → Int64}
def cst (S : Int) (va : Int → Int) (r : Int) : Prop := 0 ≤ r ∧ r < S ∧ va r = 0
def gsy (S kd tk : Int) (va ac fl : Int → Int) (r : Int) : Prop := (tk = 0 ∧ cst S va r) ∨ (tk ≠ 0 ∧ kd = 0 ∧ (0 ≤ r ∧ r < 300 ∧ ac r = 1) ∧ ¬(0 ≤ r ∧ r < 300 ∧ fl r = 1)) ∨ (tk ≠ 0 ∧ kd ≠ 0 ∧ (cst S va r ∨ (0 ≤ r ∧ r < 300 ∧ fl r = 1)))
theorem c_mayStand {r : Int} (hb : bks b) (hd : d 4 = b) (h3 : f b 3 = S) (hS0 : 0 ≤ S) (hS : S ≤ 300) (hva : ∀ k, 0 ≤ k → k < S → a (b + 7) k = 0 ∨ a (b + 7) k = 1) (hac : ∀ k, 0 ≤ k → k < 300 → a 70 k = 0 ∨ a 70 k = 1) (hfl : ∀ k, 0 ≤ k → k < 300 → a 71 k = 0 ∨ a 71 k = 1) (hr : -1 ≤ r ∧ r < 500) (ht : 0 ≤ f 65 9 ∧ f 65 9 ≤ 1000) (hk : 0 ≤ f 65 6 ∧ f 65 6 ≤ 3) : g_X4_mayStand n 65 (qz r) (cs f d a ni j) = some (qp (gsy S (f 65 6) (f 65 9) (a (b + 7)) (a 70) (a 71) r)) := by
  have e1 := c_isCon (f := f) (d := d) (a := a) (ni := ni) (j := j) (n := n) (k := r) hb (by omega) (by omega) (by omega) (by omega) (by rw [h3]; exact hva)
  have e2 := c_isAct (f := f) (d := d) (a := a) (ni := ni) (j := j) (n := n) (x := r) (by omega) (by omega) hac
  have e3 := c_isTyp (f := f) (d := d) (a := a) (ni := ni) (j := j) (n := n) (x := r) (by omega) (by omega) hfl
  rw [h3] at e1
  unfold g_X4_mayStand g_X4_mayStand_0 g_X4_mayStand_73
  simp only [qz_lit]
  rw [gf_cs, gf_cs, gpc_65_1, hd, gpc_65_3, e1, bd_some, bd_some, e2, bd_some, e3, bd_some, hp_bz_qp, bd_some]
  by_cases c1 : f 65 9 = 0
  · rw [c1, if_pos rfl]
    refine congrArg some (qp_congr ⟨fun z => Or.inl ⟨rfl, z⟩, fun z => ?_⟩)
    rcases z with z | z | z
    · exact z.2
    · exact absurd rfl z.1
    · exact absurd rfl z.1
  rw [if_neg (by rw [qz_inj (by omega) (by omega) (by omega) (by omega)]; exact c1)]
  by_cases c2 : f 65 6 = 0
  · rw [c2, if_pos rfl]
    by_cases c3 : 0 ≤ r ∧ r < 300 ∧ a 70 r = 1
    · by_cases c4 : 0 ≤ r ∧ r < 300 ∧ a 71 r = 1
      · rw [qp_T c3, if_neg n10, qp_T c4, if_neg n10, qp_F]
        rintro (z | z | z)
        · exact c1 z.1
        · exact z.2.2.2 c4
        · exact z.2.1 rfl
      · rw [qp_T c3, if_neg n10, qp_F c4, if_pos rfl, qp_T]
        exact Or.inr (Or.inl ⟨c1, rfl, c3, c4⟩)
    · rw [qp_F c3, if_pos rfl, qp_F]
      rintro (z | z | z)
      · exact c1 z.1
      · exact c3 z.2.2.1
      · exact z.2.1 rfl
  rw [if_neg (by rw [qz_inj (by omega) (by omega) (by omega) (by omega)]; exact c2)]
  by_cases c3 : 0 ≤ r ∧ r < S ∧ a (b + 7) r = 0
  · rw [qp_T c3, if_neg n10, qp_T]
    exact Or.inr (Or.inr ⟨c1, c2, Or.inl c3⟩)
  · rw [qp_F c3, if_pos rfl]
    by_cases c4 : 0 ≤ r ∧ r < 300 ∧ a 71 r = 1
    · rw [bd_some, qp_T c4, if_neg n10, qp_T]
      exact Or.inr (Or.inr ⟨c1, c2, Or.inr c4⟩)
    · rw [bd_some, qp_F c4, if_pos rfl, qp_F]
      rintro (z | z | z)
      · exact c1 z.1
      · exact c2 z.2.1
      · rcases z.2.2 with z | z
        · exact c3 z
        · exact c4 z
theorem m_isCon {sy : Int} (hq : 0 ≤ q ∧ q ≤ 1) (h32 : F 32 = q) (hs : -1 ≤ sy ∧ sy < 300) (hv : 0 ≤ sy → A 5 (300 * q + sy) = 0 ∨ A 5 (300 * q + sy) = 1) : g_X11_isConstant n 0 (qz sy) (ms F A J) = some (qp (0 ≤ sy ∧ A 5 (300 * q + sy) = 0)) := by
  unfold g_X11_isConstant g_X11_isConstant_0
  by_cases c1 : sy < 0
  · rw [qp_F (by omega)]
    simp (disch := first | assumption | omega) only [qpT, qpF, qz_lit, qz_add, qz_mul, qz_neg, qz_sub, qz_inj, qz_lt, qz_le, qz_div, qp_0, qp_1, hp_bz_qp, hp_bz_0, hp_bz_1, if_pos]
  · have := hv (by omega)
    by_cases c2 : A 5 (300 * q + sy) = 0
    · rw [qp_T (by omega)]
      simp (disch := first | assumption | omega) only [qpT, qpF, qz_lit, qz_add, qz_mul, qz_neg, qz_sub, qz_inj, qz_lt, qz_le, qz_div, qp_0, qp_1, hp_bz_qp, hp_bz_0, hp_bz_1, if_neg, if_true, gf_ms, h32, gp_0, gp_5, gp_6, gp_7, gp_8, gp_9, gp_10, gp_11, gp_12, gp_13, gp_14, gp_15, gp_16, gp_17, gp_18, gp_19, gp_20, gp_21, gp_22, gp_23, gp_24, gp_25, gp_26, gp_27, gp_28, gp_38, gp_39, gp_40, gp_41, gp_42, gp_44, gp_45, gp_47, gp_49, gp_51, gp_52, gp_56, gp_57, gp_58, gp_60, gp_61, gp_62, gp_63, gp_64, gp_65, gp_66, gp_68, gp_69, gp_70, gp_72, gp_73, gp_74, gp_75, gp_76, gp_77, gp_78, gp_79, gp_81, gp_83, gp_84, ga_5, bd_some, c2]
    · rw [qp_F (by omega)]
      simp (disch := first | assumption | omega) only [qpT, qpF, qz_lit, qz_add, qz_mul, qz_neg, qz_sub, qz_inj, qz_lt, qz_le, qz_div, qp_0, qp_1, hp_bz_qp, hp_bz_0, hp_bz_1, if_neg, if_false, gf_ms, h32, gp_0, gp_5, gp_6, gp_7, gp_8, gp_9, gp_10, gp_11, gp_12, gp_13, gp_14, gp_15, gp_16, gp_17, gp_18, gp_19, gp_20, gp_21, gp_22, gp_23, gp_24, gp_25, gp_26, gp_27, gp_28, gp_38, gp_39, gp_40, gp_41, gp_42, gp_44, gp_45, gp_47, gp_49, gp_51, gp_52, gp_56, gp_57, gp_58, gp_60, gp_61, gp_62, gp_63, gp_64, gp_65, gp_66, gp_68, gp_69, gp_70, gp_72, gp_73, gp_74, gp_75, gp_76, gp_77, gp_78, gp_79, gp_81, gp_83, gp_84, ga_5, bd_some, c2]
theorem m_takeSym {sy p m : Int} (hq : 0 ≤ q ∧ q ≤ 1) (h32 : F 32 = q) (hK : A 15 q = K) (hK0 : 0 ≤ K ∧ K < 200) (h36 : F 36 = p) (hp : 0 ≤ p ∧ p < 4096) (hm : A 12 (200 * q + K) = m) : g_X11_takeSymbol n 0 (qz sy) (ms F A J) = some (ms (u1 F 36 (p + 1)) (v2 (v2 A 16 (4096 * q + p) sy) 12 (200 * q + K) (m + 1)) J) := by
  unfold g_X11_takeSymbol g_X11_takeSymbol_0
  simp (disch := first | assumption | omega) only [qpT, qpF, qz_lit, qz_add, qz_mul, qz_neg, qz_sub, qz_inj, qz_lt, qz_le, qz_div, qp_0, qp_1, hp_bz_qp, hp_bz_0, hp_bz_1, gf_ms, wf_ms, h32, h36, gp_0, gp_5, gp_6, gp_7, gp_8, gp_9, gp_10, gp_11, gp_12, gp_13, gp_14, gp_15, gp_16, gp_17, gp_18, gp_19, gp_20, gp_21, gp_22, gp_23, gp_24, gp_25, gp_26, gp_27, gp_28, gp_38, gp_39, gp_40, gp_41, gp_42, gp_44, gp_45, gp_47, gp_49, gp_51, gp_52, gp_56, gp_57, gp_58, gp_60, gp_61, gp_62, gp_63, gp_64, gp_65, gp_66, gp_68, gp_69, gp_70, gp_72, gp_73, gp_74, gp_75, gp_76, gp_77, gp_78, gp_79, gp_81, gp_83, gp_84, ga_15, ga_12, ua_16, ua_12, v2_o, hK, hm, bd_some]
set_option maxHeartbeats 4000000 in
theorem m_sym (hn : 100000 ≤ n) (G : BK b q S K P len f a ni j A J) (L : Rl b q len c f d a F A) (R : Rs b q S K P f a F A) (C : Rc b K c f a F) (Fr : FR b q f0 a0 ni0 j0 F0 A0 J0 f a ni j F A J) (Ti : TI b len c b0 e0 w f a F A) (hw : w = 0) (m1 : f 65 4 = 4) (m5 : PB P (F 43) (f 66 0) 0 c) (m6 : Lb q S K len (a (b + 2)) (a (b + 5)) (a (b + 6)) (A 8) (A 9) (f 65 7) (f 65 8)) (x7 : A 7 (200 * q + K) = f 65 6) (x10 : A 10 (200 * q + K) = f 66 0) (x11 : A 11 (200 * q + K) = a (b + 11 + 2) K) (x12 : A 12 (200 * q + K) = f 65 9) (x13 : A 13 (200 * q + K) = a (b + 14 + 2) K) (x14 : A 14 (200 * q + K) = 0) (m7 : 0 ≤ f 65 9) (m8 : (f 65 6 = 0 ∧ F 34 = 5 ∧ f 65 9 ≤ 2) ∨ (1 ≤ f 65 6 ∧ f 65 6 ≤ 3 ∧ F 34 = 6 ∧ f 65 9 ≤ 60)) (m3 : F 36 = a (b + 11 + 2) K + f 65 9) (m4 : F 37 = a (b + 14 + 2) K) (m9 : Fm q S K (f 65 6) (f 65 9) (a (b + 11 + 2) K) (a (b + 11 + 1)) (a (b + 7)) (A 26) (A 27) (A 16)) {r sy : Int} (hK2 : K < 200) (c2 : ¬(f 65 6 = 0 ∧ f 65 9 = 2)) (c60 : ¬f 65 9 = 60) (e2 : g_X11_symbolHere n 0 (ms F A J) = some (qz sy)) (hrr : -1 ≤ r ∧ r < 500) (hsy : (0 ≤ r ∧ r < S ∧ sy = r) ∨ (¬(0 ≤ r ∧ r < S) ∧ sy = -1)) (ecs : g_X11_isConstant n 0 (qz sy) (ms F A J) = some (qp (0 ≤ sy ∧ A 5 (300 * q + sy) = 0))) (hgs : gsy S (f 65 6) (f 65 9) (a (b + 7)) (a 70) (a 71) r → 0 ≤ r ∧ r < S ∧ sy = r) : (if F 34 = 5 then g_X11_typed n 0 (ms F A J) else g_X11_formula n 0 (ms F A J)) = if qp (gsy S (f 65 6) (f 65 9) (a (b + 7)) (a 70) (a 71) r) = qz 0 then some (qz 6, ms F A J) else (g_X11_takeSymbol n 0 (qz r) (ms F A J)).bind fun x1 => some (qz 0, x1) := by
  have G' := G
  obtain ⟨⟨b1, b2, b3, b4, b5, b6, b7, b8, b9⟩, gn, glb, gk, gf, gt, ghy, gma, gun, gpo, gpr, gfm, gax, grw⟩ := G'
  have L' := L
  obtain ⟨l1, l2, l3, l4, l5, l6, l7, l8, l9, l10, l11, l12, l13⟩ := L'
  have hb := bq_b l1
  have hq := bq_q l1
  have C' := C
  obtain ⟨k1, k2, k3, k4, k5, k6, k7, k8, k9, k10⟩ := C'
  have T' := Ti
  obtain ⟨t1, t2, t3, t4, t5, t6, t7, t8, t9, t10, t11, t12, t13⟩ := T'
  have hK : 0 ≤ K ∧ K ≤ 200 := ⟨gn.2.2.1, gn.2.2.2.1⟩
  have hS : 0 ≤ S ∧ S ≤ 300 := ⟨gn.1, gn.2.1⟩
  have hD : 0 ≤ f 66 0 ∧ f 66 0 ≤ 16 := ⟨R.1.1, R.1.2.1⟩
  have rwa := grw_rwa grw
  have hsc : scd f d a (b + 2) len := ⟨l3, tx_b hb, l4, b7, b8, b9⟩
  have htc : tkc f b0 e0 len := ⟨t1, t2, t6, t7, t8⟩
  have hce : c ≤ e0 := by omega
  have hbb : b = 1 ∨ b = 33 := hb
  have htok : tok F b0 e0 := ti_tok Ti b8 rfl rfl
  have R' := R
  obtain ⟨r1, r2, r3, r4, r5, r6, r7⟩ := R'
  have hvr : 0 ≤ r → r < S → a (b + 7) r = A 5 (300 * q + r) := fun z1 z2 => (gn.2.2.2.2.2.2.2.1 r z1 z2).2.2.1
  by_cases c5 : F 34 = 5
  · rw [if_pos c5]
    have k0 : f 65 6 = 0 := by omega
    unfold g_X11_typed g_X11_typed_0 g_X11_typed_100
    simp only [qz_lit]
    simp (disch := first | assumption | omega) only [qz_mul, qz_add, gf_ms, l7, gp_0, gp_5, gp_6, gp_7, gp_8, gp_9, gp_10, gp_11, gp_12, gp_13, gp_14, gp_15, gp_16, gp_17, gp_18, gp_19, gp_20, gp_21, gp_22, gp_23, gp_24, gp_25, gp_26, gp_27, gp_28, gp_38, gp_39, gp_40, gp_41, gp_42, gp_44, gp_45, gp_47, gp_49, gp_51, gp_52, gp_56, gp_57, gp_58, gp_60, gp_61, gp_62, gp_63, gp_64, gp_65, gp_66, gp_68, gp_69, gp_70, gp_72, gp_73, gp_74, gp_75, gp_76, gp_77, gp_78, gp_79, gp_81, gp_83, gp_84, ga_15, ga_12, b4, x12, bd_some]
    rw [if_neg (by rw [qz_inj (by omega) (by omega) (by omega) (by omega)]; exact fun y => c2 ⟨k0, y⟩), mD hn l9 l10 htok t8 t13, bd_some, qp_F (fun z => z hw), if_pos rfl, e2, bd_some]
    by_cases n0 : f 65 9 = 0
    · rw [n0, if_pos rfl, ecs, bd_some]
      by_cases z : 0 ≤ sy ∧ A 5 (300 * q + sy) = 0
      · have e : sy = r ∧ 0 ≤ r ∧ r < S := by omega
        have z2 : a (b + 7) r = 0 := by rw [hvr e.2.1 e.2.2, ← e.1]; exact z.2
        have gs : gsy S (f 65 6) 0 (a (b + 7)) (a 70) (a 71) r := Or.inl ⟨rfl, e.2.1, e.2.2, z2⟩
        rw [qp_T z, if_neg n10, qp_T gs, if_neg n10, e.1]
      · rw [qp_F z, if_pos rfl, qp_F, if_pos rfl]
        rintro (y | y | y)
        · have e : sy = r := by have := y.2.1; have := y.2.2.1; omega
          exact z ⟨by rw [e]; exact y.2.1, by rw [e, ← hvr y.2.1 y.2.2.1]; exact y.2.2.2⟩
        · exact y.1 rfl
        · exact y.1 rfl
    · rw [if_neg (by rw [qz_inj (by omega) (by omega) (by omega) (by omega)]; exact n0)]
      by_cases z : sy < 0
      · rw [if_pos (by rw [qz_lt (by omega) (by omega) (by omega) (by omega)]; exact z), qp_F (fun y => by have := hgs y; omega), if_pos rfl]
      · have e : sy = r ∧ 0 ≤ r ∧ r < S := by omega
        have v := r1.2.2.2.1 r e.2.1 (by omega)
        have t := r4.1 r e.2.1 (by omega)
        have tle : A 27 r < 1000 := by
          by_cases y : 0 ≤ A 27 r
          · have := t.2.2.2 y; omega
          · omega
        rw [if_neg (by rw [qz_lt (by omega) (by omega) (by omega) (by omega)]; exact z), e.1]
        simp (disch := first | assumption | omega) only [ga_26, ga_27, bd_some]
        by_cases z1 : A 26 r < 0
        · rw [if_pos (by rw [qz_lt (by omega) (by omega) (by omega) (by omega)]; exact z1), qp_F, if_pos rfl]
          rintro (y | y | y)
          · exact n0 y.1
          · have := v.2.1.mp y.2.2.1.2.2; omega
          · exact y.2.1 k0
        · rw [if_neg (by rw [qz_lt (by omega) (by omega) (by omega) (by omega)]; exact z1)]
          by_cases z2 : A 27 r < 0
          · rw [if_pos (by rw [qz_lt (by omega) (by omega) (by omega) (by omega)]; exact z2), qp_T, if_neg n10]
            refine Or.inr (Or.inl ⟨n0, k0, ⟨e.2.1, by omega, v.2.1.mpr (by omega)⟩, fun y => ?_⟩)
            have := t.2.1.mp y.2.2; omega
          · rw [if_neg (by rw [qz_lt (by omega) (by omega) (by omega) (by omega)]; exact z2), qp_F, if_pos rfl]
            rintro (y | y | y)
            · exact n0 y.1
            · exact y.2.2.2 ⟨e.2.1, by omega, t.2.1.mpr (by omega)⟩
            · exact y.2.1 k0
  · rw [if_neg c5]
    have k1' : f 65 6 ≠ 0 := by omega
    have e77 : g_X11_formula_77 n 0 (qz (200 * q + K)) (ms F A J) = if qp (gsy S (f 65 6) (f 65 9) (a (b + 7)) (a 70) (a 71) r) = qz 0 then some (qz 6, ms F A J) else (g_X11_takeSymbol n 0 (qz r) (ms F A J)).bind fun x1 => some (qz 0, x1) := by
      unfold g_X11_formula_77 g_X11_formula_148 g_X11_formula_144 g_X11_formula_149
      simp only [qz_lit]
      rw [mD hn l9 l10 htok t8 t13, bd_some, qp_F (fun z => z hw), if_pos rfl]
      simp (disch := first | assumption | omega) only [gp_0, gp_5, gp_6, gp_7, gp_8, gp_9, gp_10, gp_11, gp_12, gp_13, gp_14, gp_15, gp_16, gp_17, gp_18, gp_19, gp_20, gp_21, gp_22, gp_23, gp_24, gp_25, gp_26, gp_27, gp_28, gp_38, gp_39, gp_40, gp_41, gp_42, gp_44, gp_45, gp_47, gp_49, gp_51, gp_52, gp_56, gp_57, gp_58, gp_60, gp_61, gp_62, gp_63, gp_64, gp_65, gp_66, gp_68, gp_69, gp_70, gp_72, gp_73, gp_74, gp_75, gp_76, gp_77, gp_78, gp_79, gp_81, gp_83, gp_84, ga_12, x12, bd_some]
      rw [if_neg (by rw [qz_inj (by omega) (by omega) (by omega) (by omega)]; exact c60), e2, bd_some, ecs, bd_some]
      by_cases z : 0 ≤ sy ∧ A 5 (300 * q + sy) = 0
      · have e : sy = r ∧ 0 ≤ r ∧ r < S := by omega
        have z2 : a (b + 7) r = 0 := by rw [hvr e.2.1 e.2.2, ← e.1]; exact z.2
        have gs : gsy S (f 65 6) (f 65 9) (a (b + 7)) (a 70) (a 71) r := by
          by_cases n0 : f 65 9 = 0
          · exact Or.inl ⟨n0, e.2.1, e.2.2, z2⟩
          · exact Or.inr (Or.inr ⟨n0, k1', Or.inl ⟨e.2.1, e.2.2, z2⟩⟩)
        rw [qp_T z, if_neg n10, qp_T gs, if_neg n10, if_neg n10, e.1]
      · have ncst : ¬cst S (a (b + 7)) r := by
          intro y
          have e : sy = r := by have := y.1; have := y.2.1; omega
          exact z ⟨by rw [e]; exact y.1, by rw [e, ← hvr y.1 y.2.1]; exact y.2.2⟩
        rw [qp_F z, if_pos rfl]
        by_cases n0 : f 65 9 = 0
        · rw [if_pos (by rw [qz_le (by omega) (by omega) (by omega) (by omega)]; omega), if_pos trivial, qp_F, if_pos rfl]
          rintro (y | y | y)
          · exact ncst y.2
          · exact y.1 n0
          · exact y.1 n0
        rw [if_neg (by rw [qz_le (by omega) (by omega) (by omega) (by omega)]; omega)]
        by_cases z1 : sy < 0
        · rw [if_pos (by rw [qz_lt (by omega) (by omega) (by omega) (by omega)]; exact z1), if_pos trivial, qp_F (fun y => by have := hgs y; omega), if_pos rfl]
        have e : sy = r ∧ 0 ≤ r ∧ r < S := by omega
        have v := r1.2.2.2.1 r e.2.1 (by omega)
        have t := r4.1 r e.2.1 (by omega)
        have tle : A 27 r < 1000 := by
          by_cases y : 0 ≤ A 27 r
          · have := t.2.2.2 y; omega
          · omega
        rw [if_neg (by rw [qz_lt (by omega) (by omega) (by omega) (by omega)]; exact z1), e.1]
        simp (disch := first | assumption | omega) only [ga_26, ga_27, bd_some]
        have ngs : A 27 r < 0 → ¬gsy S (f 65 6) (f 65 9) (a (b + 7)) (a 70) (a 71) r := by
          rintro z2 (y | y | y)
          · exact ncst y.2
          · exact k1' y.2.1
          · rcases y.2.2 with y | y
            · exact ncst y
            · have := t.2.1.mp y.2.2; omega
        by_cases z2 : A 26 r < 0
        · have z3 : A 27 r < 0 := by
            by_cases y : 0 ≤ A 27 r
            · have := t.2.2.2 y; omega
            · omega
          rw [if_pos (by rw [qz_lt (by omega) (by omega) (by omega) (by omega)]; exact z2), if_pos trivial, qp_F (ngs z3), if_pos rfl]
        · rw [if_neg (by rw [qz_lt (by omega) (by omega) (by omega) (by omega)]; exact z2)]
          by_cases z3 : A 27 r < 0
          · rw [if_pos (by rw [qz_lt (by omega) (by omega) (by omega) (by omega)]; exact z3), if_pos trivial, qp_F (ngs z3), if_pos rfl]
          · rw [if_neg (by rw [qz_lt (by omega) (by omega) (by omega) (by omega)]; exact z3), if_neg n10, qp_T, if_neg n10]
            exact Or.inr (Or.inr ⟨n0, k1', Or.inr ⟨e.2.1, by omega, t.2.1.mpr (by omega)⟩⟩)
    rw [← e77]
    unfold g_X11_formula g_X11_formula_0 g_X11_formula_37
    simp (disch := first | assumption | omega) only [qpT, qpF, qz_lit, qz_add, qz_mul, qz_neg, qz_sub, qz_inj, qz_lt, qz_le, qz_div, qp_0, qp_1, hp_bz_qp, hp_bz_0, hp_bz_1, gf_ms, l7, gp_0, gp_5, gp_6, gp_7, gp_8, gp_9, gp_10, gp_11, gp_12, gp_13, gp_14, gp_15, gp_16, gp_17, gp_18, gp_19, gp_20, gp_21, gp_22, gp_23, gp_24, gp_25, gp_26, gp_27, gp_28, gp_38, gp_39, gp_40, gp_41, gp_42, gp_44, gp_45, gp_47, gp_49, gp_51, gp_52, gp_56, gp_57, gp_58, gp_60, gp_61, gp_62, gp_63, gp_64, gp_65, gp_66, gp_68, gp_69, gp_70, gp_72, gp_73, gp_74, gp_75, gp_76, gp_77, gp_78, gp_79, gp_81, gp_83, gp_84, ga_15, ga_7, b4, x7, bd_some]
    by_cases z : f 65 6 = 3
    · rw [if_pos z]
      rw [mW l9 l10 htok t8 t13 (by omega), bd_some, qp_F (by omega), if_pos rfl]
    · rw [if_neg z]
      rw [mW l9 l10 htok t8 t13 (by omega), bd_some, qp_F (by omega), if_pos rfl]
end SSY
