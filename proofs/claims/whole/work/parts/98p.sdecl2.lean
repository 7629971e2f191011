/-! Declarations: both, the token -/
section SDD
variable {b n : Nat} {q S K P len c b0 e0 w : Int} {f0 : Nat → Nat → Int} {a0 : Nat → Int → Int} {ni0 : Nat → Nat} {j0 : Nat → Int → Int64} {F0 : Nat → Int} {A0 : Nat → Int → Int} {J0 : Nat → Int → Int64} {f : Nat → Nat → Int} {d : Nat → Nat} {a : Nat → Int → Int} {ni : Nat → Nat} {j : Nat → Int → Int64} {F : Nat → Int} {A : Nat → Int → Int} {J : Nat → Int → Int64}
/-- a symbol that is declared, and made active if it is a variable: the relation -/
theorem rd_decl (hn : 100000 ≤ n) (G : BK b q S K P len f a ni j A J) (L : Rl b q len c f d a F A) (R : Rs b q S K P f a F A) (C : Rc b K c f a F) (Fr : FR b q f0 a0 ni0 j0 F0 A0 J0 f a ni j F A J) (Ti : TI b len c b0 e0 w f a F A) {v : Int} (hS3 : S < 300) (hv : v = 0 ∨ v = 1) (hu : ∀ x, liv S K x → ¬nme (a (b + 2)) (a (b + 5) x) (a (b + 6) x) (a (b + 2)) b0 (e0 - b0)) (m1 : f 65 4 = 2) (m3 : F 36 = a (b + 11 + 2) K) (m4 : F 37 = a (b + 14 + 2) K) (m5 : PB P (F 43) (f 66 0) 0 c) (m6 : f 65 9 = F 35) (m7 : 0 ≤ F 35) (m8 : F 35 ≤ c) {a1 a2 : Nat → Int → Int} {A1 A2 : Nat → Int → Int} {f2 : Nat → Nat → Int}
    (ea : a1 = v2 (v2 (v2 (v2 (v2 a (b + 5) S b0) (b + 6) S (e0 - b0)) (b + 4) S (a (b + 3) (hd (a (b + 2)) b0 (e0 - b0)))) (b + 3) (hd (a (b + 2)) b0 (e0 - b0)) S) (b + 7) S v) (eA : A1 = v2 (v2 (v2 (v2 A 3 (300 * q + S) b0) 4 (300 * q + S) (e0 - b0)) 5 (300 * q + S) v) 6 q (S + 1))
    (h : (v = 0 ∧ F 34 = 2 ∧ f 65 5 = 0 ∧ f2 = u2 (u2 f b 3 (S + 1)) 65 9 (f 65 9 + 1) ∧ a2 = a1 ∧ A2 = A1) ∨ (v = 1 ∧ F 34 = 3 ∧ f 65 5 = 1 ∧ f2 = u2 (u2 (u2 f b 3 (S + 1)) 66 4 (f 66 4 + 1)) 65 9 (f 65 9 + 1) ∧ a2 = v2 (v2 a1 70 S 1) 69 (f 66 4) S ∧ A2 = v2 A1 26 S (f 66 0))) :
    RD b q (S + 1) K P len e0 f0 a0 ni0 j0 F0 A0 J0 f2 d a2 ni j (u1 F 35 (F 35 + 1)) A2 J := by
  have G' := G
  obtain ⟨⟨b1, b2, b3, b4, b5, b6, b7, b8, b9⟩, gn, glb, gk, gf, gt, ghy, gma, gun, gpo, gpr, gfm, gax, grw⟩ := G'
  have L' := L
  obtain ⟨l1, l2, l3, l4, l5, l6, l7, l8, l9, l10, l11, l12, l13⟩ := L'
  have hb := bq_b l1
  have hq := bq_q l1
  have C' := C
  obtain ⟨k1, k2, k3, k4, k5, k6, k7, k8, k9, k10⟩ := C'
  have T' := Ti
  obtain ⟨t1, t2, t3, t4, t5, t6, t7, t8, t9, t10, t11, t12, t13⟩ := T'
  have hK : 0 ≤ K ∧ K ≤ 200 := ⟨gn.2.2.1, gn.2.2.2.1⟩
  have hS : 0 ≤ S ∧ S ≤ 300 := ⟨gn.1, gn.2.1⟩
  have hD : 0 ≤ f 66 0 ∧ f 66 0 ≤ 16 := ⟨R.1.1, R.1.2.1⟩
  have rwa := grw_rwa grw
  have hsc : scd f d a (b + 2) len := ⟨l3, tx_b hb, l4, b7, b8, b9⟩
  have htc : tkc f b0 e0 len := ⟨t1, t2, t6, t7, t8⟩
  have hce : c ≤ e0 := by omega
  have hbb : b = 1 ∨ b = 33 := hb
  have R' := R
  obtain ⟨r1, r2, r3, r4, r5, r6, r7⟩ := R'
  have hact : A 26 S < 0 := by
    have := r1.2.2.2.1 S hS.1 hS3
    by_cases z : 0 ≤ A 26 S
    · have := this.2.2.2.2 z
      omega
    · omega
  have hq1 : hd (a (b + 2)) b0 (e0 - b0) = hd (a (b + 2)) b0 (e0 - b0) := rfl
  rcases h with ⟨rfl, h1, h2, rfl, rfl, rfl⟩ | ⟨rfl, h1, h2, rfl, rfl, rfl⟩
  · subst ea
    subst eA
    refine ⟨bk_sym (v := 0) G hS3 t6 t7 t8 hv hu (by simp (disch := omega) only [u2_b, u2_a]) (by simp (disch := omega) only [u2_b, u2_c]) (by simp (disch := omega) only [u2_b, u2_c]) (fun i i1 i2 => by simp (disch := omega) only [u2_b]) (by simp (disch := omega) only [v2_o, v2_s]) (by simp (disch := omega) only [v2_o, v2_s]) (by simp (disch := omega) only [v2_o, v2_s]) (by simp (disch := omega) only [v2_o, v2_s]) (by simp (disch := omega) only [v2_o, v2_s]) (fun i i1 i2 i3 => by simp (disch := omega) only [v2_o]) (by simp (disch := omega) only [v2_o, v2_s]) (by simp (disch := omega) only [v2_o, v2_s]) (by simp (disch := omega) only [v2_o, v2_s]) (by simp (disch := omega) only [v2_s, v1_s]) (fun i i1 i2 => by simp (disch := omega) only [v2_o]), ?_, ?_, ?_, ?_, ?_⟩
    · unfold Rl
      simp (disch := omega) only [u1_o, u2_b, v2_o]
      exact ⟨l1, l2, l3, l4, l5, l6, l7, l8, l9, l10, by omega, t8, Or.inr t12⟩
    · unfold Rs
      simp (disch := omega) only [u1_o, u2_b, v2_o, v2_s]
      exact ⟨gv_sym r1, r2, r3, r4, gh4_S r5 gf, r6, r7⟩
    · unfold Rc
      simp (disch := omega) only [u1_o, u2_b, v2_o]
      exact ⟨k1, k2, k3, k4, k5, k6, by omega, k8, k9, k10⟩
    · refine Or.inr (Or.inr (Or.inl ?_))
      simp (disch := omega) only [u1_o, u1_s, u2_a, u2_b, u2_c, v2_o]
      exact ⟨m1, Or.inl ⟨h1, h2⟩, m3, m4, pb_m m5 hce (by omega), by omega, by omega, by omega⟩
    · exact fr_V (fr_V (fr_V (fr_V (fr_F (fr_v (fr_v (fr_v (fr_v (fr_v (fr_f (fr_f Fr (by omega)) (by omega)) (by omega)) (by omega)) (by omega)) (by omega)) (by omega)) (by omega)) (by omega) 300 rfl (by omega)) (by omega) 300 rfl (by omega)) (by omega) 300 rfl (by omega)) (by omega) 1 rfl (by omega)
  · subst ea
    subst eA
    refine ⟨bk_sym (v := 1) G hS3 t6 t7 t8 hv hu (by simp (disch := omega) only [u2_b, u2_a]) (by simp (disch := omega) only [u2_b, u2_c]) (by simp (disch := omega) only [u2_b, u2_c]) (fun i i1 i2 => by simp (disch := omega) only [u2_b]) (by simp (disch := omega) only [v2_o, v2_s]) (by simp (disch := omega) only [v2_o, v2_s]) (by simp (disch := omega) only [v2_o, v2_s]) (by simp (disch := omega) only [v2_o, v2_s]) (by simp (disch := omega) only [v2_o, v2_s]) (fun i i1 i2 i3 => by simp (disch := omega) only [v2_o]) (by simp (disch := omega) only [v2_o, v2_s]) (by simp (disch := omega) only [v2_o, v2_s]) (by simp (disch := omega) only [v2_o, v2_s]) (by simp (disch := omega) only [v2_o, v2_s, v1_s]) (fun i i1 i2 => by simp (disch := omega) only [v2_o]), ?_, ?_, ?_, ?_, ?_⟩
    · unfold Rl
      simp (disch := omega) only [u1_o, u2_b, u2_c, v2_o]
      exact ⟨l1, l2, l3, l4, l5, l6, l7, l8, l9, l10, by omega, t8, Or.inr t12⟩
    · unfold Rs
      simp (disch := omega) only [u1_o, u2_a, u2_b, u2_c, v2_o, v2_s]
      exact ⟨gv_act (gv_sym r1) hS.1 hS3 (by omega) (by rw [v1_s]) hact, r2, r3, gh3_act r4 hact, gh4_S r5 gf, r6, r7⟩
    · unfold Rc
      simp (disch := omega) only [u1_o, u2_b, v2_o]
      exact ⟨k1, k2, k3, k4, k5, k6, by omega, k8, k9, k10⟩
    · refine Or.inr (Or.inr (Or.inl ?_))
      simp (disch := omega) only [u1_o, u1_s, u2_a, u2_b, u2_c, v2_o]
      exact ⟨m1, Or.inr ⟨h1, h2⟩, m3, m4, pb_m m5 hce (by omega), by omega, by omega, by omega⟩
    · exact fr_V (fr_V (fr_V (fr_V (fr_V (fr_F (fr_v (fr_v (fr_v (fr_v (fr_v (fr_v (fr_v (fr_f (fr_f (fr_f Fr (by omega)) (by omega)) (by omega)) (by omega)) (by omega)) (by omega)) (by omega)) (by omega)) (by omega)) (by omega)) (by omega)) (by omega) 300 rfl (by omega)) (by omega) 300 rfl (by omega)) (by omega) 300 rfl (by omega)) (by omega) 1 rfl (by omega)) (by omega) 0 rfl (fun z => absurd rfl z)
theorem s_decl (hn : 100000 ≤ n) (G : BK b q S K P len f a ni j A J) (L : Rl b q len c f d a F A) (R : Rs b q S K P f a F A) (C : Rc b K c f a F) (Fr : FR b q f0 a0 ni0 j0 F0 A0 J0 f a ni j F A J) (Ti : TI b len c b0 e0 w f a F A) (hw1 : w ≠ -1) (m1 : f 65 4 = 2) (m2 : (F 34 = 2 ∧ f 65 5 = 0) ∨ (F 34 = 3 ∧ f 65 5 = 1)) (m3 : F 36 = a (b + 11 + 2) K) (m4 : F 37 = a (b + 14 + 2) K) (m5 : PB P (F 43) (f 66 0) 0 c) (m6 : f 65 9 = F 35) (m7 : 0 ≤ F 35) (m8 : F 35 ≤ c) : OUT b n q len b0 e0 f0 a0 ni0 j0 F0 A0 J0 d (g_X4_takeDeclared n 65 (qz w) (cs f d a ni j)) (g_X11_declared n 0 (ms F A J)) := by
  have G' := G
  obtain ⟨⟨b1, b2, b3, b4, b5, b6, b7, b8, b9⟩, gn, glb, gk, gf, gt, ghy, gma, gun, gpo, gpr, gfm, gax, grw⟩ := G'
  have L' := L
  obtain ⟨l1, l2, l3, l4, l5, l6, l7, l8, l9, l10, l11, l12, l13⟩ := L'
  have hb := bq_b l1
  have hq := bq_q l1
  have C' := C
  obtain ⟨k1, k2, k3, k4, k5, k6, k7, k8, k9, k10⟩ := C'
  have T' := Ti
  obtain ⟨t1, t2, t3, t4, t5, t6, t7, t8, t9, t10, t11, t12, t13⟩ := T'
  have hK : 0 ≤ K ∧ K ≤ 200 := ⟨gn.2.2.1, gn.2.2.2.1⟩
  have hS : 0 ≤ S ∧ S ≤ 300 := ⟨gn.1, gn.2.1⟩
  have hD : 0 ≤ f 66 0 ∧ f 66 0 ≤ 16 := ⟨R.1.1, R.1.2.1⟩
  have rwa := grw_rwa grw
  have hsc : scd f d a (b + 2) len := ⟨l3, tx_b hb, l4, b7, b8, b9⟩
  have htc : tkc f b0 e0 len := ⟨t1, t2, t6, t7, t8⟩
  have hce : c ≤ e0 := by omega
  have hbb : b = 1 ∨ b = 33 := hb
  have htok : tok F b0 e0 := ti_tok Ti b8 rfl rfl
  have R' := R
  obtain ⟨r1, r2, r3, r4, r5, r6, r7⟩ := R'
  have hwr : -1 ≤ w ∧ w < 128 := wrd_rng t13 b9 t6 t7 (by omega)
  have hva : ∀ k, 0 ≤ k → k < f b 3 → a (b + 7) k = 0 ∨ a (b + 7) k = 1 := fun k x1 x2 => (gn.2.2.2.2.2.2.2.1 k x1 (by omega)).2.2.2
  have hac : ∀ k, 0 ≤ k → k < 300 → a 70 k = 0 ∨ a 70 k = 1 := fun k x1 x2 => (r1.2.2.2.1 k x1 x2).1
  by_cases cw : w = 46 ∧ 0 < F 35
  · have X0 : g_X4_takeDeclared n 65 (qz w) (cs f d a ni j) = some (qz 0, cs (u2 (u2 f 65 4 0) 65 9 0) d a ni j) := by
      unfold g_X4_takeDeclared g_X4_takeDeclared_0
      simp only [qz_lit]
      rw [cw.1, if_pos rfl, gf_cs, m6, if_neg (by rw [qz_le (by omega) (by omega) (by omega) (by omega)]; omega), c_begin, bd_some]
    have Y0 : g_X11_declared n 0 (ms F A J) = some (qz 0, ms (u1 F 34 0) A J) := by
      unfold g_X11_declared g_X11_declared_0
      simp only [qz_lit]
      rw [mW l9 l10 htok t8 t13 (by omega), bd_some, qp_T (by omega), if_neg n10]
      rw [gf_ms, if_neg (by rw [qz_le (by omega) (by omega) (by omega) (by omega)]; omega), wf_ms, bd_some]
    refine out_good X0 Y0 (by simp (disch := omega) only [u2_a, u2_c]; omega) (by simp (disch := omega) only [u2_a, u2_c]; omega) (rd65 hn G L R C Fr Ti (fun i hi => by rw [u2_b hi, u2_b hi]) (fun k k1 k2 => by rw [u1_o k1]) agK_0 ?_ (fr_F (fr_f (fr_f Fr (by omega)) (by omega)) (by omega))) (by simp (disch := omega) only [u2_b]; exact t2) (by simp (disch := omega) only [u1_o]; exact t5)
    refine Or.inl ?_
    simp (disch := omega) only [u2_a, u2_b, u2_c, u1_s, u1_o]
    exact ⟨trivial, trivial, m3, m4, pb_m m5 hce (by omega)⟩
  have X1 : g_X4_takeDeclared n 65 (qz w) (cs f d a ni j) = g_X4_takeDeclared_19 n 65 (qz w) (cs f d a ni j) := by
    unfold g_X4_takeDeclared g_X4_takeDeclared_0
    simp only [qz_lit]
    by_cases z : w = 46
    · rw [z, if_pos rfl, gf_cs, m6, if_pos (by rw [qz_le (by omega) (by omega) (by omega) (by omega)]; omega)]
    · rw [if_neg (by rw [qz_inj (by omega) (by omega) (by omega) (by omega)]; exact z)]
  have Y1 : g_X11_declared n 0 (ms F A J) = g_X11_declared_23 n 0 (ms F A J) := by
    unfold g_X11_declared g_X11_declared_0
    simp only [qz_lit]
    by_cases z : w = 46
    · rw [mW l9 l10 htok t8 t13 (by omega), bd_some, qp_T (by omega), if_neg n10]
      rw [gf_ms, if_pos (by rw [qz_le (by omega) (by omega) (by omega) (by omega)]; omega)]
    · rw [mW l9 l10 htok t8 t13 (by omega), bd_some, qp_F (by omega), if_pos rfl]
  by_cases w0 : w ≠ 0
  · refine out_fault (z := 3) (by omega) (by omega) (f := f) (a := a) (ni := ni) (j := j) (F := F) (A := A) (J := J) ?_ ?_ t1 t3 Fr rwa (by omega) (by omega)
    · rw [X1]
      unfold g_X4_takeDeclared_19
      simp only [qz_lit]
      rw [if_neg (by rw [qz_inj (by omega) (by omega) (by omega) (by omega)]; exact w0)]
    · rw [Y1]
      unfold g_X11_declared_23
      simp only [qz_lit]
      rw [mD hn l9 l10 htok t8 t13, bd_some, qp_T w0, if_neg n10]
  have w0 := Classical.not_not.mp w0
  obtain ⟨r, sy, lb, e1, e2, e3, hr⟩ := look3 (f := f) (d := d) (ni := ni) (j := j) (J := J) (n := n) hn hb hq gn l9 b9 l10 htok t8 l7 b2 b4
  have X2 : g_X4_takeDeclared_19 n 65 (qz w) (cs f d a ni j) = if qz r = qz (-1) then g_X4_takeDeclared_47 n 65 (qz r) (qz 0) (cs f d a ni j) else if qz 300 ≤ qz r then g_X4_takeDeclared_47 n 65 (qz r) (qz 0) (cs f d a ni j) else g_X4_takeDeclared_47 n 65 (qz r) (qz 1) (cs f d a ni j) := by
    unfold g_X4_takeDeclared_19 g_X4_takeDeclared_46
    simp only [qz_lit, qz_neg]
    rw [w0, if_pos rfl, c_named hb l2 t1 t2, e1, bd_some]
  have Y2 : g_X11_declared_23 n 0 (ms F A J) = if qz 0 ≤ qz sy then g_X11_declared_59 n 0 (qz sy) (ms F A J) else if K = K ∧ S = 300 then some (qz 7, ms F A J) else g_X11_declared_59 n 0 (qz sy) (ms F A J) := by
    unfold g_X11_declared_23
    simp only [qz_lit]
    rw [mD hn l9 l10 htok t8 t13, bd_some, qp_F (fun z => z w0), if_pos rfl, e2, bd_some]
    simp (disch := first | assumption | omega) only [gp_0, gp_5, gp_6, gp_7, gp_8, gp_9, gp_10, gp_11, gp_12, gp_13, gp_14, gp_15, gp_16, gp_17, gp_18, gp_19, gp_20, gp_21, gp_22, gp_23, gp_24, gp_25, gp_26, gp_27, gp_28, gp_38, gp_39, gp_40, gp_41, gp_42, gp_44, gp_45, gp_47, gp_49, gp_51, gp_52, gp_56, gp_57, gp_58, gp_60, gp_61, gp_62, gp_63, gp_64, gp_65, gp_66, gp_68, gp_69, gp_70, gp_72, gp_73, gp_74, gp_75, gp_76, gp_77, gp_78, gp_79, gp_81, gp_83, gp_84, gf_ms, l7, ga_6, b2, bd_some, qz_inj, true_and]
  have X3 : ∀ s0 : Int, s0 = 0 ∨ s0 = 1 → g_X4_takeDeclared_47 n 65 (qz r) (qz s0) (cs f d a ni j) = if s0 = 0 ∧ S = 300 then some (qz 7, cs f d a ni j) else g_X4_takeDeclared_68 n 65 (qz r) (cs f d a ni j) := by
    intro s0 hs
    unfold g_X4_takeDeclared_47
    simp only [qz_lit]
    rcases hs with rfl | rfl
    · rw [if_pos rfl, gpc_65_1, l2, gf_cs, b1]
      simp (disch := omega) only [qz_inj, true_and]
    · rw [if_neg n10, if_neg (by omega)]
  rcases hr with ⟨rfl, rfl, rfl, hr⟩ | ⟨hr0, hr1, hr2, es, el, hr3⟩ | ⟨hr0, hr1, hr2, es, el, hr3⟩
  · -- a new name
    rw [if_pos rfl, X3 0 (Or.inl rfl)] at X2
    rw [if_neg (by decide)] at Y2
    by_cases cS : S = 300
    · rw [if_pos ⟨rfl, cS⟩] at X2 Y2
      exact out_fault (by omega) (by omega) (X1.trans X2) (Y1.trans Y2) t1 t3 Fr rwa (by omega) (by omega)
    rw [if_neg (fun z => cS z.2)] at X2 Y2
    have hact : A 26 S < 0 := by
      have := r1.2.2.2.1 S hS.1 (by omega)
      by_cases z : 0 ≤ A 26 S
      · have := this.2.2.2.2 z
        omega
      · omega
    have hvc : f 66 4 + 1 ≤ 300 := gv_le (gv_act (gv_sym (z := 1) r1) hS.1 (by omega) (by omega) (by rw [v1_s]) hact)
    have hvc0 := r1.2.2.1
    have Y3 : g_X11_declared_59 n 0 (qz (-1)) (ms F A J) = g_X11_declared_125 n 0 (qz (-1)) (qz 0) (qz 0) (ms F A J) := by
      unfold g_X11_declared_59 g_X11_declared_85 g_X11_declared_86 g_X11_declared_124
      simp only [qz_lit]
      rw [if_pos (c := qz (-1) < qz 0) (by decide), if_pos (c := qz (-1) < qz 0) (by decide), if_pos (c := qz (-1) < qz 0) (by decide), ite_self]
    rw [Y3] at Y2
    rcases m2 with ⟨ma, mb⟩ | ⟨ma, mb⟩
    · have X4 : g_X4_takeDeclared_68 n 65 (qz (-1)) (cs f d a ni j) = some (qz 0, cs (u2 (u2 f b 3 (S + 1)) 65 9 (f 65 9 + 1)) d (v2 (v2 (v2 (v2 (v2 a (b + 5) S b0) (b + 6) S (e0 - b0)) (b + 4) S (a (b + 3) (hd (a (b + 2)) b0 (e0 - b0)))) (b + 3) (hd (a (b + 2)) b0 (e0 - b0)) S) (b + 7) S 0) ni j) := by
        unfold g_X4_takeDeclared_68 g_X4_takeDeclared_101 g_X4_takeDeclared_102 g_X4_takeDeclared_116
        simp only [qz_lit, qz_neg]
        rw [gf_cs, mb, if_pos rfl, if_pos trivial, if_pos trivial, gpc_65_1, l2, gpc_65_2, gf_cs, gf_cs, t1, t2, qz_sub, c_addSym hb hn b1 hS.1 (by omega) t6 t7 (by omega) (Or.inl rfl), bd_some]
        unfold g_X4_takeDeclared_155 g_X4_takeDeclared_170
        simp (disch := omega) only [qz_lit, gf_cs, wf_cs, u2_b, mb, if_true, bd_some, qz_add]
      have Y4 : g_X11_declared_125 n 0 (qz (-1)) (qz 0) (qz 0) (ms F A J) = some (qz 0, ms (u1 F 35 (F 35 + 1)) (v2 (v2 (v2 (v2 A 3 (300 * q + S) b0) 4 (300 * q + S) (e0 - b0)) 5 (300 * q + S) 0) 6 q (S + 1)) J) := by
        unfold g_X11_declared_125
        simp only [qz_lit]
        rw [if_pos trivial, if_pos trivial, e3, bd_some, if_pos (by decide), if_neg (by decide)]
        unfold g_X11_declared_222 g_X11_declared_236 g_X11_declared_254
        simp (disch := first | assumption | omega) only [qpT, qpF, qz_lit, qz_add, qz_mul, qz_neg, qz_sub, qz_inj, qz_lt, qz_le, qz_div, qp_0, qp_1, hp_bz_qp, hp_bz_0, hp_bz_1, gf_ms, wf_ms, l7, gp_0, gp_5, gp_6, gp_7, gp_8, gp_9, gp_10, gp_11, gp_12, gp_13, gp_14, gp_15, gp_16, gp_17, gp_18, gp_19, gp_20, gp_21, gp_22, gp_23, gp_24, gp_25, gp_26, gp_27, gp_28, gp_38, gp_39, gp_40, gp_41, gp_42, gp_44, gp_45, gp_47, gp_49, gp_51, gp_52, gp_56, gp_57, gp_58, gp_60, gp_61, gp_62, gp_63, gp_64, gp_65, gp_66, gp_68, gp_69, gp_70, gp_72, gp_73, gp_74, gp_75, gp_76, gp_77, gp_78, gp_79, gp_81, gp_83, gp_84, ga_6, ua_3, ua_4, ua_5, ua_6, v2_o, b2, bd_some, t3, t4, ma, if_neg]
      exact out_good (X1.trans (X2.trans X4)) (Y1.trans (Y2.trans Y4)) (by simp (disch := omega) only [u2_b, u2_c]; omega) (by simp (disch := omega) only [u2_b, u2_c]; omega) (rd_decl hn G L R C Fr Ti (v := 0) (by omega) (Or.inl rfl) hr m1 m3 m4 m5 m6 m7 m8 rfl rfl (Or.inl ⟨rfl, ma, mb, rfl, rfl, rfl⟩)) (by simp (disch := omega) only [u2_b]; exact t2) (by simp (disch := omega) only [u1_o]; exact t5)
    · have X4 : g_X4_takeDeclared_68 n 65 (qz (-1)) (cs f d a ni j) = some (qz 0, cs (u2 (u2 (u2 f b 3 (S + 1)) 66 4 (f 66 4 + 1)) 65 9 (f 65 9 + 1)) d (v2 (v2 (v2 (v2 (v2 (v2 (v2 a (b + 5) S b0) (b + 6) S (e0 - b0)) (b + 4) S (a (b + 3) (hd (a (b + 2)) b0 (e0 - b0)))) (b + 3) (hd (a (b + 2)) b0 (e0 - b0)) S) (b + 7) S 1) 70 S 1) 69 (f 66 4) S) ni j) := by
        unfold g_X4_takeDeclared_68 g_X4_takeDeclared_101 g_X4_takeDeclared_102 g_X4_takeDeclared_116
        simp only [qz_lit, qz_neg]
        rw [gf_cs, mb, if_neg n10, gpc_65_1, l2, c_isVar hb (by omega) (by omega) (by omega) (by omega) hva, bd_some, qp_F (by omega), if_pos rfl, if_pos trivial, if_pos trivial, gpc_65_2, gf_cs, gf_cs, t1, t2, qz_sub, c_addSym hb hn b1 hS.1 (by omega) t6 t7 (by omega) (Or.inr rfl), bd_some]
        unfold g_X4_takeDeclared_155 g_X4_takeDeclared_170
        simp only [qz_lit, gf_cs]
        rw [u2_b (by omega), mb, if_neg n10, gpc_65_3, c_activate (vc := f 66 4) hS.1 (by omega) (by rw [u2_b (by omega)]) hvc0 (by omega), bd_some]
        simp (disch := omega) only [qz_lit, gf_cs, wf_cs, u2_b, bd_some, qz_add]
      have Y4 : g_X11_declared_125 n 0 (qz (-1)) (qz 0) (qz 0) (ms F A J) = some (qz 0, ms (u1 F 35 (F 35 + 1)) (v2 (v2 (v2 (v2 (v2 A 3 (300 * q + S) b0) 4 (300 * q + S) (e0 - b0)) 5 (300 * q + S) 1) 6 q (S + 1)) 26 S (f 66 0)) J) := by
        unfold g_X11_declared_125
        simp only [qz_lit]
        rw [if_pos trivial, if_pos trivial, e3, bd_some, if_pos (by decide), if_neg (by decide)]
        unfold g_X11_declared_222 g_X11_declared_236 g_X11_declared_254
        simp (disch := first | assumption | omega) only [qpT, qpF, qz_lit, qz_add, qz_mul, qz_neg, qz_sub, qz_inj, qz_lt, qz_le, qz_div, qp_0, qp_1, hp_bz_qp, hp_bz_0, hp_bz_1, gf_ms, wf_ms, l7, l8, gp_0, gp_5, gp_6, gp_7, gp_8, gp_9, gp_10, gp_11, gp_12, gp_13, gp_14, gp_15, gp_16, gp_17, gp_18, gp_19, gp_20, gp_21, gp_22, gp_23, gp_24, gp_25, gp_26, gp_27, gp_28, gp_38, gp_39, gp_40, gp_41, gp_42, gp_44, gp_45, gp_47, gp_49, gp_51, gp_52, gp_56, gp_57, gp_58, gp_60, gp_61, gp_62, gp_63, gp_64, gp_65, gp_66, gp_68, gp_69, gp_70, gp_72, gp_73, gp_74, gp_75, gp_76, gp_77, gp_78, gp_79, gp_81, gp_83, gp_84, ga_6, ua_3, ua_4, ua_5, ua_6, ua_26, v2_o, b2, bd_some, t3, t4, ma, if_true]
      exact out_good (X1.trans (X2.trans X4)) (Y1.trans (Y2.trans Y4)) (by simp (disch := omega) only [u2_b, u2_c]; omega) (by simp (disch := omega) only [u2_b, u2_c]; omega) (rd_decl hn G L R C Fr Ti (v := 1) (by omega) (Or.inr rfl) hr m1 m3 m4 m5 m6 m7 m8 rfl rfl (Or.inr ⟨rfl, ma, mb, rfl, rfl, rfl⟩)) (by simp (disch := omega) only [u2_b]; exact t2) (by simp (disch := omega) only [u1_o]; exact t5)
  · -- a symbol's name
    rw [es] at e2 Y2
    rw [el] at e3
    have hsv := gn.2.2.2.2.2.2.2.1 r hr0 hr1
    rw [if_neg (by rw [qz_inj (by omega) (by omega) (by omega) (by omega)]; omega), if_neg (by rw [qz_le (by omega) (by omega) (by omega) (by omega)]; omega), X3 1 (Or.inr rfl), if_neg (by omega)] at X2
    rw [if_pos (by rw [qz_le (by omega) (by omega) (by omega) (by omega)]; omega)] at Y2
    by_cases cg : F 34 = 3 ∧ a (b + 7) r = 1 ∧ a 70 r = 0
    · obtain ⟨ma, cv, ca⟩ := cg
      have mb : f 65 5 = 1 := by omega
      have v4 := r1.2.2.2.1 r hr0 (by omega)
      have hact : A 26 r < 0 := by omega
      have G1 := gv_act r1 hr0 (by omega) hr1 cv hact
      have hvc : f 66 4 + 1 ≤ 300 := gv_le G1
      have hvc0 := r1.2.2.1
      have X4 : g_X4_takeDeclared_68 n 65 (qz r) (cs f d a ni j) = some (qz 0, cs (u2 (u2 f 66 4 (f 66 4 + 1)) 65 9 (f 65 9 + 1)) d (v2 (v2 a 70 r 1) 69 (f 66 4) r) ni j) := by
        unfold g_X4_takeDeclared_68 g_X4_takeDeclared_102 g_X4_takeDeclared_116
        simp only [qz_lit, qz_neg]
        rw [gf_cs, mb, if_neg n10, gpc_65_1, l2, c_isVar hb (by omega) (by omega) (by omega) (by omega) hva, bd_some, qp_T (by omega), if_neg n10, gpc_65_3, c_isAct (by omega) (by omega) hac, bd_some, qp_F (by omega), if_pos rfl, if_neg (by rw [qz_inj (by omega) (by omega) (by omega) (by omega)]; omega), if_neg n10, if_neg n10]
        unfold g_X4_takeDeclared_155 g_X4_takeDeclared_170
        simp only [qz_lit, gf_cs]
        rw [mb, if_neg n10, gpc_65_3, c_activate (vc := f 66 4) hr0 (by omega) rfl hvc0 (by omega), bd_some]
        simp (disch := omega) only [qz_lit, gf_cs, wf_cs, u2_b, bd_some, qz_add]
      have Y4 : g_X11_declared_59 n 0 (qz r) (ms F A J) = some (qz 0, ms (u1 F 35 (F 35 + 1)) (v2 A 26 r (f 66 0)) J) := by
        have h125 : g_X11_declared_125 n 0 (qz r) (qz 0) (qz 0) (ms F A J) = some (qz 0, ms (u1 F 35 (F 35 + 1)) (v2 A 26 r (f 66 0)) J) := by
          unfold g_X11_declared_125
          simp only [qz_lit]
          rw [if_pos trivial, if_pos trivial, e3, bd_some, if_pos (by decide), if_pos (by rw [qz_le (by omega) (by omega) (by omega) (by omega)]; omega)]
          unfold g_X11_declared_236 g_X11_declared_254
          simp (disch := first | assumption | omega) only [qpT, qpF, qz_lit, qz_add, qz_mul, qz_neg, qz_sub, qz_inj, qz_lt, qz_le, qz_div, qp_0, qp_1, hp_bz_qp, hp_bz_0, hp_bz_1, gf_ms, wf_ms, l8, gp_0, gp_5, gp_6, gp_7, gp_8, gp_9, gp_10, gp_11, gp_12, gp_13, gp_14, gp_15, gp_16, gp_17, gp_18, gp_19, gp_20, gp_21, gp_22, gp_23, gp_24, gp_25, gp_26, gp_27, gp_28, gp_38, gp_39, gp_40, gp_41, gp_42, gp_44, gp_45, gp_47, gp_49, gp_51, gp_52, gp_56, gp_57, gp_58, gp_60, gp_61, gp_62, gp_63, gp_64, gp_65, gp_66, gp_68, gp_69, gp_70, gp_72, gp_73, gp_74, gp_75, gp_76, gp_77, gp_78, gp_79, gp_81, gp_83, gp_84, ua_26, bd_some, ma, if_true]
        have nr : ¬(qz r < qz 0) := by rw [qz_lt (by omega) (by omega) (by omega) (by omega)]; omega
        unfold g_X11_declared_59 g_X11_declared_85 g_X11_declared_86 g_X11_declared_124
        simp only [qz_lit]
        simp only [nr, if_false]
        rw [h125]
        simp (disch := first | assumption | omega) only [gp_0, gp_5, gp_6, gp_7, gp_8, gp_9, gp_10, gp_11, gp_12, gp_13, gp_14, gp_15, gp_16, gp_17, gp_18, gp_19, gp_20, gp_21, gp_22, gp_23, gp_24, gp_25, gp_26, gp_27, gp_28, gp_38, gp_39, gp_40, gp_41, gp_42, gp_44, gp_45, gp_47, gp_49, gp_51, gp_52, gp_56, gp_57, gp_58, gp_60, gp_61, gp_62, gp_63, gp_64, gp_65, gp_66, gp_68, gp_69, gp_70, gp_72, gp_73, gp_74, gp_75, gp_76, gp_77, gp_78, gp_79, gp_81, gp_83, gp_84, gf_ms, l7, ga_5, ga_26, bd_some, qz_mul, qz_add]
        rw [← hsv.2.2.1, cv, if_neg n10, ma, if_neg (by decide), if_pos (by rw [qz_lt (by omega) (by omega) (by omega) (by omega)]; exact hact)]
      have hf : ∀ i, b ≤ i → i < b + 32 → u2 (u2 f 66 4 (f 66 4 + 1)) 65 9 (f 65 9 + 1) i = f i := fun i i1 i2 => by simp (disch := omega) only [u2_b]
      have ha : ∀ i, b ≤ i → i < b + 32 → i ≠ b + 10 → v2 (v2 a 70 r 1) 69 (f 66 4) r i = a i := fun i i1 i2 _ => by simp (disch := omega) only [v2_o]
      refine out_good (X1.trans (X2.trans X4)) (Y1.trans (Y2.trans Y4)) (by simp (disch := omega) only [u2_b, u2_c]; omega) (by simp (disch := omega) only [u2_b, u2_c]; omega) ⟨bk_o G hf ha (fun _ _ _ => rfl) (by simp (disch := omega) only [v2_o]; exact gun) (by rw [v2_u1]; exact agB_u (agK_B agK_0) (by omega)), ?_, ?_, rc_m C hce hf ha (by simp (disch := omega) only [u1_o]) (by simp (disch := omega) only [u1_o]), ?_, ?_⟩ (by simp (disch := omega) only [u2_b]; exact t2) (by simp (disch := omega) only [u1_o]; exact t5)
      · unfold Rl
        simp (disch := omega) only [u1_o, u2_b, u2_c, v2_o]
        exact ⟨l1, l2, l3, l4, l5, l6, l7, l8, l9, l10, by omega, t8, Or.inr t12⟩
      · unfold Rs
        simp (disch := omega) only [u1_o, u2_a, u2_b, u2_c, v2_o, v2_s]
        exact ⟨G1, r2, r3, gh3_act r4 hact, r5, r6, r7⟩
      · refine Or.inr (Or.inr (Or.inl ?_))
        simp (disch := omega) only [u1_o, u1_s, u2_a, u2_b, u2_c, v2_o]
        exact ⟨m1, Or.inr ⟨ma, mb⟩, m3, m4, pb_m m5 hce (by omega), by omega, by omega, by omega⟩
      · exact fr_V (fr_F (fr_v (fr_v (fr_f (fr_f Fr (by omega)) (by omega)) (by omega)) (by omega)) (by omega)) (by omega) 0 rfl (fun z => absurd rfl z)
    · -- it may not be declared again
      have v4 := r1.2.2.2.1 r hr0 (by omega)
      have X4 : g_X4_takeDeclared_68 n 65 (qz r) (cs f d a ni j) = some (qz 5, cs f d a ni j) := by
        have h102 : g_X4_takeDeclared_102 n 65 (qz r) (qz 0) (cs f d a ni j) = some (qz 5, cs f d a ni j) := by
          unfold g_X4_takeDeclared_102
          simp only [qz_lit, qz_neg]
          rw [if_neg (by rw [qz_inj (by omega) (by omega) (by omega) (by omega)]; omega), if_pos trivial]
        unfold g_X4_takeDeclared_68 g_X4_takeDeclared_101
        simp only [qz_lit, qz_neg]
        rw [h102, gf_cs, gpc_65_1, l2, c_isVar hb (by omega) (by omega) (by omega) (by omega) hva, bd_some, gpc_65_3, c_isAct (by omega) (by omega) hac, bd_some]
        rcases m2 with ⟨ma, mb⟩ | ⟨ma, mb⟩
        · rw [mb, if_pos rfl]
        · rw [mb, if_neg n10]
          by_cases cv : a (b + 7) r = 1
          · rw [qp_T (by omega), if_neg n10, qp_T (by omega), if_neg n10]
          · rw [qp_F (by omega), if_pos rfl]
      have Y4 : g_X11_declared_59 n 0 (qz r) (ms F A J) = some (qz 5, ms F A J) := by
        have h5 : ∀ x y : Int, (x = 0 ∨ x = 1) → (y = 0 ∨ y = 1) → x = 1 ∨ y = 1 → g_X11_declared_125 n 0 (qz r) (qz x) (qz y) (ms F A J) = some (qz 5, ms F A J) := by
          intro x y hx hy hxy
          unfold g_X11_declared_125
          simp only [qz_lit]
          rcases hx with rfl | rfl
          · rw [if_pos rfl, show y = 1 by omega, if_neg n10]
          · rw [if_neg n10]
        unfold g_X11_declared_59 g_X11_declared_85 g_X11_declared_86 g_X11_declared_124
        simp only [qz_lit]
        have nr : ¬(qz r < qz 0) := by rw [qz_lt (by omega) (by omega) (by omega) (by omega)]; omega
        simp only [nr, if_false]
        simp (disch := first | assumption | omega) only [gp_0, gp_5, gp_6, gp_7, gp_8, gp_9, gp_10, gp_11, gp_12, gp_13, gp_14, gp_15, gp_16, gp_17, gp_18, gp_19, gp_20, gp_21, gp_22, gp_23, gp_24, gp_25, gp_26, gp_27, gp_28, gp_38, gp_39, gp_40, gp_41, gp_42, gp_44, gp_45, gp_47, gp_49, gp_51, gp_52, gp_56, gp_57, gp_58, gp_60, gp_61, gp_62, gp_63, gp_64, gp_65, gp_66, gp_68, gp_69, gp_70, gp_72, gp_73, gp_74, gp_75, gp_76, gp_77, gp_78, gp_79, gp_81, gp_83, gp_84, gf_ms, l7, ga_5, ga_26, bd_some, qz_mul, qz_add]
        rcases m2 with ⟨ma, mb⟩ | ⟨ma, mb⟩
        · simp only [ma, h5 1 1 (by omega) (by omega) (by omega), h5 0 1 (by omega) (by omega) (by omega), if_true, ite_self]
        · have n32 : ¬(qz 3 = qz 2) := by decide
          rw [← hsv.2.2.1, h5 0 1 (by omega) (by omega) (by omega), ma, if_neg (c := qz 3 = qz 2) n32, if_neg (c := qz 3 = qz 2) n32, h5 1 0 (by omega) (by omega) (by omega)]
          by_cases cv : a (b + 7) r = 1
          · rw [cv, if_neg n10, if_neg (by rw [qz_lt (by omega) (by omega) (by omega) (by omega)]; omega)]
          · rw [show a (b + 7) r = 0 by omega, if_pos rfl]
            by_cases z : qz (A 26 r) < qz 0
            · rw [if_pos z]
            · rw [if_neg z]
              exact h5 1 1 (by omega) (by omega) (by omega)
      exact out_fault (by omega) (by omega) (X1.trans (X2.trans X4)) (Y1.trans (Y2.trans Y4)) t1 t3 Fr rwa (by omega) (by omega)
  · -- a statement's name
    rw [es] at e2 Y2
    rw [el] at e3
    have X2' : g_X4_takeDeclared_19 n 65 (qz w) (cs f d a ni j) = if (0 : Int) = 0 ∧ S = 300 then some (qz 7, cs f d a ni j) else g_X4_takeDeclared_68 n 65 (qz r) (cs f d a ni j) := by
      rw [X2, X3 0 (Or.inl rfl)]
      rw [if_neg (by rw [qz_inj (by omega) (by omega) (by omega) (by omega)]; omega), if_pos (by rw [qz_le (by omega) (by omega) (by omega) (by omega)]; omega)]
    rw [if_neg (by decide)] at Y2
    by_cases cS : S = 300
    · rw [if_pos ⟨rfl, cS⟩] at X2' Y2
      exact out_fault (by omega) (by omega) (X1.trans X2') (Y1.trans Y2) t1 t3 Fr rwa (by omega) (by omega)
    rw [if_neg (fun z => cS z.2)] at X2' Y2
    have X4 : g_X4_takeDeclared_68 n 65 (qz r) (cs f d a ni j) = some (qz 5, cs f d a ni j) := by
      have h102 : g_X4_takeDeclared_102 n 65 (qz r) (qz 0) (cs f d a ni j) = some (qz 5, cs f d a ni j) := by
        unfold g_X4_takeDeclared_102
        simp only [qz_lit, qz_neg]
        rw [if_neg (by rw [qz_inj (by omega) (by omega) (by omega) (by omega)]; omega), if_pos trivial]
      unfold g_X4_takeDeclared_68 g_X4_takeDeclared_101
      simp only [qz_lit, qz_neg]
      rw [h102, gf_cs, gpc_65_1, l2, c_isVar hb (by omega) (by omega) (by omega) (by omega) hva, bd_some, qp_F (by omega), if_pos rfl, ite_self]
    have Y4 : g_X11_declared_59 n 0 (qz (-1)) (ms F A J) = some (qz 5, ms F A J) := by
      unfold g_X11_declared_59 g_X11_declared_85 g_X11_declared_86 g_X11_declared_124 g_X11_declared_125
      simp only [qz_lit]
      rw [if_pos (c := qz (-1) < qz 0) (by decide), if_pos (c := qz (-1) < qz 0) (by decide), if_pos (c := qz (-1) < qz 0) (by decide), ite_self, if_pos trivial, if_pos trivial, e3, bd_some, if_neg (by rw [qz_lt (by omega) (by omega) (by omega) (by omega)]; omega)]
    exact out_fault (by omega) (by omega) (X1.trans (X2'.trans X4)) (Y1.trans (Y2.trans Y4)) t1 t3 Fr rwa (by omega) (by omega)
end SDD
