/-! Symbols of statements: the token -/
section SSZ
variable {b n : Nat} {q S K P len c b0 e0 w : Int} {f0 : Nat → Nat → Int} {a0 : Nat → Int → Int} {ni0 : Nat → Nat} {j0 : Nat → Int → Int64} {F0 : Nat → Int} {A0 : Nat → Int → Int} {J0 : Nat → Int → Int64} {f : Nat → Nat → Int} {d : Nat → Nat} {a : Nat → Int → Int} {ni : Nat → Nat} {j : Nat → Int → Int64} {F : Nat → Int} {A : Nat → Int → Int} {J : Nat → Int → Int64}
set_option maxHeartbeats 8000000 in
theorem s_sym (hn : 100000 ≤ n) (G : BK b q S K P len f a ni j A J) (L : Rl b q len c f d a F A) (R : Rs b q S K P f a F A) (C : Rc b K c f a F) (Fr : FR b q f0 a0 ni0 j0 F0 A0 J0 f a ni j F A J) (Ti : TI b len c b0 e0 w f a F A) (hw : w = 0) (m1 : f 65 4 = 4) (m5 : PB P (F 43) (f 66 0) 0 c) (m6 : Lb q S K len (a (b + 2)) (a (b + 5)) (a (b + 6)) (A 8) (A 9) (f 65 7) (f 65 8)) (x7 : A 7 (200 * q + K) = f 65 6) (x10 : A 10 (200 * q + K) = f 66 0) (x11 : A 11 (200 * q + K) = a (b + 11 + 2) K) (x12 : A 12 (200 * q + K) = f 65 9) (x13 : A 13 (200 * q + K) = a (b + 14 + 2) K) (x14 : A 14 (200 * q + K) = 0) (m7 : 0 ≤ f 65 9) (m8 : (f 65 6 = 0 ∧ F 34 = 5 ∧ f 65 9 ≤ 2) ∨ (1 ≤ f 65 6 ∧ f 65 6 ≤ 3 ∧ F 34 = 6 ∧ f 65 9 ≤ 60)) (m3 : F 36 = a (b + 11 + 2) K + f 65 9) (m4 : F 37 = a (b + 14 + 2) K) (m9 : Fm q S K (f 65 6) (f 65 9) (a (b + 11 + 2) K) (a (b + 11 + 1)) (a (b + 7)) (A 26) (A 27) (A 16)) : OUT b n q len b0 e0 f0 a0 ni0 j0 F0 A0 J0 d (g_X4_takeSymbol n 65 (cs f d a ni j)) (if F 34 = 5 then g_X11_typed n 0 (ms F A J) else g_X11_formula n 0 (ms F A J)) := by
  have G' := G
  obtain ⟨⟨b1, b2, b3, b4, b5, b6, b7, b8, b9⟩, gn, glb, gk, gf, gt, ghy, gma, gun, gpo, gpr, gfm, gax, grw⟩ := G'
  have L' := L
  obtain ⟨l1, l2, l3, l4, l5, l6, l7, l8, l9, l10, l11, l12, l13⟩ := L'
  have hb := bq_b l1
  have hq := bq_q l1
  have C' := C
  obtain ⟨k1, k2, k3, k4, k5, k6, k7, k8, k9, k10⟩ := C'
  have T' := Ti
  obtain ⟨t1, t2, t3, t4, t5, t6, t7, t8, t9, t10, t11, t12, t13⟩ := T'
  have hK : 0 ≤ K ∧ K ≤ 200 := ⟨gn.2.2.1, gn.2.2.2.1⟩
  have hS : 0 ≤ S ∧ S ≤ 300 := ⟨gn.1, gn.2.1⟩
  have hD : 0 ≤ f 66 0 ∧ f 66 0 ≤ 16 := ⟨R.1.1, R.1.2.1⟩
  have rwa := grw_rwa grw
  have hsc : scd f d a (b + 2) len := ⟨l3, tx_b hb, l4, b7, b8, b9⟩
  have htc : tkc f b0 e0 len := ⟨t1, t2, t6, t7, t8⟩
  have hce : c ≤ e0 := by omega
  have hbb : b = 1 ∨ b = 33 := hb
  have htok : tok F b0 e0 := ti_tok Ti b8 rfl rfl
  have R' := R
  obtain ⟨r1, r2, r3, r4, r5, r6, r7⟩ := R'
  have hK2 : K < 200 := m6.1
  have hva : ∀ k, 0 ≤ k → k < S → a (b + 7) k = 0 ∨ a (b + 7) k = 1 := fun k x1 x2 => (gn.2.2.2.2.2.2.2.1 k x1 x2).2.2.2
  have hac : ∀ k, 0 ≤ k → k < 300 → a 70 k = 0 ∨ a 70 k = 1 := fun k x1 x2 => (r1.2.2.2.1 k x1 x2).1
  have hfl : ∀ k, 0 ≤ k → k < 300 → a 71 k = 0 ∨ a 71 k = 1 := fun k x1 x2 => (r4.1 k x1 x2).1
  have w7 : f (b + 11) 3 = K := grw.2.2.2.2.2.2.1
  have m11 := rw_mono grw.1
  rw [w7] at m11
  have hst : 0 ≤ a (b + 11 + 2) K := by
    have := m11.2 0 K (by omega) hK.1 (by omega)
    have := m11.1
    omega
  have m14 := rw_mono grw.2.1
  have hst2 : 0 ≤ a (b + 14 + 2) K := by
    have w8 : f (b + 14) 3 = K := grw.2.2.2.2.2.2.2.1
    rw [w8] at m14
    have := m14.2 0 K (by omega) hK.1 (by omega)
    have := m14.1
    omega
  have hp : F 36 < 4096 := by omega
  by_cases c2 : f 65 6 = 0 ∧ f 65 9 = 2
  · refine out_fault (z := 3) (by omega) (by omega) (f := f) (a := a) (ni := ni) (j := j) (F := F) (A := A) (J := J) ?_ ?_ t1 t3 Fr rwa (by omega) (by omega)
    · unfold g_X4_takeSymbol g_X4_takeSymbol_0
      simp only [qz_lit]
      rw [gf_cs, gf_cs, c2.1, c2.2, if_pos rfl, if_pos rfl]
    · rw [if_pos (by omega)]
      unfold g_X11_typed g_X11_typed_0
      simp (disch := first | assumption | omega) only [qpT, qpF, qz_lit, qz_add, qz_mul, qz_neg, qz_sub, qz_inj, qz_lt, qz_le, qz_div, qp_0, qp_1, hp_bz_qp, hp_bz_0, hp_bz_1, gf_ms, l7, gp_0, gp_5, gp_6, gp_7, gp_8, gp_9, gp_10, gp_11, gp_12, gp_13, gp_14, gp_15, gp_16, gp_17, gp_18, gp_19, gp_20, gp_21, gp_22, gp_23, gp_24, gp_25, gp_26, gp_27, gp_28, gp_38, gp_39, gp_40, gp_41, gp_42, gp_44, gp_45, gp_47, gp_49, gp_51, gp_52, gp_56, gp_57, gp_58, gp_60, gp_61, gp_62, gp_63, gp_64, gp_65, gp_66, gp_68, gp_69, gp_70, gp_72, gp_73, gp_74, gp_75, gp_76, gp_77, gp_78, gp_79, gp_81, gp_83, gp_84, ga_15, ga_12, b4, x12, bd_some, c2.2, if_true]
      rw [mW l9 l10 htok t8 t13 (by omega), bd_some, qp_F (by omega), if_pos rfl]
  have X1 : g_X4_takeSymbol n 65 (cs f d a ni j) = g_X4_takeSymbol_17 n 65 (cs f d a ni j) := by
    unfold g_X4_takeSymbol g_X4_takeSymbol_0
    simp only [qz_lit]
    rw [gf_cs, gf_cs]
    by_cases z : f 65 6 = 0
    · rw [z, if_pos rfl, if_neg (by rw [qz_inj (by omega) (by omega) (by omega) (by omega)]; exact fun y => c2 ⟨z, y⟩)]
    · rw [if_neg (by rw [qz_inj (by omega) (by omega) (by omega) (by omega)]; exact z)]
  by_cases c60 : f 65 9 = 60
  · refine out_fault (z := 7) (by omega) (by omega) (f := f) (a := a) (ni := ni) (j := j) (F := F) (A := A) (J := J) ?_ ?_ t1 t3 Fr rwa (by omega) (by omega)
    · rw [X1]
      unfold g_X4_takeSymbol_17
      simp only [qz_lit]
      rw [gf_cs, c60, if_pos rfl]
    · rw [if_neg (by omega)]
      have e77 : g_X11_formula_77 n 0 (qz (200 * q + K)) (ms F A J) = some (qz 7, ms F A J) := by
        unfold g_X11_formula_77
        simp only [qz_lit]
        rw [mD hn l9 l10 htok t8 t13, bd_some, qp_F (fun z => z hw), if_pos rfl]
        simp (disch := first | assumption | omega) only [gp_0, gp_5, gp_6, gp_7, gp_8, gp_9, gp_10, gp_11, gp_12, gp_13, gp_14, gp_15, gp_16, gp_17, gp_18, gp_19, gp_20, gp_21, gp_22, gp_23, gp_24, gp_25, gp_26, gp_27, gp_28, gp_38, gp_39, gp_40, gp_41, gp_42, gp_44, gp_45, gp_47, gp_49, gp_51, gp_52, gp_56, gp_57, gp_58, gp_60, gp_61, gp_62, gp_63, gp_64, gp_65, gp_66, gp_68, gp_69, gp_70, gp_72, gp_73, gp_74, gp_75, gp_76, gp_77, gp_78, gp_79, gp_81, gp_83, gp_84, ga_12, x12, bd_some, c60, if_true]
      unfold g_X11_formula g_X11_formula_0 g_X11_formula_37
      simp (disch := first | assumption | omega) only [qpT, qpF, qz_lit, qz_add, qz_mul, qz_neg, qz_sub, qz_inj, qz_lt, qz_le, qz_div, qp_0, qp_1, hp_bz_qp, hp_bz_0, hp_bz_1, gf_ms, l7, gp_0, gp_5, gp_6, gp_7, gp_8, gp_9, gp_10, gp_11, gp_12, gp_13, gp_14, gp_15, gp_16, gp_17, gp_18, gp_19, gp_20, gp_21, gp_22, gp_23, gp_24, gp_25, gp_26, gp_27, gp_28, gp_38, gp_39, gp_40, gp_41, gp_42, gp_44, gp_45, gp_47, gp_49, gp_51, gp_52, gp_56, gp_57, gp_58, gp_60, gp_61, gp_62, gp_63, gp_64, gp_65, gp_66, gp_68, gp_69, gp_70, gp_72, gp_73, gp_74, gp_75, gp_76, gp_77, gp_78, gp_79, gp_81, gp_83, gp_84, ga_15, ga_7, b4, x7, bd_some]
      by_cases z : f 65 6 = 3
      · rw [if_pos z]
        rw [mW l9 l10 htok t8 t13 (by omega), bd_some, qp_F (by omega), if_pos rfl]
        exact e77
      · rw [if_neg z]
        rw [mW l9 l10 htok t8 t13 (by omega), bd_some, qp_F (by omega), if_pos rfl]
        exact e77
  obtain ⟨r, sy, lb, e1, e2, e3, hr⟩ := look3 (f := f) (d := d) (ni := ni) (j := j) (J := J) (n := n) hn hb hq gn l9 b9 l10 htok t8 l7 b2 b4
  have hrr : -1 ≤ r ∧ r < 500 := by omega
  have hsy : (0 ≤ r ∧ r < S ∧ sy = r) ∨ (¬(0 ≤ r ∧ r < S) ∧ sy = -1) := by omega
  have est := c_mayStand (f := f) (d := d) (a := a) (ni := ni) (j := j) (n := n) (r := r) (S := S) hb l2 b1 hS.1 hS.2 hva hac hfl hrr (by omega) (by omega)
  have ecs := m_isCon (n := n) (F := F) (A := A) (J := J) (sy := sy) hq l7 (by omega) (fun z => by
    have := gn.2.2.2.2.2.2.2.1 r (by omega) (by omega)
    have e : sy = r := by omega
    rw [e]; omega)
  have X2 : g_X4_takeSymbol n 65 (cs f d a ni j) = if qp (gsy S (f 65 6) (f 65 9) (a (b + 7)) (a 70) (a 71) r) = qz 0 then some (qz 6, cs f d a ni j) else (g_X5_add n (b + 11) (qz r) (cs f d a ni j)).bind fun x5 => g_X4_takeSymbol_56 n 65 x5 := by
    rw [X1]
    unfold g_X4_takeSymbol_17
    simp only [qz_lit]
    rw [gf_cs, if_neg (by rw [qz_inj (by omega) (by omega) (by omega) (by omega)]; exact c60), c_named hb l2 t1 t2, e1, bd_some, est, bd_some, gpc_65_1, l2, gpb_9 hb]
  have hgs : gsy S (f 65 6) (f 65 9) (a (b + 7)) (a 70) (a 71) r → 0 ≤ r ∧ r < S ∧ sy = r := by
    intro z
    have : 0 ≤ r ∧ r < S := by
      rcases z with z | z | z
      · exact ⟨z.2.1, z.2.2.1⟩
      · have v := r1.2.2.2.1 r z.2.2.1.1 z.2.2.1.2.1
        exact ⟨z.2.2.1.1, (v.2.2.2.2 (v.2.1.mp z.2.2.1.2.2)).1⟩
      · rcases z.2.2 with z | z
        · exact ⟨z.1, z.2.1⟩
        · have t := r4.1 r z.1 z.2.1
          have t2 := t.2.2.2 (t.2.1.mp z.2.2)
          have v := r1.2.2.2.1 r z.1 z.2.1
          exact ⟨z.1, (v.2.2.2.2 t2.2.2.2.2.1).1⟩
    omega
  have Y2 := m_sym hn G L R C Fr Ti hw m1 m5 m6 x7 x10 x11 x12 x13 x14 m7 m8 m3 m4 m9 hK2 c2 c60 e2 hrr hsy ecs hgs
  by_cases gs : ¬gsy S (f 65 6) (f 65 9) (a (b + 7)) (a 70) (a 71) r
  · rw [qp_F gs, if_pos rfl] at X2 Y2
    exact out_fault (z := 6) (by omega) (by omega) X2 Y2 t1 t3 Fr rwa (by omega) (by omega)
  have gs := Classical.not_not.mp gs
  rw [qp_T gs, if_neg n10] at X2 Y2
  obtain ⟨hr0, hr1, _⟩ := hgs gs
  obtain ⟨g, N, ea, ga, gb, gc⟩ := c_add (f := f) (d := d) (a := a) (ni := ni) (j := j) (n := n) (x := r) (rws_b11 hb) grw.1 (by omega)
  rw [k1] at ea ga gb gc
  have X3 : g_X4_takeSymbol n 65 (cs f d a ni j) = some (qz 0, cs (u2 (u2 f (b + 11) 2 (F 36 + 1)) 65 9 (f 65 9 + 1)) d (u1 a (b + 11 + 1) g) (u1 ni (b + 11 + 1) N) j) := by
    rw [X2, ea, bd_some]
    unfold g_X4_takeSymbol_56
    simp (disch := omega) only [qz_lit, gf_cs, wf_cs, u2_b, bd_some, qz_add]
  have Y3 : (if F 34 = 5 then g_X11_typed n 0 (ms F A J) else g_X11_formula n 0 (ms F A J)) = some (qz 0, ms (u1 F 36 (F 36 + 1)) (v2 (v2 A 16 (4096 * q + F 36) r) 12 (200 * q + K) (f 65 9 + 1)) J) := by
    rw [Y2, m_takeSym hq l7 b4 ⟨hK.1, hK2⟩ rfl (by omega) x12, bd_some]
  have hit : ∀ i, i < F 36 → u1 a (b + 11 + 1) g (b + 11 + 1) i = a (b + 11 + 1) i := fun i x => by rw [u1_s]; exact ga i x
  have ag : AG b q S K f a j A J (u2 (u2 f (b + 11) 2 (F 36 + 1)) 65 9 (f 65 9 + 1)) (u1 a (b + 11 + 1) g) j (v2 (v2 A 16 (4096 * q + F 36) r) 12 (200 * q + K) (f 65 9 + 1)) J := by
    refine ⟨by simp (disch := omega) only [u2_b], fun r hr => by simp (disch := omega) only [u1_o], fun r hr => ⟨by simp (disch := omega) only [u1_o], fun i i1 i2 => ?_⟩, rfl, by simp (disch := omega) only [v2_o], by simp (disch := omega) only [v2_o], fun i i1 i2 x _ _ => by simp (disch := omega) only [v2_o], fun i i1 i2 k y1 y2 => ?_, fun s s1 s2 => ?_, fun i i1 i2 s _ _ => by simp (disch := omega) only [v2_o], fun _ _ _ _ _ _ _ _ _ => Iff.rfl⟩
    · by_cases z : r = 11
      · subst z; exact hit i (by omega)
      · rw [u1_o (by omega)]
    · by_cases z : i = 12
      · subst z
        rw [v2_s, v1_o (by omega), v2_o (by decide)]
      · simp (disch := omega) only [v2_o]
    · rw [v2_o (by decide), v2_s, v1_o (by omega)]
  have hrw : Grw b K (u2 (u2 f (b + 11) 2 (F 36 + 1)) 65 9 (f 65 9 + 1)) (u1 a (b + 11 + 1) g) (u1 ni (b + 11 + 1) N) := by
    unfold Grw at *
    simp (disch := omega) only [u2_b, u2_c, u2_a, u1_o, u1_s]
    exact ⟨gc, grw.2⟩
  refine out_good X3 Y3 (by simp (disch := omega) only [u2_b, u2_c]; omega) (by simp (disch := omega) only [u2_b, u2_c]; omega) ⟨bk_c (P2 := P) G ag (by simp (disch := omega) only [u1_o]; exact gun) (by simp (disch := omega) only [v2_o]; exact b5) (by simp (disch := omega) only [v2_o]; exact gpo) (fun k _ _ x y => by simp (disch := omega) only [v2_o]) hrw, ?_, rs_c R G (by simp (disch := omega) only [u2_b]) (fun i i1 i2 => by simp (disch := omega) only [u1_o]) (fun r x1 x2 => by simp (disch := omega) only [u1_o]) (by simp (disch := omega) only [u1_o]) (fun i i1 i2 => hit i (by omega)) (by simp (disch := omega) only [u1_o]) (fun i i1 i2 i3 => by simp (disch := omega) only [v2_o]) (fun k y1 y2 => by rw [v2_s, v1_o (by omega), v2_o (by decide)]), ?_, ?_, ?_⟩ (by simp (disch := omega) only [u2_b]; exact t2) (by simp (disch := omega) only [u1_o]; exact t5)
  · unfold Rl
    simp (disch := omega) only [u1_o, u2_b, v2_o]
    exact ⟨l1, l2, l3, l4, l5, l6, l7, l8, l9, l10, by omega, t8, Or.inr t12⟩
  · unfold Rc
    simp (disch := omega) only [u1_o, u1_s, u2_a, u2_b, u2_c]
    exact ⟨trivial, k2, k3, k4, k5, k6, by omega, k8, k9, k10⟩
  · refine Or.inr (Or.inr (Or.inr (Or.inr (Or.inl ?_))))
    simp (disch := omega) only [u1_o, u1_s, u2_a, u2_b, u2_c, v2_o, v2_s, v1_s]
    obtain ⟨f1, f2, f3, f4⟩ := m9
    have hgr : g (a (b + 11 + 2) K + f 65 9) = r := by rw [← m3]; exact gb
    refine ⟨m1, pb_m m5 hce (by omega), m6, x7, x10, x11, trivial, x13, x14, by omega, by omega, by omega, m4, fun i i1 i2 => ?_, fun z => ?_, fun z1 z2 => ?_, fun z1 i i1 i2 z2 => ?_⟩
    · by_cases z : i = f 65 9
      · rw [z, hgr, v1_e (by omega)]
        exact ⟨rfl, hr0, hr1⟩
      · rw [ga _ (by omega), v1_o (by omega)]
        exact f1 i i1 (by omega)
    · by_cases z : f 65 9 = 0
      · have e : g (a (b + 11 + 2) K) = r := by rw [← hgr, z]; congr 1; omega
        rw [e]
        rcases gs with y | y | y
        · exact y.2.2.2
        · exact absurd z y.1
        · exact absurd z y.1
      · rw [ga _ (by omega)]
        exact f2 (by omega)
    · have z3 : f 65 9 = 1 := by omega
      have e : g (a (b + 11 + 2) K + 1) = r := by rw [← hgr, z3]
      rw [e]
      rcases gs with y | y | y
      · omega
      · have v := r1.2.2.2.1 r hr0 (by omega)
        have t := r4.1 r hr0 (by omega)
        have v2 := v.2.1.mp y.2.2.1.2.2
        refine ⟨(v.2.2.2.2 v2).2, v2, ?_⟩
        by_cases t2 : 0 ≤ A 27 r
        · exact absurd ⟨hr0, by omega, t.2.1.mpr t2⟩ y.2.2.2
        · omega
      · exact absurd z1 y.2.1
    · by_cases z : i = f 65 9
      · rw [z, hgr] at z2 ⊢
        rcases gs with y | y | y
        · have := y.2.2.2; omega
        · omega
        · rcases y.2.2 with y | y
          · have := y.2.2; omega
          · exact (r4.1 r hr0 (by omega)).2.1.mp y.2.2
      · rw [ga _ (by omega)] at z2 ⊢
        exact f4 z1 i i1 (by omega) z2
  · exact fr_V (fr_V (fr_F (fr_n (fr_a (fr_f (fr_f Fr (by omega)) (by omega)) (by omega)) (by omega)) (by omega)) (by omega) 4096 rfl (by omega)) (by omega) 200 rfl (by omega)
end SSZ
