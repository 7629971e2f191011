/-! Ends of statements: the token -/
section SEN
variable {b n : Nat} {q S K P len c b0 e0 w : Int} {f0 : Nat → Nat → Int} {a0 : Nat → Int → Int} {ni0 : Nat → Nat} {j0 : Nat → Int → Int64} {F0 : Nat → Int} {A0 : Nat → Int → Int} {J0 : Nat → Int → Int64} {f : Nat → Nat → Int} {d : Nat → Nat} {a : Nat → Int → Int} {ni : Nat → Nat} {j : Nat → Int → Int64} {F : Nat → Int} {A : Nat → Int → Int} {J : Nat → Int → Int64}
theorem c197e {x v : Int32} {f2 : Nat → Nat → Int} {a2 : Nat → Int → Int} {ni2 : Nat → Nat} {j2 : Nat → Int → Int64} (h : f 65 4 = 6) (he : g_X4_endStatement n 65 (cs f d a ni j) = some (cs f2 d a2 ni2 j2)) : g_X4_readBook_197 n 65 x v (cs f d a ni j) = some (.inl (x, v + (1 : Int32), cs f2 d a2 ni2 j2)) := by
  unfold g_X4_readBook_197 g_X4_readBook_210
  rw [gf_cs, h, if_pos (show qz 6 = (6 : Int32) from rfl), he, bd_some]
theorem out_end {S2 K2 P2 : Int} {X Y : Option (Int32 × st_T)} {f2 : Nat → Nat → Int} {a2 : Nat → Int → Int} {ni2 : Nat → Nat} {j2 : Nat → Int → Int64} (hX : X = some (qz 0, cs f d a ni j)) (h6 : f 65 4 = 6) (he : g_X4_endStatement n 65 (cs f d a ni j) = some (cs f2 d a2 ni2 j2)) (hY : Y = some (qz 0, ms F A J)) (R : RD b q S2 K2 P2 len e0 f0 a0 ni0 j0 F0 A0 J0 f2 d a2 ni2 j2 F A J) (h1 : f2 77 1 = e0) (h2 : F 31 = e0) : OUT b n q len b0 e0 f0 a0 ni0 j0 F0 A0 J0 d X Y :=
  ⟨0, S2, K2, P2, f2, a2, ni2, j2, F, A, J, fun v => by rw [hX, bd_some]; exact c197e h6 he, hY, by omega, by omega, fun _ => ⟨R, h1, h2⟩, fun h => absurd rfl h⟩
/-- the end of a statement, from the token that ends it -/
theorem s_fin (hn : 100000 ≤ n) (G : BK b q S K P len f a ni j A J) (L : Rl b q len c f d a F A) (R : Rs b q S K P f a F A) (C : Rc b K c f a F) (Fr : FR b q f0 a0 ni0 j0 F0 A0 J0 f a ni j F A J) (Ti : TI b len c b0 e0 w f a F A) (m5 : PB P (F 43) (f 66 0) 0 c) (m6 : Lb q S K len (a (b + 2)) (a (b + 5)) (a (b + 6)) (A 8) (A 9) (f 65 7) (f 65 8)) (x7 : A 7 (200 * q + K) = f 65 6) (x6a : 0 ≤ f 65 6) (x6b : f 65 6 ≤ 3) (x10 : A 10 (200 * q + K) = f 66 0) (x11 : A 11 (200 * q + K) = a (b + 11 + 2) K) (x12 : 1 ≤ A 12 (200 * q + K)) (x12b : A 12 (200 * q + K) ≤ 60) (x12c : f 65 6 = 0 → A 12 (200 * q + K) = 2) (m3 : F 36 = a (b + 11 + 2) K + A 12 (200 * q + K)) (x13 : A 13 (200 * q + K) = a (b + 14 + 2) K) (x14 : 0 ≤ A 14 (200 * q + K)) (x14b : A 14 (200 * q + K) ≤ 400) (x14c : f 65 6 ≠ 3 → A 14 (200 * q + K) = 0) (m4 : F 37 = a (b + 14 + 2) K + A 14 (200 * q + K)) (m9 : Fm q S K (f 65 6) (A 12 (200 * q + K)) (a (b + 11 + 2) K) (a (b + 11 + 1)) (a (b + 7)) (A 26) (A 27) (A 16)) (m10 : ∀ i, 0 ≤ i → i < A 14 (200 * q + K) → Gt2 q len K (a (b + 2)) (a (b + 14 + 1)) (a (b + 17 + 1)) (a (b + 5)) (a (b + 6)) (A 17) (A 18) (a (b + 14 + 2) K) i) {X Y : Option (Int32 × st_T)} {f1 : Nat → Nat → Int} (hf1 : ∀ i, i ≠ 65 → f1 i = f i) (h4 : f1 65 4 = 6) (h6 : f1 65 6 = f 65 6) (h7 : f1 65 7 = f 65 7) (h8 : f1 65 8 = f 65 8) (hX : X = some (qz 0, cs f1 d a ni j)) (hY : Y = (g_X11_endStatement n 0 (ms F A J)).bind fun x => some (qz 0, x)) (hFr : FR b q f0 a0 ni0 j0 F0 A0 J0 f1 a ni j F A J) : OUT b n q len b0 e0 f0 a0 ni0 j0 F0 A0 J0 d X Y := by
  have hbb : b = 1 ∨ b = 33 := bq_b L.1
  have hf : ∀ i, b ≤ i → i < b + 32 → f1 i = f i := fun i i1 i2 => hf1 i (by omega)
  have G1 := bk_k (f2 := f1) G hf agK_0
  have R1 := rs_k (f2 := f1) (F2 := F) R G (hf1 66 (by decide)) rfl agK_0
  have L1 : Rl b q len c f1 d a F A := by
    unfold Rl at *
    rw [hf1 66 (by decide), hf1 77 (by decide)]; exact L
  have C1 : Rc b K c f1 a F := by
    unfold Rc at *
    rw [hf (b + 11) (by omega) (by omega), hf (b + 14) (by omega) (by omega), hf (b + 17) (by omega) (by omega), hf (b + 20) (by omega) (by omega), hf (b + 23) (by omega) (by omega), hf (b + 26) (by omega) (by omega)]; exact C
  have T1 : TI b len c b0 e0 w f1 a F A := by
    unfold TI at *
    rw [hf1 77 (by decide)]; exact Ti
  have ex : ∃ (f2 : Nat → Nat → Int) (a2 : Nat → Int → Int) (ni2 : Nat → Nat) (j2 : Nat → Int → Int64) (F2 : Nat → Int) (A2 : Nat → Int → Int) (J2 : Nat → Int → Int64), g_X4_endStatement n 65 (cs f1 d a ni j) = some (cs f2 d a2 ni2 j2) ∧ g_X11_endStatement n 0 (ms F A J) = some (ms F2 A2 J2) ∧ RD b q S (K + 1) P len e0 f0 a0 ni0 j0 F0 A0 J0 f2 d a2 ni2 j2 F2 A2 J2 ∧ f2 77 = f1 77 ∧ f2 65 4 = 0 ∧ F2 31 = F 31 := by
    rw [← hf1 66 (by decide)] at m5 x10
    rw [← h7, ← h8] at m6
    rw [← h6] at x7 x6a x6b x12c x14c m9
    by_cases z : f1 65 6 < 2
    · exact s_endh hn G1 L1 R1 C1 hFr T1 m5 m6 x7 x6a x6b x10 x11 x12 x12b x12c m3 x13 x14 x14b x14c m4 m9 m10 z
    · exact s_enda hn G1 L1 R1 C1 hFr T1 m5 m6 x7 x6a x6b x10 x11 x12 x12b x12c m3 x13 x14 x14b x14c m4 m9 m10 (by omega)
  obtain ⟨f2, a2, ni2, j2, F2, A2, J2, E1, E2, RR, c1, c2, c3⟩ := ex
  rw [E2, bd_some] at hY
  exact out_end hX h4 E1 hY RR (by rw [c1, hf1 77 (by decide)]; exact Ti.2.1) (by rw [c3]; exact Ti.2.2.2.2.1)
theorem s_stend (hn : 100000 ≤ n) (G : BK b q S K P len f a ni j A J) (L : Rl b q len c f d a F A) (R : Rs b q S K P f a F A) (C : Rc b K c f a F) (Fr : FR b q f0 a0 ni0 j0 F0 A0 J0 f a ni j F A J) (Ti : TI b len c b0 e0 w f a F A) (hw0 : w ≠ 0) (hw1 : w ≠ -1) (m1 : f 65 4 = 4) (m5 : PB P (F 43) (f 66 0) 0 c) (m6 : Lb q S K len (a (b + 2)) (a (b + 5)) (a (b + 6)) (A 8) (A 9) (f 65 7) (f 65 8)) (x7 : A 7 (200 * q + K) = f 65 6) (x10 : A 10 (200 * q + K) = f 66 0) (x11 : A 11 (200 * q + K) = a (b + 11 + 2) K) (x12 : A 12 (200 * q + K) = f 65 9) (x13 : A 13 (200 * q + K) = a (b + 14 + 2) K) (x14 : A 14 (200 * q + K) = 0) (m7 : 0 ≤ f 65 9) (m8 : (f 65 6 = 0 ∧ F 34 = 5 ∧ f 65 9 ≤ 2) ∨ (1 ≤ f 65 6 ∧ f 65 6 ≤ 3 ∧ F 34 = 6 ∧ f 65 9 ≤ 60)) (m3 : F 36 = a (b + 11 + 2) K + f 65 9) (m4 : F 37 = a (b + 14 + 2) K) (m9 : Fm q S K (f 65 6) (f 65 9) (a (b + 11 + 2) K) (a (b + 11 + 1)) (a (b + 7)) (A 26) (A 27) (A 16)) : OUT b n q len b0 e0 f0 a0 ni0 j0 F0 A0 J0 d (g_X4_takeEnd n 65 (qz w) (cs f d a ni j)) (if F 34 = 5 then g_X11_typed n 0 (ms F A J) else g_X11_formula n 0 (ms F A J)) := by
  have G' := G
  obtain ⟨⟨b1, b2, b3, b4, b5, b6, b7, b8, b9⟩, gn, glb, gk, gf, gt, ghy, gma, gun, gpo, gpr, gfm, gax, grw⟩ := G'
  have L' := L
  obtain ⟨l1, l2, l3, l4, l5, l6, l7, l8, l9, l10, l11, l12, l13⟩ := L'
  have hb := bq_b l1
  have hq := bq_q l1
  have C' := C
  obtain ⟨k1, k2, k3, k4, k5, k6, k7, k8, k9, k10⟩ := C'
  have T' := Ti
  obtain ⟨t1, t2, t3, t4, t5, t6, t7, t8, t9, t10, t11, t12, t13⟩ := T'
  have hK : 0 ≤ K ∧ K ≤ 200 := ⟨gn.2.2.1, gn.2.2.2.1⟩
  have hS : 0 ≤ S ∧ S ≤ 300 := ⟨gn.1, gn.2.1⟩
  have hD : 0 ≤ f 66 0 ∧ f 66 0 ≤ 16 := ⟨R.1.1, R.1.2.1⟩
  have rwa := grw_rwa grw
  have hsc : scd f d a (b + 2) len := ⟨l3, tx_b hb, l4, b7, b8, b9⟩
  have htc : tkc f b0 e0 len := ⟨t1, t2, t6, t7, t8⟩
  have hce : c ≤ e0 := by omega
  have hbb : b = 1 ∨ b = 33 := hb
  have htok : tok F b0 e0 := ti_tok Ti b8 rfl rfl
  have hwr : -1 ≤ w ∧ w < 128 := wrd_rng t13 b9 t6 t7 (by omega)
  have hK2 : K < 200 := m6.1
  -- the class
  have X0 : g_X4_takeEnd n 65 (qz w) (cs f d a ni j) = if w = (if f 65 6 = 3 then 61 else 46) ∧ (if f 65 6 = 0 then 2 else 1) ≤ f 65 9 then some (qz 0, cs (u2 (u2 f 65 4 (if f 65 6 = 3 then 5 else 6)) 65 9 0) d a ni j) else some (qz 3, cs f d a ni j) := by
    have k28 : ∀ v2' s0 : Int, 0 ≤ v2' → v2' ≤ 2 → 0 ≤ s0 → s0 < 128 → g_X4_takeEnd_28 n 65 (qz w) (qz v2') (qz s0) (cs f d a ni j) = if w = s0 ∧ v2' ≤ f 65 9 then some (qz 0, cs (u2 (u2 f 65 4 (if f 65 6 = 3 then 5 else 6)) 65 9 0) d a ni j) else some (qz 3, cs f d a ni j) := by
      intro v2' s0 y1 y2 y3 y4
      unfold g_X4_takeEnd_28 g_X4_takeEnd_59
      simp only [qz_lit]
      rw [gf_cs, gf_cs, c_begin, bd_some, c_begin, bd_some]
      by_cases z1 : w = s0
      · rw [if_pos (by rw [z1])]
        by_cases z2 : v2' ≤ f 65 9
        · rw [if_pos (by rw [qz_le (by omega) (by omega) (by omega) (by omega)]; exact z2), if_pos (c := w = s0 ∧ v2' ≤ f 65 9) ⟨z1, z2⟩]
          by_cases z3 : f 65 6 = 3
          · rw [z3, if_pos rfl, if_pos rfl]
          · rw [if_neg (by rw [qz_inj (by omega) (by omega) (by omega) (by omega)]; exact z3), if_neg z3]
        · rw [if_neg (by rw [qz_le (by omega) (by omega) (by omega) (by omega)]; exact z2), if_neg (fun y => z2 y.2)]
      · rw [if_neg (by rw [qz_inj (by omega) (by omega) (by omega) (by omega)]; exact z1), if_neg (fun y => z1 y.1)]
    have k12 : ∀ s0 : Int, 0 ≤ s0 → s0 ≤ 2 → g_X4_takeEnd_12 n 65 (qz w) (qz s0) (cs f d a ni j) = g_X4_takeEnd_28 n 65 (qz w) (qz s0) (qz (if f 65 6 = 3 then 61 else 46)) (cs f d a ni j) := by
      intro s0 y1 y2
      unfold g_X4_takeEnd_12
      simp only [qz_lit]
      rw [gf_cs]
      by_cases z3 : f 65 6 = 3
      · rw [z3, if_pos rfl, if_pos rfl]
      · rw [if_neg (by rw [qz_inj (by omega) (by omega) (by omega) (by omega)]; exact z3), if_neg z3]
    unfold g_X4_takeEnd g_X4_takeEnd_0
    simp only [qz_lit]
    rw [gf_cs]
    by_cases z0 : f 65 6 = 0
    · rw [z0, if_pos rfl, k12 2 (by omega) (by omega), k28 2 _ (by omega) (by omega) (by rw [z0]; decide) (by rw [z0]; decide), z0, if_pos rfl]
    · rw [if_neg (by rw [qz_inj (by omega) (by omega) (by omega) (by omega)]; exact z0), k12 1 (by omega) (by omega), k28 1 _ (by omega) (by omega) (by by_cases z3 : f 65 6 = 3 <;> simp [z3]) (by by_cases z3 : f 65 6 = 3 <;> simp [z3]), if_neg z0]
  have eD := mD (J := J) hn l9 l10 htok t8 t13
  rw [qp_T hw0] at eD
  have fault : ¬(w = (if f 65 6 = 3 then 61 else 46) ∧ (if f 65 6 = 0 then 2 else 1) ≤ f 65 9) → (if F 34 = 5 then g_X11_typed n 0 (ms F A J) else g_X11_formula n 0 (ms F A J)) = some (qz 3, ms F A J) := by
    intro hne
    by_cases z0 : f 65 6 = 0
    · rw [if_neg (by omega), if_pos z0] at hne
      rw [if_pos (by omega)]
      unfold g_X11_typed g_X11_typed_0
      simp only [qz_lit]
      simp (disch := first | assumption | omega) only [qz_mul, qz_add, gf_ms, l7, gp_0, gp_5, gp_6, gp_7, gp_8, gp_9, gp_10, gp_11, gp_12, gp_13, gp_14, gp_15, gp_16, gp_17, gp_18, gp_19, gp_20, gp_21, gp_22, gp_23, gp_24, gp_25, gp_26, gp_27, gp_28, gp_38, gp_39, gp_40, gp_41, gp_42, gp_44, gp_45, gp_47, gp_49, gp_51, gp_52, gp_56, gp_57, gp_58, gp_60, gp_61, gp_62, gp_63, gp_64, gp_65, gp_66, gp_68, gp_69, gp_70, gp_72, gp_73, gp_74, gp_75, gp_76, gp_77, gp_78, gp_79, gp_81, gp_83, gp_84, ga_15, ga_12, b4, x12, bd_some]
      by_cases z2 : f 65 9 = 2
      · rw [z2, if_pos rfl]
        rw [mW l9 l10 htok t8 t13 (by omega), bd_some, qp_F (by omega), if_pos rfl]
      · rw [if_neg (by rw [qz_inj (by omega) (by omega) (by omega) (by omega)]; exact z2), eD, bd_some, if_neg n10]
    · rw [if_neg z0] at hne
      rw [if_neg (by omega)]
      have e77 : g_X11_formula_77 n 0 (qz (200 * q + K)) (ms F A J) = some (qz 3, ms F A J) := by
        unfold g_X11_formula_77
        simp only [qz_lit]
        rw [eD, bd_some, if_neg n10]
      unfold g_X11_formula g_X11_formula_0 g_X11_formula_37
      simp only [qz_lit]
      simp (disch := first | assumption | omega) only [qz_mul, qz_add, gf_ms, l7, gp_0, gp_5, gp_6, gp_7, gp_8, gp_9, gp_10, gp_11, gp_12, gp_13, gp_14, gp_15, gp_16, gp_17, gp_18, gp_19, gp_20, gp_21, gp_22, gp_23, gp_24, gp_25, gp_26, gp_27, gp_28, gp_38, gp_39, gp_40, gp_41, gp_42, gp_44, gp_45, gp_47, gp_49, gp_51, gp_52, gp_56, gp_57, gp_58, gp_60, gp_61, gp_62, gp_63, gp_64, gp_65, gp_66, gp_68, gp_69, gp_70, gp_72, gp_73, gp_74, gp_75, gp_76, gp_77, gp_78, gp_79, gp_81, gp_83, gp_84, ga_15, ga_7, ga_12, b4, x7, x12, bd_some]
      rw [e77]
      by_cases z3 : f 65 6 = 3
      · rw [if_pos z3] at hne
        rw [z3, if_pos rfl]
        by_cases z4 : w = 61
        · rw [mW l9 l10 htok t8 t13 (by omega), bd_some, qp_T (by omega), if_neg n10]
          rw [if_pos (by rw [qz_le (by omega) (by omega) (by omega) (by omega)]; omega)]
        · rw [mW l9 l10 htok t8 t13 (by omega), bd_some, qp_F (by omega), if_pos rfl]
      · rw [if_neg z3] at hne
        rw [if_neg (by rw [qz_inj (by omega) (by omega) (by omega) (by omega)]; exact z3)]
        by_cases z4 : w = 46
        · rw [mW l9 l10 htok t8 t13 (by omega), bd_some, qp_T (by omega), if_neg n10]
          rw [if_pos (by rw [qz_le (by omega) (by omega) (by omega) (by omega)]; omega)]
        · rw [mW l9 l10 htok t8 t13 (by omega), bd_some, qp_F (by omega), if_pos rfl]
  by_cases ok : ¬(w = (if f 65 6 = 3 then 61 else 46) ∧ (if f 65 6 = 0 then 2 else 1) ≤ f 65 9)
  · rw [if_neg ok] at X0
    exact out_fault (z := 3) (by omega) (by omega) X0 (fault ok) t1 t3 Fr rwa (by omega) (by omega)
  have ok := Classical.not_not.mp ok
  rw [if_pos ok] at X0
  by_cases z3 : f 65 6 = 3
  · rw [if_pos z3, if_neg (by omega)] at ok
    rw [if_pos z3] at X0
    have Y0 : (if F 34 = 5 then g_X11_typed n 0 (ms F A J) else g_X11_formula n 0 (ms F A J)) = some (qz 0, ms (u1 F 34 7) A J) := by
      rw [if_neg (by omega)]
      unfold g_X11_formula g_X11_formula_0 g_X11_formula_37
      simp only [qz_lit]
      simp (disch := first | assumption | omega) only [qz_mul, qz_add, gf_ms, l7, gp_0, gp_5, gp_6, gp_7, gp_8, gp_9, gp_10, gp_11, gp_12, gp_13, gp_14, gp_15, gp_16, gp_17, gp_18, gp_19, gp_20, gp_21, gp_22, gp_23, gp_24, gp_25, gp_26, gp_27, gp_28, gp_38, gp_39, gp_40, gp_41, gp_42, gp_44, gp_45, gp_47, gp_49, gp_51, gp_52, gp_56, gp_57, gp_58, gp_60, gp_61, gp_62, gp_63, gp_64, gp_65, gp_66, gp_68, gp_69, gp_70, gp_72, gp_73, gp_74, gp_75, gp_76, gp_77, gp_78, gp_79, gp_81, gp_83, gp_84, ga_15, ga_7, ga_12, b4, x7, x12, bd_some]
      rw [z3, if_pos rfl]
      rw [mW l9 l10 htok t8 t13 (by omega), bd_some, qp_T (by omega), if_neg n10]
      rw [if_neg (by rw [qz_le (by omega) (by omega) (by omega) (by omega)]; omega), if_pos rfl, wf_ms, bd_some]
    refine out_good X0 Y0 (by simp (disch := omega) only [u2_a, u2_c]; omega) (by simp (disch := omega) only [u2_a, u2_c]; omega) (rd65 hn G L R C Fr Ti (fun i hi => by rw [u2_b hi, u2_b hi]) (fun k k1 k2 => by rw [u1_o k1]) agK_0 ?_ (fr_F (fr_f (fr_f Fr (by omega)) (by omega)) (by omega))) (by simp (disch := omega) only [u2_b]; exact t2) (by simp (disch := omega) only [u1_o]; exact t5)
    refine Or.inr (Or.inr (Or.inr (Or.inr (Or.inr ?_))))
    simp (disch := omega) only [u2_a, u2_b, u2_c, u1_s, u1_o]
    rw [z3] at m9
    exact ⟨trivial, trivial, pb_m m5 hce (by omega), m6, x7, z3, x10, x11, x13, x14, by omega, by omega, by omega, by omega, by omega, by omega, by rw [x12]; exact m9, by first | exact trivial | exact (fun z => by omega), fun i i1 i2 => by omega⟩
  · rw [if_neg z3] at ok X0
    have Y0 : (if F 34 = 5 then g_X11_typed n 0 (ms F A J) else g_X11_formula n 0 (ms F A J)) = (g_X11_endStatement n 0 (ms F A J)).bind fun x => some (qz 0, x) := by
      by_cases z0 : f 65 6 = 0
      · rw [if_pos z0] at ok
        rw [if_pos (by omega)]
        unfold g_X11_typed g_X11_typed_0
        simp only [qz_lit]
        simp (disch := first | assumption | omega) only [qz_mul, qz_add, gf_ms, l7, gp_0, gp_5, gp_6, gp_7, gp_8, gp_9, gp_10, gp_11, gp_12, gp_13, gp_14, gp_15, gp_16, gp_17, gp_18, gp_19, gp_20, gp_21, gp_22, gp_23, gp_24, gp_25, gp_26, gp_27, gp_28, gp_38, gp_39, gp_40, gp_41, gp_42, gp_44, gp_45, gp_47, gp_49, gp_51, gp_52, gp_56, gp_57, gp_58, gp_60, gp_61, gp_62, gp_63, gp_64, gp_65, gp_66, gp_68, gp_69, gp_70, gp_72, gp_73, gp_74, gp_75, gp_76, gp_77, gp_78, gp_79, gp_81, gp_83, gp_84, ga_15, ga_12, b4, x12, bd_some]
        rw [show f 65 9 = 2 by omega, if_pos rfl]
        rw [mW l9 l10 htok t8 t13 (by omega), bd_some, qp_T (by omega), if_neg n10]
      · rw [if_neg z0] at ok
        rw [if_neg (by omega)]
        unfold g_X11_formula g_X11_formula_0 g_X11_formula_37
        simp only [qz_lit]
        simp (disch := first | assumption | omega) only [qz_mul, qz_add, gf_ms, l7, gp_0, gp_5, gp_6, gp_7, gp_8, gp_9, gp_10, gp_11, gp_12, gp_13, gp_14, gp_15, gp_16, gp_17, gp_18, gp_19, gp_20, gp_21, gp_22, gp_23, gp_24, gp_25, gp_26, gp_27, gp_28, gp_38, gp_39, gp_40, gp_41, gp_42, gp_44, gp_45, gp_47, gp_49, gp_51, gp_52, gp_56, gp_57, gp_58, gp_60, gp_61, gp_62, gp_63, gp_64, gp_65, gp_66, gp_68, gp_69, gp_70, gp_72, gp_73, gp_74, gp_75, gp_76, gp_77, gp_78, gp_79, gp_81, gp_83, gp_84, ga_15, ga_7, ga_12, b4, x7, x12, bd_some]
        rw [if_neg (by rw [qz_inj (by omega) (by omega) (by omega) (by omega)]; exact z3)]
        rw [mW l9 l10 htok t8 t13 (by omega), bd_some, qp_T (by omega), if_neg n10]
        rw [if_neg (by rw [qz_le (by omega) (by omega) (by omega) (by omega)]; omega), if_neg (by rw [qz_inj (by omega) (by omega) (by omega) (by omega)]; exact z3)]
    have n1 : 1 ≤ f 65 9 := by
      have h := ok.2
      by_cases z0 : f 65 6 = 0
      · rw [if_pos z0] at h; omega
      · rw [if_neg z0] at h; exact h
    have n2 : f 65 6 = 0 → f 65 9 = 2 := by
      intro z0
      have h := ok.2
      rw [if_pos z0] at h; omega
    exact s_fin hn G L R C Fr Ti m5 m6 x7 (by omega) (by omega) x10 x11 (by omega) (by omega) (fun z => by have := n2 z; omega) (by omega) x13 (by omega) (by omega) (fun _ => x14) (by omega) (by rw [x12]; exact m9) (fun i i1 i2 => by omega) (f1 := u2 (u2 f 65 4 6) 65 9 0) (fun i hi => by rw [u2_b hi, u2_b hi]) (by rw [u2_c (by decide), u2_a]) (by simp (disch := omega) only [u2_c]) (by simp (disch := omega) only [u2_c]) (by simp (disch := omega) only [u2_c]) X0 Y0 (fr_f (fr_f Fr (by omega)) (by omega))
theorem s_pend (hn : 100000 ≤ n) (G : BK b q S K P len f a ni j A J) (L : Rl b q len c f d a F A) (R : Rs b q S K P f a F A) (C : Rc b K c f a F) (Fr : FR b q f0 a0 ni0 j0 F0 A0 J0 f a ni j F A J) (Ti : TI b len c b0 e0 w f a F A) (hw0 : w ≠ 0) (hw1 : w ≠ -1) (m1 : f 65 4 = 5) (m2 : F 34 = 7) (m5 : PB P (F 43) (f 66 0) 0 c) (m6 : Lb q S K len (a (b + 2)) (a (b + 5)) (a (b + 6)) (A 8) (A 9) (f 65 7) (f 65 8)) (x7 : A 7 (200 * q + K) = f 65 6) (x6 : f 65 6 = 3) (x10 : A 10 (200 * q + K) = f 66 0) (x11 : A 11 (200 * q + K) = a (b + 11 + 2) K) (x13 : A 13 (200 * q + K) = a (b + 14 + 2) K) (x14 : A 14 (200 * q + K) = f 65 9) (m7 : 0 ≤ f 65 9) (m8 : f 65 9 ≤ 400) (x12 : 1 ≤ A 12 (200 * q + K)) (x12' : A 12 (200 * q + K) ≤ 60) (m3 : F 36 = a (b + 11 + 2) K + A 12 (200 * q + K)) (m4 : F 37 = a (b + 14 + 2) K + f 65 9) (m9 : Fm q S K 3 (A 12 (200 * q + K)) (a (b + 11 + 2) K) (a (b + 11 + 1)) (a (b + 7)) (A 26) (A 27) (A 16)) (m10 : (0 < f 65 9 → a (b + 14 + 1) (a (b + 14 + 2) K + (f 65 9 - 1)) + A 18 (4096 * q + (a (b + 14 + 2) K + (f 65 9 - 1))) ≤ c) ∧ ∀ i, 0 ≤ i → i < f 65 9 → Gt2 q len K (a (b + 2)) (a (b + 14 + 1)) (a (b + 17 + 1)) (a (b + 5)) (a (b + 6)) (A 17) (A 18) (a (b + 14 + 2) K) i) : OUT b n q len b0 e0 f0 a0 ni0 j0 F0 A0 J0 d (g_X4_takeProofToken n 65 (qz w) (cs f d a ni j)) (g_X11_proof n 0 (ms F A J)) := by
  have G' := G
  obtain ⟨⟨b1, b2, b3, b4, b5, b6, b7, b8, b9⟩, gn, glb, gk, gf, gt, ghy, gma, gun, gpo, gpr, gfm, gax, grw⟩ := G'
  have L' := L
  obtain ⟨l1, l2, l3, l4, l5, l6, l7, l8, l9, l10, l11, l12, l13⟩ := L'
  have hb := bq_b l1
  have hq := bq_q l1
  have C' := C
  obtain ⟨k1, k2, k3, k4, k5, k6, k7, k8, k9, k10⟩ := C'
  have T' := Ti
  obtain ⟨t1, t2, t3, t4, t5, t6, t7, t8, t9, t10, t11, t12, t13⟩ := T'
  have hK : 0 ≤ K ∧ K ≤ 200 := ⟨gn.2.2.1, gn.2.2.2.1⟩
  have hS : 0 ≤ S ∧ S ≤ 300 := ⟨gn.1, gn.2.1⟩
  have hD : 0 ≤ f 66 0 ∧ f 66 0 ≤ 16 := ⟨R.1.1, R.1.2.1⟩
  have rwa := grw_rwa grw
  have hsc : scd f d a (b + 2) len := ⟨l3, tx_b hb, l4, b7, b8, b9⟩
  have htc : tkc f b0 e0 len := ⟨t1, t2, t6, t7, t8⟩
  have hce : c ≤ e0 := by omega
  have hbb : b = 1 ∨ b = 33 := hb
  have htok : tok F b0 e0 := ti_tok Ti b8 rfl rfl
  have hwr : -1 ≤ w ∧ w < 128 := wrd_rng t13 b9 t6 t7 (by omega)
  have hK2 : K < 200 := m6.1
  by_cases cw : w = 46
  · have X0 : g_X4_takeProofToken n 65 (qz w) (cs f d a ni j) = some (qz 0, cs (u2 (u2 f 65 4 6) 65 9 0) d a ni j) := by
      unfold g_X4_takeProofToken g_X4_takeProofToken_0
      simp only [qz_lit]
      rw [cw, if_pos rfl, c_begin, bd_some]
    have Y0 : g_X11_proof n 0 (ms F A J) = (g_X11_endStatement n 0 (ms F A J)).bind fun x => some (qz 0, x) := by
      unfold g_X11_proof g_X11_proof_0
      simp only [qz_lit]
      simp (disch := first | assumption | omega) only [gf_ms, l7, gp_0, gp_5, gp_6, gp_7, gp_8, gp_9, gp_10, gp_11, gp_12, gp_13, gp_14, gp_15, gp_16, gp_17, gp_18, gp_19, gp_20, gp_21, gp_22, gp_23, gp_24, gp_25, gp_26, gp_27, gp_28, gp_38, gp_39, gp_40, gp_41, gp_42, gp_44, gp_45, gp_47, gp_49, gp_51, gp_52, gp_56, gp_57, gp_58, gp_60, gp_61, gp_62, gp_63, gp_64, gp_65, gp_66, gp_68, gp_69, gp_70, gp_72, gp_73, gp_74, gp_75, gp_76, gp_77, gp_78, gp_79, gp_81, gp_83, gp_84, ga_15, b4, bd_some]
      rw [mW l9 l10 htok t8 t13 (by omega), bd_some, qp_T (by omega), if_neg n10]
    exact s_fin hn G L R C Fr Ti m5 m6 x7 (by omega) (by omega) x10 x11 x12 x12' (fun z => by omega) m3 x13 (by omega) (by omega) (fun z => absurd x6 z) (by omega) (by rw [x6]; exact m9) (fun i i1 i2 => m10.2 i i1 (by omega)) (f1 := u2 (u2 f 65 4 6) 65 9 0) (fun i hi => by rw [u2_b hi, u2_b hi]) (by rw [u2_c (by decide), u2_a]) (by simp (disch := omega) only [u2_c]) (by simp (disch := omega) only [u2_c]) (by simp (disch := omega) only [u2_c]) X0 Y0 (fr_f (fr_f Fr (by omega)) (by omega))
  · refine out_fault (z := 3) (by omega) (by omega) (f := f) (a := a) (ni := ni) (j := j) (F := F) (A := A) (J := J) ?_ ?_ t1 t3 Fr rwa (by omega) (by omega)
    · unfold g_X4_takeProofToken g_X4_takeProofToken_0
      simp only [qz_lit]
      rw [if_neg (by rw [qz_inj (by omega) (by omega) (by omega) (by omega)]; exact cw), if_neg (by rw [qz_inj (by omega) (by omega) (by omega) (by omega)]; exact hw0)]
    · unfold g_X11_proof g_X11_proof_0
      simp only [qz_lit]
      simp (disch := first | assumption | omega) only [gf_ms, l7, gp_0, gp_5, gp_6, gp_7, gp_8, gp_9, gp_10, gp_11, gp_12, gp_13, gp_14, gp_15, gp_16, gp_17, gp_18, gp_19, gp_20, gp_21, gp_22, gp_23, gp_24, gp_25, gp_26, gp_27, gp_28, gp_38, gp_39, gp_40, gp_41, gp_42, gp_44, gp_45, gp_47, gp_49, gp_51, gp_52, gp_56, gp_57, gp_58, gp_60, gp_61, gp_62, gp_63, gp_64, gp_65, gp_66, gp_68, gp_69, gp_70, gp_72, gp_73, gp_74, gp_75, gp_76, gp_77, gp_78, gp_79, gp_81, gp_83, gp_84, ga_15, b4, bd_some]
      rw [mW l9 l10 htok t8 t13 (by omega), bd_some, qp_F (by omega), if_pos rfl]
      rw [mD hn l9 l10 htok t8 t13, bd_some, qp_T hw0, if_neg n10]
end SEN
