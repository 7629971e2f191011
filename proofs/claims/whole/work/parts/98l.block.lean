/-! Blocks open and close: both -/
/-- A2 differs from A at most at the statement that comes next, or in what no book holds -/
def agB (q K : Int) (A A2 : Nat → Int → Int) : Prop := (∀ i, i < 26 → ¬(7 ≤ i ∧ i ≤ 14) → A2 i = A i) ∧ ∀ i, 7 ≤ i → i ≤ 14 → ∀ k, 0 ≤ k → k < K → A2 i (200 * q + k) = A i (200 * q + k)
theorem agK_B {q K : Int} {A A2 : Nat → Int → Int} (h : agK q K A A2) : agB q K A A2 := ⟨fun i _ h2 => h.1 i h2, h.2⟩
theorem agB_u {q K : Int} {A A2 : Nat → Int → Int} {i : Nat} {g : Int → Int} (h : agB q K A A2) (hi : 26 ≤ i) : agB q K A (u1 A2 i g) := by
  refine ⟨fun y y1 y2 => ?_, fun y y1 y2 k k1 k2 => ?_⟩
  · rw [u1_o (by omega)]; exact h.1 y y1 y2
  · rw [u1_o (by omega)]; exact h.2 y y1 y2 k k1 k2
section BLK
variable {b n : Nat} {q S K P len c b0 e0 w : Int} {f0 : Nat → Nat → Int} {a0 : Nat → Int → Int} {ni0 : Nat → Nat} {j0 : Nat → Int → Int64} {F0 : Nat → Int} {A0 : Nat → Int → Int} {J0 : Nat → Int → Int64} {f : Nat → Nat → Int} {d : Nat → Nat} {a : Nat → Int → Int} {ni : Nat → Nat} {j : Nat → Int → Int64} {F : Nat → Int} {A : Nat → Int → Int} {J : Nat → Int → Int64}
theorem bk_o {f2 : Nat → Nat → Int} {a2 : Nat → Int → Int} {ni2 : Nat → Nat} {A2 : Nat → Int → Int} (G : BK b q S K P len f a ni j A J) (hf : ∀ i, b ≤ i → i < b + 32 → f2 i = f i) (ha : ∀ i, b ≤ i → i < b + 32 → i ≠ b + 10 → a2 i = a i) (hn2 : ∀ i, b ≤ i → i < b + 32 → ni2 i = ni i) (hun : Gun q K (a2 (b + 10)) (a (b + 8)) (J 19)) (h : agB q K A A2) : BK b q S K P len f2 a2 ni2 j A2 J := by
  obtain ⟨h1, h2⟩ := h
  have G' := G
  obtain ⟨⟨b1, b2, b3, b4, b5, b6, b7, b8, b9⟩, gn, glb, gk, gf, gt, ghy, gma, gun, gpo, gpr, gfm, gax, grw⟩ := G'
  refine bk_c G ⟨hf b (by omega) (by omega), fun r hr => ha _ (by omega) (by omega) (by omega), fun r hr => ⟨ha _ (by omega) (by omega) (by omega), fun i _ _ => by rw [ha _ (by omega) (by omega) (by omega)]⟩, rfl, by rw [h1 6 (by omega) (by omega)], by rw [h1 15 (by omega) (by omega)], fun i i1 i2 x _ _ => by rw [h1 i (by omega) (by omega)], h2, fun s _ _ => by rw [h1 16 (by omega) (by omega)], fun i i1 i2 s _ _ => by rw [h1 i (by omega) (by omega)], fun _ _ _ _ _ _ _ _ _ => Iff.rfl⟩ hun (by rw [h1 25 (by omega) (by omega)]; exact b5) (by rw [h1 21 (by omega) (by omega), h1 22 (by omega) (by omega), h1 23 (by omega) (by omega), h1 24 (by omega) (by omega)]; exact gpo) (fun k _ _ x y => by rw [h1 21 (by omega) (by omega), h1 22 (by omega) (by omega), h1 23 (by omega) (by omega), h1 24 (by omega) (by omega)]) ?_
  unfold Grw at *
  rw [hf (b + 11) (by omega) (by omega), hf (b + 14) (by omega) (by omega), hf (b + 17) (by omega) (by omega), hf (b + 20) (by omega) (by omega), hf (b + 23) (by omega) (by omega), hf (b + 26) (by omega) (by omega), hn2 (b + 11 + 1) (by omega) (by omega), hn2 (b + 14 + 1) (by omega) (by omega), hn2 (b + 17 + 1) (by omega) (by omega), hn2 (b + 20 + 1) (by omega) (by omega), hn2 (b + 23 + 1) (by omega) (by omega), hn2 (b + 26 + 1) (by omega) (by omega), ha (b + 11 + 2) (by omega) (by omega) (by omega), ha (b + 14 + 2) (by omega) (by omega) (by omega), ha (b + 17 + 2) (by omega) (by omega) (by omega), ha (b + 20 + 2) (by omega) (by omega) (by omega), ha (b + 23 + 2) (by omega) (by omega) (by omega), ha (b + 26 + 2) (by omega) (by omega) (by omega)]
  exact grw
/-- the cursor moves on, and only what no row list holds has changed -/
theorem rc_m {f2 : Nat → Nat → Int} {a2 : Nat → Int → Int} {F2 : Nat → Int} (C : Rc b K c f a F) (hc : c ≤ e0) (hf : ∀ i, b ≤ i → i < b + 32 → f2 i = f i) (ha : ∀ i, b ≤ i → i < b + 32 → i ≠ b + 10 → a2 i = a i) (h36 : F2 36 = F 36) (h37 : F2 37 = F 37) : Rc b K e0 f2 a2 F2 := by
  obtain ⟨k1, k2, k3, k4, k5, k6, k7, k8, k9, k10⟩ := C
  unfold Rc
  rw [hf (b + 11) (by omega) (by omega), hf (b + 14) (by omega) (by omega), hf (b + 17) (by omega) (by omega), hf (b + 20) (by omega) (by omega), hf (b + 23) (by omega) (by omega), hf (b + 26) (by omega) (by omega), ha (b + 20 + 2) (by omega) (by omega) (by omega), ha (b + 23 + 2) (by omega) (by omega) (by omega), ha (b + 26 + 2) (by omega) (by omega) (by omega), h36, h37]
  exact ⟨k1, k2, k3, k4, k5, k6, by omega, k8, k9, k10⟩
theorem s_open (hn : 100000 ≤ n) (G : BK b q S K P len f a ni j A J) (L : Rl b q len c f d a F A) (R : Rs b q S K P f a F A) (C : Rc b K c f a F) (Fr : FR b q f0 a0 ni0 j0 F0 A0 J0 f a ni j F A J) (Ti : TI b len c b0 e0 w f a F A) (hw : w = 123) (m1 : f 65 4 = 0) (m2 : F 34 = 0) (m3 : F 36 = a (b + 11 + 2) K) (m4 : F 37 = a (b + 14 + 2) K) (m5 : PB P (F 43) (f 66 0) 0 c) : OUT b n q len b0 e0 f0 a0 ni0 j0 F0 A0 J0 d (g_X4_takeOutside n 65 (qz w) (cs f d a ni j)) (g_X11_outside n 0 (ms F A J)) := by
  have G' := G
  obtain ⟨⟨b1, b2, b3, b4, b5, b6, b7, b8, b9⟩, gn, glb, gk, gf, gt, ghy, gma, gun, gpo, gpr, gfm, gax, grw⟩ := G'
  have L' := L
  obtain ⟨l1, l2, l3, l4, l5, l6, l7, l8, l9, l10, l11, l12, l13⟩ := L'
  have hb := bq_b l1
  have hq := bq_q l1
  have C' := C
  obtain ⟨k1, k2, k3, k4, k5, k6, k7, k8, k9, k10⟩ := C'
  have T' := Ti
  obtain ⟨t1, t2, t3, t4, t5, t6, t7, t8, t9, t10, t11, t12, t13⟩ := T'
  have hK : 0 ≤ K ∧ K ≤ 200 := ⟨gn.2.2.1, gn.2.2.2.1⟩
  have hS : 0 ≤ S ∧ S ≤ 300 := ⟨gn.1, gn.2.1⟩
  have hD : 0 ≤ f 66 0 ∧ f 66 0 ≤ 16 := ⟨R.1.1, R.1.2.1⟩
  have rwa := grw_rwa grw
  have hsc : scd f d a (b + 2) len := ⟨l3, tx_b hb, l4, b7, b8, b9⟩
  have htc : tkc f b0 e0 len := ⟨t1, t2, t6, t7, t8⟩
  have hce : c ≤ e0 := by omega
  have hbb : b = 1 ∨ b = 33 := hb
  have htok : tok (u1 F 35 0) b0 e0 := ti_tok Ti b8 (u1_o (by decide)) (u1_o (by decide))
  have h2 := wrd_two t13 (by omega) (by omega)
  have X0 : g_X4_takeOutside n 65 (qz w) (cs f d a ni j) = if f 66 0 = 16 then some (qz 7, cs f d a ni j) else some (qz 0, cs (u2 f 66 0 (f 66 0 + 1)) d (v2 (v2 a 67 (f 66 0) (f 66 4)) 68 (f 66 0) (f 66 9)) ni j) := by
    unfold g_X4_takeOutside g_X4_takeOutside_0
    simp only [qz_lit]
    rw [hw, if_neg (by decide), if_neg (by decide), if_neg (by decide), if_pos rfl, gpc_65_3]
    unfold g_X7_openBlock g_X7_openBlock_0
    simp only [qz_lit]
    by_cases cD : f 66 0 = 16
    · rw [if_pos cD, gf_cs, cD, if_pos rfl, bd_some]
      exact if_pos rfl
    · rw [if_neg cD]
      simp (disch := first | assumption | omega) only [qpT, qpF, qz_lit, qz_add, qz_mul, qz_neg, qz_sub, qz_inj, qz_lt, qz_le, qz_div, qp_0, qp_1, hp_bz_qp, hp_bz_0, hp_bz_1, if_neg, gf_cs, wf_cs, gpc_66_1, gpc_66_2, uac_67, uac_68, bd_some, cD, if_false, qz_1_0]
  have Y0 : g_X11_outside n 0 (ms F A J) = if f 66 0 + 1 ≤ 16 then some (qz 0, ms (u1 (u1 F 35 0) 33 (f 66 0 + 1)) A J) else some (qz 7, ms (u1 (u1 F 35 0) 33 (f 66 0 + 1)) A J) := by
    unfold g_X11_outside g_X11_outside_0
    simp only [qz_lit]
    rw [wf_ms, bd_some]
    rw [mW l9 l10 htok t8 t13 (by omega), bd_some, qp_F (by omega), if_pos rfl]
    rw [mW l9 l10 htok t8 t13 (by omega), bd_some, qp_F (by omega), if_pos rfl]
    rw [mW l9 l10 htok t8 t13 (by omega), bd_some, qp_F (by omega), if_pos rfl]
    rw [mW l9 l10 htok t8 t13 (by omega), bd_some, qp_T (by omega), if_neg n10]
    simp (disch := omega) only [wf_ms, bd_some, gf_ms, u1_o, u1_s, l8, qpT, qpF, qz_lit, qz_add, qz_mul, qz_neg, qz_sub, qz_inj, qz_lt, qz_le, qz_div, qp_0, qp_1, hp_bz_qp, hp_bz_0, hp_bz_1]
  by_cases cD : f 66 0 = 16
  · rw [if_pos cD] at X0
    rw [if_neg (by omega)] at Y0
    exact out_fault (by omega) (by omega) X0 Y0 t1 (by simp (disch := omega) only [u1_o]; exact t3) (fr_F (fr_F Fr (by omega)) (by omega)) rwa (by omega) (by omega)
  rw [if_neg cD] at X0
  rw [if_pos (by omega)] at Y0
  have hf : ∀ i, b ≤ i → i < b + 32 → u2 f 66 0 (f 66 0 + 1) i = f i := fun i i1 i2 => u2_b (by omega)
  have ha : ∀ i, b ≤ i → i < b + 32 → i ≠ b + 10 → v2 (v2 a 67 (f 66 0) (f 66 4)) 68 (f 66 0) (f 66 9) i = a i := fun i i1 i2 _ => by rw [v2_o (by omega), v2_o (by omega)]
  have R' := R
  obtain ⟨r1, r2, r3, r4, r5, r6, r7⟩ := R'
  refine out_good X0 Y0 (by simp (disch := omega) only [u2_b]; omega) (by simp (disch := omega) only [u2_b]; omega) ⟨bk_o G hf ha (fun _ _ _ => rfl) (by rw [v2_o (by omega), v2_o (by omega)]; exact gun) (agK_B agK_0), ?_, ?_, rc_m C hce hf ha (by simp (disch := omega) only [u1_o]) (by simp (disch := omega) only [u1_o]), ?_, ?_⟩ (by simp (disch := omega) only [u2_b]; exact t2) (by simp (disch := omega) only [u1_o]; exact t5)
  · unfold Rl
    simp (disch := omega) only [u1_o, u1_s, u2_a, u2_b, v2_o]
    exact ⟨l1, l2, l3, l4, l5, l6, l7, trivial, l9, l10, by omega, t8, Or.inr t12⟩
  · unfold Rs
    simp (disch := omega) only [u1_o, u1_s, u2_a, u2_c, v2_o, v2_s]
    exact ⟨gv_open r1 (by omega), gh1_open r2 (by omega), r3, r4, r5, r6, gp_open r7⟩
  · refine Or.inl ?_
    simp (disch := omega) only [u1_o, u1_s, u2_a, u2_b, v2_o]
    refine ⟨m1, m2, m3, m4, ?_⟩
    unfold PB at *
    omega
  · exact fr_F (fr_F (fr_v (fr_v (fr_f Fr (by omega)) (by omega)) (by omega)) (by omega)) (by omega)
end BLK
