/-! Tokens of proofs: both -/
section SPR
variable {b n : Nat} {q S K P len c b0 e0 w : Int} {f0 : Nat → Nat → Int} {a0 : Nat → Int → Int} {ni0 : Nat → Nat} {j0 : Nat → Int → Int64} {F0 : Nat → Int} {A0 : Nat → Int → Int} {J0 : Nat → Int → Int64} {f : Nat → Nat → Int} {d : Nat → Nat} {a : Nat → Int → Int} {ni : Nat → Nat} {j : Nat → Int → Int64} {F : Nat → Int} {A : Nat → Int → Int} {J : Nat → Int → Int64}
theorem tkn_ti (Ti : TI b len c b0 e0 w f a F A) (hx : txs (a (b + 2)) (A 1) len) (ht : txt (A 1) len) : tkn (a (b + 2)) len b0 (e0 - b0) := by
  obtain ⟨t1, t2, t3, t4, t5, t6, t7, t8, t9, t10, t11, t12, t13⟩ := Ti
  refine ⟨t6, by omega, by omega, fun x x1 x2 => ?_, fun z => ?_⟩
  · have h1 := hx x (by omega) (by omega)
    have h2 : ¬badc (A 1 x) := fun z => t10 ⟨x, x1, by omega, z⟩
    unfold badc at h2
    unfold sgn at h1
    omega
  · rw [show b0 + (e0 - b0) = e0 by omega] at z ⊢
    have h1 := hx e0 (by omega) z
    rcases t12 with y | y
    · omega
    · unfold blk at y
      unfold sgn at h1
      omega
set_option maxHeartbeats 4000000 in
theorem s_ptok (hn : 100000 ≤ n) (G : BK b q S K P len f a ni j A J) (L : Rl b q len c f d a F A) (R : Rs b q S K P f a F A) (C : Rc b K c f a F) (Fr : FR b q f0 a0 ni0 j0 F0 A0 J0 f a ni j F A J) (Ti : TI b len c b0 e0 w f a F A) (hw : w = 0) (m1 : f 65 4 = 5) (m2 : F 34 = 7) (m5 : PB P (F 43) (f 66 0) 0 c) (m6 : Lb q S K len (a (b + 2)) (a (b + 5)) (a (b + 6)) (A 8) (A 9) (f 65 7) (f 65 8)) (x7 : A 7 (200 * q + K) = f 65 6) (x6 : f 65 6 = 3) (x10 : A 10 (200 * q + K) = f 66 0) (x11 : A 11 (200 * q + K) = a (b + 11 + 2) K) (x13 : A 13 (200 * q + K) = a (b + 14 + 2) K) (x14 : A 14 (200 * q + K) = f 65 9) (m7 : 0 ≤ f 65 9) (m8 : f 65 9 ≤ 400) (x12 : 1 ≤ A 12 (200 * q + K)) (x12' : A 12 (200 * q + K) ≤ 60) (m3 : F 36 = a (b + 11 + 2) K + A 12 (200 * q + K)) (m4 : F 37 = a (b + 14 + 2) K + f 65 9) (m9 : Fm q S K 3 (A 12 (200 * q + K)) (a (b + 11 + 2) K) (a (b + 11 + 1)) (a (b + 7)) (A 26) (A 27) (A 16)) (m10 : (0 < f 65 9 → a (b + 14 + 1) (a (b + 14 + 2) K + (f 65 9 - 1)) + A 18 (4096 * q + (a (b + 14 + 2) K + (f 65 9 - 1))) ≤ c) ∧ ∀ i, 0 ≤ i → i < f 65 9 → Gt2 q len K (a (b + 2)) (a (b + 14 + 1)) (a (b + 17 + 1)) (a (b + 5)) (a (b + 6)) (A 17) (A 18) (a (b + 14 + 2) K) i) : OUT b n q len b0 e0 f0 a0 ni0 j0 F0 A0 J0 d (g_X4_takeProofToken n 65 (qz w) (cs f d a ni j)) (g_X11_proof n 0 (ms F A J)) := by
  have G' := G
  obtain ⟨⟨b1, b2, b3, b4, b5, b6, b7, b8, b9⟩, gn, glb, gk, gf, gt, ghy, gma, gun, gpo, gpr, gfm, gax, grw⟩ := G'
  have L' := L
  obtain ⟨l1, l2, l3, l4, l5, l6, l7, l8, l9, l10, l11, l12, l13⟩ := L'
  have hb := bq_b l1
  have hq := bq_q l1
  have C' := C
  obtain ⟨k1, k2, k3, k4, k5, k6, k7, k8, k9, k10⟩ := C'
  have T' := Ti
  obtain ⟨t1, t2, t3, t4, t5, t6, t7, t8, t9, t10, t11, t12, t13⟩ := T'
  have hK : 0 ≤ K ∧ K ≤ 200 := ⟨gn.2.2.1, gn.2.2.2.1⟩
  have hS : 0 ≤ S ∧ S ≤ 300 := ⟨gn.1, gn.2.1⟩
  have hD : 0 ≤ f 66 0 ∧ f 66 0 ≤ 16 := ⟨R.1.1, R.1.2.1⟩
  have rwa := grw_rwa grw
  have hsc : scd f d a (b + 2) len := ⟨l3, tx_b hb, l4, b7, b8, b9⟩
  have htc : tkc f b0 e0 len := ⟨t1, t2, t6, t7, t8⟩
  have hce : c ≤ e0 := by omega
  have hbb : b = 1 ∨ b = 33 := hb
  have htok : tok F b0 e0 := ti_tok Ti b8 rfl rfl
  have hK2 : K < 200 := m6.1
  have w7 : f (b + 11) 3 = K := grw.2.2.2.2.2.2.1
  have w8 : f (b + 14) 3 = K := grw.2.2.2.2.2.2.2.1
  have w9 : f (b + 17) 3 = K := grw.2.2.2.2.2.2.2.2.1
  have m11 := rw_mono grw.1
  rw [w7] at m11
  have m14 := rw_mono grw.2.1
  rw [w8] at m14
  have hst : 0 ≤ a (b + 11 + 2) K := by
    have := m11.2 0 K (by omega) hK.1 (by omega)
    have := m11.1
    omega
  have hst2 : 0 ≤ a (b + 14 + 2) K := by
    have := m14.2 0 K (by omega) hK.1 (by omega)
    have := m14.1
    omega
  have hst3 : a (b + 17 + 2) K ≤ F 37 := by
    have := grw.2.2.1.2.2.2.2.2.2.2.2.2.2.1
    rw [w9] at this
    omega
  by_cases c4 : f 65 9 = 400
  · refine out_fault (z := 7) (by omega) (by omega) (f := f) (a := a) (ni := ni) (j := j) (F := F) (A := A) (J := J) ?_ ?_ t1 t3 Fr rwa (by omega) (by omega)
    · unfold g_X4_takeProofToken g_X4_takeProofToken_0
      simp only [qz_lit]
      rw [hw, if_neg (by decide), if_pos rfl, gf_cs, c4, if_pos rfl]
    · unfold g_X11_proof g_X11_proof_0
      simp only [qz_lit]
      simp (disch := first | assumption | omega) only [qz_mul, qz_add, gf_ms, l7, gp_0, gp_5, gp_6, gp_7, gp_8, gp_9, gp_10, gp_11, gp_12, gp_13, gp_14, gp_15, gp_16, gp_17, gp_18, gp_19, gp_20, gp_21, gp_22, gp_23, gp_24, gp_25, gp_26, gp_27, gp_28, gp_38, gp_39, gp_40, gp_41, gp_42, gp_44, gp_45, gp_47, gp_49, gp_51, gp_52, gp_56, gp_57, gp_58, gp_60, gp_61, gp_62, gp_63, gp_64, gp_65, gp_66, gp_68, gp_69, gp_70, gp_72, gp_73, gp_74, gp_75, gp_76, gp_77, gp_78, gp_79, gp_81, gp_83, gp_84, ga_15, ga_14, b4, x14, bd_some]
      rw [mW l9 l10 htok t8 t13 (by omega), bd_some, qp_F (by omega), if_pos rfl]
      rw [mD hn l9 l10 htok t8 t13, bd_some, qp_F (fun z => z hw), if_pos rfl, c4, if_pos rfl]
  obtain ⟨r, sy, lb, e1, e2, e3, hr⟩ := look3 (f := f) (d := d) (ni := ni) (j := j) (J := J) (n := n) hn hb hq gn l9 b9 l10 htok t8 l7 b2 b4
  have hrr : -1 ≤ r ∧ r < 500 := by omega
  obtain ⟨nm, hnm, hnd⟩ : ∃ nm, nm = (if r < 300 then -1 else r - 300) ∧ nmd (a (b + 2)) (a (b + 5)) (a (b + 6)) K b0 (e0 - b0) nm := by
    refine ⟨_, rfl, ?_⟩
    rcases hr with ⟨z1, z2, z3, z4⟩ | ⟨z1, z2, z3, z4, z5, z6⟩ | ⟨z1, z2, z3, z4, z5, z6⟩
    · rw [if_pos (by omega)]
      exact Or.inl ⟨rfl, fun s s1 s2 => z4 _ (Or.inr ⟨by omega, by omega⟩)⟩
    · rw [if_pos (by omega)]
      refine Or.inl ⟨rfl, fun s s1 s2 hnme => ?_⟩
      have := gn.2.2.2.2.2.2.1 r (300 + s) (Or.inl ⟨z1, z2⟩) (Or.inr ⟨by omega, by omega⟩) (nme_tr z6 hnme)
      omega
    · rw [if_neg (by omega)]
      refine Or.inr ⟨by omega, by omega, ?_⟩
      rw [show 300 + (r - 300) = r by omega]
      exact z6
  obtain ⟨g1, N1, ea, ga, gb, gc⟩ := c_add (f := f) (d := d) (a := a) (ni := ni) (j := j) (n := n) (x := b0) (rws_b14 hb) grw.2.1 (by omega)
  rw [k2] at ea ga gb gc
  obtain ⟨g2, N2, ea2, ga2, gb2, gc2⟩ := c_add (f := u2 f (b + 14) 2 (F 37 + 1)) (d := d) (a := u1 a (b + 14 + 1) g1) (ni := u1 ni (b + 14 + 1) N1) (j := j) (n := n) (x := nm) (M := 4096) (rws_b17 hb) (by simp (disch := omega) only [u2_b, u1_o]; exact grw.2.2.1) (by simp (disch := omega) only [u2_b]; omega)
  simp (disch := omega) only [u2_b, u1_o] at ea2 ga2 gb2 gc2
  rw [k3] at ea2 ga2 gb2 gc2
  have X0 : g_X4_takeProofToken n 65 (qz w) (cs f d a ni j) = some (qz 0, cs (u2 (u2 (u2 f (b + 14) 2 (F 37 + 1)) (b + 17) 2 (F 37 + 1)) 65 9 (f 65 9 + 1)) d (u1 (u1 a (b + 14 + 1) g1) (b + 17 + 1) g2) (u1 (u1 ni (b + 14 + 1) N1) (b + 17 + 1) N2) j) := by
    unfold g_X4_takeProofToken g_X4_takeProofToken_0
    simp only [qz_lit]
    rw [hw, if_neg (by decide), if_pos rfl, gf_cs, if_neg (by rw [qz_inj (by omega) (by omega) (by omega) (by omega)]; exact c4), c_named hb l2 t1 t2, e1, bd_some, gpc_65_1, l2, gpb_10 hb, gpc_65_2, gf_cs, t1, ea, bd_some]
    have e54 : g_X4_takeProofToken_54 n 65 (qz r) (cs (u2 f (b + 14) 2 (F 37 + 1)) d (u1 a (b + 14 + 1) g1) (u1 ni (b + 14 + 1) N1) j) = g_X4_takeProofToken_77 n 65 (qz nm) (b + 17) (cs (u2 f (b + 14) 2 (F 37 + 1)) d (u1 a (b + 14 + 1) g1) (u1 ni (b + 14 + 1) N1) j) := by
      unfold g_X4_takeProofToken_54
      simp only [qz_lit, qz_neg]
      rw [gpc_65_1, l2, gpb_11 hb]
      by_cases z : r < 300
      · rw [if_pos (by rw [qz_lt (by omega) (by omega) (by omega) (by omega)]; exact z), hnm, if_pos z]
      · rw [if_neg (by rw [qz_lt (by omega) (by omega) (by omega) (by omega)]; exact z), hnm, if_neg z, qz_sub]
    rw [e54]
    unfold g_X4_takeProofToken_77 g_X4_takeProofToken_80
    rw [ea2, bd_some]
    simp (disch := omega) only [qz_lit, gf_cs, wf_cs, u2_b, bd_some, qz_add]
  have Y0 : g_X11_proof n 0 (ms F A J) = some (qz 0, ms (u1 F 37 (F 37 + 1)) (v2 (v2 (v2 A 17 (4096 * q + F 37) b0) 18 (4096 * q + F 37) (e0 - b0)) 14 (200 * q + K) (f 65 9 + 1)) J) := by
    unfold g_X11_proof g_X11_proof_0
    simp only [qz_lit]
    simp (disch := first | assumption | omega) only [qz_mul, qz_add, gf_ms, l7, gp_0, gp_5, gp_6, gp_7, gp_8, gp_9, gp_10, gp_11, gp_12, gp_13, gp_14, gp_15, gp_16, gp_17, gp_18, gp_19, gp_20, gp_21, gp_22, gp_23, gp_24, gp_25, gp_26, gp_27, gp_28, gp_38, gp_39, gp_40, gp_41, gp_42, gp_44, gp_45, gp_47, gp_49, gp_51, gp_52, gp_56, gp_57, gp_58, gp_60, gp_61, gp_62, gp_63, gp_64, gp_65, gp_66, gp_68, gp_69, gp_70, gp_72, gp_73, gp_74, gp_75, gp_76, gp_77, gp_78, gp_79, gp_81, gp_83, gp_84, ga_15, ga_14, b4, x14, bd_some]
    rw [mW l9 l10 htok t8 t13 (by omega), bd_some, qp_F (by omega), if_pos rfl]
    rw [mD hn l9 l10 htok t8 t13, bd_some, qp_F (fun z => z hw), if_pos rfl, if_neg (by rw [qz_inj (by omega) (by omega) (by omega) (by omega)]; exact c4), t3]
    simp (disch := first | assumption | omega) only [qpT, qpF, qz_lit, qz_add, qz_mul, qz_neg, qz_sub, qz_inj, qz_lt, qz_le, qz_div, qp_0, qp_1, hp_bz_qp, hp_bz_0, hp_bz_1, gf_ms, wf_ms, l7, t4, gp_0, gp_5, gp_6, gp_7, gp_8, gp_9, gp_10, gp_11, gp_12, gp_13, gp_14, gp_15, gp_16, gp_17, gp_18, gp_19, gp_20, gp_21, gp_22, gp_23, gp_24, gp_25, gp_26, gp_27, gp_28, gp_38, gp_39, gp_40, gp_41, gp_42, gp_44, gp_45, gp_47, gp_49, gp_51, gp_52, gp_56, gp_57, gp_58, gp_60, gp_61, gp_62, gp_63, gp_64, gp_65, gp_66, gp_68, gp_69, gp_70, gp_72, gp_73, gp_74, gp_75, gp_76, gp_77, gp_78, gp_79, gp_81, gp_83, gp_84, ga_14, ua_17, ua_18, ua_14, v2_o, x14, bd_some]
  have hit1 : ∀ i, i < F 37 → u1 (u1 a (b + 14 + 1) g1) (b + 17 + 1) g2 (b + 14 + 1) i = a (b + 14 + 1) i := fun i x => by rw [u1_o (by omega), u1_s]; exact ga i x
  have hit2 : ∀ i, i < F 37 → u1 (u1 a (b + 14 + 1) g1) (b + 17 + 1) g2 (b + 17 + 1) i = a (b + 17 + 1) i := fun i x => by rw [u1_s]; exact ga2 i x
  have ag : AG b q S K f a j A J (u2 (u2 (u2 f (b + 14) 2 (F 37 + 1)) (b + 17) 2 (F 37 + 1)) 65 9 (f 65 9 + 1)) (u1 (u1 a (b + 14 + 1) g1) (b + 17 + 1) g2) j (v2 (v2 (v2 A 17 (4096 * q + F 37) b0) 18 (4096 * q + F 37) (e0 - b0)) 14 (200 * q + K) (f 65 9 + 1)) J := by
    refine ⟨by simp (disch := omega) only [u2_b], fun r hr => by simp (disch := omega) only [u1_o], fun r hr => ⟨by simp (disch := omega) only [u1_o], fun i i1 i2 => ?_⟩, rfl, by simp (disch := omega) only [v2_o], by simp (disch := omega) only [v2_o], fun i i1 i2 x _ _ => by simp (disch := omega) only [v2_o], fun i i1 i2 k y1 y2 => ?_, fun s s1 s2 => by simp (disch := omega) only [v2_o], fun i i1 i2 s s1 s2 => ?_, fun _ _ _ _ _ _ _ _ _ => Iff.rfl⟩
    · by_cases z : r = 14
      · subst z; exact hit1 i (by omega)
      · by_cases z2 : r = 17
        · subst z2; exact hit2 i (by omega)
        · rw [u1_o (by omega), u1_o (by omega)]
    · by_cases z : i = 14
      · subst z
        rw [v2_s, v1_o (by omega), v2_o (by decide), v2_o (by decide)]
      · simp (disch := omega) only [v2_o]
    · by_cases z : i = 17
      · subst z
        rw [v2_o (by decide), v2_o (by decide), v2_s, v1_o (by omega)]
      · have : i = 18 := by omega
        subst this
        rw [v2_o (by decide), v2_s, v1_o (by omega), v2_o (by decide)]
  have hrw : Grw b K (u2 (u2 (u2 f (b + 14) 2 (F 37 + 1)) (b + 17) 2 (F 37 + 1)) 65 9 (f 65 9 + 1)) (u1 (u1 a (b + 14 + 1) g1) (b + 17 + 1) g2) (u1 (u1 ni (b + 14 + 1) N1) (b + 17 + 1) N2) := by
    unfold Grw at *
    simp (disch := omega) only [u2_b, u2_c, u2_a, u1_o, u1_s]
    exact ⟨grw.1, gc, gc2, grw.2.2.2⟩
  refine out_good X0 Y0 (by simp (disch := omega) only [u2_b, u2_c]; omega) (by simp (disch := omega) only [u2_b, u2_c]; omega) ⟨bk_c (P2 := P) G ag (by simp (disch := omega) only [u1_o]; exact gun) (by simp (disch := omega) only [v2_o]; exact b5) (by simp (disch := omega) only [v2_o]; exact gpo) (fun k _ _ x y => by simp (disch := omega) only [v2_o]) hrw, ?_, rs_c R G (by simp (disch := omega) only [u2_b]) (fun i i1 i2 => by simp (disch := omega) only [u1_o]) (fun r x1 x2 => by simp (disch := omega) only [u1_o]) (by simp (disch := omega) only [u1_o]) (fun i i1 i2 => by simp (disch := omega) only [u1_o]) (by simp (disch := omega) only [u1_o]) (fun i i1 i2 i3 => by simp (disch := omega) only [v2_o]) (fun k y1 y2 => by simp (disch := omega) only [v2_o]), ?_, ?_, ?_⟩ (by simp (disch := omega) only [u2_b]; exact t2) (by simp (disch := omega) only [u1_o]; exact t5)
  · unfold Rl
    simp (disch := omega) only [u1_o, u2_b, v2_o]
    exact ⟨l1, l2, l3, l4, l5, l6, l7, l8, l9, l10, by omega, t8, Or.inr t12⟩
  · unfold Rc
    simp (disch := omega) only [u1_o, u1_s, u2_a, u2_b, u2_c]
    exact ⟨k1, trivial, trivial, k4, k5, k6, by omega, k8, k9, k10⟩
  · refine Or.inr (Or.inr (Or.inr (Or.inr (Or.inr ?_))))
    simp (disch := omega) only [u1_o, u1_s, u2_a, u2_b, u2_c, v2_o, v2_s, v1_s]
    refine ⟨m1, m2, pb_m m5 hce (by omega), m6, x7, x6, x10, x11, x13, trivial, by omega, by omega, x12, x12', m3, by omega, m9, fun _ => ?_, fun i i1 i2 => ?_⟩
    · rw [show a (b + 14 + 2) K + (f 65 9 + 1 - 1) = F 37 by omega, gb, v1_s]
      omega
    by_cases z : i = f 65 9
    · refine ⟨?_, fun hz => ?_⟩
      · rw [z, ← m4]
        unfold Gt1
        rw [gb, gb2, v1_s, v1_s]
        exact ⟨rfl, tkn_ti Ti l10 l9, hnd⟩
      · rw [z] at hz ⊢
        have h := m10.1 hz
        rw [ga _ (by omega), v1_o (by omega), ← m4, gb]
        omega
    · obtain ⟨h, h'⟩ := m10.2 i i1 (by omega)
      refine ⟨?_, fun hz => ?_⟩
      · unfold Gt1 at *
        rw [ga _ (by omega), ga2 _ (by omega), v1_o (by omega), v1_o (by omega)]
        exact h
      · rw [ga _ (by omega), ga _ (by omega), v1_o (by omega)]
        exact h' hz
  · exact fr_V (fr_V (fr_V (fr_F (fr_n (fr_n (fr_a (fr_a (fr_f (fr_f (fr_f Fr (by omega)) (by omega)) (by omega)) (by omega)) (by omega)) (by omega)) (by omega)) (by omega)) (by omega) 4096 rfl (by omega)) (by omega) 4096 rfl (by omega)) (by omega) 200 rfl (by omega)
end SPR
