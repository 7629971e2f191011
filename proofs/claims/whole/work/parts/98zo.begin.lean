/-! Where reading begins: both -/
section BEG
variable {b n : Nat} {q S K P len c b0 e0 w : Int} {f0 : Nat → Nat → Int} {a0 : Nat → Int → Int} {ni0 : Nat → Nat} {j0 : Nat → Int → Int64} {F0 : Nat → Int} {A0 : Nat → Int → Int} {J0 : Nat → Int → Int64} {f : Nat → Nat → Int} {d : Nat → Nat} {a : Nat → Int → Int} {ni : Nat → Nat} {j : Nat → Int → Int64} {F : Nat → Int} {A : Nat → Int → Int} {J : Nat → Int → Int64}
theorem m_begin (hn : 100000 ≤ n) (hq : 0 ≤ q ∧ q ≤ 1) (h4 : F 4 = 1 - q) : ∃ A2 : Nat → Int → Int, g_X11_beginBook n 0 (ms F A J) = some (ms (u1 (u1 (u1 (u1 (u1 (u1 (u1 F 32 q) 31 0) 33 0) 34 0) 36 0) 37 0) 43 0) A2 J) ∧ (∀ i, i ≠ 6 → i ≠ 15 → i ≠ 25 → i ≠ 26 → i ≠ 27 → i ≠ 28 → A2 i = A i) ∧ A2 6 = v1 (A 6) q 0 ∧ A2 15 = v1 (A 15) q 0 ∧ A2 25 = v1 (A 25) q 0 ∧ (∀ x, 0 ≤ x → x < 300 → A2 26 x = -1 ∧ A2 27 x = -1) ∧ ∀ x, 0 ≤ x → x < 200 → A2 28 x = 0 := by
  have lp1 := lp_for (b := gL_X11_beginBook_72 n 0) (x := ms (u1 (u1 (u1 (u1 (u1 (u1 (u1 F 32 q) 31 0) 33 0) 34 0) 36 0) 37 0) 43 0) (u1 (u1 (v2 (v2 (v2 A 6 q 0) 15 q 0) 25 q 0) 26 (fl (A 26) 300 (-1))) 27 (fl (A 27) 300 (-1))) J) (fun i => (qz i, ms (u1 (u1 (u1 (u1 (u1 (u1 (u1 F 32 q) 31 0) 33 0) 34 0) 36 0) 37 0) 43 0) (u1 (u1 (v2 (v2 (v2 A 6 q 0) 15 q 0) 25 q 0) 26 (fl (A 26) i (-1))) 27 (fl (A 27) i (-1))) J)) 300 (n := n) (i0 := 0) (by omega) (by omega) (fun i i1 i2 => by
    unfold gL_X11_beginBook_72 g_X11_beginBook_72
    simp (disch := first | assumption | omega) only [qpT, qpF, qz_lit, qz_add, qz_mul, qz_neg, qz_sub, qz_inj, qz_lt, qz_le, qz_div, qp_0, qp_1, hp_bz_qp, hp_bz_0, hp_bz_1, if_neg, gp_0, gp_5, gp_6, gp_7, gp_8, gp_9, gp_10, gp_11, gp_12, gp_13, gp_14, gp_15, gp_16, gp_17, gp_18, gp_19, gp_20, gp_21, gp_22, gp_23, gp_24, gp_25, gp_26, gp_27, gp_28, gp_38, gp_39, gp_40, gp_41, gp_42, gp_44, gp_45, gp_47, gp_49, gp_51, gp_52, gp_56, gp_57, gp_58, gp_60, gp_61, gp_62, gp_63, gp_64, gp_65, gp_66, gp_68, gp_69, gp_70, gp_72, gp_73, gp_74, gp_75, gp_76, gp_77, gp_78, gp_79, gp_81, gp_83, gp_84, ua_26, ua_27, bd_some]
    rw [v2_u1, v2_u1]
    simp (disch := omega) only [u1_o, u1_s]
    rw [u1_sw (i := 27) (k := 26) (by decide), u1_1, u1_1, fl_s i1, fl_s i1]) (by
    unfold gL_X11_beginBook_72 g_X11_beginBook_72
    simp (disch := first | assumption | omega) only [qpT, qpF, qz_lit, qz_add, qz_mul, qz_neg, qz_sub, qz_inj, qz_lt, qz_le, qz_div, qp_0, qp_1, hp_bz_qp, hp_bz_0, hp_bz_1, if_pos])
  have lp2 := lp_for (b := gL_X11_beginBook_101 n 0) (x := ms (u1 (u1 (u1 (u1 (u1 (u1 (u1 F 32 q) 31 0) 33 0) 34 0) 36 0) 37 0) 43 0) (u1 (u1 (u1 (v2 (v2 (v2 A 6 q 0) 15 q 0) 25 q 0) 26 (fl (A 26) 300 (-1))) 27 (fl (A 27) 300 (-1))) 28 (fl (A 28) 200 0)) J) (fun i => (qz i, ms (u1 (u1 (u1 (u1 (u1 (u1 (u1 F 32 q) 31 0) 33 0) 34 0) 36 0) 37 0) 43 0) (u1 (u1 (u1 (v2 (v2 (v2 A 6 q 0) 15 q 0) 25 q 0) 26 (fl (A 26) 300 (-1))) 27 (fl (A 27) 300 (-1))) 28 (fl (A 28) i 0)) J)) 200 (n := n) (i0 := 0) (by omega) (by omega) (fun i i1 i2 => by
    unfold gL_X11_beginBook_101 g_X11_beginBook_101
    simp (disch := first | assumption | omega) only [qpT, qpF, qz_lit, qz_add, qz_mul, qz_neg, qz_sub, qz_inj, qz_lt, qz_le, qz_div, qp_0, qp_1, hp_bz_qp, hp_bz_0, hp_bz_1, if_neg, gp_0, gp_5, gp_6, gp_7, gp_8, gp_9, gp_10, gp_11, gp_12, gp_13, gp_14, gp_15, gp_16, gp_17, gp_18, gp_19, gp_20, gp_21, gp_22, gp_23, gp_24, gp_25, gp_26, gp_27, gp_28, gp_38, gp_39, gp_40, gp_41, gp_42, gp_44, gp_45, gp_47, gp_49, gp_51, gp_52, gp_56, gp_57, gp_58, gp_60, gp_61, gp_62, gp_63, gp_64, gp_65, gp_66, gp_68, gp_69, gp_70, gp_72, gp_73, gp_74, gp_75, gp_76, gp_77, gp_78, gp_79, gp_81, gp_83, gp_84, ua_28, bd_some]
    rw [v2_u1, u1_s, u1_1, fl_s i1]) (by
    unfold gL_X11_beginBook_101 g_X11_beginBook_101
    simp (disch := first | assumption | omega) only [qpT, qpF, qz_lit, qz_add, qz_mul, qz_neg, qz_sub, qz_inj, qz_lt, qz_le, qz_div, qp_0, qp_1, hp_bz_qp, hp_bz_0, hp_bz_1, if_pos])
  rw [fl_0, fl_0, u1_id (f := v2 (v2 (v2 A 6 q 0) 15 q 0) 25 q 0) (k := 26) (by simp (disch := omega) only [v2_o]), u1_id (f := v2 (v2 (v2 A 6 q 0) 15 q 0) 25 q 0) (k := 27) (by simp (disch := omega) only [v2_o])] at lp1
  rw [fl_0, u1_id (k := 28) (by simp (disch := omega) only [u1_o, v2_o])] at lp2
  refine ⟨u1 (u1 (u1 (v2 (v2 (v2 A 6 q 0) 15 q 0) 25 q 0) 26 (fl (A 26) 300 (-1))) 27 (fl (A 27) 300 (-1))) 28 (fl (A 28) 200 0), ?_, fun i i1 i2 i3 i4 i5 i6 => ?_, ?_, ?_, ?_, fun x x1 x2 => ⟨?_, ?_⟩, fun x x1 x2 => ?_⟩
  rotate_left
  · simp (disch := assumption) only [u1_o, v2_o]
  · simp (disch := omega) only [u1_o, v2_o, v2_s]
  · simp (disch := omega) only [u1_o, v2_o, v2_s]
  · simp (disch := omega) only [u1_o, v2_o, v2_s]
  · rw [u1_o (by decide), u1_o (by decide), u1_s, fl_in x1 x2]
  · rw [u1_o (by decide), u1_s, fl_in x1 x2]
  · rw [u1_s, fl_in x1 x2]
  · unfold g_X11_beginBook g_X11_beginBook_0
    simp only [qz_lit]
    simp (disch := first | assumption | omega) only [gf_ms, wf_ms, h4, qz_sub, u1_s, u1_o, gp_0, gp_5, gp_6, gp_7, gp_8, gp_9, gp_10, gp_11, gp_12, gp_13, gp_14, gp_15, gp_16, gp_17, gp_18, gp_19, gp_20, gp_21, gp_22, gp_23, gp_24, gp_25, gp_26, gp_27, gp_28, gp_38, gp_39, gp_40, gp_41, gp_42, gp_44, gp_45, gp_47, gp_49, gp_51, gp_52, gp_56, gp_57, gp_58, gp_60, gp_61, gp_62, gp_63, gp_64, gp_65, gp_66, gp_68, gp_69, gp_70, gp_72, gp_73, gp_74, gp_75, gp_76, gp_77, gp_78, gp_79, gp_81, gp_83, gp_84, ua_6, ua_15, ua_25, bd_some, show (1 : Int) - (1 - q) = q by omega]
    rw [lp1, bd_some, lp2, bd_some]
end BEG
section BEC
variable {b n : Nat} {q S K P len c b0 e0 w : Int} {f0 : Nat → Nat → Int} {a0 : Nat → Int → Int} {ni0 : Nat → Nat} {j0 : Nat → Int → Int64} {F0 : Nat → Int} {A0 : Nat → Int → Int} {J0 : Nat → Int → Int64} {f : Nat → Nat → Int} {d : Nat → Nat} {a : Nat → Int → Int} {ni : Nat → Nat} {j : Nat → Int → Int64} {F : Nat → Int} {A : Nat → Int → Int} {J : Nat → Int → Int64}
/-- the fields when a book is cleared -/
def fB0 (b : Nat) (f : Nat → Nat → Int) : Nat → Nat → Int := u2 (u2 (u2 (u2 (u2 (u2 (u2 (u2 (u2 (u2 (u2 (u2 (u2 (u2 f b 3 0) b 5 0) (b + 11) 3 0) (b + 11) 2 0) (b + 14) 3 0) (b + 14) 2 0) (b + 17) 3 0) (b + 17) 2 0) (b + 20) 3 0) (b + 20) 2 0) (b + 23) 3 0) (b + 23) 2 0) (b + 26) 3 0) (b + 26) 2 0
theorem c_bclear (hn : 100000 ≤ n) (hb : bks b) : g_X0_clear n b (cs f d a ni j) = some (cs (fB0 b f) d (u1 a (b + 3) (fl (a (b + 3)) 256 (-1))) ni j) := by
  unfold g_X0_clear g_X0_clear_0 fB0
  simp only [qz_lit]
  rw [gpb_0 hb, c_nclear hb hn, bd_some, wf_cs, bd_some, wf_cs, bd_some, gpb_9 hb, c_rclear (rws_b11 hb), bd_some, gpb_10 hb, c_rclear (rws_b14 hb), bd_some, gpb_11 hb, c_rclear (rws_b17 hb), bd_some, gpb_12 hb, c_rclear (rws_b20 hb), bd_some, gpb_13 hb, c_rclear (rws_b23 hb), bd_some, gpb_14 hb, c_rclear (rws_b26 hb), bd_some]
theorem c_sclear (hn : 100000 ≤ n) : g_X7_clear n 66 (cs f d a ni j) = some (cs (u2 (u2 (u2 (u2 f 66 0 0) 66 4 0) 66 9 0) 66 12 0) d (u1 (u1 (u1 a 70 (fl (a 70) 300 0)) 71 (fl (a 71) 300 0)) 72 (fl (a 72) 300 0)) ni j) := by
  unfold g_X7_clear g_X7_clear_0
  simp only [qz_lit]
  rw [wf_cs, bd_some, wf_cs, bd_some, wf_cs, bd_some, wf_cs, bd_some, gpc_66_5, c_fillB (N := 300) rfl (by omega) (by omega) (by omega) (by omega), bd_some, gpc_66_6, c_fillB (N := 300) rfl (by omega) (by omega) (by omega) (by omega), bd_some, gpc_66_7, c_fillI (N := 300) rfl (by omega) (by omega), bd_some]
  simp (disch := omega) only [u1_o]
theorem c_sopen {p : Nat} {sz : Int} : g_X6_open n 77 p (qz sz) (cs f d a ni j) = some (cs (u2 (u2 (u2 (u2 f 77 4 sz) 77 0 0) 77 1 0) 77 2 0) (u1 d 5 p) a ni j) := by
  unfold g_X6_open g_X6_open_0
  simp only [qz_lit]
  rw [wp_77_3, bd_some, wf_cs, bd_some, wf_cs, bd_some, wf_cs, bd_some, wf_cs, bd_some]
end BEC
section BER
variable {b n : Nat} {q S K P len c b0 e0 w : Int} {f0 : Nat → Nat → Int} {a0 : Nat → Int → Int} {ni0 : Nat → Nat} {j0 : Nat → Int → Int64} {F0 : Nat → Int} {A0 : Nat → Int → Int} {J0 : Nat → Int → Int64} {f : Nat → Nat → Int} {d : Nat → Nat} {a : Nat → Int → Int} {ni : Nat → Nat} {j : Nat → Int → Int64} {F : Nat → Int} {A : Nat → Int → Int} {J : Nat → Int → Int64}
theorem rd_0 {f1 : Nat → Nat → Int} {a1 : Nat → Int → Int} {F1 : Nat → Int} {A1 : Nat → Int → Int} (hbq : bq b q) (hd4 : d 4 = b) (hd5 : d 5 = b + 2) (W : RwA b f a ni) (hl0 : 0 ≤ len) (hl1 : len ≤ 8192) (hby : byt (a (b + 2))) (ht : txt (A 1) len) (hx : txs (a (b + 2)) (A 1) len)
    (c1 : f1 b 3 = 0) (c2 : f1 b 5 = 0) (c3 : f1 b 2 = len) (cr : ∀ r, r = 11 ∨ r = 14 ∨ r = 17 ∨ r = 20 ∨ r = 23 ∨ r = 26 → f1 (b + r) 3 = 0 ∧ f1 (b + r) 2 = 0) (c4 : f1 66 0 = 0 ∧ f1 66 4 = 0 ∧ f1 66 9 = 0 ∧ f1 66 12 = 0) (c5 : f1 77 4 = len ∧ f1 77 2 = 0) (c6 : f1 65 4 = 0) (a3 : ∀ k, 0 ≤ k → k < 256 → a1 (b + 3) k = -1) (ao : ∀ i, i ≠ b + 3 → i ≠ 70 → i ≠ 71 → i ≠ 72 → a1 i = a i) (a70 : ∀ k, 0 ≤ k → k < 300 → a1 70 k = 0 ∧ a1 71 k = 0 ∧ a1 72 k = 0)
    (g1 : F1 1 = len ∧ F1 32 = q ∧ F1 33 = 0 ∧ F1 34 = 0 ∧ F1 36 = 0 ∧ F1 37 = 0 ∧ F1 43 = 0) (h1 : ∀ i, i ≠ 6 → i ≠ 15 → i ≠ 25 → i ≠ 26 → i ≠ 27 → i ≠ 28 → A1 i = A i) (h6 : A1 6 q = 0 ∧ A1 15 q = 0 ∧ A1 25 q = 0) (h26 : ∀ x, 0 ≤ x → x < 300 → A1 26 x = -1 ∧ A1 27 x = -1) (h28 : ∀ x, 0 ≤ x → x < 200 → A1 28 x = 0) (Fr : FR b q f0 a0 ni0 j0 F0 A0 J0 f1 a1 ni j F1 A1 J) : RD b q 0 0 0 len 0 f0 a0 ni0 j0 F0 A0 J0 f1 d a1 ni j F1 A1 J := by
  have hb := bq_b hbq
  have hbb : b = 1 ∨ b = 33 := hb
  obtain ⟨W1, W2, W3, W4, W5, W6⟩ := W
  have s : ∀ r, r = 11 ∨ r = 14 ∨ r = 17 ∨ r = 20 ∨ r = 23 ∨ r = 26 → a1 (b + r + 2) = a (b + r + 2) := fun r hr => ao _ (by omega) (by omega) (by omega) (by omega)
  have s11 := s 11 (by omega)
  have s14 := s 14 (by omega)
  have s17 := s 17 (by omega)
  have s20 := s 20 (by omega)
  have s23 := s 23 (by omega)
  have s26 := s 26 (by omega)
  have r11 := cr 11 (by omega)
  have r14 := cr 14 (by omega)
  have r17 := cr 17 (by omega)
  have r20 := cr 20 (by omega)
  have r23 := cr 23 (by omega)
  have r26 := cr 26 (by omega)
  have hT : a1 (b + 2) = a (b + 2) := ao _ (by omega) (by omega) (by omega) (by omega)
  have hliv : ∀ x, ¬liv 0 0 x := fun x => by unfold liv; omega
  refine ⟨?_, ?_, ?_, ?_, ?_, Fr⟩
  · refine ⟨⟨c1, h6.1, c2, h6.2.1, h6.2.2, c3, hl0, hl1, by rw [hT]; exact hby⟩, ⟨by omega, by omega, by omega, by omega, ni_none a3 hliv, fun x hx => absurd hx (hliv x), fun x y hx => absurd hx (hliv x), fun x x1 x2 => by omega, fun k k1 k2 => by omega⟩, fun k k1 k2 => by omega, fun k k1 k2 => by omega, fun k k1 k2 => by omega, fun k k1 k2 => by omega, fun k k1 k2 => by omega, fun k k1 k2 => by omega, fun k k1 k2 => by omega, ⟨by omega, by omega, fun p p1 p2 => by omega⟩, fun k k1 k2 => by omega, fun k k1 k2 => by omega, fun k k1 k2 => by omega, ?_⟩
    unfold Grw
    rw [r11.1, r11.2, r14.1, r14.2, r17.1, r17.2, r20.1, r20.2, r23.1, r23.2, r26.1, r26.2, s11, s14, s17, s20, s23, s26]
    exact ⟨rw_clear W1, rw_clear W2, rw_clear W3, rw_clear W4, rw_clear W5, rw_clear W6, rfl, rfl, rfl, rfl, rfl, rfl⟩
  · unfold Rl
    rw [hT, h1 1 (by decide) (by decide) (by decide) (by decide) (by decide) (by decide)]
    exact ⟨hbq, hd4, hd5, c5.1, c5.2, g1.1, g1.2.1, by rw [g1.2.2.1, c4.1], ht, hx, by omega, hl0, Or.inl rfl⟩
  · unfold Rs
    rw [c4.1, c4.2.1, c4.2.2.1, c4.2.2.2, g1.2.2.2.2.2.2]
    refine ⟨⟨by omega, by omega, by omega, fun x x1 x2 => ?_, fun i i1 i2 => by omega, fun i k i1 i2 i3 => by omega, fun x x1 x2 x3 => ?_, fun l l1 l2 => by omega⟩, ⟨by omega, fun i i1 i2 => by omega, fun i k i1 i2 i3 => by omega, fun k k1 k2 => ?_, fun l l1 l2 => by omega⟩, fun h h1 h2 => by omega, ⟨fun x x1 x2 => ?_, fun k k1 k2 => by omega⟩, fun e e1 e2 => by omega, fun x x1 x2 => ?_, ⟨by omega, by omega, rfl, fun i k i1 i2 i3 => by omega, List.Perm.refl _, fun i k i1 i2 i3 => by omega, fun i i1 i2 => by omega, fun i k i1 i2 i3 => by omega, fun p p1 p2 => by omega⟩⟩
    · have y1 := a70 x x1 x2
      have y2 := h26 x x1 x2
      rw [y1.1, y2.1]
      exact ⟨Or.inl rfl, by omega, by omega, by omega, fun z => by omega⟩
    · have y2 := h26 x x1 x2
      omega
    · have y := h28 k k1 k2
      rw [y]
      exact ⟨Or.inl rfl, fun z => by omega⟩
    · have y1 := a70 x x1 x2
      have y2 := h26 x x1 x2
      rw [y1.2.1, y2.2]
      exact ⟨Or.inl rfl, by omega, by omega, fun z => by omega⟩
    · rw [(a70 x x1 x2).2.2]
      rfl
  · unfold Rc
    rw [r11.2, r14.2, r17.2, r20.2, r23.2, r26.2, s20, s23, s26, g1.2.2.2.2.1, g1.2.2.2.2.2.1, (rw_mono W4).1, (rw_mono W5).1, (rw_mono W6).1]
    omega
  · refine Or.inl ⟨c6, g1.2.2.2.1, ?_, ?_, ?_⟩
    · rw [s11, (rw_mono W1).1]; exact g1.2.2.2.2.1
    · rw [s14, (rw_mono W2).1]; exact g1.2.2.2.2.2.1
    · rw [g1.2.2.2.2.2.2, c4.1]
      unfold PB
      omega
end BER
