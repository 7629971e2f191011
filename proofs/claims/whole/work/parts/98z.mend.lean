/-! The end of a statement: the reference -/
section MEN
variable {F : Nat → Int} {A : Nat → Int → Int} {J : Nat → Int → Int64} {n : Nat} {q K s : Int}
theorem m_end1 (hn : 100000 ≤ n) (hs0 : 0 ≤ s) (hs1 : s < 400) {v1' : Int} : ∃ z19 z20 : Int → Int64, hp_lp (gL_X11_endStatement_23 n 0 (qz v1') (qz s)) n (qz 0, ms F A J) = some (ms F A (u1 (u1 J 19 z19) 20 z20)) ∧ (∀ x, ¬(4 * s ≤ x ∧ x < 4 * s + 4) → z19 x = J 19 x ∧ z20 x = J 20 x) ∧ ∀ x, 4 * s ≤ x → x < 4 * s + 4 → z19 x = 0 ∧ z20 x = 0 := by
  have lp := lp_inv (b := gL_X11_endStatement_23 n 0 (qz v1') (qz s)) (fun t c => ∃ z19 z20 : Int → Int64, c = (qz t, ms F A (u1 (u1 J 19 z19) 20 z20)) ∧ (∀ x, ¬(4 * s ≤ x ∧ x < 4 * s + 4) → z19 x = J 19 x ∧ z20 x = J 20 x) ∧ ∀ x, 4 * s ≤ x → x < 4 * s + t → z19 x = 0 ∧ z20 x = 0)
    (Q := fun c => ∃ z19 z20 : Int → Int64, c = ms F A (u1 (u1 J 19 z19) 20 z20) ∧ (∀ x, ¬(4 * s ≤ x ∧ x < 4 * s + 4) → z19 x = J 19 x ∧ z20 x = J 20 x) ∧ ∀ x, 4 * s ≤ x → x < 4 * s + 4 → z19 x = 0 ∧ z20 x = 0) 4 (n := n) (i0 := 0) (by omega) (by omega) (c0 := (qz 0, ms F A J)) ⟨J 19, J 20, by rw [u1_id (f := J) rfl, u1_id (f := J) rfl], fun _ _ => ⟨rfl, rfl⟩, fun x _ _ => by omega⟩ (by
      rintro t c t1 t2 ⟨z19, z20, rfl, y1, y2⟩
      refine ⟨_, ?_, v1 z19 (4 * s + t) 0, v1 z20 (4 * s + t) 0, rfl, fun x hx => ?_, fun x x1 x2 => ?_⟩
      · unfold gL_X11_endStatement_23 g_X11_endStatement_23
        simp (disch := first | assumption | omega) only [qpT, qpF, qz_lit, qz_add, qz_mul, qz_neg, qz_sub, qz_inj, qz_lt, qz_le, qz_div, qp_0, qp_1, hp_bz_qp, hp_bz_0, hp_bz_1, if_neg, gp_0, gp_5, gp_6, gp_7, gp_8, gp_9, gp_10, gp_11, gp_12, gp_13, gp_14, gp_15, gp_16, gp_17, gp_18, gp_19, gp_20, gp_21, gp_22, gp_23, gp_24, gp_25, gp_26, gp_27, gp_28, gp_38, gp_39, gp_40, gp_41, gp_42, gp_44, gp_45, gp_47, gp_49, gp_51, gp_52, gp_56, gp_57, gp_58, gp_60, gp_61, gp_62, gp_63, gp_64, gp_65, gp_66, gp_68, gp_69, gp_70, gp_72, gp_73, gp_74, gp_75, gp_76, gp_77, gp_78, gp_79, gp_81, gp_83, gp_84, uj_19, uj_20, bd_some]
        rw [v2_u1, v2_u1]
        simp (disch := omega) only [u1_o, u1_s]
        rw [u1_sw (i := 20) (k := 19) (by decide), u1_1, u1_1]
      · rw [v1_o (by omega), v1_o (by omega)]; exact y1 x hx
      · by_cases z : x = 4 * s + t
        · rw [z, v1_s, v1_s]; exact ⟨rfl, rfl⟩
        · rw [v1_o z, v1_o z]; exact y2 x x1 (by omega)) (by
      rintro c ⟨z19, z20, rfl, y⟩
      refine ⟨_, ?_, z19, z20, rfl, y⟩
      unfold gL_X11_endStatement_23 g_X11_endStatement_23
      simp (disch := first | assumption | omega) only [qpT, qpF, qz_lit, qz_add, qz_mul, qz_neg, qz_sub, qz_inj, qz_lt, qz_le, qz_div, qp_0, qp_1, hp_bz_qp, hp_bz_0, hp_bz_1, if_pos])
  obtain ⟨c, e, z19, z20, rfl, h⟩ := lp
  exact ⟨z19, z20, e, h⟩
theorem m_end2 (hn : 100000 ≤ n) (hs0 : 0 ≤ s) (hs1 : s < 400) (hK : 0 ≤ K) (hK1 : K < 200) (hA : ∀ k, 0 ≤ k → k < K → A 28 k = 0 ∨ A 28 k = 1) : ∃ z : Int → Int64, hp_lp (gL_X11_endStatement_58 n 0 (qz K) (qz s)) n (qz 0, ms F A J) = some (ms F A (u1 J 19 z)) ∧ (∀ x, ¬(4 * s ≤ x ∧ x < 4 * s + 4) → z x = J 19 x) ∧ ∀ h, 0 ≤ h → h < 200 → (bt z (4 * s) h ↔ bt (J 19) (4 * s) h ∨ (h < K ∧ A 28 h = 1)) := by
  have lp := lp_inv (b := gL_X11_endStatement_58 n 0 (qz K) (qz s)) (fun t c => ∃ z : Int → Int64, c = (qz t, ms F A (u1 J 19 z)) ∧ (∀ x, ¬(4 * s ≤ x ∧ x < 4 * s + 4) → z x = J 19 x) ∧ ∀ h, 0 ≤ h → h < 200 → (bt z (4 * s) h ↔ bt (J 19) (4 * s) h ∨ (h < t ∧ A 28 h = 1)))
    (Q := fun c => ∃ z : Int → Int64, c = ms F A (u1 J 19 z) ∧ (∀ x, ¬(4 * s ≤ x ∧ x < 4 * s + 4) → z x = J 19 x) ∧ ∀ h, 0 ≤ h → h < 200 → (bt z (4 * s) h ↔ bt (J 19) (4 * s) h ∨ (h < K ∧ A 28 h = 1))) K (n := n) (i0 := 0) hK (by omega) (c0 := (qz 0, ms F A J)) ⟨J 19, by rw [u1_id (f := J) rfl], fun _ _ => rfl, fun h h0 h1 => ⟨Or.inl, fun z => by
        rcases z with z | z
        · exact z
        · omega⟩⟩ (by
      rintro t c t1 t2 ⟨z, rfl, y1, y2⟩
      rcases hA t t1 t2 with q0 | q0
      · refine ⟨_, ?_, z, rfl, y1, fun h h0 h1 => ?_⟩
        · unfold gL_X11_endStatement_58 g_X11_endStatement_58 g_X11_endStatement_94
          simp (disch := first | assumption | omega) only [qpT, qpF, qz_lit, qz_add, qz_mul, qz_neg, qz_sub, qz_inj, qz_lt, qz_le, qz_div, qp_0, qp_1, hp_bz_qp, hp_bz_0, hp_bz_1, if_neg, if_true, gp_0, gp_5, gp_6, gp_7, gp_8, gp_9, gp_10, gp_11, gp_12, gp_13, gp_14, gp_15, gp_16, gp_17, gp_18, gp_19, gp_20, gp_21, gp_22, gp_23, gp_24, gp_25, gp_26, gp_27, gp_28, gp_38, gp_39, gp_40, gp_41, gp_42, gp_44, gp_45, gp_47, gp_49, gp_51, gp_52, gp_56, gp_57, gp_58, gp_60, gp_61, gp_62, gp_63, gp_64, gp_65, gp_66, gp_68, gp_69, gp_70, gp_72, gp_73, gp_74, gp_75, gp_76, gp_77, gp_78, gp_79, gp_81, gp_83, gp_84, ga_28, bd_some, q0]
        · rw [y2 h h0 h1]
          constructor
          · rintro (w | w)
            · exact Or.inl w
            · exact Or.inr ⟨by omega, w.2⟩
          · rintro (w | w)
            · exact Or.inl w
            · have : h ≠ t := fun e => by rw [e] at w; omega
              exact Or.inr ⟨by omega, w.2⟩
      · refine ⟨_, ?_, v1 z (4 * s + t / 64) (z (4 * s + t / 64) ||| ((1 : Int64) <<< (Int32.toInt64 (qz (t - t / 64 * 64)) &&& 63))), rfl, fun x hx => ?_, fun h h0 h1 => ?_⟩
        · unfold gL_X11_endStatement_58 g_X11_endStatement_58 g_X11_endStatement_94
          simp (disch := first | assumption | omega) only [qpT, qpF, qz_lit, qz_add, qz_mul, qz_neg, qz_sub, qz_inj, qz_lt, qz_le, qz_div, qp_0, qp_1, hp_bz_qp, hp_bz_0, hp_bz_1, if_neg, gp_0, gp_5, gp_6, gp_7, gp_8, gp_9, gp_10, gp_11, gp_12, gp_13, gp_14, gp_15, gp_16, gp_17, gp_18, gp_19, gp_20, gp_21, gp_22, gp_23, gp_24, gp_25, gp_26, gp_27, gp_28, gp_38, gp_39, gp_40, gp_41, gp_42, gp_44, gp_45, gp_47, gp_49, gp_51, gp_52, gp_56, gp_57, gp_58, gp_60, gp_61, gp_62, gp_63, gp_64, gp_65, gp_66, gp_68, gp_69, gp_70, gp_72, gp_73, gp_74, gp_75, gp_76, gp_77, gp_78, gp_79, gp_81, gp_83, gp_84, ga_28, gj_19, uj_19, u1_s, bd_some, q0]
          rw [v2_u1, u1_s, u1_1]
        · rw [v1_o (by omega)]; exact y1 x hx
        · rw [bt_set t1 h0, y2 h h0 h1]
          constructor
          · rintro ((w | w) | w)
            · exact Or.inl w
            · exact Or.inr ⟨by omega, w.2⟩
            · exact Or.inr ⟨by omega, by rw [w]; exact q0⟩
          · rintro (w | w)
            · exact Or.inl (Or.inl w)
            · by_cases e : h = t
              · exact Or.inr e
              · exact Or.inl (Or.inr ⟨by omega, w.2⟩)) (by
      rintro c ⟨z, rfl, y⟩
      refine ⟨_, ?_, z, rfl, y⟩
      unfold gL_X11_endStatement_58 g_X11_endStatement_58
      simp (disch := first | assumption | omega) only [qpT, qpF, qz_lit, qz_add, qz_mul, qz_neg, qz_sub, qz_inj, qz_lt, qz_le, qz_div, qp_0, qp_1, hp_bz_qp, hp_bz_0, hp_bz_1, if_pos])
  obtain ⟨c, e, z, rfl, h⟩ := lp
  exact ⟨z, e, h⟩
/-- the types that the variables of a statement need -/
def ndt (q : Int) (A : Nat → Int → Int) (o h : Int) : Prop := ∃ i, 0 ≤ i ∧ i < A 12 o ∧ A 5 (300 * q + A 16 (4096 * q + A 11 o + i)) = 1 ∧ A 27 (A 16 (4096 * q + A 11 o + i)) = h
theorem m_needs {o : Int} (hn : 100000 ≤ n) (hq : 0 ≤ q ∧ q ≤ 1) (h32 : F 32 = q) (hs0 : 0 ≤ s) (hs1 : s < 400) (ho0 : 0 ≤ o) (ho1 : o < 400) (hm0 : 0 ≤ A 12 o) (hm1 : A 12 o ≤ 60) (hf0 : 0 ≤ A 11 o) (hf1 : A 11 o + A 12 o ≤ 4096) (hx : ∀ i, 0 ≤ i → i < A 12 o → 0 ≤ A 16 (4096 * q + A 11 o + i) ∧ A 16 (4096 * q + A 11 o + i) < 300 ∧ (A 5 (300 * q + A 16 (4096 * q + A 11 o + i)) = 0 ∨ A 5 (300 * q + A 16 (4096 * q + A 11 o + i)) = 1) ∧ (A 5 (300 * q + A 16 (4096 * q + A 11 o + i)) = 1 → 0 ≤ A 27 (A 16 (4096 * q + A 11 o + i)) ∧ A 27 (A 16 (4096 * q + A 11 o + i)) < 200)) :
    ∃ z : Int → Int64, g_X11_needs n 0 (qz s) (qz o) (ms F A J) = some (ms F A (u1 J 20 z)) ∧ (∀ x, ¬(4 * s ≤ x ∧ x < 4 * s + 4) → z x = J 20 x) ∧ ∀ h, 0 ≤ h → h < 200 → (bt z (4 * s) h ↔ bt (J 20) (4 * s) h ∨ ndt q A o h) := by
  have lp := lp_inv (b := gL_X11_needs_2 n 0 (qz s) (qz o)) (fun t c => ∃ z : Int → Int64, c = (qz t, ms F A (u1 J 20 z)) ∧ (∀ x, ¬(4 * s ≤ x ∧ x < 4 * s + 4) → z x = J 20 x) ∧ ∀ h, 0 ≤ h → h < 200 → (bt z (4 * s) h ↔ bt (J 20) (4 * s) h ∨ ∃ i, 0 ≤ i ∧ i < t ∧ A 5 (300 * q + A 16 (4096 * q + A 11 o + i)) = 1 ∧ A 27 (A 16 (4096 * q + A 11 o + i)) = h))
    (Q := fun c => ∃ z : Int → Int64, c = ms F A (u1 J 20 z) ∧ (∀ x, ¬(4 * s ≤ x ∧ x < 4 * s + 4) → z x = J 20 x) ∧ ∀ h, 0 ≤ h → h < 200 → (bt z (4 * s) h ↔ bt (J 20) (4 * s) h ∨ ndt q A o h)) (A 12 o) (n := n) (i0 := 0) hm0 (by omega) (c0 := (qz 0, ms F A J)) ⟨J 20, by rw [u1_id (f := J) rfl], fun _ _ => rfl, fun h h0 h1 => ⟨Or.inl, fun z => by
        rcases z with z | ⟨i, i1, i2, _⟩
        · exact z
        · omega⟩⟩ (by
      rintro t c t1 t2 ⟨z, rfl, y1, y2⟩
      obtain ⟨x1, x2, x3, x4⟩ := hx t t1 t2
      rcases x3 with q0 | q0
      · refine ⟨_, ?_, z, rfl, y1, fun h h0 h1 => ?_⟩
        · unfold gL_X11_needs_2 g_X11_needs_2 g_X11_needs_88
          simp (disch := first | assumption | omega) only [qpT, qpF, qz_lit, qz_add, qz_mul, qz_neg, qz_sub, qz_inj, qz_lt, qz_le, qz_div, qp_0, qp_1, hp_bz_qp, hp_bz_0, hp_bz_1, if_neg, if_true, gf_ms, h32, gp_0, gp_5, gp_6, gp_7, gp_8, gp_9, gp_10, gp_11, gp_12, gp_13, gp_14, gp_15, gp_16, gp_17, gp_18, gp_19, gp_20, gp_21, gp_22, gp_23, gp_24, gp_25, gp_26, gp_27, gp_28, gp_38, gp_39, gp_40, gp_41, gp_42, gp_44, gp_45, gp_47, gp_49, gp_51, gp_52, gp_56, gp_57, gp_58, gp_60, gp_61, gp_62, gp_63, gp_64, gp_65, gp_66, gp_68, gp_69, gp_70, gp_72, gp_73, gp_74, gp_75, gp_76, gp_77, gp_78, gp_79, gp_81, gp_83, gp_84, ga_12, ga_11, ga_16, ga_5, bd_some, q0]
        · rw [y2 h h0 h1]
          constructor
          · rintro (w | ⟨i, i1, i2, i3⟩)
            · exact Or.inl w
            · exact Or.inr ⟨i, i1, by omega, i3⟩
          · rintro (w | ⟨i, i1, i2, i3, i4⟩)
            · exact Or.inl w
            · have : i ≠ t := fun e => by rw [e] at i3; omega
              exact Or.inr ⟨i, i1, by omega, i3, i4⟩
      · obtain ⟨x5, x6⟩ := x4 q0
        refine ⟨_, ?_, v1 z (4 * s + A 27 (A 16 (4096 * q + A 11 o + t)) / 64) (z (4 * s + A 27 (A 16 (4096 * q + A 11 o + t)) / 64) ||| ((1 : Int64) <<< (Int32.toInt64 (qz (A 27 (A 16 (4096 * q + A 11 o + t)) - A 27 (A 16 (4096 * q + A 11 o + t)) / 64 * 64)) &&& 63))), rfl, fun x hx => ?_, fun h h0 h1 => ?_⟩
        · unfold gL_X11_needs_2 g_X11_needs_2 g_X11_needs_88
          simp (disch := first | assumption | omega) only [qpT, qpF, qz_lit, qz_add, qz_mul, qz_neg, qz_sub, qz_inj, qz_lt, qz_le, qz_div, qp_0, qp_1, hp_bz_qp, hp_bz_0, hp_bz_1, if_neg, gf_ms, h32, gp_0, gp_5, gp_6, gp_7, gp_8, gp_9, gp_10, gp_11, gp_12, gp_13, gp_14, gp_15, gp_16, gp_17, gp_18, gp_19, gp_20, gp_21, gp_22, gp_23, gp_24, gp_25, gp_26, gp_27, gp_28, gp_38, gp_39, gp_40, gp_41, gp_42, gp_44, gp_45, gp_47, gp_49, gp_51, gp_52, gp_56, gp_57, gp_58, gp_60, gp_61, gp_62, gp_63, gp_64, gp_65, gp_66, gp_68, gp_69, gp_70, gp_72, gp_73, gp_74, gp_75, gp_76, gp_77, gp_78, gp_79, gp_81, gp_83, gp_84, ga_12, ga_11, ga_16, ga_5, ga_27, gj_20, uj_20, u1_s, bd_some, q0]
          rw [v2_u1, u1_s, u1_1]
        · rw [v1_o (by omega)]; exact y1 x hx
        · rw [bt_set x5 h0, y2 h h0 h1]
          constructor
          · rintro ((w | ⟨i, i1, i2, i3⟩) | w)
            · exact Or.inl w
            · exact Or.inr ⟨i, i1, by omega, i3⟩
            · exact Or.inr ⟨t, t1, by omega, q0, w.symm⟩
          · rintro (w | ⟨i, i1, i2, i3, i4⟩)
            · exact Or.inl (Or.inl w)
            · by_cases e : i = t
              · exact Or.inr (by rw [← i4, e])
              · exact Or.inl (Or.inr ⟨i, i1, by omega, i3, i4⟩)) (by
      rintro c ⟨z, rfl, y⟩
      refine ⟨_, ?_, z, rfl, y⟩
      unfold gL_X11_needs_2 g_X11_needs_2
      simp (disch := first | assumption | omega) only [qpT, qpF, qz_lit, qz_add, qz_mul, qz_neg, qz_sub, qz_inj, qz_lt, qz_le, qz_div, qp_0, qp_1, hp_bz_qp, hp_bz_0, hp_bz_1, if_pos, gp_0, gp_5, gp_6, gp_7, gp_8, gp_9, gp_10, gp_11, gp_12, gp_13, gp_14, gp_15, gp_16, gp_17, gp_18, gp_19, gp_20, gp_21, gp_22, gp_23, gp_24, gp_25, gp_26, gp_27, gp_28, gp_38, gp_39, gp_40, gp_41, gp_42, gp_44, gp_45, gp_47, gp_49, gp_51, gp_52, gp_56, gp_57, gp_58, gp_60, gp_61, gp_62, gp_63, gp_64, gp_65, gp_66, gp_68, gp_69, gp_70, gp_72, gp_73, gp_74, gp_75, gp_76, gp_77, gp_78, gp_79, gp_81, gp_83, gp_84, ga_12, bd_some])
  obtain ⟨c, e, z, rfl, h⟩ := lp
  refine ⟨z, ?_, h⟩
  unfold g_X11_needs g_X11_needs_0
  simp only [qz_lit]
  rw [e, bd_some]
/-- what is mandatory at a statement -/
def mnd (q K : Int) (A : Nat → Int → Int) (h : Int) : Prop := ndt q A (200 * q + K) h ∨ ∃ e, 0 ≤ e ∧ e < K ∧ A 28 e = 1 ∧ A 7 (200 * q + e) = 1 ∧ (h = e ∨ ndt q A (200 * q + e) h)
theorem m_frameOf (hn : 100000 ≤ n) (hq : 0 ≤ q ∧ q ≤ 1) (h32 : F 32 = q) (hK : 0 ≤ K) (hK1 : K < 200) (hA : ∀ k, 0 ≤ k → k < K → (A 28 k = 0 ∨ A 28 k = 1) ∧ 0 ≤ A 7 (200 * q + k) ∧ A 7 (200 * q + k) ≤ 3)
    (hx : ∀ k, 0 ≤ k → k ≤ K → (k = K ∨ (A 28 k = 1 ∧ A 7 (200 * q + k) = 1)) → 0 ≤ A 12 (200 * q + k) ∧ A 12 (200 * q + k) ≤ 60 ∧ 0 ≤ A 11 (200 * q + k) ∧ A 11 (200 * q + k) + A 12 (200 * q + k) ≤ 4096 ∧ ∀ i, 0 ≤ i → i < A 12 (200 * q + k) → 0 ≤ A 16 (4096 * q + A 11 (200 * q + k) + i) ∧ A 16 (4096 * q + A 11 (200 * q + k) + i) < 300 ∧ (A 5 (300 * q + A 16 (4096 * q + A 11 (200 * q + k) + i)) = 0 ∨ A 5 (300 * q + A 16 (4096 * q + A 11 (200 * q + k) + i)) = 1) ∧ (A 5 (300 * q + A 16 (4096 * q + A 11 (200 * q + k) + i)) = 1 → 0 ≤ A 27 (A 16 (4096 * q + A 11 (200 * q + k) + i)) ∧ A 27 (A 16 (4096 * q + A 11 (200 * q + k) + i)) < 200)) :
    ∃ z : Int → Int64, g_X11_frameOf n 0 (qz K) (ms F A J) = some (ms F A (u1 J 20 z)) ∧ (∀ x, ¬(4 * (200 * q + K) ≤ x ∧ x < 4 * (200 * q + K) + 4) → z x = J 20 x) ∧ ∀ h, 0 ≤ h → h < 200 → (bt z (4 * (200 * q + K)) h ↔ bt (J 20) (4 * (200 * q + K)) h ∨ mnd q K A h) := by
  obtain ⟨n1, n2, n3, n4, n5⟩ := hx K hK (Int.le_refl _) (Or.inl rfl)
  obtain ⟨z0, e0, z01, z02⟩ := m_needs (F := F) (A := A) (J := J) (n := n) (q := q) (s := 200 * q + K) (o := 200 * q + K) hn hq h32 (by omega) (by omega) (by omega) (by omega) n1 n2 n3 n4 n5
  have lp := lp_inv (b := gL_X11_frameOf_19 n 0 (qz K) (qz (200 * q + K))) (fun t c => ∃ z : Int → Int64, c = (qz t, ms F A (u1 J 20 z)) ∧ (∀ x, ¬(4 * (200 * q + K) ≤ x ∧ x < 4 * (200 * q + K) + 4) → z x = J 20 x) ∧ ∀ h, 0 ≤ h → h < 200 → (bt z (4 * (200 * q + K)) h ↔ (bt (J 20) (4 * (200 * q + K)) h ∨ ndt q A (200 * q + K) h) ∨ ∃ e, 0 ≤ e ∧ e < t ∧ A 28 e = 1 ∧ A 7 (200 * q + e) = 1 ∧ (h = e ∨ ndt q A (200 * q + e) h)))
    (Q := fun c => ∃ z : Int → Int64, c = ms F A (u1 J 20 z) ∧ (∀ x, ¬(4 * (200 * q + K) ≤ x ∧ x < 4 * (200 * q + K) + 4) → z x = J 20 x) ∧ ∀ h, 0 ≤ h → h < 200 → (bt z (4 * (200 * q + K)) h ↔ (bt (J 20) (4 * (200 * q + K)) h ∨ ndt q A (200 * q + K) h) ∨ ∃ e, 0 ≤ e ∧ e < K ∧ A 28 e = 1 ∧ A 7 (200 * q + e) = 1 ∧ (h = e ∨ ndt q A (200 * q + e) h))) K (n := n) (i0 := 0) hK (by omega) (c0 := (qz 0, ms F A (u1 J 20 z0))) ⟨z0, rfl, z01, fun h h0 h1 => ⟨fun w => Or.inl ((z02 h h0 h1).mp w), fun w => by
        rcases w with w | ⟨i, i1, i2, _⟩
        · exact (z02 h h0 h1).mpr w
        · omega⟩⟩ (by
      rintro t c t1 t2 ⟨z, rfl, y1, y2⟩
      obtain ⟨x1, x2, x3⟩ := hA t t1 t2
      have skip : ¬(A 28 t = 1 ∧ A 7 (200 * q + t) = 1) → ∀ h, 0 ≤ h → h < 200 → (bt z (4 * (200 * q + K)) h ↔ (bt (J 20) (4 * (200 * q + K)) h ∨ ndt q A (200 * q + K) h) ∨ ∃ e, 0 ≤ e ∧ e < t + 1 ∧ A 28 e = 1 ∧ A 7 (200 * q + e) = 1 ∧ (h = e ∨ ndt q A (200 * q + e) h)) := by
        intro hne h h0 h1
        rw [y2 h h0 h1]
        constructor
        · rintro (w | ⟨i, i1, i2, i3⟩)
          · exact Or.inl w
          · exact Or.inr ⟨i, i1, by omega, i3⟩
        · rintro (w | ⟨i, i1, i2, i3, i4, i5⟩)
          · exact Or.inl w
          · have : i ≠ t := fun e => hne (by rw [← e]; exact ⟨i3, i4⟩)
            exact Or.inr ⟨i, i1, by omega, i3, i4, i5⟩
      by_cases q0 : A 28 t = 0
      · refine ⟨_, ?_, z, rfl, y1, skip (by omega)⟩
        unfold gL_X11_frameOf_19 g_X11_frameOf_19 g_X11_frameOf_89
        simp (disch := first | assumption | omega) only [qpT, qpF, qz_lit, qz_add, qz_mul, qz_neg, qz_sub, qz_inj, qz_lt, qz_le, qz_div, qp_0, qp_1, hp_bz_qp, hp_bz_0, hp_bz_1, if_neg, if_true, gp_0, gp_5, gp_6, gp_7, gp_8, gp_9, gp_10, gp_11, gp_12, gp_13, gp_14, gp_15, gp_16, gp_17, gp_18, gp_19, gp_20, gp_21, gp_22, gp_23, gp_24, gp_25, gp_26, gp_27, gp_28, gp_38, gp_39, gp_40, gp_41, gp_42, gp_44, gp_45, gp_47, gp_49, gp_51, gp_52, gp_56, gp_57, gp_58, gp_60, gp_61, gp_62, gp_63, gp_64, gp_65, gp_66, gp_68, gp_69, gp_70, gp_72, gp_73, gp_74, gp_75, gp_76, gp_77, gp_78, gp_79, gp_81, gp_83, gp_84, ga_28, bd_some, q0]
      have q1 : A 28 t = 1 := by omega
      by_cases q2 : A 7 (200 * q + t) = 1
      · obtain ⟨w1, w2, w3, w4, w5⟩ := hx t t1 (by omega) (Or.inr ⟨q1, q2⟩)
        obtain ⟨z', e', z1', z2'⟩ := m_needs (F := F) (A := A) (J := u1 J 20 (v1 z (4 * (200 * q + K) + t / 64) (z (4 * (200 * q + K) + t / 64) ||| ((1 : Int64) <<< (Int32.toInt64 (qz (t - t / 64 * 64)) &&& 63))))) (n := n) (q := q) (s := 200 * q + K) (o := 200 * q + t) hn hq h32 (by omega) (by omega) (by omega) (by omega) w1 w2 w3 w4 w5
        rw [u1_1] at e'
        simp only [u1_s] at z1' z2'
        refine ⟨_, ?_, z', rfl, fun x hx => ?_, fun h h0 h1 => ?_⟩
        · unfold gL_X11_frameOf_19 g_X11_frameOf_19 g_X11_frameOf_89
          simp (disch := first | assumption | omega) only [qpT, qpF, qz_lit, qz_add, qz_mul, qz_neg, qz_sub, qz_inj, qz_lt, qz_le, qz_div, qp_0, qp_1, hp_bz_qp, hp_bz_0, hp_bz_1, if_neg, if_true, gf_ms, h32, gp_0, gp_5, gp_6, gp_7, gp_8, gp_9, gp_10, gp_11, gp_12, gp_13, gp_14, gp_15, gp_16, gp_17, gp_18, gp_19, gp_20, gp_21, gp_22, gp_23, gp_24, gp_25, gp_26, gp_27, gp_28, gp_38, gp_39, gp_40, gp_41, gp_42, gp_44, gp_45, gp_47, gp_49, gp_51, gp_52, gp_56, gp_57, gp_58, gp_60, gp_61, gp_62, gp_63, gp_64, gp_65, gp_66, gp_68, gp_69, gp_70, gp_72, gp_73, gp_74, gp_75, gp_76, gp_77, gp_78, gp_79, gp_81, gp_83, gp_84, ga_28, ga_7, gj_20, uj_20, u1_s, bd_some, q1, q2]
          rw [v2_u1, u1_s, u1_1, e', bd_some]
        · rw [z1' x hx, v1_o (by omega)]; exact y1 x hx
        · rw [z2' h h0 h1, bt_set t1 h0, y2 h h0 h1]
          constructor
          · rintro (((w | ⟨i, i1, i2, i3⟩) | w) | w)
            · exact Or.inl w
            · exact Or.inr ⟨i, i1, by omega, i3⟩
            · exact Or.inr ⟨t, t1, by omega, q1, q2, Or.inl w⟩
            · exact Or.inr ⟨t, t1, by omega, q1, q2, Or.inr w⟩
          · rintro (w | ⟨i, i1, i2, i3, i4, i5⟩)
            · exact Or.inl (Or.inl (Or.inl w))
            · by_cases e : i = t
              · subst e
                rcases i5 with i5 | i5
                · exact Or.inl (Or.inr i5)
                · exact Or.inr i5
              · exact Or.inl (Or.inl (Or.inr ⟨i, i1, by omega, i3, i4, i5⟩))
      · refine ⟨_, ?_, z, rfl, y1, skip (fun y => q2 y.2)⟩
        unfold gL_X11_frameOf_19 g_X11_frameOf_19 g_X11_frameOf_89
        simp (disch := first | assumption | omega) only [qpT, qpF, qz_lit, qz_add, qz_mul, qz_neg, qz_sub, qz_inj, qz_lt, qz_le, qz_div, qp_0, qp_1, hp_bz_qp, hp_bz_0, hp_bz_1, if_neg, if_false, gf_ms, h32, gp_0, gp_5, gp_6, gp_7, gp_8, gp_9, gp_10, gp_11, gp_12, gp_13, gp_14, gp_15, gp_16, gp_17, gp_18, gp_19, gp_20, gp_21, gp_22, gp_23, gp_24, gp_25, gp_26, gp_27, gp_28, gp_38, gp_39, gp_40, gp_41, gp_42, gp_44, gp_45, gp_47, gp_49, gp_51, gp_52, gp_56, gp_57, gp_58, gp_60, gp_61, gp_62, gp_63, gp_64, gp_65, gp_66, gp_68, gp_69, gp_70, gp_72, gp_73, gp_74, gp_75, gp_76, gp_77, gp_78, gp_79, gp_81, gp_83, gp_84, ga_28, ga_7, bd_some, q1, q2]) (by
      rintro c ⟨z, rfl, y⟩
      refine ⟨_, ?_, z, rfl, y⟩
      unfold gL_X11_frameOf_19 g_X11_frameOf_19
      simp (disch := first | assumption | omega) only [qpT, qpF, qz_lit, qz_add, qz_mul, qz_neg, qz_sub, qz_inj, qz_lt, qz_le, qz_div, qp_0, qp_1, hp_bz_qp, hp_bz_0, hp_bz_1, if_pos])
  obtain ⟨c, e, z, rfl, y1, y2⟩ := lp
  refine ⟨z, ?_, y1, fun h h0 h1 => ?_⟩
  · unfold g_X11_frameOf g_X11_frameOf_0
    simp (disch := first | assumption | omega) only [qpT, qpF, qz_lit, qz_add, qz_mul, qz_neg, qz_sub, qz_inj, qz_lt, qz_le, qz_div, qp_0, qp_1, hp_bz_qp, hp_bz_0, hp_bz_1, gf_ms, h32]
    rw [e0, bd_some, e, bd_some]
  · rw [y2 h h0 h1]
    unfold mnd
    constructor
    · rintro ((w | w) | w)
      · exact Or.inl w
      · exact Or.inr (Or.inl w)
      · exact Or.inr (Or.inr w)
    · rintro (w | w | w)
      · exact Or.inl (Or.inl w)
      · exact Or.inl (Or.inr w)
      · exact Or.inr w
end MEN
