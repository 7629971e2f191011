/-! A hypothesis ends: both -/
section ENI
variable {b n : Nat} {q S K P len c b0 e0 w : Int} {f0 : Nat → Nat → Int} {a0 : Nat → Int → Int} {ni0 : Nat → Nat} {j0 : Nat → Int → Int64} {F0 : Nat → Int} {A0 : Nat → Int → Int} {J0 : Nat → Int → Int64} {f : Nat → Nat → Int} {d : Nat → Nat} {a : Nat → Int → Int} {ni : Nat → Nat} {j : Nat → Int → Int64} {F : Nat → Int} {A : Nat → Int → Int} {J : Nat → Int → Int64}
theorem M_h {kd st0 sym : Int} (hn : 100000 ≤ n) (hq : 0 ≤ q ∧ q ≤ 1) (h32 : F 32 = q) (h15 : A 15 q = K) (hK0 : 0 ≤ K) (hK : K < 200) (h7 : A 7 (200 * q + K) = kd) (hk0 : 0 ≤ kd) (hk : kd < 2) (h11 : A 11 (200 * q + K) = st0) (hs0 : 0 ≤ st0) (hs1 : st0 + 1 < 4096) (hsy : kd = 0 → A 16 (4096 * q + st0 + 1) = sym ∧ 0 ≤ sym ∧ sym < 300) (h28 : ∀ k, 0 ≤ k → k < K → A 28 k = 0 ∨ A 28 k = 1) :
    ∃ (A2 : Nat → Int → Int) (J2 : Nat → Int → Int64), g_X11_endStatement n 0 (ms F A J) = some (ms (u1 F 34 0) A2 J2) ∧ (∀ i, i ≠ 15 → i ≠ 27 → i ≠ 28 → A2 i = A i) ∧ A2 15 q = K + 1 ∧ A2 28 = v1 (A 28) K 1 ∧ A2 27 = (if kd = 0 then v1 (A 27) sym K else A 27) ∧ (∀ x, x ≠ q → A2 15 x = A 15 x) ∧ (∀ i, i ≠ 19 → i ≠ 20 → J2 i = J i) ∧ (∀ x, ¬(4 * (200 * q + K) ≤ x ∧ x < 4 * (200 * q + K) + 4) → J2 19 x = J 19 x ∧ J2 20 x = J 20 x) ∧ (∀ x, 4 * (200 * q + K) ≤ x → x < 4 * (200 * q + K) + 4 → J2 20 x = 0) ∧ ∀ h, 0 ≤ h → h < 200 → (bt (J2 19) (4 * (200 * q + K)) h ↔ h < K ∧ A 28 h = 1) := by
  obtain ⟨z19, z20, M1, M11, M12⟩ := m_end1 (F := F) (A := A) (J := J) (n := n) (s := 200 * q + K) (v1' := K) hn (by omega) (by omega)
  obtain ⟨y19, M2, M21, M22⟩ := m_end2 (F := F) (A := A) (J := u1 (u1 J 19 z19) 20 z20) (n := n) (s := 200 * q + K) (K := K) hn (by omega) (by omega) hK0 hK h28
  simp (disch := omega) only [u1_o, u1_s] at M21 M22
  have Y0 : g_X11_endStatement n 0 (ms F A J) = some (ms (u1 F 34 0) (v2 (if kd = 0 then v2 (v2 A 28 K 1) 27 sym K else v2 A 28 K 1) 15 q (K + 1)) (u1 (u1 (u1 J 19 z19) 20 z20) 19 y19)) := by
    unfold g_X11_endStatement g_X11_endStatement_0
    simp only [qz_lit]
    simp (disch := first | assumption | omega) only [qz_mul, qz_add, gf_ms, h32, gp_0, gp_5, gp_6, gp_7, gp_8, gp_9, gp_10, gp_11, gp_12, gp_13, gp_14, gp_15, gp_16, gp_17, gp_18, gp_19, gp_20, gp_21, gp_22, gp_23, gp_24, gp_25, gp_26, gp_27, gp_28, gp_38, gp_39, gp_40, gp_41, gp_42, gp_44, gp_45, gp_47, gp_49, gp_51, gp_52, gp_56, gp_57, gp_58, gp_60, gp_61, gp_62, gp_63, gp_64, gp_65, gp_66, gp_68, gp_69, gp_70, gp_72, gp_73, gp_74, gp_75, gp_76, gp_77, gp_78, gp_79, gp_81, gp_83, gp_84, ga_15, h15, bd_some]
    rw [M1, bd_some, M2, bd_some]
    simp (disch := first | assumption | omega) only [gp_0, gp_5, gp_6, gp_7, gp_8, gp_9, gp_10, gp_11, gp_12, gp_13, gp_14, gp_15, gp_16, gp_17, gp_18, gp_19, gp_20, gp_21, gp_22, gp_23, gp_24, gp_25, gp_26, gp_27, gp_28, gp_38, gp_39, gp_40, gp_41, gp_42, gp_44, gp_45, gp_47, gp_49, gp_51, gp_52, gp_56, gp_57, gp_58, gp_60, gp_61, gp_62, gp_63, gp_64, gp_65, gp_66, gp_68, gp_69, gp_70, gp_72, gp_73, gp_74, gp_75, gp_76, gp_77, gp_78, gp_79, gp_81, gp_83, gp_84, ga_7, h7, bd_some]
    rw [if_pos (by rw [qz_lt (by omega) (by omega) (by omega) (by omega)]; exact hk)]
    simp (disch := first | assumption | omega) only [gp_0, gp_5, gp_6, gp_7, gp_8, gp_9, gp_10, gp_11, gp_12, gp_13, gp_14, gp_15, gp_16, gp_17, gp_18, gp_19, gp_20, gp_21, gp_22, gp_23, gp_24, gp_25, gp_26, gp_27, gp_28, gp_38, gp_39, gp_40, gp_41, gp_42, gp_44, gp_45, gp_47, gp_49, gp_51, gp_52, gp_56, gp_57, gp_58, gp_60, gp_61, gp_62, gp_63, gp_64, gp_65, gp_66, gp_68, gp_69, gp_70, gp_72, gp_73, gp_74, gp_75, gp_76, gp_77, gp_78, gp_79, gp_81, gp_83, gp_84, ua_28, ga_7, v2_o, h7, bd_some]
    unfold g_X11_endStatement_162
    by_cases z : kd = 0
    · obtain ⟨s1, s2, s3⟩ := hsy z
      rw [z, if_pos rfl, if_pos rfl]
      simp (disch := first | assumption | omega) only [qpT, qpF, qz_lit, qz_add, qz_mul, qz_neg, qz_sub, qz_inj, qz_lt, qz_le, qz_div, qp_0, qp_1, hp_bz_qp, hp_bz_0, hp_bz_1, gf_ms, wf_ms, h32, gp_0, gp_5, gp_6, gp_7, gp_8, gp_9, gp_10, gp_11, gp_12, gp_13, gp_14, gp_15, gp_16, gp_17, gp_18, gp_19, gp_20, gp_21, gp_22, gp_23, gp_24, gp_25, gp_26, gp_27, gp_28, gp_38, gp_39, gp_40, gp_41, gp_42, gp_44, gp_45, gp_47, gp_49, gp_51, gp_52, gp_56, gp_57, gp_58, gp_60, gp_61, gp_62, gp_63, gp_64, gp_65, gp_66, gp_68, gp_69, gp_70, gp_72, gp_73, gp_74, gp_75, gp_76, gp_77, gp_78, gp_79, gp_81, gp_83, gp_84, ga_11, ga_16, ga_15, ua_27, ua_15, v2_o, h11, s1, h15, bd_some]
    · rw [if_neg (by rw [qz_inj (by omega) (by omega) (by omega) (by omega)]; exact z), if_neg z]
      simp (disch := first | assumption | omega) only [qpT, qpF, qz_lit, qz_add, qz_mul, qz_neg, qz_sub, qz_inj, qz_lt, qz_le, qz_div, qp_0, qp_1, hp_bz_qp, hp_bz_0, hp_bz_1, gf_ms, wf_ms, h32, gp_0, gp_5, gp_6, gp_7, gp_8, gp_9, gp_10, gp_11, gp_12, gp_13, gp_14, gp_15, gp_16, gp_17, gp_18, gp_19, gp_20, gp_21, gp_22, gp_23, gp_24, gp_25, gp_26, gp_27, gp_28, gp_38, gp_39, gp_40, gp_41, gp_42, gp_44, gp_45, gp_47, gp_49, gp_51, gp_52, gp_56, gp_57, gp_58, gp_60, gp_61, gp_62, gp_63, gp_64, gp_65, gp_66, gp_68, gp_69, gp_70, gp_72, gp_73, gp_74, gp_75, gp_76, gp_77, gp_78, gp_79, gp_81, gp_83, gp_84, ga_15, ua_15, v2_o, h15, bd_some]
  refine ⟨_, _, Y0, fun i i1 i2 i3 => ?_, by rw [v2_s, v1_s], ?_, ?_, fun x hx => ?_, fun i i1 i2 => by rw [u1_o i1, u1_o i2, u1_o i1], fun x hx => ⟨?_, ?_⟩, fun x x1 x2 => ?_, fun h h0 h1 => ?_⟩
  · rw [v2_o i1]
    by_cases z : kd = 0
    · rw [if_pos z, v2_o i2, v2_o i3]
    · rw [if_neg z, v2_o i3]
  · rw [v2_o (by decide)]
    by_cases z : kd = 0
    · rw [if_pos z, v2_o (by decide), v2_s]
    · rw [if_neg z, v2_s]
  · rw [v2_o (by decide)]
    by_cases z : kd = 0
    · rw [if_pos z, if_pos z, v2_s, v2_o (by decide)]
    · rw [if_neg z, if_neg z, v2_o (by decide)]
  · rw [v2_s, v1_o hx]
    by_cases z : kd = 0
    · rw [if_pos z, v2_o (by decide), v2_o (by decide)]
    · rw [if_neg z, v2_o (by decide)]
  · rw [u1_s, M21 x hx]; exact (M11 x hx).1
  · rw [u1_o (by decide), u1_s]; exact (M11 x hx).2
  · rw [u1_o (by decide), u1_s]; exact (M12 x x1 x2).2
  · rw [u1_s, M22 h h0 h1]
    exact ⟨fun z => z.elim (fun z => absurd z (bt_zero (M12 _ (by omega) (by omega)).1)) id, Or.inr⟩
/-- the relation's frame, after a statement's end -/
theorem fr_end {f2 : Nat → Nat → Int} {a2 : Nat → Int → Int} {ni2 : Nat → Nat} {j2 : Nat → Int → Int64} {A2 : Nat → Int → Int} {J2 : Nat → Int → Int64} (Fr : FR b q f0 a0 ni0 j0 F0 A0 J0 f a ni j F A J) (hq : 0 ≤ q ∧ q ≤ 1) (hK0 : 0 ≤ K) (hK : K < 200) (h1 : ∀ i, ¬(b ≤ i ∧ i < b + 32) → ¬(65 ≤ i ∧ i < 78) → f2 i = f i ∧ a2 i = a i) (h1n : ∀ i, ¬(b ≤ i ∧ i < b + 32) → ni2 i = ni i) (h1j : ∀ i, ¬(b ≤ i ∧ i < b + 32) → j2 i = j i) (h8 : a2 (b + 2) = a (b + 2)) (h2 : ∀ i, i ≠ 15 → i ≠ 27 → i ≠ 28 → A2 i = A i) (h3 : ∀ x, x ≠ q → A2 15 x = A 15 x) (h4 : ∀ i, i ≠ 19 → i ≠ 20 → J2 i = J i) (h5 : ∀ x, ¬(4 * (200 * q + K) ≤ x ∧ x < 4 * (200 * q + K) + 4) → J2 19 x = J 19 x ∧ J2 20 x = J 20 x) : FR b q f0 a0 ni0 j0 F0 A0 J0 f2 a2 ni2 j2 (u1 F 34 0) A2 J2 := by
  obtain ⟨g1, g2, g3, g4, g5, g6, g7⟩ := Fr
  refine ⟨fun i i1 i2 => ?_, fun k hk => ?_, fun i hi => ?_, fun i x hi hx => ?_, fun i hi => ?_, fun i x i1 i2 hx => ?_, fun hb => by rw [h8]; exact g7 hb⟩
  · obtain ⟨e1, e2⟩ := h1 i i1 i2
    rw [e1, e2, h1n i i1, h1j i i1]; exact g1 i i1 i2
  · rw [u1_o (by omega)]; exact g2 k hk
  · rw [h2 i (by omega) (by omega) (by omega)]; exact g3 i hi
  · by_cases z : i = 15
    · subst z
      rw [show hlf 15 = 1 from rfl] at hx
      rw [h3 x (by omega)]; exact g4 15 x hi (by rw [show hlf 15 = 1 from rfl]; exact hx)
    · have n27 : i ≠ 27 := fun z => hi (by rw [z]; rfl)
      have n28 : i ≠ 28 := fun z => hi (by rw [z]; rfl)
      rw [h2 i z n27 n28]; exact g4 i x hi hx
  · rw [h4 i (by omega) (by omega)]; exact g5 i hi
  · have e := h5 x (by omega)
    by_cases z : i = 19
    · subst z; rw [e.1]; exact g6 19 x i1 i2 hx
    · have : i = 20 := by omega
      subst this; rw [e.2]; exact g6 20 x i1 i2 hx
end ENI
