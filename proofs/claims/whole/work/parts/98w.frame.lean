/-! The frame of a statement: the class -/
section FRM
variable {f : Nat → Nat → Int} {d : Nat → Nat} {a : Nat → Int → Int} {ni : Nat → Nat} {j : Nat → Int → Int64} {n b : Nat} {k K hc pc : Int}
/-- the hypotheses that are needed -/
theorem c_frameH (hb : bks b) (hn : 100000 ≤ n) {M v2' : Int} (H11 : Rw (f (b + 11) 3) (f (b + 11) 2) (ni (b + 11 + 1)) (nC0 (b + 11 + 2)) 4096 (a (b + 11 + 2))) (H : Rw (f (b + 20) 3) (f (b + 20) 2) (ni (b + 20 + 1)) (nC0 (b + 20 + 2)) M (a (b + 20 + 2))) (hc9 : f 66 9 = hc) (h0 : 0 ≤ hc) (h1 : hc ≤ 200) (hM : f (b + 20) 2 + hc ≤ M) (hasc : asc (a 73) 0 hc)
    (hh : ∀ i, 0 ≤ i → i < hc → 0 ≤ a 73 i ∧ a 73 i < 200 ∧ a 73 i < f (b + 11) 3 ∧ (a (b + 8) (a 73 i) = 0 ∨ a (b + 8) (a 73 i) = 1) ∧ (a (b + 8) (a 73 i) = 0 → a (b + 11 + 2) (a 73 i + 1) - a (b + 11 + 2) (a 73 i) = 2 ∧ 0 ≤ a (b + 11 + 1) (a (b + 11 + 2) (a 73 i) + 1) ∧ a (b + 11 + 1) (a (b + 11 + 2) (a 73 i) + 1) < 300)) (hnd : ∀ x, 0 ≤ x → x < 300 → 0 ≤ a 72 x ∧ a 72 x < 100000) :
    ∃ (g : Int → Int) (N : Nat) (u : Int), hp_lp (gL_X7_makeFrame_9 n 66 b (qz v2')) n (qz 0, cs f d a ni j) = some (cs (u2 f (b + 20) 2 u) d (u1 a (b + 20 + 1) g) (u1 ni (b + 20 + 1) N) j) ∧ f (b + 20) 2 ≤ u ∧ u ≤ f (b + 20) 2 + hc ∧ (∀ t, t < f (b + 20) 2 → g t = a (b + 20 + 1) t) ∧ asc g (f (b + 20) 2) u ∧ (∀ h, mem g (f (b + 20) 2) u h ↔ ∃ i, 0 ≤ i ∧ i < hc ∧ a 73 i = h ∧ (a (b + 8) h = 1 ∨ 0 < a 72 (a (b + 11 + 1) (a (b + 11 + 2) h + 1)))) ∧ Rw (f (b + 20) 3) u N (nC0 (b + 20 + 2)) M (a (b + 20 + 2)) := by
  have hbb : b = 1 ∨ b = 33 := hb
  have hMM : M ≤ 65536 ∧ 0 ≤ f (b + 20) 2 := by
    obtain ⟨r1, r2, r3, r4, r5, r6, r7, r8, r9, r10, r11, r12⟩ := H
    omega
  have lp := lp_inv (b := gL_X7_makeFrame_9 n 66 b (qz v2')) (fun t c => ∃ (g : Int → Int) (N : Nat) (u : Int), c = (qz t, cs (u2 f (b + 20) 2 u) d (u1 a (b + 20 + 1) g) (u1 ni (b + 20 + 1) N) j) ∧ f (b + 20) 2 ≤ u ∧ u ≤ f (b + 20) 2 + t ∧ (∀ t, t < f (b + 20) 2 → g t = a (b + 20 + 1) t) ∧ asc g (f (b + 20) 2) u ∧ (∀ h, mem g (f (b + 20) 2) u h ↔ ∃ i, 0 ≤ i ∧ i < t ∧ a 73 i = h ∧ (a (b + 8) h = 1 ∨ 0 < a 72 (a (b + 11 + 1) (a (b + 11 + 2) h + 1)))) ∧ Rw (f (b + 20) 3) u N (nC0 (b + 20 + 2)) M (a (b + 20 + 2)))
    (Q := fun c => ∃ (g : Int → Int) (N : Nat) (u : Int), c = cs (u2 f (b + 20) 2 u) d (u1 a (b + 20 + 1) g) (u1 ni (b + 20 + 1) N) j ∧ f (b + 20) 2 ≤ u ∧ u ≤ f (b + 20) 2 + hc ∧ (∀ t, t < f (b + 20) 2 → g t = a (b + 20 + 1) t) ∧ asc g (f (b + 20) 2) u ∧ (∀ h, mem g (f (b + 20) 2) u h ↔ ∃ i, 0 ≤ i ∧ i < hc ∧ a 73 i = h ∧ (a (b + 8) h = 1 ∨ 0 < a 72 (a (b + 11 + 1) (a (b + 11 + 2) h + 1)))) ∧ Rw (f (b + 20) 3) u N (nC0 (b + 20 + 2)) M (a (b + 20 + 2))) hc (n := n) (i0 := 0) h0 (by omega) (c0 := (qz 0, cs f d a ni j)) ?_ ?_ ?_
  · obtain ⟨c, e, g, N, u, rfl, h⟩ := lp
    exact ⟨g, N, u, e, h⟩
  · refine ⟨a (b + 20 + 1), ni (b + 20 + 1), f (b + 20) 2, by rw [u1_id (f := a) rfl, u1_id (f := ni) rfl, u2_id rfl], Int.le_refl _, by omega, fun _ _ => rfl, fun i k i1 i2 i3 => by omega, fun h => ⟨fun ⟨i, i1, i2, _⟩ => by omega, fun ⟨i, i1, i2, _⟩ => by omega⟩, H⟩
  · rintro t c t1 t2 ⟨g, N, u, rfl, u1', u2', g1, g2, g3, g4⟩
    obtain ⟨q1, q2, q2', q3, q4⟩ := hh t t1 t2
    have H11' : Rw (u2 f (b + 20) 2 u (b + 11) 3) (u2 f (b + 20) 2 u (b + 11) 2) ((u1 ni (b + 20 + 1) N (b + 11 + 1) : Nat) : Int) (nC0 (b + 11 + 2)) 4096 (u1 a (b + 20 + 1) g (b + 11 + 2)) := by
      simp (disch := omega) only [u2_b, u1_o]; exact H11
    have body : gL_X7_makeFrame_9 n 66 b (qz v2') (qz t, cs (u2 f (b + 20) 2 u) d (u1 a (b + 20 + 1) g) (u1 ni (b + 20 + 1) N) j) = if a (b + 8) (a 73 t) = 1 ∨ 0 < a 72 (a (b + 11 + 1) (a (b + 11 + 2) (a 73 t) + 1)) then g_X7_makeFrame_54 n 66 b (qz v2') (qz t) (qz (a 73 t)) (cs (u2 f (b + 20) 2 u) d (u1 a (b + 20 + 1) g) (u1 ni (b + 20 + 1) N) j) else some (.inl (qz (t + 1), cs (u2 f (b + 20) 2 u) d (u1 a (b + 20 + 1) g) (u1 ni (b + 20 + 1) N) j)) := by
      unfold gL_X7_makeFrame_9 g_X7_makeFrame_9
      rcases q3 with z | z
      · obtain ⟨z1, z2, z3⟩ := q4 z
        have z4 := hnd _ z2 z3
        have eg := c_get (f := u2 f (b + 20) 2 u) (a := u1 a (b + 20 + 1) g) (ni := u1 ni (b + 20 + 1) N) (d := d) (j := j) (n := n) (k := a 73 t) (i := 1) (rws_b11 hb) H11' q1 (by rw [u2_b (by omega)]; exact q2') (by omega) (by simp (disch := omega) only [u1_o]; omega)
        simp (disch := omega) only [u1_o] at eg
        simp (disch := first | assumption | omega) only [qpT, qpF, qz_lit, qz_add, qz_mul, qz_neg, qz_sub, qz_inj, qz_lt, qz_le, qz_div, qp_0, qp_1, hp_bz_qp, hp_bz_0, hp_bz_1, if_neg, gf_cs, u2_b, hc9, gpc_66_8, gac_73, u1_o, gpb_6, gab_8, gpb_9, z, eg, gpc_66_7, gac_72, bd_some]
        by_cases z5 : a 72 (a (b + 11 + 1) (a (b + 11 + 2) (a 73 t) + 1)) ≤ 0
        · rw [if_pos z5, if_neg (by omega)]
          unfold g_X7_makeFrame_63
          simp only [qz_lit, qz_add]
        · rw [if_neg z5, if_pos (by omega)]
      · rw [if_pos (Or.inl z)]
        simp (disch := first | assumption | omega) only [qpT, qpF, qz_lit, qz_add, qz_mul, qz_neg, qz_sub, qz_inj, qz_lt, qz_le, qz_div, qp_0, qp_1, hp_bz_qp, hp_bz_0, hp_bz_1, if_neg, if_true, gf_cs, u2_b, hc9, gpc_66_8, gac_73, u1_o, gpb_6, gab_8, z, bd_some]
    by_cases sel : a (b + 8) (a 73 t) = 1 ∨ 0 < a 72 (a (b + 11 + 1) (a (b + 11 + 2) (a 73 t) + 1))
    · rw [if_pos sel] at body
      obtain ⟨g', N', ea, a1, a2, a3⟩ := c_add (f := u2 f (b + 20) 2 u) (a := u1 a (b + 20 + 1) g) (ni := u1 ni (b + 20 + 1) N) (d := d) (j := j) (n := n) (x := a 73 t) (M := M) (rws_b20 hb) (by simp (disch := omega) only [u2_c, u2_a, u1_o, u1_s]; exact g4) (by rw [u2_a]; omega)
      simp (disch := omega) only [u2_a, u2_d, u2_c, u1_1, u1_s, u1_o] at ea a1 a2 a3
      refine ⟨_, ?_, g', N', u + 1, rfl, by omega, by omega, fun y hy => by rw [a1 y (by omega)]; exact g1 y hy, fun i k i1 i2 i3 => ?_, fun h => ?_, a3⟩
      · rw [body]
        unfold g_X7_makeFrame_54 g_X7_makeFrame_63
        rw [gpb_12 hb, ea, bd_some]
        simp only [qz_lit, qz_add]
      · by_cases z : k = u
        · rw [z, a2, a1 i (by omega)]
          obtain ⟨i', y1, y2, y3, _⟩ := (g3 (g i)).mp ⟨i, i1, by omega, rfl⟩
          rw [← y3]
          exact hasc i' t y1 y2 t2
        · rw [a1 i (by omega), a1 k (by omega)]
          exact g2 i k i1 i2 (by omega)
      · constructor
        · rintro ⟨i, i1, i2, i3⟩
          by_cases z : i = u
          · rw [z, a2] at i3
            exact ⟨t, t1, by omega, i3, by rw [← i3]; exact sel⟩
          · rw [a1 i (by omega)] at i3
            obtain ⟨i', y1, y2, y3⟩ := (g3 h).mp ⟨i, i1, by omega, i3⟩
            exact ⟨i', y1, by omega, y3⟩
        · rintro ⟨i, i1, i2, i3, i4⟩
          by_cases z : i = t
          · rw [z] at i3
            exact ⟨u, u1', by omega, by rw [a2]; exact i3⟩
          · obtain ⟨i', y1, y2, y3⟩ := (g3 h).mpr ⟨i, i1, by omega, i3, i4⟩
            exact ⟨i', y1, by omega, by rw [a1 i' y2]; exact y3⟩
    · rw [if_neg sel] at body
      refine ⟨_, body, g, N, u, rfl, u1', by omega, g1, g2, fun h => ?_, g4⟩
      rw [g3 h]
      constructor
      · rintro ⟨i, i1, i2, i3⟩
        exact ⟨i, i1, by omega, i3⟩
      · rintro ⟨i, i1, i2, i3, i4⟩
        have : i ≠ t := fun z => sel (by rw [← z, i3]; exact i4)
        exact ⟨i, i1, by omega, i3, i4⟩
  · rintro c ⟨g, N, u, rfl, h⟩
    refine ⟨_, ?_, g, N, u, rfl, h⟩
    unfold gL_X7_makeFrame_9 g_X7_makeFrame_9
    simp (disch := first | assumption | omega) only [qpT, qpF, qz_lit, qz_add, qz_mul, qz_neg, qz_sub, qz_inj, qz_lt, qz_le, qz_div, qp_0, qp_1, hp_bz_qp, hp_bz_0, hp_bz_1, if_pos, gf_cs, u2_b, hc9]
end FRM
