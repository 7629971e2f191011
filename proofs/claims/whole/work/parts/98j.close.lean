/-! Blocks: what both do -/
section CLS
variable {f : Nat → Nat → Int} {d : Nat → Nat} {a : Nat → Int → Int} {ni : Nat → Nat} {j : Nat → Int → Int64} {n b : Nat} {k m D K : Int}
/-- the needs of symbols, after those of a statement -/
noncomputable def ndp (nd it : Int → Int) (s l m : Int) : Int → Int := fun x => nd x + m * cn (fun y => it (s + y) = x) l.toNat
theorem c_addNeeds (hb : bks b) (hn : 100000 ≤ n) {M : Int} (H : Rw (f (b + 11) 3) (f (b + 11) 2) (ni (b + 11 + 1)) (nC0 (b + 11 + 2)) M (a (b + 11 + 2))) (h0 : 0 ≤ k) (h1 : k < f (b + 11) 3) {l : Int} (hl : a (b + 11 + 2) (k + 1) - a (b + 11 + 2) k = l) (hr : ∀ i, 0 ≤ i → i < l → 0 ≤ a (b + 11 + 1) (a (b + 11 + 2) k + i) ∧ a (b + 11 + 1) (a (b + 11 + 2) k + i) < 300) : g_X7_addNeeds n 66 b (qz k) (qz m) (cs f d a ni j) = some (cs f d (u1 a 72 (ndp (a 72) (a (b + 11 + 1)) (a (b + 11 + 2) k) l m)) ni j) := by
  have hv := rws_b11 hb
  have hbb : b = 1 ∨ b = 33 := hb
  have hs := c_size (d := d) (j := j) (n := n) hv H h0 h1
  have hl0 : 0 ≤ l ∧ l ≤ 65536 := by
    have m1 := mono_k (rw_mono H) h0 h1
    obtain ⟨r1, r2, r3, r4, r5, r6, r7, r8, r9, r10, r11, r12⟩ := H
    omega
  have lp := lp_for (b := gL_X7_addNeeds_13 n 66 b (qz k) (qz m) (qz l)) (x := cs f d (u1 a 72 (ndp (a 72) (a (b + 11 + 1)) (a (b + 11 + 2) k) l m)) ni j) (fun i => (qz i, cs f d (u1 a 72 (ndp (a 72) (a (b + 11 + 1)) (a (b + 11 + 2) k) i m)) ni j)) l (n := n) (i0 := 0) hl0.1 (by omega) ?_ ?_
  · unfold g_X7_addNeeds g_X7_addNeeds_0
    rw [gpb_9 hb, hs, bd_some, hl]
    have e0 : u1 a 72 (ndp (a 72) (a (b + 11 + 1)) (a (b + 11 + 2) k) 0 m) = a := by
      apply u1_id
      funext x
      show a 72 x = a 72 x + m * 0
      omega
    rw [e0] at lp
    simp only [qz_lit]
    rw [lp, bd_some]
  · intro i i1 i2
    have hr' := hr i i1 i2
    have eg := c_get (f := f) (d := d) (a := u1 a 72 (ndp (a 72) (a (b + 11 + 1)) (a (b + 11 + 2) k) i m)) (ni := ni) (j := j) (n := n) (k := k) (i := i) (M := M) hv (by rw [u1_o (by omega)]; exact H) h0 h1 i1 (by rw [u1_o (by omega)]; omega)
    rw [u1_o (by omega), u1_o (by omega)] at eg
    unfold gL_X7_addNeeds_13 g_X7_addNeeds_13
    simp (disch := first | assumption | omega) only [qpT, qpF, qz_lit, qz_add, qz_mul, qz_neg, qz_sub, qz_inj, qz_lt, qz_le, qz_div, qp_0, qp_1, hp_bz_qp, hp_bz_0, hp_bz_1, if_pos, if_neg, if_true, if_false, u2_a, u2_b, u2_c, u2_d, u1_s, u1_o, u1_1, v1_s, v1_o, v1_e, v1_1, v2_s, v2_o, v2_2, not_true_eq_false, not_false_eq_true, gpb_9, eg, bd_some, gpc_66_7, gac_72, uac_72]
    rw [v2_u1, u1_s, u1_1]
    have e1 : v1 (ndp (a 72) (a (b + 11 + 1)) (a (b + 11 + 2) k) i m) (a (b + 11 + 1) (a (b + 11 + 2) k + i)) (ndp (a 72) (a (b + 11 + 1)) (a (b + 11 + 2) k) i m (a (b + 11 + 1) (a (b + 11 + 2) k + i)) + m) = ndp (a 72) (a (b + 11 + 1)) (a (b + 11 + 2) k) (i + 1) m := by
      funext x
      have et : (i + 1).toNat = i.toNat + 1 := by omega
      have ei : ((i.toNat : Nat) : Int) = i := by omega
      unfold ndp
      rw [et]
      show _ = a 72 x + m * (cn _ i.toNat + @ite _ (a (b + 11 + 1) (a (b + 11 + 2) k + ((i.toNat : Nat) : Int)) = x) (Classical.propDecidable _) 1 0)
      rw [ei]
      by_cases q : x = a (b + 11 + 1) (a (b + 11 + 2) k + i)
      · rw [q, v1_s, if_pos rfl, Int.mul_add]
        omega
      · rw [v1_o q, if_neg (fun z => q z.symm), Int.add_zero]
    rw [e1]
  · unfold gL_X7_addNeeds_13 g_X7_addNeeds_13
    simp (disch := first | assumption | omega) only [qpT, qpF, qz_lit, qz_add, qz_mul, qz_neg, qz_sub, qz_inj, qz_lt, qz_le, qz_div, qp_0, qp_1, hp_bz_qp, hp_bz_0, hp_bz_1, if_pos, if_neg, if_true, if_false, u2_a, u2_b, u2_c, u2_d, u1_s, u1_o, u1_1, v1_s, v1_o, v1_e, v1_1, v2_s, v2_o, v2_2, not_true_eq_false, not_false_eq_true]
/-- the variables of a block end -/
theorem c_closeV {lo hi : Int} (hn : 100000 ≤ n) (h4 : f 66 4 = hi) (h0 : 0 ≤ lo) (h1 : lo ≤ hi) (h2 : hi ≤ 300) (hv : ∀ i, 0 ≤ i → i < hi → 0 ≤ a 69 i ∧ a 69 i < 300) : ∃ ac2 : Int → Int, hp_lp (gL_X7_closeBlock_72 n 66) n (qz lo, cs f d a ni j) = some (cs f d (u1 a 70 ac2) ni j) ∧ ∀ x, (mem (a 69) lo hi x → ac2 x = 0) ∧ (¬mem (a 69) lo hi x → ac2 x = a 70 x) := by
  have lp := lp_inv (b := gL_X7_closeBlock_72 n 66) (fun t c => ∃ ac2 : Int → Int, c = (qz t, cs f d (u1 a 70 ac2) ni j) ∧ ∀ x, (mem (a 69) lo t x → ac2 x = 0) ∧ (¬mem (a 69) lo t x → ac2 x = a 70 x)) (Q := fun c => ∃ ac2 : Int → Int, c = cs f d (u1 a 70 ac2) ni j ∧ ∀ x, (mem (a 69) lo hi x → ac2 x = 0) ∧ (¬mem (a 69) lo hi x → ac2 x = a 70 x)) hi (n := n) (i0 := lo) h1 (by omega) (c0 := (qz lo, cs f d a ni j)) ?_ ?_ ?_
  · obtain ⟨c, e, ac2, rfl, h⟩ := lp
    exact ⟨ac2, e, h⟩
  · exact ⟨a 70, by rw [u1_id (f := a) rfl], fun x => ⟨fun ⟨i, i1, i2, _⟩ => by omega, fun _ => rfl⟩⟩
  · rintro t c t1 t2 ⟨ac2, rfl, h⟩
    have hv' := hv t (by omega) t2
    refine ⟨_, ?_, v1 ac2 (a 69 t) 0, rfl, fun x => ⟨?_, ?_⟩⟩
    · unfold gL_X7_closeBlock_72 g_X7_closeBlock_72
      simp (disch := first | assumption | omega) only [qpT, qpF, qz_lit, qz_add, qz_mul, qz_neg, qz_sub, qz_inj, qz_lt, qz_le, qz_div, qp_0, qp_1, hp_bz_qp, hp_bz_0, hp_bz_1, if_pos, if_neg, if_true, if_false, u2_a, u2_b, u2_c, u2_d, u1_s, u1_o, u1_1, v1_s, v1_o, v1_e, v1_1, v2_s, v2_o, v2_2, not_true_eq_false, not_false_eq_true, gf_cs, h4, gpc_66_3, gpc_66_5, gac_69, u1_o, uac_70, bd_some]
      rw [v2_u1, u1_s, u1_1]
    · rintro ⟨i, i1, i2, rfl⟩
      by_cases q : a 69 i = a 69 t
      · rw [q, v1_s]
      · rw [v1_o q]
        have : i ≠ t := fun z => q (by rw [z])
        exact (h _).1 ⟨i, i1, by omega, rfl⟩
    · intro hm
      rw [v1_o (fun z => hm ⟨t, t1, by omega, z.symm⟩)]
      exact (h x).2 (fun ⟨i, i1, i2, i3⟩ => hm ⟨i, i1, by omega, i3⟩)
  · rintro c ⟨ac2, rfl, h⟩
    refine ⟨_, ?_, ac2, rfl, h⟩
    unfold gL_X7_closeBlock_72 g_X7_closeBlock_72
    simp (disch := first | assumption | omega) only [qpT, qpF, qz_lit, qz_add, qz_mul, qz_neg, qz_sub, qz_inj, qz_lt, qz_le, qz_div, qp_0, qp_1, hp_bz_qp, hp_bz_0, hp_bz_1, if_pos, if_neg, if_true, if_false, u2_a, u2_b, u2_c, u2_d, u1_s, u1_o, u1_1, v1_s, v1_o, v1_e, v1_1, v2_s, v2_o, v2_2, not_true_eq_false, not_false_eq_true, gf_cs, h4]
/-- one hypothesis ends -/
theorem c_dropHyp (hb : bks b) (hn : 100000 ≤ n) {M : Int} (H : Rw (f (b + 11) 3) (f (b + 11) 2) (ni (b + 11 + 1)) (nC0 (b + 11 + 2)) M (a (b + 11 + 2))) (h0 : 0 ≤ k) (h1 : k < f (b + 11) 3) (h2 : f (b + 11) 3 ≤ 200) (hK : f b 5 = K) (hki : a (b + 8) k = 0 ∨ a (b + 8) k = 1) (hl2 : 1 ≤ a (b + 11 + 2) (k + 1) - a (b + 11 + 2) k) (h20 : a (b + 8) k = 0 → a (b + 11 + 2) (k + 1) - a (b + 11 + 2) k = 2) (hr : ∀ i, 0 ≤ i → i < a (b + 11 + 2) (k + 1) - a (b + 11 + 2) k → 0 ≤ a (b + 11 + 1) (a (b + 11 + 2) k + i) ∧ a (b + 11 + 1) (a (b + 11 + 2) k + i) < 300) :
    g_X7_dropHypothesis n 66 b (qz k) (cs f d a ni j) = some (cs f d (if a (b + 8) k = 0 then u1 (u1 a (b + 10) (v1 (a (b + 10)) k K)) 71 (v1 (a 71) (a (b + 11 + 1) (a (b + 11 + 2) k + 1)) 0) else u1 (u1 a (b + 10) (v1 (a (b + 10)) k K)) 72 (ndp (a 72) (a (b + 11 + 1)) (a (b + 11 + 2) k) (a (b + 11 + 2) (k + 1) - a (b + 11 + 2) k) (-1))) ni j) := by
  have hv := rws_b11 hb
  have hbb : b = 1 ∨ b = 33 := hb
  unfold g_X7_dropHypothesis g_X7_dropHypothesis_0
  rcases hki with z | z
  · have e2 := h20 z
    have hr1 := hr 1 (by omega) (by omega)
    have eg := c_get (f := f) (d := d) (a := v2 a (b + 10) k K) (ni := ni) (j := j) (n := n) (k := k) (i := 1) (M := M) hv (by rw [v2_o (by omega)]; exact H) h0 h1 (by omega) (by rw [v2_o (by omega)]; omega)
    rw [v2_o (by omega), v2_o (by omega)] at eg
    rw [if_pos z]
    simp (disch := first | assumption | omega) only [qpT, qpF, qz_lit, qz_add, qz_mul, qz_neg, qz_sub, qz_inj, qz_lt, qz_le, qz_div, qp_0, qp_1, hp_bz_qp, hp_bz_0, hp_bz_1, if_true, gf_cs, hK, gpb_8, gpb_6, gpb_9, uab_10, gab_8, v2_o, z, eg, gpc_66_6, uac_71, bd_some]
    rw [v2_u1, v2_u1, u1_o (by omega)]
  · have ea := c_addNeeds (f := f) (d := d) (a := v2 a (b + 10) k K) (ni := ni) (j := j) (n := n) (k := k) (m := -1) (M := M) hb hn (by rw [v2_o (by omega)]; exact H) h0 h1 rfl (by rw [v2_o (by omega), v2_o (by omega)]; exact hr)
    rw [if_neg (by omega)]
    simp (disch := first | assumption | omega) only [qpT, qpF, qz_lit, qz_add, qz_mul, qz_neg, qz_sub, qz_inj, qz_lt, qz_le, qz_div, qp_0, qp_1, hp_bz_qp, hp_bz_0, hp_bz_1, if_neg, gf_cs, hK, gpb_8, gpb_6, uab_10, gab_8, v2_o, z, ea, bd_some]
    rw [v2_u1]
/-- the hypotheses of a block end -/
theorem c_closeH (hb : bks b) (hn : 100000 ≤ n) {M lo hc : Int} (H : Rw (f (b + 11) 3) (f (b + 11) 2) (ni (b + 11 + 1)) (nC0 (b + 11 + 2)) M (a (b + 11 + 2))) (h2 : f (b + 11) 3 ≤ 200) (hK : f b 5 = K) (hc9 : f 66 9 = hc) (l0 : 0 ≤ lo) (l1 : lo ≤ hc) (l2 : hc ≤ 200) (hasc : asc (a 73) 0 hc) (hh : ∀ i, 0 ≤ i → i < hc → 0 ≤ a 73 i ∧ a 73 i < f (b + 11) 3 ∧ (a (b + 8) (a 73 i) = 0 ∨ a (b + 8) (a 73 i) = 1) ∧ 1 ≤ a (b + 11 + 2) (a 73 i + 1) - a (b + 11 + 2) (a 73 i) ∧ (a (b + 8) (a 73 i) = 0 → a (b + 11 + 2) (a 73 i + 1) - a (b + 11 + 2) (a 73 i) = 2) ∧ ∀ y, 0 ≤ y → y < a (b + 11 + 2) (a 73 i + 1) - a (b + 11 + 2) (a 73 i) → 0 ≤ a (b + 11 + 1) (a (b + 11 + 2) (a 73 i) + y) ∧ a (b + 11 + 1) (a (b + 11 + 2) (a 73 i) + y) < 300) :
    ∃ un2 fl2 nd2 : Int → Int, hp_lp (gL_X7_closeBlock_24 n 66 b) n (qz lo, cs f d a ni j) = some (cs f d (u1 (u1 (u1 a (b + 10) un2) 71 fl2) 72 nd2) ni j) ∧ (∀ h, (mem (a 73) lo hc h → un2 h = K) ∧ (¬mem (a 73) lo hc h → un2 h = a (b + 10) h)) ∧ (∀ x, ((∃ i, lo ≤ i ∧ i < hc ∧ a (b + 8) (a 73 i) = 0 ∧ a (b + 11 + 1) (a (b + 11 + 2) (a 73 i) + 1) = x) → fl2 x = 0) ∧ (¬(∃ i, lo ≤ i ∧ i < hc ∧ a (b + 8) (a 73 i) = 0 ∧ a (b + 11 + 1) (a (b + 11 + 2) (a 73 i) + 1) = x) → fl2 x = a 71 x)) ∧ ∀ x, nd2 x = a 72 x - (nsum (fun i => if a (b + 8) (a 73 i) = 1 then cn (fun y => a (b + 11 + 1) (a (b + 11 + 2) (a 73 i) + y) = x) (a (b + 11 + 2) (a 73 i + 1) - a (b + 11 + 2) (a 73 i)).toNat else 0) hc.toNat - nsum (fun i => if a (b + 8) (a 73 i) = 1 then cn (fun y => a (b + 11 + 1) (a (b + 11 + 2) (a 73 i) + y) = x) (a (b + 11 + 2) (a 73 i + 1) - a (b + 11 + 2) (a 73 i)).toNat else 0) lo.toNat) := by
  have hbb : b = 1 ∨ b = 33 := hb
  have lp := lp_inv (b := gL_X7_closeBlock_24 n 66 b) (fun t c => ∃ un2 fl2 nd2 : Int → Int, c = (qz t, cs f d (u1 (u1 (u1 a (b + 10) un2) 71 fl2) 72 nd2) ni j) ∧ (∀ h, (mem (a 73) lo t h → un2 h = K) ∧ (¬mem (a 73) lo t h → un2 h = a (b + 10) h)) ∧ (∀ x, ((∃ i, lo ≤ i ∧ i < t ∧ a (b + 8) (a 73 i) = 0 ∧ a (b + 11 + 1) (a (b + 11 + 2) (a 73 i) + 1) = x) → fl2 x = 0) ∧ (¬(∃ i, lo ≤ i ∧ i < t ∧ a (b + 8) (a 73 i) = 0 ∧ a (b + 11 + 1) (a (b + 11 + 2) (a 73 i) + 1) = x) → fl2 x = a 71 x)) ∧ ∀ x, nd2 x = a 72 x - (nsum (fun i => if a (b + 8) (a 73 i) = 1 then cn (fun y => a (b + 11 + 1) (a (b + 11 + 2) (a 73 i) + y) = x) (a (b + 11 + 2) (a 73 i + 1) - a (b + 11 + 2) (a 73 i)).toNat else 0) t.toNat - nsum (fun i => if a (b + 8) (a 73 i) = 1 then cn (fun y => a (b + 11 + 1) (a (b + 11 + 2) (a 73 i) + y) = x) (a (b + 11 + 2) (a 73 i + 1) - a (b + 11 + 2) (a 73 i)).toNat else 0) lo.toNat))
    (Q := fun c => ∃ un2 fl2 nd2 : Int → Int, c = cs f d (u1 (u1 (u1 a (b + 10) un2) 71 fl2) 72 nd2) ni j ∧ (∀ h, (mem (a 73) lo hc h → un2 h = K) ∧ (¬mem (a 73) lo hc h → un2 h = a (b + 10) h)) ∧ (∀ x, ((∃ i, lo ≤ i ∧ i < hc ∧ a (b + 8) (a 73 i) = 0 ∧ a (b + 11 + 1) (a (b + 11 + 2) (a 73 i) + 1) = x) → fl2 x = 0) ∧ (¬(∃ i, lo ≤ i ∧ i < hc ∧ a (b + 8) (a 73 i) = 0 ∧ a (b + 11 + 1) (a (b + 11 + 2) (a 73 i) + 1) = x) → fl2 x = a 71 x)) ∧ ∀ x, nd2 x = a 72 x - (nsum (fun i => if a (b + 8) (a 73 i) = 1 then cn (fun y => a (b + 11 + 1) (a (b + 11 + 2) (a 73 i) + y) = x) (a (b + 11 + 2) (a 73 i + 1) - a (b + 11 + 2) (a 73 i)).toNat else 0) hc.toNat - nsum (fun i => if a (b + 8) (a 73 i) = 1 then cn (fun y => a (b + 11 + 1) (a (b + 11 + 2) (a 73 i) + y) = x) (a (b + 11 + 2) (a 73 i + 1) - a (b + 11 + 2) (a 73 i)).toNat else 0) lo.toNat)) hc (n := n) (i0 := lo) l1 (by omega) (c0 := (qz lo, cs f d a ni j)) ?_ ?_ ?_
  · obtain ⟨c, e, un2, fl2, nd2, rfl, h⟩ := lp
    exact ⟨un2, fl2, nd2, e, h⟩
  · refine ⟨a (b + 10), a 71, a 72, ?_, fun h => ⟨fun ⟨i, i1, i2, _⟩ => by omega, fun _ => rfl⟩, fun x => ⟨fun ⟨i, i1, i2, _⟩ => by omega, fun _ => rfl⟩, fun x => by omega⟩
    rw [u1_id (f := a) rfl, u1_id (f := a) rfl, u1_id (f := a) rfl]
  · rintro t c t1 t2 ⟨un2, fl2, nd2, rfl, h1, h3, h4⟩
    obtain ⟨q1, q2, q3, q4, q5, q6⟩ := hh t (by omega) t2
    have et : (t + 1).toNat = t.toNat + 1 := by omega
    have ei : ((t.toNat : Nat) : Int) = t := by omega
    have ne1 : b + 10 ≠ 71 := by omega
    have ne2 : b + 10 ≠ 72 := by omega
    have ed := c_dropHyp (f := f) (d := d) (a := u1 (u1 (u1 a (b + 10) un2) 71 fl2) 72 nd2) (ni := ni) (j := j) (n := n) (k := a 73 t) (K := K) (M := M) hb hn (by simp (disch := omega) only [u1_o]; exact H) q1 q2 h2 hK (by simp (disch := omega) only [u1_o]; exact q3) (by simp (disch := omega) only [u1_o]; exact q4) (by simp (disch := omega) only [u1_o]; exact q5) (by simp (disch := omega) only [u1_o]; exact q6)
    simp (disch := omega) only [u1_o, u1_s] at ed
    have hun : ∀ h, (mem (a 73) lo (t + 1) h → v1 un2 (a 73 t) K h = K) ∧ (¬mem (a 73) lo (t + 1) h → v1 un2 (a 73 t) K h = a (b + 10) h) := by
      intro h
      constructor
      · rintro ⟨i, i1, i2, rfl⟩
        by_cases e : a 73 i = a 73 t
        · rw [e, v1_s]
        · rw [v1_o e]
          have : i ≠ t := fun z => e (by rw [z])
          exact (h1 _).1 ⟨i, i1, by omega, rfl⟩
      · intro hm
        rw [v1_o (fun z => hm ⟨t, t1, by omega, z.symm⟩)]
        exact (h1 h).2 (fun ⟨i, i1, i2, i3⟩ => hm ⟨i, i1, by omega, i3⟩)
    have body : gL_X7_closeBlock_24 n 66 b (qz t, cs f d (u1 (u1 (u1 a (b + 10) un2) 71 fl2) 72 nd2) ni j) = (g_X7_dropHypothesis n 66 b (qz (a 73 t)) (cs f d (u1 (u1 (u1 a (b + 10) un2) 71 fl2) 72 nd2) ni j)).bind fun x3 => some (.inl (qz (t + 1), x3)) := by
      unfold gL_X7_closeBlock_24 g_X7_closeBlock_24
      simp (disch := first | assumption | omega) only [qpT, qpF, qz_lit, qz_add, qz_mul, qz_neg, qz_sub, qz_inj, qz_lt, qz_le, qz_div, qp_0, qp_1, hp_bz_qp, hp_bz_0, hp_bz_1, if_neg, gf_cs, hc9, gpc_66_8, gac_73, u1_o, bd_some]
    rcases q3 with z | z
    · rw [if_pos z] at ed
      refine ⟨_, by rw [body, ed]; rfl, v1 un2 (a 73 t) K, v1 fl2 (a (b + 11 + 1) (a (b + 11 + 2) (a 73 t) + 1)) 0, nd2, ?_, hun, ?_, ?_⟩
      · rw [u1_sw (i := 72) (k := b + 10) (by omega), u1_sw (i := 71) (k := b + 10) (by omega), u1_1, u1_sw (i := 72) (k := 71) (by decide), u1_1]
      · intro x
        constructor
        · rintro ⟨i, i1, i2, i3, rfl⟩
          by_cases e : a (b + 11 + 1) (a (b + 11 + 2) (a 73 i) + 1) = a (b + 11 + 1) (a (b + 11 + 2) (a 73 t) + 1)
          · rw [e, v1_s]
          · rw [v1_o e]
            have : i ≠ t := fun y => e (by rw [y])
            exact (h3 _).1 ⟨i, i1, by omega, i3, rfl⟩
        · intro hm
          rw [v1_o (fun y => hm ⟨t, t1, by omega, z, y.symm⟩)]
          exact (h3 x).2 (fun ⟨i, i1, i2, i3⟩ => hm ⟨i, i1, by omega, i3⟩)
      · intro x
        rw [h4 x, et]
        show _ = a 72 x - (nsum _ t.toNat + (if a (b + 8) (a 73 ((t.toNat : Nat) : Int)) = 1 then _ else 0) - _)
        rw [ei, if_neg (by omega), Int.add_zero]
    · rw [if_neg (by omega)] at ed
      refine ⟨_, by rw [body, ed]; rfl, v1 un2 (a 73 t) K, fl2, ndp nd2 (a (b + 11 + 1)) (a (b + 11 + 2) (a 73 t)) (a (b + 11 + 2) (a 73 t + 1) - a (b + 11 + 2) (a 73 t)) (-1), ?_, hun, ?_, ?_⟩
      · rw [u1_sw (i := 72) (k := b + 10) (by omega), u1_sw (i := 71) (k := b + 10) (by omega), u1_1, u1_1]
      · intro x
        constructor
        · rintro ⟨i, i1, i2, i3, rfl⟩
          have : i ≠ t := fun y => by rw [y] at i3; omega
          exact (h3 _).1 ⟨i, i1, by omega, i3, rfl⟩
        · intro hm
          exact (h3 x).2 (fun ⟨i, i1, i2, i3⟩ => hm ⟨i, i1, by omega, i3⟩)
      · intro x
        unfold ndp
        rw [h4 x, et]
        show _ = a 72 x - (nsum _ t.toNat + (if a (b + 8) (a 73 ((t.toNat : Nat) : Int)) = 1 then cn (fun y => a (b + 11 + 1) (a (b + 11 + 2) (a 73 ((t.toNat : Nat) : Int)) + y) = x) (a (b + 11 + 2) (a 73 ((t.toNat : Nat) : Int) + 1) - a (b + 11 + 2) (a 73 ((t.toNat : Nat) : Int))).toNat else 0) - _)
        rw [ei, if_pos z]
        omega
  · rintro c ⟨un2, fl2, nd2, rfl, h⟩
    refine ⟨_, ?_, un2, fl2, nd2, rfl, h⟩
    unfold gL_X7_closeBlock_24 g_X7_closeBlock_24
    simp (disch := first | assumption | omega) only [qpT, qpF, qz_lit, qz_add, qz_mul, qz_neg, qz_sub, qz_inj, qz_lt, qz_le, qz_div, qp_0, qp_1, hp_bz_qp, hp_bz_0, hp_bz_1, if_pos, gf_cs, hc9]
end CLS
