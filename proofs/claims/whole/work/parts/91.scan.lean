/-! The scanner of the class -/
section SCAN
variable {f : Nat → Nat → Int} {d : Nat → Nat} {a : Nat → Int → Int} {ni : Nat → Nat} {j : Nat → Int → Int64} {n p : Nat} {sz : Int}
theorem c_isBlank {v : Int} {s : st_T} (h : -2147483648 ≤ v) (h2 : v < 2147483648) : g_X6_isBlank n (qz v) s = some (qp (blk v)) := by
  unfold g_X6_isBlank g_X6_isBlank_0 g_X6_isBlank_30
  simp (disch := omega) only [qpT, qpF, qz_lit, qz_add, qz_mul, qz_neg, qz_sub, qz_inj, qz_lt, qz_le, qz_div, qp_0, qp_1, hp_bz_qp, hp_bz_0, hp_bz_1, if_pos, if_neg, if_true, if_false, u2_a, u2_b, u2_c, u2_d, u1_s, u1_o, u1_1, v1_s, v1_o, v1_e, v1_1, v2_s, v2_o, v2_2, not_true_eq_false, not_false_eq_true]
  unfold blk
  by_cases h1 : v = 9
  · simp [h1, qp_T]
  by_cases h2 : v = 10
  · simp [h2, qp_T]
  by_cases h3 : v = 12
  · simp [h3, qp_T]
  by_cases h4 : v = 13
  · simp [h4, qp_T]
  by_cases h5 : v = 32
  · simp [h5, qp_T]
  · simp [h1, h2, h3, h4, h5, qp_F]
/-- the scanner stands on the text p, of sz bytes -/
def scd (f : Nat → Nat → Int) (d : Nat → Nat) (a : Nat → Int → Int) (p : Nat) (sz : Int) : Prop := d 5 = p ∧ txo p ∧ f 77 4 = sz ∧ 0 ≤ sz ∧ sz ≤ 8192 ∧ byt (a p)
theorem c_cut {b e : Int} (hn : 100000 ≤ n) (h : scd f d a p sz) (h0 : 0 ≤ f 77 1) (ht : tk (a p) sz (f 77 1) b e) : g_X6_cut n 77 (cs f d a ni j) = some (cs (u2 (u2 f 77 0 b) 77 1 e) d a ni j) := by
  obtain ⟨s1, s2, s3, s4, s5, s6⟩ := h
  obtain ⟨t1, t2, t3, t4, t5, t6, t7⟩ := ht
  have e1 := lp_for (b := gL_X6_cut_8 n 77) (x := cs (u2 f 77 0 b) d a ni j) (fun i => cs (u2 f 77 0 i) d a ni j) b (n := n) t1 (by omega) ?_ ?_
  have e2 := lp_for (b := gL_X6_cut_55 n 77) (x := cs (u2 (u2 f 77 0 b) 77 1 e) d a ni j) (fun i => cs (u2 (u2 f 77 0 b) 77 1 i) d a ni j) e (n := n) t2 (by omega) ?_ ?_
  · unfold g_X6_cut g_X6_cut_0 g_X6_cut_47
    simp (disch := first | assumption | omega) only [bd_some, gf_cs, wf_cs, if_pos, if_neg, if_true, if_false, u2_a, u2_b, u2_c, u2_d, u1_s, u1_o, u1_1, v1_s, v1_o, v1_e, v1_1, v2_s, v2_o, v2_2, not_true_eq_false, not_false_eq_true, e1, e2]
  · intro i g1 g2
    have g3 := t6 i g1 g2
    have g4 := s6 i (by omega) (by omega)
    unfold gL_X6_cut_55 g_X6_cut_55
    simp (disch := first | assumption | omega) only [bd_some, gf_cs, wf_cs, gpc_77_3, s1, s3, ga_tx, c_isBlank, g3, qpT, qpF, qz_lit, qz_add, qz_mul, qz_neg, qz_sub, qz_inj, qz_lt, qz_le, qz_div, qp_0, qp_1, hp_bz_qp, hp_bz_0, hp_bz_1, if_pos, if_neg, if_true, if_false, u2_a, u2_b, u2_c, u2_d, u1_s, u1_o, u1_1, v1_s, v1_o, v1_e, v1_1, v2_s, v2_o, v2_2, not_true_eq_false, not_false_eq_true]
  · unfold gL_X6_cut_55 g_X6_cut_55
    by_cases g : sz ≤ e
    · simp (disch := first | assumption | omega) only [bd_some, gf_cs, wf_cs, gpc_77_3, s1, s3, ga_tx, c_isBlank, qpT, qpF, qz_lit, qz_add, qz_mul, qz_neg, qz_sub, qz_inj, qz_lt, qz_le, qz_div, qp_0, qp_1, hp_bz_qp, hp_bz_0, hp_bz_1, if_pos, if_neg, if_true, if_false, u2_a, u2_b, u2_c, u2_d, u1_s, u1_o, u1_1, v1_s, v1_o, v1_e, v1_1, v2_s, v2_o, v2_2, not_true_eq_false, not_false_eq_true]
    · have g3 := t7 (by omega)
      have g4 := s6 e (by omega) (by omega)
      simp (disch := first | assumption | omega) only [bd_some, gf_cs, wf_cs, gpc_77_3, s1, s3, ga_tx, c_isBlank, g3, qpT, qpF, qz_lit, qz_add, qz_mul, qz_neg, qz_sub, qz_inj, qz_lt, qz_le, qz_div, qp_0, qp_1, hp_bz_qp, hp_bz_0, hp_bz_1, if_pos, if_neg, if_true, if_false, u2_a, u2_b, u2_c, u2_d, u1_s, u1_o, u1_1, v1_s, v1_o, v1_e, v1_1, v2_s, v2_o, v2_2, not_true_eq_false, not_false_eq_true, qz_1_0]
  · intro i g1 g2
    have g3 := t4 i g1 g2
    have g4 := s6 i (by omega) (by omega)
    unfold gL_X6_cut_8 g_X6_cut_8
    simp (disch := first | assumption | omega) only [bd_some, gf_cs, wf_cs, gpc_77_3, s1, s3, ga_tx, c_isBlank, g3, qpT, qpF, qz_lit, qz_add, qz_mul, qz_neg, qz_sub, qz_inj, qz_lt, qz_le, qz_div, qp_0, qp_1, hp_bz_qp, hp_bz_0, hp_bz_1, if_pos, if_neg, if_true, if_false, u2_a, u2_b, u2_c, u2_d, u1_s, u1_o, u1_1, v1_s, v1_o, v1_e, v1_1, v2_s, v2_o, v2_2, not_true_eq_false, not_false_eq_true, qz_1_0]
  · unfold gL_X6_cut_8 g_X6_cut_8
    by_cases g : sz ≤ b
    · simp (disch := first | assumption | omega) only [bd_some, gf_cs, wf_cs, gpc_77_3, s1, s3, ga_tx, c_isBlank, qpT, qpF, qz_lit, qz_add, qz_mul, qz_neg, qz_sub, qz_inj, qz_lt, qz_le, qz_div, qp_0, qp_1, hp_bz_qp, hp_bz_0, hp_bz_1, if_pos, if_neg, if_true, if_false, u2_a, u2_b, u2_c, u2_d, u1_s, u1_o, u1_1, v1_s, v1_o, v1_e, v1_1, v2_s, v2_o, v2_2, not_true_eq_false, not_false_eq_true]
    · have g3 := t5 (by omega)
      have g4 := s6 b (by omega) (by omega)
      simp (disch := first | assumption | omega) only [bd_some, gf_cs, wf_cs, gpc_77_3, s1, s3, ga_tx, c_isBlank, g3, qpT, qpF, qz_lit, qz_add, qz_mul, qz_neg, qz_sub, qz_inj, qz_lt, qz_le, qz_div, qp_0, qp_1, hp_bz_qp, hp_bz_0, hp_bz_1, if_pos, if_neg, if_true, if_false, u2_a, u2_b, u2_c, u2_d, u1_s, u1_o, u1_1, v1_s, v1_o, v1_e, v1_1, v2_s, v2_o, v2_2, not_true_eq_false, not_false_eq_true]
/-- the scanner's token -/
def tkc (f : Nat → Nat → Int) (b e sz : Int) : Prop := f 77 0 = b ∧ f 77 1 = e ∧ 0 ≤ b ∧ b < e ∧ e ≤ sz
theorem c_wrong {b e : Int} (hn : 100000 ≤ n) (h : scd f d a p sz) (ht : tkc f b e sz) : g_X6_hasWrongByte n 77 (cs f d a ni j) = some (qp (bad (a p) b e)) := by
  obtain ⟨s1, s2, s3, s4, s5, s6⟩ := h
  obtain ⟨t1, t2, t3, t4, t5⟩ := ht
  have := lp_some (b := gL_X6_hasWrongByte_5 n 77 (cs f d a ni j)) (fun i => qz i) (fun x => badc (a p x)) qp (n := n) (lo := b) e (by omega) (by omega) ?_ ?_ ?_
  · unfold g_X6_hasWrongByte g_X6_hasWrongByte_0
    simp (disch := first | assumption | omega) only [bd_some, gf_cs, t1, this]
    rfl
  · intro i g1 g2 g3
    have g4 := s6 i (by omega) (by omega)
    unfold badc at g3
    unfold gL_X6_hasWrongByte_5 g_X6_hasWrongByte_5
    simp (disch := first | assumption | omega) only [bd_some, gf_cs, gpc_77_3, s1, ga_tx, t2, qpT, qpF, qz_lit, qz_add, qz_mul, qz_neg, qz_sub, qz_inj, qz_lt, qz_le, qz_div, qp_0, qp_1, hp_bz_qp, hp_bz_0, hp_bz_1, if_pos, if_neg, if_true, if_false, u2_a, u2_b, u2_c, u2_d, u1_s, u1_o, u1_1, v1_s, v1_o, v1_e, v1_1, v2_s, v2_o, v2_2, not_true_eq_false, not_false_eq_true]
  · intro i g1 g2 g3
    have g4 := s6 i (by omega) (by omega)
    unfold badc at g3
    unfold gL_X6_hasWrongByte_5 g_X6_hasWrongByte_5
    by_cases q : a p i < 33
    · simp (disch := first | assumption | omega) only [bd_some, gf_cs, gpc_77_3, s1, ga_tx, t2, qpT, qpF, qz_lit, qz_add, qz_mul, qz_neg, qz_sub, qz_inj, qz_lt, qz_le, qz_div, qp_0, qp_1, hp_bz_qp, hp_bz_0, hp_bz_1, if_pos, if_neg, if_true, if_false, u2_a, u2_b, u2_c, u2_d, u1_s, u1_o, u1_1, v1_s, v1_o, v1_e, v1_1, v2_s, v2_o, v2_2, not_true_eq_false, not_false_eq_true]
    · simp (disch := first | assumption | omega) only [bd_some, gf_cs, gpc_77_3, s1, ga_tx, t2, qpT, qpF, qz_lit, qz_add, qz_mul, qz_neg, qz_sub, qz_inj, qz_lt, qz_le, qz_div, qp_0, qp_1, hp_bz_qp, hp_bz_0, hp_bz_1, if_pos, if_neg, if_true, if_false, u2_a, u2_b, u2_c, u2_d, u1_s, u1_o, u1_1, v1_s, v1_o, v1_e, v1_1, v2_s, v2_o, v2_2, not_true_eq_false, not_false_eq_true]
  · unfold gL_X6_hasWrongByte_5 g_X6_hasWrongByte_5
    simp (disch := first | assumption | omega) only [bd_some, gf_cs, t2, qpT, qpF, qz_lit, qz_add, qz_mul, qz_neg, qz_sub, qz_inj, qz_lt, qz_le, qz_div, qp_0, qp_1, hp_bz_qp, hp_bz_0, hp_bz_1, if_pos, if_neg, if_true, if_false, u2_a, u2_b, u2_c, u2_d, u1_s, u1_o, u1_1, v1_s, v1_o, v1_e, v1_1, v2_s, v2_o, v2_2, not_true_eq_false, not_false_eq_true]
theorem c_dollar {b e c : Int} (h : scd f d a p sz) (ht : tkc f b e sz) (hc : 0 ≤ c ∧ c < 128) : g_X6_isDollarAnd n 77 (qz c) (cs f d a ni j) = some (qp (isw (a p) b e c)) := by
  obtain ⟨s1, s2, s3, s4, s5, s6⟩ := h
  obtain ⟨t1, t2, t3, t4, t5⟩ := ht
  unfold g_X6_isDollarAnd g_X6_isDollarAnd_0 isw
  simp (disch := first | assumption | omega) only [gf_cs, t1, t2, qpT, qpF, qz_lit, qz_add, qz_mul, qz_neg, qz_sub, qz_inj, qz_lt, qz_le, qz_div, qp_0, qp_1, hp_bz_qp, hp_bz_0, hp_bz_1]
  by_cases q : e - b = 2
  · have g4 := s6 b (by omega) (by omega)
    have g5 := s6 (b + 1) (by omega) (by omega)
    by_cases q1 : a p b = 36
    · by_cases q2 : a p (b + 1) = c
      · simp (disch := first | assumption | omega) only [bd_some, gf_cs, gpc_77_3, s1, ga_tx, qpT, qpF, qz_lit, qz_add, qz_mul, qz_neg, qz_sub, qz_inj, qz_lt, qz_le, qz_div, qp_0, qp_1, hp_bz_qp, hp_bz_0, hp_bz_1, if_pos, if_neg, if_true, if_false, u2_a, u2_b, u2_c, u2_d, u1_s, u1_o, u1_1, v1_s, v1_o, v1_e, v1_1, v2_s, v2_o, v2_2, not_true_eq_false, not_false_eq_true, q, q1, q2, true_and]
      · simp (disch := first | assumption | omega) only [bd_some, gf_cs, gpc_77_3, s1, ga_tx, qpT, qpF, qz_lit, qz_add, qz_mul, qz_neg, qz_sub, qz_inj, qz_lt, qz_le, qz_div, qp_0, qp_1, hp_bz_qp, hp_bz_0, hp_bz_1, if_pos, if_neg, if_true, if_false, u2_a, u2_b, u2_c, u2_d, u1_s, u1_o, u1_1, v1_s, v1_o, v1_e, v1_1, v2_s, v2_o, v2_2, not_true_eq_false, not_false_eq_true, q, q1, q2, and_false]
    · simp (disch := first | assumption | omega) only [bd_some, gf_cs, gpc_77_3, s1, ga_tx, qpT, qpF, qz_lit, qz_add, qz_mul, qz_neg, qz_sub, qz_inj, qz_lt, qz_le, qz_div, qp_0, qp_1, hp_bz_qp, hp_bz_0, hp_bz_1, if_pos, if_neg, if_true, if_false, u2_a, u2_b, u2_c, u2_d, u1_s, u1_o, u1_1, v1_s, v1_o, v1_e, v1_1, v2_s, v2_o, v2_2, not_true_eq_false, not_false_eq_true, q, q1, false_and, and_false]
  · simp (disch := first | assumption | omega) only [qpT, qpF, qz_lit, qz_add, qz_mul, qz_neg, qz_sub, qz_inj, qz_lt, qz_le, qz_div, qp_0, qp_1, hp_bz_qp, hp_bz_0, hp_bz_1, if_pos, if_neg, if_true, if_false, u2_a, u2_b, u2_c, u2_d, u1_s, u1_o, u1_1, v1_s, v1_o, v1_e, v1_1, v2_s, v2_o, v2_2, not_true_eq_false, not_false_eq_true, q, false_and]
theorem c_mark {b e : Int} (hn : 100000 ≤ n) (h : scd f d a p sz) (ht : tkc f b e sz) : g_X6_hasCommentMark n 77 (cs f d a ni j) = some (qp (prt (a p) b e 40 ∨ prt (a p) b e 41)) := by
  obtain ⟨s1, s2, s3, s4, s5, s6⟩ := h
  obtain ⟨t1, t2, t3, t4, t5⟩ := ht
  have := lp_some (b := gL_X6_hasCommentMark_5 n 77 (cs f d a ni j)) (fun i => qz i) (fun x => a p x = 36 ∧ (a p (x + 1) = 40 ∨ a p (x + 1) = 41)) qp (n := n) (lo := b) (e - 1) (by omega) (by omega) ?_ ?_ ?_
  · unfold g_X6_hasCommentMark g_X6_hasCommentMark_0
    simp (disch := first | assumption | omega) only [bd_some, gf_cs, t1, this]
    refine congrArg some (qp_congr ?_)
    constructor
    · rintro ⟨x, h1, h2, h3, h4 | h4⟩
      · exact Or.inl ⟨x, h1, h2, h3, h4⟩
      · exact Or.inr ⟨x, h1, h2, h3, h4⟩
    · rintro (⟨x, h1, h2, h3, h4⟩ | ⟨x, h1, h2, h3, h4⟩)
      · exact ⟨x, h1, h2, h3, Or.inl h4⟩
      · exact ⟨x, h1, h2, h3, Or.inr h4⟩
  · intro i g1 g2 g3
    have g4 := s6 i (by omega) (by omega)
    have g5 := s6 (i + 1) (by omega) (by omega)
    unfold gL_X6_hasCommentMark_5 g_X6_hasCommentMark_5 g_X6_hasCommentMark_54
    by_cases q : a p i = 36
    · have q1 : ¬a p (i + 1) = 40 := fun z => g3 ⟨q, Or.inl z⟩
      have q2 : ¬a p (i + 1) = 41 := fun z => g3 ⟨q, Or.inr z⟩
      simp (disch := first | assumption | omega) only [bd_some, gf_cs, gpc_77_3, s1, ga_tx, t2, qpT, qpF, qz_lit, qz_add, qz_mul, qz_neg, qz_sub, qz_inj, qz_lt, qz_le, qz_div, qp_0, qp_1, hp_bz_qp, hp_bz_0, hp_bz_1, if_pos, if_neg, if_true, if_false, u2_a, u2_b, u2_c, u2_d, u1_s, u1_o, u1_1, v1_s, v1_o, v1_e, v1_1, v2_s, v2_o, v2_2, not_true_eq_false, not_false_eq_true, q, q1, q2]
    · simp (disch := first | assumption | omega) only [bd_some, gf_cs, gpc_77_3, s1, ga_tx, t2, qpT, qpF, qz_lit, qz_add, qz_mul, qz_neg, qz_sub, qz_inj, qz_lt, qz_le, qz_div, qp_0, qp_1, hp_bz_qp, hp_bz_0, hp_bz_1, if_pos, if_neg, if_true, if_false, u2_a, u2_b, u2_c, u2_d, u1_s, u1_o, u1_1, v1_s, v1_o, v1_e, v1_1, v2_s, v2_o, v2_2, not_true_eq_false, not_false_eq_true, q]
  · rintro i g1 g2 ⟨q, q1⟩
    have g4 := s6 i (by omega) (by omega)
    have g5 := s6 (i + 1) (by omega) (by omega)
    unfold gL_X6_hasCommentMark_5 g_X6_hasCommentMark_5 g_X6_hasCommentMark_54
    by_cases q2 : a p (i + 1) = 40
    · simp (disch := first | assumption | omega) only [bd_some, gf_cs, gpc_77_3, s1, ga_tx, t2, qpT, qpF, qz_lit, qz_add, qz_mul, qz_neg, qz_sub, qz_inj, qz_lt, qz_le, qz_div, qp_0, qp_1, hp_bz_qp, hp_bz_0, hp_bz_1, if_pos, if_neg, if_true, if_false, u2_a, u2_b, u2_c, u2_d, u1_s, u1_o, u1_1, v1_s, v1_o, v1_e, v1_1, v2_s, v2_o, v2_2, not_true_eq_false, not_false_eq_true, q, q2]
    · have q3 : a p (i + 1) = 41 := by omega
      simp (disch := first | assumption | omega) only [bd_some, gf_cs, gpc_77_3, s1, ga_tx, t2, qpT, qpF, qz_lit, qz_add, qz_mul, qz_neg, qz_sub, qz_inj, qz_lt, qz_le, qz_div, qp_0, qp_1, hp_bz_qp, hp_bz_0, hp_bz_1, if_pos, if_neg, if_true, if_false, u2_a, u2_b, u2_c, u2_d, u1_s, u1_o, u1_1, v1_s, v1_o, v1_e, v1_1, v2_s, v2_o, v2_2, not_true_eq_false, not_false_eq_true, q, q3]
  · unfold gL_X6_hasCommentMark_5 g_X6_hasCommentMark_5 g_X6_hasCommentMark_54
    simp (disch := first | assumption | omega) only [bd_some, gf_cs, t2, qpT, qpF, qz_lit, qz_add, qz_mul, qz_neg, qz_sub, qz_inj, qz_lt, qz_le, qz_div, qp_0, qp_1, hp_bz_qp, hp_bz_0, hp_bz_1, if_pos, if_neg, if_true, if_false, u2_a, u2_b, u2_c, u2_d, u1_s, u1_o, u1_1, v1_s, v1_o, v1_e, v1_1, v2_s, v2_o, v2_2, not_true_eq_false, not_false_eq_true]
/-- what word() answers -/
def wrd (t : Int → Int) (b e w : Int) : Prop := (¬dol t b e ∧ w = 0) ∨ (kwd t b e ∧ w = t (b + 1) ∧ isw t b e w) ∨ (dol t b e ∧ ¬kwd t b e ∧ w = -1)
theorem c_keyword {b e : Int} (h : scd f d a p sz) (ht : tkc f b e sz) (hd : dol (a p) b e) : ∃ w, g_X6_keyword n 77 (cs f d a ni j) = some (qz w) ∧ wrd (a p) b e w := by
  obtain ⟨s1, s2, s3, s4, s5, s6⟩ := h
  obtain ⟨t1, t2, t3, t4, t5⟩ := ht
  have kk : ∀ c, isw (a p) b e c → (c = 46 ∨ c = 61 ∨ c = 97 ∨ c = 99 ∨ c = 100 ∨ c = 101 ∨ c = 102 ∨ c = 112 ∨ c = 118 ∨ c = 123 ∨ c = 125) → kwd (a p) b e := by
    intro c hi hc
    unfold kwd
    rcases hc with rfl | rfl | rfl | rfl | rfl | rfl | rfl | rfl | rfl | rfl | rfl <;> simp [hi]
  have kn : kwd (a p) b e → e - b = 2 ∧ a p b = 36 ∧ (a p (b + 1) = 46 ∨ a p (b + 1) = 61 ∨ a p (b + 1) = 97 ∨ a p (b + 1) = 99 ∨ a p (b + 1) = 100 ∨ a p (b + 1) = 101 ∨ a p (b + 1) = 102 ∨ a p (b + 1) = 112 ∨ a p (b + 1) = 118 ∨ a p (b + 1) = 123 ∨ a p (b + 1) = 125) := by
    unfold kwd isw
    rintro (⟨x, y, z⟩ | ⟨x, y, z⟩ | ⟨x, y, z⟩ | ⟨x, y, z⟩ | ⟨x, y, z⟩ | ⟨x, y, z⟩ | ⟨x, y, z⟩ | ⟨x, y, z⟩ | ⟨x, y, z⟩ | ⟨x, y, z⟩ | ⟨x, y, z⟩) <;> exact ⟨x, y, by omega⟩
  have k140 : e - b = 2 → g_X6_keyword_140 n 77 (cs f d a ni j) = some (qz (a p (b + 1))) := by
    intro q
    unfold g_X6_keyword_140
    rw [gf_cs, t1, gpc_77_3, s1, show (1 : Int32) = qz 1 from rfl, qz_add, ga_tx s2 (by omega) (by omega), bd_some]
  unfold g_X6_keyword g_X6_keyword_0
  rw [gf_cs, gf_cs, t1, t2, qz_sub, gpc_77_3, s1]
  by_cases q : e - b = 2
  · have g4 := s6 b (by omega) (by omega)
    have g5 := s6 (b + 1) (by omega) (by omega)
    rw [if_pos (by rw [q]; rfl), ga_tx s2 (by omega) (by omega), bd_some, k140 q]
    by_cases q1 : a p b = 36
    · rw [if_pos (by rw [q1]; rfl), show (1 : Int32) = qz 1 from rfl, qz_add, ga_tx s2 (by omega) (by omega), bd_some]
      by_cases q2 : (a p (b + 1) = 46 ∨ a p (b + 1) = 61 ∨ a p (b + 1) = 97 ∨ a p (b + 1) = 99 ∨ a p (b + 1) = 100 ∨ a p (b + 1) = 101 ∨ a p (b + 1) = 102 ∨ a p (b + 1) = 112 ∨ a p (b + 1) = 118 ∨ a p (b + 1) = 123 ∨ a p (b + 1) = 125)
      · refine ⟨a p (b + 1), ?_, Or.inr (Or.inl ⟨kk _ ⟨q, q1, rfl⟩ q2, rfl, q, q1, rfl⟩)⟩
        rcases q2 with z | z | z | z | z | z | z | z | z | z | z <;> rw [z] <;> rfl
      · refine ⟨-1, ?_, Or.inr (Or.inr ⟨hd, fun z => q2 (kn z).2.2, rfl⟩)⟩
        simp (disch := omega) only [qz_lit, qz_inj, if_neg, qz_neg]
    · rw [if_neg (by rw [show (36 : Int32) = qz 36 from rfl, qz_inj (by omega) (by omega) (by omega) (by omega)]; exact q1)]
      exact ⟨-1, rfl, Or.inr (Or.inr ⟨hd, fun z => q1 (kn z).2.1, rfl⟩)⟩
  · rw [if_neg (by rw [show (2 : Int32) = qz 2 from rfl, qz_inj (by omega) (by omega) (by omega) (by omega)]; exact q)]
    exact ⟨-1, rfl, Or.inr (Or.inr ⟨hd, fun z => q (kn z).1, rfl⟩)⟩
theorem c_word {b e : Int} (hn : 100000 ≤ n) (h : scd f d a p sz) (ht : tkc f b e sz) : ∃ w, g_X6_word n 77 (cs f d a ni j) = some (qz w) ∧ wrd (a p) b e w := by
  have hk := c_keyword (ni := ni) (j := j) (n := n) h ht
  obtain ⟨s1, s2, s3, s4, s5, s6⟩ := h
  obtain ⟨t1, t2, t3, t4, t5⟩ := ht
  have := lp_find (b := gL_X6_word_5 n 77 (cs f d a ni j)) (fun i => qz i) (fun x => a p x = 36) (fun _ => .inl ()) (.inr (qz 0)) (n := n) (lo := b) e (by omega) (by omega) ?_ ?_ ?_
  · unfold g_X6_word g_X6_word_0
    rcases this with ⟨x, x1, x2, x3, x4, x5⟩ | ⟨x4, x5⟩
    · obtain ⟨w, e1, e2⟩ := hk ⟨x, x1, x2, x3⟩
      refine ⟨w, ?_, e2⟩
      simp only [gf_cs, t1, x5, bd_some, Sum.elim_inl, e1]
    · refine ⟨0, ?_, Or.inl ⟨?_, rfl⟩⟩
      · simp only [gf_cs, t1, x5, bd_some, Sum.elim_inr]
      · rintro ⟨x, x1, x2, x3⟩
        exact x4 x x1 x2 x3
  · intro i g1 g2 g3
    have g4 := s6 i (by omega) (by omega)
    unfold gL_X6_word_5 g_X6_word_5
    simp (disch := first | assumption | omega) only [bd_some, gf_cs, gpc_77_3, s1, ga_tx, t2, qpT, qpF, qz_lit, qz_add, qz_mul, qz_neg, qz_sub, qz_inj, qz_lt, qz_le, qz_div, qp_0, qp_1, hp_bz_qp, hp_bz_0, hp_bz_1, if_pos, if_neg, if_true, if_false, u2_a, u2_b, u2_c, u2_d, u1_s, u1_o, u1_1, v1_s, v1_o, v1_e, v1_1, v2_s, v2_o, v2_2, not_true_eq_false, not_false_eq_true, g3]
  · intro i g1 g2 g3
    unfold gL_X6_word_5 g_X6_word_5
    simp (disch := first | assumption | omega) only [bd_some, gf_cs, gpc_77_3, s1, ga_tx, t2, qpT, qpF, qz_lit, qz_add, qz_mul, qz_neg, qz_sub, qz_inj, qz_lt, qz_le, qz_div, qp_0, qp_1, hp_bz_qp, hp_bz_0, hp_bz_1, if_pos, if_neg, if_true, if_false, u2_a, u2_b, u2_c, u2_d, u1_s, u1_o, u1_1, v1_s, v1_o, v1_e, v1_1, v2_s, v2_o, v2_2, not_true_eq_false, not_false_eq_true, g3]
  · unfold gL_X6_word_5 g_X6_word_5
    simp (disch := first | assumption | omega) only [bd_some, gf_cs, t2, qpT, qpF, qz_lit, qz_add, qz_mul, qz_neg, qz_sub, qz_inj, qz_lt, qz_le, qz_div, qp_0, qp_1, hp_bz_qp, hp_bz_0, hp_bz_1, if_pos, if_neg, if_true, if_false, u2_a, u2_b, u2_c, u2_d, u1_s, u1_o, u1_1, v1_s, v1_o, v1_e, v1_1, v2_s, v2_o, v2_2, not_true_eq_false, not_false_eq_true]
theorem c_isLabel {b e : Int} (hn : 100000 ≤ n) (h : scd f d a p sz) (ht : tkc f b e sz) : g_X6_isLabel n 77 (cs f d a ni j) = some (qp (lab (a p) b e)) := by
  obtain ⟨s1, s2, s3, s4, s5, s6⟩ := h
  obtain ⟨t1, t2, t3, t4, t5⟩ := ht
  have key : ∀ i, b ≤ i → i < e → (lch (a p i) → gL_X6_isLabel_5 n 77 (cs f d a ni j) (qz i) = some (.inl (qz (i + 1)))) ∧ (¬lch (a p i) → gL_X6_isLabel_5 n 77 (cs f d a ni j) (qz i) = some (.inr (qz 0))) := by
    intro i g1 g2
    have g4 := s6 i (by omega) (by omega)
    unfold gL_X6_isLabel_5 g_X6_isLabel_5
    rw [gf_cs, t2, gpc_77_3, s1, if_neg (by rw [qz_le (by omega) (by omega) (by omega) (by omega)]; omega), ga_tx s2 (by omega) (by omega), bd_some]
    unfold g_X6_isLabel_44 g_X6_isLabel_32 g_X6_isLabel_48 g_X6_isLabel_44 g_X6_isLabel_49 g_X6_isLabel_66 g_X6_isLabel_67 g_X6_isLabel_98
    unfold lch
    generalize a p i = v at *
    simp (disch := omega) only [qz_lit, qz_lt, qz_le, qz_inj, qz_add, if_true, if_false, Int.reduceEq]
    constructor
    · intro h
      by_cases k1 : v < 97
      · by_cases k2 : v < 65
        · by_cases k3 : v < 48
          · by_cases k4 : v = 46
            · simp (disch := omega) only [if_pos]
            · by_cases k5 : v = 45
              · simp (disch := omega) only [if_pos, if_neg]
              · omega
          · by_cases k4 : 57 < v
            · omega
            · simp (disch := omega) only [if_pos, if_neg]
        · by_cases k3 : 90 < v
          · by_cases k5 : v = 95
            · simp (disch := omega) only [if_pos, if_neg]
            · omega
          · simp (disch := omega) only [if_pos, if_neg, ite_self]
      · by_cases k2 : v ≤ 122
        · simp (disch := omega) only [if_pos, if_neg, ite_self]
        · omega
    · intro h
      by_cases k1 : v < 97
      · by_cases k2 : v < 65
        · by_cases k3 : v < 48
          · simp (disch := omega) only [if_pos, if_neg]
          · simp (disch := omega) only [if_pos, if_neg]
        · simp (disch := omega) only [if_pos, if_neg]
      · simp (disch := omega) only [if_pos, if_neg]
  have := lp_find (b := gL_X6_isLabel_5 n 77 (cs f d a ni j)) (fun i => qz i) (fun x => ¬lch (a p x)) (fun _ => qz 0) (qz 1) (n := n) (lo := b) e (by omega) (by omega) ?_ ?_ ?_
  · unfold g_X6_isLabel g_X6_isLabel_0
    rcases this with ⟨x, x1, x2, x3, x4, x5⟩ | ⟨x4, x5⟩
    · simp only [gf_cs, t1, x5, bd_some]
      rw [qp_F]
      exact fun h => x3 (h x x1 x2)
    · simp only [gf_cs, t1, x5, bd_some]
      rw [qp_T]
      exact fun x x1 x2 => Classical.not_not.mp (x4 x x1 x2)
  · intro i g1 g2 g3
    exact (key i g1 g2).1 (Classical.not_not.mp g3)
  · intro i g1 g2 g3
    exact (key i g1 g2).2 g3
  · unfold gL_X6_isLabel_5 g_X6_isLabel_5
    simp (disch := first | assumption | omega) only [bd_some, gf_cs, t2, qpT, qpF, qz_lit, qz_add, qz_mul, qz_neg, qz_sub, qz_inj, qz_lt, qz_le, qz_div, qp_0, qp_1, hp_bz_qp, hp_bz_0, hp_bz_1, if_pos, if_neg, if_true, if_false, u2_a, u2_b, u2_c, u2_d, u1_s, u1_o, u1_1, v1_s, v1_o, v1_e, v1_1, v2_s, v2_o, v2_2, not_true_eq_false, not_false_eq_true]
end SCAN
