/-! Filling, copying; rows out of rows -/
def fl {α : Type} (g : Int → α) (N : Int) (x : α) : Int → α := fun k => if 0 ≤ k ∧ k < N then x else g k
theorem fl_0 {α : Type} {g : Int → α} {x : α} : fl g 0 x = g := by
  funext k
  unfold fl
  rw [if_neg (by omega)]
theorem fl_in {α : Type} {g : Int → α} {N : Int} {x : α} {k : Int} (h : 0 ≤ k) (h2 : k < N) : fl g N x k = x := by
  unfold fl
  rw [if_pos ⟨h, h2⟩]
theorem fl_s {α : Type} {g : Int → α} {N : Int} {x : α} (h : 0 ≤ N) : v1 (fl g N x) N x = fl g (N + 1) x := by
  funext k
  by_cases q : k = N
  · subst q
    rw [v1_s, fl_in h (by omega)]
  · rw [v1_o q]
    unfold fl
    by_cases q2 : 0 ≤ k ∧ k < N
    · rw [if_pos q2, if_pos (by omega)]
    · rw [if_neg q2, if_neg (by omega)]
def cy {α : Type} (g h : Int → α) (s t l : Int) : Int → α := fun k => if t ≤ k ∧ k < t + l then g (s + (k - t)) else h k
theorem cy_in {α : Type} {g h : Int → α} {s t l k : Int} (h1 : t ≤ k) (h2 : k < t + l) : cy g h s t l k = g (s + (k - t)) := by
  unfold cy
  rw [if_pos ⟨h1, h2⟩]
theorem cy_lo {α : Type} {g h : Int → α} {s t l k : Int} (h1 : k < t) : cy g h s t l k = h k := by
  unfold cy
  rw [if_neg (by omega)]
theorem rws_ne {v w : Nat} (hv : rws v) (hw : rws w) : v + 1 ≠ w + 2 ∧ v ≠ w + 1 ∧ v ≠ w + 2 := by
  have h1 := (rws_sp hw).2.2.1
  have h2 := (rws_sp hw).2.2.2.1
  have h3 : tC0 v = 15 := hv
  refine ⟨fun e => ?_, fun e => ?_, fun e => ?_⟩
  · have : v = w + 1 := by omega
    subst this; omega
  · subst e; omega
  · subst e; omega
section ROWT
variable {f : Nat → Nat → Int} {d : Nat → Nat} {a : Nat → Int → Int} {ni : Nat → Nat} {j : Nat → Int → Int64} {n v w : Nat} {M M2 k i x m N : Int}
theorem c_fillI (hN : (nC ni v : Int) = N) (hb : N < 100000) (hn : N < n) : g_J7_fill_53178 n v (qz x) (cs f d a ni j) = some (cs f d (u1 a v (fl (a v) N x)) ni j) := by
  have := lp_for (b := gL_J7_fill_53178_5 n v (qz x) (qz N)) (x := cs f d (u1 a v (fl (a v) N x)) ni j) (fun i => (qz i, cs f d (u1 a v (fl (a v) i x)) ni j)) N (n := n) (i0 := 0) (by omega) (by omega) ?_ ?_
  · unfold g_J7_fill_53178 g_J7_fill_53178_0
    rw [fl_0, u1_id (f := a) rfl] at this
    rw [gL_cs hN]
    simp only [qz_lit, this, bd_some]
  · intro i h1 h2
    unfold gL_J7_fill_53178_5 g_J7_fill_53178_5
    simp (disch := first | assumption | omega) only [qpT, qpF, qz_lit, qz_add, qz_mul, qz_neg, qz_sub, qz_inj, qz_lt, qz_le, qz_div, qp_0, qp_1, hp_bz_qp, hp_bz_0, hp_bz_1, if_pos, if_neg, if_true, if_false, u2_a, u2_b, u2_c, u2_d, u1_s, u1_o, u1_1, v1_s, v1_o, v1_e, v1_1, v2_s, v2_o, v2_2, not_true_eq_false, not_false_eq_true]
    rw [ua_cs h1 (by omega) (by omega) rfl]
    simp only [bd_some, qpT, qpF, qz_lit, qz_add, qz_mul, qz_neg, qz_sub, qz_inj, qz_lt, qz_le, qz_div, qp_0, qp_1, hp_bz_qp, hp_bz_0, hp_bz_1, v2_u1, u1_s, u1_1, fl_s h1]
  · unfold gL_J7_fill_53178_5 g_J7_fill_53178_5
    simp (disch := first | assumption | omega) only [qpT, qpF, qz_lit, qz_add, qz_mul, qz_neg, qz_sub, qz_inj, qz_lt, qz_le, qz_div, qp_0, qp_1, hp_bz_qp, hp_bz_0, hp_bz_1, if_pos, if_neg, if_true, if_false, u2_a, u2_b, u2_c, u2_d, u1_s, u1_o, u1_1, v1_s, v1_o, v1_e, v1_1, v2_s, v2_o, v2_2, not_true_eq_false, not_false_eq_true]
theorem c_fillB (hN : (nC ni v : Int) = N) (hb : N < 100000) (hn : N < n) (hx : -128 ≤ x) (hx2 : x < 128) : g_J7_fill_031fb n v (qz x) (cs f d a ni j) = some (cs f d (u1 a v (fl (a v) N x)) ni j) := by
  have := lp_for (b := gL_J7_fill_031fb_5 n v (qz x) (qz N)) (x := cs f d (u1 a v (fl (a v) N x)) ni j) (fun i => (qz i, cs f d (u1 a v (fl (a v) i x)) ni j)) N (n := n) (i0 := 0) (by omega) (by omega) ?_ ?_
  · unfold g_J7_fill_031fb g_J7_fill_031fb_0
    rw [fl_0, u1_id (f := a) rfl] at this
    rw [gL_cs hN]
    simp only [qz_lit, this, bd_some]
  · intro i h1 h2
    unfold gL_J7_fill_031fb_5 g_J7_fill_031fb_5
    simp (disch := first | assumption | omega) only [qpT, qpF, qz_lit, qz_add, qz_mul, qz_neg, qz_sub, qz_inj, qz_lt, qz_le, qz_div, qp_0, qp_1, hp_bz_qp, hp_bz_0, hp_bz_1, if_pos, if_neg, if_true, if_false, u2_a, u2_b, u2_c, u2_d, u1_s, u1_o, u1_1, v1_s, v1_o, v1_e, v1_1, v2_s, v2_o, v2_2, not_true_eq_false, not_false_eq_true]
    rw [ua_cs h1 (by omega) (by omega) (nar_1 hx hx2)]
    simp only [bd_some, qpT, qpF, qz_lit, qz_add, qz_mul, qz_neg, qz_sub, qz_inj, qz_lt, qz_le, qz_div, qp_0, qp_1, hp_bz_qp, hp_bz_0, hp_bz_1, v2_u1, u1_s, u1_1, fl_s h1]
  · unfold gL_J7_fill_031fb_5 g_J7_fill_031fb_5
    simp (disch := first | assumption | omega) only [qpT, qpF, qz_lit, qz_add, qz_mul, qz_neg, qz_sub, qz_inj, qz_lt, qz_le, qz_div, qp_0, qp_1, hp_bz_qp, hp_bz_0, hp_bz_1, if_pos, if_neg, if_true, if_false, u2_a, u2_b, u2_c, u2_d, u1_s, u1_o, u1_1, v1_s, v1_o, v1_e, v1_1, v2_s, v2_o, v2_2, not_true_eq_false, not_false_eq_true]
theorem c_fillJ {y : Int64} (hN : (nC ni v : Int) = N) (hb : N < 100000) (hn : N < n) : g_J7_fill_d0a16 n v y (cs f d a ni j) = some (cs f d a ni (u1 j v (fl (j v) N y))) := by
  have := lp_for (b := gL_J7_fill_d0a16_6 n v y (qz N)) (x := cs f d a ni (u1 j v (fl (j v) N y))) (fun i => (qz i, cs f d a ni (u1 j v (fl (j v) i y)))) N (n := n) (i0 := 0) (by omega) (by omega) ?_ ?_
  · unfold g_J7_fill_d0a16 g_J7_fill_d0a16_0
    rw [fl_0, u1_id (f := j) rfl] at this
    rw [gL_cs hN]
    simp only [qz_lit, this, bd_some]
  · intro i h1 h2
    unfold gL_J7_fill_d0a16_6 g_J7_fill_d0a16_6
    simp (disch := first | assumption | omega) only [qpT, qpF, qz_lit, qz_add, qz_mul, qz_neg, qz_sub, qz_inj, qz_lt, qz_le, qz_div, qp_0, qp_1, hp_bz_qp, hp_bz_0, hp_bz_1, if_pos, if_neg, if_true, if_false, u2_a, u2_b, u2_c, u2_d, u1_s, u1_o, u1_1, v1_s, v1_o, v1_e, v1_1, v2_s, v2_o, v2_2, not_true_eq_false, not_false_eq_true]
    rw [uj_cs h1 (by omega) (by omega)]
    simp only [bd_some, qpT, qpF, qz_lit, qz_add, qz_mul, qz_neg, qz_sub, qz_inj, qz_lt, qz_le, qz_div, qp_0, qp_1, hp_bz_qp, hp_bz_0, hp_bz_1, v2_u1, u1_s, u1_1, fl_s h1]
  · unfold gL_J7_fill_d0a16_6 g_J7_fill_d0a16_6
    simp (disch := first | assumption | omega) only [qpT, qpF, qz_lit, qz_add, qz_mul, qz_neg, qz_sub, qz_inj, qz_lt, qz_le, qz_div, qp_0, qp_1, hp_bz_qp, hp_bz_0, hp_bz_1, if_pos, if_neg, if_true, if_false, u2_a, u2_b, u2_c, u2_d, u1_s, u1_o, u1_1, v1_s, v1_o, v1_e, v1_1, v2_s, v2_o, v2_2, not_true_eq_false, not_false_eq_true]
theorem c_copy {s t l : Int} (h1 : 0 ≤ s) (h2 : 0 ≤ t) (h3 : 0 ≤ l) (h4 : s + l ≤ (nC ni v : Int)) (h5 : t + l ≤ (nC ni w : Int)) (h6 : s < 100000) (h7 : t < 100000) (h8 : l < 100000) : uC (cs f d a ni j) v (qz s) w (qz t) (qz l) = some (cs f d (u1 a w (cy (a v) (a w) s t l)) ni j) := by
  unfold uC
  rw [qz_toInt (by omega) (by omega), qz_toInt (by omega) (by omega), qz_toInt (by omega) (by omega), if_pos ⟨h1, h2, h3, h4, h5⟩, qz_clamp h1 (by omega), qz_clamp h2 (by omega), qz_clamp h3 (by omega)]
  unfold cs
  refine congrArg some (congrArg (Prod.mk _) (congrArg (Prod.mk _) (Prod.ext ?_ rfl)))
  funext y
  by_cases h : y = w
  · subst h
    simp only [if_true, u1_s]
    funext k
    unfold va_cpy cy
    by_cases q : t ≤ (k : Int) ∧ (k : Int) < t + l
    · rw [if_pos q, if_pos (by omega)]
      show qz (a v ((s.toNat + (k - t.toNat) : Nat) : Int)) = _
      congr 2
      omega
    · rw [if_neg q, if_neg (by omega)]
  · simp only [h, if_false, u1_o h]
/-- a row's items, from i on, to another list's end -/
theorem c_addFrom (hv : rws v) (hw : rws w) (H : Rw (f v 3) (f v 2) (ni (v + 1)) (nC0 (v + 2)) M (a (v + 2))) (H2 : Rw (f w 3) (f w 2) (ni (w + 1)) (nC0 (w + 2)) M2 (a (w + 2))) (h0 : 0 ≤ k) (h1 : k < f w 3) (hi : 0 ≤ i) {l : Int} (hl : a (w + 2) (k + 1) - a (w + 2) k = i + l) (hl0 : 0 ≤ l) (hu : f v 2 + l ≤ M) (hn : 100000 ≤ n) : ∃ (g : Int → Int) (N : Nat), g_X5_addFrom n v w (qz k) (qz i) (cs f d a ni j) = some (cs (u2 f v 2 (f v 2 + l)) d (u1 a (v + 1) g) (u1 ni (v + 1) N) j) ∧ (∀ t, t < f v 2 → g t = a (v + 1) t) ∧ (∀ t, 0 ≤ t → t < l → g (f v 2 + t) = a (w + 1) (a (w + 2) k + i + t)) ∧ Rw (f v 3) (f v 2 + l) N (nC0 (v + 2)) M (a (v + 2)) := by
  have hs := c_size (d := d) (j := j) (n := n) hw H2 h0 h1
  obtain ⟨n1, n2, n3⟩ := rws_ne hw hv
  obtain ⟨n4, n5, n6⟩ := rws_ne hv hw
  have hb : f v 2 + l ≤ 65536 ∧ 0 ≤ f v 2 := by
    obtain ⟨r1, r2, r3, r4, r5, r6, r7, r8, r9, r10, r11, r12⟩ := H
    omega
  have hb2 : 0 ≤ a (w + 2) k ∧ a (w + 2) (k + 1) ≤ f w 2 ∧ f w 2 ≤ 65536 := by
    obtain ⟨r1, r2, r3, r4, r5, r6, r7, r8, r9, r10, r11, r12⟩ := H2
    have e1 := r12 0 k (by omega) (by omega) (by omega)
    have e2 := r12 (k + 1) (f w 3) (by omega) (by omega) (by omega)
    omega
  have lp := lp_inv (b := gL_X5_addFrom_10 n v w (qz k) (qz (i + l))) (fun t c => ∃ (g : Int → Int) (N : Nat), c = (qz t, cs (u2 f v 2 (f v 2 + (t - i))) d (u1 a (v + 1) g) (u1 ni (v + 1) N) j) ∧ (∀ y, y < f v 2 → g y = a (v + 1) y) ∧ (∀ y, 0 ≤ y → y < t - i → g (f v 2 + y) = a (w + 1) (a (w + 2) k + i + y)) ∧ Rw (f v 3) (f v 2 + (t - i)) N (nC0 (v + 2)) M (a (v + 2)))
    (Q := fun c => ∃ (g : Int → Int) (N : Nat), c = cs (u2 f v 2 (f v 2 + l)) d (u1 a (v + 1) g) (u1 ni (v + 1) N) j ∧ (∀ y, y < f v 2 → g y = a (v + 1) y) ∧ (∀ y, 0 ≤ y → y < l → g (f v 2 + y) = a (w + 1) (a (w + 2) k + i + y)) ∧ Rw (f v 3) (f v 2 + l) N (nC0 (v + 2)) M (a (v + 2)))
    (i + l) (n := n) (i0 := i) (by omega) (by omega) (c0 := (qz i, cs f d a ni j)) ?_ ?_ ?_
  · obtain ⟨c, e, g, N, rfl, g1, g2, g3⟩ := lp
    refine ⟨g, N, ?_, g1, g2, g3⟩
    unfold g_X5_addFrom g_X5_addFrom_0
    rw [hs, hl]
    simp only [bd_some, e]
  · refine ⟨a (v + 1), ni (v + 1), ?_, fun _ _ => rfl, fun y _ _ => by omega, ?_⟩
    · rw [u1_id (f := a) rfl, u1_id (f := ni) rfl, u2_id (by omega)]
    · rw [show f v 2 + (i - i) = f v 2 by omega]; exact H
  · rintro t c t1 t2 ⟨g, N, rfl, g1, g2, g3⟩
    have Hw : Rw (u2 f v 2 (f v 2 + (t - i)) w 3) (u2 f v 2 (f v 2 + (t - i)) w 2) ((u1 ni (v + 1) N (w + 1) : Nat) : Int) (nC0 (w + 2)) (if w = v then M else M2) (u1 a (v + 1) g (w + 2)) := by
      rw [u1_o (f := a) (by omega), u2_c (by decide)]
      by_cases q : w = v
      · subst q
        rw [u2_a, u1_s, if_pos rfl]; exact g3
      · rw [u2_b q, u1_o (by omega), if_neg q]; exact H2
    have eg := c_get (f := u2 f v 2 (f v 2 + (t - i))) (a := u1 a (v + 1) g) (ni := u1 ni (v + 1) N) (d := d) (j := j) (n := n) (k := k) (i := t) hw Hw h0 (by rw [u2_c (by decide)]; exact h1) (by omega) (by rw [u1_o (f := a) (by omega)]; omega)
    rw [u1_o (f := a) (k := v + 1) (b := w + 2) (by omega)] at eg
    obtain ⟨g', N', ea, a1, a2, a3⟩ := c_add (f := u2 f v 2 (f v 2 + (t - i))) (a := u1 a (v + 1) g) (ni := u1 ni (v + 1) N) (d := d) (j := j) (n := n) (x := u1 a (v + 1) g (w + 1) (a (w + 2) k + t)) (M := M) hv (by rw [u1_o (f := a) (by omega), u2_c (by decide), u2_a, u1_s]; exact g3) (by rw [u2_a]; omega)
    rw [u2_a, u2_d, u1_1, u1_1] at ea
    simp only [u2_a] at a1 a2 a3
    rw [u1_s] at a1
    refine ⟨_, ?_, g', N', rfl, ?_, ?_, ?_⟩
    · unfold gL_X5_addFrom_10 g_X5_addFrom_10 g_X5_addFrom_28
      simp (disch := first | assumption | omega) only [qpT, qpF, qz_lit, qz_add, qz_mul, qz_neg, qz_sub, qz_inj, qz_lt, qz_le, qz_div, qp_0, qp_1, hp_bz_qp, hp_bz_0, hp_bz_1, if_pos, if_neg, if_true, if_false, u2_a, u2_b, u2_c, u2_d, u1_s, u1_o, u1_1, v1_s, v1_o, v1_e, v1_1, v2_s, v2_o, v2_2, not_true_eq_false, not_false_eq_true, eg, ea, bd_some]
      rw [show f v 2 + (t - i) + 1 = f v 2 + (t + 1 - i) by omega]
    · intro y hy
      rw [a1 y (by omega), g1 y hy]
    · intro y y1 y2
      by_cases q : y = t - i
      · rw [show f v 2 + y = f v 2 + (t - i) by omega, a2]
        by_cases q2 : w = v
        · subst q2
          rw [u1_s, g1 _ (by omega)]
          congr 1
          omega
        · rw [u1_o (by omega)]
          congr 1
          omega
      · rw [a1 _ (by omega), g2 y y1 (by omega)]
    · rw [u1_o (f := a) (by omega), u2_c (by decide)] at a3
      rw [show f v 2 + (t + 1 - i) = f v 2 + (t - i) + 1 by omega]
      exact a3
  · rintro c ⟨g, N, rfl, g1, g2, g3⟩
    have e : i + l - i = l := by omega
    rw [e] at g2 g3
    refine ⟨_, ?_, g, N, rfl, g1, g2, g3⟩
    unfold gL_X5_addFrom_10 g_X5_addFrom_10
    simp (disch := first | assumption | omega) only [qpT, qpF, qz_lit, qz_add, qz_mul, qz_neg, qz_sub, qz_inj, qz_lt, qz_le, qz_div, qp_0, qp_1, hp_bz_qp, hp_bz_0, hp_bz_1, if_pos, if_neg, if_true, if_false, u2_a, u2_b, u2_c, u2_d, u1_s, u1_o, u1_1, v1_s, v1_o, v1_e, v1_1, v2_s, v2_o, v2_2, not_true_eq_false, not_false_eq_true, e]
/-- a row of one list is a row of another -/
theorem c_hasRow (hv : rws v) (hw : rws w) (H : Rw (f v 3) (f v 2) (ni (v + 1)) (nC0 (v + 2)) M (a (v + 2))) (H2 : Rw (f w 3) (f w 2) (ni (w + 1)) (nC0 (w + 2)) M2 (a (w + 2))) (h0 : 0 ≤ k) (h1 : k < f v 3) (h2 : 0 ≤ i) (h3 : i < f w 3) (hn : 100000 ≤ n) (hv1 : ∀ x, -2147483648 ≤ a (v + 1) x ∧ a (v + 1) x < 2147483648) (hw1 : ∀ x, -2147483648 ≤ a (w + 1) x ∧ a (w + 1) x < 2147483648) :
    g_X5_hasRow n v (qz k) w (qz i) (cs f d a ni j) = some (qp (a (v + 2) (k + 1) - a (v + 2) k = a (w + 2) (i + 1) - a (w + 2) i ∧ ∀ x, 0 ≤ x → x < a (v + 2) (k + 1) - a (v + 2) k → a (v + 1) (a (v + 2) k + x) = a (w + 1) (a (w + 2) i + x))) := by
  have hs := c_size (d := d) (j := j) (n := n) hv H h0 h1
  have hs2 := c_size (d := d) (j := j) (n := n) hw H2 h2 h3
  have hb : 0 ≤ a (v + 2) k ∧ a (v + 2) k ≤ a (v + 2) (k + 1) ∧ a (v + 2) (k + 1) ≤ f v 2 ∧ f v 2 ≤ 65536 := by
    obtain ⟨r1, r2, r3, r4, r5, r6, r7, r8, r9, r10, r11, r12⟩ := H
    have e1 := r12 0 k (by omega) (by omega) (by omega)
    have e3 := r12 k (k + 1) (by omega) (by omega) (by omega)
    have e2 := r12 (k + 1) (f v 3) (by omega) (by omega) (by omega)
    omega
  have hb2 : 0 ≤ a (w + 2) i ∧ a (w + 2) i ≤ a (w + 2) (i + 1) ∧ a (w + 2) (i + 1) ≤ f w 2 ∧ f w 2 ≤ 65536 := by
    obtain ⟨r1, r2, r3, r4, r5, r6, r7, r8, r9, r10, r11, r12⟩ := H2
    have e1 := r12 0 i (by omega) (by omega) (by omega)
    have e3 := r12 i (i + 1) (by omega) (by omega) (by omega)
    have e2 := r12 (i + 1) (f w 3) (by omega) (by omega) (by omega)
    omega
  unfold g_X5_hasRow g_X5_hasRow_0
  rw [hs, bd_some, hs2, bd_some]
  by_cases q : a (v + 2) (k + 1) - a (v + 2) k = a (w + 2) (i + 1) - a (w + 2) i
  · rw [if_pos (by rw [q])]
    have := lp_find (b := gL_X5_hasRow_22 n v (qz k) w (qz i) (qz (a (v + 2) (k + 1) - a (v + 2) k)) (cs f d a ni j)) (fun x => qz x) (fun x => a (v + 1) (a (v + 2) k + x) ≠ a (w + 1) (a (w + 2) i + x)) (fun _ => qz 0) (qz 1) (n := n) (lo := 0) (a (v + 2) (k + 1) - a (v + 2) k) (by omega) (by omega) ?_ ?_ ?_
    · rcases this with ⟨x, x1, x2, x3, x4, x5⟩ | ⟨x4, x5⟩
      · simp only [qz_lit, x5, bd_some]
        rw [qp_F]
        exact fun h => x3 (h.2 x x1 x2)
      · simp only [qz_lit, x5, bd_some]
        rw [qp_T]
        exact ⟨q, fun x x1 x2 => Classical.not_not.mp (x4 x x1 x2)⟩
    · intro x x1 x2 x3
      have x4 := Classical.not_not.mp x3
      unfold gL_X5_hasRow_22 g_X5_hasRow_22
      rw [c_get (d := d) (j := j) (n := n) hv H h0 h1 x1 x2, c_get (d := d) (j := j) (n := n) hw H2 h2 h3 x1 (by omega)]
      simp (disch := first | assumption | omega) only [qpT, qpF, qz_lit, qz_add, qz_mul, qz_neg, qz_sub, qz_inj, qz_lt, qz_le, qz_div, qp_0, qp_1, hp_bz_qp, hp_bz_0, hp_bz_1, if_pos, if_neg, if_true, if_false, u2_a, u2_b, u2_c, u2_d, u1_s, u1_o, u1_1, v1_s, v1_o, v1_e, v1_1, v2_s, v2_o, v2_2, not_true_eq_false, not_false_eq_true, bd_some, x4]
    · intro x x1 x2 x3
      have y1 := hv1 (a (v + 2) k + x)
      have y2 := hw1 (a (w + 2) i + x)
      unfold gL_X5_hasRow_22 g_X5_hasRow_22
      rw [c_get (d := d) (j := j) (n := n) hv H h0 h1 x1 x2, c_get (d := d) (j := j) (n := n) hw H2 h2 h3 x1 (by omega)]
      simp (disch := first | assumption | omega) only [qpT, qpF, qz_lit, qz_add, qz_mul, qz_neg, qz_sub, qz_inj, qz_lt, qz_le, qz_div, qp_0, qp_1, hp_bz_qp, hp_bz_0, hp_bz_1, if_pos, if_neg, if_true, if_false, u2_a, u2_b, u2_c, u2_d, u1_s, u1_o, u1_1, v1_s, v1_o, v1_e, v1_1, v2_s, v2_o, v2_2, not_true_eq_false, not_false_eq_true, bd_some]
    · unfold gL_X5_hasRow_22 g_X5_hasRow_22
      simp (disch := first | assumption | omega) only [qpT, qpF, qz_lit, qz_add, qz_mul, qz_neg, qz_sub, qz_inj, qz_lt, qz_le, qz_div, qp_0, qp_1, hp_bz_qp, hp_bz_0, hp_bz_1, if_pos, if_neg, if_true, if_false, u2_a, u2_b, u2_c, u2_d, u1_s, u1_o, u1_1, v1_s, v1_o, v1_e, v1_1, v2_s, v2_o, v2_2, not_true_eq_false, not_false_eq_true, bd_some]
  · have e : (qz (a (v + 2) (k + 1) - a (v + 2) k) = qz (a (w + 2) (i + 1) - a (w + 2) i)) = (a (v + 2) (k + 1) - a (v + 2) k = a (w + 2) (i + 1) - a (w + 2) i) := qz_inj (by omega) (by omega) (by omega) (by omega)
    rw [if_neg (by rw [e]; exact q), qp_F (fun h => q h.1)]
    rfl
/-- the last row in place of l rows under it -/
theorem c_drop (hv : rws v) (H : Rw (f v 3) (f v 2) (ni (v + 1)) (nC0 (v + 2)) M (a (v + 2))) {l s t z : Int} (h1 : 0 < l) (h2 : l < f v 3) (ht : a (v + 2) (f v 3 - 1) = t) (hs : a (v + 2) (f v 3 - 1 - l) = s) (hz : a (v + 2) (f v 3) - t = z) :
    g_X5_dropUnderLast n v (qz l) (cs f d a ni j) = some (cs (u2 (u2 f v 3 (f v 3 - l)) v 2 (s + z)) d (u1 (u1 a (v + 1) (cy (a (v + 1)) (a (v + 1)) t s z)) (v + 2) (v1 (a (v + 2)) (f v 3 - l) (s + z))) ni j) ∧ Rw (f v 3 - l) (s + z) (ni (v + 1)) (nC0 (v + 2)) M (v1 (a (v + 2)) (f v 3 - l) (s + z)) := by
  have hsz := c_size (k := f v 3 - 1) (d := d) (j := j) (n := n) hv H (by omega) (by omega)
  rw [show f v 3 - 1 + 1 = f v 3 by omega, ht, hz] at hsz
  obtain ⟨r1, r2, r3, r4, r5, r6, r7, r8, r9, r10, r11, r12⟩ := H
  have e1 := r12 0 (f v 3 - 1 - l) (by omega) (by omega) (by omega)
  have e2 := r12 (f v 3 - 1 - l) (f v 3 - 1) (by omega) (by omega) (by omega)
  have e3 := r12 (f v 3 - 1) (f v 3) (by omega) (by omega) (by omega)
  constructor
  · unfold g_X5_dropUnderLast g_X5_dropUnderLast_0
    simp (disch := first | assumption | omega) only [qpT, qpF, qz_lit, qz_add, qz_mul, qz_neg, qz_sub, qz_inj, qz_lt, qz_le, qz_div, qp_0, qp_1, hp_bz_qp, hp_bz_0, hp_bz_1, if_pos, if_neg, if_true, if_false, u2_a, u2_b, u2_c, u2_d, u1_s, u1_o, u1_1, v1_s, v1_o, v1_e, v1_1, v2_s, v2_o, v2_2, not_true_eq_false, not_false_eq_true, gf_cs, gpr_0, gpr_1, ga_st, bd_some, hsz, ht, hs]
    rw [c_copy (by omega) (by omega) (by omega) (by rw [nci hv]; omega) (by rw [nci hv]; omega) (by omega) (by omega) (by omega)]
    simp (disch := first | assumption | omega) only [qpT, qpF, qz_lit, qz_add, qz_mul, qz_neg, qz_sub, qz_inj, qz_lt, qz_le, qz_div, qp_0, qp_1, hp_bz_qp, hp_bz_0, hp_bz_1, if_pos, if_neg, if_true, if_false, u2_a, u2_b, u2_c, u2_d, u1_s, u1_o, u1_1, v1_s, v1_o, v1_e, v1_1, v2_s, v2_o, v2_2, not_true_eq_false, not_false_eq_true, gf_cs, wf_cs, gpr_0, gpr_1, ua_st, bd_some, v2_u1]
  · refine ⟨by omega, by omega, by omega, by omega, r5, r6, r7, r8, r9, by rw [v1_o (by omega)]; exact r10, by rw [v1_s]; omega, ?_⟩
    intro i k h1 h2 h3
    by_cases q : k = f v 3 - l
    · subst q
      by_cases q2 : i = f v 3 - l
      · subst q2; omega
      · rw [v1_o q2, v1_s]
        have := r12 i (f v 3 - 1 - l) h1 (by omega) (by omega)
        omega
    · rw [v1_o q, v1_o (by omega)]
      exact r12 i k h1 h2 (by omega)
end ROWT
