/-! What a proof's form is, and on what it rests: the class -/
section NOT
variable {f : Nat → Nat → Int} {d : Nat → Nat} {a : Nat → Int → Int} {ni : Nat → Nat} {j : Nat → Int → Int64} {n b : Nat} {k K i c len q sz : Int} {A18 : Int → Int}
theorem c_isJust (hb : bks b) (H : Rw (f (b + 14) 3) (f (b + 14) 2) (ni (b + 14 + 1)) (nC0 (b + 14 + 2)) 4096 (a (b + 14 + 2))) (h0 : 0 ≤ k) (h1 : k < f (b + 14) 3) (i0 : 0 ≤ i) (i1 : i < a (b + 14 + 2) (k + 1) - a (b + 14 + 2) k) (hl : f b 2 = len) (hl0 : 0 ≤ len) (hl1 : len ≤ 8192) (ht : byt (a (b + 2))) (hc : 0 ≤ c ∧ c < 128) (hk : tkn (a (b + 2)) len (a (b + 14 + 1) (a (b + 14 + 2) k + i)) (A18 (4096 * q + (a (b + 14 + 2) k + i)))) : g_X0_isJust n b (qz k) (qz i) (qz c) (cs f d a ni j) = some (qp (one q (a (b + 2)) (a (b + 14 + 1)) A18 (a (b + 14 + 2) k + i) c)) := by
  obtain ⟨k1, k2, k3, k4, k5⟩ := hk
  have kb := ht (a (b + 14 + 1) (a (b + 14 + 2) k + i)) k1 (by omega)
  unfold g_X0_isJust g_X0_isJust_0
  simp only [qz_lit]
  rw [gpb_10 hb, c_get (rws_b14 hb) H h0 h1 i0 i1, bd_some, if_neg (by rw [qz_lt (by omega) (by omega) (by omega) (by omega)]; omega), gpb_1 hb, gab_2 hb k1 (by omega), bd_some, qz_add, c_inTok hb (by omega) (by omega) ht (by omega) (by omega), bd_some, hl]
  unfold one
  by_cases z : a (b + 2) (a (b + 14 + 1) (a (b + 14 + 2) k + i)) = c
  · rw [z, if_pos rfl]
    by_cases z2 : A18 (4096 * q + (a (b + 14 + 2) k + i)) = 1
    · have hn1 : ¬(a (b + 14 + 1) (a (b + 14 + 2) k + i) + 1 < len ∧ 32 < a (b + 2) (a (b + 14 + 1) (a (b + 14 + 2) k + i) + 1)) := by
        rintro ⟨y1, y2⟩
        have := k5 (by omega)
        rw [z2] at this
        omega
      rw [qp_F hn1, if_pos rfl, qp_T ⟨z2, rfl⟩]
    · have := k4 (a (b + 14 + 1) (a (b + 14 + 2) k + i) + 1) (by omega) (by omega)
      rw [qp_T (by omega), if_neg n10, qp_F (fun y => z2 y.1)]
  · rw [if_neg (by rw [qz_inj (by omega) (by omega) (by omega) (by omega)]; exact z), qp_F (fun y => z y.2)]
theorem c_noteForm (hb : bks b) (hn : 100000 ≤ n) (H : Rw (f (b + 14) 3) (f (b + 14) 2) (ni (b + 14 + 1)) (nC0 (b + 14 + 2)) 4096 (a (b + 14 + 2))) (h0 : 0 ≤ K) (h1 : K < f (b + 14) 3) (h2 : K < 200) (hsz : a (b + 14 + 2) (K + 1) - a (b + 14 + 2) K = sz) (hs0 : 0 ≤ sz) (hs1 : sz ≤ 400) (hl : f b 2 = len) (hl0 : 0 ≤ len) (hl1 : len ≤ 8192) (ht : byt (a (b + 2))) (hk : ∀ i, 0 ≤ i → i < sz → tkn (a (b + 2)) len (a (b + 14 + 1) (a (b + 14 + 2) K + i)) (A18 (4096 * q + (a (b + 14 + 2) K + i)))) :
    ∃ cm le, g_X0_noteForm n b (qz K) (cs f d a ni j) = some (cs f d (v2 (v2 a (b + 29) K cm) (b + 30) K le) ni j) ∧ 0 ≤ le ∧ le ≤ sz ∧ ((cm = 1 ∧ 0 < sz ∧ one q (a (b + 2)) (a (b + 14 + 1)) A18 (a (b + 14 + 2) K) 40 ∧ 1 ≤ le ∧ (∀ i, 1 ≤ i → i < le → ¬one q (a (b + 2)) (a (b + 14 + 1)) A18 (a (b + 14 + 2) K + i) 41) ∧ (le < sz → one q (a (b + 2)) (a (b + 14 + 1)) A18 (a (b + 14 + 2) K + le) 41)) ∨ (cm = 0 ∧ ¬(0 < sz ∧ one q (a (b + 2)) (a (b + 14 + 1)) A18 (a (b + 14 + 2) K) 40) ∧ le = sz)) := by
  have hbb : b = 1 ∨ b = 33 := hb
  have e0' : (Int32.toInt8 (qz 0)).toInt32 = qz 0 := by decide
  have e1' : (Int32.toInt8 (qz 1)).toInt32 = qz 1 := by decide
  have es := c_size (d := d) (j := j) (n := n) (rws_b14 hb) H h0 h1
  rw [hsz] at es
  have ej : g_X0_isJust n b (qz K) (qz 0) (qz 40) (cs f d a ni j) = some (qp (0 < sz ∧ one q (a (b + 2)) (a (b + 14 + 1)) A18 (a (b + 14 + 2) K) 40)) := by
    by_cases z : 0 < sz
    · have := c_isJust (c := 40) (d := d) (j := j) (n := n) (i := 0) hb H h0 h1 (by omega) (by omega) hl hl0 hl1 ht (by omega) (hk 0 (by omega) z)
      rw [this, show a (b + 14 + 2) K + 0 = a (b + 14 + 2) K by omega]
      exact congrArg some (qp_congr ⟨fun y => ⟨z, y⟩, fun y => y.2⟩)
    · unfold g_X0_isJust g_X0_isJust_0
      simp only [qz_lit]
      rw [gpb_10 hb, c_get0 (rws_b14 hb) H (by omega) (by omega) (by omega) (by omega) (by omega), bd_some, if_pos (by decide), qp_F (fun y => z y.1)]
  have loop : ∀ cm : Int, hp_lp (gL_X0_noteForm_43 n b (qz K)) n (qz (sz - 1), cs f d (v2 (v2 a (b + 29) K cm) (b + 30) K sz) ni j) = hp_lp (gL_X0_noteForm_43 n b (qz K)) n (qz (sz - 1), cs f d (v2 (v2 a (b + 29) K cm) (b + 30) K sz) ni j) := fun _ => rfl
  clear loop
  have start : ∀ cm : Int, (cm = 0 ∨ cm = 1) → g_X0_noteForm_30 n b (qz K) (qz sz) (qz cm) (qz K) (b + 29) (cs f d a ni j) = (hp_lp (gL_X0_noteForm_43 n b (qz K)) n (qz (sz - 1), cs f d (v2 (v2 a (b + 29) K cm) (b + 30) K sz) ni j)).bind fun x4 => some x4 := by
    intro cm hcm
    unfold g_X0_noteForm_30
    rcases hcm with rfl | rfl
    · rw [e0']
      simp (disch := first | assumption | omega) only [qpT, qpF, qz_lit, qz_add, qz_mul, qz_neg, qz_sub, qz_inj, qz_lt, qz_le, qz_div, qp_0, qp_1, hp_bz_qp, hp_bz_0, hp_bz_1, uab_29, uab_30, gpb_16, bd_some]
    · rw [e1']
      simp (disch := first | assumption | omega) only [qpT, qpF, qz_lit, qz_add, qz_mul, qz_neg, qz_sub, qz_inj, qz_lt, qz_le, qz_div, qp_0, qp_1, hp_bz_qp, hp_bz_0, hp_bz_1, uab_29, uab_30, gpb_16, bd_some]
  by_cases cz : 0 < sz ∧ one q (a (b + 2)) (a (b + 14 + 1)) A18 (a (b + 14 + 2) K) 40
  · have X0 : g_X0_noteForm n b (qz K) (cs f d a ni j) = (hp_lp (gL_X0_noteForm_43 n b (qz K)) n (qz (sz - 1), cs f d (v2 (v2 a (b + 29) K 1) (b + 30) K sz) ni j)).bind fun x4 => some x4 := by
      unfold g_X0_noteForm g_X0_noteForm_0
      simp only [qz_lit]
      rw [gpb_10 hb, es, bd_some, ej, bd_some, qp_T cz, if_neg n10, gpb_15 hb, start 1 (Or.inr rfl)]
    have lp := lp_inv (b := gL_X0_noteForm_43 n b (qz K)) (fun t c => ∃ le, c = (qz (sz - 1 - t), cs f d (v2 (v2 a (b + 29) K 1) (b + 30) K le) ni j) ∧ sz - 1 - t < le ∧ le ≤ sz ∧ (∀ i, sz - 1 - t < i → i < le → ¬one q (a (b + 2)) (a (b + 14 + 1)) A18 (a (b + 14 + 2) K + i) 41) ∧ (le < sz → one q (a (b + 2)) (a (b + 14 + 1)) A18 (a (b + 14 + 2) K + le) 41))
      (Q := fun c => ∃ le, c = cs f d (v2 (v2 a (b + 29) K 1) (b + 30) K le) ni j ∧ 0 < le ∧ le ≤ sz ∧ (∀ i, 0 < i → i < le → ¬one q (a (b + 2)) (a (b + 14 + 1)) A18 (a (b + 14 + 2) K + i) 41) ∧ (le < sz → one q (a (b + 2)) (a (b + 14 + 1)) A18 (a (b + 14 + 2) K + le) 41)) (sz - 1) (n := n) (i0 := 0) (by omega) (by omega) (c0 := (qz (sz - 1), cs f d (v2 (v2 a (b + 29) K 1) (b + 30) K sz) ni j)) ?_ ?_ ?_
    · obtain ⟨c, e, le, rfl, y1, y2, y3, y4⟩ := lp
      refine ⟨1, le, ?_, by omega, y2, Or.inl ⟨rfl, cz.1, cz.2, by omega, fun i x1 x2 => y3 i (by omega) x2, y4⟩⟩
      rw [X0, e, bd_some]
    · refine ⟨sz, ?_, by omega, by omega, fun i x1 x2 => by omega, fun x => by omega⟩
      rw [show sz - 1 - 0 = sz - 1 by omega]
    · rintro t c' t1 t2 ⟨le, rfl, y1, y2, y3, y4⟩
      have ek := hk (sz - 1 - t) (by omega) (by omega)
      have ej2 := c_isJust (f := f) (a := v2 (v2 a (b + 29) K 1) (b + 30) K le) (ni := ni) (c := 41) (d := d) (j := j) (n := n) (k := K) (i := sz - 1 - t) (len := len) (q := q) (A18 := A18) hb (by simp (disch := omega) only [v2_o]; exact H) h0 h1 (by omega) (by simp (disch := omega) only [v2_o]; omega) hl hl0 hl1 (by simp (disch := omega) only [v2_o]; exact ht) (by omega) (by simp (disch := omega) only [v2_o]; exact ek)
      simp (disch := omega) only [v2_o] at ej2
      have body : gL_X0_noteForm_43 n b (qz K) (qz (sz - 1 - t), cs f d (v2 (v2 a (b + 29) K 1) (b + 30) K le) ni j) = if qp (one q (a (b + 2)) (a (b + 14 + 1)) A18 (a (b + 14 + 2) K + (sz - 1 - t)) 41) = qz 0 then some (.inl (qz (sz - 1 - (t + 1)), cs f d (v2 (v2 a (b + 29) K 1) (b + 30) K le) ni j)) else some (.inl (qz (sz - 1 - (t + 1)), cs f d (v2 (v2 a (b + 29) K 1) (b + 30) K (sz - 1 - t)) ni j)) := by
        unfold gL_X0_noteForm_43 g_X0_noteForm_43 g_X0_noteForm_74
        simp only [qz_lit, qz_neg]
        rw [if_neg (by rw [qz_le (by omega) (by omega) (by omega) (by omega)]; omega)]
        simp (disch := first | assumption | omega) only [gpb_15, gpb_16, gab_29, v2_o, v2_s, v1_s, bd_some, uab_30, v2_2, qz_add]
        rw [if_neg n10, ej2, bd_some, show sz - 1 - t + -1 = sz - 1 - (t + 1) by omega]
      by_cases o : one q (a (b + 2)) (a (b + 14 + 1)) A18 (a (b + 14 + 2) K + (sz - 1 - t)) 41
      · rw [qp_T o, if_neg n10] at body
        exact ⟨_, body, sz - 1 - t, rfl, by omega, by omega, fun i x1 x2 => by omega, fun _ => o⟩
      · rw [qp_F o, if_pos rfl] at body
        refine ⟨_, body, le, rfl, by omega, y2, fun i x1 x2 => ?_, y4⟩
        by_cases z : i = sz - 1 - t
        · rw [z]; exact o
        · exact y3 i (by omega) x2
    · rintro c' ⟨le, rfl, y1, y2, y3, y4⟩
      refine ⟨_, ?_, le, rfl, by omega, y2, fun i x1 x2 => y3 i (by omega) x2, y4⟩
      unfold gL_X0_noteForm_43 g_X0_noteForm_43
      simp only [qz_lit]
      rw [if_pos (by rw [qz_le (by omega) (by omega) (by omega) (by omega)]; omega)]
  · refine ⟨0, sz, ?_, hs0, Int.le_refl _, Or.inr ⟨rfl, cz, rfl⟩⟩
    unfold g_X0_noteForm g_X0_noteForm_0
    simp only [qz_lit]
    rw [gpb_10 hb, es, bd_some, ej, bd_some, qp_F cz, if_pos rfl, gpb_15 hb, start 0 (Or.inl rfl)]
    have hx : hp_lp (gL_X0_noteForm_43 n b (qz K)) n (qz (sz - 1), cs f d (v2 (v2 a (b + 29) K 0) (b + 30) K sz) ni j) = some (cs f d (v2 (v2 a (b + 29) K 0) (b + 30) K sz) ni j) := by
      obtain ⟨n', rfl⟩ : ∃ x, n = x + 1 := ⟨n - 1, by omega⟩
      apply hp_lp_x
      unfold gL_X0_noteForm_43 g_X0_noteForm_43
      simp only [qz_lit]
      by_cases z : sz - 1 ≤ 0
      · rw [if_pos (by rw [qz_le (by omega) (by omega) (by omega) (by omega)]; exact z)]
      · rw [if_neg (by rw [qz_le (by omega) (by omega) (by omega) (by omega)]; exact z)]
        simp (disch := first | assumption | omega) only [gpb_15, gab_29, v2_o, v2_s, v1_s, bd_some, if_true]
    rw [hx, bd_some]
/-- a statement's axioms -/
theorem c_noteAx (hb : bks b) (hn : 100000 ≤ n) (H : Rw (f (b + 17) 3) (f (b + 17) 2) (ni (b + 17 + 1)) (nC0 (b + 17 + 2)) 4096 (a (b + 17 + 2))) (h0 : 0 ≤ K) (h1 : K < f (b + 17) 3) (h2 : K < 200) {le : Int} (hle : a (b + 30) K = le) (hl0 : 0 ≤ le) (hl1 : le ≤ a (b + 17 + 2) (K + 1) - a (b + 17 + 2) K) (hl2 : le ≤ 400) (hnm : ∀ i, 0 ≤ i → i < le → -1 ≤ a (b + 17 + 1) (a (b + 17 + 2) K + i) ∧ a (b + 17 + 1) (a (b + 17 + 2) K + i) < K) (hki : ∀ k, 0 ≤ k → k < K → 0 ≤ a (b + 8) k ∧ a (b + 8) k ≤ 3) :
    ∃ jx : Int → Int64, g_X0_noteAxioms n b (qz K) (cs f d a ni j) = some (cs f d a ni (u1 j (b + 31) jx)) ∧ (∀ x, ¬(K * 4 ≤ x ∧ x < K * 4 + 4) → jx x = j (b + 31) x) ∧ ∀ x, 0 ≤ x → x < 200 → (bt jx (K * 4) x ↔ ∃ i, 0 ≤ i ∧ i < le ∧ ((a (b + 17 + 1) (a (b + 17 + 2) K + i) = x ∧ a (b + 8) x = 2) ∨ (0 ≤ a (b + 17 + 1) (a (b + 17 + 2) K + i) ∧ a (b + 8) (a (b + 17 + 1) (a (b + 17 + 2) K + i)) = 3 ∧ bt (j (b + 31)) (a (b + 17 + 1) (a (b + 17 + 2) K + i) * 4) x))) := by
  have hbb : b = 1 ∨ b = 33 := hb
  have lp1 := lp_inv (b := gL_X0_noteAxioms_6 n b (qz K) (qz (K * 4))) (fun t c => ∃ jx : Int → Int64, c = (qz t, cs f d a ni (u1 j (b + 31) jx)) ∧ (∀ x, ¬(K * 4 ≤ x ∧ x < K * 4 + 4) → jx x = j (b + 31) x) ∧ ∀ x, K * 4 ≤ x → x < K * 4 + t → jx x = 0)
    (Q := fun c => ∃ jx : Int → Int64, c = cs f d a ni (u1 j (b + 31) jx) ∧ (∀ x, ¬(K * 4 ≤ x ∧ x < K * 4 + 4) → jx x = j (b + 31) x) ∧ ∀ x, K * 4 ≤ x → x < K * 4 + 4 → jx x = 0) 4 (n := n) (i0 := 0) (by omega) (by omega) (c0 := (qz 0, cs f d a ni j)) ⟨j (b + 31), by rw [u1_id (f := j) rfl], fun _ _ => rfl, fun x _ _ => by omega⟩ (by
      rintro t c t1 t2 ⟨jx, rfl, y1, y2⟩
      refine ⟨_, ?_, v1 jx (K * 4 + t) 0, rfl, fun x hx => ?_, fun x x1 x2 => ?_⟩
      · unfold gL_X0_noteAxioms_6 g_X0_noteAxioms_6
        simp (disch := first | assumption | omega) only [qpT, qpF, qz_lit, qz_add, qz_mul, qz_neg, qz_sub, qz_inj, qz_lt, qz_le, qz_div, qp_0, qp_1, hp_bz_qp, hp_bz_0, hp_bz_1, if_neg, gpb_17, ujb_31, bd_some]
        rw [v2_u1, u1_s, u1_1]
      · rw [v1_o (by omega)]; exact y1 x hx
      · by_cases z : x = K * 4 + t
        · rw [z, v1_s]
        · rw [v1_o z]; exact y2 x x1 (by omega)) (by
      rintro c ⟨jx, rfl, y1, y2⟩
      refine ⟨_, ?_, jx, rfl, y1, y2⟩
      unfold gL_X0_noteAxioms_6 g_X0_noteAxioms_6
      simp (disch := first | assumption | omega) only [qpT, qpF, qz_lit, qz_add, qz_mul, qz_neg, qz_sub, qz_inj, qz_lt, qz_le, qz_div, qp_0, qp_1, hp_bz_qp, hp_bz_0, hp_bz_1, if_pos])
  obtain ⟨c1, e1, j1, rfl, j11, j12⟩ := lp1
  have lp2 := lp_inv (b := gL_X0_noteAxioms_28 n b (qz K) (qz (K * 4))) (fun t c => ∃ jx : Int → Int64, c = (qz t, cs f d a ni (u1 j (b + 31) jx)) ∧ (∀ x, ¬(K * 4 ≤ x ∧ x < K * 4 + 4) → jx x = j (b + 31) x) ∧ ∀ x, 0 ≤ x → x < 200 → (bt jx (K * 4) x ↔ ∃ i, 0 ≤ i ∧ i < t ∧ ((a (b + 17 + 1) (a (b + 17 + 2) K + i) = x ∧ a (b + 8) x = 2) ∨ (0 ≤ a (b + 17 + 1) (a (b + 17 + 2) K + i) ∧ a (b + 8) (a (b + 17 + 1) (a (b + 17 + 2) K + i)) = 3 ∧ bt (j (b + 31)) (a (b + 17 + 1) (a (b + 17 + 2) K + i) * 4) x))))
    (Q := fun c => ∃ jx : Int → Int64, c = cs f d a ni (u1 j (b + 31) jx) ∧ (∀ x, ¬(K * 4 ≤ x ∧ x < K * 4 + 4) → jx x = j (b + 31) x) ∧ ∀ x, 0 ≤ x → x < 200 → (bt jx (K * 4) x ↔ ∃ i, 0 ≤ i ∧ i < le ∧ ((a (b + 17 + 1) (a (b + 17 + 2) K + i) = x ∧ a (b + 8) x = 2) ∨ (0 ≤ a (b + 17 + 1) (a (b + 17 + 2) K + i) ∧ a (b + 8) (a (b + 17 + 1) (a (b + 17 + 2) K + i)) = 3 ∧ bt (j (b + 31)) (a (b + 17 + 1) (a (b + 17 + 2) K + i) * 4) x)))) le (n := n) (i0 := 0) hl0 (by omega) (c0 := (qz 0, cs f d a ni (u1 j (b + 31) j1))) ⟨j1, rfl, j11, fun x x1 x2 => ⟨fun z => absurd z (bt_zero (j12 _ (by omega) (by omega))), fun ⟨i, i1, i2, _⟩ => by omega⟩⟩ (by
      rintro t c t1 t2 ⟨jx, rfl, y1, y2⟩
      have hm := hnm t t1 t2
      have eg := c_get (f := f) (a := a) (ni := ni) (d := d) (j := u1 j (b + 31) jx) (n := n) (k := K) (i := t) (rws_b17 hb) H h0 h1 t1 (by omega)
      generalize hlab : a (b + 17 + 1) (a (b + 17 + 2) K + t) = lab at *
      have ext : ∀ jx2 : Int → Int64, (∀ x, 0 ≤ x → x < 200 → (bt jx2 (K * 4) x ↔ bt jx (K * 4) x ∨ (lab = x ∧ a (b + 8) x = 2) ∨ (0 ≤ lab ∧ a (b + 8) lab = 3 ∧ bt (j (b + 31)) (lab * 4) x))) → ∀ x, 0 ≤ x → x < 200 → (bt jx2 (K * 4) x ↔ ∃ i, 0 ≤ i ∧ i < t + 1 ∧ ((a (b + 17 + 1) (a (b + 17 + 2) K + i) = x ∧ a (b + 8) x = 2) ∨ (0 ≤ a (b + 17 + 1) (a (b + 17 + 2) K + i) ∧ a (b + 8) (a (b + 17 + 1) (a (b + 17 + 2) K + i)) = 3 ∧ bt (j (b + 31)) (a (b + 17 + 1) (a (b + 17 + 2) K + i) * 4) x))) := by
        intro jx2 hj x x1 x2
        rw [hj x x1 x2, y2 x x1 x2]
        constructor
        · rintro (⟨i, i1, i2, i3⟩ | z)
          · exact ⟨i, i1, by omega, i3⟩
          · exact ⟨t, t1, by omega, by rw [hlab]; exact z⟩
        · rintro ⟨i, i1, i2, i3⟩
          by_cases z : i = t
          · rw [z, hlab] at i3; exact Or.inr i3
          · exact Or.inl ⟨i, i1, by omega, i3⟩
      have e90 : ∀ x3, g_X0_noteAxioms_145 n b (qz K) (qz (K * 4)) (qz t) x3 = some (.inl (qz (t + 1), x3)) := by
        intro x3
        unfold g_X0_noteAxioms_145
        simp only [qz_lit, qz_add]
      have body : gL_X0_noteAxioms_28 n b (qz K) (qz (K * 4)) (qz t, cs f d a ni (u1 j (b + 31) jx)) = if qz lab < qz 0 then g_X0_noteAxioms_90 n b (qz K) (qz (K * 4)) (qz t) (qz lab) (cs f d a ni (u1 j (b + 31) jx)) else (gA (cs f d a ni (u1 j (b + 31) jx)) (b + 8) (qz lab)).bind fun x6 => if x6 = qz 2 then (gJ (cs f d a ni (u1 j (b + 31) jx)) (b + 31) (qz (K * 4) + (qz lab / qz 64))).bind fun x8 => (uJ (cs f d a ni (u1 j (b + 31) jx)) (b + 31) (qz (K * 4) + (qz lab / qz 64)) (x8 ||| ((1 : Int64) <<< (Int32.toInt64 (qz lab - qz lab / qz 64 * qz 64) &&& 63)))).bind fun w9 => g_X0_noteAxioms_145 n b (qz K) (qz (K * 4)) (qz t) w9 else g_X0_noteAxioms_90 n b (qz K) (qz (K * 4)) (qz t) (qz lab) (cs f d a ni (u1 j (b + 31) jx)) := by
        unfold gL_X0_noteAxioms_28 g_X0_noteAxioms_28
        simp only [qz_lit]
        rw [gpb_16 hb, gab_30 hb h0 h2, bd_some, hle, if_neg (by rw [qz_le (by omega) (by omega) (by omega) (by omega)]; omega), gpb_11 hb, eg, bd_some, gpb_6 hb, gpb_17 hb]
      by_cases z0 : lab < 0
      · refine ⟨_, ?_, jx, rfl, y1, ext jx (fun x x1 x2 => ⟨Or.inl, fun z => ?_⟩)⟩
        · rw [body, if_pos (by rw [qz_lt (by omega) (by omega) (by omega) (by omega)]; exact z0)]
          unfold g_X0_noteAxioms_90
          simp only [qz_lit]
          rw [if_pos (by rw [qz_lt (by omega) (by omega) (by omega) (by omega)]; exact z0), e90]
        · rcases z with z | z | z
          · exact z
          · omega
          · omega
      have hkl := hki lab (by omega) (by omega)
      rw [if_neg (by rw [qz_lt (by omega) (by omega) (by omega) (by omega)]; exact z0), gab_8 hb (by omega) (by omega), bd_some] at body
      by_cases z2 : a (b + 8) lab = 2
      · refine ⟨_, ?_, v1 jx (K * 4 + lab / 64) (jx (K * 4 + lab / 64) ||| ((1 : Int64) <<< (Int32.toInt64 (qz (lab - lab / 64 * 64)) &&& 63))), rfl, fun x hx => ?_, ext _ (fun x x1 x2 => ?_)⟩
        · rw [body, z2, if_pos rfl, qz_div (by omega) (by omega) (by omega) (by omega), qz_add, qz_mul, qz_sub, gjb_31 hb (by omega) (by omega), bd_some, ujb_31 hb (by omega) (by omega), bd_some, e90, v2_u1, u1_s, u1_1]
        · rw [v1_o (by omega)]; exact y1 x hx
        · rw [bt_set (by omega) x1]
          constructor
          · rintro (z | z)
            · exact Or.inl z
            · exact Or.inr (Or.inl ⟨z.symm, by rw [z]; exact z2⟩)
          · rintro (z | z | z)
            · exact Or.inl z
            · exact Or.inr z.1.symm
            · omega
      rw [if_neg (by rw [qz_inj (by omega) (by omega) (by omega) (by omega)]; exact z2)] at body
      by_cases z3 : a (b + 8) lab = 3
      · have lp3 := lp_inv (b := gL_X0_noteAxioms_109 n b (qz K) (qz (K * 4)) (qz t) (qz lab)) (fun v c => ∃ jy : Int → Int64, c = (qz v, cs f d a ni (u1 j (b + 31) jy)) ∧ (∀ x, ¬(K * 4 ≤ x ∧ x < K * 4 + v) → jy x = jx x) ∧ ∀ x, 0 ≤ x → x < v → jy (K * 4 + x) = jx (K * 4 + x) ||| jx (lab * 4 + x))
          (Q := fun c => ∃ jy : Int → Int64, c = cs f d a ni (u1 j (b + 31) jy) ∧ (∀ x, ¬(K * 4 ≤ x ∧ x < K * 4 + 4) → jy x = jx x) ∧ ∀ x, 0 ≤ x → x < 4 → jy (K * 4 + x) = jx (K * 4 + x) ||| jx (lab * 4 + x)) 4 (n := n) (i0 := 0) (by omega) (by omega) (c0 := (qz 0, cs f d a ni (u1 j (b + 31) jx))) ⟨jx, rfl, fun _ _ => rfl, fun x _ _ => by omega⟩ (by
            rintro v c v1' v2' ⟨jy, rfl, x1, x2⟩
            refine ⟨_, ?_, v1 jy (K * 4 + v) (jy (K * 4 + v) ||| jy (lab * 4 + v)), rfl, fun x hx => ?_, fun x w1 w2 => ?_⟩
            · unfold gL_X0_noteAxioms_109 g_X0_noteAxioms_109
              simp (disch := first | assumption | omega) only [qpT, qpF, qz_lit, qz_add, qz_mul, qz_neg, qz_sub, qz_inj, qz_lt, qz_le, qz_div, qp_0, qp_1, hp_bz_qp, hp_bz_0, hp_bz_1, if_neg, gpb_17, gjb_31, ujb_31, u1_s, bd_some]
              rw [v2_u1, u1_s, u1_1]
            · rw [v1_o (by omega)]; exact x1 x (by omega)
            · by_cases z : x = v
              · rw [z, v1_s, x1 _ (by omega), x1 _ (by omega)]
              · rw [v1_o (by omega)]; exact x2 x w1 (by omega)) (by
            rintro c ⟨jy, rfl, x1, x2⟩
            refine ⟨_, ?_, jy, rfl, x1, x2⟩
            unfold gL_X0_noteAxioms_109 g_X0_noteAxioms_109
            simp (disch := first | assumption | omega) only [qpT, qpF, qz_lit, qz_add, qz_mul, qz_neg, qz_sub, qz_inj, qz_lt, qz_le, qz_div, qp_0, qp_1, hp_bz_qp, hp_bz_0, hp_bz_1, if_pos])
        obtain ⟨c3, e3, jy, rfl, j31, j32⟩ := lp3
        refine ⟨_, ?_, jy, rfl, fun x hx => ?_, ext _ (fun x x1 x2 => ?_)⟩
        · rw [body]
          unfold g_X0_noteAxioms_90
          simp only [qz_lit]
          rw [if_neg (by rw [qz_lt (by omega) (by omega) (by omega) (by omega)]; exact z0), gpb_6 hb, gab_8 hb (by omega) (by omega), bd_some, z3, if_pos rfl, e3, bd_some, e90]
        · rw [j31 x hx]; exact y1 x hx
        · have hb1 : bt jy (K * 4) x ↔ bt jx (K * 4) x ∨ bt jx (lab * 4) x := by
            unfold bt
            rw [j32 (x / 64) (by omega) (by omega), bt_or, Bool.or_eq_true]
          have hb2 : bt jx (lab * 4) x ↔ bt (j (b + 31)) (lab * 4) x := by
            unfold bt
            rw [y1 _ (by omega)]
          rw [hb1, hb2]
          constructor
          · rintro (z | z)
            · exact Or.inl z
            · exact Or.inr (Or.inr ⟨by omega, z3, z⟩)
          · rintro (z | z | z)
            · exact Or.inl z
            · have := z.2; rw [← z.1] at this; omega
            · exact Or.inr z.2.2
      · refine ⟨_, ?_, jx, rfl, y1, ext jx (fun x x1 x2 => ⟨Or.inl, fun z => ?_⟩)⟩
        · rw [body]
          unfold g_X0_noteAxioms_90
          simp only [qz_lit]
          rw [if_neg (by rw [qz_lt (by omega) (by omega) (by omega) (by omega)]; exact z0), gpb_6 hb, gab_8 hb (by omega) (by omega), bd_some, if_neg (by rw [qz_inj (by omega) (by omega) (by omega) (by omega)]; exact z3), e90]
        · rcases z with z | z | z
          · exact z
          · have := z.2; rw [← z.1] at this; omega
          · exact absurd z.2.1 z3) (by
      rintro c ⟨jx, rfl, y1, y2⟩
      refine ⟨_, ?_, jx, rfl, y1, y2⟩
      unfold gL_X0_noteAxioms_28 g_X0_noteAxioms_28
      rw [gpb_16 hb, gab_30 hb h0 h2, bd_some, hle, if_pos (by rw [qz_le (by omega) (by omega) (by omega) (by omega)]; omega)])
  obtain ⟨c2, e2, j2, rfl, j21, j22⟩ := lp2
  refine ⟨j2, ?_, j21, j22⟩
  unfold g_X0_noteAxioms g_X0_noteAxioms_0
  simp only [qz_lit]
  rw [qz_mul, e1, bd_some, e2, bd_some]
end NOT
