/-! A statement more: what is active -/
section HNX
variable {q S K hc D u kd κ : Int} {oh hv isA de ki un fl tf act it st va nd A12 : Int → Int}
theorem sq_n (h : 0 ≤ K) : (K + 1) * (K + 1) = K * K + 2 * K + 1 := by
  rw [Int.add_mul, Int.mul_add]
  omega
theorem gh2_h (H : Gh2 K un ki isA) (hK : 0 ≤ K) : Gh2 (K + 1) (v1 un K 200) (v1 ki K kd) (v1 isA K 1) := by
  intro h h0 h1 h2
  by_cases e : h = K
  · rw [e, v1_s, v1_s]; exact Or.inl ⟨rfl, rfl⟩
  · rw [v1_o e] at h2 ⊢
    rw [v1_o e]
    rcases H h h0 (by omega) h2 with z | z
    · exact Or.inl z
    · exact Or.inr ⟨z.1, by omega⟩
theorem gh2_a (H : Gh2 K un ki isA) (hk : 2 ≤ kd) : Gh2 (K + 1) un (v1 ki K kd) isA := by
  intro h h0 h1 h2
  by_cases e : h = K
  · rw [e, v1_s] at h2; omega
  · rw [v1_o e] at h2
    rcases H h h0 (by omega) h2 with z | z
    · exact Or.inl z
    · exact Or.inr ⟨z.1, by omega⟩
/-- a type more -/
theorem gh3_f (H : Gh3 K fl tf isA ki de act it st) (hK : 0 ≤ K) (hx : tf (it (st K + 1)) < 0) (ha : 0 ≤ act (it (st K + 1))) (had : act (it (st K + 1)) ≤ D) : Gh3 (K + 1) (v1 fl (it (st K + 1)) 1) (v1 tf (it (st K + 1)) K) (v1 isA K 1) (v1 ki K 0) (v1 de K D) act it (v1 st (K + 1) u) := by
  obtain ⟨h1, h2⟩ := H
  refine ⟨fun x x0 x1 => ?_, fun k k0 k1 k2 k3 => ?_⟩
  · by_cases e : x = it (st K + 1)
    · rw [e, v1_s, v1_s]
      refine ⟨Or.inr rfl, by omega, by omega, fun _ => ⟨by omega, by rw [v1_s], by rw [v1_s], by rw [v1_o (by omega)], ha, by rw [v1_s]; exact had⟩⟩
    · rw [v1_o e, v1_o e]
      obtain ⟨c1, c2, c3, c4⟩ := h1 x x0 x1
      refine ⟨c1, c2, c3, fun z => ?_⟩
      obtain ⟨d1, d2, d3, d4, d5, d6⟩ := c4 z
      rw [v1_o (by omega), v1_o (by omega), v1_o (by omega), v1_o (by omega)]
      exact ⟨by omega, d2, d3, d4, d5, d6⟩
  · by_cases e : k = K
    · rw [e, v1_o (by omega : K ≠ K + 1), v1_s]
    · rw [v1_o e] at k2 k3
      rw [v1_o (by omega : k ≠ K + 1)]
      have t := h2 k k0 (by omega) k2 k3
      have : it (st k + 1) ≠ it (st K + 1) := by
        intro z
        rw [z] at t
        omega
      rw [v1_o this]; exact t
/-- another statement -/
theorem gh3_o (H : Gh3 K fl tf isA ki de act it st) (hK : 0 ≤ K) (hk : kd ≠ 0) {i : Int} (hi : i = isA K ∨ i = 1) : Gh3 (K + 1) fl tf (v1 isA K i) (v1 ki K kd) (v1 de K D) act it (v1 st (K + 1) u) := by
  obtain ⟨h1, h2⟩ := H
  refine ⟨fun x x0 x1 => ?_, fun k k0 k1 k2 k3 => ?_⟩
  · obtain ⟨c1, c2, c3, c4⟩ := h1 x x0 x1
    refine ⟨c1, c2, c3, fun z => ?_⟩
    obtain ⟨d1, d2, d3, d4, d5, d6⟩ := c4 z
    rw [v1_o (by omega), v1_o (by omega), v1_o (by omega), v1_o (by omega)]
    exact ⟨by omega, d2, d3, d4, d5, d6⟩
  · by_cases e : k = K
    · rw [e, v1_s] at k3
      exact absurd k3 hk
    · rw [v1_o e] at k2 k3
      rw [v1_o (by omega : k ≠ K + 1)]
      exact h2 k k0 (by omega) k2 k3
theorem v1_id {g : Int → Int} {k x : Int} (h : g k = x) : v1 g k x = g := by
  funext y
  by_cases e : y = k
  · rw [e, v1_s, h]
  · rw [v1_o e]
/-- essential hypotheses and a statement more -/
theorem gh4_n {tf2 : Int → Int} {i : Int} (H : Gh4 q K isA ki it st va tf de A12) (H3 : Gh3 K fl tf isA ki de act it st) (hK : 0 ≤ K) (ht : ∀ x, 0 ≤ tf x → tf2 x = tf x) (hn : i = 1 → kd = 1 → ∀ y, 0 ≤ y → y < A12 (200 * q + K) → va (it (st K + y)) = 1 → 0 ≤ it (st K + y) ∧ it (st K + y) < 300 ∧ 0 ≤ tf (it (st K + y)) ∧ de (tf (it (st K + y))) ≤ D) : Gh4 q (K + 1) (v1 isA K i) (v1 ki K kd) it (v1 st (K + 1) u) va tf2 (v1 de K D) A12 := by
  intro e e0 e1 e2 e3 y y0 y1 y2
  by_cases z : e = K
  · subst z
    rw [v1_s] at e2 e3
    rw [v1_o (by omega : e ≠ e + 1)] at y2 ⊢
    obtain ⟨w1, w2, w3, w4⟩ := hn e2 e3 y y0 y1 y2
    have h := (H3.1 _ w1 w2).2.2.2 w3
    rw [ht _ w3, v1_s, v1_o (by omega)]
    exact ⟨w3, h.1, w4⟩
  · rw [v1_o z] at e2 e3
    rw [v1_o (by omega : e ≠ K + 1)] at y2 ⊢
    obtain ⟨w1, w2, w3⟩ := H e e0 (by omega) e2 e3 y y0 y1 y2
    rw [ht _ w1, v1_o z, v1_o (by omega)]
    exact ⟨w1, w2, w3⟩
/-- the counts, with a hypothesis more -/
theorem ndv_h {x : Int} (hc0 : 0 ≤ hc) (hv1 : ∀ i, 0 ≤ i → i < hc → 0 ≤ hv i ∧ hv i < K) : ndv q it (v1 st (K + 1) u) A12 (v1 ki K kd) (v1 hv hc K) (hc + 1) x = ndv q it st A12 ki hv hc x + (if kd = 1 then oc q it st A12 K x else 0) := by
  rw [ndv_split (hc := hc + 1) hc0 (by omega)]
  have e1 : ndv q it (v1 st (K + 1) u) A12 (v1 ki K kd) (v1 hv hc K) hc x = ndv q it st A12 ki hv hc x := by
    unfold ndv
    apply nsum_congr
    intro i i1 i2
    have h := hv1 i i1 (by omega)
    rw [v1_o (by omega : i ≠ hc), v1_o (by omega : hv i ≠ K)]
    have e2 : oc q it (v1 st (K + 1) u) A12 (hv i) x = oc q it st A12 (hv i) x := by
      unfold oc
      rw [v1_o (by omega : hv i ≠ K + 1)]
    rw [e2]
  rw [e1, v1_s, v1_s]
  have e3 : oc q it (v1 st (K + 1) u) A12 K x = oc q it st A12 K x := by
    unfold oc
    rw [v1_o (by omega : K ≠ K + 1)]
  rw [e3]
theorem ndv_a {x : Int} (hv1 : ∀ i, 0 ≤ i → i < hc → 0 ≤ hv i ∧ hv i < K) : ndv q it (v1 st (K + 1) u) A12 (v1 ki K kd) hv hc x = ndv q it st A12 ki hv hc x := by
  unfold ndv
  apply nsum_congr
  intro i i1 i2
  have h := hv1 i i1 (by omega)
  rw [v1_o (by omega : hv i ≠ K)]
  have e2 : oc q it (v1 st (K + 1) u) A12 (hv i) x = oc q it st A12 (hv i) x := by
    unfold oc
    rw [v1_o (by omega : hv i ≠ K + 1)]
  rw [e2]
theorem nsum_le {g : Int → Int} {n : Nat} {m : Int} (h : ∀ i, 0 ≤ i → i < (n : Int) → g i ≤ m) : nsum g n ≤ m * n := by
  induction n with
  | zero => show (0 : Int) ≤ m * 0; omega
  | succ n ih =>
    have := ih (fun i h1 h2 => h i h1 (by omega))
    have := h n (by omega) (by omega)
    show nsum g n + g n ≤ m * ((n + 1 : Nat) : Int)
    have e : m * ((n + 1 : Nat) : Int) = m * n + m := by
      rw [Int.natCast_add, Int.mul_add]; omega
    omega
theorem ndv_le {x : Int} (h0 : 0 ≤ hc) (h1 : hc ≤ 200) (h : ∀ i, 0 ≤ i → i < hc → A12 (200 * q + hv i) ≤ 60) : ndv q it st A12 ki hv hc x ≤ 12000 := by
  unfold ndv
  have := nsum_le (g := fun i => if ki (hv i) = 1 then oc q it st A12 (hv i) x else 0) (n := hc.toNat) (m := 60) (fun i i1 i2 => by
    have a := oc_nn q it st A12 (hv i) x
    have b := h i i1 (by omega)
    by_cases z : ki (hv i) = 1
    · simp only [z, if_true]; omega
    · simp only [z, if_false]; omega)
  omega
end HNX
section CAH
variable {f : Nat → Nat → Int} {d : Nat → Nat} {a : Nat → Int → Int} {ni : Nat → Nat} {j : Nat → Int → Int64} {n b : Nat} {k hc l : Int}
theorem c_addHyp (hb : bks b) (hn : 100000 ≤ n) (H : Rw (f (b + 11) 3) (f (b + 11) 2) (ni (b + 11 + 1)) (nC0 (b + 11 + 2)) 4096 (a (b + 11 + 2))) (h0 : 0 ≤ k) (h1 : k < f (b + 11) 3) (h2 : k < 200) (hc9 : f 66 9 = hc) (c0 : 0 ≤ hc) (c1 : hc < 200) (hki : a (b + 8) k = 0 ∨ a (b + 8) k = 1) (hl : a (b + 11 + 2) (k + 1) - a (b + 11 + 2) k = l) (h20 : a (b + 8) k = 0 → l = 2) (hr : ∀ i, 0 ≤ i → i < l → 0 ≤ a (b + 11 + 1) (a (b + 11 + 2) k + i) ∧ a (b + 11 + 1) (a (b + 11 + 2) k + i) < 300) :
    g_X7_addHypothesis n 66 b (qz k) (cs f d a ni j) = some (cs (u2 f 66 9 (hc + 1)) d (if a (b + 8) k = 0 then u1 (v2 (v2 a (b + 10) k 200) 73 hc k) 71 (v1 (a 71) (a (b + 11 + 1) (a (b + 11 + 2) k + 1)) 1) else u1 (v2 (v2 a (b + 10) k 200) 73 hc k) 72 (ndp (a 72) (a (b + 11 + 1)) (a (b + 11 + 2) k) l 1)) ni j) := by
  have hv := rws_b11 hb
  have hbb : b = 1 ∨ b = 33 := hb
  unfold g_X7_addHypothesis g_X7_addHypothesis_0
  rcases hki with z | z
  · have e2 := h20 z
    have hr1 := hr 1 (by omega) (by omega)
    have eg := c_get (f := u2 f 66 9 (hc + 1)) (d := d) (a := v2 (v2 a (b + 10) k 200) 73 hc k) (ni := ni) (j := j) (n := n) (k := k) (i := 1) (M := 4096) hv (by simp (disch := omega) only [v2_o, u2_b]; exact H) h0 (by simp (disch := omega) only [u2_b]; exact h1) (by omega) (by simp (disch := omega) only [v2_o]; omega)
    simp (disch := omega) only [v2_o] at eg
    rw [if_pos z]
    simp (disch := first | assumption | omega) only [qpT, qpF, qz_lit, qz_add, qz_mul, qz_neg, qz_sub, qz_inj, qz_lt, qz_le, qz_div, qp_0, qp_1, hp_bz_qp, hp_bz_0, hp_bz_1, if_true, gf_cs, wf_cs, hc9, gpb_8, gpc_66_8, gpb_6, gpb_9, uab_10, uac_73, gab_8, v2_o, z, eg, gpc_66_6, uac_71, bd_some]
    rw [v2_u1 (i := 71), v2_o (by omega), v2_o (by omega)]
  · have ea := c_addNeeds (f := u2 f 66 9 (hc + 1)) (d := d) (a := v2 (v2 a (b + 10) k 200) 73 hc k) (ni := ni) (j := j) (n := n) (k := k) (m := 1) (M := 4096) (l := l) hb hn (by simp (disch := omega) only [v2_o, u2_b]; exact H) h0 (by simp (disch := omega) only [u2_b]; exact h1) (by simp (disch := omega) only [v2_o]; exact hl) (by simp (disch := omega) only [v2_o]; exact hr)
    simp (disch := omega) only [v2_o] at ea
    rw [if_neg (by omega)]
    simp (disch := first | assumption | omega) only [qpT, qpF, qz_lit, qz_add, qz_mul, qz_neg, qz_sub, qz_inj, qz_lt, qz_le, qz_div, qp_0, qp_1, hp_bz_qp, hp_bz_0, hp_bz_1, if_neg, gf_cs, wf_cs, hc9, gpb_8, gpc_66_8, gpb_6, uab_10, uac_73, gab_8, v2_o, z, ea, bd_some]
end CAH
