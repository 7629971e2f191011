/-! Row lists, filling and copying, in integers -/
def cp (N M : Int) : Prop := ∃ i : Nat, N * 2 ^ i = M
theorem cp_dbl {N M : Int} (h : cp N M) (hl : N < M) : cp (2 * N) M ∧ 2 * N ≤ M := by
  obtain ⟨i, hi⟩ := h
  cases i with
  | zero => simp at hi; omega
  | succ i =>
    have e : 2 * N * 2 ^ i = M := by rw [← hi, Int.pow_succ, Int.mul_comm 2 N, Int.mul_assoc, Int.mul_comm 2 (2 ^ i)]
    have p : (1 : Int) ≤ 2 ^ i := by
      have : 0 < (2 : Int) ^ i := Int.pow_pos (by decide)
      omega
    refine ⟨⟨i, e⟩, ?_⟩
    by_cases q : 0 ≤ 2 * N
    · have := Int.mul_le_mul_of_nonneg_left p q
      omega
    · omega
def Rw (r u N : Int) (L : Nat) (M : Int) (st : Int → Int) : Prop := 0 ≤ r ∧ r < L ∧ 0 ≤ u ∧ u ≤ N ∧ 0 < N ∧ N ≤ M ∧ M ≤ 65536 ∧ L ≤ 2000 ∧ cp N M ∧ st 0 = 0 ∧ st r ≤ u ∧ ∀ i k, 0 ≤ i → i ≤ k → k ≤ r → st i ≤ st k
theorem v2_u1 {α : Type} {a : Nat → Int → α} {i : Nat} {k : Int} {x : α} : v2 a i k x = u1 a i (v1 (a i) k x) := by
  funext y
  by_cases h : y = i
  · subst h; rw [v2_s, u1_s]
  · rw [v2_o h, u1_o h]
section ROWS
variable {f : Nat → Nat → Int} {d : Nat → Nat} {a : Nat → Int → Int} {ni : Nat → Nat} {j : Nat → Int → Int64} {n v w : Nat} {M k i x m : Int}
theorem ga_st (hv : rws v) (h0 : 0 ≤ m) (h1 : m < (nC0 (v + 2) : Int)) (h2 : m < 2147483648) : gA (cs f d a ni j) (v + 2) (qz m) = some (qz (a (v + 2) m)) := ga_cs h0 (by rw [ncs hv]; exact h1) h2
theorem ga_it (hv : rws v) (h0 : 0 ≤ m) (h1 : m < (ni (v + 1) : Int)) (h2 : m < 2147483648) : gA (cs f d a ni j) (v + 1) (qz m) = some (qz (a (v + 1) m)) := ga_cs h0 (by rw [nci hv]; exact h1) h2
theorem ua_st (hv : rws v) (h0 : 0 ≤ m) (h1 : m < (nC0 (v + 2) : Int)) (h2 : m < 2147483648) : uA 0 (cs f d a ni j) (v + 2) (qz m) (qz x) = some (cs f d (v2 a (v + 2) m x) ni j) := ua_cs h0 (by rw [ncs hv]; exact h1) h2 rfl
theorem ua_it (hv : rws v) (h0 : 0 ≤ m) (h1 : m < (ni (v + 1) : Int)) (h2 : m < 2147483648) : uA 0 (cs f d a ni j) (v + 1) (qz m) (qz x) = some (cs f d (v2 a (v + 1) m x) ni j) := ua_cs h0 (by rw [nci hv]; exact h1) h2 rfl
theorem c_rclear (hv : rws v) : g_X5_clear n v (cs f d a ni j) = some (cs (u2 (u2 f v 3 0) v 2 0) d a ni j) := by
  unfold g_X5_clear g_X5_clear_0
  simp only [bd_some, qz_lit, wf_cs]
theorem rw_clear {r u N : Int} {L : Nat} {st : Int → Int} (H : Rw r u N L M st) : Rw 0 0 N L M st := by
  obtain ⟨h1, h2, h3, h4, h5, h6, h7, h8, h9, h10, h11, h12⟩ := H
  exact ⟨by omega, by omega, by omega, by omega, h5, h6, h7, h8, h9, h10, by omega, fun i k a1 a2 a3 => h12 i k a1 a2 (by omega)⟩
theorem c_size (hv : rws v) (H : Rw (f v 3) (f v 2) (ni (v + 1)) (nC0 (v + 2)) M (a (v + 2))) (h0 : 0 ≤ k) (h1 : k < f v 3) : g_X5_size n v (qz k) (cs f d a ni j) = some (qz (a (v + 2) (k + 1) - a (v + 2) k)) := by
  obtain ⟨r1, r2, r3, r4, r5, r6, r7, r8, r9, r10, r11, r12⟩ := H
  unfold g_X5_size g_X5_size_0
  simp (disch := first | assumption | omega) only [bd_some, gf_cs, gpr_1, ga_st, qpT, qpF, qz_lit, qz_add, qz_mul, qz_neg, qz_sub, qz_inj, qz_lt, qz_le, qz_div, qp_0, qp_1, hp_bz_qp, hp_bz_0, hp_bz_1, if_pos, if_neg, if_true, if_false, u2_a, u2_b, u2_c, u2_d, u1_s, u1_o, u1_1, v1_s, v1_o, v1_e, v1_1, v2_s, v2_o, v2_2, not_true_eq_false, not_false_eq_true]
theorem c_size0 (H : Rw (f v 3) (f v 2) (ni (v + 1)) (nC0 (v + 2)) M (a (v + 2))) (h0 : -2147483648 ≤ k) (h2 : k < 2147483648) (h1 : k < 0 ∨ f v 3 ≤ k) : g_X5_size n v (qz k) (cs f d a ni j) = some (qz 0) := by
  obtain ⟨r1, r2, r3, r4, r5, r6, r7, r8, r9, r10, r11, r12⟩ := H
  unfold g_X5_size g_X5_size_0
  by_cases q : k < 0
  · simp (disch := first | assumption | omega) only [bd_some, gf_cs, gpr_1, ga_st, qpT, qpF, qz_lit, qz_add, qz_mul, qz_neg, qz_sub, qz_inj, qz_lt, qz_le, qz_div, qp_0, qp_1, hp_bz_qp, hp_bz_0, hp_bz_1, if_pos, if_neg, if_true, if_false, u2_a, u2_b, u2_c, u2_d, u1_s, u1_o, u1_1, v1_s, v1_o, v1_e, v1_1, v2_s, v2_o, v2_2, not_true_eq_false, not_false_eq_true]
  · simp (disch := first | assumption | omega) only [bd_some, gf_cs, gpr_1, ga_st, qpT, qpF, qz_lit, qz_add, qz_mul, qz_neg, qz_sub, qz_inj, qz_lt, qz_le, qz_div, qp_0, qp_1, hp_bz_qp, hp_bz_0, hp_bz_1, if_pos, if_neg, if_true, if_false, u2_a, u2_b, u2_c, u2_d, u1_s, u1_o, u1_1, v1_s, v1_o, v1_e, v1_1, v2_s, v2_o, v2_2, not_true_eq_false, not_false_eq_true]
theorem c_get (hv : rws v) (H : Rw (f v 3) (f v 2) (ni (v + 1)) (nC0 (v + 2)) M (a (v + 2))) (h0 : 0 ≤ k) (h1 : k < f v 3) (h2 : 0 ≤ i) (h3 : i < a (v + 2) (k + 1) - a (v + 2) k) : g_X5_get n v (qz k) (qz i) (cs f d a ni j) = some (qz (a (v + 1) (a (v + 2) k + i))) := by
  obtain ⟨r1, r2, r3, r4, r5, r6, r7, r8, r9, r10, r11, r12⟩ := H
  have e1 := r12 0 k (by omega) (by omega) (by omega)
  have e2 := r12 (k + 1) (f v 3) (by omega) (by omega) (by omega)
  unfold g_X5_get g_X5_get_0
  simp (disch := first | assumption | omega) only [bd_some, gf_cs, gpr_0, gpr_1, ga_st, ga_it, qpT, qpF, qz_lit, qz_add, qz_mul, qz_neg, qz_sub, qz_inj, qz_lt, qz_le, qz_div, qp_0, qp_1, hp_bz_qp, hp_bz_0, hp_bz_1, if_pos, if_neg, if_true, if_false, u2_a, u2_b, u2_c, u2_d, u1_s, u1_o, u1_1, v1_s, v1_o, v1_e, v1_1, v2_s, v2_o, v2_2, not_true_eq_false, not_false_eq_true]
theorem c_get0 (hv : rws v) (H : Rw (f v 3) (f v 2) (ni (v + 1)) (nC0 (v + 2)) M (a (v + 2))) (h0 : -2147483648 ≤ k) (h1 : k < 2147483648) (h2 : -2147483648 ≤ i) (h3 : i < 2147483648) (h4 : k < 0 ∨ f v 3 ≤ k ∨ i < 0 ∨ a (v + 2) (k + 1) - a (v + 2) k ≤ i) : g_X5_get n v (qz k) (qz i) (cs f d a ni j) = some (qz (-1)) := by
  obtain ⟨r1, r2, r3, r4, r5, r6, r7, r8, r9, r10, r11, r12⟩ := H
  unfold g_X5_get g_X5_get_0
  by_cases q : k < 0
  · simp (disch := first | assumption | omega) only [bd_some, gf_cs, gpr_0, gpr_1, ga_st, ga_it, qpT, qpF, qz_lit, qz_add, qz_mul, qz_neg, qz_sub, qz_inj, qz_lt, qz_le, qz_div, qp_0, qp_1, hp_bz_qp, hp_bz_0, hp_bz_1, if_pos, if_neg, if_true, if_false, u2_a, u2_b, u2_c, u2_d, u1_s, u1_o, u1_1, v1_s, v1_o, v1_e, v1_1, v2_s, v2_o, v2_2, not_true_eq_false, not_false_eq_true]
  by_cases q1 : f v 3 ≤ k
  · simp (disch := first | assumption | omega) only [bd_some, gf_cs, gpr_0, gpr_1, ga_st, ga_it, qpT, qpF, qz_lit, qz_add, qz_mul, qz_neg, qz_sub, qz_inj, qz_lt, qz_le, qz_div, qp_0, qp_1, hp_bz_qp, hp_bz_0, hp_bz_1, if_pos, if_neg, if_true, if_false, u2_a, u2_b, u2_c, u2_d, u1_s, u1_o, u1_1, v1_s, v1_o, v1_e, v1_1, v2_s, v2_o, v2_2, not_true_eq_false, not_false_eq_true]
  by_cases q2 : i < 0
  · simp (disch := first | assumption | omega) only [bd_some, gf_cs, gpr_0, gpr_1, ga_st, ga_it, qpT, qpF, qz_lit, qz_add, qz_mul, qz_neg, qz_sub, qz_inj, qz_lt, qz_le, qz_div, qp_0, qp_1, hp_bz_qp, hp_bz_0, hp_bz_1, if_pos, if_neg, if_true, if_false, u2_a, u2_b, u2_c, u2_d, u1_s, u1_o, u1_1, v1_s, v1_o, v1_e, v1_1, v2_s, v2_o, v2_2, not_true_eq_false, not_false_eq_true]
  have e1 := r12 0 k (by omega) (by omega) (by omega)
  have e2 := r12 (k + 1) (f v 3) (by omega) (by omega) (by omega)
  have e3 := r12 k (k + 1) (by omega) (by omega) (by omega)
  simp (disch := first | assumption | omega) only [bd_some, gf_cs, gpr_0, gpr_1, ga_st, ga_it, qpT, qpF, qz_lit, qz_add, qz_mul, qz_neg, qz_sub, qz_inj, qz_lt, qz_le, qz_div, qp_0, qp_1, hp_bz_qp, hp_bz_0, hp_bz_1, if_pos, if_neg, if_true, if_false, u2_a, u2_b, u2_c, u2_d, u1_s, u1_o, u1_1, v1_s, v1_o, v1_e, v1_1, v2_s, v2_o, v2_2, not_true_eq_false, not_false_eq_true]
/-- an item more -/
theorem c_add (hv : rws v) (H : Rw (f v 3) (f v 2) (ni (v + 1)) (nC0 (v + 2)) M (a (v + 2))) (hu : f v 2 < M) : ∃ (g : Int → Int) (N : Nat), g_X5_add n v (qz x) (cs f d a ni j) = some (cs (u2 f v 2 (f v 2 + 1)) d (u1 a (v + 1) g) (u1 ni (v + 1) N) j) ∧ (∀ k, k < f v 2 → g k = a (v + 1) k) ∧ g (f v 2) = x ∧ Rw (f v 3) (f v 2 + 1) N (nC0 (v + 2)) M (a (v + 2)) := by
  obtain ⟨r1, r2, r3, r4, r5, r6, r7, r8, r9, r10, r11, r12⟩ := H
  unfold g_X5_add g_X5_grow g_X5_put
  simp (disch := first | assumption | omega) only [bd_some, gf_cs, gpr_0, gL_cs (n := (ni (v + 1) : Int)) (by rw [nci hv]), qpT, qpF, qz_lit, qz_add, qz_mul, qz_neg, qz_sub, qz_inj, qz_lt, qz_le, qz_div, qp_0, qp_1, hp_bz_qp, hp_bz_0, hp_bz_1, if_pos, if_neg, if_true, if_false, u2_a, u2_b, u2_c, u2_d, u1_s, u1_o, u1_1, v1_s, v1_o, v1_e, v1_1, v2_s, v2_o, v2_2, not_true_eq_false, not_false_eq_true]
  by_cases q : f v 2 = (ni (v + 1) : Int)
  · obtain ⟨c1, c2⟩ := cp_dbl r9 (by omega)
    have eN : (cs f d a ni j).2.2.2.1 (v + 1) = ni (v + 1) := nci hv
    have ec : hp_cnt (qz (2 * (ni (v + 1) : Int))) = some (2 * ni (v + 1)) := by
      unfold hp_cnt
      have e0 := qz_toInt (a := 2 * (ni (v + 1) : Int)) (by omega) (by omega)
      have e1 := qz_clamp (a := 2 * (ni (v + 1) : Int)) (by omega) (by omega)
      rw [if_pos (by omega), e0]
      congr 1
    have eu : uG (cs f d a ni j) (v + 1) (2 * ni (v + 1)) = cs f d (u1 a (v + 1) (fun k => if k < (ni (v + 1) : Int) then a (v + 1) k else 0)) (u1 ni (v + 1) (2 * ni (v + 1))) j := by
      unfold uG cs
      refine congrArg (Prod.mk _) (congrArg (Prod.mk _) ?_)
      refine Prod.ext ?_ (Prod.ext ?_ rfl)
      · funext y
        by_cases h : y = v + 1
        · subst h
          simp only [if_true, u1_s, nci hv]
          funext k
          by_cases h2 : k < ni (v + 1)
          · have h3 : (k : Int) < (ni (v + 1) : Int) := by omega
            simp only [h2, h3, if_true]
          · have h3 : ¬(k : Int) < (ni (v + 1) : Int) := by omega
            simp only [h2, h3, if_false]
            rfl
        · simp only [h, if_false, u1_o h]
      · funext y
        by_cases h : y = v + 1
        · subst h
          simp only [if_true]
          rw [nci hv, u1_s]
        · simp only [h, if_false]
          unfold nC
          rw [u1_o h]
    refine ⟨v1 (fun k => if k < (ni (v + 1) : Int) then a (v + 1) k else 0) (f v 2) x, 2 * ni (v + 1), ?_, ?_, ?_, ?_⟩
    · rw [if_pos q, q, ec]
      simp only [bd_some]
      rw [if_pos ⟨by rw [eN], by rw [eN]; omega⟩, eu]
      simp (disch := first | assumption | omega) only [bd_some, gf_cs, wf_cs, gpr_0, q]
      rw [ua_it hv (by omega) (by rw [u1_s]; omega) (by omega)]
      simp (disch := first | assumption | omega) only [bd_some, gf_cs, wf_cs, qpT, qpF, qz_lit, qz_add, qz_mul, qz_neg, qz_sub, qz_inj, qz_lt, qz_le, qz_div, qp_0, qp_1, hp_bz_qp, hp_bz_0, hp_bz_1, v2_u1, u1_s, u1_1, q]
    · intro k hk
      rw [v1_o (by omega), if_pos (by omega)]
    · rw [v1_s]
    · exact ⟨r1, r2, by omega, by omega, by omega, by omega, r7, r8, by rw [Int.natCast_mul]; exact c1, r10, by omega, r12⟩
  · refine ⟨v1 (a (v + 1)) (f v 2) x, ni (v + 1), ?_, ?_, ?_, ?_⟩
    · rw [if_neg q]
      simp (disch := first | assumption | omega) only [bd_some, gf_cs, wf_cs, gpr_0, ua_it, qpT, qpF, qz_lit, qz_add, qz_mul, qz_neg, qz_sub, qz_inj, qz_lt, qz_le, qz_div, qp_0, qp_1, hp_bz_qp, hp_bz_0, hp_bz_1, v2_u1]
      rw [u1_id (f := ni) rfl]
    · intro k hk
      rw [v1_o (by omega)]
    · rw [v1_s]
    · exact ⟨r1, r2, by omega, by omega, by omega, by omega, r7, r8, r9, r10, by omega, r12⟩
theorem c_endRow (hv : rws v) (H : Rw (f v 3) (f v 2) (ni (v + 1)) (nC0 (v + 2)) M (a (v + 2))) (hr : f v 3 + 1 < (nC0 (v + 2) : Int)) : g_X5_endRow n v (cs f d a ni j) = some (cs (u2 f v 3 (f v 3 + 1)) d (v2 a (v + 2) (f v 3 + 1) (f v 2)) ni j) ∧ Rw (f v 3 + 1) (f v 2) (ni (v + 1)) (nC0 (v + 2)) M (v1 (a (v + 2)) (f v 3 + 1) (f v 2)) := by
  obtain ⟨r1, r2, r3, r4, r5, r6, r7, r8, r9, r10, r11, r12⟩ := H
  constructor
  · unfold g_X5_endRow g_X5_endRow_0
    simp (disch := first | assumption | omega) only [bd_some, gf_cs, wf_cs, gpr_1, gL_cs (ni := ni) (n := (nC0 (v + 2) : Int)) (by rw [ncs hv]), ua_st, qpT, qpF, qz_lit, qz_add, qz_mul, qz_neg, qz_sub, qz_inj, qz_lt, qz_le, qz_div, qp_0, qp_1, hp_bz_qp, hp_bz_0, hp_bz_1, if_pos, if_neg, if_true, if_false, u2_a, u2_b, u2_c, u2_d, u1_s, u1_o, u1_1, v1_s, v1_o, v1_e, v1_1, v2_s, v2_o, v2_2, not_true_eq_false, not_false_eq_true]
  · refine ⟨by omega, by omega, r3, r4, r5, r6, r7, r8, r9, by rw [v1_o (by omega)]; exact r10, by rw [v1_s]; omega, ?_⟩
    intro i k h1 h2 h3
    by_cases q : k = f v 3 + 1
    · subst q
      by_cases q2 : i = f v 3 + 1
      · subst q2; omega
      · rw [v1_o q2, v1_s]
        have := r12 i (f v 3) h1 (by omega) (by omega)
        omega
    · rw [v1_o q, v1_o (by omega)]
      exact r12 i k h1 h2 (by omega)
end ROWS
