/-! Pairs that end with a block -/
theorem u1_sw {α : Type} {a : Nat → α} {i k : Nat} {x y : α} (h : i ≠ k) : u1 (u1 a i x) k y = u1 (u1 a k y) i x := by
  funext z
  by_cases h1 : z = i
  · subst h1; rw [u1_o h, u1_s, u1_s]
  · by_cases h2 : z = k
    · subst h2; rw [u1_s, u1_o h1, u1_s]
    · rw [u1_o h2, u1_o h1, u1_o h1, u1_o h2]
theorem tab_pre {g h : Int → Int} {D : Int} {m : Nat} : ∀ n : Nat, m ≤ n → (∀ i, 0 ≤ i → i < (m : Int) → h i < D) → (∀ i, (m : Int) ≤ i → i < (n : Int) → ¬h i < D) → (tab g h n).filter (fun z => decide (z.2 < D)) = tab g h m := by
  intro n
  induction n with
  | zero =>
    intro h1 _ _
    obtain rfl : m = 0 := by omega
    rfl
  | succ n ih =>
    intro h1 h2 h3
    rw [tab_s, List.filter_append]
    by_cases q : m = n + 1
    · subst q
      have e : (tab g h n).filter (fun z => decide (z.2 < D)) = tab g h n := by
        rw [List.filter_eq_self]
        intro z hz
        obtain ⟨i, i1, i2, rfl⟩ := tab_mem.mp hz
        exact decide_eq_true (h2 i i1 (by omega))
      have e2 := h2 n (by omega) (by omega)
      rw [e, tab_s]
      simp [e2]
    · rw [ih (by omega) h2 (fun i i1 i2 => h3 i i1 (by omega))]
      have e2 := h3 n (by omega) (by omega)
      simp [e2]
section DROP
variable {f : Nat → Nat → Int} {d : Nat → Nat} {a : Nat → Int → Int} {ni : Nat → Nat} {j : Nat → Int → Int64} {n : Nat} {pc D : Int}
theorem c_dropPairs (hn : 100000 ≤ n) (hp : f 66 12 = pc) (hD : f 66 0 = D) (hD1 : 0 ≤ D) (hD2 : D ≤ 16) (h0 : 0 ≤ pc) (h1 : pc ≤ 200) (ha : asc (a 74) 0 pc) (hd : ∀ i, 0 ≤ i → i < pc → 0 ≤ a 75 i ∧ a 75 i ≤ 16) : ∃ (pr2 pd2 : Int → Int) (k : Int), g_X7_dropPairs n 66 (cs f d a ni j) = some (cs (u2 f 66 12 k) d (u1 (u1 a 74 pr2) 75 pd2) ni j) ∧ 0 ≤ k ∧ k ≤ pc ∧ asc pr2 0 k ∧ tab pr2 pd2 k.toNat = (tab (a 74) (a 75) pc.toNat).filter (fun z => decide (z.2 < D)) := by
  have lp := lp_inv (b := gL_X7_dropPairs_4 n 66) (fun t c => ∃ (p2 q2 : Int → Int) (k : Int), c = (qz k, qz t, cs f d (u1 (u1 a 74 p2) 75 q2) ni j) ∧ 0 ≤ k ∧ k ≤ t ∧ asc p2 0 k ∧ (∀ i y, 0 ≤ i → i < k → t ≤ y → y < pc → p2 i < a 74 y) ∧ (∀ y, t ≤ y → p2 y = a 74 y ∧ q2 y = a 75 y) ∧ tab p2 q2 k.toNat = (tab (a 74) (a 75) t.toNat).filter (fun z => decide (z.2 < D)))
    (Q := fun c => ∃ (p2 q2 : Int → Int) (k : Int), c = (qz k, cs f d (u1 (u1 a 74 p2) 75 q2) ni j) ∧ 0 ≤ k ∧ k ≤ pc ∧ asc p2 0 k ∧ tab p2 q2 k.toNat = (tab (a 74) (a 75) pc.toNat).filter (fun z => decide (z.2 < D)))
    pc (n := n) (i0 := 0) h0 (by omega) (c0 := (qz 0, qz 0, cs f d a ni j)) ?_ ?_ ?_
  · obtain ⟨c, e, p2, q2, k, rfl, k1, k2, k3, k4⟩ := lp
    refine ⟨p2, q2, k, ?_, k1, k2, k3, k4⟩
    unfold g_X7_dropPairs g_X7_dropPairs_0
    simp only [qz_lit]
    rw [e]
    simp only [bd_some, wf_cs]
  · refine ⟨a 74, a 75, 0, ?_, by omega, by omega, fun i k i1 i2 i3 => by omega, fun i y i1 i2 => by omega, fun y _ => ⟨rfl, rfl⟩, rfl⟩
    rw [u1_id (f := a) rfl, u1_id (f := a) rfl]
  · rintro t c t1 t2 ⟨p2, q2, k, rfl, k1, k2, k3, k4, k5, k6⟩
    have hd' := hd t t1 t2
    obtain ⟨e1, e2⟩ := k5 t (by omega)
    have ett : (t + 1).toNat = t.toNat + 1 := by omega
    have et : ((t.toNat : Nat) : Int) = t := by omega
    unfold gL_X7_dropPairs_4 g_X7_dropPairs_4 g_X7_dropPairs_52
    by_cases q : D ≤ a 75 t
    · refine ⟨_, ?_, p2, q2, k, rfl, k1, by omega, k3, fun i y i1 i2 i3 i4 => k4 i y i1 i2 (by omega) i4, fun y y1 => k5 y (by omega), ?_⟩
      · simp (disch := first | assumption | omega) only [bd_some, gf_cs, hp, hD, gpc_66_11, gac_75, u1_s, e2, qpT, qpF, qz_lit, qz_add, qz_mul, qz_neg, qz_sub, qz_inj, qz_lt, qz_le, qz_div, qp_0, qp_1, hp_bz_qp, hp_bz_0, hp_bz_1, if_pos, if_neg, if_true, if_false, u2_a, u2_b, u2_c, u2_d, u1_s, u1_o, u1_1, v1_s, v1_o, v1_e, v1_1, v2_s, v2_o, v2_2, not_true_eq_false, not_false_eq_true]
      · rw [ett, tab_s, List.filter_append, et, ← k6]
        have : ¬a 75 t < D := by omega
        simp [this]
    · refine ⟨_, ?_, v1 p2 k (a 74 t), v1 q2 k (a 75 t), k + 1, rfl, by omega, by omega, ?_, ?_, ?_, ?_⟩
      · simp (disch := first | assumption | omega) only [bd_some, gf_cs, hp, hD, gpc_66_11, gpc_66_10, gac_75, gac_74, uac_74, uac_75, u1_s, u1_o, e1, e2, qpT, qpF, qz_lit, qz_add, qz_mul, qz_neg, qz_sub, qz_inj, qz_lt, qz_le, qz_div, qp_0, qp_1, hp_bz_qp, hp_bz_0, hp_bz_1, if_pos, if_neg, if_true, if_false, u2_a, u2_b, u2_c, u2_d, u1_s, u1_o, u1_1, v1_s, v1_o, v1_e, v1_1, v2_s, v2_o, v2_2, not_true_eq_false, not_false_eq_true]
        rw [v2_u1, v2_u1]
        simp (disch := omega) only [u1_s, u1_o]
        rw [u1_sw (i := 75) (k := 74) (by decide), u1_1, u1_1]
      · intro i y i1 i2 i3
        by_cases c1 : y = k
        · subst c1
          rw [v1_s, v1_o (by omega)]
          exact k4 i t i1 i2 (by omega) t2
        · rw [v1_o c1, v1_o (by omega)]
          exact k3 i y i1 i2 (by omega)
      · intro i y i1 i2 i3 i4
        by_cases c1 : i = k
        · subst c1
          rw [v1_s]
          exact ha t y t1 (by omega) i4
        · rw [v1_o c1]
          exact k4 i y i1 (by omega) (by omega) i4
      · intro y y1
        rw [v1_o (by omega), v1_o (by omega)]
        exact k5 y (by omega)
      · rw [ett, tab_s, List.filter_append, et, ← k6, show (k + 1).toNat = k.toNat + 1 by omega, tab_s, show ((k.toNat : Nat) : Int) = k by omega, v1_s, v1_s]
        have e3 : tab (v1 p2 k (a 74 t)) (v1 q2 k (a 75 t)) k.toNat = tab p2 q2 k.toNat := by
          apply tab_congr
          intro i i1 i2
          rw [v1_o (by omega), v1_o (by omega)]
          exact ⟨rfl, rfl⟩
        rw [e3]
        have : a 75 t < D := by omega
        simp [this]
  · rintro c ⟨p2, q2, k, rfl, k1, k2, k3, k4, k5, k6⟩
    refine ⟨_, ?_, p2, q2, k, rfl, k1, k2, k3, k6⟩
    unfold gL_X7_dropPairs_4 g_X7_dropPairs_4
    simp (disch := first | assumption | omega) only [bd_some, gf_cs, hp, qpT, qpF, qz_lit, qz_add, qz_mul, qz_neg, qz_sub, qz_inj, qz_lt, qz_le, qz_div, qp_0, qp_1, hp_bz_qp, hp_bz_0, hp_bz_1, if_pos, if_neg, if_true, if_false, u2_a, u2_b, u2_c, u2_d, u1_s, u1_o, u1_1, v1_s, v1_o, v1_e, v1_1, v2_s, v2_o, v2_2, not_true_eq_false, not_false_eq_true]
theorem gp_close {q K P om om2 pc2 : Int} {pr pd op od A21 A22 A23 A24 pr2 pd2 E24 : Int → Int} (G : Gp q K P D pc om pr pd op od A21 A22 A23 A24) (h1 : 0 ≤ om2) (h2 : om2 ≤ om) (h3 : ∀ i, 0 ≤ i → i < om2 → od i < D) (h4 : ∀ i, om2 ≤ i → i < om → od i = D) (h5 : 0 ≤ pc2) (h6 : asc pr2 0 pc2) (h7 : tab pr2 pd2 pc2.toNat = (tab pr pd pc.toNat).filter (fun z => decide (z.2 < D))) (h8 : ∀ p, (mem op om2 om p → E24 p = K) ∧ (¬mem op om2 om p → E24 p = A24 p)) : Gp q K P (D - 1) pc2 om2 pr2 pd2 op od A21 A22 A23 E24 := by
  obtain ⟨g1, g2, g3, g4, g5, g6, g7, g8, g9⟩ := G
  have p1 := g5.filter (fun z => decide (z.2 < D))
  rw [← h7, tab_pre (m := om2.toNat) om.toNat (by omega) (fun i i1 i2 => h3 i i1 (by omega)) (fun i i1 i2 => by rw [h4 i (by omega) (by omega)]; omega)] at p1
  have p2 := p1.length_eq
  rw [tab_len, tab_len] at p2
  refine ⟨h5, by omega, by omega, h6, p1, fun i k i1 i2 i3 => g6 i k i1 i2 (by omega), fun i i1 i2 => ?_, fun i k i1 i2 i3 => g8 i k i1 i2 (by omega), fun p p1 p2 => ?_⟩
  · obtain ⟨a1, a2, a3, a4, a5⟩ := g7 i i1 (by omega)
    have := h3 i i1 i2
    refine ⟨a1, by omega, a3, a4, ?_⟩
    rw [(h8 (op i)).2 (fun ⟨k, k1, k2, k3⟩ => g8 i k i1 (by omega) k2 k3.symm)]
    exact a5
  · obtain ⟨a1, a2⟩ := g9 p p1 p2
    refine ⟨a1, ?_⟩
    by_cases e : mem op om2 om (10240 * q + p)
    · rw [(h8 _).1 e]; exact Or.inl (Int.le_refl _)
    · rw [(h8 _).2 e]
      rcases a2 with a2 | ⟨i, i1, i2, i3⟩
      · exact Or.inl a2
      · refine Or.inr ⟨i, i1, ?_, i3⟩
        by_cases e2 : i < om2
        · exact e2
        · exact absurd ⟨i, by omega, i2, i3⟩ e
end DROP
