/-! Distinct variables: both, the token -/
section SDI
variable {b n : Nat} {q S K P len c b0 e0 w : Int} {f0 : Nat → Nat → Int} {a0 : Nat → Int → Int} {ni0 : Nat → Nat} {j0 : Nat → Int → Int64} {F0 : Nat → Int} {A0 : Nat → Int → Int} {J0 : Nat → Int → Int64} {f : Nat → Nat → Int} {d : Nat → Nat} {a : Nat → Int → Int} {ni : Nat → Nat} {j : Nat → Int → Int64} {F : Nat → Int} {A : Nat → Int → Int} {J : Nat → Int → Int64}
/-- what the pairs' loop keeps -/
def PL (b : Nat) (q S K P D : Int) (f : Nat → Nat → Int) (a : Nat → Int → Int) (F : Nat → Int) (A : Nat → Int → Int) (f1 : Nat → Nat → Int) (a1 : Nat → Int → Int) (F1 : Nat → Int) (A1 : Nat → Int → Int) (P1 i : Int) : Prop :=
  (∀ k, k ≠ 66 → f1 k = f k) ∧ (∀ k, k ≠ 12 → f1 66 k = f 66 k) ∧ (∀ k, k ≠ 74 → k ≠ 75 → a1 k = a k) ∧ (∀ k, k ≠ 43 → F1 k = F k) ∧ (∀ k, ¬(21 ≤ k ∧ k ≤ 25) → k ≠ 29 → k ≠ 30 → A1 k = A k) ∧ Gp q K P1 D (f1 66 12) (F1 43) (a1 74) (a1 75) (A1 29) (A1 30) (A1 21) (A1 22) (A1 23) (A1 24) ∧ Gpo q P1 S (A1 21) (A1 22) (A1 23) (A1 24) (a (b + 7)) ∧ A1 25 q = P1 ∧ P1 ≤ P + i ∧ 2200 * (P1 - P) + 2284 * P - 84 * F 43 = 2284 * P1 - 84 * F1 43 ∧ ∀ k, 0 ≤ k → k < K → ∀ x y, pa q P1 (A1 21) (A1 22) (A1 23) (A1 24) k x y ↔ pa q P (A 21) (A 22) (A 23) (A 24) k x y
theorem pairs_loop {m s D : Int} (hn : 100000 ≤ n) (hb : bks b) (hq : 0 ≤ q ∧ q ≤ 1) (hD0 : 0 ≤ D) (hD : f 66 0 = D) (h33 : F 33 = D) (h32 : F 32 = q) (h35 : F 35 = m) (h9 : f 65 9 = m) (hm : 0 ≤ m ∧ m ≤ 8) (hK : A 15 q = K) (hK2 : 0 ≤ K ∧ K ≤ 200) (hS : S ≤ 300) (hs : 0 ≤ s ∧ s < S ∧ a (b + 7) s = 1) (hne : ∀ i, 0 ≤ i → i < m → a 76 i ≠ s) (hap : ∀ i, 0 ≤ i → i < m → a 76 i = A 31 i ∧ 0 ≤ a 76 i ∧ a 76 i < S ∧ a (b + 7) (a 76 i) = 1) (hP : P + 8 ≤ 10240) :
    ∀ (t : Nat) (i : Int) (nC nM : Nat) (f1 : Nat → Nat → Int) (a1 : Nat → Int → Int) (F1 : Nat → Int) (A1 : Nat → Int → Int) (P1 : Int), i + t = m → 0 ≤ i → t < nC → t < nM → PL b q S K P D f a F A f1 a1 F1 A1 P1 i → FR b q f0 a0 ni0 j0 F0 A0 J0 f1 a1 ni j F1 A1 J →
      ∃ (f2 : Nat → Nat → Int) (a2 : Nat → Int → Int) (F2 : Nat → Int) (A2 : Nat → Int → Int) (P2 : Int), PL b q S K P D f a F A f2 a2 F2 A2 P2 m ∧ FR b q f0 a0 ni0 j0 F0 A0 J0 f2 a2 ni j F2 A2 J ∧ ((hp_lp (gL_X4_takeSeparated_88 n 65 (qz s)) nC (qz i, cs f1 d a1 ni j) = some (.inl (cs f2 d a2 ni j)) ∧ hp_lp (gL_X11_distinct_97 n 0 (qz s)) nM (qz i, ms F1 A1 J) = some (.inl (ms F2 A2 J))) ∨ (hp_lp (gL_X4_takeSeparated_88 n 65 (qz s)) nC (qz i, cs f1 d a1 ni j) = some (.inr (qz 7, cs f2 d a2 ni j)) ∧ hp_lp (gL_X11_distinct_97 n 0 (qz s)) nM (qz i, ms F1 A1 J) = some (.inr (qz 7, ms F2 A2 J)))) := by
  intro t
  induction t with
  | zero =>
    intro i nC nM f1 a1 F1 A1 P1 h1 h2 h3 h4 H Fr
    have hi : i = m := by omega
    subst hi
    obtain ⟨nC, rfl⟩ : ∃ x, nC = x + 1 := ⟨nC - 1, by omega⟩
    obtain ⟨nM, rfl⟩ : ∃ x, nM = x + 1 := ⟨nM - 1, by omega⟩
    have H' := H
    obtain ⟨p1, p2, p3, p4, p5, p6⟩ := H'
    refine ⟨f1, a1, F1, A1, P1, H, Fr, Or.inl ⟨hp_lp_x ?_, hp_lp_x ?_⟩⟩
    · unfold gL_X4_takeSeparated_88 g_X4_takeSeparated_88
      simp only [gf_cs]
      rw [p1 65 (by decide), h9, if_pos (by rw [qz_le (by omega) (by omega) (by omega) (by omega)]; omega)]
    · unfold gL_X11_distinct_97 g_X11_distinct_97
      simp only [gf_ms]
      rw [p4 35 (by decide), h35, if_pos (by rw [qz_le (by omega) (by omega) (by omega) (by omega)]; omega)]
  | succ t ih =>
    intro i nC nM f1 a1 F1 A1 P1 h1 h2 h3 h4 H Fr
    obtain ⟨nC, rfl⟩ : ∃ x, nC = x + 1 := ⟨nC - 1, by omega⟩
    obtain ⟨nM, rfl⟩ : ∃ x, nM = x + 1 := ⟨nM - 1, by omega⟩
    have H' := H
    obtain ⟨p1, p2, p3, p4, p5, p6, p7, p8, p9, p10, p11⟩ := H'
    have G' := p6
    obtain ⟨g1, g2, g3, g4, g5, g6, g7, g8, g9⟩ := G'
    have hap' := hap i h2 (by omega)
    have hne' := hne i h2 (by omega)
    have hD1 : f1 66 0 = D := by rw [p2 0 (by decide)]; exact hD
    obtain ⟨x, y, hx0, hxy, hy, huv, hxs, hys, hvx, hvy⟩ : ∃ x y, 0 ≤ x ∧ x < y ∧ y < 300 ∧ ((a 76 i = x ∧ s = y) ∨ (a 76 i = y ∧ s = x)) ∧ x < S ∧ y < S ∧ a (b + 7) x = 1 ∧ a (b + 7) y = 1 := by
      by_cases z : a 76 i < s
      · exact ⟨a 76 i, s, by omega, z, by omega, Or.inl ⟨rfl, rfl⟩, by omega, by omega, hap'.2.2.2, hs.2.2⟩
      · exact ⟨s, a 76 i, by omega, by omega, by omega, Or.inr ⟨rfl, rfl⟩, by omega, by omega, hs.2.2, hap'.2.2.2⟩
    have hrC : ∀ k, 0 ≤ k → k < f1 66 12 → 0 ≤ a1 74 k ∧ a1 74 k < 100000 := by
      intro k k1 k2
      have hm : (a1 74 k, a1 75 k) ∈ tab (a1 74) (a1 75) (f1 66 12).toNat := tab_mem.mpr ⟨k, k1, by omega, rfl⟩
      obtain ⟨l, l1, l2, l3⟩ := tab_mem.mp (g5.mem_iff.mp hm)
      have e := congrArg Prod.fst l3
      simp only at e
      have h7 := g7 l l1 (by omega)
      have o3 := p7.2.2 (A1 29 l - 10240 * q) (by omega) (by omega)
      rw [show 10240 * q + (A1 29 l - 10240 * q) = A1 29 l by omega] at o3
      omega
    have ec := c_addPair (f := f1) (d := d) (a := a1) (ni := ni) (j := j) (n := n) (x := x) (y := y) (u := a 76 i) (v := s) hn hx0 hxy hy huv rfl g1 g2 hD1 g4 hrC
    have emem := gp_mem (x := x) (y := y) p6 p7 hS hx0 (by omega) hy
    have hrM : ∀ k, 0 ≤ k → k < F1 43 → 10240 * q ≤ A1 29 k ∧ A1 29 k < 10240 * q + P1 ∧ 0 ≤ A1 21 (A1 29 k) ∧ A1 21 (A1 29 k) < 300 ∧ 0 ≤ A1 22 (A1 29 k) ∧ A1 22 (A1 29 k) < 300 := by
      intro l l1 l2
      have h7 := g7 l l1 l2
      have o3 := p7.2.2 (A1 29 l - 10240 * q) (by omega) (by omega)
      rw [show 10240 * q + (A1 29 l - 10240 * q) = A1 29 l by omega] at o3
      omega
    have em := m_isOpen (F := F1) (A := A1) (J := J) (n := n) (x := x) (y := y) (P := P1) hn hq rfl (by omega) (by omega) p7.2.1 hrM (by omega) (by omega)
    have e76 : a1 76 = a 76 := p3 76 (by decide) (by decide)
    have e31 : A1 31 = A 31 := p5 31 (by omega) (by decide) (by decide)
    have bC : gL_X4_takeSeparated_88 n 65 (qz s) (qz i, cs f1 d a1 ni j) = (g_X7_addPair n 66 (qz (a 76 i)) (qz s) (cs f1 d a1 ni j)).bind fun x4 => if x4.1 = 0 then some (.inr (.inr ((7 : Int32), x4.2))) else some (.inl (qz i + (1 : Int32), x4.2)) := by
      unfold gL_X4_takeSeparated_88 g_X4_takeSeparated_88
      simp only [gf_cs]
      rw [p1 65 (by decide), h9, if_neg (by rw [qz_le (by omega) (by omega) (by omega) (by omega)]; omega), gpc_65_10, gac_76 h2 (by omega), bd_some, e76, gpc_65_3]
    have bM : gL_X11_distinct_97 n 0 (qz s) (qz i, ms F1 A1 J) = g_X11_distinct_146 n 0 (qz s) (qz i) (qz x) (qz y) (ms F1 A1 J) := by
      unfold gL_X11_distinct_97 g_X11_distinct_97 g_X11_distinct_125
      simp only [gf_ms]
      rw [p4 35 (by decide), h35, if_neg (by rw [qz_le (by omega) (by omega) (by omega) (by omega)]; omega)]
      simp (disch := first | assumption | omega) only [gp_0, gp_5, gp_6, gp_7, gp_8, gp_9, gp_10, gp_11, gp_12, gp_13, gp_14, gp_15, gp_16, gp_17, gp_18, gp_19, gp_20, gp_21, gp_22, gp_23, gp_24, gp_25, gp_26, gp_27, gp_28, gp_38, gp_39, gp_40, gp_41, gp_42, gp_44, gp_45, gp_47, gp_49, gp_51, gp_52, gp_56, gp_57, gp_58, gp_60, gp_61, gp_62, gp_63, gp_64, gp_65, gp_66, gp_68, gp_69, gp_70, gp_72, gp_73, gp_74, gp_75, gp_76, gp_77, gp_78, gp_79, gp_81, gp_83, gp_84, ga_31, bd_some, e31, ← hap'.1]
      rcases huv with ⟨z1, z2⟩ | ⟨z1, z2⟩
      · rw [z1, z2, if_neg (by rw [qz_le (by omega) (by omega) (by omega) (by omega)]; omega), if_neg (by rw [qz_le (by omega) (by omega) (by omega) (by omega)]; omega)]
      · rw [z1, z2, if_pos (by rw [qz_le (by omega) (by omega) (by omega) (by omega)]; omega), if_pos (by rw [qz_le (by omega) (by omega) (by omega) (by omega)]; omega)]
    rcases ec with ⟨c1, c2⟩ | ⟨c1, c2, c3⟩ | ⟨c1, c2, at', pr2, pd2, c3, c4, c5, c6, c7, c8, c9, c10⟩
    · obtain ⟨f2, a2, F2, A2, P2, q1, q2, q3⟩ := ih (i + 1) nC nM f1 a1 F1 A1 P1 (by omega) (by omega) (by omega) (by omega) ⟨p1, p2, p3, p4, p5, p6, p7, p8, by omega, p10, p11⟩ Fr
      have bC2 : gL_X4_takeSeparated_88 n 65 (qz s) (qz i, cs f1 d a1 ni j) = some (.inl (qz (i + 1), cs f1 d a1 ni j)) := by
        rw [bC, c2, bd_some]
        simp only [qz_lit]
        rw [if_neg n10, qz_add]
      have bM2 : gL_X11_distinct_97 n 0 (qz s) (qz i, ms F1 A1 J) = some (.inl (qz (i + 1), ms F1 A1 J)) := by
        rw [bM]
        unfold g_X11_distinct_146 g_X11_distinct_178
        simp only [qz_lit]
        rw [em, bd_some, qp_T (emem.mp c1), if_neg n10, qz_add]
      refine ⟨f2, a2, F2, A2, P2, q1, q2, ?_⟩
      rw [lp_st bC2, lp_st bM2]
      exact q3
    · refine ⟨f1, a1, F1, A1, P1, ⟨p1, p2, p3, p4, p5, p6, p7, p8, by omega, p10, p11⟩, Fr, Or.inr ⟨hp_lp_x ?_, hp_lp_x ?_⟩⟩
      · rw [bC, c3, bd_some]
        exact if_pos rfl
      · rw [bM]
        unfold g_X11_distinct_146
        simp only [qz_lit]
        rw [em, bd_some, qp_F (fun z => c1 (emem.mpr z)), if_pos rfl, gf_ms, show F1 43 = 200 by omega, if_pos rfl]
    · have hP1 : P1 < 10240 := by omega
      have eo := m_openPair (n := n) (F := F1) (A := A1) (J := J) (x := x) (y := y) (K := K) (P := P1) (D := D) (om := F1 43) hq (by rw [p4 32 (by decide)]; exact h32) (by rw [p5 15 (by omega) (by decide) (by decide)]; exact hK) (by rw [p4 33 (by decide)]; exact h33) rfl (by omega) (by omega) p8 p7.1 hP1
      have bC2 : gL_X4_takeSeparated_88 n 65 (qz s) (qz i, cs f1 d a1 ni j) = some (.inl (qz (i + 1), cs (u2 f1 66 12 (f1 66 12 + 1)) d (u1 (u1 a1 74 pr2) 75 pd2) ni j)) := by
        rw [bC, c3, bd_some]
        simp only [qz_lit]
        rw [if_neg n10, qz_add]
      have bM2 : gL_X11_distinct_97 n 0 (qz s) (qz i, ms F1 A1 J) = some (.inl (qz (i + 1), ms (u1 F1 43 (F1 43 + 1)) (v2 (v2 (v2 (v2 (v2 (v2 (v2 A1 21 (10240 * q + P1) x) 22 (10240 * q + P1) y) 23 (10240 * q + P1) K) 24 (10240 * q + P1) 200) 25 q (P1 + 1)) 29 (F1 43) (10240 * q + P1)) 30 (F1 43) D) J)) := by
        rw [bM]
        unfold g_X11_distinct_146 g_X11_distinct_178
        simp only [qz_lit]
        rw [em, bd_some, qp_F (fun z => c1 (emem.mpr z)), if_pos rfl, gf_ms, if_neg (by rw [qz_inj (by omega) (by omega) (by omega) (by omega)]; omega), eo, bd_some, qz_add]
      have hpl : PL b q S K P D f a F A (u2 f1 66 12 (f1 66 12 + 1)) (u1 (u1 a1 74 pr2) 75 pd2) (u1 F1 43 (F1 43 + 1)) (v2 (v2 (v2 (v2 (v2 (v2 (v2 A1 21 (10240 * q + P1) x) 22 (10240 * q + P1) y) 23 (10240 * q + P1) K) 24 (10240 * q + P1) 200) 25 q (P1 + 1)) 29 (F1 43) (10240 * q + P1)) 30 (F1 43) D) (P1 + 1) (i + 1) := by
        refine ⟨fun k k1 => by rw [u2_b k1]; exact p1 k k1, fun k k1 => by rw [u2_c k1]; exact p2 k k1, fun k k1 k2 => by rw [u1_o k2, u1_o k1]; exact p3 k k1 k2, fun k k1 => by rw [u1_o k1]; exact p4 k k1, fun k k1 k2 k3 => by simp (disch := omega) only [v2_o]; exact p5 k k1 k2 k3, ?_, ?_, ?_, by omega, ?_, ?_⟩
        · simp (disch := omega) only [u2_a, u1_o, u1_s, v2_o, v2_s]
          exact gp_add p6 hD0 c2 p7.1 hx0 (by omega) c4 c5 c6 c7 c8 c9 c10
        · simp (disch := omega) only [v2_o, v2_s]
          refine ⟨by have := p7.1; omega, by omega, fun p z1 z2 => ?_⟩
          by_cases z : p = P1
          · rw [z, v1_s, v1_s, v1_s, v1_s]
            exact ⟨hx0, hxy, hys, hvx, hvy, hK2.1, hK2.2, by omega, by omega⟩
          · rw [v1_o (by omega), v1_o (by omega), v1_o (by omega), v1_o (by omega)]
            exact p7.2.2 p z1 (by omega)
        · simp (disch := omega) only [v2_o, v2_s, v1_s]
        · rw [u1_s]; omega
        · intro k k1 k2 x' y'
          rw [← p11 k k1 k2 x' y']
          simp (disch := omega) only [v2_o, v2_s]
          unfold pa
          constructor
          · rintro ⟨p, z1, z2, z3, z4, z5, z6⟩
            have z : p ≠ P1 := by
              intro z
              rw [z, v1_s] at z5; omega
            rw [v1_o (by omega)] at z3 z4 z5 z6
            exact ⟨p, z1, by omega, z3, z4, z5, z6⟩
          · rintro ⟨p, z1, z2, z3, z4, z5, z6⟩
            refine ⟨p, z1, by omega, ?_, ?_, ?_, ?_⟩
            all_goals rw [v1_o (by omega)]; assumption
      have hfr : FR b q f0 a0 ni0 j0 F0 A0 J0 (u2 f1 66 12 (f1 66 12 + 1)) (u1 (u1 a1 74 pr2) 75 pd2) ni j (u1 F1 43 (F1 43 + 1)) (v2 (v2 (v2 (v2 (v2 (v2 (v2 A1 21 (10240 * q + P1) x) 22 (10240 * q + P1) y) 23 (10240 * q + P1) K) 24 (10240 * q + P1) 200) 25 q (P1 + 1)) 29 (F1 43) (10240 * q + P1)) 30 (F1 43) D) J := by
        have := p7.1
        exact fr_V (fr_V (fr_V (fr_V (fr_V (fr_V (fr_V (fr_F (fr_a (fr_a (fr_f Fr (by omega)) (by omega)) (by omega)) (by omega)) (by omega) 10240 rfl (by omega)) (by omega) 10240 rfl (by omega)) (by omega) 10240 rfl (by omega)) (by omega) 10240 rfl (by omega)) (by omega) 1 rfl (by omega)) (by omega) 0 rfl (fun z => absurd rfl z)) (by omega) 0 rfl (fun z => absurd rfl z)
      obtain ⟨f2, a2, F2, A2, P2, q1, q2, q3⟩ := ih (i + 1) nC nM _ _ _ _ (P1 + 1) (by omega) (by omega) (by omega) (by omega) hpl hfr
      refine ⟨f2, a2, F2, A2, P2, q1, q2, ?_⟩
      rw [lp_st bC2, lp_st bM2]
      exact q3
end SDI
