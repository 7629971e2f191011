/-! rests: both -/
section RS2
variable {b n : Nat} {q S K P len k x y i : Int} {f : Nat → Nat → Int} {d : Nat → Nat} {a : Nat → Int → Int} {ni : Nat → Nat} {j : Nat → Int → Int64} {F : Nat → Int} {A : Nat → Int → Int} {J : Nat → Int → Int64} {v : Int32}
theorem m_rest13 (hn : 100000 ≤ n) (h0 : 0 ≤ k) (h1 : k < 200) : ∃ R : Int → Int, hp_lp (gL_X11_rests_13 n 0 (qz k) v) n (qz 0, ms F A J) = some (ms F (u1 A 59 R) J) ∧ ∀ x, 0 ≤ x → x < 200 → (R x = 0 ∨ R x = 1) ∧ (R x = 1 ↔ x = k) := by
  have lp := lp_inv (b := gL_X11_rests_13 n 0 (qz k) v) (fun t c => ∃ R : Int → Int, c = (qz t, ms F (u1 A 59 R) J) ∧ ∀ x, 0 ≤ x → x < t → (R x = 0 ∨ R x = 1) ∧ (R x = 1 ↔ x = k)) (Q := fun s => ∃ R : Int → Int, s = ms F (u1 A 59 R) J ∧ ∀ x, 0 ≤ x → x < 200 → (R x = 0 ∨ R x = 1) ∧ (R x = 1 ↔ x = k)) 200 (n := n) (i0 := 0) (by omega) (by omega) (c0 := (qz 0, ms F A J)) ⟨A 59, by rw [u1_id rfl], fun x x0 x1 => by omega⟩ ?_ ?_
  · obtain ⟨s, es, R, rfl, h⟩ := lp
    exact ⟨R, es, h⟩
  · rintro t c t0 t1 ⟨R, rfl, h⟩
    by_cases c : t = k
    · refine ⟨_, ?_, v1 R t 1, rfl, fun x x0 x1 => ?_⟩
      · unfold gL_X11_rests_13 g_X11_rests_13 g_X11_rests_35
        simp only [zl0, zl1, zl200]
        rw [if_neg (by rw [qz_le (by omega) (by omega) (by omega) (by omega)]; omega), if_pos (by rw [c]), gp_83, ua_59 (by omega) (by omega) (Or.inr rfl), bd_some, qz_add, v2_u1, u1_s, u1_1]
      · by_cases y : x = t
        · rw [y, v1_s]; omega
        · rw [v1_o y]; exact h x x0 (by omega)
    · refine ⟨_, ?_, v1 R t 0, rfl, fun x x0 x1 => ?_⟩
      · unfold gL_X11_rests_13 g_X11_rests_13 g_X11_rests_35
        simp only [zl0, zl1, zl200]
        rw [if_neg (by rw [qz_le (by omega) (by omega) (by omega) (by omega)]; omega), if_neg (by rw [qz_inj (by omega) (by omega) (by omega) (by omega)]; exact c), gp_83, ua_59 (by omega) (by omega) (Or.inl rfl), bd_some, qz_add, v2_u1, u1_s, u1_1]
      · by_cases y : x = t
        · rw [y, v1_s]; omega
        · rw [v1_o y]; exact h x x0 (by omega)
  · rintro c ⟨R, rfl, h⟩
    refine ⟨_, ?_, R, rfl, h⟩
    unfold gL_X11_rests_13 g_X11_rests_13
    simp only [zl200]
    rw [if_pos (by rw [qz_le (by omega) (by omega) (by omega) (by omega)]; omega)]
theorem m_rest44 (hn : 100000 ≤ n) (hq : 0 ≤ q ∧ q ≤ 1) (h4 : F 4 = q) (G : BK b q S K P len f a ni j A J) (hR : Rbk b q len a A) (h0 : 0 ≤ k) (h1 : k < K) (hk : a (b + 8) k = 3) {R0 : Int → Int} (hv : ∀ x, 0 ≤ x → x < 200 → (R0 x = 0 ∨ R0 x = 1) ∧ (R0 x = 1 ↔ x = k)) : ∃ R : Int → Int, hp_lp (gL_X11_rests_44 n 0 (qz k) v) n (qz k, ms F (u1 A 59 R0) J) = some (ms F (u1 A 59 R) J) ∧ ∀ x, 0 ≤ x → x < 200 → (R x = 0 ∨ R x = 1) ∧ (R x = 1 → x ≤ k) ∧ (bt (j (b + 31)) (k * 4) x ↔ R x = 1 ∧ a (b + 8) x = 2) := by
  have hK : K ≤ 200 := G.2.1.2.2.2.1
  have gk := G.2.2.2.1
  have gax := G.2.2.2.2.2.2.2.2.2.2.2.2.1
  have lp := lp_inv (b := gL_X11_rests_44 n 0 (qz k) v) (fun t c => ∃ R : Int → Int, c = (qz (k - t), ms F (u1 A 59 R) J) ∧ ∀ x, 0 ≤ x → x < 200 → (R x = 0 ∨ R x = 1) ∧ (R x = 1 → x ≤ k) ∧ (bt (j (b + 31)) (k * 4) x ↔ (R x = 1 ∧ a (b + 8) x = 2) ∨ ∃ p, 0 ≤ p ∧ p ≤ k - t ∧ R p = 1 ∧ a (b + 8) p = 3 ∧ bt (j (b + 31)) (p * 4) x)) (Q := fun s => ∃ R : Int → Int, s = ms F (u1 A 59 R) J ∧ ∀ x, 0 ≤ x → x < 200 → (R x = 0 ∨ R x = 1) ∧ (R x = 1 → x ≤ k) ∧ (bt (j (b + 31)) (k * 4) x ↔ R x = 1 ∧ a (b + 8) x = 2)) (k + 1) (n := n) (i0 := 0) (by omega) (by omega) (c0 := (qz k, ms F (u1 A 59 R0) J)) ⟨R0, by rw [Int.sub_zero], fun x x0 x1 => ⟨(hv x x0 x1).1, fun z => by have := (hv x x0 x1).2.mp z; omega, ?_⟩⟩ ?_ ?_
  · obtain ⟨s, es, R, rfl, h⟩ := lp
    exact ⟨R, es, h⟩
  · constructor
    · intro z
      exact Or.inr ⟨k, h0, by omega, (hv k h0 (by omega)).2.mpr rfl, hk, z⟩
    · rintro (⟨z1, z2⟩ | ⟨p, p0, p1, p2, p3, p4⟩)
      · have := (hv x x0 x1).2.mp z1
        rw [this] at z2; omega
      · have := (hv p p0 (by omega)).2.mp p2
        rw [this] at p4; exact p4
  · rintro t c t0 t1 ⟨R, rfl, h⟩
    have G2 : BK b q S K P len f a ni j (u1 A 59 R) J := bk_eq G (fun _ _ _ => rfl) (fun _ _ _ => rfl) (fun _ _ _ => rfl) rfl (fun i i1 i2 => u1_o (by omega)) ⟨rfl, rfl⟩
    have hR2 : Rbk b q len a (u1 A 59 R) := by
      unfold Rbk
      rw [u1_o (by decide)]
      exact hR
    have hst := h (k - t) (by omega) (by omega)
    have gk' := gk (k - t) (by omega) (by omega)
    have em : gL_X11_rests_44 n 0 (qz k) v (qz (k - t), ms F (u1 A 59 R) J) = if R (k - t) = 0 then some (.inl (qz (k - (t + 1)), ms F (u1 A 59 R) J)) else if A 7 (200 * q + (k - t)) = 3 then (g_X11_restOn n 0 (qz (k - t)) (ms F (u1 A 59 R) J)).bind fun x6 => some (.inl (qz (k - (t + 1)), x6)) else some (.inl (qz (k - (t + 1)), ms F (u1 A 59 R) J)) := by
      unfold gL_X11_rests_44 g_X11_rests_44 g_X11_rests_76
      simp only [zl0, zl3, zlm1, qz_neg]
      rw [if_neg (by rw [qz_lt (by omega) (by omega) (by omega) (by omega)]; omega), gp_83, ga_59 (by omega) (by omega), bd_some, u1_s, m_at h4, bd_some, gp_10, ga_7 (by omega) (by omega), bd_some, u1_o (by decide), qz_add, show k - t + -1 = k - (t + 1) by omega]
      simp (disch := omega) only [qz_inj]
    by_cases c0 : R (k - t) = 0
    · refine ⟨_, by rw [em, if_pos c0], R, rfl, fun x x0 x1 => ⟨(h x x0 x1).1, (h x x0 x1).2.1, ?_⟩⟩
      rw [(h x x0 x1).2.2]
      constructor
      · rintro (z | ⟨p, p0, p1, p2, p3⟩)
        · exact Or.inl z
        · by_cases y : p = k - t
          · rw [y] at p2; omega
          · exact Or.inr ⟨p, p0, by omega, p2, p3⟩
      · rintro (z | ⟨p, p0, p1, p2, p3⟩)
        · exact Or.inl z
        · exact Or.inr ⟨p, p0, by omega, p2, p3⟩
    rw [if_neg c0] at em
    by_cases c3 : A 7 (200 * q + (k - t)) = 3
    rotate_left
    · refine ⟨_, by rw [em, if_neg c3], R, rfl, fun x x0 x1 => ⟨(h x x0 x1).1, (h x x0 x1).2.1, ?_⟩⟩
      rw [(h x x0 x1).2.2]
      constructor
      · rintro (z | ⟨p, p0, p1, p2, p3, p4⟩)
        · exact Or.inl z
        · by_cases y : p = k - t
          · rw [y] at p3; omega
          · exact Or.inr ⟨p, p0, by omega, p2, p3, p4⟩
      · rintro (z | ⟨p, p0, p1, p2, p3⟩)
        · exact Or.inl z
        · exact Or.inr ⟨p, p0, by omega, p2, p3⟩
    have hR1 : R (k - t) = 1 := by
      rcases hst.1 with z | z
      · exact absurd z c0
      · exact z
    have hk3 : a (b + 8) (k - t) = 3 := gk'.1.trans c3
    obtain ⟨R2, e2, h2⟩ := m_restOn (F := F) (J := J) hn hq h4 G2 hR2 (k := k - t) (by omega) (by omega) hk3 (by rw [u1_s]; exact fun x x0 x1 => (h x x0 x1).1)
    rw [if_pos c3, e2, bd_some, u1_1] at em
    refine ⟨_, em, R2, rfl, fun x x0 x1 => ?_⟩
    have e13 : a (b + 17 + 2) (k - t) = A 13 (200 * q + (k - t)) := (bk_t G (k := k - t) (by omega) (by omega)).2.2.1
    rw [u1_s, u1_o (by decide)] at h2
    have hnm : ∀ i, 0 ≤ i → i < a (b + 30) (k - t) → a (b + 17 + 1) (A 13 (200 * q + (k - t)) + i) < k - t := by
      intro i i0 i1
      have gfm := G.2.2.2.2.2.2.2.2.2.2.2.1 (k - t) (by omega) (by omega) hk3
      obtain ⟨g1, g2, g3, g4⟩ := (bk_t G (k := k - t) (by omega) (by omega)).2.2.2.2.2.2.2.2 i i0 (by omega)
      rcases g3 with ⟨z, _⟩ | ⟨z, z2, _⟩ <;> omega
    have ga := gax (k - t) (by omega) (by omega) hk3
    rw [e13] at ga
    refine ⟨(h2 x x0 x1).1, fun z => ?_, ?_⟩
    · rcases (h2 x x0 x1).2.mp z with z | ⟨i, i0, i1, i2⟩
      · exact (h x x0 x1).2.1 z
      · have := hnm i i0 i1
        omega
    · rw [(h x x0 x1).2.2]
      constructor
      · rintro (⟨z1, z2⟩ | ⟨p, p0, p1, p2, p3, p4⟩)
        · exact Or.inl ⟨(h2 x x0 x1).2.mpr (Or.inl z1), z2⟩
        · by_cases y : p = k - t
          · rw [y] at p4
            obtain ⟨i, i0, i1, z | ⟨z1, z2, z3⟩⟩ := (ga x x0 x1).mp p4
            · exact Or.inl ⟨(h2 x x0 x1).2.mpr (Or.inr ⟨i, i0, i1, z.1⟩), z.2⟩
            · have := hnm i i0 i1
              exact Or.inr ⟨_, z1, by omega, (h2 _ z1 (by omega)).2.mpr (Or.inr ⟨i, i0, i1, rfl⟩), z2, z3⟩
          · exact Or.inr ⟨p, p0, by omega, (h2 p p0 (by omega)).2.mpr (Or.inl p2), p3, p4⟩
      · rintro (⟨z1, z2⟩ | ⟨p, p0, p1, p2, p3, p4⟩)
        · rcases (h2 x x0 x1).2.mp z1 with z | ⟨i, i0, i1, i2⟩
          · exact Or.inl ⟨z, z2⟩
          · exact Or.inr ⟨k - t, by omega, by omega, hR1, hk3, (ga x x0 x1).mpr ⟨i, i0, i1, Or.inl ⟨i2, z2⟩⟩⟩
        · rcases (h2 p p0 (by omega)).2.mp p2 with z | ⟨i, i0, i1, i2⟩
          · exact Or.inr ⟨p, p0, by omega, z, p3, p4⟩
          · exact Or.inr ⟨k - t, by omega, by omega, hR1, hk3, (ga x x0 x1).mpr ⟨i, i0, i1, Or.inr ⟨by omega, by rw [i2]; exact p3, by rw [i2]; exact p4⟩⟩⟩
  · rintro c ⟨R, rfl, h⟩
    refine ⟨_, ?_, R, rfl, fun x x0 x1 => ⟨(h x x0 x1).1, (h x x0 x1).2.1, ?_⟩⟩
    · unfold gL_X11_rests_44 g_X11_rests_44
      simp only [zl0]
      rw [if_pos (by rw [qz_lt (by omega) (by omega) (by omega) (by omega)]; omega)]
    · rw [(h x x0 x1).2.2]
      constructor
      · rintro (z | ⟨p, p0, p1, _⟩)
        · exact z
        · omega
      · exact fun z => Or.inl z
theorem m_rest87 (hn : 100000 ≤ n) (hq : 0 ≤ q ∧ q ≤ 1) (h4 : F 4 = q) (h0 : 0 ≤ k) (h1 : k < 200) (hr : ∀ x, 0 ≤ x → x < k → (A 59 x = 0 ∨ A 59 x = 1) ∧ 0 ≤ A 7 (200 * q + x) ∧ A 7 (200 * q + x) ≤ 3) (i1 : -2147483648 ≤ i) (i2 : i < 2147483648) : ∃ r, hp_lp (gL_X11_rests_87 n 0 (qz k) (qz i) (ms F A J)) n (qz (-1), qz 0) = some r ∧ nth (fun x => A 59 x = 1 ∧ A 7 (200 * q + x) = 2) k i r := by
  refine lp_ix (b := gL_X11_rests_87 n 0 (qz k) (qz i) (ms F A J)) (fun t c => c = (qz (cn (fun x => A 59 x = 1 ∧ A 7 (200 * q + x) = 2) t.toNat - 1), qz t) ∧ (0 ≤ i → cn (fun x => A 59 x = 1 ∧ A 7 (200 * q + x) = 2) t.toNat ≤ i)) (Q := fun r => nth (fun x => A 59 x = 1 ∧ A 7 (200 * q + x) = 2) k i r) k (n := n) (i0 := 0) h0 (by omega) (c0 := (qz (-1), qz 0)) ⟨rfl, fun z => z⟩ ?_ ?_
  · rintro t c t0 t1 ⟨rfl, hc⟩
    have hcn := cn_le (fun x => A 59 x = 1 ∧ A 7 (200 * q + x) = 2) t.toNat
    have hr' := hr t t0 t1
    have eT := fun y => cn_T (p := fun x => A 59 x = 1 ∧ A 7 (200 * q + x) = 2) t0 y
    have eF := fun y => cn_F (p := fun x => A 59 x = 1 ∧ A 7 (200 * q + x) = 2) t0 y
    generalize hcc : cn (fun x => A 59 x = 1 ∧ A 7 (200 * q + x) = 2) t.toNat = cc at *
    have em : gL_X11_rests_87 n 0 (qz k) (qz i) (ms F A J) (qz (cc - 1), qz t) = if A 59 t = 0 then g_X11_rests_125 n 0 (qz k) (qz i) (qz t) (qz (cc - 1)) (ms F A J) else if A 7 (200 * q + t) = 2 then g_X11_rests_125 n 0 (qz k) (qz i) (qz t) (qz cc) (ms F A J) else g_X11_rests_125 n 0 (qz k) (qz i) (qz t) (qz (cc - 1)) (ms F A J) := by
      unfold gL_X11_rests_87 g_X11_rests_87 g_X11_rests_124
      simp only [zl0, zl1, zl2]
      rw [if_neg (by rw [qz_le (by omega) (by omega) (by omega) (by omega)]; omega), gp_83, ga_59 (by omega) (by omega), bd_some, m_at h4, bd_some, gp_10, ga_7 (by omega) (by omega), bd_some, qz_add, show cc - 1 + 1 = cc by omega]
      simp (disch := omega) only [qz_inj]
    have e125 : ∀ v, -1 ≤ v → v ≤ 200 → g_X11_rests_125 n 0 (qz k) (qz i) (qz t) (qz v) (ms F A J) = if v = i ∧ 0 ≤ i then some (.inr (qz t)) else some (.inl (qz v, qz (t + 1))) := by
      intro v v0 v1
      unfold g_X11_rests_125 g_X11_rests_138
      simp only [zl0, zl1]
      rw [qz_add]
      by_cases y : v = i
      · rw [if_pos (by rw [y])]
        by_cases z : 0 ≤ i
        · rw [if_neg (by rw [qz_lt (by omega) (by omega) (by omega) (by omega)]; omega), if_pos ⟨y, z⟩]
        · rw [if_pos (by rw [qz_lt (by omega) (by omega) (by omega) (by omega)]; omega), if_neg (fun w => z w.2)]
      · rw [if_neg (by rw [qz_inj (by omega) (by omega) (by omega) (by omega)]; exact y), if_neg (fun w => y w.1)]
    by_cases c2 : A 59 t = 1 ∧ A 7 (200 * q + t) = 2
    · rw [if_neg (by omega), if_pos c2.2, e125 cc (by omega) (by omega)] at em
      by_cases y : cc = i ∧ 0 ≤ i
      · exact Or.inr ⟨qz t, by rw [em, if_pos y], Or.inl ⟨t, rfl, t0, t1, c2, by rw [hcc]; exact y.1⟩⟩
      · exact Or.inl ⟨_, by rw [em, if_neg y], by rw [eT c2, show cc + 1 - 1 = cc by omega], fun z => by rw [eT c2]; have := hc z; omega⟩
    · have em2 : gL_X11_rests_87 n 0 (qz k) (qz i) (ms F A J) (qz (cc - 1), qz t) = g_X11_rests_125 n 0 (qz k) (qz i) (qz t) (qz (cc - 1)) (ms F A J) := by
        rw [em]
        by_cases y : A 59 t = 0
        · rw [if_pos y]
        · rw [if_neg y, if_neg (fun z => c2 ⟨by omega, z⟩)]
      rw [e125 (cc - 1) (by omega) (by omega), if_neg (fun z => by have := hc z.2; omega)] at em2
      exact Or.inl ⟨_, em2, by rw [eF c2], fun z => by rw [eF c2]; exact hc z⟩
  · rintro c ⟨rfl, hc⟩
    refine ⟨qz (-2), ?_, Or.inr ⟨rfl, ?_⟩⟩
    · unfold gL_X11_rests_87 g_X11_rests_87
      rw [if_pos (by rw [qz_le (by omega) (by omega) (by omega) (by omega)]; omega)]
      rfl
    · by_cases y : i < 0
      · exact Or.inl y
      · exact Or.inr (hc (by omega))
end RS2
theorem ok_rests : Ok_rests Rel := by
  rintro n hn sC sM R a0 a1
  have R' := R
  obtain ⟨q, b, b2, S, K, P, len, dl, f, d, a, ni, j, F, A, J, rfl, rfl, R0⟩ := R'
  have R1 := R0
  obtain ⟨r1, r2, r3, r4, r5, r6, r7, r8, r9, r10, r11, r12, r13, r14⟩ := R1
  obtain ⟨k, k1, k2, rfl⟩ := qz_of a0
  obtain ⟨i, i1, i2, rfl⟩ := qz_of a1
  have hq := bq_q r1
  have hb := bq_b r1
  have G := r7
  obtain ⟨⟨b1, b2', b3, b4, b5, b6, b7, b8, b9⟩, gn, glb, gk, gf, gt, ghy, gma, gun, gpo, gpr, gfm, gax, grw⟩ := r7
  have hK0 : 0 ≤ K := gn.2.2.1
  have hK1 : K ≤ 200 := gn.2.2.2.1
  have eC := c_isPr (n := n) (d := d) (j := j) (ni := ni) (f := f) (a := a) hb k1 k2 (by omega) (by omega) (fun k x1 x2 => by have := gk k x1 (by omega); omega)
  have eM := m_isKind (n := n) (F := F) (A := A) (J := J) (l := 3) r3 hq b4 hK0 hK1 k1 k2 (fun k x1 x2 => by have := gk k x1 (by omega); omega) (by omega) (by omega)
  by_cases c : 0 ≤ k ∧ k < K ∧ a (b + 8) k = 3
  rotate_left
  · refine ⟨qz (-1), _, ?_, ?_, R⟩
    · unfold g_X10_rests g_X10_rests_0
      rw [gpc_0_0, r4, eC, bd_some, b3, qp_F c, if_pos (by decide)]
      rfl
    · unfold g_X11_rests g_X11_rests_0
      rw [zl3, eM, bd_some, qp_F (fun z => c ⟨z.1, z.2.1, by have := gk k z.1 z.2.1; omega⟩), if_pos (by decide)]
      rfl
  obtain ⟨c0, c1, c2⟩ := c
  have gk' := gk k c0 c1
  obtain ⟨r, er, hr⟩ := c_axUnder (f := f) (d := d) (a := a) (ni := ni) (j := j) (k := k) (i := i) hn hb c0 (by omega) i1 i2
  obtain ⟨Q0, e0, h0⟩ := m_rest13 (v := qz i) (F := F) (A := A) (J := J) (k := k) hn c0 (by omega)
  obtain ⟨Q1, e1, h1⟩ := m_rest44 (v := qz i) (F := F) (J := J) hn hq r3 G r8 c0 c1 c2 h0
  have h59 : u1 A 59 Q1 59 = Q1 := u1_s
  have h7 : u1 A 59 Q1 7 = A 7 := u1_o (by decide)
  obtain ⟨r', er', hr'⟩ := m_rest87 (F := F) (A := u1 A 59 Q1) (J := J) (k := k) (i := i) hn hq r3 c0 (by omega) (fun x x0 x1 => by
    rw [h59, h7]
    have := gk x x0 (by omega)
    exact ⟨(h1 x x0 (by omega)).1, by omega, by omega⟩) i1 i2
  rw [h59, h7] at hr'
  have e : r' = r := nth_1 (nth_c c0 hr' (fun x x0 x1 => by
    have y := (h1 x x0 (by omega)).2.2
    have z := gk x x0 (by omega)
    rw [y]
    constructor
    · rintro ⟨z1, z2⟩
      exact ⟨z1, by omega⟩
    · rintro ⟨z1, z2⟩
      exact ⟨z1, by omega⟩)) hr
  refine ⟨r, ms F (u1 A 59 Q1) J, ?_, ?_, q, b, b2, S, K, P, len, dl, _, _, _, _, _, _, _, _, rfl, rfl, ?_⟩
  · unfold g_X10_rests g_X10_rests_0
    rw [gpc_0_0, r4, eC, bd_some, b3, qp_T ⟨c0, c1, c2⟩, if_neg (by decide), er, bd_some]
  · unfold g_X11_rests g_X11_rests_0
    rw [zl3, eM, bd_some, qp_T ⟨c0, c1, by omega⟩, if_neg (by decide), zl0, zlm1, e0, bd_some, e1, bd_some, er', bd_some, e]
  · refine rel_gen R0 (fun _ _ _ => rfl) (fun _ _ _ => rfl) (fun _ _ _ => rfl) (fun _ _ _ => rfl) (fun _ _ => rfl) (fun i hi => u1_o (by omega)) ⟨rfl, rfl⟩ rfl rfl r6 ?_ ?_ r12 r13 r14
    · unfold Rsh
      rw [u1_o (by decide)]
      exact r10
    · unfold Rtr
      rw [u1_o (by decide), u1_o (by decide)]
      exact r11
