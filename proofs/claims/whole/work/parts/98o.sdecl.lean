/-! Declarations: both -/
section SDC
variable {b n : Nat} {q S K P len c b0 e0 w : Int} {f0 : Nat → Nat → Int} {a0 : Nat → Int → Int} {ni0 : Nat → Nat} {j0 : Nat → Int → Int64} {F0 : Nat → Int} {A0 : Nat → Int → Int} {J0 : Nat → Int → Int64} {f : Nat → Nat → Int} {d : Nat → Nat} {a : Nat → Int → Int} {ni : Nat → Nat} {j : Nat → Int → Int64} {F : Nat → Int} {A : Nat → Int → Int} {J : Nat → Int → Int64}
theorem gf_S {it st va ki A11 A12 A16 : Int → Int} {v : Int} (Gf' : Gf q K S it st va ki A11 A12 A16) : Gf q K (S + 1) it st (v1 va S v) ki A11 A12 A16 := by
  intro k a b
  obtain ⟨g1, g2, g3, g4, g5, g6, g7⟩ := Gf' k a b
  have h0 := g5 0 (by omega) (by omega)
  rw [show st k + 0 = st k by omega] at h0
  refine ⟨g1, g2, g3, g4, fun i i1 i2 => ?_, by rw [v1_o (by omega)]; exact g6, fun h => ?_⟩
  · have := g5 i i1 i2
    exact ⟨this.1, this.2.1, by omega⟩
  · have h1 := g5 1 (by omega) (by have := g7 h; omega)
    rw [v1_o (by omega)]; exact g7 h
theorem bk_sym {v : Int} {f2 : Nat → Nat → Int} {a2 : Nat → Int → Int} {A2 : Nat → Int → Int} (G : BK b q S K P len f a ni j A J) (hS : S < 300) (h0 : 0 ≤ b0) (h1 : b0 < e0) (h2 : e0 ≤ len) (hv : v = 0 ∨ v = 1) (hu : ∀ x, liv S K x → ¬nme (a (b + 2)) (a (b + 5) x) (a (b + 6) x) (a (b + 2)) b0 (e0 - b0))
    (x1 : f2 b 3 = S + 1) (x2 : f2 b 5 = f b 5) (x3 : f2 b 2 = f b 2) (hf : ∀ i, b < i → i < b + 32 → f2 i = f i) (a3 : a2 (b + 3) = v1 (a (b + 3)) (hd (a (b + 2)) b0 (e0 - b0)) S) (a4 : a2 (b + 4) = v1 (a (b + 4)) S (a (b + 3) (hd (a (b + 2)) b0 (e0 - b0)))) (a5 : a2 (b + 5) = v1 (a (b + 5)) S b0) (a6 : a2 (b + 6) = v1 (a (b + 6)) S (e0 - b0)) (a7 : a2 (b + 7) = v1 (a (b + 7)) S v) (ha : ∀ i, b ≤ i → i < b + 32 → ¬(b + 3 ≤ i ∧ i ≤ b + 7) → a2 i = a i)
    (y3 : A2 3 = v1 (A 3) (300 * q + S) b0) (y4 : A2 4 = v1 (A 4) (300 * q + S) (e0 - b0)) (y5 : A2 5 = v1 (A 5) (300 * q + S) v) (y6 : A2 6 q = S + 1) (hA : ∀ i, i < 26 → ¬(3 ≤ i ∧ i ≤ 6) → A2 i = A i) : BK b q (S + 1) K P len f2 a2 ni j A2 J := by
  obtain ⟨⟨b1, b2, b3, b4, b5, b6, b7, b8, b9⟩, gn, glb, gk, gf, gt, ghy, gma, gun, gpo, gpr, gfm, gax, grw⟩ := G
  have hK : 0 ≤ K ∧ K ≤ 200 := ⟨gn.2.2.1, gn.2.2.2.1⟩
  have hS0 : 0 ≤ S := gn.1
  unfold BK
  rw [x1, x2, x3, a3, a4, a5, a6, a7, ha (b + 2) (by omega) (by omega) (by omega), ha (b + 8) (by omega) (by omega) (by omega), ha (b + 9) (by omega) (by omega) (by omega), ha (b + 10) (by omega) (by omega) (by omega), ha (b + 11 + 1) (by omega) (by omega) (by omega), ha (b + 11 + 2) (by omega) (by omega) (by omega), ha (b + 14 + 1) (by omega) (by omega) (by omega), ha (b + 14 + 2) (by omega) (by omega) (by omega), ha (b + 17 + 1) (by omega) (by omega) (by omega), ha (b + 17 + 2) (by omega) (by omega) (by omega), ha (b + 20 + 1) (by omega) (by omega) (by omega), ha (b + 20 + 2) (by omega) (by omega) (by omega), ha (b + 23 + 1) (by omega) (by omega) (by omega), ha (b + 23 + 2) (by omega) (by omega) (by omega), ha (b + 26 + 1) (by omega) (by omega) (by omega), ha (b + 26 + 2) (by omega) (by omega) (by omega), ha (b + 29) (by omega) (by omega) (by omega), ha (b + 30) (by omega) (by omega) (by omega)]
  rw [y3, y4, y5, y6, hA 7 (by omega) (by omega), hA 8 (by omega) (by omega), hA 9 (by omega) (by omega), hA 10 (by omega) (by omega), hA 11 (by omega) (by omega), hA 12 (by omega) (by omega), hA 13 (by omega) (by omega), hA 14 (by omega) (by omega), hA 15 (by omega) (by omega), hA 16 (by omega) (by omega), hA 17 (by omega) (by omega), hA 18 (by omega) (by omega), hA 21 (by omega) (by omega), hA 22 (by omega) (by omega), hA 23 (by omega) (by omega), hA 24 (by omega) (by omega), hA 25 (by omega) (by omega)]
  refine ⟨⟨rfl, rfl, b3, b4, b5, b6, b7, b8, b9⟩, gn_add gn b8 hS h0 h1 h2 hv hu, fun k k1 k2 x z1 z2 => ?_, gk, gf_S gf, fun k k1 k2 => ?_, ghy, fun k k1 k2 k3 => ?_, gun, ⟨gpo.1, gpo.2.1, fun p p1 p2 => ?_⟩, gpr, gfm, gax, ?_⟩
  · rw [v1_o (by omega)] at z2 ⊢
    exact glb k k1 k2 x z1 z2
  · obtain ⟨t1, t2, t3, t4, t5, t6, t7, t8⟩ := gt k k1 k2
    refine ⟨t1, t2, t3, t4, t5, t6, t7, fun i i1 i2 => ?_⟩
    obtain ⟨⟨u1, u2, u3⟩, u4⟩ := t8 i i1 i2
    refine ⟨⟨u1, u2, ?_⟩, u4⟩
    rcases u3 with ⟨z1, z2⟩ | ⟨z1, z2, z3⟩
    · exact Or.inl ⟨z1, fun s s1 s2 => by rw [v1_o (by omega), v1_o (by omega)]; exact z2 s s1 s2⟩
    · exact Or.inr ⟨z1, z2, by rw [v1_o (by omega), v1_o (by omega)]; exact z3⟩
  · obtain ⟨g1, g2⟩ := gma k k1 k2 k3
    constructor
    · intro i i1 i2 i3
      have := (gf k k1 k2).2.2.2.2.1 i i1 i2
      rw [v1_o (by omega)] at i3
      exact g1 i i1 i2 i3
    · intro e e1 e2 i i1 i2 i3
      have h := (ghy k k1 k2).2.2.1 e e1
      have := (gf e h.1 (by omega)).2.2.2.2.1 i i1 i2
      rw [v1_o (by omega)] at i3
      exact g2 e e1 e2 i i1 i2 i3
  · have := gpo.2.2 p p1 p2
    rw [v1_o (by omega), v1_o (by omega)]
    omega
  · unfold Grw at *
    rw [hf (b + 11) (by omega) (by omega), hf (b + 14) (by omega) (by omega), hf (b + 17) (by omega) (by omega), hf (b + 20) (by omega) (by omega), hf (b + 23) (by omega) (by omega), hf (b + 26) (by omega) (by omega), ha (b + 11 + 2) (by omega) (by omega) (by omega), ha (b + 14 + 2) (by omega) (by omega) (by omega), ha (b + 17 + 2) (by omega) (by omega) (by omega), ha (b + 20 + 2) (by omega) (by omega) (by omega), ha (b + 23 + 2) (by omega) (by omega) (by omega), ha (b + 26 + 2) (by omega) (by omega) (by omega)]
    exact grw
theorem gh4_S {isA ki it st va tf de A11 A12 A16 : Int → Int} {v : Int} (H : Gh4 q K isA ki it st va tf de A12) (Gf' : Gf q K S it st va ki A11 A12 A16) : Gh4 q K isA ki it st (v1 va S v) tf de A12 := by
  intro e e1 e2 e3 e4 i i1 i2 i3
  have := (Gf' e e1 e2).2.2.2.2.1 i i1 i2
  rw [v1_o (by omega)] at i3
  exact H e e1 e2 e3 e4 i i1 i2 i3
/-- an active variable more leaves what is typed -/
theorem gh3_act {x D : Int} {fl tf isA ki de act it st : Int → Int} (H : Gh3 K fl tf isA ki de act it st) (hx : act x < 0) : Gh3 K fl tf isA ki de (v1 act x D) it st := by
  obtain ⟨h1, h2⟩ := H
  refine ⟨fun y y1 y2 => ?_, h2⟩
  obtain ⟨c1, c2, c3, c4⟩ := h1 y y1 y2
  refine ⟨c1, c2, c3, fun z => ?_⟩
  obtain ⟨d1, d2, d3, d4, d5, d6⟩ := c4 z
  have : y ≠ x := fun e => by rw [e] at d5; omega
  rw [v1_o this]
  exact ⟨d1, d2, d3, d4, d5, d6⟩
theorem c_addSym {v : Int} (hb : bks b) (hn : 100000 ≤ n) (h3 : f b 3 = S) (hS0 : 0 ≤ S) (hS : S < 300) (h0 : 0 ≤ b0) (h1 : b0 < e0) (h2 : e0 ≤ 8192) (hv : v = 0 ∨ v = 1) : g_X0_addSymbol n b (qz v) (qz b0) (qz (e0 - b0)) (cs f d a ni j) = some (qz S, cs (u2 f b 3 (S + 1)) d (v2 (v2 (v2 (v2 (v2 a (b + 5) S b0) (b + 6) S (e0 - b0)) (b + 4) S (a (b + 3) (hd (a (b + 2)) b0 (e0 - b0)))) (b + 3) (hd (a (b + 2)) b0 (e0 - b0)) S) (b + 7) S v) ni j) := by
  unfold g_X0_addSymbol g_X0_addSymbol_0 g_X0_addSymbol_32
  rw [gpb_0 hb, gf_cs, h3, c_nadd hb h0 (by omega) (by omega) hS0 (by omega) hn, bd_some, gpb_4 hb]
  have e0' : (Int32.toInt8 (qz 0)).toInt32 = qz 0 := by decide
  have e1' : (Int32.toInt8 (qz 1)).toInt32 = qz 1 := by decide
  rcases hv with rfl | rfl
  · simp (disch := first | assumption | omega) only [qpT, qpF, qz_lit, qz_add, qz_mul, qz_neg, qz_sub, qz_inj, qz_lt, qz_le, qz_div, qp_0, qp_1, hp_bz_qp, hp_bz_0, hp_bz_1, if_true, e0', uab_7, bd_some, gf_cs, wf_cs, h3]
  · simp (disch := first | assumption | omega) only [qpT, qpF, qz_lit, qz_add, qz_mul, qz_neg, qz_sub, qz_inj, qz_lt, qz_le, qz_div, qp_0, qp_1, hp_bz_qp, hp_bz_0, hp_bz_1, if_neg, e1', uab_7, bd_some, gf_cs, wf_cs, h3]
theorem c_activate {x vc : Int} (h0 : 0 ≤ x) (h1 : x < 300) (h4 : f 66 4 = vc) (hv0 : 0 ≤ vc) (hv : vc < 300) : g_X7_activate n 66 (qz x) (cs f d a ni j) = some (cs (u2 f 66 4 (vc + 1)) d (v2 (v2 a 70 x 1) 69 vc x) ni j) := by
  unfold g_X7_activate g_X7_activate_0
  simp (disch := first | assumption | omega) only [qpT, qpF, qz_lit, qz_add, qz_mul, qz_neg, qz_sub, qz_inj, qz_lt, qz_le, qz_div, qp_0, qp_1, hp_bz_qp, hp_bz_0, hp_bz_1, gpc_66_5, gpc_66_3, uac_70, uac_69, bd_some, gf_cs, wf_cs, h4]
end SDC
