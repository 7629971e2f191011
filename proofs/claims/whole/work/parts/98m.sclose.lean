/-! A block closes: both -/
section SCL
variable {b n : Nat} {q S K P len c b0 e0 w : Int} {f0 : Nat → Nat → Int} {a0 : Nat → Int → Int} {ni0 : Nat → Nat} {j0 : Nat → Int → Int64} {F0 : Nat → Int} {A0 : Nat → Int → Int} {J0 : Nat → Int → Int64} {f : Nat → Nat → Int} {d : Nat → Nat} {a : Nat → Int → Int} {ni : Nat → Nat} {j : Nat → Int → Int64} {F : Nat → Int} {A : Nat → Int → Int} {J : Nat → Int → Int64}
/-- what is typed, when hypotheses end -/
theorem gh3_close {D hc : Int} {oh hv isA de ki fl tf act it st isA2 fl2 tf2 act2 : Int → Int} (H1 : Gh1 D K hc oh hv isA de ki) (H3 : Gh3 K fl tf isA ki de act it st) (hD : 0 < D) (hK : K ≤ 200) (h0 : ∀ k, 0 ≤ k → k < K → ki k = 0 → 0 ≤ it (st k + 1) ∧ it (st k + 1) < 300)
    (hA : ∀ k, 0 ≤ k → k < 200 → (k < K ∧ isA k = 1 ∧ de k = D → isA2 k = 0) ∧ (¬(k < K ∧ isA k = 1 ∧ de k = D) → isA2 k = isA k)) (hf : ∀ x, ((∃ i, oh (D - 1) ≤ i ∧ i < hc ∧ ki (hv i) = 0 ∧ it (st (hv i) + 1) = x) → fl2 x = 0) ∧ (¬(∃ i, oh (D - 1) ≤ i ∧ i < hc ∧ ki (hv i) = 0 ∧ it (st (hv i) + 1) = x) → fl2 x = fl x)) (ht : ∀ x, ((∃ k, 0 ≤ k ∧ k < K ∧ isA k = 1 ∧ de k = D ∧ ki k = 0 ∧ it (st k + 1) = x) → tf2 x = -1) ∧ (¬(∃ k, 0 ≤ k ∧ k < K ∧ isA k = 1 ∧ de k = D ∧ ki k = 0 ∧ it (st k + 1) = x) → tf2 x = tf x)) (hc2 : ∀ x, 0 ≤ x → x < 300 → act x ≠ D → act2 x = act x) : Gh3 K fl2 tf2 isA2 ki de act2 it st ∧ ∀ x, 0 ≤ x → x < 300 → 0 ≤ tf x → de (tf x) < D → tf2 x = tf x := by
  have G1 := H1
  obtain ⟨g1, g2, g3, g4, g5⟩ := G1
  obtain ⟨o1, o2⟩ := g5 (D - 1) (by omega) (by omega)
  have same : ∀ x, (∃ i, oh (D - 1) ≤ i ∧ i < hc ∧ ki (hv i) = 0 ∧ it (st (hv i) + 1) = x) ↔ (∃ k, 0 ≤ k ∧ k < K ∧ isA k = 1 ∧ de k = D ∧ ki k = 0 ∧ it (st k + 1) = x) := by
    intro x
    constructor
    · rintro ⟨i, i1, i2, i3, i4⟩
      have a := g2 i (by omega) i2
      have m := (gh1_mem H1 hD hK (k := hv i) (by omega) a.2.1).mp ⟨i, i1, i2, rfl⟩
      exact ⟨hv i, by omega, a.2.1, m.1, m.2, i3, i4⟩
    · rintro ⟨k, k1, k2, k3, k4, k5, k6⟩
      obtain ⟨i, i1, i2, i3⟩ := (gh1_mem H1 hD hK k1 k2).mpr ⟨k3, k4⟩
      exact ⟨i, i1, i2, by rw [i3]; exact k5, by rw [i3]; exact k6⟩
  obtain ⟨q1, q2⟩ := H3
  have nrem : ∀ x, 0 ≤ x → x < 300 → 0 ≤ tf x → de (tf x) ≠ D → ¬(∃ k, 0 ≤ k ∧ k < K ∧ isA k = 1 ∧ de k = D ∧ ki k = 0 ∧ it (st k + 1) = x) := by
    rintro x x1 x2 x3 x4 ⟨k, k1, k2, k3, k4, k5, k6⟩
    have := q2 k k1 k2 k3 k5
    rw [k6] at this
    rw [this] at x4
    exact x4 k4
  refine ⟨⟨fun x x1 x2 => ?_, fun k k1 k2 k3 k4 => ?_⟩, fun x x1 x2 x3 x4 => (ht x).2 (nrem x x1 x2 x3 (by omega))⟩
  · obtain ⟨c1, c2, c3, c4⟩ := q1 x x1 x2
    by_cases e : ∃ k, 0 ≤ k ∧ k < K ∧ isA k = 1 ∧ de k = D ∧ ki k = 0 ∧ it (st k + 1) = x
    · rw [(hf x).1 ((same x).mpr e), (ht x).1 e]
      exact ⟨Or.inl rfl, by omega, by omega, fun z => by omega⟩
    · rw [(hf x).2 (fun z => e ((same x).mp z)), (ht x).2 e]
      refine ⟨c1, c2, c3, fun z => ?_⟩
      obtain ⟨d1, d2, d3, d4, d5, d6⟩ := c4 z
      have nd : de (tf x) ≠ D := fun y => e ⟨tf x, z, d1, d2, y, d3, d4⟩
      have a4 := (g4 (tf x) z (by omega)).2 d2
      obtain ⟨_, i, i1, i2, i3⟩ := a4
      have a5 := (g2 i i1 i2).2.2.2.2.1
      rw [i3] at a5
      rw [(hA (tf x) z (by omega)).2 (fun y => nd y.2.2), hc2 x x1 x2 (by omega)]
      exact ⟨d1, d2, d3, d4, d5, d6⟩
  · have n1 : ¬(k < K ∧ isA k = 1 ∧ de k = D) := by
      intro z
      rw [(hA k k1 (by omega)).1 z] at k3; omega
    rw [(hA k k1 (by omega)).2 n1] at k3
    have t1 := q2 k k1 k2 k3 k4
    have h0' := h0 k k1 k2 k4
    rw [(ht _).2 (nrem _ h0'.1 h0'.2 (by omega) (by rw [t1]; exact fun z => n1 ⟨k2, k3, z⟩))]
    exact t1
theorem s_close (hn : 100000 ≤ n) (G : BK b q S K P len f a ni j A J) (L : Rl b q len c f d a F A) (R : Rs b q S K P f a F A) (C : Rc b K c f a F) (Fr : FR b q f0 a0 ni0 j0 F0 A0 J0 f a ni j F A J) (Ti : TI b len c b0 e0 w f a F A) (hw : w = 125) (m1 : f 65 4 = 0) (m2 : F 34 = 0) (m3 : F 36 = a (b + 11 + 2) K) (m4 : F 37 = a (b + 14 + 2) K) (m5 : PB P (F 43) (f 66 0) 0 c) : OUT b n q len b0 e0 f0 a0 ni0 j0 F0 A0 J0 d (g_X4_takeOutside n 65 (qz w) (cs f d a ni j)) (g_X11_outside n 0 (ms F A J)) := by
  have G' := G
  obtain ⟨⟨b1, b2, b3, b4, b5, b6, b7, b8, b9⟩, gn, glb, gk, gf, gt, ghy, gma, gun, gpo, gpr, gfm, gax, grw⟩ := G'
  have L' := L
  obtain ⟨l1, l2, l3, l4, l5, l6, l7, l8, l9, l10, l11, l12, l13⟩ := L'
  have hb := bq_b l1
  have hq := bq_q l1
  have C' := C
  obtain ⟨k1, k2, k3, k4, k5, k6, k7, k8, k9, k10⟩ := C'
  have T' := Ti
  obtain ⟨t1, t2, t3, t4, t5, t6, t7, t8, t9, t10, t11, t12, t13⟩ := T'
  have hK : 0 ≤ K ∧ K ≤ 200 := ⟨gn.2.2.1, gn.2.2.2.1⟩
  have hS : 0 ≤ S ∧ S ≤ 300 := ⟨gn.1, gn.2.1⟩
  have hD : 0 ≤ f 66 0 ∧ f 66 0 ≤ 16 := ⟨R.1.1, R.1.2.1⟩
  have rwa := grw_rwa grw
  have hsc : scd f d a (b + 2) len := ⟨l3, tx_b hb, l4, b7, b8, b9⟩
  have htc : tkc f b0 e0 len := ⟨t1, t2, t6, t7, t8⟩
  have hce : c ≤ e0 := by omega
  have hbb : b = 1 ∨ b = 33 := hb
  have htok : tok (u1 F 35 0) b0 e0 := ti_tok Ti b8 (u1_o (by decide)) (u1_o (by decide))
  have h2 := wrd_two t13 (by omega) (by omega)
  have X0 : g_X4_takeOutside n 65 (qz w) (cs f d a ni j) = if f 66 0 = 0 then some (qz 3, cs f d a ni j) else (g_X7_closeBlock n 66 b (cs f d a ni j)).bind fun x13 => some (qz 0, x13) := by
    unfold g_X4_takeOutside g_X4_takeOutside_0
    simp only [qz_lit]
    rw [hw, if_neg (by decide), if_neg (by decide), if_neg (by decide), if_neg (by decide), if_pos rfl, gpc_65_3, gpc_65_1, l2, gf_cs]
    simp (disch := omega) only [qz_inj]
  have Y0 : g_X11_outside n 0 (ms F A J) = if f 66 0 = 0 then some (qz 3, ms (u1 F 35 0) A J) else (g_X11_closeBlock n 0 (ms (u1 F 35 0) A J)).bind fun x25 => some (qz 0, x25) := by
    unfold g_X11_outside g_X11_outside_0
    simp only [qz_lit]
    rw [wf_ms, bd_some]
    rw [mW l9 l10 htok t8 t13 (by omega), bd_some, qp_F (by omega), if_pos rfl]
    rw [mW l9 l10 htok t8 t13 (by omega), bd_some, qp_F (by omega), if_pos rfl]
    rw [mW l9 l10 htok t8 t13 (by omega), bd_some, qp_F (by omega), if_pos rfl]
    rw [mW l9 l10 htok t8 t13 (by omega), bd_some, qp_F (by omega), if_pos rfl]
    rw [mW l9 l10 htok t8 t13 (by omega), bd_some, qp_T (by omega), if_neg n10]
    simp (disch := omega) only [gf_ms, u1_o, l8, qz_inj]
  by_cases cD : f 66 0 = 0
  · rw [if_pos cD] at X0 Y0
    exact out_fault (by omega) (by omega) X0 Y0 t1 (by simp (disch := omega) only [u1_o]; exact t3) (fr_F Fr (by omega)) rwa (by omega) (by omega)
  rw [if_neg cD] at X0 Y0
  have R' := R
  obtain ⟨r1, r2, r3, r4, r5, r6, r7⟩ := R'
  have V := r1
  obtain ⟨v1', v2', v3, v4, v5, v6, v7, v8⟩ := V
  have H1 := r2
  obtain ⟨h11, h12, h13, h14, h15⟩ := H1
  have Pp := r7
  obtain ⟨p1, p2, p3, p4, p5, p6, p7, p8, p9⟩ := Pp
  have vle := gv_le r1
  have hle : f 66 9 ≤ 200 := by rcases gh1_le r2 with z | z <;> omega
  obtain ⟨ov1, ov2⟩ := v8 (f 66 0 - 1) (by omega) (by omega)
  obtain ⟨oh1, oh2⟩ := h15 (f 66 0 - 1) (by omega) (by omega)
  have w7 : f (b + 11) 3 = K := grw.2.2.2.2.2.2.1
  have m11 := rw_mono grw.1
  rw [w7] at m11
  -- the class
  obtain ⟨pr2, pd2, pk, ep, pk1, pk2, pk3, pk4⟩ := c_dropPairs (f := f) (d := d) (a := a) (ni := ni) (j := j) (n := n) hn rfl rfl hD.1 hD.2 p1 p2 p4 (fun i i1 i2 => by
    have hm : (a 74 i, a 75 i) ∈ tab (a 74) (a 75) (f 66 12).toNat := tab_mem.mpr ⟨i, i1, by omega, rfl⟩
    obtain ⟨k, q1, q2, q3⟩ := tab_mem.mp (p5.mem_iff.mp hm)
    have := congrArg Prod.snd q3
    simp only at this
    have := p7 k q1 (by omega)
    omega)
  have hh : ∀ i, 0 ≤ i → i < f 66 9 → 0 ≤ a 73 i ∧ a 73 i < f (b + 11) 3 ∧ (a (b + 8) (a 73 i) = 0 ∨ a (b + 8) (a 73 i) = 1) ∧ 1 ≤ a (b + 11 + 2) (a 73 i + 1) - a (b + 11 + 2) (a 73 i) ∧ (a (b + 8) (a 73 i) = 0 → a (b + 11 + 2) (a 73 i + 1) - a (b + 11 + 2) (a 73 i) = 2) ∧ ∀ y, 0 ≤ y → y < a (b + 11 + 2) (a 73 i + 1) - a (b + 11 + 2) (a 73 i) → 0 ≤ a (b + 11 + 1) (a (b + 11 + 2) (a 73 i) + y) ∧ a (b + 11 + 1) (a (b + 11 + 2) (a 73 i) + y) < 300 := by
    intro i i1 i2
    obtain ⟨x1, x2, x3, x4, x5, x6⟩ := h12 i i1 i2
    have hk' := gk (a 73 i) (by omega) x2
    obtain ⟨y1, y2, y3, y4, y5, y6, y7⟩ := gf (a 73 i) (by omega) x2
    refine ⟨by omega, by omega, by omega, by omega, fun z => by have := (y7 z).1; omega, fun y z1 z2 => ?_⟩
    have := y5 y z1 (by omega)
    omega
  obtain ⟨un2, fl2, nd2, eh, eh1, eh2, eh3⟩ := c_closeH (f := u2 (u2 f 66 12 pk) 66 0 (f 66 0 - 1)) (d := d) (a := u1 (u1 a 74 pr2) 75 pd2) (ni := ni) (j := j) (n := n) (K := K) (lo := a 68 (f 66 0 - 1)) (hc := f 66 9) hb hn (by simp (disch := omega) only [u2_b, u1_o]; exact grw.1) (by simp (disch := omega) only [u2_b]; omega) (by simp (disch := omega) only [u2_b]; exact b3) (by simp (disch := omega) only [u2_c]) oh1 oh2 hle (by simp (disch := omega) only [u1_o]; exact h13) (by simp (disch := omega) only [u1_o, u2_b]; exact hh)
  simp (disch := omega) only [u1_o] at eh eh1 eh2 eh3
  obtain ⟨ac2, ev, ev1⟩ := c_closeV (f := u2 (u2 (u2 f 66 12 pk) 66 0 (f 66 0 - 1)) 66 9 (a 68 (f 66 0 - 1))) (d := d) (a := u1 (u1 (u1 (u1 (u1 a 74 pr2) 75 pd2) (b + 10) un2) 71 fl2) 72 nd2) (ni := ni) (j := j) (n := n) (lo := a 67 (f 66 0 - 1)) (hi := f 66 4) hn (by simp (disch := omega) only [u2_c]) ov1 ov2 vle (fun i i1 i2 => by simp (disch := omega) only [u1_o]; exact ⟨(v5 i i1 i2).1, (v5 i i1 i2).2.1⟩)
  simp (disch := omega) only [u1_o] at ev1
  have X1 : g_X4_takeOutside n 65 (qz w) (cs f d a ni j) = some (qz 0, cs (u2 (u2 (u2 (u2 f 66 12 pk) 66 0 (f 66 0 - 1)) 66 9 (a 68 (f 66 0 - 1))) 66 4 (a 67 (f 66 0 - 1))) d (u1 (u1 (u1 (u1 (u1 (u1 a 74 pr2) 75 pd2) (b + 10) un2) 71 fl2) 72 nd2) 70 ac2) ni j) := by
    rw [X0]
    unfold g_X7_closeBlock g_X7_closeBlock_0
    simp only [qz_lit]
    rw [ep, bd_some]
    simp (disch := omega) only [gf_cs, wf_cs, bd_some, u2_a, u2_c, qz_sub, gpc_66_2, gpc_66_1, gac_68, u1_o]
    rw [eh, bd_some]
    simp (disch := omega) only [gf_cs, wf_cs, bd_some, u2_a, u2_c, qz_sub, gpc_66_2, gpc_66_1, gac_68, gac_67, u1_o]
    rw [ev, bd_some]
    simp (disch := omega) only [gf_cs, wf_cs, bd_some, u2_a, u2_c, qz_sub, gpc_66_2, gpc_66_1, gac_68, gac_67, u1_o]
  -- the reference
  obtain ⟨act2, f1, f2⟩ := m_close1 (F := u1 F 35 0) (A := A) (J := J) (n := n) (q := q) (S := S) (D := f 66 0) hn (by simp (disch := omega) only [u1_o]; exact l7) hq b2 hS.1 hS.2 (by simp (disch := omega) only [u1_o]; exact l8) hD (fun x x1 x2 => by have := v4 x x1 x2; omega)
  have hde : ∀ k, 0 ≤ k → k < K → A 10 (200 * q + k) = a (b + 9) k ∧ A 7 (200 * q + k) = a (b + 8) k ∧ A 11 (200 * q + k) = a (b + 11 + 2) k ∧ (a (b + 8) k = 0 → A 16 (4096 * q + A 11 (200 * q + k) + 1) = a (b + 11 + 1) (a (b + 11 + 2) k + 1) ∧ 0 ≤ a (b + 11 + 1) (a (b + 11 + 2) k + 1) ∧ a (b + 11 + 1) (a (b + 11 + 2) k + 1) < 300 ∧ A 11 (200 * q + k) + 1 < 4096 ∧ 0 ≤ A 11 (200 * q + k)) := by
    intro k q1 q2
    have x := gk k q1 q2
    obtain ⟨y1, y2, y3, y4, y5, y6, y7⟩ := gf k q1 q2
    refine ⟨by omega, by omega, by omega, fun z => ?_⟩
    have z1 := y7 z
    have z2 := y5 1 (by omega) (by omega)
    have z3 := mono_k m11 q1 q2
    have z4 := grw.1.2.2.2.2.2.2.2.2.2.2.1
    have z5 := grw.1.2.2.2.1
    have z6 := grw.1.2.2.2.2.2.1
    rw [w7] at z4
    rw [← y1, show 4096 * q + a (b + 11 + 2) k + 1 = 4096 * q + (a (b + 11 + 2) k + 1) by omega]
    exact ⟨z2.1.symm, by omega, by omega, by omega, by omega⟩
  obtain ⟨isA2, tf2, f3, f4, f5⟩ := m_close2 (F := u1 F 35 0) (A := u1 A 26 act2) (J := J) (n := n) (q := q) (K := K) (D := f 66 0) hn (by simp (disch := omega) only [u1_o]; exact l7) hq (by simp (disch := omega) only [u1_o]; exact b4) hK.1 hK.2 (by simp (disch := omega) only [u1_o]; exact l8) hD (fun k q1 q2 => by
    simp (disch := omega) only [u1_o]
    obtain ⟨x1, x2, x3, x4⟩ := hde k q1 q2
    have y := gk k q1 q2
    have z := h14 k q1 (by omega)
    refine ⟨z.1, by omega, by omega, by omega, by omega, fun z3 => ?_⟩
    have := x4 (by omega)
    omega)
  simp (disch := omega) only [u1_o] at f3 f4 f5
  obtain ⟨om2, E, f6, f7, f8, f9, f10, f11⟩ := m_close3 (F := u1 F 35 0) (A := u1 (u1 (u1 A 26 act2) 28 isA2) 27 tf2) (J := J) (n := n) (q := q) (K := K) (D := f 66 0) (om := F 43) (P := P) hn (by simp (disch := omega) only [u1_o]; exact l7) hq (by simp (disch := omega) only [u1_o]; exact b4) (by simp (disch := omega) only [u1_o]; exact l8) hD (by simp (disch := omega) only [u1_o]) (by omega) (by omega) gpo.2.1 (by simp (disch := omega) only [u1_o]; exact p6) (fun i i1 i2 => by simp (disch := omega) only [u1_o]; have := p7 i i1 i2; omega)
  simp (disch := omega) only [u1_o] at f6 f9 f10 f11
  have Y1 : g_X11_outside n 0 (ms F A J) = some (qz 0, ms (u1 (u1 (u1 F 35 0) 43 om2) 33 (f 66 0 - 1)) (u1 (u1 (u1 (u1 A 26 act2) 28 isA2) 27 tf2) 24 E) J) := by
    rw [Y0]
    unfold g_X11_closeBlock g_X11_closeBlock_0 g_X11_closeBlock_209
    simp only [qz_lit]
    rw [f1, bd_some, f3, bd_some, f6, bd_some]
    simp (disch := omega) only [gf_ms, wf_ms, bd_some, u1_o, l8, qz_sub]
  have hf : ∀ i, b ≤ i → i < b + 32 → u2 (u2 (u2 (u2 f 66 12 pk) 66 0 (f 66 0 - 1)) 66 9 (a 68 (f 66 0 - 1))) 66 4 (a 67 (f 66 0 - 1)) i = f i := fun i i1 i2 => by simp (disch := omega) only [u2_b]
  have ha : ∀ i, b ≤ i → i < b + 32 → i ≠ b + 10 → u1 (u1 (u1 (u1 (u1 (u1 a 74 pr2) 75 pd2) (b + 10) un2) 71 fl2) 72 nd2) 70 ac2 i = a i := fun i i1 i2 i3 => by simp (disch := omega) only [u1_o]
  have hA2 : ∀ k, 0 ≤ k → k < 200 → (k < K ∧ A 28 k = 1 ∧ a (b + 9) k = f 66 0 → isA2 k = 0) ∧ (¬(k < K ∧ A 28 k = 1 ∧ a (b + 9) k = f 66 0) → isA2 k = A 28 k) := by
    intro k q1 q2
    refine ⟨fun z => (f4 k).1 ⟨q1, z.1, z.2.1, by rw [(hde k q1 z.1).1]; exact z.2.2⟩, fun z => (f4 k).2 (fun y => z ⟨y.2.1, y.2.2.1, by rw [← (hde k q1 y.2.1).1]; exact y.2.2.2⟩)⟩
  have gpoE : Gpo q P S (A 21) (A 22) (A 23) E (a (b + 7)) := by
    refine ⟨gpo.1, gpo.2.1, fun p p1 p2 => ?_⟩
    have y := gpo.2.2 p p1 p2
    have z : E (10240 * q + p) = K ∨ E (10240 * q + p) = A 24 (10240 * q + p) := by
      by_cases e : mem (A 29) om2 (F 43) (10240 * q + p)
      · exact Or.inl ((f11 _).1 e)
      · exact Or.inr ((f11 _).2 e)
    omega
  have hun : Gun q K un2 (a (b + 8)) (J 19) := by
    intro k q1 q2 h x1 x2 x3
    have g := gun k q1 q2 h x1 x2 x3
    by_cases e : mem (a 73) (a 68 (f 66 0 - 1)) (f 66 9) h
    · rw [(eh1 h).1 e]
      have z := ((gh1_mem r2 (by omega) hK.2 x1 (by omega)).mp e).1
      have y := r3 h x1 (by omega) x3
      rw [g.1]
      omega
    · rw [(eh1 h).2 e]; exact g
  have hsym : ∀ k, 0 ≤ k → k < K → a (b + 8) k = 0 → 0 ≤ a (b + 11 + 1) (a (b + 11 + 2) k + 1) ∧ a (b + 11 + 1) (a (b + 11 + 2) k + 1) < 300 := fun k q1 q2 q3 => by
    have := (hde k q1 q2).2.2.2 q3
    omega
  obtain ⟨G3, G3'⟩ := gh3_close (fl2 := fl2) (tf2 := tf2) (isA2 := isA2) (act2 := act2) r2 r4 (by omega) hK.2 hsym hA2 eh2 (fun x => by
      have e : (∃ k, 0 ≤ k ∧ k < K ∧ A 28 k = 1 ∧ a (b + 9) k = f 66 0 ∧ a (b + 8) k = 0 ∧ a (b + 11 + 1) (a (b + 11 + 2) k + 1) = x) ↔ (∃ k, 0 ≤ k ∧ k < K ∧ A 28 k = 1 ∧ A 10 (200 * q + k) = f 66 0 ∧ A 7 (200 * q + k) = 0 ∧ A 16 (4096 * q + A 11 (200 * q + k) + 1) = x) := by
        constructor
        · rintro ⟨k, q1, q2, q3, q4, q5, q6⟩
          obtain ⟨x1, x2, x3, x4⟩ := hde k q1 q2
          exact ⟨k, q1, q2, q3, by omega, by omega, by rw [(x4 q5).1]; exact q6⟩
        · rintro ⟨k, q1, q2, q3, q4, q5, q6⟩
          obtain ⟨x1, x2, x3, x4⟩ := hde k q1 q2
          exact ⟨k, q1, q2, q3, by omega, by omega, by rw [← (x4 (by omega)).1]; exact q6⟩
      rw [e]; exact f5 x) (fun x x1 x2 x3 => (f2 x).2 (fun y => x3 y.2.2))
  refine out_good X1 Y1 (by simp (disch := omega) only [u2_b]; omega) (by simp (disch := omega) only [u2_b]; omega) ⟨bk_c G (P2 := P) ⟨hf b (by omega) (by omega), fun r hr => ha _ (by omega) (by omega) (by omega), fun r hr => ⟨ha _ (by omega) (by omega) (by omega), fun i _ _ => by rw [ha _ (by omega) (by omega) (by omega)]⟩, rfl, by simp (disch := omega) only [u1_o], by simp (disch := omega) only [u1_o], fun i i1 i2 x _ _ => by simp (disch := omega) only [u1_o], fun i i1 i2 x _ _ => by simp (disch := omega) only [u1_o], fun s _ _ => by simp (disch := omega) only [u1_o], fun i i1 i2 s _ _ => by simp (disch := omega) only [u1_o], fun _ _ _ _ _ _ _ _ _ => Iff.rfl⟩ (by simp (disch := omega) only [u1_o, u1_s]; exact hun) (by simp (disch := omega) only [u1_o]; exact b5) (by simp (disch := omega) only [u1_o, u1_s]; exact gpoE) ?_ ?_, ?_, ?_, rc_m C hce hf ha (by simp (disch := omega) only [u1_o]) (by simp (disch := omega) only [u1_o]), ?_, ?_⟩ (by simp (disch := omega) only [u2_b]; exact t2) (by simp (disch := omega) only [u1_o]; exact t5)
  · intro k q1 q2 x y
    simp (disch := omega) only [u1_o, u1_s]
    unfold pa
    constructor
    · rintro ⟨p, z1, z2, z3, z4, z5, z6⟩
      refine ⟨p, z1, z2, z3, z4, z5, ?_⟩
      by_cases e : mem (A 29) om2 (F 43) (10240 * q + p)
      · obtain ⟨i, i1, i2, i3⟩ := e
        have := (p7 i (by omega) i2).2.2.2.2
        rw [i3] at this; omega
      · rw [(f11 _).2 e] at z6; exact z6
    · rintro ⟨p, z1, z2, z3, z4, z5, z6⟩
      refine ⟨p, z1, z2, z3, z4, z5, ?_⟩
      by_cases e : mem (A 29) om2 (F 43) (10240 * q + p)
      · rw [(f11 _).1 e]; exact q2
      · rw [(f11 _).2 e]; exact z6
  · unfold Grw at *
    rw [hf (b + 11) (by omega) (by omega), hf (b + 14) (by omega) (by omega), hf (b + 17) (by omega) (by omega), hf (b + 20) (by omega) (by omega), hf (b + 23) (by omega) (by omega), hf (b + 26) (by omega) (by omega), ha (b + 11 + 2) (by omega) (by omega) (by omega), ha (b + 14 + 2) (by omega) (by omega) (by omega), ha (b + 17 + 2) (by omega) (by omega) (by omega), ha (b + 20 + 2) (by omega) (by omega) (by omega), ha (b + 23 + 2) (by omega) (by omega) (by omega), ha (b + 26 + 2) (by omega) (by omega) (by omega)]
    exact grw
  · unfold Rl
    simp (disch := omega) only [u1_o, u1_s, u2_a, u2_b, u2_c]
    exact ⟨l1, l2, l3, l4, l5, l6, l7, trivial, l9, l10, by omega, t8, Or.inr t12⟩
  · unfold Rs
    simp (disch := omega) only [u1_o, u1_s, u2_a, u2_c]
    refine ⟨gv_close r1 (by omega) (fun x _ _ => ev1 x) (fun x x1 x2 => ⟨fun z => ?_, fun z => (f2 x).2 (fun y => z y.2.2)⟩), gh1_close r2 (by omega) hK.2 hA2, fun h x1 x2 x3 => ?_, G3, fun e e1 e2 e3 e4 i i1 i2 i3 => ?_, fun x x1 x2 => ?_, gp_close r7 f7 f8 f9 f10 pk1 pk3 pk4 f11⟩
    · have := v4 x x1 x2
      exact (f2 x).1 ⟨x1, (this.2.2.2.2 (by omega)).1, z⟩
    · have y := r3 h x1 x2 x3
      have y2 := gh1_mem r2 (by omega) hK.2 x1 x2
      by_cases e : mem (a 73) (a 68 (f 66 0 - 1)) (f 66 9) h
      · rw [(eh1 h).1 e, (hA2 h x1 (by omega)).1 ⟨x2, y2.mp e⟩]
        exact Or.inr ⟨rfl, by omega, Int.le_refl _⟩
      · rw [(eh1 h).2 e, (hA2 h x1 (by omega)).2 (fun z => e (y2.mpr z.2))]
        exact y
    · have n1 : ¬(e < K ∧ A 28 e = 1 ∧ a (b + 9) e = f 66 0) := by
        intro z
        rw [(hA2 e e1 (by omega)).1 z] at e3; omega
      rw [(hA2 e e1 (by omega)).2 n1] at e3
      obtain ⟨y1, y2, y3⟩ := r5 e e1 e2 e3 e4 i i1 i2 i3
      have y4 := gf e e1 e2
      have y5 := y4.2.2.2.2.1 i i1 i2
      obtain ⟨_, i', z1, z2, z3⟩ := (h14 e e1 (by omega)).2 e3
      have z4 := (h12 i' z1 z2).2.2.2.2.1
      rw [z3] at z4
      have z5 : a (b + 9) e ≠ f 66 0 := fun z => n1 ⟨e2, e3, z⟩
      rw [G3' _ y5.2.1 (by omega) y1 (by omega)]
      exact ⟨y1, y2, y3⟩
    · rw [eh3 x]
      have e5 : ∀ l, 0 ≤ l → l ≤ f 66 9 → nsum (fun i => if a (b + 8) (a 73 i) = 1 then cn (fun y => a (b + 11 + 1) (a (b + 11 + 2) (a 73 i) + y) = x) (a (b + 11 + 2) (a 73 i + 1) - a (b + 11 + 2) (a 73 i)).toNat else 0) l.toNat = ndv q (a (b + 11 + 1)) (a (b + 11 + 2)) (A 12) (a (b + 8)) (a 73) l x := by
        intro l q1 q2
        unfold ndv oc
        apply nsum_congr
        intro i i1 i2
        obtain ⟨x1, x2, _⟩ := h12 i i1 (by omega)
        have y := (gf (a 73 i) (by omega) x2).2.1
        rw [show a (b + 11 + 2) (a 73 i + 1) - a (b + 11 + 2) (a 73 i) = A 12 (200 * q + a 73 i) by omega]
      rw [e5 _ h11 (Int.le_refl _), e5 _ oh1 oh2, r6 x x1 x2]
      omega
  · refine Or.inl ?_
    simp (disch := omega) only [u1_o, u1_s, u2_a, u2_b, u2_c]
    refine ⟨m1, m2, m3, m4, ?_⟩
    unfold PB at *
    omega
  · refine fr_A (fr_A (fr_A (fr_A (fr_F (fr_F (fr_F (fr_a (fr_a (fr_a (fr_a (fr_a (fr_a (fr_f (fr_f (fr_f (fr_f Fr (by omega)) (by omega)) (by omega)) (by omega)) (by omega)) (by omega)) (by omega)) (by omega)) (by omega)) (by omega)) (by omega)) (by omega)) (by omega)) (by omega) (fun z => absurd rfl z)) (by omega) (fun z => absurd rfl z)) (by omega) (fun z => absurd rfl z)) (by omega) (fun _ x hx => ?_)
    rw [show hlf 24 = 10240 from rfl] at hx
    simp (disch := omega) only [u1_o]
    refine (f11 x).2 (fun ⟨i, i1, i2, i3⟩ => ?_)
    have := p7 i (by omega) i2
    have := gpo.2.1
    omega
end SCL
