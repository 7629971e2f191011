/-! The labels of a proof told in letters: the class -/
section NLB
variable {n b s : Nat} {q S K P len c k : Int} {sz lab : Int → Int} {row : Int → Int → Int} {WO : Int → List Int} {f : Nat → Nat → Int} {d : Nat → Nat} {a : Nat → Int → Int} {ni : Nat → Nat} {j : Nat → Int → Int64} {A : Nat → Int → Int} {J : Nat → Int → Int64}
theorem c_numLab (hn : 100000 ≤ n) (hs : s = 117 ∨ s = 119) (hb : bks b) (hd9 : d 9 = b) (hd10 : d 10 = 78) (G : BK b q S K P len f a ni j A J) (hR : Rbk b q len a A) (h0 : 0 ≤ k) (h1 : k < K) (f0 : f 78 0 = k) (H : TSt c sz row lab f a ni) (fc : f 103 2 = c) (c0 : 0 ≤ c) (c1 : c ≤ 1000) (N : NT c K sz row lab WO) (hS : SC s [] f a) : ∃ (f2 : Nat → Nat → Int) (a2 : Nat → Int → Int) (ln0 : Int → Int), g_X9_numberLabels n 103 s (cs f d a ni j) = some (cs f2 d a2 ni j) ∧ OWN b k a ln0 ∧ a2 114 = (lst (nlx q (A 2) (A 8) (A 9)) lab (ln0, a (b + 20 + 2) (k + 1) - a (b + 20 + 2) k, [40, 32]) c.toNat).1 ∧ f2 103 15 = (lst (nlx q (A 2) (A 8) (A 9)) lab (ln0, a (b + 20 + 2) (k + 1) - a (b + 20 + 2) k, [40, 32]) c.toNat).2.1 ∧ SC s ((lst (nlx q (A 2) (A 8) (A 9)) lab (ln0, a (b + 20 + 2) (k + 1) - a (b + 20 + 2) k, [40, 32]) c.toNat).2.2 ++ [41] ++ [32]) f2 a2 ∧ (∀ x, x ≠ 103 → x ≠ s → f2 x = f x) ∧ (∀ x, x ≠ 15 → f2 103 x = f 103 x) ∧ ∀ x, x ≠ 114 → x ≠ s + 1 → a2 x = a x := by
  have hbb : b = 1 ∨ b = 33 := hb
  have hK : K ≤ 200 := G.2.1.2.2.2.1
  obtain ⟨e1, e2, e3, e4⟩ := bk_h G h0 h1
  obtain ⟨ow0, ow1⟩ := own_le G h0 h1
  have hrw20 := G.2.2.2.2.2.2.2.2.2.2.2.2.2.2.2.2.1
  have hf20 := G.2.2.2.2.2.2.2.2.2.2.2.2.2.2.2.2.2.2.2.2.2.2.1
  generalize how : a (b + 20 + 2) (k + 1) - a (b + 20 + 2) k = own at *
  have cnl : (nC ni 114 : Int) = 200 := rfl
  -- the own hypotheses
  have lp1 := lp_inv (b := gL_X9_numberLabels_33 n 103 s (qz own)) (fun i st => ∃ g : Int → Int, st = (qz i, cs (u2 f 103 15 i) d (u1 a 114 g) ni j) ∧ (∀ r, 0 ≤ r → r < i → g (a (b + 20 + 1) (a (b + 20 + 2) k + r)) = r + 1) ∧ ∀ x, 0 ≤ x → x < 200 → (∀ r, 0 ≤ r → r < i → a (b + 20 + 1) (a (b + 20 + 2) k + r) ≠ x) → g x = 0) (Q := fun st => ∃ g : Int → Int, st = cs (u2 f 103 15 own) d (u1 a 114 g) ni j ∧ OWN b k a g) own (n := n) (i0 := 0) ow0 (by omega) (c0 := (qz 0, cs (u2 f 103 15 0) d (u1 a 114 (fl (a 114) 200 0)) ni j)) ⟨_, rfl, fun r r0 r1 => by omega, fun x x0 x1 _ => fl_in x0 x1⟩ ?_ ?_
  rotate_left
  · rintro i st i0 i1 ⟨g, rfl, g1, g2⟩
    have hmem : mem (a (b + 20 + 1)) (a (b + 20 + 2) k) (a (b + 20 + 2) (k + 1)) (a (b + 20 + 1) (a (b + 20 + 2) k + i)) := ⟨a (b + 20 + 2) k + i, by omega, by omega, rfl⟩
    obtain ⟨m1, m2, _⟩ := e4 _ hmem
    refine ⟨_, ?_, v1 g (a (b + 20 + 1) (a (b + 20 + 2) k + i)) (i + 1), rfl, fun r r0 r1 => ?_, fun x x0 x1 hx => ?_⟩
    · have eg := c_get (f := u2 f 103 15 (i + 1)) (d := d) (a := u1 a 114 g) (ni := ni) (j := j) (n := n) (v := b + 20) (k := k) (i := i) (rws_b20 hb) (by rw [u2_b (by omega), u1_o (by omega)]; exact hrw20) h0 (by rw [u2_b (by omega)]; omega) i0 (by rw [u1_o (by omega)]; omega)
      rw [u1_o (by omega), u1_o (by omega)] at eg
      unfold gL_X9_numberLabels_33 g_X9_numberLabels_33
      simp only [zl1]
      rw [if_neg (by rw [qz_le (by omega) (by omega) (by omega) (by omega)]; omega), gf_cs, u2_a, qz_add, wf_cs, u2_d, bd_some, gpc_103_0, hd9, gpb_12 hb, gpc_103_1, hd10, gf_cs, u2_b (by decide), f0, eg, bd_some, gpc_103_13, gf_cs, u2_a, uac_114 m1 (by omega), bd_some, v2_u1, u1_s, u1_1]
    · by_cases e : r = i
      · rw [e, v1_s]
      · have := e1 (a (b + 20 + 2) k + r) (a (b + 20 + 2) k + i) (by omega) (by omega) (by omega)
        rw [v1_o (by omega)]
        exact g1 r r0 (by omega)
    · have := hx i i0 (by omega)
      rw [v1_o (fun z => this z.symm)]
      exact g2 x x0 x1 (fun r r0 r1 => hx r r0 (by omega))
  · rintro st ⟨g, rfl, g1, g2⟩
    refine ⟨_, ?_, g, rfl, fun i i0 i1 => g1 i i0 (by omega), fun x x0 x1 hx => g2 x x0 x1 (fun r r0 r1 e => hx ⟨a (b + 20 + 2) k + r, by omega, by omega, e⟩)⟩
    unfold gL_X9_numberLabels_33 g_X9_numberLabels_33
    rw [if_pos (by rw [qz_le (by omega) (by omega) (by omega) (by omega)]; omega)]
  obtain ⟨st1, es1, ln0, rfl, O⟩ := lp1
  have hS1 : SC s [] (u2 f 103 15 own) (u1 a 114 ln0) := by
    unfold SC at hS ⊢
    rw [u2_b (by omega), u1_o (by omega)]
    exact hS
  obtain ⟨f3, a3, w1, w2, w3, w4⟩ := c_put2 (n := n) (d := d) (ni := ni) (j := j) (v := 40) hs (by omega) (by omega) hS1
  obtain ⟨f4, a4, y1, y2, y3, y4⟩ := c_put2 (n := n) (d := d) (ni := ni) (j := j) (v := 32) hs (by omega) (by omega) w2
  have b4 : ∀ x, x ≠ 103 → x ≠ s → f4 x = f x := fun x x1 x2 => by rw [y3 x x2, w3 x x2, u2_b x1]
  have b5 : ∀ x, x ≠ 15 → f4 103 x = f 103 x := fun x x1 => by rw [y3 103 (by omega), w3 103 (by omega), u2_c x1]
  have b6 : f4 103 15 = own := by rw [y3 103 (by omega), w3 103 (by omega), u2_a]
  have b7 : ∀ x, x ≠ 114 → x ≠ s + 1 → a4 x = a x := fun x x1 x2 => by rw [y4 x x2, w4 x x2, u1_o x1]
  have b8 : a4 114 = ln0 := by rw [y4 114 (by omega), w4 114 (by omega), u1_s]
  have hlr : ∀ y, 0 ≤ y → y < c → 0 ≤ lab y ∧ lab y < 200 ∧ ((nlx q (A 2) (A 8) (A 9) (lab y)).length : Int) ≤ 8192 := fun y y0 y1 => by
    obtain ⟨_, _, n3, n4, _⟩ := N y y0 y1
    exact ⟨n3, by omega, (nlx_l G n3 n4).2⟩
  have hor := own_r G h0 h1 O
  rw [how] at hor
  generalize hst0 : (ln0, own, ([40, 32] : List Int)) = st0
  have lp2 := lp_inv (b := gL_X9_numberLabels_95 n 103 s) (fun y st => ∃ (f5 : Nat → Nat → Int) (a5 : Nat → Int → Int), st = (qz y, cs f5 d a5 ni j) ∧ a5 114 = (lst (nlx q (A 2) (A 8) (A 9)) lab st0 y.toNat).1 ∧ f5 103 15 = (lst (nlx q (A 2) (A 8) (A 9)) lab st0 y.toNat).2.1 ∧ SC s (lst (nlx q (A 2) (A 8) (A 9)) lab st0 y.toNat).2.2 f5 a5 ∧ (∀ x, x ≠ 103 → x ≠ s → f5 x = f x) ∧ (∀ x, x ≠ 15 → f5 103 x = f 103 x) ∧ ∀ x, x ≠ 114 → x ≠ s + 1 → a5 x = a x) (Q := fun st => ∃ (f5 : Nat → Nat → Int) (a5 : Nat → Int → Int), st = cs f5 d a5 ni j ∧ a5 114 = (lst (nlx q (A 2) (A 8) (A 9)) lab st0 c.toNat).1 ∧ f5 103 15 = (lst (nlx q (A 2) (A 8) (A 9)) lab st0 c.toNat).2.1 ∧ SC s (lst (nlx q (A 2) (A 8) (A 9)) lab st0 c.toNat).2.2 f5 a5 ∧ (∀ x, x ≠ 103 → x ≠ s → f5 x = f x) ∧ (∀ x, x ≠ 15 → f5 103 x = f 103 x) ∧ ∀ x, x ≠ 114 → x ≠ s + 1 → a5 x = a x) c (n := n) (i0 := 0) c0 (by omega) (c0 := (qz 0, cs f4 d a4 ni j)) ⟨f4, a4, rfl, by rw [b8, ← hst0]; rfl, by rw [b6, ← hst0]; rfl, by rw [← hst0]; exact y2, b4, b5, b7⟩ ?_ ?_
  · obtain ⟨st2, es2, f5, a5, rfl, k1, k2, k3, k4, k5, k6⟩ := lp2
    obtain ⟨f6, a6, u1', u2', u3', u4'⟩ := c_put2 (n := n) (d := d) (ni := ni) (j := j) (v := 41) hs (by omega) (by omega) k3
    obtain ⟨f7, a7, v1', v2', v3', v4'⟩ := c_put2 (n := n) (d := d) (ni := ni) (j := j) (v := 32) hs (by omega) (by omega) u2'
    refine ⟨f7, a7, ln0, ?_, O, ?_, ?_, ?_, fun x x1 x2 => by rw [v3' x x2, u3' x x2]; exact k4 x x1 x2, fun x x1 => by rw [v3' 103 (by omega), u3' 103 (by omega)]; exact k5 x x1, fun x x1 x2 => by rw [v4' x x2, u4' x x2]; exact k6 x x1 x2⟩
    · have es := c_size (f := u2 f 103 15 0) (d := d) (a := u1 a 114 (fl (a 114) 200 0)) (ni := ni) (j := j) (n := n) (v := b + 20) (k := k) (rws_b20 hb) (by rw [u2_b (by omega), u1_o (by omega)]; exact hrw20) h0 (by rw [u2_b (by omega)]; omega)
      rw [u1_o (by omega), how] at es
      unfold g_X9_numberLabels g_X9_numberLabels_0
      simp only [zl0, zl32, zl40, zl41]
      rw [gpc_103_13, c_fillI (N := 200) cnl (by omega) (by omega), bd_some, wf_cs, bd_some, gpc_103_0, hd9, gpb_12 hb, gpc_103_1, hd10, gf_cs, u2_b (by decide), f0, es, bd_some, es1, bd_some, w1, bd_some, y1, bd_some, es2, bd_some, u1', bd_some, v1', bd_some]
    · rw [v4' 114 (by omega), u4' 114 (by omega), hst0]; exact k1
    · rw [v3' 103 (by omega), u3' 103 (by omega), hst0]; exact k2
    · rw [hst0]; exact v2'
  · rintro y st y0 y1' ⟨f5, a5, rfl, k1, k2, k3, k4, k5, k6⟩
    obtain ⟨n1, n2, n3, n4, n5, n6⟩ := N y y0 y1'
    obtain ⟨H1, H2, H3⟩ := H
    obtain ⟨q1, _⟩ := H3 y y0 y1'
    have eyn : (y + 1).toNat = y.toNat + 1 := by omega
    have eyi : ((y.toNat : Nat) : Int) = y := by omega
    have hp := lst_p (nl := nlx q (A 2) (A 8) (A 9)) (L0 := [40, 32]) hor ow0 hlr y.toNat (by omega)
    rw [hst0] at hp
    obtain ⟨p1, p2, p3, p4, p5⟩ := hp
    have els : lst (nlx q (A 2) (A 8) (A 9)) lab st0 (y + 1).toNat = lstep (nlx q (A 2) (A 8) (A 9)) (lst (nlx q (A 2) (A 8) (A 9)) lab st0 y.toNat) (lab y) := by
      rw [eyn]
      show lstep _ (lst _ lab st0 y.toNat) (lab ((y.toNat : Nat) : Int)) = _
      rw [eyi]
    rw [els]
    generalize hst : lst (nlx q (A 2) (A 8) (A 9)) lab st0 y.toNat = st at *
    have p3' := p3 (lab y) n3 (by omega)
    have a104 : a5 104 y = lab y := by rw [k6 104 (by omega) (by omega)]; exact q1
    have f2c : f5 103 2 = c := by rw [k5 2 (by omega)]; exact fc
    unfold lstep
    by_cases e : st.1 (lab y) = 0
    · rw [if_pos e]
      generalize ha6 : u1 a5 114 (v1 (a5 114) (lab y) (st.2.1 + 1)) = a6
      have G6 : BK b q S K P len (u2 f5 103 15 (st.2.1 + 1)) a6 ni j A J := bk_eq G (fun x x1 x2 => by rw [u2_b (by omega)]; exact k4 x (by omega) (by omega)) (fun x x1 x2 => by rw [← ha6, u1_o (by omega)]; exact k6 x (by omega) (by omega)) (fun _ _ _ => rfl) rfl (fun _ _ _ => rfl) ⟨rfl, rfl⟩
      have R6 : Rbk b q len a6 A := by
        unfold Rbk at hR ⊢
        rw [← ha6, u1_o (by omega), k6 _ (by omega) (by omega)]
        exact hR
      have S6 : SC s st.2.2 (u2 f5 103 15 (st.2.1 + 1)) a6 := by
        unfold SC at k3 ⊢
        rw [u2_b (by omega), ← ha6, u1_o (by omega)]
        exact k3
      obtain ⟨f7, a7, u1', u2', u3', u4'⟩ := c_name2 (n := n) (d := d) hn hs hb G6 R6 n3 n4 S6
      obtain ⟨f8, a8, v1', v2', v3', v4'⟩ := c_put2 (n := n) (d := d) (ni := ni) (j := j) (v := 32) hs (by omega) (by omega) u2'
      refine ⟨_, ?_, f8, a8, rfl, ?_, ?_, v2', fun x x1 x2 => ?_, fun x x1 => ?_, fun x x1 x2 => ?_⟩
      · unfold gL_X9_numberLabels_95 g_X9_numberLabels_95 g_X9_numberLabels_169
        simp only [zl0, zl1, zl32, zl300]
        rw [gf_cs, f2c, if_neg (by rw [qz_le (by omega) (by omega) (by omega) (by omega)]; omega), gpc_103_4, gac_104 y0 (by omega), a104, bd_some, gpc_103_13, gac_114 n3 (by omega), k1, e, bd_some, if_pos rfl, gf_cs, k2, qz_add, wf_cs, bd_some, gpc_103_4, gac_104 y0 (by omega), a104, bd_some, gpc_103_13, gf_cs, u2_a, uac_114 n3 (by omega), bd_some, gpc_103_4, gac_104 y0 (by omega), v2_o (by decide), a104, bd_some, gpc_103_0, hd9, gpb_0 hb, qz_add, v2_u1, ha6, u1', bd_some, v1', bd_some, qz_add]
      · rw [v4' 114 (by omega), u4' 114 (by omega), ← ha6, u1_s, k1]
      · rw [v3' 103 (by omega), u3' 103 (by omega), u2_a]
      · rw [v3' x x2, u3' x x2, u2_b x1]; exact k4 x x1 x2
      · rw [v3' 103 (by omega), u3' 103 (by omega), u2_c x1]; exact k5 x x1
      · rw [v4' x x2, u4' x x2, ← ha6, u1_o x1]; exact k6 x x1 x2
    · rw [if_neg e]
      refine ⟨_, ?_, f5, a5, rfl, k1, k2, k3, k4, k5, k6⟩
      unfold gL_X9_numberLabels_95 g_X9_numberLabels_95 g_X9_numberLabels_169
      simp only [zl0, zl1]
      rw [gf_cs, f2c, if_neg (by rw [qz_le (by omega) (by omega) (by omega) (by omega)]; omega), gpc_103_4, gac_104 y0 (by omega), a104, bd_some, gpc_103_13, gac_114 n3 (by omega), k1, bd_some, if_neg (by rw [qz_inj (by omega) (by omega) (by omega) (by omega)]; exact e), qz_add]
  · rintro st ⟨f5, a5, rfl, k1, k2, k3, k4, k5, k6⟩
    refine ⟨_, ?_, f5, a5, rfl, k1, k2, k3, k4, k5, k6⟩
    unfold gL_X9_numberLabels_95 g_X9_numberLabels_95
    rw [gf_cs, k5 2 (by omega), fc, if_pos (by rw [qz_le (by omega) (by omega) (by omega) (by omega)]; omega)]
end NLB
