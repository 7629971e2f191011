/-! The list of a compressed proof -/
/-- the x-th that the numbers of a compressed proof name, but for marks -/
def gls (q k hs : Int) (hr : Int → Int) (A13 nm : Int → Int) (x : Int) : Int := if x < hs then hr x else nmr q k A13 nm (x - hs + 1)
/-- token i may not stand in the list -/
def lbad (q k hs : Int) (hr : Int → Int) (A13 nm ki un : Int → Int) (i : Int) : Prop := ¬may k ki un (nmr q k A13 nm i) ∨ ∃ x, 0 ≤ x ∧ x < hs + (i - 1) ∧ gls q k hs hr A13 nm x = nmr q k A13 nm i
theorem inj_li {g : Int → Int} {N k : Int} (hk : 0 ≤ k) (h1 : ∀ x, 0 ≤ x → x < N → 0 ≤ g x ∧ g x < k) (h2 : ∀ x y, 0 ≤ x → x < y → y < N → g x ≠ g y) : N ≤ k := by
  have key : ∀ m : Nat, (m : Int) ≤ N → cn (fun y => ∃ x, 0 ≤ x ∧ x < (m : Int) ∧ g x = y) k.toNat = m := by
    intro m
    induction m with
    | zero =>
      intro _
      have e : ∀ n : Nat, cn (fun y => ∃ x, 0 ≤ x ∧ x < ((0 : Nat) : Int) ∧ g x = y) n = 0 := by
        intro n
        induction n with
        | zero => rfl
        | succ n ih =>
          have e : cn (fun y => ∃ x, 0 ≤ x ∧ x < ((0 : Nat) : Int) ∧ g x = y) (n + 1) = cn (fun y => ∃ x, 0 ≤ x ∧ x < ((0 : Nat) : Int) ∧ g x = y) n + @ite _ (∃ x, 0 ≤ x ∧ x < ((0 : Nat) : Int) ∧ g x = ((n : Nat) : Int)) (Classical.propDecidable _) 1 0 := rfl
          rw [e, ih, if_neg (fun ⟨x, x0, x1, _⟩ => by omega)]
          rfl
      exact e _
    | succ m ih =>
      intro hm
      have g1 := h1 m (by omega) (by omega)
      rw [cn_add (p := fun y => ∃ x, 0 ≤ x ∧ x < (m : Int) ∧ g x = y) (x := g m) g1.1 (by omega) (fun ⟨x, x0, x1, x2⟩ => h2 x m x0 x1 (by omega) x2) (fun y y0 y1 => ?_), ih (by omega)]
      · omega
      · constructor
        · rintro ⟨x, x0, x1, x2⟩
          by_cases e : x = m
          · right; rw [← x2, e]
          · exact Or.inl ⟨x, x0, by omega, x2⟩
        · rintro (⟨x, x0, x1, x2⟩ | z)
          · exact ⟨x, x0, by omega, x2⟩
          · exact ⟨m, by omega, by omega, z.symm⟩
  by_cases c : N ≤ 0
  · omega
  · have e := key N.toNat (by omega)
    have := (cn_le (fun y => ∃ x, 0 ≤ x ∧ x < ((N.toNat : Nat) : Int) ∧ g x = y) k.toNat).2
    omega
section LIS
variable {b n : Nat} {q S K P len k le x y i c r : Int} {f : Nat → Nat → Int} {d : Nat → Nat} {a : Nat → Int → Int} {ni : Nat → Nat} {j : Nat → Int → Int64} {F : Nat → Int} {A : Nat → Int → Int} {J : Nat → Int → Int64}
/-- what the list holds, as long as it is right -/
theorem gls_r (G : BK b q S K P len f a ni j A J) (h0 : 0 ≤ k) (h1 : k < K) {t : Int} (t0 : 1 ≤ t) (t1 : t ≤ A 14 (200 * q + k)) (hg : ∀ y, 1 ≤ y → y < t → ¬lbad q k (a (b + 20 + 2) (k + 1) - a (b + 20 + 2) k) (fun x => a (b + 20 + 1) (a (b + 20 + 2) k + x)) (A 13) (a (b + 17 + 1)) (a (b + 8)) (a (b + 10)) y) : 0 ≤ (a (b + 20 + 2) (k + 1) - a (b + 20 + 2) k) ∧ (a (b + 20 + 2) (k + 1) - a (b + 20 + 2) k) + (t - 1) ≤ k ∧ (∀ x, 0 ≤ x → x < (a (b + 20 + 2) (k + 1) - a (b + 20 + 2) k) + (t - 1) → 0 ≤ gls q k (a (b + 20 + 2) (k + 1) - a (b + 20 + 2) k) (fun x => a (b + 20 + 1) (a (b + 20 + 2) k + x)) (A 13) (a (b + 17 + 1)) x ∧ gls q k (a (b + 20 + 2) (k + 1) - a (b + 20 + 2) k) (fun x => a (b + 20 + 1) (a (b + 20 + 2) k + x)) (A 13) (a (b + 17 + 1)) x < k) := by
  obtain ⟨e1, e2, e3, e4⟩ := bk_h G h0 h1
  have hr : ∀ x, 0 ≤ x → x < (a (b + 20 + 2) (k + 1) - a (b + 20 + 2) k) + (t - 1) → 0 ≤ gls q k (a (b + 20 + 2) (k + 1) - a (b + 20 + 2) k) (fun x => a (b + 20 + 1) (a (b + 20 + 2) k + x)) (A 13) (a (b + 17 + 1)) x ∧ gls q k (a (b + 20 + 2) (k + 1) - a (b + 20 + 2) k) (fun x => a (b + 20 + 1) (a (b + 20 + 2) k + x)) (A 13) (a (b + 17 + 1)) x < k := by
    intro x x0 x1
    unfold gls
    by_cases c : x < (a (b + 20 + 2) (k + 1) - a (b + 20 + 2) k)
    · rw [if_pos c]
      have := e4 _ ⟨a (b + 20 + 2) k + x, by omega, by omega, rfl⟩
      exact ⟨this.1, this.2.1⟩
    · rw [if_neg c]
      have y1 := nmr_r G h0 h1 (i := x - (a (b + 20 + 2) (k + 1) - a (b + 20 + 2) k) + 1) (by omega) (by omega)
      have y2 := hg (x - (a (b + 20 + 2) (k + 1) - a (b + 20 + 2) k) + 1) (by omega) (by omega)
      refine ⟨?_, y1.2⟩
      apply Classical.byContradiction
      intro z
      exact y2 (Or.inl (fun w => z w.1))
  refine ⟨by omega, inj_li h0 hr (fun x y x0 xy y1 => ?_), hr⟩
  by_cases c : y < (a (b + 20 + 2) (k + 1) - a (b + 20 + 2) k)
  · unfold gls
    rw [if_pos c, if_pos (by omega)]
    have := e1 (a (b + 20 + 2) k + x) (a (b + 20 + 2) k + y) (by omega) (by omega) (by omega)
    show a (b + 20 + 1) (a (b + 20 + 2) k + x) ≠ a (b + 20 + 1) (a (b + 20 + 2) k + y)
    omega
  · intro z
    refine hg (y - (a (b + 20 + 2) (k + 1) - a (b + 20 + 2) k) + 1) (by omega) (by omega) (Or.inr ⟨x, x0, by omega, ?_⟩)
    rw [z]
    unfold gls
    rw [if_neg c]
theorem c_know {N : Int} (h8 : f 78 8 = N) (n0 : 0 ≤ N) (n1 : N < 200) (r0 : 0 ≤ r) (r1 : r < 200) : g_X3_know n 78 (qz r) (cs f d a ni j) = some (cs (u2 f 78 8 (N + 1)) d (v2 (v2 a 81 N r) 82 r 1) ni j) := by
  unfold g_X3_know g_X3_know_0
  simp only [zl1]
  rw [gpc_78_7, gf_cs, h8, uac_81 n0 n1, bd_some, gf_cs, h8, qz_add, wf_cs, bd_some, gpc_78_9, uac_82 r0 r1 (by omega) (by omega), bd_some]
/-- the class knows the first N of the list -/
def KN (N : Int) (gl : Int → Int) (f : Nat → Nat → Int) (a : Nat → Int → Int) : Prop := f 78 8 = N ∧ (∀ x, 0 ≤ x → x < N → a 81 x = gl x) ∧ ∀ y, 0 ≤ y → y < 200 → (a 82 y = 0 ∨ a 82 y = 1) ∧ (a 82 y = 1 ↔ ∃ x, 0 ≤ x ∧ x < N ∧ gl x = y)
theorem kn_s {N : Int} {gl : Int → Int} (H : KN N gl f a) (n0 : 0 ≤ N) (hr : gl N = r) : KN (N + 1) gl (u2 f 78 8 (N + 1)) (v2 (v2 a 81 N r) 82 r 1) := by
  obtain ⟨h1, h2, h3⟩ := H
  refine ⟨by rw [u2_a], fun x x0 x1 => ?_, fun y y0 y1 => ?_⟩
  · rw [v2_o (by decide), v2_s]
    by_cases e : x = N
    · rw [e, v1_s, hr]
    · rw [v1_o e]; exact h2 x x0 (by omega)
  · rw [v2_s, v2_o (by decide)]
    by_cases e : y = r
    · rw [e, v1_s]
      exact ⟨Or.inr rfl, fun _ => ⟨N, n0, by omega, hr⟩, fun _ => rfl⟩
    · rw [v1_o e]
      refine ⟨(h3 y y0 y1).1, ?_⟩
      rw [(h3 y y0 y1).2]
      constructor
      · rintro ⟨x, x0, x1, x2⟩
        exact ⟨x, x0, by omega, x2⟩
      · rintro ⟨x, x0, x1, x2⟩
        by_cases z : x = N
        · rw [z, hr] at x2; exact absurd x2.symm e
        · exact ⟨x, x0, by omega, x2⟩
theorem c_knowHyp (hn : 100000 ≤ n) (hb : bks b) (hd : d 6 = b) (h78 : f 78 0 = k) (G : BK b q S K P len f a ni j A J) (h0 : 0 ≤ k) (h1 : k < K) : ∃ f2 a2, g_X3_knowHypotheses n 78 (cs f d a ni j) = some (cs f2 d a2 ni j) ∧ DC f a f2 a2 ∧ (∀ x, x ≠ 8 → f2 78 x = f 78 x) ∧ a2 79 = a 79 ∧ a2 80 = a 80 ∧ KN (a (b + 20 + 2) (k + 1) - a (b + 20 + 2) k) (gls q k (a (b + 20 + 2) (k + 1) - a (b + 20 + 2) k) (fun x => a (b + 20 + 1) (a (b + 20 + 2) k + x)) (A 13) (a (b + 17 + 1))) f2 a2 := by
  have hbb : b = 1 ∨ b = 33 := hb
  have hK : K ≤ 200 := G.2.1.2.2.2.1
  obtain ⟨e1, e2, e3, e4⟩ := bk_h G h0 h1
  have hr : ∀ x, 0 ≤ x → x < (a (b + 20 + 2) (k + 1) - a (b + 20 + 2) k) → 0 ≤ a (b + 20 + 1) (a (b + 20 + 2) k + x) ∧ a (b + 20 + 1) (a (b + 20 + 2) k + x) < k := fun x x0 x1 => by
    have := e4 _ ⟨a (b + 20 + 2) k + x, by omega, by omega, rfl⟩
    exact ⟨this.1, this.2.1⟩
  have hsk : (a (b + 20 + 2) (k + 1) - a (b + 20 + 2) k) ≤ k := inj_li h0 hr (fun x y x0 xy y1 => by
    have := e1 (a (b + 20 + 2) k + x) (a (b + 20 + 2) k + y) (by omega) (by omega) (by omega)
    try simp only
    omega)
  have ef := c_fillB (f := u2 f 78 8 0) (d := d) (a := a) (ni := ni) (j := j) (v := 82) (x := 0) (N := 200) (n := n) rfl (by omega) (by omega) (by omega) (by omega)
  have hD0 : DC f a (u2 f 78 8 0) (u1 a 82 (fl (a 82) 200 0)) := ⟨fun i hi => u2_b hi, by rw [u2_c (by decide)], fun i hi => u1_o (by omega)⟩
  have lp := lp_inv (b := gL_X3_knowHypotheses_30 n 78 (qz (a (b + 20 + 2) (k + 1) - a (b + 20 + 2) k))) (fun t c => ∃ f2 a2, c = (qz t, cs f2 d a2 ni j) ∧ DC f a f2 a2 ∧ (∀ x, x ≠ 8 → f2 78 x = f 78 x) ∧ a2 79 = a 79 ∧ a2 80 = a 80 ∧ KN t (gls q k (a (b + 20 + 2) (k + 1) - a (b + 20 + 2) k) (fun x => a (b + 20 + 1) (a (b + 20 + 2) k + x)) (A 13) (a (b + 17 + 1))) f2 a2) (Q := fun s => ∃ f2 a2, s = cs f2 d a2 ni j ∧ DC f a f2 a2 ∧ (∀ x, x ≠ 8 → f2 78 x = f 78 x) ∧ a2 79 = a 79 ∧ a2 80 = a 80 ∧ KN (a (b + 20 + 2) (k + 1) - a (b + 20 + 2) k) (gls q k (a (b + 20 + 2) (k + 1) - a (b + 20 + 2) k) (fun x => a (b + 20 + 1) (a (b + 20 + 2) k + x)) (A 13) (a (b + 17 + 1))) f2 a2) (a (b + 20 + 2) (k + 1) - a (b + 20 + 2) k) (n := n) (i0 := 0) (by omega) (by omega) (c0 := (qz 0, cs (u2 f 78 8 0) d (u1 a 82 (fl (a 82) 200 0)) ni j)) ⟨_, _, rfl, hD0, fun x hx => u2_c hx, u1_o (by decide), u1_o (by decide), by rw [u2_a], fun x x0 x1 => by omega, fun y y0 y1 => by
      rw [u1_s]
      unfold fl
      rw [if_pos ⟨y0, y1⟩]
      exact ⟨Or.inl rfl, fun z => by omega, fun ⟨x, x0, x1, _⟩ => by omega⟩⟩ ?_ ?_
  · obtain ⟨s, es, f2, a2, rfl, h⟩ := lp
    refine ⟨f2, a2, ?_, h⟩
    have G1 := dc_bk (F := fun _ => (0 : Int)) (A := A) hb G hD0 dm_0
    have gr := G1.2.2.2.2.2.2.2.2.2.2.2.2.2
    have esz := c_size (n := n) (d := d) (j := j) (rws_b20 hb) gr.2.2.2.1 h0 (by rw [gr.2.2.2.2.2.2.2.2.2.1]; exact h1)
    rw [hD0.2.2 (b + 20 + 2) (by omega)] at esz
    unfold g_X3_knowHypotheses g_X3_knowHypotheses_0
    simp only [zl0]
    rw [wf_cs, bd_some, gpc_78_9, ef, bd_some, gpc_78_6, hd, gpb_12 hb, gf_cs, u2_c (by decide), h78, esz, bd_some, es, bd_some]
  · rintro t c t0 t1 ⟨f2, a2, rfl, hD, h8, h79, h80, hN⟩
    have G1 := dc_bk (F := fun _ => (0 : Int)) (A := A) hb G hD dm_0
    have gr := G1.2.2.2.2.2.2.2.2.2.2.2.2.2
    have eg := c_get (n := n) (d := d) (j := j) (i := t) (rws_b20 hb) gr.2.2.2.1 h0 (by rw [gr.2.2.2.2.2.2.2.2.2.1]; exact h1) t0 (by rw [hD.2.2 (b + 20 + 2) (by omega)]; omega)
    rw [hD.2.2 (b + 20 + 2) (by omega), hD.2.2 (b + 20 + 1) (by omega)] at eg
    have hrt := hr t t0 t1
    refine ⟨(qz (t + 1), cs (u2 f2 78 8 (t + 1)) d (v2 (v2 a2 81 t (a (b + 20 + 1) (a (b + 20 + 2) k + t))) 82 (a (b + 20 + 1) (a (b + 20 + 2) k + t)) 1) ni j), ?_, _, _, rfl, ⟨fun i hi => by rw [u2_b hi]; exact hD.1 i hi, by rw [u2_c (by decide)]; exact hD.2.1, fun i hi => by rw [v2_o (by omega), v2_o (by omega)]; exact hD.2.2 i hi⟩, fun x hx => by rw [u2_c hx]; exact h8 x hx, by rw [v2_o (by decide), v2_o (by decide)]; exact h79, by rw [v2_o (by decide), v2_o (by decide)]; exact h80, kn_s hN t0 (by unfold gls; rw [if_pos t1])⟩
    unfold gL_X3_knowHypotheses_30 g_X3_knowHypotheses_30
    simp only [zl1]
    rw [if_neg (by rw [qz_le (by omega) (by omega) (by omega) (by omega)]; omega), gpc_78_6, hd, gpb_12 hb, gf_cs, h8 0 (by decide), h78, eg, bd_some, c_know hN.1 t0 (by omega) hrt.1 (by omega), bd_some, qz_add]
  · rintro c ⟨f2, a2, rfl, h⟩
    refine ⟨_, ?_, f2, a2, rfl, h⟩
    unfold gL_X3_knowHypotheses_30 g_X3_knowHypotheses_30
    rw [if_pos (by rw [qz_le (by omega) (by omega) (by omega) (by omega)]; omega)]
theorem c_list (hn : 100000 ≤ n) (hb : bks b) (hd : d 6 = b) (h78 : f 78 0 = k) (G : BK b q S K P len f a ni j A J) (h0 : 0 ≤ k) (h1 : k < K) (hk : a (b + 8) k = 3) (hc : a (b + 29) k = 1) : ∃ f2 a2, DC f a f2 a2 ∧ f2 78 1 = f 78 1 ∧ f2 78 5 = f 78 5 ∧ ((∃ t, 1 ≤ t ∧ t < a (b + 30) k ∧ lbad q k (a (b + 20 + 2) (k + 1) - a (b + 20 + 2) k) (fun x => a (b + 20 + 1) (a (b + 20 + 2) k + x)) (A 13) (a (b + 17 + 1)) (a (b + 8)) (a (b + 10)) t ∧ (∀ y, 1 ≤ y → y < t → ¬lbad q k (a (b + 20 + 2) (k + 1) - a (b + 20 + 2) k) (fun x => a (b + 20 + 1) (a (b + 20 + 2) k + x)) (A 13) (a (b + 17 + 1)) (a (b + 8)) (a (b + 10)) y) ∧ g_X3_decodeList n 78 (cs f d a ni j) = some (qz (-2), cs f2 d a2 ni j) ∧ f2 78 2 = t) ∨ ((∀ y, 1 ≤ y → y < a (b + 30) k → ¬lbad q k (a (b + 20 + 2) (k + 1) - a (b + 20 + 2) k) (fun x => a (b + 20 + 1) (a (b + 20 + 2) k + x)) (A 13) (a (b + 17 + 1)) (a (b + 8)) (a (b + 10)) y) ∧ a (b + 30) k = A 14 (200 * q + k) ∧ g_X3_decodeList n 78 (cs f d a ni j) = some (qz (-3), cs f2 d a2 ni j) ∧ f2 78 2 = a (b + 30) k) ∨ ((∀ y, 1 ≤ y → y < a (b + 30) k → ¬lbad q k (a (b + 20 + 2) (k + 1) - a (b + 20 + 2) k) (fun x => a (b + 20 + 1) (a (b + 20 + 2) k + x)) (A 13) (a (b + 17 + 1)) (a (b + 8)) (a (b + 10)) y) ∧ a (b + 30) k < A 14 (200 * q + k) ∧ g_X3_decodeList n 78 (cs f d a ni j) = some (qz 0, cs f2 d a2 ni j) ∧ KN ((a (b + 20 + 2) (k + 1) - a (b + 20 + 2) k) + (a (b + 30) k - 1)) (gls q k (a (b + 20 + 2) (k + 1) - a (b + 20 + 2) k) (fun x => a (b + 20 + 1) (a (b + 20 + 2) k + x)) (A 13) (a (b + 17 + 1))) f2 a2)) := by
  have hbb : b = 1 ∨ b = 33 := hb
  have hK : K ≤ 200 := G.2.1.2.2.2.1
  obtain ⟨t1, t2, t3, t4, t5, t6, t7, t8, t9⟩ := bk_t G h0 h1
  obtain ⟨l1, l2, l3⟩ := G.2.2.2.2.2.2.2.2.2.2.2.1 k h0 h1 hk
  have l4 : 1 ≤ a (b + 30) k := by
    rcases l3 with ⟨z1, z2, z3, z4, _⟩ | ⟨z1, _⟩ <;> omega
  obtain ⟨f1, a1, ek, hD1, hx8, h79, h80, hN1⟩ := c_knowHyp (n := n) (d := d) hn hb hd h78 G h0 h1
  have lp := lp_ix (b := gL_X3_decodeList_19 n 78 (qz (a (b + 30) k))) (fun t c => ∃ f2 a2, c = (qz t, cs f2 d a2 ni j) ∧ DC f a f2 a2 ∧ (∀ x, x ≠ 8 → f2 78 x = f 78 x) ∧ (∀ y, 1 ≤ y → y < t → ¬lbad q k (a (b + 20 + 2) (k + 1) - a (b + 20 + 2) k) (fun x => a (b + 20 + 1) (a (b + 20 + 2) k + x)) (A 13) (a (b + 17 + 1)) (a (b + 8)) (a (b + 10)) y) ∧ KN ((a (b + 20 + 2) (k + 1) - a (b + 20 + 2) k) + (t - 1)) (gls q k (a (b + 20 + 2) (k + 1) - a (b + 20 + 2) k) (fun x => a (b + 20 + 1) (a (b + 20 + 2) k + x)) (A 13) (a (b + 17 + 1))) f2 a2) (Q := fun r => ∃ f2 a2, DC f a f2 a2 ∧ (∀ x, x ≠ 8 → f2 78 x = f 78 x) ∧ ((∃ t, r = .inl (qz t, cs f2 d a2 ni j) ∧ 1 ≤ t ∧ t < a (b + 30) k ∧ lbad q k (a (b + 20 + 2) (k + 1) - a (b + 20 + 2) k) (fun x => a (b + 20 + 1) (a (b + 20 + 2) k + x)) (A 13) (a (b + 17 + 1)) (a (b + 8)) (a (b + 10)) t ∧ ∀ y, 1 ≤ y → y < t → ¬lbad q k (a (b + 20 + 2) (k + 1) - a (b + 20 + 2) k) (fun x => a (b + 20 + 1) (a (b + 20 + 2) k + x)) (A 13) (a (b + 17 + 1)) (a (b + 8)) (a (b + 10)) y) ∨ (r = .inr (cs f2 d a2 ni j) ∧ (∀ y, 1 ≤ y → y < a (b + 30) k → ¬lbad q k (a (b + 20 + 2) (k + 1) - a (b + 20 + 2) k) (fun x => a (b + 20 + 1) (a (b + 20 + 2) k + x)) (A 13) (a (b + 17 + 1)) (a (b + 8)) (a (b + 10)) y) ∧ KN ((a (b + 20 + 2) (k + 1) - a (b + 20 + 2) k) + (a (b + 30) k - 1)) (gls q k (a (b + 20 + 2) (k + 1) - a (b + 20 + 2) k) (fun x => a (b + 20 + 1) (a (b + 20 + 2) k + x)) (A 13) (a (b + 17 + 1))) f2 a2))) (a (b + 30) k) (n := n) (i0 := 1) l4 (by omega) (c0 := (qz 1, cs f1 d a1 ni j)) ⟨f1, a1, rfl, hD1, hx8, fun y y0 y1 => by omega, by rw [show (a (b + 20 + 2) (k + 1) - a (b + 20 + 2) k) + (1 - 1) = (a (b + 20 + 2) (k + 1) - a (b + 20 + 2) k) by omega]; exact hN1⟩ ?_ ?_
  · obtain ⟨r, er, f2, a2, hD, hx, h⟩ := lp
    have e0 : g_X3_decodeList n 78 (cs f d a ni j) = Sum.elim (fun y6 => g_X3_decodeList_57 n 78 y6.1 y6.2) (fun y7 => (g_X5_size n (gP y7 (gP y7 78 6) 10) (gF y7 78 0) y7).bind fun x10 => if qz (a (b + 30) k) = x10 then (g_X3_fail n 78 (-3 : Int32) (qz (a (b + 30) k)) y7).bind fun x11 => some (x11.1, x11.2) else some ((0 : Int32), y7)) r := by
      unfold g_X3_decodeList g_X3_decodeList_0
      rw [ek, bd_some, gpc_78_6, hd, gpb_16 hb, gf_cs, hx8 0 (by decide), h78, gab_30 hb h0 (by omega), hD1.2.2 (b + 30) (by omega), bd_some, zl1, er, bd_some]
    rcases h with ⟨t, rfl, u1', u2', u3, u4⟩ | ⟨rfl, u1', u2'⟩
    · refine ⟨u2 f2 78 2 t, a2, ⟨fun i hi => by rw [u2_b hi]; exact hD.1 i hi, by rw [u2_c (by decide)]; exact hD.2.1, hD.2.2⟩, by rw [u2_c (by decide)]; exact hx 1 (by decide), by rw [u2_c (by decide)]; exact hx 5 (by decide), Or.inl ⟨t, u1', u2', u3, u4, ?_, by rw [u2_a]⟩⟩
      rw [e0, Sum.elim_inl]
      unfold g_X3_decodeList_57 g_X3_fail g_X3_fail_0
      rw [wf_cs, bd_some, bd_some]
      rfl
    · have G2 := dc_bk (F := fun _ => (0 : Int)) (A := A) hb G hD dm_0
      rw [Sum.elim_inr, gpc_78_6, hd, gpb_10 hb, gf_cs, hx 0 (by decide), h78, c_tsz hb G2 h0 h1, bd_some] at e0
      by_cases c : a (b + 30) k = A 14 (200 * q + k)
      · refine ⟨u2 f2 78 2 (a (b + 30) k), a2, ⟨fun i hi => by rw [u2_b hi]; exact hD.1 i hi, by rw [u2_c (by decide)]; exact hD.2.1, hD.2.2⟩, by rw [u2_c (by decide)]; exact hx 1 (by decide), by rw [u2_c (by decide)]; exact hx 5 (by decide), Or.inr (Or.inl ⟨u1', c, ?_, by rw [u2_a]⟩)⟩
        rw [e0, if_pos (by rw [c])]
        unfold g_X3_fail g_X3_fail_0
        rw [wf_cs, bd_some, bd_some]
        rfl
      · refine ⟨f2, a2, hD, hx 1 (by decide), hx 5 (by decide), Or.inr (Or.inr ⟨u1', by omega, ?_, u2'⟩)⟩
        rw [e0, if_neg (by rw [qz_inj (by omega) (by omega) (by omega) (by omega)]; exact c)]
        rfl
  · rintro t c u0 u1' ⟨f2, a2, rfl, hD, hx, hg, hN⟩
    have G2 := dc_bk (F := fun _ => (0 : Int)) (A := A) hb G hD dm_0
    have e17 : a2 (b + 17 + 1) = a (b + 17 + 1) := hD.2.2 _ (by omega)
    have e8 : a2 (b + 8) = a (b + 8) := hD.2.2 _ (by omega)
    have e10 : a2 (b + 10) = a (b + 10) := hD.2.2 _ (by omega)
    have k78 : f2 78 0 = k := by rw [hx 0 (by decide)]; exact h78
    have eg := c_nmr (n := n) (d := d) hb G2 h0 h1 (i := t) (by omega) (by omega)
    have hr := nmr_r G h0 h1 (i := t) (by omega) (by omega)
    rw [e17] at eg
    have em := c_mayName (n := n) (r := nmr q k (A 13) (a (b + 17 + 1)) t) hb hd k78 G2 h0 h1 hr.1 hr.2
    rw [e8, e10] at em
    obtain ⟨z1, z2, z3⟩ := gls_r G h0 h1 u0 (by omega) hg
    unfold gL_X3_decodeList_19 g_X3_decodeList_19
    simp only [zl0, zl1]
    rw [if_neg (by rw [qz_le (by omega) (by omega) (by omega) (by omega)]; omega), gpc_78_6, hd, gpb_11 hb, gf_cs, k78, eg, bd_some, em, bd_some]
    by_cases c : may k (a (b + 8)) (a (b + 10)) (nmr q k (A 13) (a (b + 17 + 1)) t)
    rotate_left
    · rw [qp_F c, if_pos rfl]
      exact Or.inr ⟨_, rfl, f2, a2, hD, hx, Or.inl ⟨t, rfl, u0, u1', Or.inl c, hg⟩⟩
    have r0 := c.1
    have kn := hN.2.2 (nmr q k (A 13) (a (b + 17 + 1)) t) r0 (by omega)
    rw [qp_T c, if_neg n10, gpc_78_9, gac_82 r0 (by omega), bd_some]
    by_cases c2 : a2 82 (nmr q k (A 13) (a (b + 17 + 1)) t) = 0
    · have nb : ¬lbad q k (a (b + 20 + 2) (k + 1) - a (b + 20 + 2) k) (fun x => a (b + 20 + 1) (a (b + 20 + 2) k + x)) (A 13) (a (b + 17 + 1)) (a (b + 8)) (a (b + 10)) t := by
        rintro (z | z)
        · exact z c
        · have := kn.2.mpr z
          omega
      have hg' : ∀ y, 1 ≤ y → y < t + 1 → ¬lbad q k (a (b + 20 + 2) (k + 1) - a (b + 20 + 2) k) (fun x => a (b + 20 + 1) (a (b + 20 + 2) k + x)) (A 13) (a (b + 17 + 1)) (a (b + 8)) (a (b + 10)) y := fun y y0 y1 => by
        by_cases e : y = t
        · rw [e]; exact nb
        · exact hg y y0 (by omega)
      obtain ⟨z4, z5, z6⟩ := gls_r G h0 h1 (t := t + 1) (by omega) (by omega) hg'
      rw [if_pos (by rw [c2]), c_know hN.1 (by omega) (by omega) r0 (by omega), bd_some, qz_add]
      refine Or.inl ⟨_, rfl, _, _, rfl, ⟨fun i hi => by rw [u2_b hi]; exact hD.1 i hi, by rw [u2_c (by decide)]; exact hD.2.1, fun i hi => by rw [v2_o (by omega), v2_o (by omega)]; exact hD.2.2 i hi⟩, fun x hx' => by rw [u2_c hx']; exact hx x hx', hg', ?_⟩
      rw [show (a (b + 20 + 2) (k + 1) - a (b + 20 + 2) k) + (t + 1 - 1) = (a (b + 20 + 2) (k + 1) - a (b + 20 + 2) k) + (t - 1) + 1 by omega]
      refine kn_s hN (by omega) ?_
      unfold gls
      rw [if_neg (by omega), show (a (b + 20 + 2) (k + 1) - a (b + 20 + 2) k) + (t - 1) - (a (b + 20 + 2) (k + 1) - a (b + 20 + 2) k) + 1 = t by omega]
    · rw [if_neg (by rw [qz_inj (by have := kn.1; omega) (by have := kn.1; omega) (by omega) (by omega)]; exact c2)]
      exact Or.inr ⟨_, rfl, f2, a2, hD, hx, Or.inl ⟨t, rfl, u0, u1', Or.inr (kn.2.mp (by have := kn.1; omega)), hg⟩⟩
  · rintro c ⟨f2, a2, rfl, hD, hx, hg, hN⟩
    refine ⟨_, ?_, f2, a2, hD, hx, Or.inr ⟨rfl, hg, hN⟩⟩
    unfold gL_X3_decodeList_19 g_X3_decodeList_19
    rw [if_pos (by rw [qz_le (by omega) (by omega) (by omega) (by omega)]; omega)]
end LIS
