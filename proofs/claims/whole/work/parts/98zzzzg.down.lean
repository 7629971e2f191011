/-! A proof is told in letters: the class goes down -/
section DNC
variable {n b s : Nat} {N c : Int} {nd nm nu can cn lo sz lab usf lnn : Int → Int} {ch row : Int → Int → Int} {EV : Int → List Int} {EVR L : List Int} {f f2 f3 : Nat → Nat → Int} {d : Nat → Nat} {a a2 a3 : Nat → Int → Int} {ni : Nat → Nat} {j : Nat → Int → Int64}
/-- what is written when a node is left, or come to again -/
def oe (sz usf lnn lab : Int → Int) (st : (Int → Int) × Int × List Int) (e : Int) : (Int → Int) × Int × List Int := if e < 1000 then (if 1 ≤ sz e ∧ 2 ≤ usf e then (v1 st.1 e (st.2.1 + 1), st.2.1 + 1, st.2.2 ++ num (lnn (lab e)) ++ [90]) else (st.1, st.2.1, st.2.2 ++ num (lnn (lab e)))) else (st.1, st.2.1, st.2.2 ++ num (st.1 (e - 1000)))
def DH (s : Nat) (f : Nat → Nat → Int) (a : Nat → Int → Int) (f2 : Nat → Nat → Int) (a2 : Nat → Int → Int) : Prop := (∀ x, x ≠ 103 → x ≠ s → f2 x = f x) ∧ (∀ x, x ≠ 12 → x ≠ 15 → f2 103 x = f 103 x) ∧ ∀ x, x ≠ 112 → x ≠ 113 → x ≠ 115 → x ≠ 116 → x ≠ s + 1 → a2 x = a x
theorem dh_0 : DH s f a f a := ⟨fun _ _ _ => rfl, fun _ _ _ => rfl, fun _ _ _ _ _ _ => rfl⟩
theorem dh_t (h : DH s f a f2 a2) (h2 : DH s f2 a2 f3 a3) : DH s f a f3 a3 := ⟨fun x x1 x2 => (h2.1 x x1 x2).trans (h.1 x x1 x2), fun x x1 x2 => (h2.2.1 x x1 x2).trans (h.2.1 x x1 x2), fun x x1 x2 x3 x4 x5 => (h2.2.2 x x1 x2 x3 x4 x5).trans (h.2.2 x x1 x2 x3 x4 x5)⟩
theorem dh_ts (hs : s = 117 ∨ s = 119) (H : TSt c sz row lab f a ni) (h : DH s f a f2 a2) : TSt c sz row lab f2 a2 ni := tst_c H (h.1 105 (by decide) (by omega)) (h.2.2 104 (by decide) (by decide) (by decide) (by decide) (by omega)) (h.2.2 (105 + 1) (by decide) (by decide) (by decide) (by decide) (by omega)) (h.2.2 (105 + 2) (by decide) (by decide) (by decide) (by decide) (by omega)) rfl
theorem c_leave {D y nb : Int} {nn : Int → Int} (hn : 100000 ≤ n) (hs : s = 117 ∨ s = 119) (H : TSt c sz row lab f a ni) (c1 : c ≤ 1000) (y0 : 0 ≤ y) (y1 : y < c) (hD : f 103 12 = D + 1) (D0 : 0 ≤ D) (D1 : D < 1000) (e112 : a 112 D = y) (e115 : a 115 = nn) (e15 : f 103 15 = nb) (e108 : a 108 y = usf y) (e114 : a 114 (lab y) = lnn (lab y)) (hl : 0 ≤ lab y ∧ lab y < 200) (hln : 1 ≤ lnn (lab y) ∧ lnn (lab y) ≤ 3000) (hz : -1000000 < sz y ∧ sz y < 1000000) (hu : -1000000 < usf y ∧ usf y < 1000000) (hS : SC s L f a) : ∃ (f2 : Nat → Nat → Int) (a2 : Nat → Int → Int), g_X9_leave n 103 s (cs f d a ni j) = some (cs f2 d a2 ni j) ∧ f2 103 12 = D ∧ a2 115 = (oe sz usf lnn lab (nn, nb, L) y).1 ∧ f2 103 15 = (oe sz usf lnn lab (nn, nb, L) y).2.1 ∧ SC s (oe sz usf lnn lab (nn, nb, L) y).2.2 f2 a2 ∧ DH s f a f2 a2 ∧ a2 112 = a 112 ∧ a2 113 = a 113 := by
  obtain ⟨H1, H2, H3⟩ := H
  obtain ⟨q1, q2, q3⟩ := H3 y y0 y1
  obtain ⟨f4, a4, w1, w2, w3, w4⟩ := c_putNum (n := n) (f := u2 f 103 12 D) (d := d) (a := a) (ni := ni) (j := j) (L := L) hn hs hln.1 hln.2 (by
    unfold SC at hS ⊢
    rw [u2_b (by omega)]
    exact hS)
  have es := c_size (f := f4) (d := d) (a := a4) (ni := ni) (j := j) (n := n) (v := 105) (k := y) (M := 1024) rws_105 (by rw [w3 105 (by omega), u2_b (by decide), w4 (105 + 2) (by omega) (by decide)]; exact H1) y0 (by rw [w3 105 (by omega), u2_b (by decide)]; omega)
  rw [w4 (105 + 2) (by omega) (by decide), q2] at es
  have e0 : g_X9_leave n 103 s (cs f d a ni j) = if qz (sz y) ≤ qz 0 then some (cs f4 d a4 ni j) else if qz (usf y) ≤ qz 1 then some (cs f4 d a4 ni j) else (g_X8_put n s (qz 90) (cs f4 d a4 ni j)).bind fun x13 => (wF x13 103 15 ((gF x13 103 15) + qz 1)).bind fun w14 => (uA 0 w14 (gP w14 103 14) (qz y) (gF w14 103 15)).bind fun w16 => some w16 := by
    unfold g_X9_leave g_X9_leave_0
    simp only [zl0, zl1, zl90]
    rw [gpc_103_10, gf_cs, hD, qz_sub, show D + 1 - 1 = D by omega, gac_112 D0 D1, e112, bd_some, wf_cs, bd_some, gpc_103_4, gac_104 y0 (by omega), q1, bd_some, gpc_103_13, gac_114 hl.1 hl.2, e114, bd_some, w1, bd_some, gpc_103_5, es, bd_some, gpc_103_6, gac_108 y0 (by omega), w4 108 (by omega) (by decide), e108, bd_some]
  have hy : y < 1000 := by omega
  have F4 : DH s f a f4 a4 := ⟨fun x x1 x2 => by rw [w3 x x2, u2_b x1], fun x x1 x2 => by rw [w3 103 (by omega), u2_c x1], fun x x1 x2 x3 x4 x5 => w4 x x5 x4⟩
  unfold oe
  rw [if_pos hy]
  by_cases z : 1 ≤ sz y ∧ 2 ≤ usf y
  · rw [if_neg (by rw [qz_le (by omega) (by omega) (by omega) (by omega)]; omega), if_neg (by rw [qz_le (by omega) (by omega) (by omega) (by omega)]; omega)] at e0
    obtain ⟨f5, a5, y1', y2', y3', y4'⟩ := c_put2 (n := n) (d := d) (ni := ni) (j := j) (v := 90) hs (by omega) (by omega) w2
    rw [if_pos z]
    have e15' : f5 103 15 = nb := by rw [y3' 103 (by omega), w3 103 (by omega), u2_c (by decide)]; exact e15
    refine ⟨u2 f5 103 15 (nb + 1), v2 a5 115 y (nb + 1), ?_, ?_, ?_, ?_, ?_, ⟨fun x x1 x2 => ?_, fun x x1 x2 => ?_, fun x x1 x2 x3 x4 x5 => ?_⟩, ?_, ?_⟩
    · rw [e0, y1', bd_some, gf_cs, e15', qz_add, wf_cs, bd_some, gpc_103_14, gf_cs, u2_a, uac_115 y0 hy, bd_some]
    · rw [u2_c (by decide), y3' 103 (by omega), w3 103 (by omega), u2_a]
    · rw [v2_s, y4' 115 (by omega), w4 115 (by omega) (by decide), e115]
    · rw [u2_a]
    · unfold SC at y2' ⊢
      rw [u2_b (by omega), v2_o (by omega)]
      exact y2'
    · rw [u2_b x1, y3' x x2]; exact F4.1 x x1 x2
    · rw [u2_c x2, y3' 103 (by omega)]; exact F4.2.1 x x1 x2
    · rw [v2_o x3, y4' x x5]; exact F4.2.2 x x1 x2 x3 x4 x5
    · rw [v2_o (by decide), y4' 112 (by omega), w4 112 (by omega) (by decide)]
    · rw [v2_o (by decide), y4' 113 (by omega), w4 113 (by omega) (by decide)]
  · rw [if_neg z]
    refine ⟨f4, a4, ?_, by rw [w3 103 (by omega), u2_a], by rw [w4 115 (by omega) (by decide)]; exact e115, by rw [w3 103 (by omega), u2_c (by decide)]; exact e15, w2, F4, w4 112 (by omega) (by decide), w4 113 (by omega) (by decide)⟩
    rw [e0]
    by_cases z2 : sz y ≤ 0
    · rw [if_pos (by rw [qz_le (by omega) (by omega) (by omega) (by omega)]; exact z2)]
    · rw [if_neg (by rw [qz_le (by omega) (by omega) (by omega) (by omega)]; exact z2), if_pos (by rw [qz_le (by omega) (by omega) (by omega) (by omega)]; omega)]
/-- which nodes have numbers when those before m are told -/
def DI (c : Int) (sz usf : Int → Int) (m : Int) (nn : Int → Int) (nb : Int) : Prop := ∀ i, 0 ≤ i → i < c → (1 ≤ nn i ↔ i < m ∧ 1 ≤ sz i ∧ 2 ≤ usf i) ∧ 0 ≤ nn i ∧ nn i ≤ nb
theorem mem_cat {g : Int → List Int} {e : Int} {t : Nat} (n : Nat) : t < n → e ∈ g t → e ∈ cat g n := by
  induction n with
  | zero => intro h; omega
  | succ n ih =>
    intro h he
    show e ∈ cat g n ++ g n
    by_cases c : t = n
    · rw [← c]; exact List.mem_append_right _ he
    · exact List.mem_append_left _ (ih (by omega) he)
theorem oe_nb {st : (Int → Int) × Int × List Int} {e : Int} : st.2.1 ≤ (oe sz usf lnn lab st e).2.1 ∧ (oe sz usf lnn lab st e).2.1 ≤ st.2.1 + 1 := by
  unfold oe
  split
  · split
    · show st.2.1 ≤ st.2.1 + 1 ∧ st.2.1 + 1 ≤ st.2.1 + 1; omega
    · show st.2.1 ≤ st.2.1 ∧ st.2.1 ≤ st.2.1 + 1; omega
  · show st.2.1 ≤ st.2.1 ∧ st.2.1 ≤ st.2.1 + 1; omega
theorem oe_l {st : (Int → Int) × Int × List Int} {e : Int} : ((oe sz usf lnn lab st e).2.2.length : Int) ≤ st.2.2.length + 5 := by
  have h1 := num_l (z := lnn (lab e))
  have h2 := num_l (z := st.1 (e - 1000))
  unfold oe
  split
  · split
    · show ((st.2.2 ++ num (lnn (lab e)) ++ [90]).length : Int) ≤ _
      rw [List.length_append, List.length_append]
      show ((st.2.2.length + (num (lnn (lab e))).length + 1 : Nat) : Int) ≤ _
      omega
    · show ((st.2.2 ++ num (lnn (lab e))).length : Int) ≤ _
      rw [List.length_append]
      omega
  · show ((st.2.2 ++ num (st.1 (e - 1000))).length : Int) ≤ _
    rw [List.length_append]
    omega
theorem of_nb (l : List Int) : ∀ st : (Int → Int) × Int × List Int, st.2.1 ≤ (l.foldl (oe sz usf lnn lab) st).2.1 ∧ (l.foldl (oe sz usf lnn lab) st).2.1 ≤ st.2.1 + l.length ∧ ((l.foldl (oe sz usf lnn lab) st).2.2.length : Int) ≤ st.2.2.length + 5 * l.length := by
  induction l with
  | nil => intro st; exact ⟨Int.le_refl _, by show st.2.1 ≤ st.2.1 + 0; omega, by show (st.2.2.length : Int) ≤ st.2.2.length + 5 * 0; omega⟩
  | cons e es ih =>
    intro st
    obtain ⟨i1, i2, i3⟩ := ih (oe sz usf lnn lab st e)
    have h := oe_nb (sz := sz) (usf := usf) (lnn := lnn) (lab := lab) (st := st) (e := e)
    have h2 := oe_l (sz := sz) (usf := usf) (lnn := lnn) (lab := lab) (st := st) (e := e)
    show st.2.1 ≤ (es.foldl (oe sz usf lnn lab) (oe sz usf lnn lab st e)).2.1 ∧ (es.foldl (oe sz usf lnn lab) (oe sz usf lnn lab st e)).2.1 ≤ st.2.1 + ((es.length + 1 : Nat) : Int) ∧ ((es.foldl (oe sz usf lnn lab) (oe sz usf lnn lab st e)).2.2.length : Int) ≤ st.2.2.length + 5 * ((es.length + 1 : Nat) : Int)
    omega
end DNC
