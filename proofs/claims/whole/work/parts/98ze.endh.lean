/-! A hypothesis ends: the class -/
section ENH
variable {b n : Nat} {q S K P len c b0 e0 w : Int} {f0 : Nat → Nat → Int} {a0 : Nat → Int → Int} {ni0 : Nat → Nat} {j0 : Nat → Int → Int64} {F0 : Nat → Int} {A0 : Nat → Int → Int} {J0 : Nat → Int → Int64} {f : Nat → Nat → Int} {d : Nat → Nat} {a : Nat → Int → Int} {ni : Nat → Nat} {j : Nat → Int → Int64} {F : Nat → Int} {A : Nat → Int → Int} {J : Nat → Int → Int64}
/-- what a statement's end leaves in the class's arrays, whatever its kind -/
def CE (b : Nat) (K kd D ls ll p36 p37 u v w : Int) (f f2 : Nat → Nat → Int) (a a2 : Nat → Int → Int) : Prop :=
  (f2 77 = f 77 ∧ f2 65 4 = 0 ∧ f2 b 5 = K + 1 ∧ f2 b 3 = f b 3 ∧ f2 b 2 = f b 2 ∧ (∀ k, k ≠ 9 → f2 66 k = f 66 k) ∧ f2 (b + 11) 2 = p36 ∧ f2 (b + 14) 2 = p37 ∧ f2 (b + 17) 2 = p37 ∧ f2 (b + 20) 2 = u ∧ f2 (b + 23) 2 = v ∧ f2 (b + 26) 2 = w) ∧ (∀ i, ¬(b ≤ i ∧ i < b + 32) → ¬(65 ≤ i ∧ i < 78) → f2 i = f i ∧ a2 i = a i) ∧
  (a2 (b + 2) = a (b + 2) ∧ a2 (b + 7) = a (b + 7) ∧ a2 (b + 3) = v1 (a (b + 3)) (hd (a (b + 2)) ls ll) (300 + K) ∧ a2 (b + 4) = v1 (a (b + 4)) (300 + K) (a (b + 3) (hd (a (b + 2)) ls ll)) ∧ a2 (b + 5) = v1 (a (b + 5)) (300 + K) ls ∧ a2 (b + 6) = v1 (a (b + 6)) (300 + K) ll ∧ a2 (b + 8) = v1 (a (b + 8)) K kd ∧ a2 (b + 9) = v1 (a (b + 9)) K D) ∧
  (a2 (b + 11 + 1) = a (b + 11 + 1) ∧ a2 (b + 11 + 2) = v1 (a (b + 11 + 2)) (K + 1) p36 ∧ a2 (b + 14 + 1) = a (b + 14 + 1) ∧ a2 (b + 14 + 2) = v1 (a (b + 14 + 2)) (K + 1) p37 ∧ a2 (b + 17 + 1) = a (b + 17 + 1) ∧ a2 (b + 17 + 2) = v1 (a (b + 17 + 2)) (K + 1) p37 ∧ a2 (b + 20 + 2) = v1 (a (b + 20 + 2)) (K + 1) u ∧ a2 (b + 23 + 2) = v1 (a (b + 23 + 2)) (K + 1) v ∧ a2 (b + 26 + 2) = v1 (a (b + 26 + 2)) (K + 1) w) ∧
  (a2 67 = a 67 ∧ a2 68 = a 68 ∧ a2 69 = a 69 ∧ a2 70 = a 70 ∧ a2 74 = a 74 ∧ a2 75 = a 75)
theorem E_h {kd D ls ll p36 p37 u v w' hc l : Int} (hn : 100000 ≤ n) (hb : bks b) (hd4 : d 4 = b) (grw : Grw b K f a ni) (h5 : f b 5 = K) (hK0 : 0 ≤ K) (hK : K < 200) (h6 : f 65 6 = kd) (hk0 : 0 ≤ kd) (hk3 : kd < 2) (h66 : f 66 0 = D) (h7 : f 65 7 = ls) (h8 : f 65 8 = ll) (hl0 : 0 ≤ ls) (hl1 : 0 ≤ ll) (hl2 : ls + ll ≤ 8192) (e36 : f (b + 11) 2 = p36) (e37 : f (b + 14) 2 = p37) (e37' : f (b + 17) 2 = p37) (eu : f (b + 20) 2 = u) (ev : f (b + 23) 2 = v) (ew : f (b + 26) 2 = w') (hc9 : f 66 9 = hc) (c0 : 0 ≤ hc) (c1 : hc < 200) (hl : p36 - a (b + 11 + 2) K = l) (h20 : kd = 0 → l = 2) (hr : ∀ i, 0 ≤ i → i < l → 0 ≤ a (b + 11 + 1) (a (b + 11 + 2) K + i) ∧ a (b + 11 + 1) (a (b + 11 + 2) K + i) < 300) :
    ∃ (f2 : Nat → Nat → Int) (a2 : Nat → Int → Int), g_X4_endStatement n 65 (cs f d a ni j) = some (cs f2 d a2 ni j) ∧ CE b K kd D ls ll p36 p37 u v w' f f2 a a2 ∧ Grw b (K + 1) f2 a2 ni ∧ f2 66 9 = hc + 1 ∧ a2 (b + 10) = v1 (a (b + 10)) K 200 ∧ a2 73 = v1 (a 73) hc K ∧ a2 71 = (if kd = 0 then v1 (a 71) (a (b + 11 + 1) (a (b + 11 + 2) K + 1)) 1 else a 71) ∧ a2 72 = (if kd = 0 then a 72 else ndp (a 72) (a (b + 11 + 1)) (a (b + 11 + 2) K) l 1) ∧ a2 (b + 20 + 1) = a (b + 20 + 1) ∧ a2 (b + 23 + 1) = a (b + 23 + 1) ∧ a2 (b + 26 + 1) = a (b + 26 + 1) ∧ a2 (b + 29) = a (b + 29) ∧ a2 (b + 30) = a (b + 30) := by
  have hbb : b = 1 ∨ b = 33 := hb
  obtain ⟨E1, R11, R14, R17⟩ := c_end1 (f := f) (d := d) (a := a) (ni := ni) (j := j) (n := n) (K := K) (kd := kd) (D := D) (ls := ls) (ll := ll) (p36 := p36) (p37 := p37) hn hb hd4 grw h5 hK0 hK h6 hk0 (by omega) h66 h7 h8 hl0 hl1 hl2 e36 e37 e37'
  obtain ⟨w1, w2, w3, w4, w5, w6, w7, w8, w9, w10, w11, w12⟩ := grw
  rw [if_pos hk3] at E1
  have eE : ∀ i, ¬(b + 3 ≤ i ∧ i ≤ b + 6) → i ≠ b + 8 → i ≠ b + 9 → i ≠ b + 11 + 2 → i ≠ b + 14 + 2 → i ≠ b + 17 + 2 → aE1 b K kd D ls ll p36 p37 a i = a i := by
    intro i i1 i2 i3 i4 i5 i6
    unfold aE1
    simp (disch := omega) only [v2_o]
  have eE8 : aE1 b K kd D ls ll p36 p37 a (b + 8) = v1 (a (b + 8)) K kd := by unfold aE1; simp (disch := omega) only [v2_o, v2_s]
  have eE11 : aE1 b K kd D ls ll p36 p37 a (b + 11 + 2) = v1 (a (b + 11 + 2)) (K + 1) p36 := by unfold aE1; simp (disch := omega) only [v2_o, v2_s]
  have EH := c_addHyp (f := fE1 b K f) (d := d) (a := aE1 b K kd D ls ll p36 p37 a) (ni := ni) (j := j) (n := n) (k := K) (hc := hc) (l := l) hb hn (by rw [eE11]; unfold fE1; simp (disch := omega) only [u2_a, u2_b, u2_c]; rw [e36]; exact R11) hK0 (by unfold fE1; simp (disch := omega) only [u2_a, u2_b, u2_c]; omega) hK (by unfold fE1; simp (disch := omega) only [u2_b]; exact hc9) c0 c1 (by rw [eE8, v1_s]; omega) (by rw [eE11, v1_s, v1_o (by omega)]; exact hl) (by rw [eE8, v1_s]; exact h20) (by rw [eE11, v1_o (by omega), eE (b + 11 + 1) (by omega) (by omega) (by omega) (by omega) (by omega) (by omega)]; exact hr)
  rw [eE8, v1_s, eE11, v1_o (by omega), eE (b + 11 + 1) (by omega) (by omega) (by omega) (by omega) (by omega) (by omega), eE 71 (by omega) (by omega) (by omega) (by omega) (by omega) (by omega), eE 72 (by omega) (by omega) (by omega) (by omega) (by omega) (by omega)] at EH
  generalize ha4 : (if kd = 0 then u1 (v2 (v2 (aE1 b K kd D ls ll p36 p37 a) (b + 10) K 200) 73 hc K) 71 (v1 (a 71) (a (b + 11 + 1) (a (b + 11 + 2) K + 1)) 1) else u1 (v2 (v2 (aE1 b K kd D ls ll p36 p37 a) (b + 10) K 200) 73 hc K) 72 (ndp (a 72) (a (b + 11 + 1)) (a (b + 11 + 2) K) l 1)) = a4 at EH
  have h4 : ∀ i, i ≠ 71 → i ≠ 72 → a4 i = v2 (v2 (aE1 b K kd D ls ll p36 p37 a) (b + 10) K 200) 73 hc K i := by
    intro i i1 i2
    rw [← ha4]
    by_cases z : kd = 0
    · rw [if_pos z, u1_o i1]
    · rw [if_neg z, u1_o i2]
  have h471 : a4 71 = if kd = 0 then v1 (a 71) (a (b + 11 + 1) (a (b + 11 + 2) K + 1)) 1 else a 71 := by
    rw [← ha4]
    by_cases z : kd = 0
    · rw [if_pos z, if_pos z, u1_s]
    · rw [if_neg z, if_neg z, u1_o (by decide), v2_o (by decide), v2_o (by omega), eE 71 (by omega) (by omega) (by omega) (by omega) (by omega) (by omega)]
  have h472 : a4 72 = if kd = 0 then a 72 else ndp (a 72) (a (b + 11 + 1)) (a (b + 11 + 2) K) l 1 := by
    rw [← ha4]
    by_cases z : kd = 0
    · rw [if_pos z, if_pos z, u1_o (by decide), v2_o (by decide), v2_o (by omega), eE 72 (by omega) (by omega) (by omega) (by omega) (by omega) (by omega)]
    · rw [if_neg z, if_neg z, u1_s]
  clear ha4
  have h4e : ∀ i, i ≠ 71 → i ≠ 72 → i ≠ 73 → i ≠ b + 10 → a4 i = aE1 b K kd D ls ll p36 p37 a i := by
    intro i i1 i2 i3 i4
    rw [h4 i i1 i2, v2_o i3, v2_o i4]
  have h20' : a4 (b + 20 + 2) = a (b + 20 + 2) := (h4e _ (by omega) (by omega) (by omega) (by omega)).trans (eE _ (by omega) (by omega) (by omega) (by omega) (by omega) (by omega))
  have h23' : a4 (b + 23 + 2) = a (b + 23 + 2) := (h4e _ (by omega) (by omega) (by omega) (by omega)).trans (eE _ (by omega) (by omega) (by omega) (by omega) (by omega) (by omega))
  have h26' : a4 (b + 26 + 2) = a (b + 26 + 2) := (h4e _ (by omega) (by omega) (by omega) (by omega)).trans (eE _ (by omega) (by omega) (by omega) (by omega) (by omega) (by omega))
  have f4z : ∀ i, i ≠ 66 → i ≠ b + 11 → i ≠ b + 14 → i ≠ b + 17 → u2 (fE1 b K f) 66 9 (hc + 1) i = f i := by
    intro i i1 i2 i3 i4
    unfold fE1
    simp (disch := assumption) only [u2_b]
  have g20 := f4z (b + 20) (by omega) (by omega) (by omega) (by omega)
  have g23 := f4z (b + 23) (by omega) (by omega) (by omega) (by omega)
  have g26 := f4z (b + 26) (by omega) (by omega) (by omega) (by omega)
  have gb := f4z b (by omega) (by omega) (by omega) (by omega)
  obtain ⟨E2, R20, R23, R26⟩ := c_end2 (f := u2 (fE1 b K f) 66 9 (hc + 1)) (d := d) (a := a4) (ni := ni) (j := j) (n := n) (K := K) (kd := kd) (u := u) (v := v) (w' := w') hb hd4 (by rw [g20, h20']; exact w4) (by rw [g23, h23']; exact w5) (by rw [g26, h26']; exact w6) (by rw [g20]; exact w10) (by rw [g23]; exact w11) (by rw [g26]; exact w12) (by rw [g20]; exact eu) (by rw [g23]; exact ev) (by rw [g26]; exact ew) (by rw [gb]; exact h5) hK0 hK (by rw [f4z 65 (by omega) (by omega) (by omega) (by omega)]; exact h6) hk0 (by omega)
  rw [if_neg (by omega)] at E2
  rw [EH, bd_some, E2] at E1
  rw [h20'] at R20
  rw [h23'] at R23
  rw [h26'] at R26
  have az : ∀ i, i ≠ b + 20 + 2 → i ≠ b + 23 + 2 → i ≠ b + 26 + 2 → aE2 b K u v w' a4 i = a4 i := by
    intro i i1 i2 i3
    unfold aE2
    simp (disch := assumption) only [v2_o]
  have ao : ∀ i, i ≠ b + 20 + 2 ∧ i ≠ b + 23 + 2 ∧ i ≠ b + 26 + 2 ∧ i ≠ 71 ∧ i ≠ 72 ∧ i ≠ 73 ∧ i ≠ b + 10 ∧ ¬(b + 3 ≤ i ∧ i ≤ b + 6) ∧ i ≠ b + 8 ∧ i ≠ b + 9 ∧ i ≠ b + 11 + 2 ∧ i ≠ b + 14 + 2 ∧ i ≠ b + 17 + 2 → aE2 b K u v w' a4 i = a i := by
    rintro i ⟨j1, j2, j3, i1, i2, i3, i4, i5, i6, i7, i8, i9, i10⟩
    rw [az i j1 j2 j3, h4e i i1 i2 i3 i4]
    exact eE i i5 i6 i7 i8 i9 i10
  have aE : ∀ i, b + 3 ≤ i ∧ i ≤ b + 17 + 2 ∧ i ≠ b + 10 → aE2 b K u v w' a4 i = aE1 b K kd D ls ll p36 p37 a i := by
    rintro i ⟨i1, i2, i3⟩
    rw [az i (by omega) (by omega) (by omega)]
    exact h4e i (by omega) (by omega) (by omega) i3
  have s20 : aE2 b K u v w' a4 (b + 20 + 2) = v1 (a (b + 20 + 2)) (K + 1) u := by
    unfold aE2
    simp (disch := omega) only [v2_o, v2_s]
    rw [h20']
  have s23 : aE2 b K u v w' a4 (b + 23 + 2) = v1 (a (b + 23 + 2)) (K + 1) v := by
    unfold aE2
    simp (disch := omega) only [v2_o, v2_s]
    rw [h23']
  have s26 : aE2 b K u v w' a4 (b + 26 + 2) = v1 (a (b + 26 + 2)) (K + 1) w' := by
    unfold aE2
    simp (disch := omega) only [v2_o, v2_s]
    rw [h26']
  have s11 := aE (b + 11 + 2) (by omega)
  rw [eE11] at s11
  have s14 : aE2 b K u v w' a4 (b + 14 + 2) = v1 (a (b + 14 + 2)) (K + 1) p37 := by
    rw [aE _ (by omega)]; unfold aE1; simp (disch := omega) only [v2_o, v2_s]
  have s17 : aE2 b K u v w' a4 (b + 17 + 2) = v1 (a (b + 17 + 2)) (K + 1) p37 := by
    rw [aE _ (by omega)]; unfold aE1; simp (disch := omega) only [v2_o, v2_s]
  refine ⟨_, _, E1, ⟨⟨?_, ?_, ?_, ?_, ?_, ?_, ?_, ?_, ?_, ?_, ?_, ?_⟩, ?_, ⟨ao _ (by omega), ao _ (by omega), ?_, ?_, ?_, ?_, ?_, ?_⟩, ⟨ao _ (by omega), s11, ao _ (by omega), s14, ao _ (by omega), s17, s20, s23, s26⟩, ao _ (by omega), ao _ (by omega), ao _ (by omega), ao _ (by omega), ao _ (by omega), ao _ (by omega)⟩, ?_, ?_, ?_, ?_, ?_, ?_, ao _ (by omega), ao _ (by omega), ao _ (by omega), ao _ (by omega), ao _ (by omega)⟩
  · unfold fE2 fE1; simp (disch := omega) only [u2_b]
  · unfold fE2; rw [u2_a]
  · unfold fE2; simp (disch := omega) only [u2_b, u2_a]
  · unfold fE2 fE1; simp (disch := omega) only [u2_b, u2_c]
  · unfold fE2 fE1; simp (disch := omega) only [u2_b, u2_c]
  · intro k hk
    unfold fE2 fE1
    simp (disch := omega) only [u2_b, u2_c]
  · unfold fE2 fE1; simp (disch := omega) only [u2_b, u2_c]; exact e36
  · unfold fE2 fE1; simp (disch := omega) only [u2_b, u2_c]; exact e37
  · unfold fE2 fE1; simp (disch := omega) only [u2_b, u2_c]; exact e37'
  · unfold fE2 fE1; simp (disch := omega) only [u2_b, u2_c]; exact eu
  · unfold fE2 fE1; simp (disch := omega) only [u2_b, u2_c]; exact ev
  · unfold fE2 fE1; simp (disch := omega) only [u2_b, u2_c]; exact ew
  · intro i i1 i2
    refine ⟨?_, ao i (by omega)⟩
    unfold fE2 fE1
    simp (disch := omega) only [u2_b]
  · rw [aE _ (by omega)]; unfold aE1; simp (disch := omega) only [v2_o, v2_s]
  · rw [aE _ (by omega)]; unfold aE1; simp (disch := omega) only [v2_o, v2_s]
  · rw [aE _ (by omega)]; unfold aE1; simp (disch := omega) only [v2_o, v2_s]
  · rw [aE _ (by omega)]; unfold aE1; simp (disch := omega) only [v2_o, v2_s]
  · rw [aE _ (by omega)]; exact eE8
  · rw [aE _ (by omega)]; unfold aE1; simp (disch := omega) only [v2_o, v2_s]
  · unfold Grw
    rw [s11, s14, s17, s20, s23, s26]
    unfold fE2 fE1
    simp (disch := omega) only [u2_b, u2_c, u2_a]
    rw [e36, e37, e37', eu, ev, ew]
    exact ⟨R11, R14, R17, R20, R23, R26, trivial, trivial, trivial, trivial, trivial, trivial⟩
  · unfold fE2 fE1; simp (disch := omega) only [u2_b, u2_a]
  · rw [az _ (by omega) (by omega) (by omega), h4 _ (by omega) (by omega), v2_o (by omega), v2_s, eE (b + 10) (by omega) (by omega) (by omega) (by omega) (by omega) (by omega)]
  · rw [az _ (by omega) (by omega) (by omega), h4 _ (by omega) (by omega), v2_s, v2_o (by omega), eE 73 (by omega) (by omega) (by omega) (by omega) (by omega) (by omega)]
  · rw [az _ (by omega) (by omega) (by omega)]; exact h471
  · rw [az _ (by omega) (by omega) (by omega)]; exact h472
end ENH
