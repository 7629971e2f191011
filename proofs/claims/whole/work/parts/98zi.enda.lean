/-! An assertion ends: the class -/
section ENA
variable {b n : Nat} {q S K P len c b0 e0 w : Int} {f0 : Nat → Nat → Int} {a0 : Nat → Int → Int} {ni0 : Nat → Nat} {j0 : Nat → Int → Int64} {F0 : Nat → Int} {A0 : Nat → Int → Int} {J0 : Nat → Int → Int64} {f : Nat → Nat → Int} {d : Nat → Nat} {a : Nat → Int → Int} {ni : Nat → Nat} {j : Nat → Int → Int64} {F : Nat → Int} {A : Nat → Int → Int} {J : Nat → Int → Int64}
/-- the rest of endStatement() for a proof -/
theorem c_end3 {u v w' sz : Int} {A18 : Int → Int} (hn : 100000 ≤ n) (hb : bks b) (hd4 : d 4 = b) (h5 : f b 5 = K) (hK0 : 0 ≤ K) (hK : K < 200) (h2l : f b 2 = len) (hl0 : 0 ≤ len) (hl1 : len ≤ 8192) (ht : byt (a (b + 2))) (H14 : Rw (f (b + 14) 3) (f (b + 14) 2) (ni (b + 14 + 1)) (nC0 (b + 14 + 2)) 4096 (a (b + 14 + 2))) (H17 : Rw (f (b + 17) 3) (f (b + 17) 2) (ni (b + 17 + 1)) (nC0 (b + 17 + 2)) 4096 (a (b + 17 + 2))) (r14 : K < f (b + 14) 3) (r17 : K < f (b + 17) 3) (hsz : a (b + 14 + 2) (K + 1) - a (b + 14 + 2) K = sz) (hsz2 : a (b + 17 + 2) (K + 1) - a (b + 17 + 2) K = sz) (hs0 : 0 ≤ sz) (hs1 : sz ≤ 400) (hk : ∀ i, 0 ≤ i → i < sz → tkn (a (b + 2)) len (a (b + 14 + 1) (a (b + 14 + 2) K + i)) (A18 (4096 * q + (a (b + 14 + 2) K + i)))) (hnm : ∀ i, 0 ≤ i → i < sz → -1 ≤ a (b + 17 + 1) (a (b + 17 + 2) K + i) ∧ a (b + 17 + 1) (a (b + 17 + 2) K + i) < K) (hki : ∀ k, 0 ≤ k → k < K → 0 ≤ a (b + 8) k ∧ a (b + 8) k ≤ 3) :
    ∃ (cm le : Int) (jx : Int → Int64), ((g_X0_noteForm n b (qz K) (cs f d a ni j)).bind fun x11 => (g_X0_noteAxioms n (gP x11 65 1) (qz K) x11).bind fun x13 => g_X4_endStatement_179 n 65 x13) = some (cs (u2 (u2 f b 5 (K + 1)) 65 4 0) d (v2 (v2 a (b + 29) K cm) (b + 30) K le) ni (u1 j (b + 31) jx)) ∧ 0 ≤ le ∧ le ≤ sz ∧ ((cm = 1 ∧ 0 < sz ∧ one q (a (b + 2)) (a (b + 14 + 1)) A18 (a (b + 14 + 2) K) 40 ∧ 1 ≤ le ∧ (∀ i, 1 ≤ i → i < le → ¬one q (a (b + 2)) (a (b + 14 + 1)) A18 (a (b + 14 + 2) K + i) 41) ∧ (le < sz → one q (a (b + 2)) (a (b + 14 + 1)) A18 (a (b + 14 + 2) K + le) 41)) ∨ (cm = 0 ∧ ¬(0 < sz ∧ one q (a (b + 2)) (a (b + 14 + 1)) A18 (a (b + 14 + 2) K) 40) ∧ le = sz)) ∧ (∀ x, ¬(K * 4 ≤ x ∧ x < K * 4 + 4) → jx x = j (b + 31) x) ∧ ∀ x, 0 ≤ x → x < 200 → (bt jx (K * 4) x ↔ ∃ i, 0 ≤ i ∧ i < le ∧ ((a (b + 17 + 1) (a (b + 17 + 2) K + i) = x ∧ a (b + 8) x = 2) ∨ (0 ≤ a (b + 17 + 1) (a (b + 17 + 2) K + i) ∧ a (b + 8) (a (b + 17 + 1) (a (b + 17 + 2) K + i)) = 3 ∧ bt (j (b + 31)) (a (b + 17 + 1) (a (b + 17 + 2) K + i) * 4) x))) := by
  have hbb : b = 1 ∨ b = 33 := hb
  obtain ⟨cm, le, e1, y1, y2, y3⟩ := c_noteForm (f := f) (d := d) (a := a) (ni := ni) (j := j) (n := n) (K := K) (sz := sz) (len := len) (q := q) (A18 := A18) hb hn H14 hK0 r14 hK hsz hs0 hs1 h2l hl0 hl1 ht hk
  obtain ⟨jx, e2, z1, z2⟩ := c_noteAx (f := f) (d := d) (a := v2 (v2 a (b + 29) K cm) (b + 30) K le) (ni := ni) (j := j) (n := n) (K := K) (le := le) hb hn (by simp (disch := omega) only [v2_o]; exact H17) hK0 r17 hK (by rw [v2_s, v1_s]) y1 (by simp (disch := omega) only [v2_o]; omega) (by omega) (fun i i1 i2 => by simp (disch := omega) only [v2_o]; exact hnm i i1 (by omega)) (fun k k1 k2 => by simp (disch := omega) only [v2_o]; exact hki k k1 k2)
  simp (disch := omega) only [v2_o] at z2
  refine ⟨cm, le, jx, ?_, y1, y2, y3, z1, z2⟩
  rw [e1, bd_some, gpc_65_1, hd4, e2, bd_some]
  unfold g_X4_endStatement_179
  simp (disch := first | assumption | omega) only [qz_lit, gpc_65_1, hd4, gf_cs, wf_cs, h5, qz_add, bd_some]
theorem E_a {kd D ls ll p36 p37 hc l pc sz : Int} {A18 : Int → Int} (hn : 100000 ≤ n) (hb : bks b) (hd4 : d 4 = b) (grw : Grw b K f a ni) (h5 : f b 5 = K) (hK0 : 0 ≤ K) (hK : K < 200) (h6 : f 65 6 = kd) (hk : kd = 2 ∨ kd = 3) (h66 : f 66 0 = D) (h7 : f 65 7 = ls) (h8 : f 65 8 = ll) (hl0 : 0 ≤ ls) (hl1 : 0 ≤ ll) (hl2 : ls + ll ≤ 8192) (e36 : f (b + 11) 2 = p36) (e37 : f (b + 14) 2 = p37) (e37' : f (b + 17) 2 = p37)
    (hl : p36 - a (b + 11 + 2) K = l) (hl60 : l ≤ 60) (hr : ∀ i, 0 ≤ i → i < l → 0 ≤ a (b + 11 + 1) (a (b + 11 + 2) K + i) ∧ a (b + 11 + 1) (a (b + 11 + 2) K + i) < 300) (hc9 : f 66 9 = hc) (c0 : 0 ≤ hc) (c1 : hc ≤ K) (hM : f (b + 20) 2 + hc ≤ 32768) (hasc : asc (a 73) 0 hc) (hh : ∀ i, 0 ≤ i → i < hc → 0 ≤ a 73 i ∧ a 73 i < K ∧ (a (b + 8) (a 73 i) = 0 ∨ a (b + 8) (a 73 i) = 1) ∧ (a (b + 8) (a 73 i) = 0 → a (b + 11 + 2) (a 73 i + 1) - a (b + 11 + 2) (a 73 i) = 2 ∧ 0 ≤ a (b + 11 + 1) (a (b + 11 + 2) (a 73 i) + 1) ∧ a (b + 11 + 1) (a (b + 11 + 2) (a 73 i) + 1) < 300))
    (hp : f 66 12 = pc) (p0 : 0 ≤ pc) (p1 : pc ≤ 200) (hM3 : f (b + 23) 2 + pc ≤ 65536) (hM6 : f (b + 26) 2 + pc ≤ 65536) (hasc2 : asc (a 74) 0 pc) (hr2 : ∀ i, 0 ≤ i → i < pc → 0 ≤ a 74 i ∧ a 74 i < 90000) (hnd : ∀ x, 0 ≤ x → x < 300 → 0 ≤ a 72 x ∧ a 72 x ≤ 12000)
    (h2l : f b 2 = len) (hln0 : 0 ≤ len) (hln1 : len ≤ 8192) (ht : byt (a (b + 2))) (hsz : p37 - a (b + 14 + 2) K = sz) (hsz2 : p37 - a (b + 17 + 2) K = sz) (hs0 : 0 ≤ sz) (hs1 : sz ≤ 400) (hk3 : ∀ i, 0 ≤ i → i < sz → tkn (a (b + 2)) len (a (b + 14 + 1) (a (b + 14 + 2) K + i)) (A18 (4096 * q + (a (b + 14 + 2) K + i)))) (hnm : ∀ i, 0 ≤ i → i < sz → -1 ≤ a (b + 17 + 1) (a (b + 17 + 2) K + i) ∧ a (b + 17 + 1) (a (b + 17 + 2) K + i) < K) (hki : ∀ k, 0 ≤ k → k < K → 0 ≤ a (b + 8) k ∧ a (b + 8) k ≤ 3) :
    ∃ (f2 : Nat → Nat → Int) (a2 : Nat → Int → Int) (ni2 : Nat → Nat) (j2 : Nat → Int → Int64) (u v w' : Int), g_X4_endStatement n 65 (cs f d a ni j) = some (cs f2 d a2 ni2 j2) ∧ CE b K kd D ls ll p36 p37 u v w' f f2 a a2 ∧ Grw b (K + 1) f2 a2 ni2 ∧ f2 66 9 = hc ∧ a2 (b + 10) = a (b + 10) ∧ a2 71 = a 71 ∧ a2 72 = a 72 ∧ a2 73 = a 73 ∧ (∀ i, ¬(b ≤ i ∧ i < b + 32) → ni2 i = ni i) ∧ (∀ i, ¬(b ≤ i ∧ i < b + 32) → j2 i = j i) ∧
      (f (b + 20) 2 ≤ u ∧ u ≤ f (b + 20) 2 + hc ∧ (∀ t, t < f (b + 20) 2 → a2 (b + 20 + 1) t = a (b + 20 + 1) t) ∧ asc (a2 (b + 20 + 1)) (f (b + 20) 2) u ∧ (∀ h, mem (a2 (b + 20 + 1)) (f (b + 20) 2) u h ↔ ∃ i, 0 ≤ i ∧ i < hc ∧ a 73 i = h ∧ (a (b + 8) h = 1 ∨ 0 < ndp (a 72) (a (b + 11 + 1)) (a (b + 11 + 2) K) l 1 (a (b + 11 + 1) (a (b + 11 + 2) h + 1))))) ∧
      (f (b + 23) 2 ≤ v ∧ v ≤ f (b + 23) 2 + pc ∧ f (b + 26) 2 ≤ w' ∧ w' ≤ f (b + 26) 2 + pc ∧ (∀ t, t < f (b + 23) 2 → a2 (b + 23 + 1) t = a (b + 23 + 1) t) ∧ (∀ t, t < f (b + 26) 2 → a2 (b + 26 + 1) t = a (b + 26 + 1) t) ∧ asc (a2 (b + 23 + 1)) (f (b + 23) 2) v ∧ asc (a2 (b + 26 + 1)) (f (b + 26) 2) w' ∧ (∀ z, mem (a2 (b + 23 + 1)) (f (b + 23) 2) v z ↔ mem (a 74) 0 pc z ∧ 0 < ndp (a 72) (a (b + 11 + 1)) (a (b + 11 + 2) K) l 1 (z / 300) ∧ 0 < ndp (a 72) (a (b + 11 + 1)) (a (b + 11 + 2) K) l 1 (z - z / 300 * 300)) ∧ (∀ z, mem (a2 (b + 26 + 1)) (f (b + 26) 2) w' z ↔ kd = 3 ∧ mem (a 74) 0 pc z)) ∧
      (∀ k, k ≠ K → a2 (b + 29) k = a (b + 29) k ∧ a2 (b + 30) k = a (b + 30) k) ∧ (kd = 3 → 0 ≤ a2 (b + 30) K ∧ a2 (b + 30) K ≤ sz ∧ ((a2 (b + 29) K = 1 ∧ 0 < sz ∧ one q (a (b + 2)) (a (b + 14 + 1)) A18 (a (b + 14 + 2) K) 40 ∧ 1 ≤ a2 (b + 30) K ∧ (∀ i, 1 ≤ i → i < a2 (b + 30) K → ¬one q (a (b + 2)) (a (b + 14 + 1)) A18 (a (b + 14 + 2) K + i) 41) ∧ (a2 (b + 30) K < sz → one q (a (b + 2)) (a (b + 14 + 1)) A18 (a (b + 14 + 2) K + a2 (b + 30) K) 41)) ∨ (a2 (b + 29) K = 0 ∧ ¬(0 < sz ∧ one q (a (b + 2)) (a (b + 14 + 1)) A18 (a (b + 14 + 2) K) 40) ∧ a2 (b + 30) K = sz))) ∧ (∀ x, ¬(K * 4 ≤ x ∧ x < K * 4 + 4) → j2 (b + 31) x = j (b + 31) x) ∧ (kd = 3 → ∀ x, 0 ≤ x → x < 200 → (bt (j2 (b + 31)) (K * 4) x ↔ ∃ i, 0 ≤ i ∧ i < a2 (b + 30) K ∧ ((a (b + 17 + 1) (a (b + 17 + 2) K + i) = x ∧ v1 (a (b + 8)) K kd x = 2) ∨ (0 ≤ a (b + 17 + 1) (a (b + 17 + 2) K + i) ∧ v1 (a (b + 8)) K kd (a (b + 17 + 1) (a (b + 17 + 2) K + i)) = 3 ∧ bt (j (b + 31)) (a (b + 17 + 1) (a (b + 17 + 2) K + i) * 4) x)))) := by
  have hbb : b = 1 ∨ b = 33 := hb
  obtain ⟨E1, R11, R14, R17⟩ := c_end1 (f := f) (d := d) (a := a) (ni := ni) (j := j) (n := n) (K := K) (kd := kd) (D := D) (ls := ls) (ll := ll) (p36 := p36) (p37 := p37) hn hb hd4 grw h5 hK0 hK h6 (by omega) (by omega) h66 h7 h8 hl0 hl1 hl2 e36 e37 e37'
  obtain ⟨w1, w2, w3, w4, w5, w6, w7, w8, w9, w10, w11, w12⟩ := grw
  rw [if_neg (by omega)] at E1
  have eE : ∀ i, ¬(b + 3 ≤ i ∧ i ≤ b + 6) ∧ i ≠ b + 8 ∧ i ≠ b + 9 ∧ i ≠ b + 11 + 2 ∧ i ≠ b + 14 + 2 ∧ i ≠ b + 17 + 2 → aE1 b K kd D ls ll p36 p37 a i = a i := by
    rintro i ⟨i1, i2, i3, i4, i5, i6⟩
    unfold aE1
    simp (disch := omega) only [v2_o]
  have eE8 : aE1 b K kd D ls ll p36 p37 a (b + 8) = v1 (a (b + 8)) K kd := by unfold aE1; simp (disch := omega) only [v2_o, v2_s]
  have eE11 : aE1 b K kd D ls ll p36 p37 a (b + 11 + 2) = v1 (a (b + 11 + 2)) (K + 1) p36 := by unfold aE1; simp (disch := omega) only [v2_o, v2_s]
  have eE14 : aE1 b K kd D ls ll p36 p37 a (b + 14 + 2) = v1 (a (b + 14 + 2)) (K + 1) p37 := by unfold aE1; simp (disch := omega) only [v2_o, v2_s]
  have eE17 : aE1 b K kd D ls ll p36 p37 a (b + 17 + 2) = v1 (a (b + 17 + 2)) (K + 1) p37 := by unfold aE1; simp (disch := omega) only [v2_o, v2_s]
  have i11 := eE (b + 11 + 1) (by omega)
  have i73 := eE 73 (by omega)
  have i74 := eE 74 (by omega)
  have i72 := eE 72 (by omega)
  have i20 := eE (b + 20 + 2) (by omega)
  have i23 := eE (b + 23 + 2) (by omega)
  have i26 := eE (b + 26 + 2) (by omega)
  have j20 := eE (b + 20 + 1) (by omega)
  have j23 := eE (b + 23 + 1) (by omega)
  have j26 := eE (b + 26 + 1) (by omega)
  have hf11 : fE1 b K f (b + 11) 3 = K + 1 ∧ fE1 b K f (b + 11) 2 = p36 ∧ fE1 b K f (b + 14) 3 = K + 1 ∧ fE1 b K f (b + 14) 2 = p37 ∧ fE1 b K f (b + 17) 3 = K + 1 ∧ fE1 b K f (b + 17) 2 = p37 ∧ fE1 b K f (b + 20) = f (b + 20) ∧ fE1 b K f (b + 23) = f (b + 23) ∧ fE1 b K f (b + 26) = f (b + 26) ∧ fE1 b K f 66 = f 66 ∧ fE1 b K f b = f b ∧ fE1 b K f 65 = f 65 := by
    unfold fE1
    refine ⟨?_, ?_, ?_, ?_, ?_, ?_, ?_, ?_, ?_, ?_, ?_, ?_⟩ <;> simp (disch := omega) only [u2_a, u2_b, u2_c] <;> first | trivial | assumption
  obtain ⟨fa, fb, fc, fd, fe, ff, fg, fh, fi, fj, fk, fl'⟩ := hf11
  obtain ⟨g, g2, h2, N, N2, N3, u, v, w', EF, ⟨u1', u2', u3', u4', u5', u6'⟩, v1', v2', v3', v4', v5', v6', v7', v8', v9', v10', v11', v12'⟩ := c_makeFrame (f := fE1 b K f) (d := d) (a := aE1 b K kd D ls ll p36 p37 a) (ni := ni) (j := j) (n := n) (K := K) (hc := hc) (pc := pc) (l := l) (kd := kd) hb hn (by rw [fa, fb, eE11]; exact R11) (by rw [fg, i20]; exact w4) (by rw [fh, i23]; exact w5) (by rw [fi, i26]; exact w6) hK0 hK (by rw [fa]; omega) (by rw [eE11, v1_s, v1_o (by omega)]; exact hl) hl60 (by rw [eE11, v1_o (by omega), i11]; exact hr) (by rw [eE8, v1_s]) hk (by rw [fj]; exact hc9) c0 (by omega) (by rw [fg]; exact hM) (by rw [i73]; exact hasc) (fun i x1 x2 => by
      obtain ⟨y1, y2, y3, y4⟩ := hh i x1 x2
      rw [i73, eE8, eE11, i11, fa, v1_o (by omega), v1_o (by omega), v1_o (by omega)]
      exact ⟨y1, by omega, by omega, y3, y4⟩) (by rw [fj]; exact hp) p0 p1 (by rw [fh]; exact hM3) (by rw [fi]; exact hM6) (by rw [i74]; exact hasc2) (by rw [i74]; exact hr2) (by rw [i72]; exact hnd)
  rw [fg] at u1' u2' u3' u4' u5' u6'
  rw [fh] at v1' v2' v5' v7' v9' v11'
  rw [fi] at v3' v4' v6' v8' v10' v12'
  rw [j20] at u3'
  rw [j23] at v5'
  rw [j26] at v6'
  rw [i72, i11, eE11, v1_o (by omega : K ≠ K + 1), i73, eE8] at u5'
  rw [i74, i72, i11, eE11, v1_o (by omega : K ≠ K + 1)] at v9'
  rw [i74] at v10'
  rw [EF, bd_some] at E1
  have f4 : ∀ i, i ≠ b + 20 ∧ i ≠ b + 23 ∧ i ≠ b + 26 → u2 (u2 (u2 (fE1 b K f) (b + 20) 2 u) (b + 23) 2 v) (b + 26) 2 w' i = fE1 b K f i := by
    rintro i ⟨x1, x2, x3⟩
    rw [u2_b x3, u2_b x2, u2_b x1]
  have a4 : ∀ i, i ≠ b + 20 + 1 ∧ i ≠ b + 23 + 1 ∧ i ≠ b + 26 + 1 → u1 (u1 (u1 (aE1 b K kd D ls ll p36 p37 a) (b + 20 + 1) g) (b + 23 + 1) g2) (b + 26 + 1) h2 i = aE1 b K kd D ls ll p36 p37 a i := by
    rintro i ⟨x1, x2, x3⟩
    rw [u1_o x3, u1_o x2, u1_o x1]
  obtain ⟨E2, R20, R23, R26⟩ := c_end2 (f := u2 (u2 (u2 (fE1 b K f) (b + 20) 2 u) (b + 23) 2 v) (b + 26) 2 w') (d := d) (a := u1 (u1 (u1 (aE1 b K kd D ls ll p36 p37 a) (b + 20 + 1) g) (b + 23 + 1) g2) (b + 26 + 1) h2) (ni := u1 (u1 (u1 ni (b + 20 + 1) N) (b + 23 + 1) N2) (b + 26 + 1) N3) (j := j) (n := n) (K := K) (kd := kd) (u := u) (v := v) (w' := w') hb hd4 (by simp (disch := omega) only [u2_a, u2_b, u2_c, u1_o, u1_s]; rw [fg]; exact u6') (by simp (disch := omega) only [u2_a, u2_b, u2_c, u1_o, u1_s]; rw [fh]; exact v11') (by simp (disch := omega) only [u2_a, u2_b, u2_c, u1_o, u1_s]; rw [fi]; exact v12') (by simp (disch := omega) only [u2_b, u2_c]; rw [fg]; exact w10) (by simp (disch := omega) only [u2_b, u2_c]; rw [fh]; exact w11) (by simp (disch := omega) only [u2_b, u2_c]; rw [fi]; exact w12) (by simp (disch := omega) only [u2_b, u2_a]) (by simp (disch := omega) only [u2_b, u2_a]) (by simp (disch := omega) only [u2_a]) (by rw [f4 b (by omega), fk]; exact h5) hK0 hK (by rw [f4 65 (by omega), fl']; exact h6) (by omega) (by omega)
  simp (disch := omega) only [u1_o, u1_s] at R20 R23 R26
  rw [i20] at R20
  rw [i23] at R23
  rw [i26] at R26
  generalize hF4 : u2 (u2 (u2 (fE1 b K f) (b + 20) 2 u) (b + 23) 2 v) (b + 26) 2 w' = F4 at *
  generalize hA4 : u1 (u1 (u1 (aE1 b K kd D ls ll p36 p37 a) (b + 20 + 1) g) (b + 23 + 1) g2) (b + 26 + 1) h2 = A4 at *
  have gA : A4 (b + 20 + 1) = g ∧ A4 (b + 23 + 1) = g2 ∧ A4 (b + 26 + 1) = h2 := by
    rw [← hA4]
    refine ⟨?_, ?_, ?_⟩ <;> simp (disch := omega) only [u1_o, u1_s]
  have gF : F4 (b + 20) 2 = u ∧ F4 (b + 23) 2 = v ∧ F4 (b + 26) 2 = w' := by
    rw [← hF4]
    refine ⟨?_, ?_, ?_⟩ <;> simp (disch := omega) only [u2_b, u2_a]
  clear hF4 hA4
  have az : ∀ i, i ≠ b + 20 + 2 ∧ i ≠ b + 23 + 2 ∧ i ≠ b + 26 + 2 → aE2 b K u v w' A4 i = A4 i := by
    rintro i ⟨x1, x2, x3⟩
    unfold aE2
    simp (disch := assumption) only [v2_o]
  have ao : ∀ i, i ≠ b + 20 + 2 ∧ i ≠ b + 23 + 2 ∧ i ≠ b + 26 + 2 ∧ i ≠ b + 20 + 1 ∧ i ≠ b + 23 + 1 ∧ i ≠ b + 26 + 1 ∧ ¬(b + 3 ≤ i ∧ i ≤ b + 6) ∧ i ≠ b + 8 ∧ i ≠ b + 9 ∧ i ≠ b + 11 + 2 ∧ i ≠ b + 14 + 2 ∧ i ≠ b + 17 + 2 → aE2 b K u v w' A4 i = a i := by
    intro i h
    rw [az i (by omega), a4 i (by omega)]
    exact eE i (by omega)
  have aE : ∀ i, b + 3 ≤ i ∧ i ≤ b + 17 + 2 → aE2 b K u v w' A4 i = aE1 b K kd D ls ll p36 p37 a i := by
    rintro i h
    rw [az i (by omega), a4 i (by omega)]
  have s20 : aE2 b K u v w' A4 (b + 20 + 2) = v1 (a (b + 20 + 2)) (K + 1) u := by
    unfold aE2
    simp (disch := omega) only [v2_o, v2_s]
    rw [a4 _ (by omega), i20]
  have s23 : aE2 b K u v w' A4 (b + 23 + 2) = v1 (a (b + 23 + 2)) (K + 1) v := by
    unfold aE2
    simp (disch := omega) only [v2_o, v2_s]
    rw [a4 _ (by omega), i23]
  have s26 : aE2 b K u v w' A4 (b + 26 + 2) = v1 (a (b + 26 + 2)) (K + 1) w' := by
    unfold aE2
    simp (disch := omega) only [v2_o, v2_s]
    rw [a4 _ (by omega), i26]
  have s11 := (aE (b + 11 + 2) (by omega)).trans eE11
  have s14 := (aE (b + 14 + 2) (by omega)).trans eE14
  have s17 := (aE (b + 17 + 2) (by omega)).trans eE17
  have s8 := (aE (b + 8) (by omega)).trans eE8
  have s3 : aE2 b K u v w' A4 (b + 3) = v1 (a (b + 3)) (hd (a (b + 2)) ls ll) (300 + K) := by
    rw [aE _ (by omega)]; unfold aE1; simp (disch := omega) only [v2_o, v2_s]
  have s4 : aE2 b K u v w' A4 (b + 4) = v1 (a (b + 4)) (300 + K) (a (b + 3) (hd (a (b + 2)) ls ll)) := by
    rw [aE _ (by omega)]; unfold aE1; simp (disch := omega) only [v2_o, v2_s]
  have s5 : aE2 b K u v w' A4 (b + 5) = v1 (a (b + 5)) (300 + K) ls := by
    rw [aE _ (by omega)]; unfold aE1; simp (disch := omega) only [v2_o, v2_s]
  have s6 : aE2 b K u v w' A4 (b + 6) = v1 (a (b + 6)) (300 + K) ll := by
    rw [aE _ (by omega)]; unfold aE1; simp (disch := omega) only [v2_o, v2_s]
  have s9 : aE2 b K u v w' A4 (b + 9) = v1 (a (b + 9)) K D := by
    rw [aE _ (by omega)]; unfold aE1; simp (disch := omega) only [v2_o, v2_s]
  have t20 : aE2 b K u v w' A4 (b + 20 + 1) = g := (az _ (by omega)).trans gA.1
  have t23 : aE2 b K u v w' A4 (b + 23 + 1) = g2 := (az _ (by omega)).trans gA.2.1
  have t26 : aE2 b K u v w' A4 (b + 26 + 1) = h2 := (az _ (by omega)).trans gA.2.2
  have fin : ∀ (f2 : Nat → Nat → Int) (a2 : Nat → Int → Int) (j2 : Nat → Int → Int64), (∀ i, i ≠ b ∧ i ≠ 65 → f2 i = u2 (u2 (u2 F4 (b + 20) 3 (K + 1)) (b + 23) 3 (K + 1)) (b + 26) 3 (K + 1) i) → f2 b = u2 F4 b 5 (K + 1) b → f2 65 4 = 0 → (∀ i, i ≠ b + 29 ∧ i ≠ b + 30 → a2 i = aE2 b K u v w' A4 i) → (CE b K kd D ls ll p36 p37 u v w' f f2 a a2 ∧ Grw b (K + 1) f2 a2 (u1 (u1 (u1 ni (b + 20 + 1) N) (b + 23 + 1) N2) (b + 26 + 1) N3) ∧ f2 66 9 = hc ∧ a2 (b + 10) = a (b + 10) ∧ a2 71 = a 71 ∧ a2 72 = a 72 ∧ a2 73 = a 73) := by
    intro f2 a2 j2 hf2 hfb hf65 ha2
    have q : ∀ i, i ≠ b + 29 ∧ i ≠ b + 30 ∧ i ≠ b + 20 + 2 ∧ i ≠ b + 23 + 2 ∧ i ≠ b + 26 + 2 ∧ i ≠ b + 20 + 1 ∧ i ≠ b + 23 + 1 ∧ i ≠ b + 26 + 1 ∧ ¬(b + 3 ≤ i ∧ i ≤ b + 6) ∧ i ≠ b + 8 ∧ i ≠ b + 9 ∧ i ≠ b + 11 + 2 ∧ i ≠ b + 14 + 2 ∧ i ≠ b + 17 + 2 → a2 i = a i := fun i h => by rw [ha2 i (by omega)]; exact ao i (by omega)
    have p : ∀ i, i ≠ b ∧ i ≠ 65 ∧ i ≠ b + 20 ∧ i ≠ b + 23 ∧ i ≠ b + 26 → f2 i = fE1 b K f i := fun i h => by
      rw [hf2 i (by omega), u2_b (by omega), u2_b (by omega), u2_b (by omega)]
      exact f4 i (by omega)
    have p20 : f2 (b + 20) 3 = K + 1 ∧ f2 (b + 20) 2 = u ∧ f2 (b + 23) 3 = K + 1 ∧ f2 (b + 23) 2 = v ∧ f2 (b + 26) 3 = K + 1 ∧ f2 (b + 26) 2 = w' := by
      rw [hf2 (b + 20) (by omega), hf2 (b + 23) (by omega), hf2 (b + 26) (by omega)]
      refine ⟨?_, ?_, ?_, ?_, ?_, ?_⟩ <;> simp (disch := omega) only [u2_b, u2_a, u2_c] <;> first | trivial | exact gF.1 | exact gF.2.1 | exact gF.2.2
    have p11 := p (b + 11) (by omega)
    have p14 := p (b + 14) (by omega)
    have p17 := p (b + 17) (by omega)
    have p66 := (p 66 (by omega)).trans fj
    have x11 := (ha2 (b + 11 + 2) (by omega)).trans s11
    have x14 := (ha2 (b + 14 + 2) (by omega)).trans s14
    have x17 := (ha2 (b + 17 + 2) (by omega)).trans s17
    have x20 := (ha2 (b + 20 + 2) (by omega)).trans s20
    have x23 := (ha2 (b + 23 + 2) (by omega)).trans s23
    have x26 := (ha2 (b + 26 + 2) (by omega)).trans s26
    refine ⟨⟨⟨?_, hf65, ?_, ?_, ?_, fun k _ => by rw [p66], ?_, ?_, ?_, p20.2.1, p20.2.2.2.1, p20.2.2.2.2.2⟩, fun i y1 y2 => ⟨?_, q i (by omega)⟩, ⟨q _ (by omega), q _ (by omega), (ha2 _ (by omega)).trans s3, (ha2 _ (by omega)).trans s4, (ha2 _ (by omega)).trans s5, (ha2 _ (by omega)).trans s6, (ha2 _ (by omega)).trans s8, (ha2 _ (by omega)).trans s9⟩, ⟨q _ (by omega), x11, q _ (by omega), x14, q _ (by omega), x17, x20, x23, x26⟩, q _ (by omega), q _ (by omega), q _ (by omega), q _ (by omega), q _ (by omega), q _ (by omega)⟩, ?_, by rw [p66]; exact hc9, q _ (by omega), q _ (by omega), q _ (by omega), q _ (by omega)⟩
    · rw [p 77 (by omega)]; unfold fE1; simp (disch := omega) only [u2_b]
    · rw [hfb, u2_a]
    · rw [hfb, u2_c (by decide), f4 b (by omega), fk]
    · rw [hfb, u2_c (by decide), f4 b (by omega), fk]
    · rw [p11]; exact fb
    · rw [p14]; exact fd
    · rw [p17]; exact ff
    · rw [p i (by omega)]; unfold fE1; simp (disch := omega) only [u2_b]
    · unfold Grw
      rw [p11, p14, p17, fa, fb, fc, fd, fe, ff, p20.1, p20.2.1, p20.2.2.1, p20.2.2.2.1, p20.2.2.2.2.1, p20.2.2.2.2.2, x11, x14, x17, x20, x23, x26]
      simp (disch := omega) only [u1_o, u1_s]
      exact ⟨R11, R14, R17, R20, R23, R26, trivial, trivial, trivial, trivial, trivial, trivial⟩
  have niO : ∀ i, ¬(b ≤ i ∧ i < b + 32) → u1 (u1 (u1 ni (b + 20 + 1) N) (b + 23 + 1) N2) (b + 26 + 1) N3 i = ni i := by
    intro i hi
    simp (disch := omega) only [u1_o]
  by_cases k3 : kd = 3
  · rw [if_pos k3] at E2
    obtain ⟨cm, le, jx, E3, q1, q2, q3, q4, q5⟩ := c_end3 (f := u2 (u2 (u2 F4 (b + 20) 3 (K + 1)) (b + 23) 3 (K + 1)) (b + 26) 3 (K + 1)) (d := d) (a := aE2 b K u v w' A4) (ni := u1 (u1 (u1 ni (b + 20 + 1) N) (b + 23 + 1) N2) (b + 26 + 1) N3) (j := j) (n := n) (K := K) (len := len) (q := q) (sz := sz) (A18 := A18) (u := u) (v := v) (w' := w') hn hb hd4 (by simp (disch := omega) only [u2_b]; rw [f4 b (by omega), fk]; exact h5) hK0 hK (by simp (disch := omega) only [u2_b]; rw [f4 b (by omega), fk]; exact h2l) hln0 hln1 (by rw [ao (b + 2) (by omega)]; exact ht) (by simp (disch := omega) only [u2_b, u1_o]; rw [f4 (b + 14) (by omega), fc, fd, s14]; exact R14) (by simp (disch := omega) only [u2_b, u1_o]; rw [f4 (b + 17) (by omega), fe, ff, s17]; exact R17) (by simp (disch := omega) only [u2_b]; rw [f4 (b + 14) (by omega), fc]; omega) (by simp (disch := omega) only [u2_b]; rw [f4 (b + 17) (by omega), fe]; omega) (by rw [s14, v1_s, v1_o (by omega)]; exact hsz) (by rw [s17, v1_s, v1_o (by omega)]; exact hsz2) hs0 hs1 (fun i x1 x2 => by rw [ao (b + 2) (by omega), ao (b + 14 + 1) (by omega), s14, v1_o (by omega : K ≠ K + 1)]; exact hk3 i x1 x2) (fun i x1 x2 => by rw [ao (b + 17 + 1) (by omega), s17, v1_o (by omega : K ≠ K + 1)]; exact hnm i x1 x2) (fun k x1 x2 => by rw [s8, v1_o (by omega)]; exact hki k x1 x2)
    rw [ao (b + 2) (by omega), ao (b + 14 + 1) (by omega), s14, v1_o (by omega : K ≠ K + 1)] at q3
    rw [ao (b + 17 + 1) (by omega), s17, v1_o (by omega : K ≠ K + 1), s8] at q5
    obtain ⟨C1, C2, C3, C4, C5, C6, C7⟩ := fin (u2 (u2 (u2 (u2 (u2 F4 (b + 20) 3 (K + 1)) (b + 23) 3 (K + 1)) (b + 26) 3 (K + 1)) b 5 (K + 1)) 65 4 0) (v2 (v2 (aE2 b K u v w' A4) (b + 29) K cm) (b + 30) K le) (u1 j (b + 31) jx) (fun i h => by rw [u2_b h.2, u2_b h.1]) (by
      rw [u2_b (by omega)]
      funext y
      by_cases z : y = 5
      · rw [z, u2_a, u2_a]
      · rw [u2_c z, u2_c z]; simp (disch := omega) only [u2_b]) (by rw [u2_a]) (fun i h => by rw [v2_o h.2, v2_o h.1])
    have h29 : v2 (v2 (aE2 b K u v w' A4) (b + 29) K cm) (b + 30) K le (b + 29) = v1 (a (b + 29)) K cm := by
      rw [v2_o (by omega), v2_s, ao (b + 29) (by omega)]
    have h30 : v2 (v2 (aE2 b K u v w' A4) (b + 29) K cm) (b + 30) K le (b + 30) = v1 (a (b + 30)) K le := by
      rw [v2_s, v2_o (by omega), ao (b + 30) (by omega)]
    refine ⟨_, _, _, _, u, v, w', (E1.trans E2).trans E3, C1, C2, C3, C4, C5, C6, C7, niO, fun i hi => by rw [u1_o (by omega)], ?_, ?_, ?_, ?_, ?_, ?_⟩
    · rw [v2_o (by omega), v2_o (by omega), t20]; exact ⟨u1', u2', u3', u4', fun h => by
        rw [u5' h]
        constructor
        · rintro ⟨i, i1, i2, i3, i4⟩
          have := hh i i1 i2
          rw [v1_o (by omega), v1_o (by omega)] at i4
          exact ⟨i, i1, i2, i3, i4⟩
        · rintro ⟨i, i1, i2, i3, i4⟩
          have := hh i i1 i2
          exact ⟨i, i1, i2, i3, by rw [v1_o (by omega), v1_o (by omega)]; exact i4⟩⟩
    · rw [v2_o (by omega), v2_o (by omega), t23, v2_o (by omega), v2_o (by omega), t26]; exact ⟨v1', v2', v3', v4', v5', v6', v7', v8', v9', v10'⟩
    · intro k hk
      rw [h29, h30, v1_o hk, v1_o hk]; exact ⟨rfl, rfl⟩
    · intro _
      rw [h29, h30, v1_s, v1_s]
      exact ⟨q1, q2, q3⟩
    · intro x hx
      rw [u1_s]; exact q4 x hx
    · intro _ x x1 x2
      rw [u1_s, h30, v1_s]; exact q5 x x1 x2
  · rw [if_neg k3] at E2
    obtain ⟨C1, C2, C3, C4, C5, C6, C7⟩ := fin (fE2 b K F4) (aE2 b K u v w' A4) j (fun i h => by unfold fE2; rw [u2_b h.2, u2_b h.1]) (by
      unfold fE2
      rw [u2_b (by omega)]
      funext y
      by_cases z : y = 5
      · rw [z, u2_a, u2_a]
      · rw [u2_c z, u2_c z]; simp (disch := omega) only [u2_b]) (by unfold fE2; rw [u2_a]) (fun i h => rfl)
    refine ⟨_, _, _, _, u, v, w', E1.trans E2, C1, C2, C3, C4, C5, C6, C7, niO, fun _ _ => rfl, ?_, ?_, ?_, fun z => absurd z k3, fun _ _ => rfl, fun z => absurd z k3⟩
    · rw [t20]; exact ⟨u1', u2', u3', u4', fun h => by
        rw [u5' h]
        constructor
        · rintro ⟨i, i1, i2, i3, i4⟩
          have := hh i i1 i2
          rw [v1_o (by omega), v1_o (by omega)] at i4
          exact ⟨i, i1, i2, i3, i4⟩
        · rintro ⟨i, i1, i2, i3, i4⟩
          have := hh i i1 i2
          exact ⟨i, i1, i2, i3, by rw [v1_o (by omega), v1_o (by omega)]; exact i4⟩⟩
    · rw [t23, t26]; exact ⟨v1', v2', v3', v4', v5', v6', v7', v8', v9', v10'⟩
    · intro k hk
      rw [ao (b + 29) (by omega), ao (b + 30) (by omega)]; exact ⟨rfl, rfl⟩
end ENA
