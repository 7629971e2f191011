/-! The end of a statement: the class's steps -/
section CEN
variable {b n : Nat} {q S K P len c b0 e0 w : Int} {f0 : Nat → Nat → Int} {a0 : Nat → Int → Int} {ni0 : Nat → Nat} {j0 : Nat → Int → Int64} {F0 : Nat → Int} {A0 : Nat → Int → Int} {J0 : Nat → Int → Int64} {f : Nat → Nat → Int} {d : Nat → Nat} {a : Nat → Int → Int} {ni : Nat → Nat} {j : Nat → Int → Int64} {F : Nat → Int} {A : Nat → Int → Int} {J : Nat → Int → Int64}
/-- what the first half of endStatement() leaves -/
def fE1 (b : Nat) (K : Int) (f : Nat → Nat → Int) : Nat → Nat → Int := u2 (u2 (u2 f (b + 11) 3 (K + 1)) (b + 14) 3 (K + 1)) (b + 17) 3 (K + 1)
def aE1 (b : Nat) (K kd D ls ll p36 p37 : Int) (a : Nat → Int → Int) : Nat → Int → Int := v2 (v2 (v2 (v2 (v2 (v2 (v2 (v2 (v2 a (b + 8) K kd) (b + 9) K D) (b + 5) (300 + K) ls) (b + 6) (300 + K) ll) (b + 4) (300 + K) (a (b + 3) (hd (a (b + 2)) ls ll))) (b + 3) (hd (a (b + 2)) ls ll) (300 + K)) (b + 11 + 2) (K + 1) p36) (b + 14 + 2) (K + 1) p37) (b + 17 + 2) (K + 1) p37
theorem c_end1 {kd D ls ll p36 p37 : Int} (hn : 100000 ≤ n) (hb : bks b) (hd4 : d 4 = b) (grw : Grw b K f a ni) (h5 : f b 5 = K) (hK0 : 0 ≤ K) (hK : K < 200) (h6 : f 65 6 = kd) (hk0 : 0 ≤ kd) (hk3 : kd ≤ 3) (h66 : f 66 0 = D) (h7 : f 65 7 = ls) (h8 : f 65 8 = ll) (hl0 : 0 ≤ ls) (hl1 : 0 ≤ ll) (hl2 : ls + ll ≤ 8192) (e36 : f (b + 11) 2 = p36) (e37 : f (b + 14) 2 = p37) (e37' : f (b + 17) 2 = p37) :
    g_X4_endStatement n 65 (cs f d a ni j) = (if kd < 2 then (g_X7_addHypothesis n 66 b (qz K) (cs (fE1 b K f) d (aE1 b K kd D ls ll p36 p37 a) ni j)).bind fun x23 => g_X4_endStatement_125 n 65 (qz K) x23 else (g_X7_makeFrame n 66 b (qz K) (cs (fE1 b K f) d (aE1 b K kd D ls ll p36 p37 a) ni j)).bind fun x26 => g_X4_endStatement_125 n 65 (qz K) x26) ∧ Rw (K + 1) p36 (ni (b + 11 + 1)) (nC0 (b + 11 + 2)) 4096 (v1 (a (b + 11 + 2)) (K + 1) p36) ∧ Rw (K + 1) p37 (ni (b + 14 + 1)) (nC0 (b + 14 + 2)) 4096 (v1 (a (b + 14 + 2)) (K + 1) p37) ∧ Rw (K + 1) p37 (ni (b + 17 + 1)) (nC0 (b + 17 + 2)) 4096 (v1 (a (b + 17 + 2)) (K + 1) p37) := by
  have hbb : b = 1 ∨ b = 33 := hb
  obtain ⟨w1, w2, w3, w4, w5, w6, w7, w8, w9, w10, w11, w12⟩ := grw
  have nc11 : nC0 (b + 11 + 2) = 201 := by rcases hbb with rfl | rfl <;> rfl
  have nc14 : nC0 (b + 14 + 2) = 201 := by rcases hbb with rfl | rfl <;> rfl
  have nc17 : nC0 (b + 17 + 2) = 201 := by rcases hbb with rfl | rfl <;> rfl
  obtain ⟨d1, d2⟩ := hd_rng (a (b + 2)) ls ll
  have r11 := c_endRow (f := f) (d := d) (a := v2 (v2 (v2 (v2 (v2 (v2 a (b + 8) K kd) (b + 9) K D) (b + 5) (300 + K) ls) (b + 6) (300 + K) ll) (b + 4) (300 + K) (a (b + 3) (hd (a (b + 2)) ls ll))) (b + 3) (hd (a (b + 2)) ls ll) (300 + K)) (ni := ni) (j := j) (n := n) (M := 4096) (rws_b11 hb) (by simp (disch := omega) only [v2_o]; exact w1) (by rw [w7, nc11]; omega)
  simp (disch := omega) only [v2_o] at r11
  rw [w7, e36] at r11
  obtain ⟨r11, R11⟩ := r11
  have r14 := c_endRow (f := u2 f (b + 11) 3 (K + 1)) (d := d) (a := v2 (v2 (v2 (v2 (v2 (v2 (v2 a (b + 8) K kd) (b + 9) K D) (b + 5) (300 + K) ls) (b + 6) (300 + K) ll) (b + 4) (300 + K) (a (b + 3) (hd (a (b + 2)) ls ll))) (b + 3) (hd (a (b + 2)) ls ll) (300 + K)) (b + 11 + 2) (K + 1) p36) (ni := ni) (j := j) (n := n) (M := 4096) (rws_b14 hb) (by simp (disch := omega) only [v2_o, u2_b]; exact w2) (by simp (disch := omega) only [u2_b]; rw [w8, nc14]; omega)
  simp (disch := omega) only [v2_o, u2_b] at r14
  rw [w8, e37] at r14
  obtain ⟨r14, R14⟩ := r14
  have r17 := c_endRow (f := u2 (u2 f (b + 11) 3 (K + 1)) (b + 14) 3 (K + 1)) (d := d) (a := v2 (v2 (v2 (v2 (v2 (v2 (v2 (v2 a (b + 8) K kd) (b + 9) K D) (b + 5) (300 + K) ls) (b + 6) (300 + K) ll) (b + 4) (300 + K) (a (b + 3) (hd (a (b + 2)) ls ll))) (b + 3) (hd (a (b + 2)) ls ll) (300 + K)) (b + 11 + 2) (K + 1) p36) (b + 14 + 2) (K + 1) p37) (ni := ni) (j := j) (n := n) (M := 4096) (rws_b17 hb) (by simp (disch := omega) only [v2_o, u2_b]; exact w3) (by simp (disch := omega) only [u2_b]; rw [w9, nc17]; omega)
  simp (disch := omega) only [v2_o, u2_b] at r17
  rw [w9, e37'] at r17
  obtain ⟨r17, R17⟩ := r17
  refine ⟨?_, R11, R14, R17⟩
  have en := c_nadd (f := f) (d := d) (a := v2 (v2 a (b + 8) K kd) (b + 9) K D) (ni := ni) (j := j) (n := n) (s := ls) (l := ll) (id := 300 + K) hb hl0 hl1 hl2 (by omega) (by omega) hn
  simp (disch := omega) only [v2_o] at en
  unfold g_X4_endStatement g_X4_endStatement_0 g_X4_endStatement_110
  simp only [qz_lit]
  simp (disch := first | assumption | omega) only [gpc_65_1, gpc_65_3, hd4, gf_cs, h5, h6, h66, h7, h8, gpb_6, gpb_7, gpb_0, uab_8, uab_9, bd_some, qz_add]
  rw [en, bd_some]
  simp (disch := first | assumption | omega) only [gpc_65_1, hd4, gpb_9]
  rw [r11, bd_some]
  simp (disch := first | assumption | omega) only [gpc_65_1, hd4, gpb_10]
  rw [r14, bd_some]
  simp (disch := first | assumption | omega) only [gpc_65_1, hd4, gpb_11]
  rw [r17, bd_some]
  simp (disch := first | assumption | omega) only [gpc_65_1, gpc_65_3, hd4, gf_cs, u2_b, h6, qz_lt]
  rfl
/-- the second half -/
def fE2 (b : Nat) (K : Int) (f : Nat → Nat → Int) : Nat → Nat → Int := u2 (u2 (u2 (u2 (u2 f (b + 20) 3 (K + 1)) (b + 23) 3 (K + 1)) (b + 26) 3 (K + 1)) b 5 (K + 1)) 65 4 0
def aE2 (b : Nat) (K u v w : Int) (a : Nat → Int → Int) : Nat → Int → Int := v2 (v2 (v2 a (b + 20 + 2) (K + 1) u) (b + 23 + 2) (K + 1) v) (b + 26 + 2) (K + 1) w
theorem c_end2 {kd u v w' : Int} (hb : bks b) (hd4 : d 4 = b) (w4 : Rw (f (b + 20) 3) (f (b + 20) 2) (ni (b + 20 + 1)) (nC0 (b + 20 + 2)) 32768 (a (b + 20 + 2))) (w5 : Rw (f (b + 23) 3) (f (b + 23) 2) (ni (b + 23 + 1)) (nC0 (b + 23 + 2)) 65536 (a (b + 23 + 2))) (w6 : Rw (f (b + 26) 3) (f (b + 26) 2) (ni (b + 26 + 1)) (nC0 (b + 26 + 2)) 65536 (a (b + 26 + 2))) (w10 : f (b + 20) 3 = K) (w11 : f (b + 23) 3 = K) (w12 : f (b + 26) 3 = K) (eu : f (b + 20) 2 = u) (ev : f (b + 23) 2 = v) (ew : f (b + 26) 2 = w') (h5 : f b 5 = K) (hK0 : 0 ≤ K) (hK : K < 200) (h6 : f 65 6 = kd) (hk0 : 0 ≤ kd) (hk3 : kd ≤ 3) :
    g_X4_endStatement_125 n 65 (qz K) (cs f d a ni j) = (if kd = 3 then (g_X0_noteForm n b (qz K) (cs (u2 (u2 (u2 f (b + 20) 3 (K + 1)) (b + 23) 3 (K + 1)) (b + 26) 3 (K + 1)) d (aE2 b K u v w' a) ni j)).bind fun x11 => (g_X0_noteAxioms n (gP x11 65 1) (qz K) x11).bind fun x13 => g_X4_endStatement_179 n 65 x13 else some (cs (fE2 b K f) d (aE2 b K u v w' a) ni j)) ∧ Rw (K + 1) u (ni (b + 20 + 1)) (nC0 (b + 20 + 2)) 32768 (v1 (a (b + 20 + 2)) (K + 1) u) ∧ Rw (K + 1) v (ni (b + 23 + 1)) (nC0 (b + 23 + 2)) 65536 (v1 (a (b + 23 + 2)) (K + 1) v) ∧ Rw (K + 1) w' (ni (b + 26 + 1)) (nC0 (b + 26 + 2)) 65536 (v1 (a (b + 26 + 2)) (K + 1) w') := by
  have hbb : b = 1 ∨ b = 33 := hb
  have nc20 : nC0 (b + 20 + 2) = 201 := by rcases hbb with rfl | rfl <;> rfl
  have nc23 : nC0 (b + 23 + 2) = 201 := by rcases hbb with rfl | rfl <;> rfl
  have nc26 : nC0 (b + 26 + 2) = 201 := by rcases hbb with rfl | rfl <;> rfl
  have r20 := c_endRow (f := f) (d := d) (a := a) (ni := ni) (j := j) (n := n) (rws_b20 hb) w4 (by rw [w10, nc20]; omega)
  rw [w10, eu] at r20
  obtain ⟨r20, R20⟩ := r20
  have r23 := c_endRow (f := u2 f (b + 20) 3 (K + 1)) (d := d) (a := v2 a (b + 20 + 2) (K + 1) u) (ni := ni) (j := j) (n := n) (M := 65536) (rws_b23 hb) (by simp (disch := omega) only [v2_o, u2_b]; exact w5) (by simp (disch := omega) only [u2_b]; rw [w11, nc23]; omega)
  simp (disch := omega) only [v2_o, u2_b] at r23
  rw [w11, ev] at r23
  obtain ⟨r23, R23⟩ := r23
  have r26 := c_endRow (f := u2 (u2 f (b + 20) 3 (K + 1)) (b + 23) 3 (K + 1)) (d := d) (a := v2 (v2 a (b + 20 + 2) (K + 1) u) (b + 23 + 2) (K + 1) v) (ni := ni) (j := j) (n := n) (M := 65536) (rws_b26 hb) (by simp (disch := omega) only [v2_o, u2_b]; exact w6) (by simp (disch := omega) only [u2_b]; rw [w12, nc26]; omega)
  simp (disch := omega) only [v2_o, u2_b] at r26
  rw [w12, ew] at r26
  obtain ⟨r26, R26⟩ := r26
  refine ⟨?_, R20, R23, R26⟩
  unfold g_X4_endStatement_125
  simp only [qz_lit]
  rw [gpc_65_1, hd4, gpb_12 hb, r20, bd_some, gpc_65_1, hd4, gpb_13 hb, r23, bd_some, gpc_65_1, hd4, gpb_14 hb, r26, bd_some]
  unfold aE2
  simp (disch := first | assumption | omega) only [gpc_65_1, hd4, gf_cs, u2_b, h6, qz_inj]
  by_cases z : kd = 3
  · rw [if_pos z, if_pos z]
  · rw [if_neg z, if_neg z]
    unfold g_X4_endStatement_179 fE2
    simp (disch := first | assumption | omega) only [qz_lit, gpc_65_1, hd4, gf_cs, wf_cs, u2_b, h5, qz_add, bd_some]
end CEN
