/-! trace: the class as the reference, to the end -/
section TRB
variable {n b b2 : Nat} {q S K P len dl p R : Int} {f f2 : Nat → Nat → Int} {d d2 : Nat → Nat} {a a2 : Nat → Int → Int} {ni ni2 : Nat → Nat} {j j2 : Nat → Int → Int64} {F F2 : Nat → Int} {A A2 : Nat → Int → Int} {J : Nat → Int → Int64}
theorem rel_trF (R : Rel0 q b b2 S K P len dl f d a ni j F A J) (X : TRF f d a ni j F A f2 d2 a2 ni2 j2 F2 A2) (h9 : f2 0 9 = f 0 9) (h71 : F2 71 = 0) (h3 : F2 3 = p) (W : RWm 93 f2 a2 ni2) : Rel0 q b b2 S K P len dl (u2 (u2 (u2 f2 0 10 p) 94 3 0) 94 2 0) d2 a2 ni2 j2 F2 A2 J := by
  have w1 := rw_clear W.1
  refine rel_tr R ⟨fun x x1 x2 x3 => ?_, X.2⟩ ?_ ?_ ?_ ?_
  · rw [u2_b (by omega), u2_b (by omega), u2_b x1]
    exact X.1 x x1 x2 x3
  · rw [u2_b (by decide), u2_b (by decide), u2_c (by decide)]
    exact h9
  · rw [u2_b (by decide), u2_b (by decide), u2_a, h3]
  · unfold Rtr
    rw [h71, u2_a, u2_c (by decide), u2_a]
    exact ⟨w1, rfl, by decide, by decide, fun r r0 r1 => by omega⟩
  · rw [u2_b (by decide), u2_b (by decide), u2_b (by decide)]
    exact W.2
theorem c_tr74 {z : Int} (z0 : -10 ≤ z) (z1 : z ≤ 1) (hz : z ≠ 0) (hp : f 78 2 = p) : g_X10_trace_74 n 0 (qz z) (cs f d a ni j) = some (qz (if z = 1 then -9 else z - 100), cs (u2 (u2 (u2 f 0 10 p) 94 3 0) 94 2 0) d a ni j) := by
  unfold g_X10_trace_74
  simp only [zl0, zl1, zlm9, show (-100 : Int32) = qz (-100) from id rfl]
  rw [gpc_0_3, gf_cs, hp, wf_cs, bd_some, if_neg (by rw [qz_inj (by omega) (by omega) (by omega) (by omega)]; exact hz), gpc_0_5, gpc_93_0, c_rclear (rwm_1 (Or.inr rfl)), bd_some]
  by_cases y : z = 1
  · rw [y, if_pos rfl, if_pos rfl]
  · rw [if_neg (by rw [qz_inj (by omega) (by omega) (by omega) (by omega)]; exact y), if_neg y, qz_add, show -100 + z = z - 100 by omega]
theorem m_tr68 {z : Int} (hz : F 54 = z) : g_X11_trace_68 n 0 (ms F A J) = some (qz (z - 100), ms (u1 F 3 (F 55)) A J) := by
  unfold g_X11_trace_68
  rw [gf_ms, wf_ms, bd_some, gf_ms, u1_o (by decide), hz, zl100, qz_sub]
theorem ok_trace : Ok_trace Rel := by
  rintro n hn sC sM R a0 a1
  obtain ⟨q, b, b2, S, K, P, len, dl, f, d, a, ni, j, F, A, J, rfl, rfl, R0⟩ := R
  have R1 := R0
  obtain ⟨r1, r2, r3, r4, r5, r6, r7, r8, r9, r10, r11, r12, r13, r14⟩ := R1
  obtain ⟨k, k1, k2, rfl⟩ := qz_of a0
  obtain ⟨t, t1, t2, rfl⟩ := qz_of a1
  have hq := bq_q r1
  have hb := bq_b r1
  have hbb : b = 1 ∨ b = 33 := hb
  have hm : mch 93 := Or.inr rfl
  have hmi : mi 93 = 8 := rfl
  have W0 : RWm 93 f a ni := ⟨r11.1, r12.2.2.1⟩
  generalize hf1 : u2 (u2 (u2 f 0 10 0) 94 3 0) 94 2 0 = f1
  generalize hF1 : u1 (u1 F 3 0) 71 0 = F1
  have X0 : TRF f d a ni j F A f d a ni j F1 A := ⟨fun _ _ _ _ => ⟨rfl, rfl, rfl, rfl⟩, fun _ _ _ => rfl, fun x x1 x2 _ _ _ => by rw [← hF1, u1_o x2, u1_o x1], fun _ _ => rfl⟩
  have h71 : F1 71 = 0 := by rw [← hF1, u1_s]
  have h3 : F1 3 = 0 := by rw [← hF1, u1_o (by decide), u1_s]
  have RR : Rel0 q b b2 S K P len dl f1 d a ni j F1 A J := by
    rw [← hf1]
    exact rel_trF R0 X0 rfl h71 h3 W0
  have R2 := RR
  obtain ⟨-, -, s3, -, -, -, s7, s8, -, -, s11, s12, s13, s14⟩ := R2
  have G := s7
  obtain ⟨⟨b1, b2', b3, b4, b5, b6, b7, b8, b9⟩, gn, glb, gk, gf, gt, ghy, gma, gun, gpo, gpr, gfm, gax, grw⟩ := s7
  have hK0 : 0 ≤ K := gn.2.2.1
  have hK1 : K ≤ 200 := gn.2.2.2.1
  have eC := c_isPr (n := n) (d := d) (j := j) (ni := ni) (f := f1) (a := a) hb k1 k2 (by omega) (by omega) (fun k x1 x2 => by have := gk k x1 (by omega); omega)
  have eM := m_isKind (n := n) (F := F1) (A := A) (J := J) (l := 3) s3 hq b4 hK0 hK1 k1 k2 (fun k x1 x2 => by have := gk k x1 (by omega); omega) (by omega) (by omega)
  have eC0 : g_X10_trace n 0 (qz k) (qz t) (cs f d a ni j) = if qp (0 ≤ k ∧ k < K ∧ a (b + 8) k = 3) = qz 0 then some (qz (-1), cs f1 d a ni j) else if qz 0 ≤ qz t then (g_X3_decode n 78 b (qz k) (cs f1 d a ni j)).bind fun x9 => if x9.1 = qz 0 then (g_X1_run n (gP x9.2 0 5) (gP x9.2 0 0) (gP x9.2 0 3) ((hp_mn (qz t) (qz 1000)) + qz 1) x9.2).bind fun x13 => g_X10_trace_74 n 0 x13.1 x13.2 else g_X10_trace_74 n 0 x9.1 x9.2 else some (qz (-1), cs f1 d a ni j) := by
    unfold g_X10_trace g_X10_trace_0 g_X10_trace_73
    simp only [zl0, zl1, zlm1, zl1000, qz_neg]
    rw [wf_cs, bd_some, gpc_0_5, gpc_93_0, c_rclear (rwm_1 hm), bd_some, hf1, gpc_0_0, r4, eC, bd_some, b3, gpc_0_3]
  have eM0 : g_X11_trace n 0 (qz k) (qz t) (ms F A J) = if qp (0 ≤ k ∧ k < K ∧ 3 ≤ A 7 (200 * q + k)) = qz 0 then some (qz (-1), ms F1 A J) else if qz 0 ≤ qz t then (g_X11_isOpen n 0 (qz k) (ms F1 A J)).bind fun x4 => if x4.1 = qz 0 then (g_X11_readProof n 0 (qz k) x4.2).bind fun x5 => if x5.1 = qz 0 then g_X11_trace_68 n 0 x5.2 else if qz t < qz 1000 then g_X11_trace_62 n 0 (qz t + qz 1) (qz k) 0 x5.2 else g_X11_trace_62 n 0 (qz 1000) (qz k) 0 x5.2 else some (qz (-9), x4.2) else some (qz (-1), ms F1 A J) := by
    unfold g_X11_trace g_X11_trace_0
    simp only [zl0, zl1, zlm1, zlm9, zl3, zl1000, qz_neg]
    rw [wf_ms, bd_some, wf_ms, bd_some, hF1, eM, bd_some]
  by_cases c : 0 ≤ k ∧ k < K ∧ a (b + 8) k = 3
  rotate_left
  · refine ⟨qz (-1), _, _, ?_, ?_, ⟨q, b, b2, S, K, P, len, dl, f1, d, a, ni, j, F1, A, J, rfl, rfl, RR⟩⟩
    · rw [eC0, qp_F c, if_pos rfl]
    · rw [eM0, qp_F (fun z => c ⟨z.1, z.2.1, by have := gk k z.1 z.2.1; omega⟩), if_pos rfl]
  obtain ⟨c0, c1, c2⟩ := c
  have gk' := gk k c0 c1
  rw [qp_T ⟨c0, c1, c2⟩, if_neg n10] at eC0
  rw [qp_T ⟨c0, c1, by omega⟩, if_neg n10] at eM0
  by_cases ct : 0 ≤ t
  rotate_left
  · refine ⟨qz (-1), _, _, ?_, ?_, ⟨q, b, b2, S, K, P, len, dl, f1, d, a, ni, j, F1, A, J, rfl, rfl, RR⟩⟩
    · rw [eC0, if_neg (by rw [qz_le (by omega) (by omega) (by omega) (by omega)]; exact ct)]
    · rw [eM0, if_neg (by rw [qz_le (by omega) (by omega) (by omega) (by omega)]; exact ct)]
  rw [if_pos (by rw [qz_le (by omega) (by omega) (by omega) (by omega)]; exact ct)] at eC0 eM0
  have W1 : RWm 93 f1 a ni := ⟨s11.1, s12.2.2.1⟩
  have f09 : f1 0 9 = f 0 9 := by rw [← hf1, u2_b (by decide), u2_b (by decide), u2_c (by decide)]
  have f1x : ∀ x, x ≠ 0 → x ≠ 94 → f1 x = f x := fun x x1 x2 => by rw [← hf1, u2_b x2, u2_b x2, u2_b x1]
  obtain ⟨z, f2, a2, F2, A2, eD, hz⟩ := dec_all (n := n) (d := d) hn hb hq s3 G s8 c0 c1 c2
  rw [eD, bd_some] at eC0
  rcases hz with ⟨z1, eO, g1, g2, g3, g4, g5⟩ | ⟨F', A', eO, eR, ⟨d1, d2, d3⟩, m1, d4, d5, d6⟩
  · rw [z1, if_neg n10, c_tr74 (by omega) (by omega) (by omega) g1, if_pos rfl] at eC0
    rw [eO, bd_some, if_neg n10] at eM0
    refine ⟨qz (-9), _, _, eC0, eM0, ⟨q, b, b2, S, K, P, len, dl, _, _, a2, ni, j, F2, A2, J, rfl, rfl, rel_trF R0 ⟨fun x x1 x2 x3 => ⟨by rw [g2 x (by omega)]; exact f1x x x1 (by omega), by rw [g3], rfl, rfl⟩, fun x x1 x2 => u1_o x1, fun x x1 x2 x3 x4 x5 => by rw [g4.1 x x3]; exact X0.2.2.1 x x1 x2 x3 x4 x5, fun x hx => g4.2 x (by omega)⟩ (by rw [g2 0 (by decide)]; exact f09) (by rw [g4.1 71 (by decide)]; exact h71) (by rw [g4.1 3 (by decide)]; exact h3) ?_⟩⟩
    unfold RWm
    rw [g3, g2 _ (by omega), g2 _ (by omega)]
    exact W1
  rw [eO, bd_some, if_pos rfl, eR, bd_some] at eM0
  have W2 : RWm 93 f2 a2 ni := by
    unfold RWm
    rw [d1 _ (by omega), d1 _ (by omega), d3 _ (by omega), d3 _ (by omega)]
    exact W1
  have X2 : TRF f d a ni j F A f2 (u1 d 6 b) a2 ni j F2 A2 := ⟨fun x x1 x2 x3 => ⟨by rw [d1 x (by omega)]; exact f1x x x1 (by omega), d3 x (by omega), rfl, rfl⟩, fun x x1 x2 => u1_o x1, fun x x1 x2 x3 x4 x5 => by rw [m1.1 x x3]; exact X0.2.2.1 x x1 x2 x3 x4 x5, fun x hx => m1.2 x (by omega)⟩
  have h71' : F2 71 = 0 := by rw [m1.1 71 (by decide)]; exact h71
  have f09' : f2 0 9 = f 0 9 := by rw [d1 0 (by decide)]; exact f09
  by_cases cz : z = 0
  rotate_left
  · obtain ⟨y1, y2⟩ := d5 cz
    rw [if_neg (by rw [qz_inj (by omega) (by omega) (by omega) (by omega)]; exact cz), c_tr74 (by omega) (by omega) cz y2.symm, if_neg (by omega)] at eC0
    rw [qp_F cz, if_pos rfl, m_tr68 y1] at eM0
    exact ⟨_, _, _, eC0, eM0, ⟨q, b, b2, S, K, P, len, dl, _, _, a2, ni, j, _, A2, J, rfl, rfl, rel_trF R0 ⟨X2.1, X2.2.1, fun x x1 x2 x3 x4 x5 => by rw [u1_o x1]; exact X2.2.2.1 x x1 x2 x3 x4 x5, X2.2.2.2⟩ f09' (by rw [u1_o (by decide)]; exact h71') (by rw [u1_s]) W2⟩⟩
  obtain ⟨e1, e2, e3, e4, e5, e6⟩ := d6 cz
  have G2 : BK b q S K P len f2 a2 ni j A2 J := bk_eq G (fun x x1 x2 => d1 x (by omega)) (fun x x1 x2 => d3 x (by omega)) (fun _ _ _ => rfl) rfl (fun x x1 x2 => m1.2 x (by omega)) ⟨rfl, rfl⟩
  generalize hmo : (if t ≤ 1000 then t else 1000) + 1 = mo
  generalize hw : (if t < 1000 then t + 1 else 1000) = w
  have hmo2 : 0 ≤ mo ∧ mo ≤ 1001 := by split at hmo <;> omega
  have hw2 : 0 ≤ w ∧ w ≤ 1001 := by split at hw <;> omega
  obtain ⟨f3, a3, ni3, j3, F3, A3, w1, w2, w3⟩ := run_all (n := n) (m := 93) (d := u1 d 6 b) (mo := mo) (w := w) (e := if mo ≤ F2 50 then mo else F2 50) hn hm r1 G2 c0 c1 (by rw [d3 _ (by omega)]; exact c2) (by rw [m1.1 4 (by decide)]; exact s3) d2 e2 rfl e3 e4 e5 e6 W2 hw2.1 hw2.2 hmo2.1 hmo2.2 rfl (by split at hmo <;> split at hw <;> split <;> split <;> omega)
  rw [hmi] at w3
  rw [cz, if_pos rfl, gpc_0_5, gpc_0_0, gpc_0_3, u1_o (by decide), r4, qmn (by omega) (by omega) (by omega) (by omega), qz_add, hmo] at eC0
  have eM1 : g_X11_trace n 0 (qz k) (qz t) (ms F A J) = g_X11_trace_62 n 0 (qz w) (qz k) 0 (ms F2 A2 J) := by
    rw [eM0, qp_T cz, if_neg n10]
    by_cases y : t < 1000
    · rw [if_pos (by rw [qz_lt (by omega) (by omega) (by omega) (by omega)]; exact y), qz_add, ← hw, if_pos y]
    · rw [if_neg (by rw [qz_lt (by omega) (by omega) (by omega) (by omega)]; exact y), ← hw, if_neg y]
  unfold g_X11_trace_62 at eM1
  simp only [zl0] at eM1
  have X3 : TRF f d a ni j F A f3 (u1 (u1 d 6 b) 8 b) a3 ni3 j3 F3 A3 := by
    refine ⟨fun x x1 x2 x3 => ?_, fun x x1 x2 => by rw [u1_o x2, u1_o x1], fun x x1 x2 x3 x4 x5 => ?_, fun x hx => ?_⟩
    · obtain ⟨y1, y2, y3, y4⟩ := w1 x (by omega)
      obtain ⟨v1, v2, v3, v4⟩ := X2.1 x x1 x2 x3
      exact ⟨y1.trans v1, y2.trans v2, y3.trans v3, y4.trans v4⟩
    · rw [w2.1 x (by omega) (by omega) x4 x5]; exact X2.2.2.1 x x1 x2 x3 x4 x5
    · rw [w2.2 x (by omega)]; exact X2.2.2.2 x hx
  have h71'' : F3 71 = 0 := by rw [w2.1 71 (by decide) (by decide) (by decide) (by decide)]; exact h71'
  have f09'' : f3 0 9 = f 0 9 := by rw [(w1 0 (by omega)).1]; exact f09'
  rcases w3 with ⟨y1, y2, y3⟩ | ⟨z', t', z0, z1, t0, t1, y1, y2, y3, y4, y5⟩
  · have f50 : F3 50 = F2 50 := w2.1 50 (by decide) (by decide) (by decide) (by decide)
    have f78 : f3 78 = f2 78 := (w1 78 (by omega)).1
    obtain ⟨Q1, Q2, Q3, Q4, Q5, Q6, Q7, Q8, Q9, Q10, Q11⟩ := y3
    have Q0 := rwl_0 Q5
    obtain ⟨B8, B9, eT, hT⟩ := m_traced (n := n) (F := u1 (u1 F3 3 (F3 50)) 71 (F3 59)) (A := A3) (J := J) (R := F3 59) hn (by rw [u1_o (by decide), u1_o (by decide)]) Q0 Q6 (fun r q0 q1 => by
      obtain ⟨g1, g2, g3, g4⟩ := Q5.2.2.2 r q0 q1
      exact ⟨g2, g3⟩)
    rw [y1, bd_some] at eC0
    unfold g_X10_trace_74 at eC0
    simp only [zl0] at eC0
    rw [gpc_0_3, gf_cs, wf_cs, bd_some, if_pos trivial, gpc_0_5, gpc_93_0, gf_cs, u2_b (by decide), Q5.2.1, f78, e1] at eC0
    rw [y2, bd_some, if_neg n10, gf_ms, wf_ms, bd_some, gf_ms, u1_o (by decide), wf_ms, bd_some, eT, bd_some, gf_ms, u1_s] at eM1
    refine ⟨_, _, _, eC0, eM1, ⟨q, b, b2, S, K, P, len, dl, _, _, a3, ni3, j3, _, _, J, rfl, rfl, rel_tr R0 ⟨fun x x1 x2 x3 => ?_, X3.2.1, fun x x1 x2 x3 x4 x5 => ?_, fun x hx => ?_⟩ ?_ ?_ ?_ ?_⟩⟩
    · rw [u2_b x1]; exact X3.1 x x1 x2 x3
    · rw [u1_o x2, u1_o x1]; exact X3.2.2.1 x x1 x2 x3 x4 x5
    · rw [u1_o (by omega), u1_o (by omega)]; exact X3.2.2.2 x hx
    · rw [u2_c (by decide)]; exact f09''
    · rw [u2_a, u1_o (by decide), u1_s, f50]
    · unfold Rtr
      rw [u2_b (by decide), u1_s, u1_s, u1_o (by decide), u1_s]
      refine ⟨Q5.1, Q5.2.1, Q0, Q6, fun r q0 q1 => ?_⟩
      obtain ⟨g1, g2, g3, g4⟩ := Q5.2.2.2 r q0 q1
      obtain ⟨h1, h2⟩ := hT r q0 q1
      rw [h1]
      refine ⟨g1, by omega, g3, fun x x0 x1 => ?_⟩
      rw [h2 x x0 x1]
      exact (g4 x x0 x1).1
    · rw [u2_b (by decide)]; exact Q7.1
  · rw [y1, bd_some, c_tr74 (p := t') (by omega) (by omega) (by omega) (by rw [u2_a]), if_neg (by omega)] at eC0
    rw [y2, bd_some, if_pos rfl, m_tr68 y3, y4] at eM1
    refine ⟨_, _, _, eC0, eM1, ⟨q, b, b2, S, K, P, len, dl, _, _, a3, ni3, j3, _, A3, J, rfl, rfl, rel_trF R0 ⟨fun x x1 x2 x3 => ?_, X3.2.1, fun x x1 x2 x3 x4 x5 => ?_, X3.2.2.2⟩ ?_ ?_ ?_ ?_⟩⟩
    · rw [u2_b (by omega)]; exact X3.1 x x1 x2 x3
    · rw [u1_o x1]; exact X3.2.2.1 x x1 x2 x3 x4 x5
    · rw [u2_b (by decide)]; exact f09''
    · rw [u1_o (by decide)]; exact h71''
    · rw [u1_s]
    · unfold RWm at y5 ⊢
      rw [u2_b (by omega), u2_b (by omega)]
      exact y5
end TRB
