/-! tell: the class as the reference -/
section TEL
variable {n b b2 : Nat} {q S K P len dl k t : Int} {f f0 : Nat → Nat → Int} {d d0 : Nat → Nat} {a a0 : Nat → Int → Int} {ni ni0 : Nat → Nat} {j j0 : Nat → Int → Int64} {F F0 : Nat → Int} {A A0 : Nat → Int → Int} {J : Nat → Int → Int64}
theorem tl_main (hn : 100000 ≤ n) (R : Rel0 q b b2 S K P len dl f0 d0 a0 ni0 j0 F0 A0 J) (X : EXF f0 d0 a0 ni0 j0 F0 A0 f d a ni j F A) (W : RWm 83 f a ni) (h0 : 0 ≤ k) (h1 : k < K) (hK : K ≤ 200) (H : RI 83 b q S K P len k (F 50) (F 50) f d a ni j F A J) (N1 : F 50 ≤ 1000) (h59 : F 59 = 1) (f0' : f 78 0 = k) (f1 : f 78 1 = F 50) (t0 : 0 ≤ t) (t1 : t ≤ 1) : ∃ r sC2 sM2, g_X10_tell_27 n 0 (qz t) (qz 0) (cs f d a ni j) = some (r, sC2) ∧ ((g_X11_compare n 0 (ms F A J)).bind fun x3 => (gA x3 (gP x3 0 58) (qz 0)).bind fun x5 => if qz t = qz 0 then (g_X11_writeOut n 0 x5 x3).bind fun x7 => some (x7.1, x7.2) else (g_X11_compressed n 0 (qz k) x5 x3).bind fun x6 => some (x6.1, x6.2)) = some (r, sM2) ∧ Rel sC2 sM2 := by
  have R1 := R
  obtain ⟨r1, r2, r3, r4, r5, r6, r7, r8, r9, r10, r11, r12, r13, r14⟩ := R1
  have X1 := X
  obtain ⟨x1, x2, x3, x4⟩ := X1
  obtain ⟨G, hd6, h4, hP, hL1, h59', hL4, HD, hmk, ⟨h67, h67s⟩, HT⟩ := H
  clear hP hL1 hL4 r9 r10 r11 r13 r14
  have hq := bq_q r1
  have hb := bq_b r1
  have hbb : b = 1 ∨ b = 33 := hb
  have hd0 : d 0 = b := by rw [x2 0 (by decide) (by decide), r4]
  have hd3 : d 3 = d0 3 := x2 3 (by decide) (by decide)
  have hs : d 3 = 117 ∨ d 3 = 119 := by omega
  have hR : Rbk b q len a A := by
    unfold Rbk at r8 ⊢
    rw [(x1 (b + 2) (by omega)).2.1, x4 2 (by omega)]
    exact r8
  generalize hN : F 50 = N at *
  have hN0 : 0 < N := by omega
  obtain ⟨dp, SS, ch, lo, T, hl, e39, dp0, hSN, hx⟩ := rpn_of HT hN0 h59
  have dN : dp N = 1 := by
    obtain ⟨⟨y1, y2, y3, y4⟩, y5, y6, y7, y8, _⟩ := hx (N - 1) (by omega) (by omega)
    rw [show N - 1 + 1 = N by omega] at y4 y6
    by_cases c : 0 < dp (N - 1) - ndf b a (N - 1)
    · have e := y6 0 (by omega) c
      have g := (y8 0 (by omega) (by omega)).2
      omega
    · omega
  obtain ⟨st, ec, f3, a3, rfl, s1, s2, s3, s4, s5⟩ := shC_e (n := n) (f := f) (d := d) (a := a) (ni := ni) (j := j) hs
  have e79 : a3 79 = a 79 := s4 79 (by omega)
  have e80 : a3 80 = a 80 := s4 80 (by omega)
  have end3 : ndf b a3 = ndf b a := by
    funext x
    unfold ndf
    rw [e79, s4 (b + 20 + 2) (by omega)]
  have G3 : BK b q S K P len f3 a3 ni j A J := bk_eq G (fun x x1 x2 => s1 x (by omega)) (fun x x1 x2 => s4 x (by omega)) (fun _ _ _ => rfl) rfl (fun _ _ _ => rfl) ⟨rfl, rfl⟩
  have W5 : Rw (f3 105 3) (f3 105 2) (ni (105 + 1)) (nC0 (105 + 2)) 1024 (a3 (105 + 2)) := by
    rw [s1 105 (by omega), s4 (105 + 2) (by omega), (x1 105 (by omega)).1, (x1 (105 + 1) (by omega)).2.2.1, (x1 (105 + 2) (by omega)).2.1]
    exact r12.2.2.2
  obtain ⟨f4, a4, ni4, nu, can, cn, c, p1, p2, p3, p4⟩ := plant_all (n := n) (d := d) (f := f3) (a := a3) (ni := ni) (j := j) (A := A) (J := J) (k := k) (dp := dp) (SS := SS) (ch := ch) (lo := lo) hn hb G3 (by rw [end3]; exact T) hN0 N1 (by rw [s1 78 (by omega)]; exact f1) h1 (by rw [e79, e80]; exact HD) (by rw [e80]; exact hmk) W5 dp0 dN (fun x x0 xN => by
    obtain ⟨y1, y2, y3, y4, y5, _, _, _, _, _, y6⟩ := hx x x0 xN
    rw [end3, e79]
    exact ⟨y1, y2, y3, y4, y5, fun h => ⟨(y6 h).1, (y6 h).2.1⟩⟩) hSN
  obtain ⟨g1, g2, g3⟩ := plf_nd hb p3
  have G4 := plf_bk hb G3 p3
  obtain ⟨D, TK, PR, _, _, _, mk⟩ := p2
  rw [g1, g2, end3, e79] at D PR
  rw [g2, e79] at mk
  have hz : ∀ x y, 0 ≤ a 79 x → a 79 x = a 79 y → ndf b a x = ndf b a y := by
    intro x y hx e
    unfold ndf
    rw [← e]
  generalize hnd : ndf b a = nd at *
  have hnm : ∃ nm, a 79 = nm := ⟨_, rfl⟩
  obtain ⟨nm, hnm⟩ := hnm
  rw [hnm] at D PR mk hz HD hx
  have hsm : ∀ x, 0 ≤ x → x < N → 0 ≤ nd x ∧ nd x < 1000 := fun x x0 xN => by
    obtain ⟨⟨y1, y2, y3, y4⟩, _⟩ := hx x x0 xN
    omega
  have M : MST N k nd nm ch A := by
    intro x x0 xN
    obtain ⟨_, _, _, _, _, y6, y7, y8, y9, _⟩ := hx x x0 xN
    obtain ⟨_, hk⟩ := HD x x0 xN
    have hm := mkc_r (g := a 80) x0
    refine ⟨y6, y7, by omega, y9, fun h => ?_, fun h => ?_⟩
    · rcases hk with ⟨k1, k2, k3⟩ | ⟨m, m1, m2, m3, m4⟩
      · exact ⟨k3, k2⟩
      · omega
    · rcases hk with ⟨k1, k2, k3⟩ | ⟨m, m1, m2, m3, m4⟩
      · omega
      · omega
  have hA : ∀ x, 0 ≤ x → x < N → 0 ≤ A 47 x ∧ A 47 x ≤ x ∧ 0 ≤ nm (A 47 x) ∧ nu (A 47 x) = nu x := fun x x0 xN => a47_p (A35 := A 35) (fun y y0 yN => by
    obtain ⟨_, _, _, _, _, _, _, _, _, y10, y11⟩ := hx y y0 yN
    exact ⟨y10, y11⟩) mk N.toNat x x0 (by omega) xN
  obtain ⟨WO, hWO⟩ := wo_ex D T (by omega)
  obtain ⟨B, C, c1, c2, c3⟩ := m_compare (n := n) (F := F) (J := J) hn hN D T hWO M (by omega) PR.2.2 hz hA (by omega) N1
  generalize hA2 : u1 (u1 A 50 B) 51 C = A2 at *
  have eA : ∀ x, x ≠ 50 → x ≠ 51 → A2 x = A x := fun x x1 x2 => by rw [← hA2, u1_o x2, u1_o x1]
  have e50 : A2 50 = B := by rw [← hA2, u1_o (by decide), u1_s]
  have e51 : A2 51 = C := by rw [← hA2, u1_s]
  have G5 : BK b q S K P len f4 a4 ni4 j A2 J := bk_eq G4 (fun _ _ _ => rfl) (fun _ _ _ => rfl) (fun _ _ _ => rfl) rfl (fun x x1 x2 => eA x (by omega) (by omega)) ⟨rfl, rfl⟩
  have eb4 : ∀ x, x < 78 → a4 x = a x := fun x hx => by rw [p3.2.1 x (by omega), s4 x (by omega)]
  have hR4 : Rbk b q len a4 A2 := by
    unfold Rbk at hR ⊢
    rw [eb4 (b + 2) (by omega), eA 2 (by omega) (by omega)]
    exact hR
  have M2 : MST N k nd nm ch A2 := mst_c M (eA _ (by decide) (by decide)) (eA _ (by decide) (by decide)) (eA _ (by decide) (by decide)) (eA _ (by decide) (by decide)) (eA _ (by decide) (by decide))
  have hA2' : ∀ x, 0 ≤ x → x < N → 0 ≤ A2 47 x ∧ A2 47 x ≤ x ∧ 0 ≤ nm (A2 47 x) ∧ nu (A2 47 x) = nu x := by rw [eA 47 (by decide) (by decide)]; exact hA
  obtain ⟨EV, E⟩ := ev_ex (nu := nu) (can := can) (cn := cn) T (by omega)
  obtain ⟨v1', v2', v3', v4', v5', v6', v7', -, -⟩ := ev_root D T E hN0 N1 hl
  have HT4 : TSt c (fun i => nd (can i)) (fun i t => nu (ch (can i) t)) (fun i => nm (can i)) f4 a4 ni4 := ⟨TK.1, TK.2.1, fun y y0 y1 => by
    obtain ⟨z1, z2, z3, _⟩ := PR.1 y y0 y1
    exact ⟨z1, z2, z3⟩⟩
  have NN : NT c K (fun i => nd (can i)) (fun i t => nu (ch (can i) t)) (fun i => nm (can i)) WO := by
    intro y y0 y1
    obtain ⟨k1, k2, k3, _, _, k6⟩ := nds_can D (by omega) y0 y1
    obtain ⟨m1, m2⟩ := hsm _ k1 k2
    obtain ⟨_, _, _, _, m5, _⟩ := M _ k1 k2
    refine ⟨m1, m2, k6, by have := (m5 k6).2; show nm (can y) < K; omega, fun t t0 t1 => ?_, hWO y y0 y1⟩
    obtain ⟨_, _, _, _, q5, _⟩ := T _ k1 k2
    obtain ⟨q6, q7⟩ := q5 t t0 t1
    have l1 := nds_lt D T k1 k2 k6 t0 t1
    have l2 := (nds_nu D q6 (by omega)).1
    rw [k3] at l1
    exact ⟨l2, l1⟩
  have d49 : u1 (u1 d 9 b) 10 78 9 = b := by rw [u1_o (by decide), u1_s]
  have d410 : u1 (u1 d 9 b) 10 78 10 = 78 := u1_s
  have d43 : u1 (u1 d 9 b) 10 78 3 = d 3 := by rw [u1_o (by decide), u1_o (by decide)]
  have d40 : ∀ x, x < 4 → u1 (u1 d 9 b) 10 78 x = d0 x := fun x hx => by rw [u1_o (by omega), u1_o (by omega), x2 x (by omega) (by omega)]
  generalize hd4 : u1 (u1 d 9 b) 10 78 = d4 at *
  have hSC : SC (d 3) [] f4 a4 := by
    have e1 : f4 (d 3) = f3 (d 3) := p3.1 _ (by omega) (by omega)
    unfold SC
    rw [e1]
    exact ⟨s2, s3, fun x hx => absurd hx (Nat.not_lt_zero _)⟩
  have fin : ∀ (f5 : Nat → Nat → Int) (a5 : Nat → Int → Int) (F5 : Nat → Int) (A5 : Nat → Int → Int), (∀ x, x ≠ 103 → x ≠ d 3 → f5 x = f4 x) → (∀ x, x ≠ 112 → x ≠ 113 → x ≠ 114 → x ≠ 115 → x ≠ 116 → x ≠ d 3 + 1 → a5 x = a4 x) → (∀ x, x ≠ 82 → x ≠ 85 → F5 x = F x) → (∀ x, x < 52 ∨ x = 57 → A5 x = A2 x) → Rel0 q b b2 S K P len dl f5 d4 a5 ni4 j F5 A5 J := by
    intro f5 a5 F5 A5 k1 k2 k3 k4
    have eF5 : ∀ x, x ≠ 103 → x ≠ 105 → x ≠ d 3 → f5 x = f x := fun x y1 y2 y3 => by rw [k1 x y1 y3, p3.1 x y1 y2, s1 x y3]
    have eA5 : ∀ x, x < 104 ∨ (117 ≤ x ∧ x ≠ d 3 + 1) → a5 x = a x := fun x y1 => by rw [k2 x (by omega) (by omega) (by omega) (by omega) (by omega) (by omega), p3.2.1 x (by omega), s4 x (by omega)]
    have eN5 : ∀ x, x ≠ 105 + 1 → ni4 x = ni x := p3.2.2
    refine rel_tl R (fun x hx => ?_) (fun x hx => ?_) (fun x hx => ?_) (fun x hx => (x1 x (by omega)).2.2.2) (fun x y1 y2 y3 y4 y5 => ?_) (fun x hx => ?_) d40 ?_ ?_
    · rw [eF5 x (by omega) (by omega) (by omega), (x1 x (by omega)).1]
    · rw [eA5 x (by omega), (x1 x (by omega)).2.1]
    · rw [eN5 x (by omega), (x1 x (by omega)).2.2.1]
    · rw [k3 x y4 y5, x3 x y1 y2 y3]
    · rw [k4 x (by omega), eA x (by omega) (by omega), x4 x (by omega)]
    · unfold RWm at W ⊢
      rw [eF5 (83 + 1) (by decide) (by decide) (by omega), eF5 (83 + 4) (by decide) (by decide) (by omega), eA5 (83 + 1 + 2) (by omega), eA5 (83 + 4 + 2) (by omega), eN5 (83 + 1 + 1) (by decide), eN5 (83 + 4 + 1) (by decide)]
      exact W
    · rw [k1 105 (by decide) (by omega), k2 (105 + 2) (by decide) (by decide) (by decide) (by decide) (by decide) (by omega)]
      exact TK.1
  have eC0 : g_X10_tell_27 n 0 (qz t) (qz 0) (cs f d a ni j) = g_X10_tell_55 n 0 (qz t) (cs f4 d4 a4 ni4 j) := by
    unfold g_X10_tell_27
    simp only [zl0]
    rw [if_pos trivial, gpc_0_8, ec, bd_some, gpc_0_6, gpc_0_0, hd0, gpc_0_3, p1, bd_some]
  have eM0 : ((g_X11_compare n 0 (ms F A J)).bind fun x3 => (gA x3 (gP x3 0 58) (qz 0)).bind fun x5 => if qz t = qz 0 then (g_X11_writeOut n 0 x5 x3).bind fun x7 => some (x7.1, x7.2) else (g_X11_compressed n 0 (qz k) x5 x3).bind fun x6 => some (x6.1, x6.2)) = if qz t = qz 0 then (g_X11_writeOut n 0 (qz (A2 47 (N - 1))) (ms F A2 J)).bind fun x7 => some (x7.1, x7.2) else (g_X11_compressed n 0 (qz k) (qz (A2 47 (N - 1))) (ms F A2 J)).bind fun x6 => some (x6.1, x6.2) := by
    rw [c1, bd_some, gp_58, ga_39 (by omega) (by omega), eA 39 (by decide) (by decide), e39, bd_some, eA 47 (by decide) (by decide)]
  rw [eC0, eM0]
  unfold g_X10_tell_55
  simp only [zl1, zl0, zlm3]
  have hlabs : ∀ y, 0 ≤ y → y < c → ∀ e, e ∈ WO y → chs (nlx q (A2 2) (A2 8) (A2 9) e) := fun y y0 y1 e he => by
    obtain ⟨l1, l2⟩ := wo_lab NN (y.toNat + 1) y y0 (by omega) y1 e he
    exact chs_nl G5 hR4 l1 l2
  rcases (show t = 0 ∨ t = 1 by omega) with rfl | rfl
  · obtain ⟨f5, a5, w1, w2, w3⟩ := c_wout (n := n) (d := d4) (y := nu (N - 1)) hn hs hb d49 G5 hR4 NN (by omega) (by omega) (by omega) HT4 p4 hSC
    obtain ⟨F5, A5, u1', u2', u3'⟩ := m_wout (n := n) (F := F) (J := J) (root := A2 47 (N - 1)) hn hq h4 G5 D T hWO hN0 N1 (Int.le_of_lt h1) hA2' M2 (by rw [e51]; exact c3) rfl
    have HR := fin f5 a5 F5 A5 w1.1 (fun x y1 y2 _ _ _ y6 => w1.2.2 x y1 y2 y6) (fun x y1 _ => u1'.1 x y1) (fun x hx => u1'.2 x (by omega) (by omega) (by omega))
    rw [if_neg (by decide), if_pos rfl, gpc_0_6, gpc_0_8, d43]
    by_cases hw : ((WO (nu (N - 1))).length : Int) ≤ 1000
    · obtain ⟨w4, w5⟩ := w2 hw
      obtain ⟨u4', u5', u6'⟩ := u2' hw
      obtain ⟨r, sC2, sM2, q1, q2, q3⟩ := rel_told hn HR (chs_lby (chs_wtx _ _ (hlabs _ (by omega) (by omega)))) (by omega) (by rw [d43]; exact ⟨f5, a5, rfl, fun _ _ => rfl, w5.1, w5.2.1, fun _ _ => rfl, w5.2.2⟩) ⟨F5, A5, rfl, fun _ _ => rfl, u5'.1, fun _ _ => rfl, u5'.2⟩
      refine ⟨r, sC2, sM2, ?_, ?_, q3⟩
      · rw [w4, bd_some, if_neg n10, q1, bd_some]
      · rw [u4', q2, bd_some, bd_some]
    · refine ⟨qz (-3), _, _, ?_, ?_, ⟨q, b, b2, S, K, P, len, dl, f5, d4, a5, ni4, j, F5, A5, J, rfl, rfl, HR⟩⟩
      · rw [w3 (by omega), bd_some, if_pos rfl]
      · rw [u3' (by omega), bd_some]
  · obtain ⟨f5, a5, ln0, nn0, w1, w2, w3, w4, w5, w6⟩ := c_comp (n := n) (d := d4) hn hs hb d49 d410 G5 hR4 h0 h1 (by rw [p3.1 78 (by decide) (by decide), s1 78 (by omega)]; exact f0') hK D T E hN0 N1 hl HT4 TK.2.2.2.1 p4 (fun i i0 i1 => (PR.1 i i0 i1).2.2.2) NN hSC
    obtain ⟨F5, A5, u1', u2', u3', u4'⟩ := m_comp (n := n) (F := F) (J := J) (root := A2 47 (N - 1)) hn r1 h4 G5 h0 h1 (Int.le_of_lt h1) hK w2 D T E hN0 N1 hl hN hA2' (by rw [e50]; exact c2) M2 rfl w3
    have HR := fin f5 a5 F5 A5 w5 w6 u3' (fun x hx => u4' x (by omega))
    obtain ⟨o1, o2⟩ := own_le G5 h0 h1
    have o3 := own_r G5 h0 h1 w2
    have hlab : ∀ i, 0 ≤ i → i < c → 0 ≤ nm (can i) ∧ nm (can i) < K := by
      intro i i0 i1
      obtain ⟨_, _, k3, k4, _⟩ := NN i i0 i1
      exact ⟨k3, k4⟩
    obtain ⟨p1', p2', p3', p4', p5'⟩ := lst_p (nl := nlx q (A2 2) (A2 8) (A2 9)) (L0 := [40, 32]) (c := c) (lab := fun i => nm (can i)) o3 o1 (fun y y0 y1 => by
      obtain ⟨k1, k2⟩ := hlab y y0 y1
      exact ⟨k1, by omega, (nlx_l G5 k1 k2).2⟩) c.toNat (by omega)
    have hch : chs (lst (nlx q (A2 2) (A2 8) (A2 9)) (fun i => nm (can i)) (ln0, a4 (b + 20 + 2) (k + 1) - a4 (b + 20 + 2) k, [40, 32]) c.toNat).2.2 := chs_lst (c := c) (chs_a (chs_1 (x := 40) (by omega) (by omega)) (chs_1 (x := 32) (by omega) (by omega))) (fun y y0 y1 => by
      obtain ⟨k1, k2⟩ := hlab y y0 y1
      exact chs_nl G5 hR4 k1 k2) c.toNat (by omega)
    have hL2 : (([40, 32] : List Int).length : Int) = 2 := rfl
    generalize lst (nlx q (A2 2) (A2 8) (A2 9)) (fun i => nm (can i)) (ln0, a4 (b + 20 + 2) (k + 1) - a4 (b + 20 + 2) k, [40, 32]) c.toNat = LL at *
    have hln := of_nb (sz := fun i => nd (can i)) (usf := fun i => us (fun i => nd (can i)) (fun i t => nu (ch (can i) t)) c i) (lnn := LL.1) (lab := fun i => nm (can i)) (EV (N - 1)) (nn0, LL.2.1, LL.2.2 ++ [41] ++ [32])
    have hln2 := hln.2.2
    have hch2 := chs_oe (sz := fun i => nd (can i)) (usf := fun i => us (fun i => nd (can i)) (fun i t => nu (ch (can i) t)) c i) (lnn := LL.1) (lab := fun i => nm (can i)) (EV (N - 1)) (nn0, LL.2.1, LL.2.2 ++ [41] ++ [32]) (chs_a (chs_a hch (chs_1 (by omega) (by omega))) (chs_1 (by omega) (by omega)))
    have hl3 : ((LL.2.2 ++ [41] ++ [32]).length : Int) = LL.2.2.length + 2 := by
      rw [List.length_append, List.length_append]
      show ((LL.2.2.length + 1 + 1 : Nat) : Int) = _
      omega
    have hln3 : (((EV (N - 1)).foldl (oe (fun i => nd (can i)) (fun i => us (fun i => nd (can i)) (fun i t => nu (ch (can i) t)) c i) LL.1 (fun i => nm (can i))) (nn0, LL.2.1, LL.2.2 ++ [41] ++ [32])).2.2.length : Int) ≤ ((LL.2.2 ++ [41] ++ [32]).length : Int) + 5 * (EV (N - 1)).length := hln2
    rw [hl3] at hln3
    generalize (EV (N - 1)).foldl (oe (fun i => nd (can i)) (fun i => us (fun i => nd (can i)) (fun i t => nu (ch (can i) t)) c i) LL.1 (fun i => nm (can i))) (nn0, LL.2.1, LL.2.2 ++ [41] ++ [32]) = L at *
    obtain ⟨r, sC2, sM2, q1, q2, q3⟩ := rel_told hn HR (chs_lby hch2) (by omega) (by rw [d43]; exact ⟨f5, a5, rfl, fun _ _ => rfl, w4.1, w4.2.1, fun _ _ => rfl, w4.2.2⟩) ⟨F5, A5, rfl, fun _ _ => rfl, u2'.1, fun _ _ => rfl, u2'.2⟩
    refine ⟨r, sC2, sM2, ?_, ?_, q3⟩
    · rw [if_pos rfl, gpc_0_6, gpc_0_8, d43, w1, bd_some, q1, bd_some]
    · rw [if_neg (by decide), u1', q2, bd_some, bd_some]
theorem ok_tell : Ok_tell Rel := by
  rintro n hn sC sM R a0 a1
  have R' := R
  obtain ⟨q, b, b2, S, K, P, len, dl, f, d, a, ni, j, F, A, J, rfl, rfl, R0⟩ := R'
  have R1 := R0
  obtain ⟨r1, r2, r3, r4, r5, r6, r7, r8, r9, r10, r11, r12, r13, r14⟩ := R1
  obtain ⟨k, k1, k2, rfl⟩ := qz_of a0
  obtain ⟨t, t1, t2, rfl⟩ := qz_of a1
  have hq := bq_q r1
  have hb := bq_b r1
  have G := r7
  obtain ⟨⟨b1, b2', b3, b4, b5, b6, b7, b8, b9⟩, gn, glb, gk, gf, gt, ghy, gma, gun, gpo, gpr, gfm, gax, grw⟩ := r7
  have hK0 : 0 ≤ K := gn.2.2.1
  have hK1 : K ≤ 200 := gn.2.2.2.1
  have eC := c_isPr (n := n) (d := d) (j := j) (ni := ni) (f := f) (a := a) hb k1 k2 (by omega) (by omega) (fun k x1 x2 => by have := gk k x1 (by omega); omega)
  have eM := m_isKind (n := n) (F := F) (A := A) (J := J) (l := 3) r3 hq b4 hK0 hK1 k1 k2 (fun k x1 x2 => by have := gk k x1 (by omega); omega) (by omega) (by omega)
  have eC0 : g_X10_tell n 0 (qz k) (qz t) (cs f d a ni j) = if qp (0 ≤ k ∧ k < K ∧ a (b + 8) k = 3) = qz 0 then some (qz (-1), cs f d a ni j) else if qz t < qz 0 then some (qz (-1), cs f d a ni j) else if qz t ≤ qz 1 then (g_X10_examine n 0 (qz k) (cs f d a ni j)).bind fun x3 => g_X10_tell_27 n 0 (qz t) x3.1 x3.2 else some (qz (-1), cs f d a ni j) := by
    unfold g_X10_tell g_X10_tell_0
    simp only [zl0, zl1, zlm1, qz_neg]
    rw [gpc_0_0, r4, eC, bd_some, b3]
  have eM0 : g_X11_tell n 0 (qz k) (qz t) (ms F A J) = if qp (0 ≤ k ∧ k < K ∧ 3 ≤ A 7 (200 * q + k)) = qz 0 then some (qz (-1), ms F A J) else if qz t < qz 0 then some (qz (-1), ms F A J) else if qz t ≤ qz 1 then (g_X11_judge n 0 (qz k) (ms F A J)).bind fun x2 => if x2.1 = qz 0 then (g_X11_compare n 0 x2.2).bind fun x3 => (gA x3 (gP x3 0 58) (qz 0)).bind fun x5 => if qz t = qz 0 then (g_X11_writeOut n 0 x5 x3).bind fun x7 => some (x7.1, x7.2) else (g_X11_compressed n 0 (qz k) x5 x3).bind fun x6 => some (x6.1, x6.2) else some (qz (-2), x2.2) else some (qz (-1), ms F A J) := by
    unfold g_X11_tell g_X11_tell_0
    simp only [zl0, zl1, zlm1, zlm2, zl3, qz_neg]
    rw [eM, bd_some]
  by_cases c : 0 ≤ k ∧ k < K ∧ a (b + 8) k = 3
  rotate_left
  · refine ⟨qz (-1), _, _, ?_, ?_, R⟩
    · rw [eC0, qp_F c, if_pos rfl]
    · rw [eM0, qp_F (fun z => c ⟨z.1, z.2.1, by have := gk k z.1 z.2.1; omega⟩), if_pos rfl]
  obtain ⟨c0, c1, c2⟩ := c
  have gk' := gk k c0 c1
  rw [qp_T ⟨c0, c1, c2⟩, if_neg n10] at eC0
  rw [qp_T ⟨c0, c1, by omega⟩, if_neg n10] at eM0
  by_cases ct : t < 0
  · refine ⟨qz (-1), _, _, ?_, ?_, R⟩
    · rw [eC0, if_pos (by rw [qz_lt (by omega) (by omega) (by omega) (by omega)]; exact ct)]
    · rw [eM0, if_pos (by rw [qz_lt (by omega) (by omega) (by omega) (by omega)]; exact ct)]
  rw [if_neg (by rw [qz_lt (by omega) (by omega) (by omega) (by omega)]; exact ct)] at eC0 eM0
  by_cases ct2 : t ≤ 1
  rotate_left
  · refine ⟨qz (-1), _, _, ?_, ?_, R⟩
    · rw [eC0, if_neg (by rw [qz_le (by omega) (by omega) (by omega) (by omega)]; exact ct2)]
    · rw [eM0, if_neg (by rw [qz_le (by omega) (by omega) (by omega) (by omega)]; exact ct2)]
  rw [if_pos (by rw [qz_le (by omega) (by omega) (by omega) (by omega)]; exact ct2)] at eC0 eM0
  obtain ⟨z, f2, d2, a2, ni2, j2, F2, A2, e1, e2, z0, z1, e3, X, W, hz⟩ := exam (n := n) (J := J) hn r1 r3 r4 G r8 ⟨r12.1, r12.2.1⟩ c0 c1 c2
  rw [e1, bd_some] at eC0
  rw [e2, bd_some] at eM0
  by_cases cz : z = 0
  · obtain ⟨y1, y2, y3, y4, y5, y6, y7, y8⟩ := hz cz
    obtain ⟨r, sC2, sM2, q1, q2, q3⟩ := tl_main hn R0 X W c0 c1 hK1 y1 y3 y4 y5 y6 (t := t) (by omega) ct2
    rw [cz] at eC0 eM0
    refine ⟨r, sC2, sM2, ?_, ?_, q3⟩
    · rw [eC0]; exact q1
    · rw [eM0, if_pos rfl]; exact q2
  · refine ⟨qz (-2), _, _, ?_, ?_, ⟨q, b, b2, S, K, P, len, dl, f2, d2, a2, ni2, j2, F2, A2, J, rfl, rfl, ?_⟩⟩
    · rw [eC0]
      unfold g_X10_tell_27
      simp only [zl0, zlm2]
      rw [if_neg (by rw [qz_inj (by omega) (by omega) (by omega) (by omega)]; exact cz)]
    · rw [eM0, if_neg (by rw [qz_inj (by omega) (by omega) (by omega) (by omega)]; exact cz)]
    · obtain ⟨x1, x2, x3, x4⟩ := X
      refine rel_tl R0 (fun x hx => (x1 x (by omega)).1) (fun x hx => (x1 x (by omega)).2.1) (fun x hx => (x1 x (by omega)).2.2.1) (fun x hx => (x1 x (by omega)).2.2.2) (fun x y1 y2 y3 y4 y5 => x3 x y1 y2 y3) (fun x hx => x4 x (by omega)) (fun x hx => x2 x (by omega) (by omega)) W ?_
      rw [(x1 105 (by omega)).1, (x1 (105 + 1) (by omega)).2.2.1, (x1 (105 + 2) (by omega)).2.1]
      exact r12.2.2.2
end TEL
