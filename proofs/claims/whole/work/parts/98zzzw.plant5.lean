/-! The nodes of a proof, in the class: all steps -/
section PLE
variable {n b : Nat} {q S K P len N k : Int} {lo dp : Int → Int} {ch SS : Int → Int → Int} {f f2 : Nat → Nat → Int} {d : Nat → Nat} {a a2 : Nat → Int → Int} {ni ni2 : Nat → Nat} {j : Nat → Int → Int64} {A : Nat → Int → Int} {J : Nat → Int → Int64}
theorem plf_nd (hb : bks b) (h : PLF f a ni f2 a2 ni2) : ndf b a2 = ndf b a ∧ a2 79 = a 79 ∧ a2 80 = a 80 := by
  have hbb : b = 1 ∨ b = 33 := hb
  have e79 : a2 79 = a 79 := h.2.1 79 (by omega)
  refine ⟨?_, e79, h.2.1 80 (by omega)⟩
  funext x
  unfold ndf
  rw [e79, h.2.1 (b + 20 + 2) (by omega)]
theorem plf_bk (hb : bks b) (G : BK b q S K P len f a ni j A J) (h : PLF f a ni f2 a2 ni2) : BK b q S K P len f2 a2 ni2 j A J := by
  have hbb : b = 1 ∨ b = 33 := hb
  exact bk_eq G (fun x x1 x2 => h.1 x (by omega) (by omega)) (fun x x1 x2 => h.2.1 x (by omega)) (fun x x1 x2 => h.2.2 x (by omega)) rfl (fun _ _ _ => rfl) ⟨rfl, rfl⟩
theorem plant_all (hn : 100000 ≤ n) (hb : bks b) (G : BK b q S K P len f a ni j A J) (T : RPN N (ndf b a) ch lo) (hN0 : 0 < N) (hN : N ≤ 1000) (f1 : f 78 1 = N) (k1 : k < K) (HD : DP k N (a 79) (a 80) (A 34) (A 35) (A 36)) (hmk : mkc (a 80) N ≤ 200) (W : Rw (f 105 3) (f 105 2) (ni (105 + 1)) (nC0 (105 + 2)) 1024 (a (105 + 2))) (d0 : dp 0 = 0) (dN : dp N = 1) (hx : ∀ x, 0 ≤ x → x < N → (0 ≤ ndf b a x ∧ ndf b a x ≤ dp x ∧ dp x ≤ x ∧ dp (x + 1) = dp x - ndf b a x + 1) ∧ SS (x + 1) (dp x - ndf b a x) = x ∧ (∀ r, 0 ≤ r → r < dp x - ndf b a x → SS (x + 1) r = SS x r) ∧ (∀ t, ch x t = SS x (dp x - ndf b a x + t)) ∧ (∀ r, 0 ≤ r → r < dp x → 0 ≤ SS x r ∧ SS x r < x) ∧ (a 79 x < 0 → 0 ≤ A 35 (-1 - a 79 x) ∧ A 35 (-1 - a 79 x) < x)) (hSN : SS N 0 = N - 1) : ∃ (f2 : Nat → Nat → Int) (a2 : Nat → Int → Int) (ni2 : Nat → Nat) (nu can cn : Int → Int) (c : Int), g_X9_plant n 103 b 78 (cs f d a ni j) = some (cs f2 (u1 (u1 d 9 b) 10 78) a2 ni2 j) ∧ PLI N c b dp ch SS (A 35) f2 a2 ni2 nu can cn ∧ PLF f a ni f2 a2 ni2 ∧ f2 103 3 = nu (N - 1) := by
  have hbb : b = 1 ∨ b = 33 := hb
  generalize hf' : u2 (u2 (u2 f 103 2 0) 105 3 0) 105 2 0 = f'
  generalize ha' : u1 a 109 (fl (a 109) 256 (-1)) = a'
  generalize hd' : u1 (u1 d 9 b) 10 78 = d'
  have d9 : d' 9 = b := by rw [← hd', u1_o (by decide), u1_s]
  have d10 : d' 10 = 78 := by rw [← hd', u1_s]
  have F0 : PLF f a ni f' a' ni := ⟨fun x x1 x2 => by rw [← hf', u2_b x2, u2_b x2, u2_b x1], fun x hx => by rw [← ha', u1_o (by omega)], fun _ _ => rfl⟩
  obtain ⟨e1, e2, e3⟩ := plf_nd hb F0
  have w1 := rw_clear W
  have s0 : a (105 + 2) 0 = 0 := W.2.2.2.2.2.2.2.2.2.1
  have e107 : a' (105 + 2) = a (105 + 2) := by rw [← ha', u1_o (by decide)]
  have P0 : PLI 0 0 b dp ch SS (A 35) f' a' ni (fun _ => 0) (fun _ => 0) (fun _ => 0) := by
    refine ⟨⟨rfl, rfl, fun x x0 x1 => by omega⟩, ⟨?_, ?_, ?_, ?_, by omega⟩, ⟨fun y y0 y1 => by omega, ⟨fun _ => [], fun h h0 h1 => ⟨?_, by show (0 : Int) ≤ 0; omega, fun x hx => by simp at hx⟩, fun y y0 y1 => by omega⟩, fun y1 y2 p1 p2 => by omega⟩, fun r r0 r1 => by omega, fun m m0 m1 => ?_, ?_, fun x x0 x1 => ?_⟩
    · rw [e107, ← hf', u2_c (by decide), u2_a, u2_a]; exact w1
    · rw [← hf', u2_c (by decide), u2_a]
    · rw [e107, s0, ← hf', u2_a]
    · rw [← hf', u2_b (by decide), u2_b (by decide), u2_a]
    · show a' 109 h = -1
      rw [← ha', u1_s, fl_in h0 h1]
    · exact absurd m1 (by rw [show mkc (a' 80) 0 = 0 from rfl]; omega)
    · rw [e107, s0, d0]; decide
    · omega
  have lp := lp_inv (b := gL_X9_plant_38 n 103) (fun i s => ∃ (f3 : Nat → Nat → Int) (a3 : Nat → Int → Int) (ni3 : Nat → Nat) (nu can cn : Int → Int) (c : Int), s = (qz (mkc (a 80) i), qz (dp i), qz i, cs f3 d' a3 ni3 j) ∧ PLI i c b dp ch SS (A 35) f3 a3 ni3 nu can cn ∧ PLF f a ni f3 a3 ni3) (Q := fun s => ∃ (f3 : Nat → Nat → Int) (a3 : Nat → Int → Int) (ni3 : Nat → Nat) (nu can cn : Int → Int) (c : Int), s = cs f3 d' a3 ni3 j ∧ PLI N c b dp ch SS (A 35) f3 a3 ni3 nu can cn ∧ PLF f a ni f3 a3 ni3) N (n := n) (i0 := 0) (by omega) (by omega) (c0 := (qz 0, qz 0, qz 0, cs f' d' a' ni j)) ⟨f', a', ni, _, _, _, 0, by rw [d0]; rfl, P0, F0⟩ ?_ ?_
  · obtain ⟨s, es, f3, a3, ni3, nu, can, cn, c, rfl, P3, F3⟩ := lp
    have e112 : a3 112 0 = nu (N - 1) := by
      rw [P3.2.2.2.1 0 (by omega) (by rw [dN]; omega), hSN]
    refine ⟨u2 f3 103 3 (nu (N - 1)), a3, ni3, nu, can, cn, c, ?_, ?_, ⟨fun x x1 x2 => by rw [u2_b x1]; exact F3.1 x x1 x2, F3.2⟩, by rw [u2_a]⟩
    · unfold g_X9_plant g_X9_plant_0 g_X9_plant_166
      simp only [zl0, zlm1]
      rw [wp_103_0, bd_some, wp_103_1, bd_some, wf_cs, bd_some, gpc_103_5, c_rclear rws_105, bd_some, gpc_103_7, c_fillI (N := 256) rfl (by omega) (by omega), bd_some, hf', ha', hd', es, bd_some, gpc_103_10, gac_112 (by omega) (by omega), bd_some, wf_cs, bd_some, e112]
    · obtain ⟨q1, ⟨t1, t2, t3, t4, t5⟩, q3⟩ := P3
      refine ⟨q1, ⟨?_, ?_, ?_, ?_, t5⟩, q3⟩
      · rw [u2_b (by decide)]; exact t1
      · rw [u2_b (by decide)]; exact t2
      · rw [u2_b (by decide)]; exact t3
      · rw [u2_c (by decide)]; exact t4
  · rintro i s i0 i1 ⟨f3, a3, ni3, nu, can, cn, c, rfl, P3, F3⟩
    obtain ⟨k1', k2, k3⟩ := plf_nd hb F3
    obtain ⟨x1, x2, x3, x4, x5, x6⟩ := hx i i0 i1
    obtain ⟨f4, a4, ni4, nu4, can4, cn4, c4, e4, P4, F4, _⟩ := plant_step (n := n) (d := d') (f := f3) (a := a3) (ni := ni3) (j := j) (A := A) (lo := lo) (N := N) (k := k) hn hb d9 d10 (plf_bk hb G F3) (by rw [k1']; exact T) hN (by rw [F3.1 78 (by decide) (by decide)]; exact f1) k1 (by rw [k2, k3]; exact HD) (by rw [k3]; exact hmk) i0 i1 (by rw [k1']; exact x1) (by rw [k1']; exact x2) (by rw [k1']; exact x3) (by rw [k1']; exact x4) x5 (by rw [k2]; exact fun x p0 p1 => (hx x p0 p1).2.2.2.2.2) P3
    rw [k3] at e4
    refine ⟨_, e4, f4, a4, ni4, nu4, can4, cn4, c4, rfl, P4, fun x y1 y2 => ?_, fun x hx => ?_, fun x hx => ?_⟩
    · rw [F4.1 x y1 y2]; exact F3.1 x y1 y2
    · rw [F4.2.1 x hx]; exact F3.2.1 x hx
    · rw [F4.2.2 x hx]; exact F3.2.2 x hx
  · rintro s ⟨f3, a3, ni3, nu, can, cn, c, rfl, P3, F3⟩
    refine ⟨_, ?_, f3, a3, ni3, nu, can, cn, c, rfl, P3, F3⟩
    unfold gL_X9_plant_38 g_X9_plant_38
    rw [gpc_103_1, d10, gf_cs, F3.1 78 (by decide) (by decide), f1, if_pos (by rw [qz_le (by omega) (by omega) (by omega) (by omega)]; omega)]
end PLE
