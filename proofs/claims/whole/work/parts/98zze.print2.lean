/-! print: both -/
section PR2
variable {s n b b2 : Nat} {q S K P len dl k : Int} {L : List Int} {f f2 : Nat → Nat → Int} {d d2 : Nat → Nat} {a a2 : Nat → Int → Int} {ni ni2 : Nat → Nat} {j j2 : Nat → Int → Int64} {F F2 : Nat → Int} {A A2 : Nat → Int → Int} {J J2 : Nat → Int → Int64} {st st' : st_T}
theorem shC_0 (hd : d 0 = b) (H : shC s L f d a ni j st) : gP st 0 0 = b := by
  obtain ⟨f2, a2, rfl, _⟩ := H
  rw [gpc_0_0, hd]
theorem shC_p (hb : bks b) (H : shC s L f d a ni j st) : gP st b 0 = b + 1 ∧ gP st b 6 = b + 8 ∧ gP st b 9 = b + 11 := by
  obtain ⟨f2, a2, rfl, _⟩ := H
  exact ⟨gpb_0 hb, gpb_6 hb, gpb_9 hb⟩
theorem shC_k (hb : bks b) (hs : s = 117 ∨ s = 119) (k0 : 0 ≤ k) (k1 : k < 200) (H : shC s L f d a ni j st) : gA st (b + 8) (qz k) = some (qz (a (b + 8) k)) := by
  have hbb : b = 1 ∨ b = 33 := hb
  obtain ⟨f2, a2, rfl, h1, h2, h3, h4, h5⟩ := H
  rw [gab_8 hb k0 k1, h4 (b + 8) (by omega)]
theorem shC_z (hb : bks b) (hs : s = 117 ∨ s = 119) (G : BK b q S K P len f a ni j A J) (k0 : 0 ≤ k) (k1 : k < K) (H : shC s L f d a ni j st) : g_X5_size n (b + 11) (qz k) st = some (qz (A 12 (200 * q + k))) := by
  have hbb : b = 1 ∨ b = 33 := hb
  obtain ⟨f1, f2', f3, f4, f5, f6, f7, f8, f9, f10, f11⟩ := bk_f G k0 k1
  obtain ⟨f2, a2, rfl, h1, h2, h3, h4, h5⟩ := H
  have G3 := shC_bk hb hs G h1 h4
  have hz := G3.2.2.2.2.2.2.2.2.2.2.2.2.2
  rw [c_size (rws_b11 hb) hz.1 k0 (by rw [hz.2.2.2.2.2.2.1]; exact k1), h4 (b + 11 + 2) (by omega), show a (b + 11 + 2) (k + 1) - a (b + 11 + 2) k = A 12 (200 * q + k) by omega]
theorem shM_a (h4 : F 4 = q) (H : shM L F A J st) : g_X11_at n 0 (qz k) st = some (qz (200 * q + k)) := by
  obtain ⟨F2, A2, rfl, g1, g2, g3, g4⟩ := H
  exact m_at (by rw [g1 4 (by decide)]; exact h4)
theorem shM_k (hq : 0 ≤ q ∧ q ≤ 1) (k0 : 0 ≤ k) (k1 : k < 200) (H : shM L F A J st) : gA st (gP st 0 10) (qz (200 * q + k)) = some (qz (A 7 (200 * q + k))) := by
  obtain ⟨F2, A2, rfl, g1, g2, g3, g4⟩ := H
  rw [gp_10, ga_7 (by omega) (by omega), g3 7 (by decide)]
theorem shC_e (hs : s = 117 ∨ s = 119) : ∃ st, g_X8_clear n s (cs f d a ni j) = some st ∧ shC s [] f d a ni j st := by
  refine ⟨cs (u2 (u2 f s 1 0) s 2 0) d a ni j, ?_, _, _, rfl, fun i hi => by rw [u2_b hi, u2_b hi], by rw [u2_c (by decide), u2_a]; rfl, by rw [u2_a]; rfl, fun _ _ => rfl, fun x hx => absurd hx (Nat.not_lt_zero _)⟩
  unfold g_X8_clear g_X8_clear_0
  simp only [zl0]
  rw [wf_cs, bd_some, wf_cs, bd_some]
theorem shM_e : shM [] F A J (ms (u1 F 82 0) A J) := ⟨_, _, rfl, fun i hi => u1_o hi, by rw [u1_s]; rfl, fun _ _ => rfl, fun x hx => absurd hx (Nat.not_lt_zero _)⟩
/-- the letter of a kind -/
def kch (x : Int) : Int := if x = 0 then 102 else if x = 1 then 101 else if x = 2 then 97 else 112
theorem kch_r (x : Int) : 0 ≤ kch x ∧ kch x < 128 := by
  unfold kch
  by_cases c0 : x = 0
  · rw [if_pos c0]; omega
  rw [if_neg c0]
  by_cases c1 : x = 1
  · rw [if_pos c1]; omega
  rw [if_neg c1]
  by_cases c2 : x = 2
  · rw [if_pos c2]; omega
  rw [if_neg c2]; omega
theorem c_kch {x : Int} (h0 : 0 ≤ x) (h1 : x ≤ 3) : g_X10_keywordOf n (qz x) st = some (qz (kch x)) := by
  unfold g_X10_keywordOf g_X10_keywordOf_0 kch
  simp only [zl0, zl1, zl2]
  simp (disch := omega) only [qz_inj]
  simp only [apply_ite qz, apply_ite some]
  rfl
theorem m_kch {x : Int} (h0 : 0 ≤ x) (h1 : x ≤ 3) : (if qz x = 0 then g_X11_print_75 n 0 (qz k) (102 : Int32) 0 st else if qz x = (1 : Int32) then g_X11_print_75 n 0 (qz k) (101 : Int32) 0 st else if qz x = (2 : Int32) then g_X11_print_75 n 0 (qz k) (97 : Int32) 0 st else g_X11_print_75 n 0 (qz k) (112 : Int32) 0 st) = g_X11_print_75 n 0 (qz k) (qz (kch x)) 0 st := by
  unfold kch
  by_cases c0 : x = 0
  · rw [if_pos (by rw [c0]; rfl), if_pos c0]
    rfl
  rw [if_neg (by rw [zl0, qz_inj (by omega) (by omega) (by omega) (by omega)]; exact c0), if_neg c0]
  by_cases c1 : x = 1
  · rw [if_pos (by rw [c1]; rfl), if_pos c1]
    rfl
  rw [if_neg (by rw [zl1, qz_inj (by omega) (by omega) (by omega) (by omega)]; exact c1), if_neg c1]
  by_cases c2 : x = 2
  · rw [if_pos (by rw [c2]; rfl), if_pos c2]
    rfl
  rw [if_neg (by rw [zl2, qz_inj (by omega) (by omega) (by omega) (by omega)]; exact c2), if_neg c2]
  rfl
end PR2
theorem ok_print : Ok_print Rel := by
  rintro n hn sC sM R a0
  have R' := R
  obtain ⟨q, b, b2, S, K, P, len, dl, f, d, a, ni, j, F, A, J, rfl, rfl, R0⟩ := R'
  have R1 := R0
  obtain ⟨r1, r2, r3, r4, r5, r6, r7, r8, r9, r10, r11, r12, r13, r14⟩ := R1
  obtain ⟨k, k1, k2, rfl⟩ := qz_of a0
  have hq := bq_q r1
  have hb := bq_b r1
  have G := r7
  obtain ⟨⟨b1, b2', b3, b4, b5, b6, b7, b8, b9⟩, gn, glb, gk, gf, gt, ghy, gma, gun, gpo, gpr, gfm, gax, grw⟩ := r7
  have hK0 : 0 ≤ K := gn.2.2.1
  have hK1 : K ≤ 200 := gn.2.2.2.1
  have hS1 : S ≤ 300 := gn.2.1
  have eC := c_isSt (n := n) (d := d) (j := j) (ni := ni) (f := f) (a := a) (b := b) k1 k2 (by omega) (by omega)
  have eM := m_isSt (n := n) (F := F) (A := A) (J := J) r3 hq b4 hK0 hK1 k1 k2
  by_cases c : 0 ≤ k ∧ k < K
  rotate_left
  · refine ⟨qz (-1), _, _, ?_, ?_, R⟩
    · unfold g_X10_print g_X10_print_0
      rw [gpc_0_0, r4, eC, bd_some, b3, qp_F c, if_pos (by decide)]
      rfl
    · unfold g_X11_print g_X11_print_0
      rw [eM, bd_some, qp_F c, if_pos (by decide)]
      rfl
  obtain ⟨c0, c1⟩ := c
  have gk' := gk k c0 c1
  obtain ⟨f1, f2', f3, f4, f5, f6, f7, f8, f9, f10, f11⟩ := bk_f G c0 c1
  have hs : d 3 = 117 ∨ d 3 = 119 := by omega
  have hl : liv S K (300 + k) := Or.inr ⟨by omega, by omega⟩
  obtain ⟨n1, n2, n3, n4, n5, n6⟩ := bk_n G hl
  obtain ⟨g1, g2⟩ := gn.2.2.2.2.2.2.2.2 k c0 c1
  have hsl := syl_len (q := q) (A2 := A 2) (A3 := A 3) (A4 := A 4) (sy := fun i => A 16 (4096 * q + A 11 (200 * q + k) + i)) (A 12 (200 * q + k)).toNat (fun i hi => by
    obtain ⟨e1, e2, e3⟩ := f7 i (by omega) (by omega)
    have gs := gn.2.2.2.2.2.2.2.1 _ e2 e3
    have h1 := bk_n G (x := A 16 (4096 * q + A 11 (200 * q + k) + i)) (Or.inl ⟨e2, e3⟩)
    try simp only
    omega)
  have hlb : lby ((((([] ++ nmb (fun y => A 2 (8192 * q + y)) (A 8 (200 * q + k)) (A 9 (200 * q + k)).toNat) ++ [32]) ++ [36]) ++ [kch (a (b + 8) k)]) ++ [32] ++ syl q (A 2) (A 3) (A 4) (fun i => A 16 (4096 * q + A 11 (200 * q + k) + i)) (A 12 (200 * q + k)).toNat ++ [36] ++ [46]) := by
    refine lby_1 (lby_1 (lby_s _ (lby_1 (lby_1 (lby_1 (lby_1 (lby_n lby_0 (fun i hi => ?_)) (by omega) (by omega)) (by omega) (by omega)) (kch_r _).1 (kch_r _).2) (by omega) (by omega)) (fun i hi y hy => ?_)) (by omega) (by omega)) (by omega) (by omega)
    · have := r8 (A 8 (200 * q + k) + i) (by omega) (by omega)
      try simp only
      omega
    · obtain ⟨e1, e2, e3⟩ := f7 i (by omega) (by omega)
      have gs := gn.2.2.2.2.2.2.2.1 _ e2 e3
      have h1 := bk_n G (x := A 16 (4096 * q + A 11 (200 * q + k) + i)) (Or.inl ⟨e2, e3⟩)
      try simp only at hy ⊢
      have := r8 (A 3 (300 * q + A 16 (4096 * q + A 11 (200 * q + k) + i)) + y) (by omega) (by omega)
      omega
  obtain ⟨s0, e0, h0⟩ := shC_e (n := n) (f := f) (d := d) (a := a) (ni := ni) (j := j) hs
  obtain ⟨s1, e1, h1⟩ := c_putName hn hs hb G r8 hl h0
  rw [g1, g2] at h1
  obtain ⟨s2, e2, h2⟩ := c_put (n := n) (v := 32) hs (by omega) (by omega) h1
  obtain ⟨s3, e3, h3⟩ := c_put (n := n) (v := 36) hs (by omega) (by omega) h2
  obtain ⟨s4, e4, h4⟩ := c_put (n := n) (v := kch (a (b + 8) k)) hs (kch_r _).1 (kch_r _).2 h3
  obtain ⟨s5, e5, h5⟩ := c_put (n := n) (v := 32) hs (by omega) (by omega) h4
  obtain ⟨s6, e6, h6⟩ := c_syms hn hs hb r4 G r8 c0 c1 h5
  obtain ⟨s7, e7, h7⟩ := c_put (n := n) (v := 36) hs (by omega) (by omega) h6
  obtain ⟨s8, e8, h8⟩ := c_put (n := n) (v := 46) hs (by omega) (by omega) h7
  have XC : g_X10_print n 0 (qz k) (cs f d a ni j) = (g_X10_publish n 0 s8).bind fun x7 => some (x7.1, x7.2) := by
    unfold g_X10_print g_X10_print_0
    rw [gpc_0_0, r4, eC, bd_some, b3, qp_T ⟨c0, c1⟩, if_neg (by decide), gpc_0_8, e0, bd_some, show gP s0 0 8 = d 3 from by obtain ⟨_, _, rfl, _⟩ := h0; exact gpc_0_8]
    have XW : g_X10_writeStatement n 0 (d 3) (qz k) s0 = some s8 := by
      unfold g_X10_writeStatement g_X10_writeStatement_0
      simp only [zl0, zl300, zl32, zl36, zl46]
      rw [shC_0 r4 h0, (shC_p hb h0).1, qz_add, e1, bd_some, e2, bd_some, e3, bd_some, shC_0 r4 h3, (shC_p hb h3).2.1, shC_k hb hs c0 (by omega) h3, bd_some, c_kch (by omega) (by omega), bd_some, e4, bd_some, e5, bd_some, shC_0 r4 h5, (shC_p hb h5).2.2, shC_z hb hs G c0 c1 h5, bd_some, e6, bd_some, e7, bd_some, e8, bd_some]
    rw [XW, bd_some]
  have m0 : shM [] F A J (ms (u1 F 82 0) A J) := shM_e
  obtain ⟨t1, y1, i1⟩ := m_sayLabel (n := n) hn hq r3 c0 (by omega) (by omega) (by omega) (by omega) (by show (0 : Int) < _; omega) m0
  have len1 : ((([] : List Int) ++ nmb (fun y => A 2 (8192 * q + y)) (A 8 (200 * q + k)) (A 9 (200 * q + k)).toNat).length : Int) ≤ 8192 := by
    rw [List.nil_append, nmb_len]; omega
  obtain ⟨t2, y2, i2⟩ := m_say (n := n) (v := 32) (by omega) i1
  obtain ⟨t3, y3, i3⟩ := m_say (n := n) (v := 36) (by rw [len_1]; omega) i2
  obtain ⟨t4, y4, i4⟩ := m_say (n := n) (v := kch (A 7 (200 * q + k))) (by rw [len_1, len_1]; omega) i3
  obtain ⟨t5, y5, i5⟩ := m_say (n := n) (v := 32) (by rw [len_1, len_1, len_1]; omega) i4
  obtain ⟨t6, y6, i6⟩ := m_syms hn hq r3 G c0 c1 (by rw [len_1, len_1, len_1, len_1]; omega) i5
  obtain ⟨t7, y7, i7⟩ := m_say (n := n) (v := 36) (by rw [List.length_append, len_1, len_1, len_1, len_1]; omega) i6
  obtain ⟨t8, y8, i8⟩ := m_say (n := n) (v := 46) (by rw [len_1, List.length_append, len_1, len_1, len_1, len_1]; omega) i7
  have XM : g_X11_print n 0 (qz k) (ms F A J) = (g_X11_told n 0 t8).bind fun x7 => some (x7.1, x7.2) := by
    unfold g_X11_print g_X11_print_0
    rw [eM, bd_some, qp_T ⟨c0, c1⟩, if_neg (by decide), show (wF (ms F A J) 0 82 (0 : Int32)) = some (ms (u1 F 82 0) A J) from (by rw [zl0]; exact wf_ms), bd_some, y1, bd_some, zl32, y2, bd_some, zl36, y3, bd_some, shM_a r3 i3, bd_some, shM_k hq c0 (by omega) i3, bd_some, m_kch (by omega) (by omega)]
    unfold g_X11_print_75
    simp only [zl0, zl32, zl36, zl46]
    rw [y4, bd_some, y5, bd_some, y6, bd_some, y7, bd_some, y8, bd_some]
  rw [← gk'.1] at i8
  obtain ⟨r, sC2, sM2, w1, w2, w3⟩ := rel_told hn R0 hlb (by rw [len_1, len_1, List.length_append, len_1, len_1, len_1, len_1]; omega) h8 i8
  exact ⟨r, sC2, sM2, by rw [XC, w1, bd_some], by rw [XM, w2, bd_some], w3⟩
