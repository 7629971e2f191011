/-! read -/
section FRH
variable {b b2 n : Nat} {q S K P len dl : Int} {f f2 : Nat → Nat → Int} {d : Nat → Nat} {a a2 : Nat → Int → Int} {ni ni2 : Nat → Nat} {j j2 : Nat → Int → Int64} {F F2 : Nat → Int} {A A2 : Nat → Int → Int} {J J2 : Nat → Int → Int64}
theorem fr_half {i : Nat} {w x : Int} (H : FR b2 (1 - q) f a ni j F A J f2 a2 ni2 j2 F2 A2 J2) (hq : q = 0 ∨ q = 1) (hw : hlf i = w) (x0 : 0 ≤ x) (x1 : x < w) : A2 i (w * q + x) = A i (w * q + x) := by
  refine H.2.2.2.1 i (w * q + x) (by omega) ?_
  rw [hw]
  rcases hq with rfl | rfl
  · rw [Int.mul_zero, Int.sub_zero, Int.mul_one]; omega
  · rw [Int.mul_one, Int.sub_self, Int.mul_zero]; omega
theorem hlf_300 {i : Nat} (h : 3 ≤ i) (h2 : i ≤ 5) : hlf i = 300 := if_pos ⟨h, h2⟩
theorem hlf_200 {i : Nat} (h : 7 ≤ i) (h2 : i ≤ 14) : hlf i = 200 := by
  unfold hlf
  rw [if_neg (by omega), if_pos ⟨h, h2⟩]
theorem hlf_4096 {i : Nat} (h : 16 ≤ i) (h2 : i ≤ 18) : hlf i = 4096 := by
  unfold hlf
  rw [if_neg (by omega), if_neg (by omega), if_pos ⟨h, h2⟩]
/-- the book that stands stays while the other is read -/
theorem bk_fr (G : BK b q S K P len f a ni j A J) (hbq : bq b q) (hb2 : bq b2 (1 - q)) (H : FR b2 (1 - q) f a ni j F A J f2 a2 ni2 j2 F2 A2 J2) : BK b q S K P len f2 a2 ni2 j2 A2 J2 := by
  have hbb := bq_two hbq hb2
  have hq : q = 0 ∨ q = 1 := by have := bq_q hbq; omega
  have hh : ∀ i, b ≤ i → i < b + 32 → f2 i = f i ∧ a2 i = a i ∧ ni2 i = ni i ∧ j2 i = j i := fun i i1 i2 => H.1 i (by omega) (by omega)
  have hK : K ≤ 200 := G.2.1.2.2.2.1
  have hS : S ≤ 300 := G.2.1.2.1
  have G' := G
  obtain ⟨⟨b1, b2', b3, b4, b5, b6, b7, b8, b9⟩, gn, glb, gk, gf, gt, ghy, gma, gun, gpo, gpr, gfm, gax, grw⟩ := G'
  have one1 : ∀ i, hlf i = 1 → A2 i q = A i q := fun i hi => by
    have := fr_half (x := 0) H hq hi (by omega) (by omega)
    rw [Int.one_mul, Int.add_zero] at this
    exact this
  have w11 : a (b + 11 + 2) K ≤ 4096 := by
    have w := grw.1
    have w7 := grw.2.2.2.2.2.2.1
    obtain ⟨h1, h2, h3, h4, h5, h6, h7, h8, h9, h10, h11, h12⟩ := w
    rw [w7] at h11
    omega
  have w14 : a (b + 14 + 2) K ≤ 4096 := by
    have w := grw.2.1
    have w7 := grw.2.2.2.2.2.2.2.1
    obtain ⟨h1, h2, h3, h4, h5, h6, h7, h8, h9, h10, h11, h12⟩ := w
    rw [w7] at h11
    omega
  have hpp : ∀ i, 21 ≤ i → i ≤ 24 → ∀ p, 0 ≤ p → p < P → A2 i (10240 * q + p) = A i (10240 * q + p) := by
    intro i i1 i2 p p1 p2
    have := gpo.2.1
    refine fr_half H hq ?_ p1 (by omega)
    unfold hlf
    rw [if_neg (by omega), if_neg (by omega), if_neg (by omega), if_pos ⟨i1, i2⟩]
  refine bk_c G ⟨(hh b (by omega) (by omega)).1, fun r hr => (hh (b + r) (by omega) (by omega)).2.1, fun r hr => ⟨(hh (b + r + 2) (by omega) (by omega)).2.1, fun i _ _ => by rw [(hh (b + r + 1) (by omega) (by omega)).2.1]⟩, (hh (b + 31) (by omega) (by omega)).2.2.2, one1 6 rfl, one1 15 rfl, fun i i1 i2 x x0 x1 => fr_half H hq (hlf_300 i1 i2) x0 (by omega), fun i i1 i2 k k0 k1 => fr_half H hq (hlf_200 i1 i2) k0 (by omega), fun s s0 s1 => fr_half H hq rfl s0 (by omega), fun i i1 i2 s s0 s1 => fr_half H hq (hlf_4096 (by omega) i2) s0 (by omega), fun i i1 i2 k k0 k1 h h0 h1 => ?_⟩ (by rw [(hh (b + 10) (by omega) (by omega)).2.1]; exact gun) (by rw [one1 25 rfl]; exact b5) ⟨gpo.1, gpo.2.1, fun p p1 p2 => by rw [hpp 21 (by omega) (by omega) p p1 p2, hpp 22 (by omega) (by omega) p p1 p2, hpp 23 (by omega) (by omega) p p1 p2, hpp 24 (by omega) (by omega) p p1 p2]; exact gpo.2.2 p p1 p2⟩ (fun k k0 k1 x y => ?_) ?_
  · unfold bt
    rw [H.2.2.2.2.2.1 i (4 * (200 * q + k) + h / 64) i1 i2 (by rcases hq with rfl | rfl <;> omega)]
  · unfold pa
    constructor
    · rintro ⟨p, z1, z2, z3, z4, z5, z6⟩
      rw [hpp 21 (by omega) (by omega) p z1 z2] at z3
      rw [hpp 22 (by omega) (by omega) p z1 z2] at z4
      rw [hpp 23 (by omega) (by omega) p z1 z2] at z5
      rw [hpp 24 (by omega) (by omega) p z1 z2] at z6
      exact ⟨p, z1, z2, z3, z4, z5, z6⟩
    · rintro ⟨p, z1, z2, z3, z4, z5, z6⟩
      refine ⟨p, z1, z2, ?_, ?_, ?_, ?_⟩
      · rw [hpp 21 (by omega) (by omega) p z1 z2]; exact z3
      · rw [hpp 22 (by omega) (by omega) p z1 z2]; exact z4
      · rw [hpp 23 (by omega) (by omega) p z1 z2]; exact z5
      · rw [hpp 24 (by omega) (by omega) p z1 z2]; exact z6
  · unfold Grw at *
    rw [(hh (b + 11) (by omega) (by omega)).1, (hh (b + 14) (by omega) (by omega)).1, (hh (b + 17) (by omega) (by omega)).1, (hh (b + 20) (by omega) (by omega)).1, (hh (b + 23) (by omega) (by omega)).1, (hh (b + 26) (by omega) (by omega)).1, (hh (b + 11 + 2) (by omega) (by omega)).2.1, (hh (b + 14 + 2) (by omega) (by omega)).2.1, (hh (b + 17 + 2) (by omega) (by omega)).2.1, (hh (b + 20 + 2) (by omega) (by omega)).2.1, (hh (b + 23 + 2) (by omega) (by omega)).2.1, (hh (b + 26 + 2) (by omega) (by omega)).2.1, (hh (b + 11 + 1) (by omega) (by omega)).2.2.1, (hh (b + 14 + 1) (by omega) (by omega)).2.2.1, (hh (b + 17 + 1) (by omega) (by omega)).2.2.1, (hh (b + 20 + 1) (by omega) (by omega)).2.2.1, (hh (b + 23 + 1) (by omega) (by omega)).2.2.1, (hh (b + 26 + 1) (by omega) (by omega)).2.2.1]
    exact grw
/-- the text that was read is kept -/
theorem m_keep {v : Int32} (hn : 100000 ≤ n) (hq : 0 ≤ q ∧ q ≤ 1) (h1 : F 1 = dl) (h32 : F 32 = q) (h0 : 0 ≤ dl) (hd : dl ≤ 8192) : ∃ B : Int → Int, hp_lp (gL_X11_read_35 n 0 v) n (qz 0, ms F A J) = some (ms F (u1 A 2 B) J) ∧ (∀ x, 0 ≤ x → x < dl → B (8192 * q + x) = A 1 x) ∧ ∀ x, ¬(8192 * q ≤ x ∧ x < 8192 * q + 8192) → B x = A 2 x := by
  have lp := lp_inv (b := gL_X11_read_35 n 0 v) (fun t c => ∃ B : Int → Int, c = (qz t, ms F (u1 A 2 B) J) ∧ (∀ x, 0 ≤ x → x < t → B (8192 * q + x) = A 1 x) ∧ ∀ x, ¬(8192 * q ≤ x ∧ x < 8192 * q + 8192) → B x = A 2 x) (Q := fun s => ∃ B : Int → Int, s = ms F (u1 A 2 B) J ∧ (∀ x, 0 ≤ x → x < dl → B (8192 * q + x) = A 1 x) ∧ ∀ x, ¬(8192 * q ≤ x ∧ x < 8192 * q + 8192) → B x = A 2 x) dl (n := n) (i0 := 0) h0 (by omega) (c0 := (qz 0, ms F A J)) ⟨A 2, by rw [u1_id rfl], fun x x0 x1 => by omega, fun x _ => rfl⟩ ?_ ?_
  · obtain ⟨s, es, B, rfl, hB⟩ := lp
    exact ⟨B, es, hB⟩
  · rintro t c t0 t1 ⟨B, rfl, h2, h3⟩
    refine ⟨_, ?_, v1 B (8192 * q + t) (A 1 t), rfl, fun x x0 x1 => ?_, fun x hx => ?_⟩
    · unfold gL_X11_read_35 g_X11_read_35
      simp only [zl0, zl1, zl8192]
      rw [gf_ms, h1, if_neg (by rw [qz_le (by omega) (by omega) (by omega) (by omega)]; omega), gp_0, ga_1 (by omega) (by omega), bd_some, gf_ms, h32, qz_mul, qz_add, gp_5, u1_o (by omega), ua_2 (by omega) (by omega), bd_some, qz_add, v2_u1, u1_s, u1_1]
    · by_cases e : x = t
      · rw [e, v1_s]
      · rw [v1_o (by omega)]; exact h2 x x0 (by omega)
    · rw [v1_o (by omega)]; exact h3 x hx
  · rintro c ⟨B, rfl, h⟩
    refine ⟨_, ?_, B, rfl, h⟩
    unfold gL_X11_read_35 g_X11_read_35
    rw [gf_ms, h1, if_pos (by rw [qz_le (by omega) (by omega) (by omega) (by omega)]; omega)]
end FRH
theorem rwa_rd {b : Nat} {f f2 : Nat → Nat → Int} {a a2 : Nat → Int → Int} {ni ni2 : Nat → Nat} (H : RwA b f a ni) (hf : ∀ i, b < i → i < b + 32 → f2 i = f i) (ha : ∀ i, b < i → i < b + 32 → a2 i = a i) (hn : ∀ i, b < i → i < b + 32 → ni2 i = ni i) : RwA b f2 a2 ni2 := by
  unfold RwA at *
  rw [hf (b + 11) (by omega) (by omega), hf (b + 14) (by omega) (by omega), hf (b + 17) (by omega) (by omega), hf (b + 20) (by omega) (by omega), hf (b + 23) (by omega) (by omega), hf (b + 26) (by omega) (by omega), ha (b + 11 + 2) (by omega) (by omega), ha (b + 14 + 2) (by omega) (by omega), ha (b + 17 + 2) (by omega) (by omega), ha (b + 20 + 2) (by omega) (by omega), ha (b + 23 + 2) (by omega) (by omega), ha (b + 26 + 2) (by omega) (by omega), hn (b + 11 + 1) (by omega) (by omega), hn (b + 14 + 1) (by omega) (by omega), hn (b + 17 + 1) (by omega) (by omega), hn (b + 20 + 1) (by omega) (by omega), hn (b + 23 + 1) (by omega) (by omega), hn (b + 26 + 1) (by omega) (by omega)]
  exact H
theorem txs_0 {T t : Int → Int} : txs T t 0 := fun x x0 x1 => by omega
theorem txt_0 {t : Int → Int} : txt t 0 := ⟨by omega, by omega, fun x x0 x1 => by omega⟩
theorem ok_read : Ok_read Rel := by
  rintro n hn sC sM R _
  obtain ⟨q, b, b2, S, K, P, len, dl, f, d, a, ni, j, F, A, J, rfl, rfl, r1, r2, r3, r4, r5, r6, r7, r8, ⟨p1, p2, p3, p4, p5, p6, p7, p8⟩, r10, r11, r12, r13, r14⟩ := R
  have hq := bq_q r1
  have hb := bq_b r1
  have hb2 := bq_b r2
  have hbb := bq_two r1 r2
  have hd2 : d 2 = 117 ∨ d 2 = 119 := by omega
  have X0 : g_X10_forgetAnswers n 0 (cs f d a ni j) = some (cs (u2 (u2 (u2 (u2 f 0 10 0) 94 3 0) 94 2 0) (d 2) 1 0) d a ni j) := by
    unfold g_X10_forgetAnswers g_X10_forgetAnswers_0
    simp only [zl0]
    rw [wf_cs, bd_some, gpc_0_5, gpc_93_0, c_rclear rws_94, bd_some, gpc_0_7, wf_cs, bd_some]
  generalize hf' : u2 (u2 (u2 (u2 f 0 10 0) 94 3 0) 94 2 0) (d 2) 1 0 = f' at X0
  have f'e : ∀ i, i ≠ 0 → i ≠ 94 → i ≠ d 2 → f' i = f i := by
    intro i i1 i2 i3
    rw [← hf', u2_b i3, u2_b i2, u2_b i2, u2_b i1]
  have f'94 : f' 94 3 = 0 ∧ f' 94 2 = 0 := by
    rw [← hf', u2_b (by omega)]
    exact ⟨by rw [u2_c (by omega), u2_a], by rw [u2_a]⟩
  have f'd : f' (d 2) 1 = 0 := by rw [← hf', u2_a]
  have f'0 : f' 0 10 = 0 := by rw [← hf', u2_b (by omega), u2_b (by omega), u2_b (by omega), u2_a]
  obtain ⟨z, f2, a2, ni2, j2, F2, A2, J2, e1, e2, H, w2, z0, z7, y1, y2, y3, y4, y5, y6⟩ := rd_book (n := n) (b := b2) (q := 1 - q) (len := dl) (f := f') (d := d) (a := a) (ni := ni) (j := j) (F := F) (A := A) (J := J) hn r2 (rwa_rd p1 (fun i i1 i2 => f'e i (by omega) (by omega) (by omega)) (fun _ _ _ => rfl) (fun _ _ _ => rfl)) (by rw [f'e b2 (by omega) (by omega) (by omega)]; exact p2) p4 p5 p6 p7 p8 p3 (by omega)
  have G' : BK b q S K P len f' a ni j A J := bk_eq r7 (fun i i1 i2 => f'e i (by omega) (by omega) (by omega)) (fun _ _ _ => rfl) (fun _ _ _ => rfl) rfl (fun _ _ _ => rfl) ⟨rfl, rfl⟩
  have G2 := bk_fr G' r1 r2 H
  have ho : ∀ i, ¬(b2 ≤ i ∧ i < b2 + 32) → ¬(65 ≤ i ∧ i < 78) → f2 i = f' i ∧ a2 i = a i ∧ ni2 i = ni i ∧ j2 i = j i := H.1
  have hF : ∀ k, ¬(29 ≤ k ∧ k ≤ 43) → F2 k = F k := H.2.1
  have hA : ∀ i, i ≤ 2 ∨ 32 ≤ i → A2 i = A i := H.2.2.1
  have X1 : g_X10_read n 0 (cs f d a ni j) = g_X10_read_15 n 0 (qz z) (cs f2 (u1 (u1 d 4 b2) 5 (b2 + 2)) a2 ni2 j2) := by
    unfold g_X10_read g_X10_read_0
    rw [X0, bd_some, gpc_0_2, gpc_0_1, r5, e1, bd_some]
  have hd : ∀ i, i ≤ 3 → u1 (u1 d 4 b2) 5 (b2 + 2) i = d i := fun i hi => by rw [u1_o (by omega), u1_o (by omega)]
  have Y1 : g_X11_read n 0 (ms F A J) = (wF (ms F2 A2 J2) 0 2 (qz (f2 65 0))).bind fun w1 => if z = 0 then (hp_lp (gL_X11_read_35 n 0 (qz z)) n (qz 0, w1)).bind fun x2 => (wF x2 0 4 (gF x2 0 32)).bind fun w4 => g_X11_read_78 n 0 (qz z) w4 else g_X11_read_78 n 0 (qz z) w1 := by
    have h26 : ∀ v, g_X11_read_26 n 0 (qz z) v 0 (ms F2 A2 J2) = (wF (ms F2 A2 J2) 0 2 v).bind fun w1 => if z = 0 then (hp_lp (gL_X11_read_35 n 0 (qz z)) n (qz 0, w1)).bind fun x2 => (wF x2 0 4 (gF x2 0 32)).bind fun w4 => g_X11_read_78 n 0 (qz z) w4 else g_X11_read_78 n 0 (qz z) w1 := by
      intro v
      unfold g_X11_read_26
      simp only [zl0]
      simp (disch := omega) only [qz_inj]
    unfold g_X11_read g_X11_read_0 g_X11_read_15
    simp only [zl0, zl2]
    rw [e2, bd_some]
    simp only
    rw [gf_ms, gf_ms, h26, h26]
    by_cases c2 : z = 2
    · rw [if_pos (by rw [c2]), y1 (Or.inr c2), hF 1 (by omega), p3]
    · rw [if_neg (by rw [qz_inj (by omega) (by omega) (by omega) (by omega)]; exact c2)]
      by_cases c0 : z = 0
      · rw [if_pos (by rw [c0]), y1 (Or.inl c0), hF 1 (by omega), p3]
      · rw [if_neg (by rw [qz_inj (by omega) (by omega) (by omega) (by omega)]; exact c0), y2 ⟨c0, c2⟩]
  rw [wf_ms, bd_some] at Y1
  have Y78 : ∀ (F3 : Nat → Int) (A3 : Nat → Int → Int) (qq : Int), F3 4 = qq → 0 ≤ qq ∧ qq ≤ 1 → g_X11_read_78 n 0 (qz z) (ms F3 A3 J2) = some (qz (if z = 0 then A3 15 qq else -z), ms (u1 (u1 (u1 (u1 F3 1 0) 3 0) 71 0) 80 0) A3 J2) := by
    intro F3 A3 qq h4 hqq
    unfold g_X11_read_78 g_X11_forgetWork g_X11_forgetWork_0
    simp only [zl0]
    rw [wf_ms, bd_some, wf_ms, bd_some, wf_ms, bd_some, wf_ms, bd_some, bd_some, gp_18, gf_ms, u1_o (by omega), u1_o (by omega), u1_o (by omega), u1_o (by omega), h4, ga_15 (by omega) (by omega), bd_some]
    by_cases c0 : z = 0
    · rw [if_pos (by rw [qz_le (by omega) (by omega) (by omega) (by omega)]; omega), if_pos c0]
    · rw [if_neg (by rw [qz_le (by omega) (by omega) (by omega) (by omega)]; omega), if_neg c0, qz_neg]
  by_cases c0 : z = 0
  · obtain ⟨S2, K2, P2, GG, hx, hg⟩ := y6 c0
    obtain ⟨B, eB, B1, B2⟩ := m_keep (v := qz z) (A := A2) (J := J2) (F := u1 F2 2 (f2 65 0)) (q := 1 - q) (dl := dl) hn (by omega) (by rw [u1_o (by omega), hF 1 (by omega)]; exact p3) (by rw [u1_o (by omega)]; exact y5 c0) p4 p5
    rw [if_pos c0, eB, bd_some, gf_ms, wf_ms, bd_some, Y78 _ _ (1 - q) (by rw [u1_s, u1_o (by omega)]; exact y5 c0) (by omega), if_pos c0] at Y1
    have X2 : g_X10_read n 0 (cs f d a ni j) = some (qz (f2 b2 5), cs (u2 (u2 f2 0 9 (f2 65 0)) b 2 0) (u1 (u1 (u1 (u1 d 4 b2) 5 (b2 + 2)) 0 b2) 1 b) a2 ni2 j2) := by
      rw [X1]
      unfold g_X10_read_15 g_X10_read_49
      simp only [zl0]
      rw [gpc_0_2, gf_cs, wf_cs, bd_some, c0, if_pos rfl, gpc_0_1, gpc_0_0, hd 1 (by omega), hd 0 (by omega), r5, r4, wp_0_0, bd_some, wp_0_1, bd_some, gpc_0_1, u1_s, wf_cs, bd_some, if_pos rfl, gpc_0_0, u1_o (by omega), u1_s, gf_cs, u2_b (by omega), u2_b (by omega)]
    have hK2 : f2 b2 5 = K2 := GG.1.2.2.1
    have hK3 : A2 15 (1 - q) = K2 := GG.1.2.2.2.1
    have hB2 : u1 A2 2 B 15 = A2 15 := u1_o (by omega)
    refine ⟨_, _, _, X2, by rw [Y1, hB2, hK2, hK3], 1 - q, b2, b, S2, K2, P2, dl, 0, _, _, _, _, _, _, _, _, rfl, rfl, ?_⟩
    have hne : b ≠ b2 := by omega
    refine ⟨r2, by rw [show 1 - (1 - q) = q by omega]; exact r1, ?_, ?_, ?_, ?_, ?_, ?_, ?_, ?_, ?_, ?_, ?_, ?_⟩
    · rw [u1_o (by omega), u1_o (by omega), u1_o (by omega), u1_o (by omega), u1_s, u1_o (by omega)]
      exact y5 c0
    · rw [u1_o (by omega), u1_s]
    · rw [u1_s]
    · rw [u1_o (by omega), u1_o (by omega), hd 2 (by omega), u1_o (by omega), u1_o (by omega), hd 3 (by omega)]
      exact r6
    · exact bk_eq GG (fun i i1 i2 => by rw [u2_b (by omega), u2_b (by omega)]) (fun _ _ _ => rfl) (fun _ _ _ => rfl) rfl (fun i i1 i2 => u1_o (by omega)) ⟨rfl, rfl⟩
    · intro x x0 x1
      have h1 := hx x x0 x1
      have h2 := hg x x0 x1
      rw [u1_s, B1 x x0 x1]
      unfold sgn at h1
      omega
    · refine ⟨rwa_rd (grw_rwa G2.2.2.2.2.2.2.2.2.2.2.2.2.2) (fun i i1 i2 => by rw [u2_b (by omega), u2_b (by omega)]) (fun _ _ _ => rfl) (fun _ _ _ => rfl), by rw [u2_a], by rw [u1_o (by omega), u1_o (by omega), u1_o (by omega), u1_s], by omega, by omega, G2.1.2.2.2.2.2.2.2.2, txt_0, txs_0⟩
    · rw [u1_o (by omega), u1_o (by omega), hd 2 (by omega)]
      refine ⟨?_, ?_, ?_, ?_⟩
      · rw [u1_s, u2_b (by omega), u2_b (by omega), (ho (d 2) (by omega) (by omega)).1]
        exact f'd
      · rw [u1_s]; omega
      · rw [u1_s]; omega
      · intro x x0 x1
        rw [u1_s] at x1; omega
    · refine ⟨?_, ?_, ?_, ?_, ?_⟩
      · rw [u2_b (by omega), u2_b (by omega), (ho 94 (by omega) (by omega)).1, (ho (94 + 1) (by omega) (by omega)).2.2.1, (ho (94 + 2) (by omega) (by omega)).2.1, f'94.1, f'94.2]
        exact rw_clear r11.1
      · rw [u2_b (by omega), u2_b (by omega), (ho 94 (by omega) (by omega)).1, f'94.1, u1_o (by omega), u1_s]
      · rw [u1_o (by omega), u1_s]; omega
      · rw [u1_o (by omega), u1_s]; omega
      · intro r r0 r1
        rw [u1_o (by omega), u1_s] at r1; omega
    · unfold Rmc
      rw [u2_b (by omega), u2_b (by omega), u2_b (by omega), u2_b (by omega), u2_b (by omega), u2_b (by omega), u2_b (by omega), u2_b (by omega), (ho 84 (by omega) (by omega)).1, (ho (84 + 1) (by omega) (by omega)).2.2.1, (ho (84 + 2) (by omega) (by omega)).2.1, (ho 87 (by omega) (by omega)).1, (ho (87 + 1) (by omega) (by omega)).2.2.1, (ho (87 + 2) (by omega) (by omega)).2.1, (ho 97 (by omega) (by omega)).1, (ho (97 + 1) (by omega) (by omega)).2.2.1, (ho (97 + 2) (by omega) (by omega)).2.1, (ho 105 (by omega) (by omega)).1, (ho (105 + 1) (by omega) (by omega)).2.2.1, (ho (105 + 2) (by omega) (by omega)).2.1, f'e 84 (by omega) (by omega) (by omega), f'e 87 (by omega) (by omega) (by omega), f'e 97 (by omega) (by omega) (by omega), f'e 105 (by omega) (by omega) (by omega)]
      exact r12
    · rw [u2_b (by omega), u2_a, u1_o (by omega), u1_o (by omega), u1_o (by omega), u1_o (by omega), u1_o (by omega), u1_s]
    · rw [u2_b (by omega), u2_c (by omega), (ho 0 (by omega) (by omega)).1, f'0, u1_o (by omega), u1_o (by omega), u1_s]
  · rw [if_neg c0, Y78 _ _ q (by rw [u1_o (by omega), hF 4 (by omega)]; exact r3) hq, if_neg c0] at Y1
    have X2 : g_X10_read n 0 (cs f d a ni j) = some (qz (-z), cs (u2 (u2 f2 0 9 (f2 65 0)) b2 2 0) (u1 (u1 d 4 b2) 5 (b2 + 2)) a2 ni2 j2) := by
      rw [X1]
      unfold g_X10_read_15 g_X10_read_49
      simp only [zl0]
      rw [gpc_0_2, gf_cs, wf_cs, bd_some, if_neg (by rw [qz_inj (by omega) (by omega) (by omega) (by omega)]; exact c0), gpc_0_1, hd 1 (by omega), r5, wf_cs, bd_some, if_neg (by rw [qz_inj (by omega) (by omega) (by omega) (by omega)]; exact c0), qz_neg]
    refine ⟨_, _, _, X2, Y1, q, b, b2, S, K, P, len, 0, _, _, _, _, _, _, _, _, rfl, rfl, ?_⟩
    refine ⟨r1, r2, ?_, ?_, ?_, ?_, ?_, ?_, ?_, ?_, ?_, ?_, ?_, ?_⟩
    · rw [u1_o (by omega), u1_o (by omega), u1_o (by omega), u1_o (by omega), u1_o (by omega), hF 4 (by omega)]
      exact r3
    · rw [hd 0 (by omega)]; exact r4
    · rw [hd 1 (by omega)]; exact r5
    · rw [hd 2 (by omega), hd 3 (by omega)]; exact r6
    · exact bk_eq G2 (fun i i1 i2 => by rw [u2_b (by omega), u2_b (by omega)]) (fun _ _ _ => rfl) (fun _ _ _ => rfl) rfl (fun i i1 i2 => rfl) ⟨rfl, rfl⟩
    · intro x x0 x1
      rw [(ho (b + 2) (by omega) (by omega)).2.1, hA 2 (by omega)]
      exact r8 x x0 x1
    · refine ⟨rwa_rd w2 (fun i i1 i2 => by rw [u2_b (by omega), u2_b (by omega)]) (fun _ _ _ => rfl) (fun _ _ _ => rfl), by rw [u2_a], by rw [u1_o (by omega), u1_o (by omega), u1_o (by omega), u1_s], by omega, by omega, by rw [H.2.2.2.2.2.2 hb2]; exact p6, txt_0, txs_0⟩
    · rw [hd 2 (by omega)]
      refine ⟨?_, ?_, ?_, ?_⟩
      · rw [u1_s, u2_b (by omega), u2_b (by omega), (ho (d 2) (by omega) (by omega)).1]
        exact f'd
      · rw [u1_s]; omega
      · rw [u1_s]; omega
      · intro x x0 x1
        rw [u1_s] at x1; omega
    · refine ⟨?_, ?_, ?_, ?_, ?_⟩
      · rw [u2_b (by omega), u2_b (by omega), (ho 94 (by omega) (by omega)).1, (ho (94 + 1) (by omega) (by omega)).2.2.1, (ho (94 + 2) (by omega) (by omega)).2.1, f'94.1, f'94.2]
        exact rw_clear r11.1
      · rw [u2_b (by omega), u2_b (by omega), (ho 94 (by omega) (by omega)).1, f'94.1, u1_o (by omega), u1_s]
      · rw [u1_o (by omega), u1_s]; omega
      · rw [u1_o (by omega), u1_s]; omega
      · intro r r0 r1
        rw [u1_o (by omega), u1_s] at r1; omega
    · unfold Rmc
      rw [u2_b (by omega), u2_b (by omega), u2_b (by omega), u2_b (by omega), u2_b (by omega), u2_b (by omega), u2_b (by omega), u2_b (by omega), (ho 84 (by omega) (by omega)).1, (ho (84 + 1) (by omega) (by omega)).2.2.1, (ho (84 + 2) (by omega) (by omega)).2.1, (ho 87 (by omega) (by omega)).1, (ho (87 + 1) (by omega) (by omega)).2.2.1, (ho (87 + 2) (by omega) (by omega)).2.1, (ho 97 (by omega) (by omega)).1, (ho (97 + 1) (by omega) (by omega)).2.2.1, (ho (97 + 2) (by omega) (by omega)).2.1, (ho 105 (by omega) (by omega)).1, (ho (105 + 1) (by omega) (by omega)).2.2.1, (ho (105 + 2) (by omega) (by omega)).2.1, f'e 84 (by omega) (by omega) (by omega), f'e 87 (by omega) (by omega) (by omega), f'e 97 (by omega) (by omega) (by omega), f'e 105 (by omega) (by omega) (by omega)]
      exact r12
    · rw [u2_b (by omega), u2_a, u1_o (by omega), u1_o (by omega), u1_o (by omega), u1_o (by omega), u1_s]
    · rw [u2_b (by omega), u2_c (by omega), (ho 0 (by omega) (by omega)).1, f'0, u1_o (by omega), u1_o (by omega), u1_s]
