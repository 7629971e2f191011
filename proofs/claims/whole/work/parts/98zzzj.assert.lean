/-! A step that is an assertion: both, to the end -/
section ASS
variable {n m b : Nat} {q S K P len k N i e w : Int} {f : Nat → Nat → Int} {d : Nat → Nat} {a : Nat → Int → Int} {ni : Nat → Nat} {j : Nat → Int → Int64} {F : Nat → Int} {A : Nat → Int → Int} {J : Nat → Int → Int64}
theorem apply_step (hn : 100000 ≤ n) (hm : mch m) (hbq : bq b q) (H : RI m b q S K P len k N i f d a ni j F A J) (h0 : 0 ≤ k) (h1 : k < K) (i0 : 0 ≤ i) (i1 : i < N) (hN : N ≤ 1000) (h50 : F 50 = N) (ie : i < e) (e1 : e ≤ 1000) (iw : i < w) (w1 : w ≤ 1001) (ha0 : 0 ≤ a 79 i) (ha : 2 ≤ a (b + 8) (a 79 i)) : ∃ (f2 : Nat → Nat → Int) (a2 : Nat → Int → Int) (ni2 : Nat → Nat) (j2 : Nat → Int → Int64) (F2 : Nat → Int) (A2 : Nat → Int → Int), FRM m f a ni j f2 a2 ni2 j2 ∧ FRR F A F2 A2 ∧ ((gL_X1_run_40 n m 78 (qz e) (qz i, cs f d a ni j) = some (.inl (qz (i + 1), cs f2 d a2 ni2 j2)) ∧ gL_X11_runSteps_15 n 0 (qz k) (qz w) (qz 1, qz i, ms F A J) = some (.inl (qz 1, qz (i + 1), ms F2 A2 J)) ∧ RI m b q S K P len k N (i + 1) f2 d a2 ni2 j2 F2 A2 J) ∨ ∃ z, -10 ≤ z ∧ z < 0 ∧ gL_X1_run_40 n m 78 (qz e) (qz i, cs f d a ni j) = some (.inr (.inl (qz i, qz z, cs f2 d a2 ni2 j2))) ∧ gL_X11_runSteps_15 n 0 (qz k) (qz w) (qz 1, qz i, ms F A J) = some (.inl (qz 0, qz (i + 1), ms F2 A2 J)) ∧ F2 54 = z ∧ F2 55 = i ∧ RWm m f2 a2 ni2) := by
  have hb := bq_b hbq
  have hq := bq_q hbq
  have hbb : b = 1 ∨ b = 33 := hb
  have hmm : m = 83 ∨ m = 93 := hm
  have H0 := H
  obtain ⟨G, hd, h4, HP, SK, hR, MK, HD, hmk, h67, HT⟩ := H0
  have hK : K ≤ 200 := G.2.1.2.2.2.1
  have hS : S ≤ 300 := G.2.1.2.1
  have R0 := rwl_0 SK
  obtain ⟨_, hnm⟩ := HD i i0 i1
  have hnm2 : a 79 i < k ∧ A 34 i = a 79 i := by
    rcases hnm with ⟨z1, z2, z3⟩ | ⟨mm, z1, z2, z3, z4⟩
    · exact ⟨z2, z3⟩
    · omega
  obtain ⟨ak, e34⟩ := hnm2
  clear hnm
  have gk := G.2.2.2.1 (a 79 i) ha0 (by omega)
  have hnd : ndf b a i = a (b + 20 + 2) (a 79 i + 1) - a (b + 20 + 2) (a 79 i) := by
    unfold ndf
    rw [if_pos ha0]
  generalize hx : a 79 i = x at *
  have xK : x < K := by omega
  obtain ⟨hb1, hb2, hb3, hb4⟩ := bk_h G ha0 xK
  generalize hNN : a (b + 20 + 2) (x + 1) - a (b + 20 + 2) x = NN at *
  have NN0 : 0 ≤ NN := by omega
  have hrw20 := G.2.2.2.2.2.2.2.2.2.2.2.2.2.2.2.2.1
  have eC : gL_X1_run_40 n m 78 (qz e) (qz i, cs f d a ni j) = (g_X1_apply n m (qz x) (cs f d a ni j)).bind fun x2 => g_X1_run_102 n m 78 (qz e) (qz i) x2.1 x2.2 := by
    unfold gL_X1_run_40 g_X1_run_40 g_X1_run_80 g_X1_run_93
    simp only [zl0, zl1, zl2]
    rw [if_neg (by rw [qz_le (by omega) (by omega) (by omega) (by omega)]; omega), gpc_78_3, gac_79 i0 (by omega), bd_some, hx, if_neg (by rw [qz_lt (by omega) (by omega) (by omega) (by omega)]; omega), gpm_2 hm, hd, gpb_6 hb, gab_8 hb (by omega) (by omega), bd_some, if_neg (by rw [qz_lt (by omega) (by omega) (by omega) (by omega)]; omega), if_neg n10]
  have eM : gL_X11_runSteps_15 n 0 (qz k) (qz w) (qz 1, qz i, ms F A J) = (g_X11_pushAssertion n 0 (qz k) (qz i) (qz x) (ms F A J)).bind fun x10 => some (.inl (x10.1, qz (i + 1), x10.2)) := by
    unfold gL_X11_runSteps_15 g_X11_runSteps_15 g_X11_runSteps_104
    simp only [zl0, zl1, zl2, zl1000]
    rw [gf_ms, h50, if_neg (by rw [qz_le (by omega) (by omega) (by omega) (by omega)]; omega), if_neg (by rw [qz_le (by omega) (by omega) (by omega) (by omega)]; omega), if_neg n10, gp_49, ga_34 i0 (by omega), bd_some, e34, if_pos (by rw [qz_lt (by omega) (by omega) (by omega) (by omega)]; omega), m_at h4, bd_some, gp_10, ga_7 (by omega) (by omega), bd_some, if_pos (by rw [qz_le (by omega) (by omega) (by omega) (by omega)]; omega), qz_add]
  have fault : ∀ (z : Int) (a2 : Nat → Int → Int) (j2 : Nat → Int → Int64) (A2 : Nat → Int → Int), -10 ≤ z → z < 0 → g_X1_apply n m (qz x) (cs f d a ni j) = some (qz z, cs f d a2 ni j2) → g_X11_pushAssertion n 0 (qz k) (qz i) (qz x) (ms F A J) = some (qz 0, ms (u1 (u1 F 54 z) 55 i) A2 J) → (∀ y, y ≠ m + 7 → a2 y = a y) → (∀ y, y ≠ m + 9 → j2 y = j y) → (∀ y, y ≠ 42 → y ≠ 43 → A2 y = A y) → ∃ (f2 : Nat → Nat → Int) (a2 : Nat → Int → Int) (ni2 : Nat → Nat) (j2 : Nat → Int → Int64) (F2 : Nat → Int) (A2 : Nat → Int → Int), FRM m f a ni j f2 a2 ni2 j2 ∧ FRR F A F2 A2 ∧ ((gL_X1_run_40 n m 78 (qz e) (qz i, cs f d a ni j) = some (.inl (qz (i + 1), cs f2 d a2 ni2 j2)) ∧ gL_X11_runSteps_15 n 0 (qz k) (qz w) (qz 1, qz i, ms F A J) = some (.inl (qz 1, qz (i + 1), ms F2 A2 J)) ∧ RI m b q S K P len k N (i + 1) f2 d a2 ni2 j2 F2 A2 J) ∨ ∃ z, -10 ≤ z ∧ z < 0 ∧ gL_X1_run_40 n m 78 (qz e) (qz i, cs f d a ni j) = some (.inr (.inl (qz i, qz z, cs f2 d a2 ni2 j2))) ∧ gL_X11_runSteps_15 n 0 (qz k) (qz w) (qz 1, qz i, ms F A J) = some (.inl (qz 0, qz (i + 1), ms F2 A2 J)) ∧ F2 54 = z ∧ F2 55 = i ∧ RWm m f2 a2 ni2) := by
    intro z a2 j2 A2 z0 z1 q1 q2 q3 q4 q5
    refine ⟨f, a2, ni, j2, u1 (u1 F 54 z) 55 i, A2, ⟨fun y hy => ⟨rfl, q3 y (by omega), rfl, q4 y (by omega)⟩, q4 _ (by omega)⟩, ⟨fun y y1 y2 _ _ => by rw [u1_o y2, u1_o y1], fun y hy => q5 y (by omega) (by omega)⟩, Or.inr ⟨z, z0, z1, ?_, ?_, by rw [u1_o (by decide), u1_s], by rw [u1_s], ?_, ?_⟩⟩
    · rw [eC, q1, bd_some]
      unfold g_X1_run_102
      rw [if_neg (by rw [zl0, qz_inj (by omega) (by omega) (by omega) (by omega)]; omega)]
    · rw [eM, q2, bd_some]
    · rw [q3 _ (by omega)]; exact SK.1
    · rw [q3 _ (by omega)]; exact MK.1
  have emH := m_hyps (n := n) hn G hbq h4 ha0 xK
  rw [hNN] at emH
  have ecS := c_size (f := f) (d := d) (a := a) (ni := ni) (j := j) (n := n) (k := x) (rws_b20 hb) hrw20 ha0 (by rw [G.2.2.2.2.2.2.2.2.2.2.2.2.2.2.2.2.2.2.2.2.2.2.1]; omega)
  rw [hNN] at ecS
  have NN1 : NN ≤ 65536 := by
    have e3 : f (b + 20) 3 = K := G.2.2.2.2.2.2.2.2.2.2.2.2.2.2.2.2.2.2.2.2.2.2.1
    obtain ⟨r1, r2, r3, r4, r5, r6, r7, r8, r9, r10, r11, r12⟩ := hrw20
    have y1 := r12 (x + 1) (f (b + 20) 3) (by omega) (by omega) (Int.le_refl _)
    have y2 := r12 0 x (by omega) (by omega) (by omega)
    omega
  by_cases c1 : NN ≤ F 59
  · obtain ⟨a2, A2, p1, p2, pp⟩ := hyp_loop (n := n) (s := i) (v1 := qz k) (v4 := qz NN) (J := J) (bs := F 59 - NN) hn hm hb hd hq h4 G ha0 xK ha SK hR hNN rfl (by omega)
    have eA : ∀ X, hp_lp (gL_X1_apply_32 n m (qz x) (qz NN) (qz (F 59 - NN))) n (qz 0, cs f d a ni j) = some X → g_X1_apply n m (qz x) (cs f d a ni j) = Sum.elim (fun y6 => (g_X1_keepsApart n m (qz x) y6).bind fun x8 => if x8.1 = qz 0 then some (qz (-7), x8.2) else if qz (F 59 - NN) = qz 100 then some (qz (-10), x8.2) else (g_X1_sizeOf n m (qz x) x8.2).bind fun x9 => if x9 ≤ qz 200 then (g_X1_pushInstance n m (qz x) x8.2).bind fun x10 => g_X1_apply_111 n m (qz NN) x10 else some (qz (-10), x8.2)) (fun y7 => some (y7.1, y7.2)) X := by
      intro X hX
      unfold g_X1_apply g_X1_apply_0
      simp only [zl0, zlm7, zlm10, zl100, zl200]
      rw [gpm_2 hm, hd, gpb_12 hb, ecS, bd_some, gpm_0 hm, gf_cs, SK.2.1, qz_sub, if_pos (by rw [qz_le (by omega) (by omega) (by omega) (by omega)]; omega), hX, bd_some]
    rcases pp with ⟨l1, l2, l3⟩ | ⟨z, hz, l1, l2⟩
    · have G2 : BK b q S K P len f a2 ni j A2 J := bk_eq G (fun _ _ _ => rfl) (fun y y1 y2 => p1 y (by omega)) (fun _ _ _ => rfl) rfl (fun y y1 y2 => p2 y (by omega) (by omega)) ⟨rfl, rfl⟩
      have SK2 : RWL (m + 1) 32768 (F 59) S f a2 ni (A2 38) (A2 37) := rwl_c SK rfl (p1 _ (by omega)) (p1 _ (by omega)) rfl (fun _ _ _ => by rw [p2 38 (by decide) (by decide)]) (fun _ _ _ => by rw [p2 37 (by decide) (by decide)])
      have HP2 : PRT m q P k A2 j := by
        unfold PRT
        rw [p2 21 (by decide) (by decide), p2 22 (by decide) (by decide), p2 23 (by decide) (by decide), p2 24 (by decide) (by decide)]
        exact HP
      have l3' : ∀ y, stX b q x a2 (A2 11) (A2 16) x y → a2 (m + 7) y = A2 43 y ∧ 0 ≤ A2 43 y ∧ A2 43 y < F 59 := by
        unfold stX hmem at l3 ⊢
        rw [p1 _ (by omega), p1 _ (by omega), p1 _ (by omega), p2 11 (by decide) (by decide), p2 16 (by decide) (by decide)]
        exact l3
      have ha2 : 2 ≤ a2 (b + 8) x := by rw [p1 _ (by omega)]; exact ha
      obtain ⟨w', ew⟩ := c_keeps (n := n) (L := A2 38) (T := A2 37) hn hm hb hd G2 SK2 hR ha0 xK ha2 HP2 (fun y hy => by
        obtain ⟨y1, y2, y3⟩ := l3' y (mf_st G2 ha0 xK hy)
        rw [y1]; exact ⟨y2, y3⟩)
      obtain ⟨mp1, mp2⟩ := m_pairs (n := n) (J := J) (v2 := qz i) (v4 := qz NN) (v5 := qz (F 59 - NN)) hn hbq h4 G2 h0 h1 ha0 xK ha2 (fun y hy => by
        obtain ⟨y1, y2, y3⟩ := l3' y (mf_st G2 ha0 xK hy)
        obtain ⟨g1, g2, g3, g4⟩ := SK2.2.2.2 _ y2 y3
        exact ⟨y2, by omega, g2, g3, fun x' x0 x1 => (g4 x' x0 x1).2⟩)
      have hiff : (∀ x' y, mem (a2 (b + 23 + 1)) (a2 (b + 23 + 2) x) (a2 (b + 23 + 2) (x + 1)) (300 * x' + y) → 0 ≤ x' → x' < y → y < 300 → rap q P k (a2 (b + 7)) (A2 38) (A2 37) (A2 21) (A2 22) (A2 23) (A2 24) (a2 (m + 7) x') (a2 (m + 7) y)) ↔ (∀ x' y, mem (a2 (b + 23 + 1)) (a2 (b + 23 + 2) x) (a2 (b + 23 + 2) (x + 1)) (300 * x' + y) → 0 ≤ x' → x' < y → y < 300 → rap q P k (a2 (b + 7)) (A2 38) (A2 37) (A2 21) (A2 22) (A2 23) (A2 24) (A2 43 x') (A2 43 y)) := by
        obtain ⟨_, _, _, _, d5, _⟩ := bk_d G2 ha0 xK
        have key : ∀ x' y, mem (a2 (b + 23 + 1)) (a2 (b + 23 + 2) x) (a2 (b + 23 + 2) (x + 1)) (300 * x' + y) → 0 ≤ x' → x' < y → y < 300 → a2 (m + 7) x' = A2 43 x' ∧ a2 (m + 7) y = A2 43 y := by
          intro x' y hm' x0 xy y1
          obtain ⟨x2, y2, g0, g1, g2, g3, _, _, _, g7, g8⟩ := (d5 ha2 _).mp hm'
          have ex : x2 = x' := by omega
          have ey : y2 = y := by omega
          rw [ex] at g7
          rw [ey] at g8
          exact ⟨(l3' _ (mf_st G2 ha0 xK g7)).1, (l3' _ (mf_st G2 ha0 xK g8)).1⟩
        constructor
        · intro h x' y hm' x0 xy y1
          obtain ⟨k1, k2⟩ := key x' y hm' x0 xy y1
          rw [← k1, ← k2]
          exact h x' y hm' x0 xy y1
        · intro h x' y hm' x0 xy y1
          obtain ⟨k1, k2⟩ := key x' y hm' x0 xy y1
          rw [k1, k2]
          exact h x' y hm' x0 xy y1
      have eA1 := eA _ l1
      rw [Sum.elim_inl, ew, bd_some] at eA1
      have eP : ∀ X, hp_lp (gL_X11_pushAssertion_93 n 0 (qz k) (qz i) (qz x) (qz NN) (qz (F 59 - NN)) (ms F A2 J)) n (qz (10240 * q)) = some X → g_X11_pushAssertion n 0 (qz k) (qz i) (qz x) (ms F A J) = Sum.elim (fun y6 => (g_X11_fails n 0 (qz (-7)) (qz i) (ms F A2 J)).bind fun x8 => (hp_bz x8.1).bind fun _ => some (x8.1, x8.2)) (fun y7 => (g_X11_substitute n 0 (qz x) (ms F A2 J)).bind fun x10 => if qz 200 < x10.1 then g_X11_pushAssertion_226 n 0 (qz i) x10.2 else if qz (F 59 - NN) = qz 100 then g_X11_pushAssertion_226 n 0 (qz i) x10.2 else (uA 0 x10.2 (gP x10.2 0 65) (qz i) (gF x10.2 0 67)).bind fun w12 => (uA 0 w12 (gP w12 0 66) (qz i) (qz NN)).bind fun w14 => (hp_lp (gL_X11_pushAssertion_255 n 0 (qz i) (qz NN) (qz (F 59 - NN)) x10.1) n (qz 0, w14)).bind fun x15 => (wF x15 0 59 (qz (F 59 - NN))).bind fun w17 => (uA 0 w17 (gP w17 0 57) (qz (F 59 - NN)) x10.1).bind fun w19 => (hp_lp (gL_X11_pushAssertion_315 n 0 (qz i) (qz (F 59 - NN)) x10.1) n (qz 0, w19)).bind fun x20 => (g_X11_endThing n 0 (qz i) (qz i) x20).bind fun x22 => some (qz 1, x22)) X := by
        intro X hX
        unfold g_X11_pushAssertion g_X11_pushAssertion_0
        simp only [zl0, zl1, zlm7, zl100, zl200, zl10240]
        rw [emH, bd_some, gf_ms, if_pos (by rw [qz_le (by omega) (by omega) (by omega) (by omega)]; omega), qz_sub, l2, bd_some, Sum.elim_inl, gf_ms, h4, qz_mul, hX, bd_some]
      by_cases cQ : ∀ x' y, mem (a2 (b + 23 + 1)) (a2 (b + 23 + 2) x) (a2 (b + 23 + 2) (x + 1)) (300 * x' + y) → 0 ≤ x' → x' < y → y < 300 → rap q P k (a2 (b + 7)) (A2 38) (A2 37) (A2 21) (A2 22) (A2 23) (A2 24) (a2 (m + 7) x') (a2 (m + 7) y)
      · rw [qp_T cQ] at eA1
        have eP1 := eP _ (mp1 (hiff.mp cQ))
        rw [Sum.elim_inr] at eP1
        have hsC : ∀ t, 0 ≤ t → t < A2 12 (200 * q + x) → a2 (b + 7) (fsy q x (A2 11) (A2 16) t) = 1 → a2 (m + 7) (fsy q x (A2 11) (A2 16) t) = A2 43 (fsy q x (A2 11) (A2 16) t) ∧ 0 ≤ A2 43 (fsy q x (A2 11) (A2 16) t) ∧ A2 43 (fsy q x (A2 11) (A2 16) t) < F 59 := fun t t0 t1 tv => l3' _ (gma_1 G2 ha0 xK ha2 t0 t1 tv)
        have hGw := bk_f G2 ha0 xK
        have eW : sbl (fsy q x (A2 11) (A2 16)) (a2 (b + 7)) (a2 (m + 7)) (A2 38) (A2 37) (A2 12 (200 * q + x)).toNat = sbl (fsy q x (A2 11) (A2 16)) (a2 (b + 7)) (A2 43) (A2 38) (A2 37) (A2 12 (200 * q + x)).toNat := sbl_c _ (fun t ht tv => (hsC t (by omega) (by omega) tv).1)
        have Gw : BK b q S K P len f a2 ni (u1 j (m + 9) w') A2 J := bk_eq G2 (fun _ _ _ => rfl) (fun _ _ _ => rfl) (fun _ _ _ => rfl) (u1_o (by omega)) (fun _ _ _ => rfl) ⟨rfl, rfl⟩
        have hsC2 : ∀ t, 0 ≤ t → t < A2 12 (200 * q + x) → a2 (b + 7) (fsy q x (A2 11) (A2 16) t) = 1 → 0 ≤ a2 (m + 7) (fsy q x (A2 11) (A2 16) t) ∧ a2 (m + 7) (fsy q x (A2 11) (A2 16) t) < F 59 := fun t t0 t1 tv => by
          obtain ⟨y1, y2, y3⟩ := hsC t t0 t1 tv
          rw [y1]; exact ⟨y2, y3⟩
        obtain ⟨ecz, hcz⟩ := c_sizeOf (n := n) (d := d) (L := A2 38) (T := A2 37) hn hm hb hd Gw ha0 xK SK2 hR hsC2
        obtain ⟨B, em, hB⟩ := m_subst (n := n) (F := F) (J := J) hn hq h4 G2 ha0 xK (fun t t0 t1 tv => by
          obtain ⟨y1, y2, y3⟩ := hsC t t0 t1 tv
          obtain ⟨g1, g2, g3, g4⟩ := SK2.2.2.2 _ y2 y3
          exact ⟨y2, by omega, g2, g3⟩)
        have hW1 := sbl_1 (sf := A2 43) (L := A2 38) (T := A2 37) G2 ha0 xK
        have hWc := hcz (A2 12 (200 * q + x)).toNat (by omega)
        rw [eW] at ecz hWc
        generalize hWd : sbl (fsy q x (A2 11) (A2 16)) (a2 (b + 7)) (A2 43) (A2 38) (A2 37) (A2 12 (200 * q + x)).toNat = W at *
        rw [ecz] at eA1
        rw [em, bd_some] at eP1
        by_cases c23 : F 59 - NN = 100 ∨ ¬(W.length : Int) ≤ 200
        · refine fault (-10) a2 (u1 j (m + 9) w') (u1 A2 42 B) (by omega) (by omega) ?_ ?_ p1 (fun y hy => u1_o hy) (fun y y1 y2 => by rw [u1_o y1]; exact p2 y y1 y2)
          · rw [eA1, if_neg n10]
            by_cases c2 : F 59 - NN = 100
            · rw [c2, if_pos rfl]
            · rw [if_neg (by rw [qz_inj (by omega) (by omega) (by omega) (by omega)]; omega), bd_some, if_neg (by rw [qz_le (by omega) (by omega) (by omega) (by omega)]; omega)]
          · rw [eP1]
            have e226 : g_X11_pushAssertion_226 n 0 (qz i) (ms F (u1 A2 42 B) J) = some (qz 0, ms (u1 (u1 F 54 (-10)) 55 i) (u1 A2 42 B) J) := by
              unfold g_X11_pushAssertion_226
              rw [zlm10, m_fails, bd_some, hp_bz_0, bd_some]
            by_cases c3 : (W.length : Int) ≤ 200
            · rw [if_pos c3, if_neg (by rw [qz_lt (by omega) (by omega) (by omega) (by omega)]; omega), show F 59 - NN = 100 by omega, if_pos rfl, e226]
            · rw [if_neg c3, if_pos (by rw [qz_lt (by omega) (by omega) (by omega) (by omega)]; omega), e226]
        · have c2 : F 59 - NN ≠ 100 := fun y => c23 (Or.inl y)
          have c3 : (W.length : Int) ≤ 200 := by
            apply Classical.byContradiction
            intro y
            exact c23 (Or.inr y)
          have hB := hB c3
          rw [if_neg n10, if_neg (by rw [qz_inj (by omega) (by omega) (by omega) (by omega)]; omega), bd_some, if_pos (by rw [qz_le (by omega) (by omega) (by omega) (by omega)]; omega)] at eA1
          rw [if_pos c3, if_neg (by rw [qz_lt (by omega) (by omega) (by omega) (by omega)]; omega), if_neg (by rw [qz_inj (by omega) (by omega) (by omega) (by omega)]; omega), gp_65, gf_ms, ua_45 i0 (by omega), bd_some, gp_66, ua_46 i0 (by omega), bd_some] at eP1
          obtain ⟨B4, e4, t1, t2⟩ := m_takes (n := n) (F := F) (A := v2 (v2 (u1 A2 42 B) 45 i (F 67)) 46 i NN) (J := J) (v2 := qz i) (v7 := qz W.length) (bs := F 59 - NN) (l := NN) hn rfl h67.1 NN0 (by omega) (by omega) (by omega)
          rw [e4, bd_some, wf_ms, bd_some, gp_57, ua_38 (by omega) (by omega), bd_some] at eP1
          obtain ⟨B7, e7, s1, s2⟩ := m_copyI (n := n) (F := u1 (u1 F 67 (F 67 + NN)) 59 (F 59 - NN)) (A := v2 (u1 (v2 (v2 (u1 A2 42 B) 45 i (F 67)) 46 i NN) 44 B4) 38 (F 59 - NN) W.length) (J := J) (v2 := qz i) (bs := F 59 - NN) (l := W.length) hn (by omega) (by omega) (by omega) c3
          rw [e7, bd_some] at eP1
          rw [v2_o (by decide), u1_o (by decide), v2_o (by decide), v2_o (by decide), u1_o (by decide)] at s1
          rw [v2_o (by decide), u1_o (by decide), v2_o (by decide), v2_o (by decide), u1_s] at s2
          rw [v2_o (by decide), v2_o (by decide), u1_o (by decide)] at t1 t2
          generalize hA1 : u1 (v2 (u1 (v2 (v2 (u1 A2 42 B) 45 i (F 67)) 46 i NN) 44 B4) 38 (F 59 - NN) W.length) 37 B7 = A1 at eP1
          have o37 : A1 37 = B7 := by rw [← hA1, u1_s]
          have o38 : A1 38 = v1 (A2 38) (F 59 - NN) W.length := by rw [← hA1, u1_o (by decide), v2_s, u1_o (by decide), v2_o (by decide), v2_o (by decide), u1_o (by decide)]
          have o44 : A1 44 = B4 := by rw [← hA1, u1_o (by decide), v2_o (by decide), u1_s]
          have o45 : A1 45 = v1 (A2 45) i (F 67) := by rw [← hA1, u1_o (by decide), v2_o (by decide), u1_o (by decide), v2_o (by decide), v2_s, u1_o (by decide)]
          have o46 : A1 46 = v1 (A2 46) i NN := by rw [← hA1, u1_o (by decide), v2_o (by decide), u1_o (by decide), v2_s, v2_o (by decide), u1_o (by decide)]
          have ox : ∀ y, y ≠ 37 → y ≠ 38 → y ≠ 42 → y ≠ 43 → y ≠ 44 → y ≠ 45 → y ≠ 46 → A1 y = A y := fun y y1 y2 y3 y4 y5 y6 y7 => by rw [← hA1, u1_o y1, v2_o y2, u1_o y5, v2_o y7, v2_o y6, u1_o y3]; exact p2 y y3 y4
          obtain ⟨f3, a3, ni3, ep, SK3, x1, x2, x3⟩ := c_pushInst (n := n) (d := d) (L2 := v1 (A2 38) (F 59) W.length) (T2 := fun y => if y < 200 * F 59 then A2 37 y else W.getD (y - 200 * F 59).toNat 0) hn hm hb hd Gw ha0 xK SK2 hR hsC2 W eW hW1 c3 (by rw [v1_s]) (fun r q0 q1 => by rw [v1_o (by omega)]) (fun y hy => by
            show (if 200 * F 59 + (y : Int) < 200 * F 59 then A2 37 (200 * F 59 + (y : Int)) else W.getD (200 * F 59 + (y : Int) - 200 * F 59).toNat 0) = W.getD y 0
            rw [if_neg (by omega), show (200 * F 59 + (y : Int) - 200 * F 59).toNat = y by omega]) (fun y q0 q1 => by
            show (if y < 200 * F 59 then A2 37 y else W.getD (y - 200 * F 59).toNat 0) = A2 37 y
            rw [if_pos q1])
          obtain ⟨f4, a4, ed, SK4, y1, y2⟩ := c_dropN (n := n) (d := d) (j := u1 j (m + 9) w') (N := NN) (bs := F 59 - NN) (L2 := A1 38) (T2 := A1 37) (rwm_1 hm) SK3 NN0 c1 rfl (by rw [o38, v1_s, v1_s]) (fun r q0 q1 => by rw [o38, v1_o (by omega), v1_o (by omega)]) (fun y q0 q1 => by
            rw [v1_s] at q1
            show A1 37 (200 * (F 59 - NN) + y) = (if 200 * F 59 + y < 200 * F 59 then A2 37 (200 * F 59 + y) else W.getD (200 * F 59 + y - 200 * F 59).toNat 0)
            have hb' := hB y.toNat (by omega)
            rw [show ((y.toNat : Nat) : Int) = y by omega] at hb'
            rw [if_neg (by omega), o37, s2 y q0 q1, hb', show (200 * F 59 + y - 200 * F 59).toNat = y.toNat by omega]) (fun y q0 q1 => by
            show A1 37 y = (if y < 200 * F 59 then A2 37 y else W.getD (y - 200 * F 59).toNat 0)
            rw [if_pos (by omega), o37]
            exact s1 y q1)
          have hF1 : FRM m f a ni j f4 a4 ni3 (u1 j (m + 9) w') := ⟨fun y hy => ⟨by rw [y1 y (by omega)]; exact x1 y (by omega), by rw [y2 y (by omega) (by omega), x2 y (by omega) (by omega)]; exact p1 y (by omega), x3 y (by omega), u1_o (by omega)⟩, u1_o (by omega)⟩
          have hF2 : FRR F A (u1 (u1 F 67 (F 67 + NN)) 59 (F 59 - NN)) A1 := ⟨fun y _ _ y3 y4 => by rw [u1_o y3, u1_o y4], fun y hy => ox y (by omega) (by omega) (by omega) (by omega) (by omega) (by omega) (by omega)⟩
          obtain ⟨f5, a5, ni5, A5, g1, g2, HR, g3, g4⟩ := ri_next (n := n) (v := qz e) (node := i) (R1 := F 59 - NN) hn hm hb H i0 i1 hN (by omega) (by omega) (by omega) (by omega) (by rw [u1_s]) (by rw [u1_o (by decide), u1_s, hnd]) SK4 (rwl_c MK (by rw [y1 _ (by omega)]; exact x1 _ (by omega)) (by rw [y2 _ (by omega) (by omega), x2 _ (by omega) (by omega)]; exact p1 _ (by omega)) (by rw [y2 _ (by omega) (by omega), x2 _ (by omega) (by omega)]; exact p1 _ (by omega)) (x3 _ (by omega)) (fun _ _ _ => by rw [ox 41 (by decide) (by decide) (by decide) (by decide) (by decide) (by decide) (by decide)]) (fun _ _ _ => by rw [ox 40 (by decide) (by decide) (by decide) (by decide) (by decide) (by decide) (by decide)])) hF1 hF2 (ox 39 (by decide) (by decide) (by decide) (by decide) (by decide) (by decide) (by decide)) (ox 47 (by decide) (by decide) (by decide) (by decide) (by decide) (by decide) (by decide)) (by rw [o45, p2 45 (by decide) (by decide)]) (by rw [o46, p2 46 (by decide) (by decide), hnd]) (fun y hy => by rw [o44, t1 y hy, p2 44 (by decide) (by decide)]) (fun t q0 q1 => by rw [o44, t2 t q0 (by omega), p2 39 (by decide) (by decide)]) (fun _ => rfl) (fun z => by omega)
          refine ⟨f5, a5, ni5, _, _, A5, g3, g4, Or.inl ⟨?_, ?_, HR⟩⟩
          · rw [eC, eA1, ep, bd_some]
            unfold g_X1_apply_111
            rw [gpm_0 hm, ed, bd_some, bd_some]
            exact g1
          · rw [eM, eP1, g2, bd_some, bd_some]
      · rw [qp_F cQ, if_pos rfl] at eA1
        have eP1 := eP _ (mp2 (fun h => cQ (hiff.mpr h)))
        rw [Sum.elim_inl, m_fails, bd_some, hp_bz_0, bd_some] at eP1
        exact fault (-7) a2 (u1 j (m + 9) w') A2 (by omega) (by omega) eA1 eP1 p1 (fun y hy => u1_o hy) p2
    · have eA1 := eA _ l1
      rw [Sum.elim_inr] at eA1
      refine fault z a2 j A2 (by omega) (by omega) eA1 ?_ p1 (fun _ _ => rfl) p2
      unfold g_X11_pushAssertion g_X11_pushAssertion_0
      simp only [zl0]
      rw [emH, bd_some, gf_ms, if_pos (by rw [qz_le (by omega) (by omega) (by omega) (by omega)]; omega), qz_sub, l2, bd_some, Sum.elim_inr]
  · refine fault (-4) a j A (by omega) (by omega) ?_ ?_ (fun _ _ => rfl) (fun _ _ => rfl) (fun _ _ _ => rfl)
    · unfold g_X1_apply g_X1_apply_0
      simp only [zl0, zlm4]
      rw [gpm_2 hm, hd, gpb_12 hb, ecS, bd_some, gpm_0 hm, gf_cs, SK.2.1, qz_sub, if_neg (by rw [qz_le (by omega) (by omega) (by omega) (by omega)]; omega)]
    · unfold g_X11_pushAssertion g_X11_pushAssertion_0
      simp only [zlm4]
      rw [emH, bd_some, gf_ms, if_neg (by rw [qz_le (by omega) (by omega) (by omega) (by omega)]; omega), m_fails, bd_some, hp_bz_0, bd_some]
end ASS
