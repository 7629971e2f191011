/-! The nodes of a proof, in the class: a step -/
section PLD
variable {n b : Nat} {q S K P len N c i r k c2 h : Int} {nd nu can cn lo dp : Int → Int} {ch SS : Int → Int → Int} {f : Nat → Nat → Int} {d : Nat → Nat} {a : Nat → Int → Int} {ni : Nat → Nat} {j : Nat → Int → Int64} {A : Nat → Int → Int} {J : Nat → Int → Int64}
/-- what the rows of a teller are, before step i -/
def PLI (i c : Int) (b : Nat) (dp : Int → Int) (ch SS : Int → Int → Int) (A35 : Int → Int) (f : Nat → Nat → Int) (a : Nat → Int → Int) (ni : Nat → Nat) (nu can cn : Int → Int) : Prop := NDS i c (ndf b a) (a 79) ch nu can cn ∧ TKN c f a ni ∧ PLR c (ndf b a) (a 79) ch nu can a ∧ (∀ r, 0 ≤ r → r < dp i → a 112 r = nu (SS i r)) ∧ (∀ m, 0 ≤ m → m < mkc (a 80) i → a 111 m = nu (A35 m)) ∧ a (105 + 2) c + dp i ≤ i ∧ ∀ x, 0 ≤ x → x < i → a 79 x < 0 → nu x = nu (A35 (-1 - a 79 x))
/-- what planting changes -/
def PLF (f : Nat → Nat → Int) (a : Nat → Int → Int) (ni : Nat → Nat) (f2 : Nat → Nat → Int) (a2 : Nat → Int → Int) (ni2 : Nat → Nat) : Prop := (∀ x, x ≠ 103 → x ≠ 105 → f2 x = f x) ∧ (∀ x, x < 104 ∨ 113 ≤ x → a2 x = a x) ∧ ∀ x, x ≠ 105 + 1 → ni2 x = ni x
theorem plant_step (hn : 100000 ≤ n) (hb : bks b) (hd9 : d 9 = b) (hd10 : d 10 = 78) (G : BK b q S K P len f a ni j A J) (T : RPN N (ndf b a) ch lo) (hN : N ≤ 1000) (f1 : f 78 1 = N) (k1 : k < K) (HD : DP k N (a 79) (a 80) (A 34) (A 35) (A 36)) (hmk : mkc (a 80) N ≤ 200) (i0 : 0 ≤ i) (i1 : i < N) (hdp : 0 ≤ ndf b a i ∧ ndf b a i ≤ dp i ∧ dp i ≤ i ∧ dp (i + 1) = dp i - ndf b a i + 1) (hS1 : SS (i + 1) (dp i - ndf b a i) = i) (hS2 : ∀ r, 0 ≤ r → r < dp i - ndf b a i → SS (i + 1) r = SS i r) (hch : ∀ t, ch i t = SS i (dp i - ndf b a i + t)) (hSr : ∀ r, 0 ≤ r → r < dp i → 0 ≤ SS i r ∧ SS i r < i) (hmk2 : ∀ x, 0 ≤ x → x < N → a 79 x < 0 → 0 ≤ A 35 (-1 - a 79 x) ∧ A 35 (-1 - a 79 x) < x) (H : PLI i c b dp ch SS (A 35) f a ni nu can cn) : ∃ (f2 : Nat → Nat → Int) (a2 : Nat → Int → Int) (ni2 : Nat → Nat) (nu2 can2 cn2 : Int → Int) (c2 : Int), gL_X9_plant_38 n 103 (qz (mkc (a 80) i), qz (dp i), qz i, cs f d a ni j) = some (.inl (qz (mkc (a 80) (i + 1)), qz (dp (i + 1)), qz (i + 1), cs f2 d a2 ni2 j)) ∧ PLI (i + 1) c2 b dp ch SS (A 35) f2 a2 ni2 nu2 can2 cn2 ∧ PLF f a ni f2 a2 ni2 ∧ (∀ x, x ≠ 2 → f2 103 x = f 103 x) := by
  have hbb : b = 1 ∨ b = 33 := hb
  have hK : K ≤ 200 := G.2.1.2.2.2.1
  obtain ⟨D, TK', R, Sk, Mk, Sm, Mq⟩ := H
  obtain ⟨z0, z1, z2, z3⟩ := hdp
  obtain ⟨T1, T2, T3, T4, T5⟩ := TK'
  have hci : c ≤ i := by
    have := nds_x D i.toNat (by omega)
    rw [show ((i.toNat : Nat) : Int) = i by omega, D.2.1] at this
    exact this
  obtain ⟨hd1, hnm⟩ := HD i i0 i1
  have mki := mkc_r (g := a 80) i0
  have mkN := mkc_m (g := a 80) (i := i) (y := N) i0 (by omega)
  have mkN1 := mkc_m (g := a 80) (i := i + 1) (y := N) (by omega) (by omega)
  -- labels decide how many are taken
  have hnn : ∀ x y, 0 ≤ a 79 x → a 79 x = a 79 y → ndf b a x = ndf b a y := by
    intro x y hx e
    unfold ndf
    rw [← e]
  have hcan : ∀ y, 0 ≤ y → y < c → 0 ≤ can y ∧ can y < i ∧ 0 ≤ a 79 (can y) := fun y y0 y1 => by
    obtain ⟨q1, q2, _, _, _, q6⟩ := nds_can D i0 y0 y1
    exact ⟨q1, q2, q6⟩
  have hnd : ∀ x y, 0 ≤ x → x < c → 0 ≤ y → y < c → a 79 (can x) = a 79 (can y) → ndf b a (can x) = ndf b a (can y) := fun x y x0 x1 _ _ e => hnn _ _ (hcan x x0 x1).2.2 e
  have hchi : ∀ x, 0 ≤ x → x ≤ i → ∀ t, 0 ≤ t → t < ndf b a x → 0 ≤ nu (ch x t) ∧ nu (ch x t) < c := by
    intro x x0 x1 t t0 t1
    obtain ⟨_, _, _, _, p5, _⟩ := T x x0 (by omega)
    obtain ⟨q1, q2⟩ := p5 t t0 t1
    obtain ⟨n1, n2, n3⟩ := nds_nu D q1 (by omega)
    exact ⟨n1, n3⟩
  have hst : ∀ t, 0 ≤ t → t < ndf b a i → a 112 (dp i - ndf b a i + t) = nu (ch i t) := by
    intro t t0 t1
    rw [hch t]
    exact Sk _ (by omega) (by omega)
  -- the end of a step
  have fin : ∀ (r : Int) (f2 : Nat → Nat → Int) (a2 : Nat → Int → Int) (ni2 : Nat → Nat) (can2 cn2 : Int → Int) (c2 : Int), 0 ≤ r → r < 1000 → (a 79 i < 0 → r = nu (A 35 (-1 - a 79 i))) → NDS (i + 1) c2 (ndf b a) (a 79) ch (v1 nu i r) can2 cn2 → TKN c2 f2 a2 ni2 → PLR c2 (ndf b a) (a 79) ch (v1 nu i r) can2 a2 → a2 (105 + 2) c2 ≤ a (105 + 2) c + ndf b a i → PLF f a ni f2 a2 ni2 → (∀ x, x ≠ 2 → f2 103 x = f 103 x) → a2 112 = a 112 → a2 111 = a 111 → ∃ a3 : Nat → Int → Int, g_X9_plant_115 n 103 (qz (mkc (a 80) i)) (qz (dp i)) (qz i) (qz (ndf b a i)) (qz r) (cs f2 d a2 ni2 j) = some (.inl (qz (mkc (a 80) (i + 1)), qz (dp (i + 1)), qz (i + 1), cs f2 d a3 ni2 j)) ∧ PLI (i + 1) c2 b dp ch SS (A 35) f2 a3 ni2 (v1 nu i r) can2 cn2 ∧ PLF f a ni f2 a3 ni2 := by
    intro r f2 a2 ni2 can2 cn2 c2 r0 r1 rq q1 q2 q3 q4 q5 q6 e112 e111
    clear hnm
    have e80 : a2 80 = a 80 := q5.2.1 80 (by omega)
    generalize ha3 : (if a 80 i = 0 then v2 a2 112 (dp i - ndf b a i) r else v2 (v2 a2 112 (dp i - ndf b a i) r) 111 (mkc (a 80) i) r) = a3
    have oo : ∀ x, x ≠ 111 → x ≠ 112 → a3 x = a2 x := by
      intro x x1 x2
      rw [← ha3]
      split
      · rw [v2_o x2]
      · rw [v2_o x1, v2_o x2]
    have o112 : a3 112 = v1 (a 112) (dp i - ndf b a i) r := by
      rw [← ha3, ← e112]
      split
      · rw [v2_s]
      · rw [v2_o (by decide), v2_s]
    have o79 : a3 79 = a 79 := by rw [oo _ (by decide) (by decide)]; exact q5.2.1 79 (by omega)
    have o80 : a3 80 = a 80 := by rw [oo _ (by decide) (by decide)]; exact e80
    have ond : ndf b a3 = ndf b a := by
      funext x
      unfold ndf
      rw [o79, oo _ (by omega) (by omega), q5.2.1 _ (by omega)]
    refine ⟨a3, ?_, ⟨?_, ?_, ?_, fun r' p0 p1 => ?_, fun m p0 p1 => ?_, ?_, fun x p0 p1 p2 => ?_⟩, q5.1, fun x hx => ?_, q5.2.2⟩
    · unfold g_X9_plant_115 g_X9_plant_160
      simp only [zl0, zl1]
      rw [gpc_103_10, qz_sub, uac_112 (by omega) (by omega), bd_some, gpc_103_1, hd10, gpc_78_4, gac_80 i0 (by omega), v2_o (by decide), e80, bd_some]
      rcases hd1 with ⟨y1, y2⟩ | ⟨y1, y2, y3⟩
      · rw [y1, if_pos rfl, qz_add, qz_add, mkc_0 i0 y1, z3, ← ha3, if_pos y1]
      · have em := mkc_1 (g := a 80) i0 y1
        rw [y1, if_neg n10, gpc_103_9, uac_111 (by omega) (by omega), bd_some, qz_add, qz_add, qz_add, em, z3, ← ha3, if_neg (by omega)]
    · rw [ond, o79]; exact q1
    · obtain ⟨w1, w2, w3, w4, w5⟩ := q2
      exact ⟨by rw [oo _ (by decide) (by decide)]; exact w1, w2, by rw [oo _ (by decide) (by decide)]; exact w3, w4, w5⟩
    · rw [ond, o79]
      unfold PLR at q3 ⊢
      rw [oo 104 (by decide) (by decide), oo (105 + 1) (by decide) (by decide), oo (105 + 2) (by decide) (by decide), oo 108 (by decide) (by decide), oo 109 (by decide) (by decide), oo 110 (by decide) (by decide)]
      exact q3
    · rw [o112]
      by_cases e : r' = dp i - ndf b a i
      · rw [e, v1_s, hS1, v1_s]
      · have hr2 := hSr r' p0 (by omega)
        rw [v1_o e, hS2 r' p0 (by omega), v1_o (by omega)]
        exact Sk r' p0 (by omega)
    · rw [o80] at p1
      have hlt : ∀ m, 0 ≤ m → m < mkc (a 80) i → A 35 m ≠ i := by
        intro m m0 m1
        obtain ⟨x, x0, x1, x2, x3⟩ := mk_at (g := a 80) i.toNat m m0 (by rw [show ((i.toNat : Nat) : Int) = i by omega]; exact m1)
        obtain ⟨y, _⟩ := HD x x0 (by omega)
        rcases y with ⟨y1, _⟩ | ⟨y1, y2, y3⟩
        · omega
        · rw [x3] at y3; omega
      rcases hd1 with ⟨y1, y2⟩ | ⟨y1, y2, y3⟩
      · rw [mkc_0 i0 y1] at p1
        rw [v1_o (hlt m p0 p1), ← ha3, if_pos y1, v2_o (by decide), e111]
        exact Mk m p0 p1
      · rw [mkc_1 i0 y1] at p1
        rw [← ha3, if_neg (by omega), v2_s, v2_o (by decide), e111]
        by_cases e : m = mkc (a 80) i
        · rw [e, v1_s, y3, v1_s]
        · rw [v1_o e, v1_o (hlt m p0 (by omega))]
          exact Mk m p0 (by omega)
    · rw [oo _ (by decide) (by decide)]; omega
    · rw [o79] at p2 ⊢
      obtain ⟨y1, y2⟩ := hmk2 x p0 (by omega) p2
      rw [v1_o (by omega : A 35 (-1 - a 79 x) ≠ i)]
      by_cases e : x = i
      · rw [e, v1_s]
        rw [e] at p2
        exact rq p2
      · rw [v1_o e]
        exact Mq x p0 (by omega) p2
    · rw [oo x (by omega) (by omega)]; exact q5.2.1 x hx
  have eP : gL_X9_plant_38 n 103 (qz (mkc (a 80) i), qz (dp i), qz i, cs f d a ni j) = if 0 ≤ a 79 i then (g_X9_nodeOf n 103 (qz (a 79 i)) (qz (dp i - ndf b a i)) (qz (ndf b a i)) (cs f d a ni j)).bind fun x1 => g_X9_plant_115 n 103 (qz (mkc (a 80) i)) (qz (dp i)) (qz i) (qz (ndf b a i)) x1.1 x1.2 else (gA (cs f d a ni j) 111 (qz (-1 - a 79 i))).bind fun x3 => g_X9_plant_115 n 103 (qz (mkc (a 80) i)) (qz (dp i)) (qz i) (qz (ndf b a i)) x3 (cs f d a ni j) := by
    unfold gL_X9_plant_38 g_X9_plant_38 g_X9_plant_83
    simp only [zl0, zlm1]
    rw [gpc_103_1, hd10, gf_cs, f1, if_neg (by rw [qz_le (by omega) (by omega) (by omega) (by omega)]; omega), gpc_78_3, gac_79 i0 (by omega), bd_some]
    rcases hnm with ⟨y1, y2, y3⟩ | ⟨mm, y1, y2, y3, y4⟩
    · have es := c_size (f := f) (d := d) (a := a) (ni := ni) (j := j) (n := n) (k := a 79 i) (rws_b20 hb) G.2.2.2.2.2.2.2.2.2.2.2.2.2.2.2.2.1 y1 (by rw [G.2.2.2.2.2.2.2.2.2.2.2.2.2.2.2.2.2.2.2.2.2.2.1]; omega)
      have ez : ndf b a i = a (b + 20 + 2) (a 79 i + 1) - a (b + 20 + 2) (a 79 i) := by
        unfold ndf
        rw [if_pos y1]
      rw [← ez] at es
      rw [if_pos (by rw [qz_le (by omega) (by omega) (by omega) (by omega)]; exact y1), gpc_103_0, hd9, gpb_12 hb, es, bd_some, if_pos (by rw [qz_le (by omega) (by omega) (by omega) (by omega)]; exact y1), qz_sub, if_pos y1]
    · have ez : ndf b a i = 0 := by
        unfold ndf
        rw [if_neg (by omega)]
      rw [if_neg (by rw [qz_le (by omega) (by omega) (by omega) (by omega)]; omega), if_neg (by rw [qz_le (by omega) (by omega) (by omega) (by omega)]; omega), gpc_103_9, qz_sub, if_neg (by omega), ez]
  by_cases hm : 0 ≤ a 79 i
  rotate_left
  · -- a mark
    have ez : ndf b a i = 0 := by
      unfold ndf
      rw [if_neg hm]
    have hmm : 0 ≤ -1 - a 79 i ∧ -1 - a 79 i < mkc (a 80) i := by
      rcases hnm with ⟨y1, y2, y3⟩ | ⟨mm, y1, y2, y3, y4⟩ <;> omega
    clear hnm
    obtain ⟨q1, q2⟩ := hmk2 i i0 i1 (by omega)
    obtain ⟨n1, n2, n3⟩ := nds_nu D q1 q2
    have er := Mk _ hmm.1 hmm.2
    obtain ⟨D2, w1, w2, w3⟩ := nds_add (r := nu (A 35 (-1 - a 79 i))) (can2 := can) (c2 := c) D T i0 i1 (Or.inr ⟨n1, n3, rfl, rfl⟩) (fun _ => ez) (fun _ y => absurd y hm)
    obtain ⟨a3, e3, P3, F3⟩ := fin (nu (A 35 (-1 - a 79 i))) f a ni can _ c n1 (by omega) (fun _ => rfl) D2 ⟨T1, T2, T3, T4, T5⟩ (plr_c hnd R w1 w2) (by omega) ⟨fun _ _ _ => rfl, fun _ _ => rfl, fun _ _ => rfl⟩ (fun _ _ => rfl) rfl rfl
    refine ⟨f, a3, ni, _, can, _, c, ?_, P3, F3, fun _ _ => rfl⟩
    rw [eP, if_neg hm, gac_111 hmm.1 (by omega), bd_some, er]
    exact e3
  · -- a label
    rw [if_pos hm] at eP
    have hlb : a 79 i < k := by
      rcases hnm with ⟨y1, y2, y3⟩ | ⟨mm, y1, y2, y3, y4⟩ <;> omega
    clear hnm
    have hV : NV c a := by
      intro y y0 y1
      obtain ⟨g1, g2, g3, g4⟩ := R.1 y y0 y1
      obtain ⟨q1, q2, q3⟩ := hcan y y0 y1
      obtain ⟨p1, _⟩ := T (can y) q1 (by omega)
      obtain ⟨_, hq⟩ := HD (can y) q1 (by omega)
      have hq2 : a 79 (can y) < k := by
        rcases hq with ⟨y1, y2, y3⟩ | ⟨mm, y1, y2, y3, y4⟩ <;> omega
      clear hq
      have mo := T1.2.2.2.2.2.2.2.2.2.2.2
      have mo1 := mo (y + 1) c (by omega) (by omega) (by omega)
      have mo2 := mo 0 y (by omega) (by omega) (by omega)
      have mo3 : a (105 + 2) 0 = 0 := T1.2.2.2.2.2.2.2.2.2.1
      rw [g1, g2]
      refine ⟨q3, by omega, p1, by omega, fun t t0 t1 => ?_⟩
      rw [g3 t t0 t1]
      have := hchi (can y) q1 (by omega) t t0 t1
      omega
    have hzz : ∀ x, 0 ≤ x → x < c → a 104 x = a 79 i → a (105 + 2) (x + 1) - a (105 + 2) x = ndf b a i := by
      intro x x0 x1 e
      obtain ⟨g1, g2, _⟩ := R.1 x x0 x1
      rw [g2]
      exact hnn _ _ (hcan x x0 x1).2.2 (by rw [← g1]; exact e)
    have hstr : ∀ t, 0 ≤ t → t < ndf b a i → 0 ≤ a 112 (dp i - ndf b a i + t) ∧ a 112 (dp i - ndf b a i + t) < c := fun t t0 t1 => by
      rw [hst t t0 t1]; exact hchi i i0 (Int.le_refl _) t t0 t1
    generalize hh : hdn (fun t => nu (ch i t)) 0 (a 79 i) (ndf b a i) = h
    have hh1 : hdn (a 112) (dp i - ndf b a i) (a 79 i) (ndf b a i) = h := by
      rw [← hh]
      exact hdn_c (fun t t0 t1 => by rw [Int.zero_add]; exact hst t t0 t1)
    have hhr := hdn_r (fun t => nu (ch i t)) 0 (a 79 i) (ndf b a i)
    rw [hh] at hhr
    obtain ⟨R1, ⟨L, R2, R3⟩, R4⟩ := R
    have hR : PLR c (ndf b a) (a 79) ch nu can a := ⟨R1, ⟨L, R2, R3⟩, R4⟩
    obtain ⟨L1, L2, L3⟩ := R2 h hhr.1 hhr.2
    have ehs : hs0 (qz (mx (a 112) (dp i - ndf b a i) (a 79 i) (ndf b a i).toNat)) = qz h := by
      rw [← hh1]; exact (Int32.ofInt_toInt _).symm
    have eN : g_X9_nodeOf n 103 (qz (a 79 i)) (qz (dp i - ndf b a i)) (qz (ndf b a i)) (cs f d a ni j) = (hp_lp (gL_X9_nodeOf_61 n 103 (qz (a 79 i)) (qz (dp i - ndf b a i)) (qz (ndf b a i)) (qz h) (cs f d a ni j)) n (qz (a 109 h), qz 0)).bind fun x5 => Sum.elim (fun y6 => (g_X9_addNode n 103 (qz (a 79 i)) (qz (dp i - ndf b a i)) (qz (ndf b a i)) (qz h) (cs f d a ni j)).bind fun x1 => some (x1.1, x1.2)) (fun y7 => some (y7, cs f d a ni j)) x5 := by
      unfold g_X9_nodeOf g_X9_nodeOf_0 g_X9_nodeOf_114 g_X9_nodeOf_123
      rw [zl0, c_mix hn (by omega) z0 (by omega), bd_some]
      have e := ehs
      unfold hs0 at e
      rw [e, gpc_103_7, gac_109 hhr.1 hhr.2, bd_some]
    -- a node that matches has the label and takes the same
    have hmt : ∀ x, 0 ≤ x → x < c → (mtn a (a 79 i) (dp i - ndf b a i) x ↔ a 79 (can x) = a 79 i ∧ ∀ t, 0 ≤ t → t < ndf b a i → nu (ch (can x) t) = nu (ch i t)) := by
      intro x x0 x1
      obtain ⟨g1, g2, g3, g4⟩ := R1 x x0 x1
      unfold mtn
      rw [g1, g2]
      constructor
      · intro ⟨m1, m2⟩
        have e := hnn _ i (hcan x x0 x1).2.2 m1
        refine ⟨m1, fun t t0 t1 => ?_⟩
        have := m2 t t0 (by omega)
        rw [g3 t t0 (by omega), hst t t0 t1] at this
        exact this
      · intro ⟨m1, m2⟩
        have e := hnn _ i (hcan x x0 x1).2.2 m1
        refine ⟨m1, fun t t0 t1 => ?_⟩
        rw [g3 t t0 t1, hst t t0 (by omega)]
        exact m2 t t0 (by omega)
    rcases c_nchain (n := n) (d := d) (j := j) (lb := a 79 i) (bs := dp i - ndf b a i) (z := ndf b a i) (v3 := qz (ndf b a i)) (v5 := qz h) hn ⟨T1, T2, T3, T4, T5⟩ hV (by omega) hm (by omega) (by omega) (by omega) hzz (fun t t0 t1 => by have := hstr t t0 t1; omega) (L h) (a 109 h) 0 n L1 L3 (by omega) (by omega) (by omega) with ⟨g1, g2⟩ | ⟨r, g1, g2, g3⟩
    · -- a new node
      obtain ⟨f2, a2, ni2, eA, TK2, w1, w2, w3, w4, w5, w6, w7, w8, w9, w10, w11, w12⟩ := c_addNode (n := n) (d := d) (j := j) (lb := a 79 i) (h := h) (bs := dp i - ndf b a i) (z := ndf b a i) hn ⟨T1, T2, T3, T4, T5⟩ (by omega) hhr.1 hhr.2 (by omega) z0 (by omega) (by omega) hstr
      obtain ⟨D2, v1', v2', v3'⟩ := nds_add (r := c) (can2 := v1 can c i) (c2 := c + 1) D T i0 i1 (Or.inl ⟨rfl, rfl, rfl, hm⟩) (fun y => by omega) (fun y => by omega)
      have R' := plr_c hnd hR v1' v2'
      have hno : ∀ y, 0 ≤ y → y < c → a 79 (can y) = a 79 i → ¬∀ t, 0 ≤ t → t < ndf b a i → nu (ch (can y) t) = nu (ch i t) := by
        intro y y0 y1 e1 e2
        have hin := R3 y y0 y1
        have en := hnn _ i (hcan y y0 y1).2.2 e1
        have eh : hdn (fun t => nu (ch (can y) t)) 0 (a 79 (can y)) (ndf b a (can y)) = h := by
          rw [e1, en, ← hh]
          exact hdn_c (fun t t0 t1 => by rw [Int.zero_add]; exact e2 t t0 t1)
        rw [eh] at hin
        exact g2 y hin ((hmt y y0 y1).mpr ⟨e1, e2⟩)
      have mo := T1.2.2.2.2.2.2.2.2.2.2.2
      have mo3 : a (105 + 2) 0 = 0 := T1.2.2.2.2.2.2.2.2.2.1
      have hz2 := v3'
      have R2' : PLR (c + 1) (ndf b a) (a 79) ch (v1 nu i c) (v1 can c i) a2 := by
        refine plr_add (i := i) (h := h) R' T5 ⟨mo3, fun x y x0 xy y1 => mo x y x0 xy (by omega)⟩ v1_s z0 (fun t t0 t1 => by rw [hz2 t t0 t1]; exact hchi i i0 (Int.le_refl _) t t0 t1) (fun y t y0 y1 t0 t1 => ?_) ?_ (fun y y0 y1 e => ?_) w1 w2 w3 w4 w5 (fun t t0 t1 => by rw [hz2 t t0 t1, w6 t t0 t1]; exact hst t t0 t1) w7 (fun y y0 y1 => ?_)
        · rw [v1' y y0 y1] at t1
          rw [v2' y t y0 y1 t0 t1]
          obtain ⟨q1, q2, q3⟩ := hcan y y0 y1
          exact (hchi _ q1 (by omega) t t0 t1).2
        · rw [← hh]
          exact hdn_c (fun t t0 t1 => by
            show v1 nu i c (ch i (0 + t)) = nu (ch i (0 + t))
            rw [Int.zero_add]; exact hz2 t t0 t1)
        · rw [v1' y y0 y1] at e ⊢
          have en := hnn _ i (hcan y y0 y1).2.2 e
          refine ⟨en, fun hall => hno y y0 y1 e (fun t t0 t1 => ?_)⟩
          have q := hall t t0 t1
          rw [hz2 t t0 t1] at q
          have q2 := v2' y t y0 y1 t0 (by omega)
          rw [v1' y y0 y1] at q2
          rw [← q2]; exact q
        · rw [w8 y y0 y1]
          congr 1
          refine sm_c _ (fun t ht => ?_)
          show (if a 112 (dp i - ndf b a i + t) = y then (1 : Int) else 0) = if v1 nu i c (ch i t) = y then 1 else 0
          rw [hst t (by omega) (by omega), hz2 t (by omega) (by omega)]
      obtain ⟨a3, e3, P3, F3⟩ := fin c f2 a2 ni2 (v1 can c i) _ (c + 1) T5 (by omega) (fun y => by omega) D2 TK2 R2' (by rw [w4, v1_s]; exact Int.le_refl _) ⟨w9, fun x hx => w11 x (by omega) (by omega) (by omega) (by omega) (by omega) (by omega), w12⟩ w10 (w11 112 (by decide) (by decide) (by decide) (by decide) (by decide) (by decide)) (w11 111 (by decide) (by decide) (by decide) (by decide) (by decide) (by decide))
      refine ⟨f2, a3, ni2, _, _, _, c + 1, ?_, P3, F3, w10⟩
      rw [eP, eN, g1, bd_some, Sum.elim_inl, eA, bd_some, bd_some]
      exact e3
    · -- a node found
      obtain ⟨r0, r1⟩ := L3 r g2
      obtain ⟨m1, m2⟩ := (hmt r r0 r1).mp g3
      have en := hnn _ i (hcan r r0 r1).2.2 m1
      obtain ⟨D2, v1', v2', v3'⟩ := nds_add (r := r) (can2 := can) (c2 := c) D T i0 i1 (Or.inr ⟨r0, r1, rfl, rfl⟩) (fun y => by omega) (fun _ _ => ⟨m1, en, fun t t0 t1 => (m2 t t0 t1).symm⟩)
      obtain ⟨a3, e3, P3, F3⟩ := fin r f a ni can _ c r0 (by omega) (fun y => by omega) D2 ⟨T1, T2, T3, T4, T5⟩ (plr_c hnd hR v1' v2') (by omega) ⟨fun _ _ _ => rfl, fun _ _ => rfl, fun _ _ => rfl⟩ (fun _ _ => rfl) rfl rfl
      refine ⟨f, a3, ni, _, can, _, c, ?_, P3, F3, fun _ _ => rfl⟩
      rw [eP, eN, g1, bd_some, Sum.elim_inr, bd_some]
      exact e3
end PLD
