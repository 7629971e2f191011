/-! A proof is told, in either form: the class, whole; written out: the reference, whole -/
section CCP
variable {n b s : Nat} {q S K P len N c k k0 root : Int} {nd nm nu can cn lo : Int → Int} {ch : Int → Int → Int} {EV WO : Int → List Int} {f : Nat → Nat → Int} {d : Nat → Nat} {a : Nat → Int → Int} {ni : Nat → Nat} {j : Nat → Int → Int64} {F : Nat → Int} {A : Nat → Int → Int} {J : Nat → Int → Int64}
theorem sm_u1 {p : Int → Prop} [DecidablePred p] (n : Nat) : 0 ≤ sm (fun t => if p t then 1 else 0) n ∧ sm (fun t => if p t then 1 else 0) n ≤ n := by
  induction n with
  | zero => exact ⟨Int.le_refl _, Int.le_refl _⟩
  | succ n ih =>
    show 0 ≤ sm (fun t => if p t then 1 else 0) n + (if p n then 1 else 0) ∧ sm (fun t => if p t then 1 else 0) n + (if p n then 1 else 0) ≤ ((n + 1 : Nat) : Int)
    split <;> omega
theorem sm_u2 {g : Int → Int} (n : Nat) (h : ∀ i : Nat, i < n → 0 ≤ g i ∧ g i ≤ 999) : 0 ≤ sm g n ∧ sm g n ≤ 999 * n := by
  induction n with
  | zero => exact ⟨Int.le_refl _, Int.le_refl _⟩
  | succ n ih =>
    have h1 := ih (fun i hi => h i (by omega))
    have h2 := h n (by omega)
    show 0 ≤ sm g n + g n ∧ sm g n + g n ≤ 999 * ((n + 1 : Nat) : Int)
    omega
theorem us_r {sz : Int → Int} {g : Int → Int → Int} {y : Int} (c1 : c ≤ 1000) (h : ∀ i, 0 ≤ i → i < c → sz i < 1000) : 0 ≤ us sz g c y ∧ us sz g c y < 1000000 := by
  have := sm_u2 (g := fun i => sm (fun t => if g i t = y then 1 else 0) (sz i).toNat) c.toNat (fun i hi => by
    have h1 := h i (by omega) (by omega)
    have h2 := sm_u1 (p := fun t => g i t = y) (sz i).toNat
    refine ⟨h2.1, ?_⟩
    have h3 := h2.2
    show sm (fun t => if g i t = y then 1 else 0) (sz i).toNat ≤ 999
    omega)
  unfold us
  omega
theorem c_comp (hn : 100000 ≤ n) (hs : s = 117 ∨ s = 119) (hb : bks b) (hd9 : d 9 = b) (hd10 : d 10 = 78) (G : BK b q S K P len f a ni j A J) (hR : Rbk b q len a A) (h0 : 0 ≤ k) (h1 : k < K) (f0 : f 78 0 = k) (hK : K ≤ 200) (D0 : NDS N c nd nm ch nu can cn) (T : RPN N nd ch lo) (E : EVD N nd nu can cn lo ch EV) (hN0 : 0 < N) (hN : N ≤ 1000) (hl : lo (N - 1) = 0) (H : TSt c (fun i => nd (can i)) (fun i t => nu (ch (can i) t)) (fun i => nm (can i)) f a ni) (fc : f 103 2 = c) (f3 : f 103 3 = nu (N - 1)) (e108 : ∀ i, 0 ≤ i → i < c → a 108 i = us (fun i => nd (can i)) (fun i t => nu (ch (can i) t)) c i) (NN : NT c K (fun i => nd (can i)) (fun i t => nu (ch (can i) t)) (fun i => nm (can i)) WO) (hS : SC s [] f a) : ∃ (f2 : Nat → Nat → Int) (a2 : Nat → Int → Int) (ln0 nn0 : Int → Int), g_X9_compress n 103 s (cs f d a ni j) = some (cs f2 d a2 ni j) ∧ OWN b k a ln0 ∧ (∀ i, 0 ≤ i → i < c → nn0 i = 0) ∧ SC s ((EV (N - 1)).foldl (oe (fun i => nd (can i)) (fun i => us (fun i => nd (can i)) (fun i t => nu (ch (can i) t)) c i) (lst (nlx q (A 2) (A 8) (A 9)) (fun i => nm (can i)) (ln0, a (b + 20 + 2) (k + 1) - a (b + 20 + 2) k, [40, 32]) c.toNat).1 (fun i => nm (can i))) (nn0, (lst (nlx q (A 2) (A 8) (A 9)) (fun i => nm (can i)) (ln0, a (b + 20 + 2) (k + 1) - a (b + 20 + 2) k, [40, 32]) c.toNat).2.1, (lst (nlx q (A 2) (A 8) (A 9)) (fun i => nm (can i)) (ln0, a (b + 20 + 2) (k + 1) - a (b + 20 + 2) k, [40, 32]) c.toNat).2.2 ++ [41] ++ [32])).2.2 f2 a2 ∧ (∀ x, x ≠ 103 → x ≠ s → f2 x = f x) ∧ (∀ x, x ≠ 112 → x ≠ 113 → x ≠ 114 → x ≠ 115 → x ≠ 116 → x ≠ s + 1 → a2 x = a x) := by
  obtain ⟨r1, r2, r3, r4, r5, r6, r7, r8, r9⟩ := ev_root D0 T E hN0 hN hl
  clear r8
  obtain ⟨o1, o2⟩ := own_le G h0 h1
  obtain ⟨f1, a1, ln0, w1, w2, w3, w4, w5, w6, w7, w8⟩ := c_numLab (n := n) hn hs hb hd9 hd10 G hR h0 h1 f0 H fc (by omega) (by omega) NN hS
  have o3 := own_r G h0 h1 w2
  generalize hown : a (b + 20 + 2) (k + 1) - a (b + 20 + 2) k = own at *
  generalize hEV : EV (N - 1) = EVR at *
  have hlab : ∀ i, 0 ≤ i → i < c → 0 ≤ nm (can i) ∧ nm (can i) < K := by
    intro i i0 i1
    obtain ⟨_, _, k3, k4, _⟩ := NN i i0 i1
    exact ⟨k3, k4⟩
  have hnd : ∀ i, 0 ≤ i → i < c → 0 ≤ nd (can i) ∧ nd (can i) < 1000 := by
    intro i i0 i1
    obtain ⟨k1, k2, _⟩ := NN i i0 i1
    exact ⟨k1, k2⟩
  have hnlx : ∀ y, 0 ≤ y → y < K → ((nlx q (A 2) (A 8) (A 9) y).length : Int) ≤ 8192 := fun y y0 y1 => (nlx_l G y0 y1).2
  obtain ⟨p1, p2, p3, p4, p5⟩ := lst_p (nl := nlx q (A 2) (A 8) (A 9)) (L0 := [40, 32]) (c := c) (lab := fun i => nm (can i)) o3 o1 (fun y y0 y1 => by
    obtain ⟨k1, k2⟩ := hlab y y0 y1
    exact ⟨k1, by omega, hnlx _ k1 (by omega)⟩) c.toNat (by omega)
  rw [show ((c.toNat : Nat) : Int) = c by omega] at p2 p4 p5
  generalize hLL : lst (nlx q (A 2) (A 8) (A 9)) (fun i => nm (can i)) (ln0, own, [40, 32]) c.toNat = LL at *
  have cn1 : (nC ni 115 : Int) = 1000 := rfl
  have hs1 : s ≠ 103 ∧ s ≠ 105 := by omega
  -- the state at the root
  generalize ha' : v2 (v2 (u1 a1 115 (fl (a1 115) 1000 0)) 112 0 (nu (N - 1))) 113 0 0 = a'
  generalize hf' : u2 (u2 f1 103 12 0) 103 12 (0 + 1) = f'
  have eA : ∀ x, x ≠ 112 → x ≠ 113 → x ≠ 115 → a' x = a1 x := fun x x1 x2 x3 => by rw [← ha', v2_o x2, v2_o x1, u1_o x3]
  have eF : ∀ x, x ≠ 103 → f' x = f1 x := fun x x1 => by rw [← hf', u2_b x1, u2_b x1]
  have eF3 : ∀ x, x ≠ 12 → f' 103 x = f1 103 x := fun x x1 => by rw [← hf', u2_c x1, u2_c x1]
  have e115 : a' 115 = fl (a1 115) 1000 0 := by rw [← ha', v2_o (by decide), v2_o (by decide), u1_s]
  obtain ⟨turn2, f2, a2, x1, x2, x3, x4, x5, x6, x7, x8, x9, x10, x11⟩ := c_dn (n := n) (d := d) (ni := ni) (j := j) (sz := fun i => nd (can i)) (row := fun i t => nu (ch (can i) t)) (lab := fun i => nm (can i)) (usf := fun i => us (fun i => nd (can i)) (fun i t => nu (ch (can i) t)) c i) (lnn := LL.1) (EVR := EVR) hn hs D0 T E (by omega) (fun _ => rfl) (fun _ _ => rfl) (fun i i0 i1 => by
    obtain ⟨k1, k2⟩ := hlab i i0 i1
    have g1 := p4 i i0 i1
    have g2 := (p3 _ k1 (by omega)).2
    exact ⟨k1, by omega, g1, by omega⟩) hnd (fun i i0 i1 => us_r (by omega) (fun x x0 x1 => (hnd x x0 x1).2)) (fun i i0 hi => by
    obtain ⟨pre, post, e⟩ := List.append_of_mem hi
    exact r9 pre i post e i0) (N.toNat + 1) (N - 1) 0 0 (fl (a1 115) 1000 0) LL.2.1 (LL.2.2 ++ [41] ++ [32]) f' a' (by omega) (by omega) (by omega) (Or.inr (by rw [hl, D0.1, r3]; omega)) (fun e he => by rw [← hEV]; exact he) (by omega) (by omega) (by omega) (by rw [hEV]; omega) (by rw [hEV]; omega) (tst_c H (by rw [eF 105 (by decide), w6 105 (by decide) (by omega)]) (by rw [eA 104 (by decide) (by decide) (by decide), w8 104 (by decide) (by omega)]) (by rw [eA (105 + 1) (by decide) (by decide) (by decide), w8 (105 + 1) (by decide) (by omega)]) (by rw [eA (105 + 2) (by decide) (by decide) (by decide), w8 (105 + 2) (by decide) (by omega)]) rfl) (fun i i0 i1 => by rw [eA 108 (by decide) (by decide) (by decide), w8 108 (by decide) (by omega)]; exact e108 i i0 i1) (fun i i0 i1 => by rw [eA 114 (by decide) (by decide) (by decide), w3]) (by rw [← hf', u2_a]) (by rw [← ha', v2_o (by decide), v2_s, v1_s]) (by rw [← ha', v2_s, v1_s]) e115 (by rw [eF3 15 (by decide)]; exact w4) (by
    intro i i0 i1
    rw [hl, D0.1, fl_in i0 (by omega)]
    exact ⟨⟨fun h => by omega, fun h => by omega⟩, by omega, by omega⟩) (by
    unfold SC at w5 ⊢
    rw [eF s hs1.1, eA (s + 1) (by omega) (by omega) (by omega)]
    exact w5)
  rw [hEV] at x2 x9
  refine ⟨f2, a2, ln0, fl (a1 115) 1000 0, ?_, w2, fun i i0 i1 => fl_in i0 (by omega), by rw [hLL]; exact x9, fun x y1 y2 => by rw [x11.1 x y1 y2, eF x y1, w6 x y1 y2], fun x y1 y2 y3 y4 y5 y6 => by rw [x11.2.2 x y1 y2 y4 y5 y6, eA x y1 y2 y4, w8 x y3 y6]⟩
  unfold g_X9_compress g_X9_compress_0 g_X9_enterRoot g_X9_enterRoot_0
  simp only [zl0]
  rw [w1, bd_some, gpc_103_14, c_fillI (N := 1000) cn1 (by omega) (by omega), bd_some, wf_cs, bd_some, gf_cs, u2_c (by decide), w7 3 (by decide), f3, c_enter (D := 0) (by rw [u2_a]) (by omega) (by omega), bd_some, bd_some, ha', hf']
  have x3' : hp_lp (gL_X9_compress_19 n 103 s) n (qz 0, cs f' d a' ni j) = hp_lp (gL_X9_compress_19 n 103 s) (n - turn2.toNat) (qz turn2, cs f2 d a2 ni j) := x3
  obtain ⟨u, hu⟩ : ∃ u, n - turn2.toNat = u + 1 := ⟨n - turn2.toNat - 1, by omega⟩
  rw [x3', hu, hp_lp_x (x := cs f2 d a2 ni j) (by
    unfold gL_X9_compress_19 g_X9_compress_19
    simp only [zl0, zl4000]
    rw [if_neg (by rw [qz_le (by omega) (by omega) (by omega) (by omega)]; omega), gf_cs, x4, if_pos (by rw [qz_le (by omega) (by omega) (by omega) (by omega)]; omega)]), bd_some]
theorem c_wout (hn : 100000 ≤ n) (hs : s = 117 ∨ s = 119) (hb : bks b) (hd9 : d 9 = b) (G : BK b q S K P len f a ni j A J) (hR : Rbk b q len a A) {sz : Int → Int} {row : Int → Int → Int} {lab : Int → Int} {y : Int} (NN : NT c K sz row lab WO) (c1 : c ≤ 1000) (y0 : 0 ≤ y) (y1 : y < c) (H : TSt c sz row lab f a ni) (f3 : f 103 3 = y) (hS : SC s [] f a) : ∃ (f2 : Nat → Nat → Int) (a2 : Nat → Int → Int), DF s f a f2 a2 ∧ (((WO y).length : Int) ≤ 1000 → g_X9_writeOut n 103 s (cs f d a ni j) = some (qz 1, cs f2 d a2 ni j) ∧ SC s (wtx (nlx q (A 2) (A 8) (A 9)) 0 (WO y)) f2 a2) ∧ (1000 < ((WO y).length : Int) → g_X9_writeOut n 103 s (cs f d a ni j) = some (qz 0, cs f2 d a2 ni j)) := by
  generalize ha' : v2 (v2 a 112 0 y) 113 0 0 = a'
  generalize hf' : u2 (u2 f 103 12 0) 103 12 (0 + 1) = f'
  have eA : ∀ x, x ≠ 112 → x ≠ 113 → a' x = a x := fun x x1 x2 => by rw [← ha', v2_o x2, v2_o x1]
  have eF : ∀ x, x ≠ 103 → f' x = f x := fun x x1 => by rw [← hf', u2_b x1, u2_b x1]
  have eF3 : ∀ x, x ≠ 12 → f' 103 x = f 103 x := fun x x1 => by rw [← hf', u2_c x1, u2_c x1]
  have hDF : DF s f a f' a' := ⟨fun x x1 _ => eF x x1, eF3, fun x x1 x2 _ => eA x x1 x2⟩
  obtain ⟨G', hR'⟩ := df_bk hb hs G hR hDF
  have he : g_X9_writeOut n 103 s (cs f d a ni j) = (hp_lp (gL_X9_writeOut_8 n 103 s) n (qz 0, qz 0, cs f' d a' ni j)).bind fun x2 => some (x2.1, x2.2) := by
    unfold g_X9_writeOut g_X9_writeOut_0 g_X9_enterRoot g_X9_enterRoot_0
    simp only [zl0]
    rw [wf_cs, bd_some, gf_cs, u2_c (by decide), f3, c_enter (D := 0) (by rw [u2_a]) (by omega) (by omega), bd_some, bd_some, ha', hf']
  have hSC : SC s [] f' a' := by
    unfold SC at hS ⊢
    rw [eF s (by omega), eA (s + 1) (by omega) (by omega)]
    exact hS
  obtain ⟨k1, k2⟩ := c_wo (n := n) (d := d) (j := j) hn hs hb hd9 NN c1 (y.toNat + 1) y 0 0 [] f' a' y0 (by omega) y1 (by omega) (by omega) (by omega) (by omega) G' hR' (df_ts hs H hDF) (by rw [← hf', u2_a]) (by rw [← ha', v2_o (by decide), v2_s, v1_s]) (by rw [← ha', v2_s, v1_s]) hSC
  by_cases hw : ((WO y).length : Int) ≤ 1000
  · obtain ⟨f2, a2, x1, x2, x3, x4, x5, x6⟩ := k1 (by omega)
    refine ⟨f2, a2, df_t hDF x6, fun _ => ⟨?_, x5⟩, fun h => by omega⟩
    have x1' : hp_lp (gL_X9_writeOut_8 n 103 s) n (qz 0, qz 0, cs f' d a' ni j) = hp_lp (gL_X9_writeOut_8 n 103 s) (n - (2 * (0 + (WO y).length) + 0 - 1 : Int).toNat) (qz (0 + (WO y).length), qz (2 * (0 + (WO y).length) + 0 - 1), cs f2 d a2 ni j) := x1
    obtain ⟨u, hu⟩ : ∃ u, n - (2 * (0 + ((WO y).length : Int)) + 0 - 1 : Int).toNat = u + 1 := ⟨n - (2 * (0 + ((WO y).length : Int)) + 0 - 1 : Int).toNat - 1, by omega⟩
    rw [he, x1', hu, hp_lp_x (x := (qz 1, cs f2 d a2 ni j)) (by
      unfold gL_X9_writeOut_8 g_X9_writeOut_8
      simp only [zl0, zl1, zl4000]
      rw [if_neg (by rw [qz_le (by omega) (by omega) (by omega) (by omega)]; omega), gf_cs, x2, if_pos (by rw [qz_le (by omega) (by omega) (by omega) (by omega)]; omega)]), bd_some]
  · obtain ⟨f2, a2, x1, x2⟩ := k2 (by omega)
    refine ⟨f2, a2, df_t hDF x2, fun h => absurd h hw, fun _ => ?_⟩
    have x1' : hp_lp (gL_X9_writeOut_8 n 103 s) n (qz 0, qz 0, cs f' d a' ni j) = some (qz 0, cs f2 d a2 ni j) := x1
    rw [he, x1', bd_some]
theorem m_wout (hn : 100000 ≤ n) (hq : 0 ≤ q ∧ q ≤ 1) (h4 : F 4 = q) (G : BK b q S K P len f a ni j A J) (D0 : NDS N c nd nm ch nu can cn) (T : RPN N nd ch lo) (W : WOD c nd nm ch nu can WO) (hN0 : 0 < N) (hN : N ≤ 1000) (hk0 : k0 ≤ K) (hA : ∀ x, 0 ≤ x → x < N → 0 ≤ A 47 x ∧ A 47 x ≤ x ∧ 0 ≤ nm (A 47 x) ∧ nu (A 47 x) = nu x) (M : MST N k0 nd nm ch A) (h51 : ∀ x, 0 ≤ x → x < N → 0 ≤ nm x → A 51 x = cap (WO (nu x)).length) (hr : root = A 47 (N - 1)) : ∃ (F2 : Nat → Int) (A2 : Nat → Int → Int), DG F A F2 A2 ∧ (((WO (nu (N - 1))).length : Int) ≤ 1000 → g_X11_writeOut n 0 (qz root) (ms F A J) = (g_X11_told n 0 (ms F2 A2 J)).bind (fun x => some (x.1, x.2)) ∧ SM (wtx (nlx q (A 2) (A 8) (A 9)) 0 (WO (nu (N - 1)))) F2 A2 ∧ ((wtx (nlx q (A 2) (A 8) (A 9)) 0 (WO (nu (N - 1)))).length : Int) ≤ 9000 * (WO (nu (N - 1))).length) ∧ (1000 < ((WO (nu (N - 1))).length : Int) → g_X11_writeOut n 0 (qz root) (ms F A J) = some (qz (-3), ms F2 A2 J)) := by
  obtain ⟨a1, a2, a3, a4⟩ := hA (N - 1) (by omega) (by omega)
  rw [← hr] at a1 a2 a3 a4
  have e51 := h51 root a1 (by omega) a3
  rw [a4] at e51
  by_cases hw : ((WO (nu (N - 1))).length : Int) ≤ 1000
  · have ec : A 51 root = (WO (nu (N - 1))).length := by
      rw [e51]
      unfold cap
      rw [if_pos hw]
    have eA : ∀ x, x ≠ 52 → x ≠ 53 → v2 (v2 A 52 0 root) 53 0 0 x = A x := fun x x1 x2 => by rw [v2_o x2, v2_o x1]
    have hDG : DG F A (u1 F 82 0) (v2 (v2 A 52 0 root) 53 0 0) := ⟨fun x hx => u1_o hx, fun x x1 x2 _ => eA x x1 x2⟩
    obtain ⟨F2, A2, x1, x2, x3, x4, x5, x6, x7⟩ := m_wo (n := n) (J := J) (nl := nlx q (A 2) (A 8) (A 9)) hn hq D0 T W hN hk0 (A 47) hA (root.toNat + 1) root 0 0 [] n (u1 F 82 0) (v2 (v2 A 52 0 root) 53 0 0) a1 (by omega) (by omega) a3 (by omega) (by omega) (by omega) (by rw [a4]; omega) (by rw [a4]; omega) (dg_bk G hDG) (dg_ms M hDG) (eA 47 (by decide) (by decide)) (by rw [eA 2 (by decide) (by decide), eA 8 (by decide) (by decide), eA 9 (by decide) (by decide)]) (by rw [u1_o (by decide)]; exact h4) (by rw [v2_o (by decide), v2_s, v1_s]) (by rw [v2_s, v1_s]) ⟨u1_s, fun x x1 => absurd x1 (Nat.not_lt_zero _)⟩ (by decide) (by decide)
    rw [a4] at x1 x4 x5 x6
    refine ⟨F2, A2, dg_t hDG x7, fun _ => ⟨?_, x4, ?_⟩, fun h => by omega⟩
    · unfold g_X11_writeOut g_X11_writeOut_0
      simp only [zl0, zl1, zl1000]
      rw [wf_ms, bd_some, gp_73, ga_51 a1 (by omega), ec, bd_some, if_pos (by rw [qz_le (by omega) (by omega) (by omega) (by omega)]; exact hw), gp_74, ua_52 (by omega) (by omega), bd_some, gp_75, ua_53 (by omega) (by omega), bd_some]
      rw [show (0 : Int) + 1 = 1 from rfl] at x1
      rw [x1]
      obtain ⟨u, hu⟩ : ∃ u, n + 1 - 2 * (WO (nu (N - 1))).length = u + 1 := ⟨n + 1 - 2 * (WO (nu (N - 1))).length - 1, by omega⟩
      rw [hu, hp_lp_x (x := ms F2 A2 J) (by
        unfold gL_X11_writeOut_36 g_X11_writeOut_36
        simp only [zl0]
        rw [if_pos (by rw [qz_le (by omega) (by omega) (by omega) (by omega)]; omega)]), bd_some]
    · rw [Int.zero_add] at x5; exact x5
  · refine ⟨u1 F 82 0, A, ⟨fun x hx => u1_o hx, fun _ _ _ _ => rfl⟩, fun h => absurd h hw, fun _ => ?_⟩
    have ec : A 51 root = 1001 := by
      rw [e51]
      unfold cap
      rw [if_neg hw]
    unfold g_X11_writeOut g_X11_writeOut_0
    simp only [zl0, zl1, zl1000, zlm3, qz_neg]
    rw [wf_ms, bd_some, gp_73, ga_51 a1 (by omega), ec, bd_some, if_neg (by rw [qz_le (by omega) (by omega) (by omega) (by omega)]; omega)]
end CCP
