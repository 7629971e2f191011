/-! A proof is written out: the class -/
section WOC
variable {n b s : Nat} {q S K P len c : Int} {sz lab : Int → Int} {row : Int → Int → Int} {WO : Int → List Int} {f f2 f3 : Nat → Nat → Int} {d : Nat → Nat} {a a2 a3 : Nat → Int → Int} {ni : Nat → Nat} {j : Nat → Int → Int64} {A : Nat → Int → Int} {J : Nat → Int → Int64}
theorem zl4000 : (4000 : Int32) = qz 4000 := id rfl
def DF (s : Nat) (f : Nat → Nat → Int) (a : Nat → Int → Int) (f2 : Nat → Nat → Int) (a2 : Nat → Int → Int) : Prop := (∀ x, x ≠ 103 → x ≠ s → f2 x = f x) ∧ (∀ x, x ≠ 12 → f2 103 x = f 103 x) ∧ ∀ x, x ≠ 112 → x ≠ 113 → x ≠ s + 1 → a2 x = a x
theorem df_0 : DF s f a f a := ⟨fun _ _ _ => rfl, fun _ _ => rfl, fun _ _ _ _ => rfl⟩
theorem df_t (h : DF s f a f2 a2) (h2 : DF s f2 a2 f3 a3) : DF s f a f3 a3 := ⟨fun x x1 x2 => (h2.1 x x1 x2).trans (h.1 x x1 x2), fun x x1 => (h2.2.1 x x1).trans (h.2.1 x x1), fun x x1 x2 x3 => (h2.2.2 x x1 x2 x3).trans (h.2.2 x x1 x2 x3)⟩
theorem df_bk (hb : bks b) (hs : s = 117 ∨ s = 119) (G : BK b q S K P len f a ni j A J) (hR : Rbk b q len a A) (h : DF s f a f2 a2) : BK b q S K P len f2 a2 ni j A J ∧ Rbk b q len a2 A := by
  have hbb : b = 1 ∨ b = 33 := hb
  refine ⟨bk_eq G (fun x x1 x2 => h.1 x (by omega) (by omega)) (fun x x1 x2 => h.2.2 x (by omega) (by omega) (by omega)) (fun _ _ _ => rfl) rfl (fun _ _ _ => rfl) ⟨rfl, rfl⟩, ?_⟩
  unfold Rbk at hR ⊢
  rw [h.2.2 (b + 2) (by omega) (by omega) (by omega)]
  exact hR
theorem df_ts (hs : s = 117 ∨ s = 119) (H : TSt c sz row lab f a ni) (h : DF s f a f2 a2) : TSt c sz row lab f2 a2 ni := tst_c H (h.1 105 (by decide) (by omega)) (h.2.2 104 (by decide) (by decide) (by omega)) (h.2.2 (105 + 1) (by decide) (by decide) (by omega)) (h.2.2 (105 + 2) (by decide) (by decide) (by omega)) rfl
/-- the text of labels, when x of them are written -/
def wtx (nl : Int → List Int) : Int → List Int → List Int
  | _, [] => []
  | x, e :: es => (if x ≤ 0 then [] else [32]) ++ nl e ++ wtx nl (x + 1) es
theorem wtx_a {nl : Int → List Int} {l2 : List Int} (l : List Int) : ∀ x, wtx nl x (l ++ l2) = wtx nl x l ++ wtx nl (x + l.length) l2 := by
  induction l with
  | nil => intro x; show wtx nl x l2 = [] ++ wtx nl (x + 0) l2; rw [Int.add_zero]; rfl
  | cons e es ih =>
    intro x
    show (if x ≤ 0 then [] else [32]) ++ nl e ++ wtx nl (x + 1) (es ++ l2) = (if x ≤ 0 then [] else [32]) ++ nl e ++ wtx nl (x + 1) es ++ wtx nl (x + ((es.length + 1 : Nat) : Int)) l2
    rw [ih (x + 1), show x + 1 + (es.length : Int) = x + ((es.length + 1 : Nat) : Int) by omega]
    simp only [List.append_assoc]
/-- the nodes of a proof make a tree -/
def NT (c K : Int) (sz : Int → Int) (row : Int → Int → Int) (lab : Int → Int) (WO : Int → List Int) : Prop := ∀ y, 0 ≤ y → y < c → 0 ≤ sz y ∧ sz y < 1000 ∧ 0 ≤ lab y ∧ lab y < K ∧ (∀ t, 0 ≤ t → t < sz y → 0 ≤ row y t ∧ row y t < y) ∧ WO y = cat (fun t => WO (row y t)) (sz y).toNat ++ [lab y]
theorem c_wo (hn : 100000 ≤ n) (hs : s = 117 ∨ s = 119) (hb : bks b) (hd9 : d 9 = b) (N : NT c K sz row lab WO) (c1 : c ≤ 1000) (m : Nat) : ∀ (y D k : Int) (L : List Int) (f : Nat → Nat → Int) (a : Nat → Int → Int), 0 ≤ y → y < m → y < c → 0 ≤ D → D + y < 1000 → 0 ≤ k → k ≤ 1000 → BK b q S K P len f a ni j A J → Rbk b q len a A → TSt c sz row lab f a ni → f 103 12 = D + 1 → a 112 D = y → a 113 D = 0 → SC s L f a →
    (k + (WO y).length ≤ 1000 → ∃ (f2 : Nat → Nat → Int) (a2 : Nat → Int → Int), hp_lp (gL_X9_writeOut_8 n 103 s) (n - (2 * k + D).toNat) (qz k, qz (2 * k + D), cs f d a ni j) = hp_lp (gL_X9_writeOut_8 n 103 s) (n - (2 * (k + (WO y).length) + D - 1).toNat) (qz (k + (WO y).length), qz (2 * (k + (WO y).length) + D - 1), cs f2 d a2 ni j) ∧ f2 103 12 = D ∧ (∀ i, i < D → a2 112 i = a 112 i) ∧ (∀ i, i < D → a2 113 i = a 113 i) ∧ SC s (L ++ wtx (nlx q (A 2) (A 8) (A 9)) k (WO y)) f2 a2 ∧ DF s f a f2 a2) ∧
    (1000 < k + (WO y).length → ∃ (f2 : Nat → Nat → Int) (a2 : Nat → Int → Int), hp_lp (gL_X9_writeOut_8 n 103 s) (n - (2 * k + D).toNat) (qz k, qz (2 * k + D), cs f d a ni j) = some (qz 0, cs f2 d a2 ni j) ∧ DF s f a f2 a2) := by
  induction m with
  | zero => intro y D k L f a y0 y1; omega
  | succ m ih =>
    intro y D k L f a y0 y1 yc D0 Dy k0 k1 G hR H hD e112 e113 hS
    obtain ⟨n1, n2, n3, n4, n5, n6⟩ := N y y0 yc
    have key : ∀ t : Nat, (t : Int) ≤ sz y → (k + (cat (fun t => WO (row y t)) t).length ≤ 1000 → ∃ (f3 : Nat → Nat → Int) (a3 : Nat → Int → Int), hp_lp (gL_X9_writeOut_8 n 103 s) (n - (2 * k + D).toNat) (qz k, qz (2 * k + D), cs f d a ni j) = hp_lp (gL_X9_writeOut_8 n 103 s) (n - (2 * (k + (cat (fun t => WO (row y t)) t).length) + D).toNat) (qz (k + (cat (fun t => WO (row y t)) t).length), qz (2 * (k + (cat (fun t => WO (row y t)) t).length) + D), cs f3 d a3 ni j) ∧ f3 103 12 = D + 1 ∧ (∀ i, i ≤ D → a3 112 i = a 112 i) ∧ (∀ i, i < D → a3 113 i = a 113 i) ∧ a3 113 D = t ∧ SC s (L ++ wtx (nlx q (A 2) (A 8) (A 9)) k (cat (fun t => WO (row y t)) t)) f3 a3 ∧ DF s f a f3 a3) ∧ (1000 < k + (cat (fun t => WO (row y t)) t).length → ∃ (f3 : Nat → Nat → Int) (a3 : Nat → Int → Int), hp_lp (gL_X9_writeOut_8 n 103 s) (n - (2 * k + D).toNat) (qz k, qz (2 * k + D), cs f d a ni j) = some (qz 0, cs f3 d a3 ni j) ∧ DF s f a f3 a3) := by
      intro t
      induction t with
      | zero =>
        intro _
        have e0 : ((cat (fun t => WO (row y t)) 0).length : Int) = 0 := rfl
        rw [e0, Int.add_zero]
        refine ⟨fun _ => ⟨f, a, rfl, hD, fun _ _ => rfl, fun _ _ => rfl, e113, ?_, df_0⟩, fun h => by omega⟩
        rw [show wtx (nlx q (A 2) (A 8) (A 9)) k (cat (fun t => WO (row y t)) 0) = [] from rfl, List.append_nil]
        exact hS
      | succ t iht =>
        intro t1
        obtain ⟨g1, g2⟩ := iht (by omega)
        have el : ((cat (fun t => WO (row y t)) (t + 1)).length : Int) = (cat (fun t => WO (row y t)) t).length + (WO (row y t)).length := by
          show ((cat (fun t => WO (row y t)) t ++ WO (row y t)).length : Int) = _
          rw [List.length_append]; omega
        have et : cat (fun t => WO (row y t)) (t + 1) = cat (fun t => WO (row y t)) t ++ WO (row y t) := rfl
        by_cases c0 : k + (cat (fun t => WO (row y t)) t).length ≤ 1000
        · obtain ⟨f3, a3, h1, h2, h3, h4, h5, h6, h7⟩ := g1 c0
          clear g1 g2 iht
          generalize hkk : k + ((cat (fun t => WO (row y t)) t).length : Int) = kk at *
          obtain ⟨q1, q2⟩ := n5 t (by omega) (by omega)
          obtain ⟨G3, R3⟩ := df_bk hb hs G hR h7
          have H3 := df_ts hs H h7
          have eN := c_nextTaken (n := n) (d := d) (j := j) H3 c1 h2 (by omega) (by omega) (y := y) (t := t) (by rw [show D + 1 - 1 = D by omega, h3 D (Int.le_refl _)]; exact e112) (by rw [show D + 1 - 1 = D by omega]; exact h5) y0 yc (by omega) (by omega) (by omega)
          rw [if_pos (by omega), show D + 1 - 1 = D by omega] at eN
          have eE := c_enter (n := n) (y := row y t) (f := f3) (d := d) (a := v2 a3 113 D (t + 1)) (ni := ni) (j := j) h2 (by omega) (by omega)
          generalize ha4 : v2 (v2 (v2 a3 113 D (t + 1)) 112 (D + 1) (row y t)) 113 (D + 1) 0 = a4 at eE
          have o112 : a4 112 = v1 (a3 112) (D + 1) (row y t) := by rw [← ha4, v2_o (by decide), v2_s, v2_o (by decide)]
          have o113 : a4 113 = v1 (v1 (a3 113) D (t + 1)) (D + 1) 0 := by rw [← ha4, v2_s, v2_o (by decide), v2_s]
          have ox : ∀ x, x ≠ 112 → x ≠ 113 → a4 x = a3 x := fun x x1 x2 => by rw [← ha4, v2_o x2, v2_o x1, v2_o x2]
          have F4 : DF s f3 a3 (u2 f3 103 12 (D + 1 + 1)) a4 := ⟨fun x x1 x2 => by rw [u2_b x1], fun x x1 => by rw [u2_c x1], fun x x1 x2 x3 => ox x x1 x2⟩
          obtain ⟨G4, R4⟩ := df_bk hb hs G3 R3 F4
          have hS4 : SC s (L ++ wtx (nlx q (A 2) (A 8) (A 9)) k (cat (fun t => WO (row y t)) t)) (u2 f3 103 12 (D + 1 + 1)) a4 := by
            unfold SC at h6 ⊢
            rw [u2_b (by omega), ox (s + 1) (by omega) (by omega)]
            exact h6
          have eb : gL_X9_writeOut_8 n 103 s (qz kk, qz (2 * kk + D), cs f3 d a3 ni j) = some (.inl (qz kk, qz (2 * kk + (D + 1)), cs (u2 f3 103 12 (D + 1 + 1)) d a4 ni j)) := by
            unfold gL_X9_writeOut_8 g_X9_writeOut_8 g_X9_writeOut_106
            simp only [zl0, zl1, zlm1, zl4000, qz_neg]
            rw [if_neg (by rw [qz_le (by omega) (by omega) (by omega) (by omega)]; omega), gf_cs, h2, if_neg (by rw [qz_le (by omega) (by omega) (by omega) (by omega)]; omega), eN, bd_some, if_neg (by rw [qz_inj (by omega) (by omega) (by omega) (by omega)]; omega), eE, bd_some, qz_add, show 2 * kk + D + 1 = 2 * kk + (D + 1) by omega]
          obtain ⟨i1, i2⟩ := ih (row y t) (D + 1) kk _ _ a4 q1 (by omega) (by omega) (by omega) (by omega) (by omega) c0 G4 R4 (df_ts hs H3 F4) (by rw [u2_a]) (by rw [o112, v1_s]) (by rw [o113, v1_s]) hS4
          have hst : hp_lp (gL_X9_writeOut_8 n 103 s) (n - (2 * k + D).toNat) (qz k, qz (2 * k + D), cs f d a ni j) = hp_lp (gL_X9_writeOut_8 n 103 s) (n - (2 * kk + (D + 1)).toNat) (qz kk, qz (2 * kk + (D + 1)), cs (u2 f3 103 12 (D + 1 + 1)) d a4 ni j) := by
            rw [h1, show n - (2 * kk + D).toNat = n - (2 * kk + (D + 1)).toNat + 1 by omega, lp_st eb]
          rw [el, show k + (((cat (fun t => WO (row y t)) t).length : Int) + (WO (row y t)).length) = kk + (WO (row y t)).length by omega]
          refine ⟨fun hf => ?_, fun hf => ?_⟩
          · obtain ⟨f5, a5, j1, j2, j3, j4, j5, j6⟩ := i1 hf
            refine ⟨f5, a5, ?_, j2, fun i hi => ?_, fun i hi => ?_, ?_, ?_, df_t h7 (df_t F4 j6)⟩
            · rw [hst, j1, show 2 * (kk + ((WO (row y t)).length : Int)) + (D + 1) - 1 = 2 * (kk + ((WO (row y t)).length : Int)) + D by omega]
            · rw [j3 i (by omega), o112, v1_o (by omega)]; exact h3 i hi
            · rw [j4 i (by omega), o113, v1_o (by omega), v1_o (by omega)]; exact h4 i hi
            · rw [j4 D (by omega), o113, v1_o (by omega), v1_s]; omega
            · rw [et, wtx_a, ← List.append_assoc, hkk]
              exact j5
          · obtain ⟨f5, a5, j1, j2⟩ := i2 hf
            exact ⟨f5, a5, by rw [hst, j1], df_t h7 (df_t F4 j2)⟩
        · refine ⟨fun hf => by rw [el] at hf; omega, fun hf => ?_⟩
          exact g2 (by omega)
    obtain ⟨g1, g2⟩ := key (sz y).toNat (by omega)
    have elen : ((WO y).length : Int) = (cat (fun t => WO (row y t)) (sz y).toNat).length + 1 := by
      rw [n6, List.length_append]; rfl
    by_cases c0 : k + (cat (fun t => WO (row y t)) (sz y).toNat).length ≤ 1000
    · obtain ⟨f3, a3, h1, h2, h3, h4, h5, h6, h7⟩ := g1 c0
      clear g1 g2 key
      generalize hkk : k + ((cat (fun t => WO (row y t)) (sz y).toNat).length : Int) = kk at *
      obtain ⟨G3, R3⟩ := df_bk hb hs G hR h7
      have H3 := df_ts hs H h7
      have eN := c_nextTaken (n := n) (d := d) (j := j) H3 c1 h2 (by omega) (by omega) (y := y) (t := sz y) (by rw [show D + 1 - 1 = D by omega, h3 D (Int.le_refl _)]; exact e112) (by rw [show D + 1 - 1 = D by omega, h5]; omega) y0 yc (by omega) (by omega) (by omega)
      rw [if_neg (by omega), show D + 1 - 1 = D by omega] at eN
      generalize ha4 : v2 a3 113 D (sz y + 1) = a4 at eN
      have o113 : a4 113 = v1 (a3 113) D (sz y + 1) := by rw [← ha4, v2_s]
      have ox : ∀ x, x ≠ 113 → a4 x = a3 x := fun x x1 => by rw [← ha4, v2_o x1]
      have F4 : DF s f3 a3 f3 a4 := ⟨fun _ _ _ => rfl, fun _ _ => rfl, fun x x1 x2 x3 => ox x x2⟩
      obtain ⟨G4, R4⟩ := df_bk hb hs G3 R3 F4
      have H4 := df_ts hs H3 F4
      have hS4 : SC s (L ++ wtx (nlx q (A 2) (A 8) (A 9)) k (cat (fun t => WO (row y t)) (sz y).toNat)) f3 a4 := by
        unfold SC at h6 ⊢
        rw [ox (s + 1) (by omega)]
        exact h6
      have eb0 : gL_X9_writeOut_8 n 103 s (qz kk, qz (2 * kk + D), cs f3 d a3 ni j) = if qz kk = qz 1000 then some (.inr (qz 0, cs f3 d a4 ni j)) else if qz kk ≤ qz 0 then g_X9_writeOut_62 n 103 s (qz kk) (qz (2 * kk + D)) (cs f3 d a4 ni j) else (g_X8_put n s (qz 32) (cs f3 d a4 ni j)).bind fun x2 => g_X9_writeOut_62 n 103 s (qz kk) (qz (2 * kk + D)) x2 := by
        unfold gL_X9_writeOut_8 g_X9_writeOut_8
        simp only [zl0, zlm1, zl1000, zl4000, zl32]
        rw [if_neg (by rw [qz_le (by omega) (by omega) (by omega) (by omega)]; omega), gf_cs, h2, if_neg (by rw [qz_le (by omega) (by omega) (by omega) (by omega)]; omega), eN, bd_some, if_pos rfl]
      rw [elen, show k + (((cat (fun t => WO (row y t)) (sz y).toNat).length : Int) + 1) = kk + 1 by omega]
      refine ⟨fun hf => ?_, fun hf => ?_⟩
      · rw [if_neg (by rw [qz_inj (by omega) (by omega) (by omega) (by omega)]; omega)] at eb0
        -- the name after the blank
        have e62 : ∀ (L' : List Int) (f5 : Nat → Nat → Int) (a5 : Nat → Int → Int), SC s L' f5 a5 → DF s f3 a4 f5 a5 → f5 103 = f3 103 → a5 112 = a4 112 → a5 113 = a4 113 → ∃ (f6 : Nat → Nat → Int) (a6 : Nat → Int → Int), g_X9_writeOut_62 n 103 s (qz kk) (qz (2 * kk + D)) (cs f5 d a5 ni j) = some (.inl (qz (kk + 1), qz (2 * kk + D + 1), cs f6 d a6 ni j)) ∧ SC s (L' ++ nlx q (A 2) (A 8) (A 9) (lab y)) f6 a6 ∧ DF s f3 a4 f6 a6 ∧ f6 103 12 = D ∧ a6 112 = a4 112 ∧ a6 113 = a4 113 := by
          intro L' f5 a5 w1 w2 w3 w4 w5
          obtain ⟨G5, R5⟩ := df_bk hb hs G4 R4 w2
          obtain ⟨_, _, H5⟩ := df_ts hs H4 w2
          obtain ⟨u1', _, _⟩ := H5 y y0 yc
          have hK : K ≤ 200 := G.2.1.2.2.2.1
          obtain ⟨f6, a6, z1, z2, z3, z4⟩ := c_name2 (n := n) (d := d) hn hs hb G5 R5 n3 n4 w1
          refine ⟨u2 f6 103 12 D, a6, ?_, ?_, ⟨fun x x1 x2 => ?_, fun x x1 => ?_, fun x x1 x2 x3 => ?_⟩, by rw [u2_a], by rw [z4 _ (by omega)]; exact w4, by rw [z4 _ (by omega)]; exact w5⟩
          · unfold g_X9_writeOut_62 g_X9_writeOut_106
            simp only [zl1, zl300]
            rw [gpc_103_10, gf_cs, w3, h2, qz_sub, show D + 1 - 1 = D by omega, gac_112 (by omega) (by omega), w4, ox 112 (by decide), h3 D (Int.le_refl _), e112, bd_some, gpc_103_4, gac_104 y0 (by omega), u1', bd_some, gpc_103_0, hd9, gpb_0 hb, qz_add, z1, bd_some, gf_cs, z3 103 (by omega), w3, h2, qz_sub, show D + 1 - 1 = D by omega, wf_cs, bd_some, qz_add, qz_add]
          · unfold SC at z2 ⊢
            rw [u2_b (by omega)]
            exact z2
          · rw [u2_b x1, z3 x x2]; exact w2.1 x x1 x2
          · rw [u2_c x1, z3 103 (by omega), w3]
          · rw [z4 x x3]; exact w2.2.2 x x1 x2 x3
        have fin : ∀ (f6 : Nat → Nat → Int) (a6 : Nat → Int → Int), gL_X9_writeOut_8 n 103 s (qz kk, qz (2 * kk + D), cs f3 d a3 ni j) = some (.inl (qz (kk + 1), qz (2 * kk + D + 1), cs f6 d a6 ni j)) → SC s (L ++ wtx (nlx q (A 2) (A 8) (A 9)) k (cat (fun t => WO (row y t)) (sz y).toNat) ++ (if kk ≤ 0 then [] else [32]) ++ nlx q (A 2) (A 8) (A 9) (lab y)) f6 a6 → DF s f3 a4 f6 a6 → f6 103 12 = D → a6 112 = a4 112 → a6 113 = a4 113 → ∃ (f2 : Nat → Nat → Int) (a2 : Nat → Int → Int), hp_lp (gL_X9_writeOut_8 n 103 s) (n - (2 * k + D).toNat) (qz k, qz (2 * k + D), cs f d a ni j) = hp_lp (gL_X9_writeOut_8 n 103 s) (n - (2 * (kk + 1) + D - 1).toNat) (qz (kk + 1), qz (2 * (kk + 1) + D - 1), cs f2 d a2 ni j) ∧ f2 103 12 = D ∧ (∀ i, i < D → a2 112 i = a 112 i) ∧ (∀ i, i < D → a2 113 i = a 113 i) ∧ SC s (L ++ wtx (nlx q (A 2) (A 8) (A 9)) k (WO y)) f2 a2 ∧ DF s f a f2 a2 := by
          intro f6 a6 z1 z2 z3 z4 z5 z6
          refine ⟨f6, a6, ?_, z4, fun i hi => ?_, fun i hi => ?_, ?_, df_t h7 (df_t F4 z3)⟩
          · rw [h1, show n - (2 * kk + D).toNat = n - (2 * (kk + 1) + D - 1).toNat + 1 by omega, lp_st z1, show 2 * kk + D + 1 = 2 * (kk + 1) + D - 1 by omega]
          · rw [z5, ox 112 (by decide)]; exact h3 i (by omega)
          · rw [z6, o113, v1_o (by omega)]; exact h4 i hi
          · rw [n6, wtx_a, hkk]
            show SC s (L ++ (_ ++ ((if kk ≤ 0 then [] else [32]) ++ nlx q (A 2) (A 8) (A 9) (lab y) ++ []))) f6 a6
            rw [List.append_nil, ← List.append_assoc, ← List.append_assoc]
            exact z2
        by_cases ck : kk ≤ 0
        · rw [if_pos (by rw [qz_le (by omega) (by omega) (by omega) (by omega)]; exact ck)] at eb0
          obtain ⟨f6, a6, z1, z2, z3, z4, z5, z6⟩ := e62 _ f3 a4 hS4 df_0 rfl rfl rfl
          refine fin f6 a6 (by rw [eb0]; exact z1) ?_ z3 z4 z5 z6
          rw [if_pos ck, List.append_nil]
          exact z2
        · rw [if_neg (by rw [qz_le (by omega) (by omega) (by omega) (by omega)]; exact ck)] at eb0
          obtain ⟨f5, a5, w1, w2, w3, w4⟩ := c_put2 (n := n) (d := d) (ni := ni) (j := j) hs (by omega : (0 : Int) ≤ 32) (by omega) hS4
          obtain ⟨f6, a6, z1, z2, z3, z4, z5, z6⟩ := e62 _ f5 a5 w2 ⟨fun x x1 x2 => w3 x x2, fun x x1 => by rw [w3 103 (by omega)], fun x x1 x2 x3 => w4 x x3⟩ (w3 103 (by omega)) (w4 112 (by omega)) (w4 113 (by omega))
          rw [w1, bd_some] at eb0
          refine fin f6 a6 (by rw [eb0]; exact z1) ?_ z3 z4 z5 z6
          rw [if_neg ck]
          exact z2
      · rw [show kk = 1000 by omega, if_pos rfl] at eb0
        refine ⟨f3, a4, ?_, df_t h7 F4⟩
        rw [h1, show kk = 1000 by omega, show n - (2 * 1000 + D).toNat = n - (2 * 1000 + D).toNat - 1 + 1 by omega]
        exact hp_lp_x eb0
    · refine ⟨fun hf => by omega, fun hf => ?_⟩
      exact g2 (by omega)
end WOC
