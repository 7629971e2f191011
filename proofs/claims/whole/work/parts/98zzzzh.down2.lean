/-! A proof is told in letters: the class goes down, all of it -/
def opq (p : Prop) : Prop := p
section DND
variable {n b s : Nat} {N c : Int} {nd nm nu can cn lo sz lab usf lnn : Int → Int} {ch row : Int → Int → Int} {EV : Int → List Int} {EVR : List Int} {d : Nat → Nat} {ni : Nat → Nat} {j : Nat → Int → Int64}
theorem c_dn (hn : 100000 ≤ n) (hs : s = 117 ∨ s = 119) (D0 : NDS N c nd nm ch nu can cn) (T : RPN N nd ch lo) (E : EVD N nd nu can cn lo ch EV) (c1 : c ≤ 1000) (hsz : ∀ i, sz i = nd (can i)) (hrow : ∀ i t, row i t = nu (ch (can i) t)) (hlab : ∀ i, 0 ≤ i → i < c → 0 ≤ lab i ∧ lab i < 200 ∧ 1 ≤ lnn (lab i) ∧ lnn (lab i) ≤ 3000) (hnd : ∀ i, 0 ≤ i → i < c → 0 ≤ sz i ∧ sz i < 1000) (hus : ∀ i, 0 ≤ i → i < c → 0 ≤ usf i ∧ usf i < 1000000) (hRZ : ∀ i, 0 ≤ i → 1000 + i ∈ EVR → 2 ≤ usf i) (m : Nat) : ∀ (x D turn : Int) (nn : Int → Int) (nb : Int) (L : List Int) (f : Nat → Nat → Int) (a : Nat → Int → Int), 0 ≤ x → x < m → x < N → (nd (can (nu x)) = 0 ∨ cn (lo x) ≤ nu x) → (∀ e, e ∈ EV x → e ∈ EVR) → 0 ≤ D → D + nu x < 1000 → 0 ≤ turn → turn + 2 * (EV x).length ≤ 4000 → nb + (EV x).length ≤ 3000 → TSt c sz row lab f a ni → (∀ i, 0 ≤ i → i < c → a 108 i = usf i) → (∀ i, 0 ≤ i → i < 200 → a 114 i = lnn i) → f 103 12 = D + 1 → a 112 D = nu x → a 113 D = 0 → a 115 = nn → f 103 15 = nb → DI c sz usf (cn (lo x)) nn nb → SC s L f a →
    ∃ (turn2 : Int) (f2 : Nat → Nat → Int) (a2 : Nat → Int → Int), turn ≤ turn2 ∧ turn2 ≤ turn + 2 * (EV x).length - 1 ∧ hp_lp (gL_X9_compress_19 n 103 s) (n - turn.toNat) (qz turn, cs f d a ni j) = hp_lp (gL_X9_compress_19 n 103 s) (n - turn2.toNat) (qz turn2, cs f2 d a2 ni j) ∧ f2 103 12 = D ∧ (∀ i, i < D → a2 112 i = a 112 i) ∧ (∀ i, i < D → a2 113 i = a 113 i) ∧ a2 115 = ((EV x).foldl (oe sz usf lnn lab) (nn, nb, L)).1 ∧ f2 103 15 = ((EV x).foldl (oe sz usf lnn lab) (nn, nb, L)).2.1 ∧ SC s ((EV x).foldl (oe sz usf lnn lab) (nn, nb, L)).2.2 f2 a2 ∧ DI c sz usf (cn (x + 1)) ((EV x).foldl (oe sz usf lnn lab) (nn, nb, L)).1 ((EV x).foldl (oe sz usf lnn lab) (nn, nb, L)).2.1 ∧ DH s f a f2 a2 := by
  induction m with
  | zero => intro x D turn nn nb L f a x0 x1; omega
  | succ m ih =>
    intro x D turn nn nb L f a x0 x1 xN hB hsub D0' Dx tu0 tu1 nb1 H h108 h114 hD e112 e113 e115 e15 hDI hS
    obtain ⟨p1, p2, p3, p4, p5, p6, p7⟩ := T x x0 xN
    obtain ⟨n1, n2, n3⟩ := nds_nu D0 x0 xN
    obtain ⟨E1, E2, E3⟩ := E x x0 xN
    obtain ⟨g1, g2, g3⟩ := D0.2.2 x x0 xN
    obtain ⟨o1, o2⟩ := nds_new D0 T x0 xN
    obtain ⟨r1, r2⟩ := hnd (nu x) n1 n3
    have hcn1 : cn x ≤ cn (x + 1) := by clear hB hs o1 o2 p4 p6; omega
    have hcn2 : ∀ i, i < cn (x + 1) → i ≠ nu x → i < cn x := by
      intro i i0 i1
      clear hB hs o1 o2 p4 p6
      omega
    clear g1 o1
    have s1 : 117 ≤ s ∧ s ≤ 119 := by clear hB o2 p4 p6; omega
    have hs' : opq (s = 117 ∨ s = 119) := hs
    clear hs
    have hB2 : opq (nd (can (nu x)) = 0 ∨ cn (lo x) ≤ nu x) := hB
    -- what x takes is what its node takes
    have hlk : nd x = sz (nu x) ∧ ∀ t, 0 ≤ t → t < nd x → row (nu x) t = nu (ch x t) := by
      rcases Int.lt_or_le (nm x) 0 with hm | hm
      · have h0 := g2 hm
        refine ⟨?_, fun t t0 t1 => by omega⟩
        rcases hB with h | h
        · rw [hsz, h, h0]
        · have := (o2 h).2.2.2
          omega
      · obtain ⟨k1, k2, k3⟩ := g3 hm
        exact ⟨by rw [hsz, k2], fun t t0 t1 => by rw [hrow, k3 t t0 t1]⟩
    obtain ⟨hl1, hl2⟩ := hlk
    have eEV : EV x = cat (fun t => EV (ch x t)) (nd x).toNat ++ [nu x] := by
      by_cases c0 : nd (can (nu x)) = 0
      · rw [E1 c0, hl1, hsz, c0]
        rfl
      · rcases hB with h | h
        · exact absurd h c0
        · exact E3 c0 h
    clear hB
    have hlen : (EV x).length = (cat (fun t => EV (ch x t)) (nd x).toNat).length + 1 := by
      rw [eEV, List.length_append]; rfl
    have hmono : ∀ t r : Nat, (cat (fun t => EV (ch x t)) t).length ≤ (cat (fun t => EV (ch x t)) (t + r)).length := by
      intro t r
      induction r with
      | zero => exact Nat.le_refl _
      | succ r ihr =>
        show _ ≤ (cat (fun t => EV (ch x t)) (t + r) ++ EV (ch x ((t + r : Nat) : Int))).length
        rw [List.length_append]; omega
    have key : ∀ t : Nat, (t : Int) ≤ nd x → ∃ (turn3 : Int) (f3 : Nat → Nat → Int) (a3 : Nat → Int → Int), turn ≤ turn3 ∧ turn3 ≤ turn + 2 * (cat (fun t => EV (ch x t)) t).length ∧ hp_lp (gL_X9_compress_19 n 103 s) (n - turn.toNat) (qz turn, cs f d a ni j) = hp_lp (gL_X9_compress_19 n 103 s) (n - turn3.toNat) (qz turn3, cs f3 d a3 ni j) ∧ f3 103 12 = D + 1 ∧ (∀ i, i ≤ D → a3 112 i = a 112 i) ∧ (∀ i, i < D → a3 113 i = a 113 i) ∧ a3 113 D = t ∧ a3 115 = ((cat (fun t => EV (ch x t)) t).foldl (oe sz usf lnn lab) (nn, nb, L)).1 ∧ f3 103 15 = ((cat (fun t => EV (ch x t)) t).foldl (oe sz usf lnn lab) (nn, nb, L)).2.1 ∧ SC s ((cat (fun t => EV (ch x t)) t).foldl (oe sz usf lnn lab) (nn, nb, L)).2.2 f3 a3 ∧ DI c sz usf (cn (pos ch lo x t)) ((cat (fun t => EV (ch x t)) t).foldl (oe sz usf lnn lab) (nn, nb, L)).1 ((cat (fun t => EV (ch x t)) t).foldl (oe sz usf lnn lab) (nn, nb, L)).2.1 ∧ DH s f a f3 a3 := by
      intro t
      induction t with
      | zero =>
        intro _
        exact ⟨turn, f, a, Int.le_refl _, by show turn ≤ turn + 2 * 0; omega, rfl, hD, fun _ _ => rfl, fun _ _ => rfl, e113, e115, e15, hS, hDI, dh_0⟩
      | succ t iht =>
        intro t1
        obtain ⟨turn3, f3, a3, k1, k2, k3, k4, k5, k6, k7, k8, k9, k10, k11, k12⟩ := iht (by omega)
        clear iht
        obtain ⟨q1, q2⟩ := p5 t (by omega) (by omega)
        obtain ⟨z1, z2⟩ := pos_lo T x0 xN (t := t) (by omega) (by omega)
        obtain ⟨v1', v2', v3'⟩ := nds_nu D0 q1 (by omega : ch x t < N)
        obtain ⟨E1', E2', E3'⟩ := E (ch x t) q1 (by omega)
        have et : cat (fun t => EV (ch x t)) (t + 1) = cat (fun t => EV (ch x t)) t ++ EV (ch x t) := rfl
        have el : (cat (fun t => EV (ch x t)) (t + 1)).length = (cat (fun t => EV (ch x t)) t).length + (EV (ch x t)).length := by
          rw [et, List.length_append]
        have hmo := hmono (t + 1) ((nd x).toNat - (t + 1))
        rw [show t + 1 + ((nd x).toNat - (t + 1)) = (nd x).toNat by omega] at hmo
        have hnb := of_nb (sz := sz) (usf := usf) (lnn := lnn) (lab := lab) (cat (fun t => EV (ch x t)) t) (nn, nb, L)
        have hnb2 : ((cat (fun t => EV (ch x t)) t).foldl (oe sz usf lnn lab) (nn, nb, L)).2.1 ≤ nb + (cat (fun t => EV (ch x t)) t).length := hnb.2.1
        have hnb1 : nb ≤ ((cat (fun t => EV (ch x t)) t).foldl (oe sz usf lnn lab) (nn, nb, L)).2.1 := hnb.1
        clear hnb
        have b1 : turn3 + 1 + 2 * ((EV (ch x t)).length : Int) ≤ 4000 := by omega
        have b2 : ((cat (fun t => EV (ch x t)) t).foldl (oe sz usf lnn lab) (nn, nb, L)).2.1 + ((EV (ch x t)).length : Int) ≤ 3000 := by omega
        have b3 : turn3 < 4000 := by omega
        have hsub' : ∀ e, e ∈ EV (ch x t) → e ∈ EVR := fun e he => hsub e (by
          rw [eEV]
          exact List.mem_append_left _ (mem_cat (t := t) _ (by omega) he))
        rw [et, List.foldl_append]
        generalize hst : (cat (fun t => EV (ch x t)) t).foldl (oe sz usf lnn lab) (nn, nb, L) = st at *
        have hrt : row (nu x) t = nu (ch x t) := hl2 t (by omega) (by omega)
        have H3 := dh_ts hs' H k12
        have ez : ((t + 1 : Nat) : Int) = (t : Int) + 1 := by omega
        have hlt : nu (ch x t) < nu x := by
          rcases Int.lt_or_le (nm x) 0 with hm | hm
          · have := g2 hm; omega
          · exact nds_lt D0 T x0 xN hm (t := t) (by omega) (by omega)
        have eN := c_nextTaken (n := n) (d := d) (j := j) H3 c1 k4 (by omega) (by omega) (y := nu x) (t := t) (by rw [show D + 1 - 1 = D by omega, k5 D (Int.le_refl _)]; exact e112) (by rw [show D + 1 - 1 = D by omega]; exact k7) n1 n3 (by omega) (by omega) (by omega)
        rw [if_pos (by omega), show D + 1 - 1 = D by omega, hrt] at eN
        obtain ⟨d1, d2, d3⟩ := k11 (nu (ch x t)) v1' v3'
        have eb : gL_X9_compress_19 n 103 s (qz turn3, cs f3 d a3 ni j) = if qz (st.1 (nu (ch x t))) ≤ qz 0 then (g_X9_enter n 103 (qz (nu (ch x t))) (cs f3 d (v2 a3 113 D (t + 1)) ni j)).bind fun x4 => some (.inl (qz (turn3 + 1), x4)) else (g_X9_putNumber n 103 s (qz (st.1 (nu (ch x t)))) (cs f3 d (v2 a3 113 D (t + 1)) ni j)).bind fun x7 => some (.inl (qz (turn3 + 1), x7)) := by
          unfold gL_X9_compress_19 g_X9_compress_19 g_X9_compress_79
          simp only [zl0, zl1, zlm1, zl4000, qz_neg]
          rw [if_neg (by rw [qz_le (by omega) (by omega) (by omega) (by omega)]; omega), gf_cs, k4, if_neg (by rw [qz_le (by omega) (by omega) (by omega) (by omega)]; omega), eN, bd_some, if_neg (by rw [qz_inj (by omega) (by omega) (by omega) (by omega)]; omega), gpc_103_14, gac_115 v1' (by omega), v2_o (by decide), k8, bd_some, bd_some, qz_add]
        have d1' : opq (1 ≤ st.1 (nu (ch x t)) ↔ nu (ch x t) < cn (pos ch lo x t) ∧ 1 ≤ sz (nu (ch x t)) ∧ 2 ≤ usf (nu (ch x t))) := d1
        clear d1
        by_cases cR : nd (can (nu (ch x t))) ≠ 0 ∧ nu (ch x t) < cn (lo (ch x t))
        · -- come to again
          have hE := E2' cR.1 cR.2
          have hu2 := hRZ (nu (ch x t)) v1' (hsub' _ (by rw [hE]; exact List.mem_singleton_self _))
          have hs1 := (hnd _ v1' v3').1
          rw [hsz] at hs1
          have hnn := (show 1 ≤ st.1 (nu (ch x t)) ↔ nu (ch x t) < cn (pos ch lo x t) ∧ 1 ≤ sz (nu (ch x t)) ∧ 2 ≤ usf (nu (ch x t)) from d1').mpr ⟨by rw [← z1]; exact cR.2, by rw [hsz]; omega, hu2⟩
          rw [if_neg (by rw [qz_le (by omega) (by omega) (by omega) (by omega)]; omega)] at eb
          obtain ⟨f4, a4, w1, w2, w3, w4⟩ := c_putNum (n := n) (f := f3) (d := d) (a := v2 a3 113 D (t + 1)) (ni := ni) (j := j) (L := st.2.2) (z := st.1 (nu (ch x t))) hn hs' hnn (by omega) (by
            unfold SC at k10 ⊢
            rw [v2_o (by omega)]
            exact k10)
          rw [w1, bd_some] at eb
          have eo : (EV (ch x t)).foldl (oe sz usf lnn lab) st = (st.1, st.2.1, st.2.2 ++ num (st.1 (nu (ch x t)))) := by
            rw [hE]
            show oe sz usf lnn lab st (1000 + nu (ch x t)) = _
            unfold oe
            rw [if_neg (by omega), show 1000 + nu (ch x t) - 1000 = nu (ch x t) by omega]
          have ecn : cn (pos ch lo x ((t + 1 : Nat) : Int)) = cn (pos ch lo x t) := by
            rw [ez, z2, ← z1]
            exact (nds_new D0 T q1 (by omega)).1 cR.2
          have elen : (EV (ch x t)).length = 1 := by rw [hE]; rfl
          refine ⟨turn3 + 1, f4, a4, by omega, ?_, ?_, ?_, fun i hi => ?_, fun i hi => ?_, ?_, ?_, ?_, ?_, ?_, ?_⟩
          · rw [← et, el, elen]; omega
          · rw [k3, show n - turn3.toNat = n - (turn3 + 1).toNat + 1 by omega, lp_st eb]
          · rw [w3 103 (by omega)]; exact k4
          · rw [w4 112 (by omega) (by decide), v2_o (by decide)]; exact k5 i hi
          · rw [w4 113 (by omega) (by decide), v2_s, v1_o (by omega)]; exact k6 i hi
          · rw [w4 113 (by omega) (by decide), v2_s, v1_s, ez]
          · rw [eo, w4 115 (by omega) (by decide), v2_o (by decide)]; exact k8
          · rw [eo, w3 103 (by omega)]; exact k9
          · rw [eo]; exact w2
          · rw [eo, ecn]; exact k11
          · exact dh_t k12 ⟨fun x x1 x2 => w3 x x2, fun x x1 x2 => by rw [w3 103 (by omega)], fun x x1 x2 x3 x4 x5 => by rw [w4 x x5 x4, v2_o x2]⟩
        · -- come to anew
          have hB' : nd (can (nu (ch x t))) = 0 ∨ cn (lo (ch x t)) ≤ nu (ch x t) := by
            by_cases y : nd (can (nu (ch x t))) = 0
            · exact Or.inl y
            · refine Or.inr ?_
              rcases Int.lt_or_le (nu (ch x t)) (cn (lo (ch x t))) with h | h
              · exact absurd ⟨y, h⟩ cR
              · exact h
          have hnn : ¬1 ≤ st.1 (nu (ch x t)) := by
            intro h
            obtain ⟨y1, y2, y3⟩ := (show 1 ≤ st.1 (nu (ch x t)) ↔ nu (ch x t) < cn (pos ch lo x t) ∧ 1 ≤ sz (nu (ch x t)) ∧ 2 ≤ usf (nu (ch x t)) from d1').mp h
            rcases hB' with h' | h'
            · rw [hsz, h'] at y2; omega
            · rw [z1] at h'; omega
          clear cR
          have hB3 : opq (nd (can (nu (ch x t))) = 0 ∨ cn (lo (ch x t)) ≤ nu (ch x t)) := hB'
          clear hB'
          rw [if_pos (by rw [qz_le (by omega) (by omega) (by omega) (by omega)]; omega)] at eb
          have eE := c_enter (n := n) (y := nu (ch x t)) (f := f3) (d := d) (a := v2 a3 113 D (t + 1)) (ni := ni) (j := j) k4 (by omega) (by omega)
          generalize ha4 : v2 (v2 (v2 a3 113 D (t + 1)) 112 (D + 1) (nu (ch x t))) 113 (D + 1) 0 = a4 at eE
          have o112 : a4 112 = v1 (a3 112) (D + 1) (nu (ch x t)) := by rw [← ha4, v2_o (by decide), v2_s, v2_o (by decide)]
          have o113 : a4 113 = v1 (v1 (a3 113) D (t + 1)) (D + 1) 0 := by rw [← ha4, v2_s, v2_o (by decide), v2_s]
          have ox : ∀ x, x ≠ 112 → x ≠ 113 → a4 x = a3 x := fun x x1 x2 => by rw [← ha4, v2_o x2, v2_o x1, v2_o x2]
          rw [eE, bd_some] at eb
          have F4 : DH s f3 a3 (u2 f3 103 12 (D + 1 + 1)) a4 := ⟨fun x x1 x2 => by rw [u2_b x1], fun x x1 x2 => by rw [u2_c x1], fun x x1 x2 x3 x4 x5 => ox x x1 x2⟩
          obtain ⟨turn5, f5, a5, j1, j2, j3, j4, j5, j6, j7, j8, j9, j10, j11⟩ := ih (ch x t) (D + 1) (turn3 + 1) st.1 st.2.1 st.2.2 (u2 f3 103 12 (D + 1 + 1)) a4 q1 (by omega) (by omega) hB3 hsub' (by omega) (by omega) (by omega) b1 b2 (dh_ts hs' H3 F4) (fun i i0 i1 => by rw [ox 108 (by decide) (by decide), k12.2.2 108 (by decide) (by decide) (by decide) (by decide) (by omega)]; exact h108 i i0 i1) (fun i i0 i1 => by rw [ox 114 (by decide) (by decide), k12.2.2 114 (by decide) (by decide) (by decide) (by decide) (by omega)]; exact h114 i i0 i1) (by rw [u2_a]) (by rw [o112, v1_s]) (by rw [o113, v1_s]) (by rw [ox 115 (by decide) (by decide)]; exact k8) (by rw [u2_c (by decide)]; exact k9) (by rw [z1]; exact k11) (by
            unfold SC at k10 ⊢
            rw [u2_b (by omega), ox (s + 1) (by omega) (by omega)]
            exact k10)
          refine ⟨turn5, f5, a5, by omega, ?_, ?_, j4, fun i hi => ?_, fun i hi => ?_, ?_, j7, j8, j9, ?_, dh_t k12 (dh_t F4 j11)⟩
          · rw [← et, el]; omega
          · rw [k3, show n - turn3.toNat = n - (turn3 + 1).toNat + 1 by omega, lp_st eb, j3]
          · rw [j5 i (by omega), o112, v1_o (by omega)]; exact k5 i hi
          · rw [j6 i (by omega), o113, v1_o (by omega), v1_o (by omega)]; exact k6 i hi
          · rw [j6 D (by omega), o113, v1_o (by omega), v1_s, ez]
          · rw [ez, z2]; exact j10
    obtain ⟨turn3, f3, a3, k1, k2, k3, k4, k5, k6, k7, k8, k9, k10, k11, k12⟩ := key (nd x).toNat (by omega)
    clear key
    have hnb := of_nb (sz := sz) (usf := usf) (lnn := lnn) (lab := lab) (cat (fun t => EV (ch x t)) (nd x).toNat) (nn, nb, L)
    have hnb1 : nb ≤ ((cat (fun t => EV (ch x t)) (nd x).toNat).foldl (oe sz usf lnn lab) (nn, nb, L)).2.1 := hnb.1
    rw [eEV, List.foldl_append]
    rw [show (((nd x).toNat : Nat) : Int) = nd x by omega] at k7 k11
    rw [pos_e T x0 xN] at k11
    generalize hst : (cat (fun t => EV (ch x t)) (nd x).toNat).foldl (oe sz usf lnn lab) (nn, nb, L) = st at *
    have H3 := dh_ts hs' H k12
    obtain ⟨l1, l2, l3, l4⟩ := hlab (nu x) n1 n3
    obtain ⟨u1', u2'⟩ := hus (nu x) n1 n3
    have eN := c_nextTaken (n := n) (d := d) (j := j) H3 c1 k4 (by omega) (by omega) (y := nu x) (t := nd x) (by rw [show D + 1 - 1 = D by omega, k5 D (Int.le_refl _)]; exact e112) (by rw [show D + 1 - 1 = D by omega]; exact k7) n1 n3 (by omega) (by omega) (by omega)
    rw [if_neg (by omega), show D + 1 - 1 = D by omega] at eN
    have F4 : DH s f3 a3 f3 (v2 a3 113 D (nd x + 1)) := ⟨fun _ _ _ => rfl, fun _ _ _ => rfl, fun x x1 x2 x3 x4 x5 => by rw [v2_o x2]⟩
    obtain ⟨f5, a5, j1, j2, j3, j4, j5, j6, j7, j8⟩ := c_leave (n := n) (d := d) (j := j) (f := f3) (a := v2 a3 113 D (nd x + 1)) (D := D) (y := nu x) (nb := st.2.1) (nn := st.1) (L := st.2.2) (usf := usf) (lnn := lnn) hn hs' (dh_ts hs' H3 F4) c1 n1 n3 k4 D0' (by omega) (by rw [v2_o (by decide), k5 D (Int.le_refl _)]; exact e112) (by rw [v2_o (by decide)]; exact k8) k9 (by rw [v2_o (by decide), k12.2.2 108 (by decide) (by decide) (by decide) (by decide) (by omega)]; exact h108 _ n1 n3) (by rw [v2_o (by decide), k12.2.2 114 (by decide) (by decide) (by decide) (by decide) (by omega)]; exact h114 _ l1 l2) ⟨l1, l2⟩ ⟨l3, l4⟩ (by omega) (by omega) (by
      unfold SC at k10 ⊢
      rw [v2_o (by omega)]
      exact k10)
    have eb : gL_X9_compress_19 n 103 s (qz turn3, cs f3 d a3 ni j) = some (.inl (qz (turn3 + 1), cs f5 d a5 ni j)) := by
      unfold gL_X9_compress_19 g_X9_compress_19 g_X9_compress_79
      simp only [zl0, zl1, zlm1, zl4000, qz_neg]
      rw [if_neg (by rw [qz_le (by omega) (by omega) (by omega) (by omega)]; omega), gf_cs, k4, if_neg (by rw [qz_le (by omega) (by omega) (by omega) (by omega)]; omega), eN, bd_some, if_pos rfl, j1, bd_some, qz_add]
    refine ⟨turn3 + 1, f5, a5, by omega, by rw [← eEV]; omega, ?_, j2, fun i hi => ?_, fun i hi => ?_, j3, j4, j5, ?_, dh_t k12 (dh_t F4 j6)⟩
    · rw [k3, show n - turn3.toNat = n - (turn3 + 1).toNat + 1 by omega, lp_st eb]
    · rw [j7, v2_o (by decide)]; exact k5 i (by omega)
    · rw [j8, v2_s, v1_o (by omega)]; exact k6 i hi
    · show DI c sz usf (cn (x + 1)) (oe sz usf lnn lab st (nu x)).1 (oe sz usf lnn lab st (nu x)).2.1
      intro i i0 i1
      obtain ⟨d1, d2, d3⟩ := k11 i i0 i1
      unfold oe
      rw [if_pos (by omega)]
      by_cases z : 1 ≤ sz (nu x) ∧ 2 ≤ usf (nu x)
      · rw [if_pos z]
        show (1 ≤ v1 st.1 (nu x) (st.2.1 + 1) i ↔ _) ∧ 0 ≤ v1 st.1 (nu x) (st.2.1 + 1) i ∧ v1 st.1 (nu x) (st.2.1 + 1) i ≤ st.2.1 + 1
        have hnew : cn (lo x) ≤ nu x := by
          rcases hB2 with h | h
          · have := z.1
            rw [hsz, h] at this
            omega
          · exact h
        obtain ⟨y1, y2, y3, y4⟩ := o2 hnew
        by_cases e : i = nu x
        · rw [e, v1_s]
          exact ⟨⟨fun _ => ⟨by omega, z.1, z.2⟩, fun _ => by omega⟩, by omega, by omega⟩
        · rw [v1_o e]
          refine ⟨⟨fun h => ?_, fun h => ?_⟩, d2, by omega⟩
          · obtain ⟨w1, w2, w3⟩ := d1.mp h
            exact ⟨by omega, w2, w3⟩
          · exact d1.mpr ⟨hcn2 i h.1 e, h.2.1, h.2.2⟩
      · rw [if_neg z]
        show (1 ≤ st.1 i ↔ _) ∧ 0 ≤ st.1 i ∧ st.1 i ≤ st.2.1
        refine ⟨⟨fun h => ?_, fun h => ?_⟩, d2, d3⟩
        · obtain ⟨w1, w2, w3⟩ := d1.mp h
          exact ⟨by omega, w2, w3⟩
        · refine d1.mpr ⟨?_, h.2.1, h.2.2⟩
          by_cases e : i = nu x
          · rw [e] at h
            exact absurd ⟨h.2.1, h.2.2⟩ z
          · exact hcn2 i h.1 e
end DND
