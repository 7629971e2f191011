/-! A proof is decoded: both -/
section DEC
variable {b n : Nat} {q S K P len k : Int} {f : Nat → Nat → Int} {d : Nat → Nat} {a : Nat → Int → Int} {ni : Nat → Nat} {j : Nat → Int → Int64} {F : Nat → Int} {A : Nat → Int → Int} {J : Nat → Int → Int64}
theorem m_read28 {v w : Int32} (hn : 100000 ≤ n) : ∃ B : Int → Int, hp_lp (gL_X11_readProof_28 n 0 v w) n (qz 0, ms F A J) = some (ms F (u1 A 36 B) J) ∧ ∀ i, 0 ≤ i → i < 1000 → B i = -1 := by
  have lp := lp_inv (b := gL_X11_readProof_28 n 0 v w) (fun t c => ∃ B : Int → Int, c = (qz t, ms F (u1 A 36 B) J) ∧ ∀ i, 0 ≤ i → i < t → B i = -1) (Q := fun s => ∃ B : Int → Int, s = ms F (u1 A 36 B) J ∧ ∀ i, 0 ≤ i → i < 1000 → B i = -1) 1000 (n := n) (i0 := 0) (by omega) (by omega) (c0 := (qz 0, ms F A J)) ⟨A 36, by rw [u1_id rfl], fun i i0 i1 => by omega⟩ ?_ ?_
  · obtain ⟨s, es, B, rfl, h⟩ := lp
    exact ⟨B, es, h⟩
  · rintro t c t0 t1 ⟨B, rfl, h⟩
    refine ⟨_, ?_, v1 B t (-1), rfl, fun i i0 i1 => ?_⟩
    · unfold gL_X11_readProof_28 g_X11_readProof_28
      simp only [zl1, zl1000, zlm1, qz_neg]
      rw [if_neg (by rw [qz_le (by omega) (by omega) (by omega) (by omega)]; omega), gp_52, ua_36 (by omega) (by omega), bd_some, qz_add, v2_u1, u1_s, u1_1]
    · by_cases e : i = t
      · rw [e, v1_s]
      · rw [v1_o e]; exact h i i0 (by omega)
  · rintro c ⟨B, rfl, h⟩
    refine ⟨_, ?_, B, rfl, h⟩
    unfold gL_X11_readProof_28 g_X11_readProof_28
    simp only [zl1000]
    rw [if_pos (by rw [qz_le (by omega) (by omega) (by omega) (by omega)]; omega)]
/-- what decoding gives: the class's answer z, both states -/
def DEO (b : Nat) (k z : Int) (f : Nat → Nat → Int) (a : Nat → Int → Int) (f2 : Nat → Nat → Int) (a2 : Nat → Int → Int) (F : Nat → Int) (A : Nat → Int → Int) (F2 : Nat → Int) (A2 : Nat → Int → Int) : Prop :=
  ((∀ i, i ≠ 78 → f2 i = f i) ∧ f2 78 0 = k ∧ ∀ i, ¬(79 ≤ i ∧ i ≤ 82) → a2 i = a i) ∧ DM F A F2 A2 ∧ (z = 0 ∨ z = -1 ∨ z = -2 ∨ z = -3 ∨ z = -10) ∧ (z ≠ 0 → F2 54 = z ∧ F2 55 = f2 78 2) ∧ (z = 0 → f2 78 2 = F2 50 ∧ f2 78 1 = F2 50 ∧ 0 ≤ F2 50 ∧ F2 50 ≤ 1000 ∧ DP k (F2 50) (a2 79) (a2 80) (A2 34) (A2 35) (A2 36) ∧ mkc (a2 80) (F2 50) ≤ 200)
theorem c_dec100 {z : Int} (hz : z ≠ 0) (z0 : -2147483648 ≤ z) (z1 : z < 2147483648) : g_X3_decode_100 n 78 (qz z) (cs f d a ni j) = some (qz z, cs f d a ni j) := by
  unfold g_X3_decode_100
  rw [if_neg (by rw [zl0, qz_inj (by omega) (by omega) (by omega) (by omega)]; exact hz)]
theorem c_dec100z : g_X3_decode_100 n 78 (qz 0) (cs f d a ni j) = some (qz 0, cs (u2 f 78 2 (f 78 1)) d a ni j) := by
  unfold g_X3_decode_100
  simp only [zl0]
  rw [if_pos trivial, gf_cs, wf_cs, bd_some]
theorem dec_rd (hn : 100000 ≤ n) (hb : bks b) (hd : d 6 = b) (hq : 0 ≤ q ∧ q ≤ 1) (h4 : F 4 = q) (G : BK b q S K P len f a ni j A J) (hR : Rbk b q len a A) (h0 : 0 ≤ k) (h1 : k < K) (hk : a (b + 8) k = 3) (h780 : f 78 0 = k) (h781 : f 78 1 = 0) (h785 : f 78 5 = 0) (h782 : f 78 2 = 0) : ∃ (z : Int) (f2 : Nat → Nat → Int) (a2 : Nat → Int → Int) (F2 : Nat → Int) (A2 : Nat → Int → Int), ((g_X5_size n (b + 14) (qz k) (cs f d a ni j)).bind fun x9 => if x9 = 0 then some ((-1 : Int32), cs f d a ni j) else (gA (cs f d a ni j) (b + 29) (qz k)).bind fun x12 => if x12 = 0 then g_X3_decode_67 n 78 (0 : Int32) (cs f d a ni j) else g_X3_decode_67 n 78 (1 : Int32) (cs f d a ni j)) = some (qz z, cs f2 d a2 ni j) ∧ g_X11_readProof n 0 (qz k) (ms F A J) = some (qp (z = 0), ms F2 A2 J) ∧ DEO b k z f a f2 a2 F A F2 A2 := by
  have hbb : b = 1 ∨ b = 33 := hb
  have hK : K ≤ 200 := G.2.1.2.2.2.1
  obtain ⟨t1, t2, t3, t4, t5, t6, t7, t8, t9⟩ := bk_t G h0 h1
  obtain ⟨l1, l2, l3⟩ := G.2.2.2.2.2.2.2.2.2.2.2.1 k h0 h1 hk
  obtain ⟨B, eB, hB⟩ := m_read28 (n := n) (v := qz k) (w := qz (A 14 (200 * q + k))) (F := u1 (u1 (u1 F 50 0) 53 0) 46 0) (A := A) (J := J) hn
  generalize hF1 : u1 (u1 (u1 F 50 0) 53 0) 46 0 = F1 at eB
  have hM1 : DM F A F1 (u1 A 36 B) := by
    rw [← hF1]
    exact ⟨fun i hi => by rw [u1_o (by omega), u1_o (by omega), u1_o (by omega)], fun i hi => u1_o (by omega)⟩
  have f50 : F1 50 = 0 := by rw [← hF1, u1_o (by decide), u1_o (by decide), u1_s]
  have f53 : F1 53 = 0 := by rw [← hF1, u1_o (by decide), u1_s]
  have f46 : F1 46 = 0 := by rw [← hF1, u1_s]
  have f4 : F1 4 = q := by rw [hM1.1 4 (by omega)]; exact h4
  have G1 : BK b q S K P len f a ni j (u1 A 36 B) J := bk_eq G (fun _ _ _ => rfl) (fun _ _ _ => rfl) (fun _ _ _ => rfl) rfl (fun i i1 i2 => u1_o (by omega)) ⟨rfl, rfl⟩
  have hR1 : Rbk b q len a (u1 A 36 B) := by
    unfold Rbk
    rw [u1_o (by decide)]
    exact hR
  have o14 : u1 A 36 B 14 = A 14 := u1_o (by decide)
  have o13 : u1 A 36 B 13 = A 13 := u1_o (by decide)
  have YM : g_X11_readProof n 0 (qz k) (ms F A J) = if A 14 (200 * q + k) = 0 then some (qz 0, ms (u1 (u1 F1 54 (-1)) 55 0) (u1 A 36 B) J) else if a (b + 29) k = 1 then (g_X11_readList n 0 (qz k) (ms F1 (u1 A 36 B) J)).bind fun x15 => if x15.1 = qz 0 then some (qz 0, x15.2) else (g_X11_readLetters n 0 (qz k) x15.2).bind fun x16 => if x16.1 = qz 0 then some (qz 0, x16.2) else some (qz 1, x16.2) else (hp_lp (gL_X11_readProof_91 n 0 (qz k) (qz (A 14 (200 * q + k)))) n (qz 0, ms F1 (u1 A 36 B) J)).bind fun x10 => Sum.elim (fun y11 => (g_X11_fails n 0 (qz (-2)) y11.1 y11.2).bind fun x13 => (hp_bz x13.1).bind fun _ => some (x13.1, x13.2)) (fun y12 => some (y12.1, y12.2)) x10 := by
    unfold g_X11_readProof g_X11_readProof_0
    simp only [zl0, zl1, zlm1, zlm2, qz_neg]
    rw [m_at h4, bd_some, gp_17, ga_14 (by omega) (by omega), bd_some, wf_ms, bd_some, wf_ms, bd_some, wf_ms, bd_some, hF1, eB, bd_some, m_compr hq f4 G1 hR1 h0 h1 hk, bd_some]
    by_cases c0 : A 14 (200 * q + k) = 0
    · rw [if_pos (by rw [c0]), if_pos c0]
      rw [show qz (-1) = qz (-1) from rfl, m_fails, bd_some, hp_bz_0, bd_some]
    · rw [if_neg (by rw [qz_inj (by omega) (by omega) (by omega) (by omega)]; exact c0), if_neg c0]
      by_cases c1 : a (b + 29) k = 1
      · rw [qp_T c1, if_neg n10, if_pos c1]
      · rw [qp_F c1, if_pos rfl, if_neg c1]
  have XC : ((g_X5_size n (b + 14) (qz k) (cs f d a ni j)).bind fun x9 => if x9 = 0 then some ((-1 : Int32), cs f d a ni j) else (gA (cs f d a ni j) (b + 29) (qz k)).bind fun x12 => if x12 = 0 then g_X3_decode_67 n 78 (0 : Int32) (cs f d a ni j) else g_X3_decode_67 n 78 (1 : Int32) (cs f d a ni j)) = if A 14 (200 * q + k) = 0 then some (qz (-1), cs f d a ni j) else if a (b + 29) k = 1 then (g_X3_decodeList n 78 (cs f d a ni j)).bind fun x2 => g_X3_decode_83 n 78 (qz 1) x2.1 x2.2 else (g_X3_decodeLabels n 78 (cs f d a ni j)).bind fun x1 => g_X3_decode_83 n 78 (qz 0) x1.1 x1.2 := by
    rw [c_tsz hb G h0 h1, bd_some]
    unfold g_X3_decode_67
    simp only [zl0, zl1, zlm1, qz_neg]
    by_cases c0 : A 14 (200 * q + k) = 0
    · rw [if_pos (by rw [c0]), if_pos c0]
    · rw [if_neg (by rw [qz_inj (by omega) (by omega) (by omega) (by omega)]; exact c0), if_neg c0, gab_29 hb h0 (by omega), bd_some]
      by_cases c1 : a (b + 29) k = 1
      · rw [c1, if_neg n10, if_neg n10, if_pos rfl]
      · have e0 : a (b + 29) k = 0 := by
          rcases l3 with ⟨z, _⟩ | ⟨z, _⟩
          · exact absurd z c1
          · exact z
        rw [e0, if_pos rfl, if_pos trivial, if_neg (by omega)]
  by_cases c0 : A 14 (200 * q + k) = 0
  · rw [if_pos c0] at YM XC
    exact ⟨-1, f, a, _, _, XC, by rw [YM, qp_F (by omega)], ⟨⟨fun _ _ => rfl, h780, fun _ _ => rfl⟩, ⟨fun i hi => by rw [u1_o (by omega), u1_o (by omega)]; exact hM1.1 i hi, hM1.2⟩, by omega, fun _ => ⟨by rw [u1_o (by decide), u1_s], by rw [u1_s, h782]⟩, fun z => by omega⟩⟩
  rw [if_neg c0] at YM XC
  by_cases c1 : a (b + 29) k = 1
  rotate_left
  · rw [if_neg c1] at YM XC
    obtain ⟨f2, a2, hD, hC⟩ := c_labels (n := n) (d := d) hn hb hd h780 h781 G h0 h1
    obtain ⟨F2, A2, r, er, hM2, g36, g53, hMM⟩ := m_labels (F := F1) (J := J) hn hq f4 f50 G1 hR1 h0 h1
    rw [o14] at er
    rw [o14, o13] at hMM
    rw [er, bd_some] at YM
    rw [u1_s] at g36
    rcases hC with ⟨t, u0, u1', u2', u3, e1, e2⟩ | ⟨u0, e1, e2, e3⟩
    · rcases hMM with ⟨t', rfl, v0, v1', v2', v3⟩ | ⟨rfl, v0, _⟩
      · have ht : t' = t := by
          by_cases y : t < t'
          · exact absurd (v3 t u0 y) u2'
          · by_cases y2 : t' < t
            · exact absurd (u3 t' v0 y2) v2'
            · omega
        subst ht
        rw [e1, bd_some] at XC
        rw [Sum.elim_inl, m_fails, bd_some, hp_bz_0, bd_some] at YM
        refine ⟨-2, f2, a2, _, _, ?_, by rw [YM, qp_F (by omega)], ⟨⟨hD.1, by rw [hD.2.1]; exact h780, hD.2.2⟩, ⟨fun i hi => by rw [u1_o (by omega), u1_o (by omega)]; exact (dm_t hM1 hM2).1 i hi, (dm_t hM1 hM2).2⟩, by omega, fun _ => ⟨by rw [u1_o (by decide), u1_s], by rw [u1_s, e2]⟩, fun z => by omega⟩⟩
        rw [XC]
        unfold g_X3_decode_83
        rw [if_neg (by rw [zl0, qz_inj (by omega) (by omega) (by omega) (by omega)]; omega), c_dec100 (by omega) (by omega) (by omega)]
      · exact absurd (v0 t u0 u1') u2'
    · rcases hMM with ⟨t', rfl, v0, v1', v2', v3⟩ | ⟨rfl, v0, v1', v2'⟩
      · exact absurd (u0 t' v0 v1') v2'
      · rw [e1, bd_some] at XC
        rw [Sum.elim_inr] at YM
        refine ⟨0, u2 f2 78 2 (f2 78 1), a2, F2, A2, ?_, by rw [YM, qp_T rfl], ⟨⟨fun i hi => by rw [u2_b hi]; exact hD.1 i hi, by rw [u2_c (by decide), hD.2.1]; exact h780, hD.2.2⟩, dm_t hM1 hM2, Or.inl rfl, fun z => absurd rfl z, fun _ => ⟨by rw [u2_a, e2, v1'], by rw [u2_c (by decide), e2, v1'], by omega, by omega, ?_, ?_⟩⟩⟩
        · rw [XC]
          unfold g_X3_decode_83
          simp only [zl0]
          rw [if_pos trivial, if_pos trivial, c_dec100z]
        · rw [v1']
          intro i i0 i1
          obtain ⟨y1, y2⟩ := e3 i i0 i1
          have y3 := v2' i i0 i1
          have y4 := nmr_r G h0 h1 i0 i1
          have y5 := (u0 i i0 i1).1
          exact ⟨Or.inl ⟨y2, by rw [g36]; exact hB i i0 (by omega)⟩, Or.inl ⟨by rw [y1]; exact y5, by rw [y1]; exact y4.2, by rw [y1, y3]⟩⟩
        · have : mkc (a2 80) (F2 50) ≤ mkc (fun _ => 0) (F2 50) := by
            rw [mkc_c (g := a2 80) (h := fun _ => 0) (fun x x0 x1 => (e3 x x0 (by omega)).2)]
            exact Int.le_refl _
          have z : ∀ m : Nat, cn (fun _ : Int => (0 : Int) = 1) m = 0 := by
            intro m
            induction m with
            | zero => rfl
            | succ m ih =>
              have e : cn (fun _ : Int => (0 : Int) = 1) (m + 1) = cn (fun _ : Int => (0 : Int) = 1) m + @ite _ ((0 : Int) = 1) (Classical.propDecidable _) 1 0 := rfl
              rw [e, ih, if_neg (by omega)]
              rfl
          have z2 : mkc (fun _ => 0) (F2 50) = 0 := z _
          omega
  · rw [if_pos c1] at YM XC
    obtain ⟨f2, a2, hD, g1, g5, hC⟩ := c_list (n := n) (d := d) hn hb hd h780 G h0 h1 hk c1
    obtain ⟨F2, A2, hM2, hA2, hMM⟩ := m_list (F := F1) (J := J) hn hq f4 f46 G1 hR1 h0 h1 hk c1
    rw [o14, o13] at hMM
    have hDM2 : DM F A F2 A2 := dm_t hM1 ⟨fun i hi => hM2 i (by omega) (by omega) (by omega), fun i hi => hA2 i (by omega)⟩
    have uq : ∀ {t t' : Int} {bad : Int → Prop}, 1 ≤ t → 1 ≤ t' → bad t → bad t' → (∀ y, 1 ≤ y → y < t → ¬bad y) → (∀ y, 1 ≤ y → y < t' → ¬bad y) → t = t' := by
      intro t t' bad a1 a2 a3 a4 a5 a6
      by_cases y : t < t'
      · exact absurd a3 (a6 t a1 y)
      · by_cases y2 : t' < t
        · exact absurd a4 (a5 t' a2 y2)
        · omega
    rcases hC with ⟨t, u0, u1', u2', u3, e1, e2⟩ | ⟨u0, u1', e1, e2⟩ | ⟨u0, u1', e1, hN⟩
    · rcases hMM with ⟨t', v0, v1', v2', v3, w1, w2, w3⟩ | ⟨v0, _⟩ | ⟨v0, _⟩
      · have ht : t = t' := uq u0 v0 u2' v2' u3 v3
        subst ht
        rw [e1, bd_some] at XC
        rw [w1, bd_some, if_pos rfl] at YM
        refine ⟨-2, f2, a2, F2, A2, ?_, by rw [YM, qp_F (by omega)], ⟨⟨hD.1, by rw [hD.2.1]; exact h780, hD.2.2⟩, hDM2, by omega, fun _ => ⟨w2, by rw [w3, e2]⟩, fun z => by omega⟩⟩
        rw [XC]
        unfold g_X3_decode_83
        rw [if_neg (by rw [zl0, qz_inj (by omega) (by omega) (by omega) (by omega)]; omega), c_dec100 (by omega) (by omega) (by omega)]
      · exact absurd u2' (v0 t u0 u1')
      · exact absurd u2' (v0 t u0 u1')
    · rcases hMM with ⟨t', v0, v1', v2', _⟩ | ⟨v0, v1', w1, w2, w3⟩ | ⟨v0, v1', _⟩
      · exact absurd v2' (u0 t' v0 v1')
      · rw [e1, bd_some] at XC
        rw [w1, bd_some, if_pos rfl] at YM
        refine ⟨-3, f2, a2, F2, A2, ?_, by rw [YM, qp_F (by omega)], ⟨⟨hD.1, by rw [hD.2.1]; exact h780, hD.2.2⟩, hDM2, by omega, fun _ => ⟨w2, by rw [w3, e2]⟩, fun z => by omega⟩⟩
        rw [XC]
        unfold g_X3_decode_83
        rw [if_neg (by rw [zl0, qz_inj (by omega) (by omega) (by omega) (by omega)]; omega), c_dec100 (by omega) (by omega) (by omega)]
      · omega
    · rcases hMM with ⟨t', v0, v1', v2', _⟩ | ⟨v0, v1', _⟩ | ⟨v0, v1', w1, w2, w3⟩
      · exact absurd v2' (u0 t' v0 v1')
      · omega
      · have l4 : 1 ≤ a (b + 30) k := by
          rcases l3 with ⟨z1, z2, z3, z4, _⟩ | ⟨z1, _⟩ <;> omega
        obtain ⟨z1, z2, z3⟩ := gls_r G h0 h1 l4 l2 u0
        rw [e1, bd_some] at XC
        rw [w1, bd_some, if_neg n10] at YM
        have G2 := dc_bk hb G hD hDM2
        have hR2 : Rbk b q len a2 A2 := by
          unfold Rbk
          rw [hD.2.2 (b + 2) (by omega), hDM2.2 2 (by omega)]
          exact hR
        have i50 : F2 50 = 0 := by rw [hM2 50 (by decide) (by decide) (by decide)]; exact f50
        have i53 : F2 53 = 0 := by rw [hM2 53 (by decide) (by decide) (by decide)]; exact f53
        have i36 : ∀ i, 0 ≤ i → i < 1000 → A2 36 i = -1 := by
          intro i i0 i1
          rw [hA2 36 (by decide), u1_s]
          exact hB i i0 i1
        have HL : LTS k (a (b + 20 + 2) (k + 1) - a (b + 20 + 2) k + (a (b + 30) k - 1)) (gls q k (a (b + 20 + 2) (k + 1) - a (b + 20 + 2) k) (fun x => a (b + 20 + 1) (a (b + 20 + 2) k + x)) (A 13) (a (b + 17 + 1))) (u2 (u2 (u2 f2 78 10 0) 78 11 0) 78 12 0) a2 0 0 0 F2 A2 := by
          unfold LTS
          rw [i50, i53]
          refine ⟨⟨by rw [u2_c (by decide), u2_c (by decide), u2_c (by decide)]; exact hN.1, w2, by omega, by omega, fun x x0 x1 => ⟨hN.2.1 x x0 x1, w3 x x0 x1, (z3 x x0 x1).1, (z3 x x0 x1).2⟩⟩, ⟨by rw [u2_c (by decide), u2_c (by decide), u2_c (by decide), g1]; exact h781, by omega, by omega, by rw [u2_c (by decide), u2_c (by decide), u2_c (by decide), g5]; exact h785, rfl, by omega⟩, Or.inl ⟨by rw [u2_c (by decide), u2_c (by decide), u2_a], by omega, by omega⟩, ⟨by rw [u2_c (by decide), u2_a], Or.inl rfl, by rw [u2_a], Or.inl rfl, fun z => by omega⟩, fun i i0 i1 => by omega, fun i i0 i1 => i36 i i0 i1⟩
        obtain ⟨z, f3, a3, F3, A3, y1, y2, y3, y4, y5, y6, y7⟩ := dec_let (n := n) (d := d) hn hb hd (by rw [hD.2.1]; exact h780) hq (by rw [hDM2.1 4 (by omega)]; exact h4) G2 hR2 h0 h1 (by rw [hD.2.2 (b + 8) (by omega)]; exact hk) (by rw [hD.2.2 (b + 29) (by omega)]; exact c1) (by rw [hD.2.2 (b + 30) (by omega), hDM2.2 14 (by omega)]; exact u1') HL
        rw [y2, bd_some] at YM
        have XC2 : g_X3_decode_83 n 78 (qz 1) (qz 0) (cs f2 d a2 ni j) = g_X3_decode_100 n 78 (qz z) (cs f3 d a3 ni j) := by
          unfold g_X3_decode_83
          simp only [zl0]
          rw [if_pos trivial, if_neg n10, y1, bd_some]
        have D3 := dc_t hD y3
        by_cases cz : z = 0
        · refine ⟨0, u2 f3 78 2 (f3 78 1), a3, F3, A3, ?_, ?_, ⟨⟨fun i hi => by rw [u2_b hi]; exact D3.1 i hi, by rw [u2_c (by decide), D3.2.1]; exact h780, D3.2.2⟩, dm_t hDM2 y4, Or.inl rfl, fun z => absurd rfl z, fun _ => ?_⟩⟩
          · rw [XC]
            show g_X3_decode_83 n 78 (qz 1) (qz 0) (cs f2 d a2 ni j) = _
            rw [XC2, cz, c_dec100z]
          · rw [YM]
            show (if qp (z = 0) = qz 0 then some (qz 0, ms F3 A3 J) else some (qz 1, ms F3 A3 J)) = _
            rw [qp_T cz, if_neg n10, qp_T rfl]
          · obtain ⟨x1, x2, x3, x4, x5⟩ := y7 cz
            exact ⟨by rw [u2_a]; exact x1, by rw [u2_c (by decide)]; exact x1, x2, x3, x4, x5⟩
        · have zr : -2147483648 ≤ z ∧ z < 2147483648 := by omega
          refine ⟨z, f3, a3, F3, A3, ?_, ?_, ⟨⟨D3.1, by rw [D3.2.1]; exact h780, D3.2.2⟩, dm_t hDM2 y4, by omega, y6, fun y => absurd y cz⟩⟩
          · rw [XC]
            show g_X3_decode_83 n 78 (qz 1) (qz 0) (cs f2 d a2 ni j) = _
            rw [XC2, c_dec100 cz zr.1 zr.2]
          · rw [YM]
            show (if qp (z = 0) = qz 0 then some (qz 0, ms F3 A3 J) else some (qz 1, ms F3 A3 J)) = _
            rw [qp_F cz, if_pos rfl]
end DEC
