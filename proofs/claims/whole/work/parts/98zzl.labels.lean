/-! The labels of a proof that is written out -/
section LAB
variable {b n : Nat} {q S K P len k le x y i c r : Int} {f : Nat → Nat → Int} {d : Nat → Nat} {a : Nat → Int → Int} {ni : Nat → Nat} {j : Nat → Int → Int64} {F : Nat → Int} {A : Nat → Int → Int} {J : Nat → Int → Int64}
/-- a proof of statement k may name statement r -/
def may (k : Int) (ki un : Int → Int) (r : Int) : Prop := 0 ≤ r ∧ (2 ≤ ki r ∨ k < un r)
theorem c_mayName (hb : bks b) (hd : d 6 = b) (h78 : f 78 0 = k) (G : BK b q S K P len f a ni j A J) (h0 : 0 ≤ k) (h1 : k < K) (r0 : -1 ≤ r) (r1 : r < k) : g_X3_mayName n 78 (qz r) (cs f d a ni j) = some (qp (may k (a (b + 8)) (a (b + 10)) r)) := by
  have hK : K ≤ 200 := G.2.1.2.2.2.1
  unfold g_X3_mayName g_X3_mayName_0 g_X3_mayName_41
  simp only [zl0, zl1, zl2]
  by_cases c0 : r < 0
  · rw [if_pos (by rw [qz_lt (by omega) (by omega) (by omega) (by omega)]; exact c0), qp_F (fun z => by have := z.1; omega)]
  have gk := G.2.2.2.1 r (by omega) (by omega)
  rw [if_neg (by rw [qz_lt (by omega) (by omega) (by omega) (by omega)]; exact c0), gf_cs, h78, if_neg (by rw [qz_le (by omega) (by omega) (by omega) (by omega)]; omega), gpc_78_6, hd, gpb_6 hb, gab_8 hb (by omega) (by omega), bd_some]
  by_cases c1 : 2 ≤ a (b + 8) r
  · rw [if_pos (by rw [qz_le (by omega) (by omega) (by omega) (by omega)]; exact c1), qp_T ⟨by omega, Or.inl c1⟩]
  have gu := G.2.2.2.2.2.2.2.2.1 k h0 h1 r (by omega) r1 (by omega)
  rw [if_neg (by rw [qz_le (by omega) (by omega) (by omega) (by omega)]; exact c1), gpb_8 hb, gab_10 hb (by omega) (by omega), bd_some]
  by_cases c2 : a (b + 10) r ≤ k
  · rw [if_pos (by rw [qz_le (by omega) (by omega) (by omega) (by omega)]; exact c2), qp_F (fun z => by have := z.2; omega)]
  · rw [if_neg (by rw [qz_le (by omega) (by omega) (by omega) (by omega)]; exact c2), qp_T ⟨by omega, Or.inr (by omega)⟩]
theorem m_mayName (hq : 0 ≤ q ∧ q ≤ 1) (h4 : F 4 = q) (G : BK b q S K P len f a ni j A J) (h0 : 0 ≤ k) (h1 : k < K) (r0 : -1 ≤ r) (r1 : r < k) : g_X11_mayName n 0 (qz k) (qz r) (ms F A J) = some (qp (may k (a (b + 8)) (a (b + 10)) r)) := by
  have hK : K ≤ 200 := G.2.1.2.2.2.1
  unfold g_X11_mayName g_X11_mayName_0 g_X11_mayName_31
  simp only [zl0, zl1, zl2]
  by_cases c0 : r < 0
  · rw [if_pos (by rw [qz_lt (by omega) (by omega) (by omega) (by omega)]; exact c0), qp_F (fun z => by have := z.1; omega)]
  have gk := G.2.2.2.1 r (by omega) (by omega)
  rw [if_neg (by rw [qz_lt (by omega) (by omega) (by omega) (by omega)]; exact c0), m_at h4, bd_some, gp_10, ga_7 (by omega) (by omega), bd_some]
  by_cases c1 : 2 ≤ A 7 (200 * q + r)
  · rw [if_pos (by rw [qz_le (by omega) (by omega) (by omega) (by omega)]; exact c1), qp_T ⟨by omega, Or.inl (by omega)⟩]
  have gu := G.2.2.2.2.2.2.2.2.1 k h0 h1 r (by omega) r1 (by omega)
  rw [if_neg (by rw [qz_le (by omega) (by omega) (by omega) (by omega)]; exact c1), gp_22, m_isBit (Or.inl rfl) h4 hq h0 (by omega) (by omega) (by omega), bd_some]
  by_cases c2 : bt (J 19) (4 * (200 * q + k)) r
  · rw [qp_T c2, if_neg n10, qp_T ⟨by omega, Or.inr (gu.1.mp c2)⟩]
  · rw [qp_F c2, if_pos rfl, qp_F]
    rintro ⟨_, z | z⟩
    · omega
    · exact c2 (gu.1.mpr z)
theorem c_addStep {N : Int} (h1 : f 78 1 = N) (n0 : 0 ≤ N) (n1 : N < 1000) : g_X3_addStep n 78 (qz r) (cs f d a ni j) = some (cs (u2 f 78 1 (N + 1)) d (v2 (v2 a 79 N r) 80 N 0) ni j) := by
  unfold g_X3_addStep g_X3_addStep_0
  simp only [zl0, zl1]
  rw [gpc_78_3, gf_cs, h1, uac_79 n0 n1, bd_some, gpc_78_4, gf_cs, h1, uac_80 n0 n1 (by omega) (by omega), bd_some, gf_cs, h1, qz_add, wf_cs, bd_some]
/-- the r that token i names -/
def nmr (q k : Int) (A13 nm : Int → Int) (i : Int) : Int := nm (A13 (200 * q + k) + i)
theorem nmr_r (G : BK b q S K P len f a ni j A J) (h0 : 0 ≤ k) (h1 : k < K) (i0 : 0 ≤ i) (i1 : i < A 14 (200 * q + k)) : -1 ≤ nmr q k (A 13) (a (b + 17 + 1)) i ∧ nmr q k (A 13) (a (b + 17 + 1)) i < k := by
  obtain ⟨t1, t2, t3, t4, t5, t6, t7, t8, t9⟩ := bk_t G h0 h1
  obtain ⟨g1, g2, g3, g4⟩ := t9 i i0 i1
  unfold nmr
  rcases g3 with ⟨z, _⟩ | ⟨z, z2, _⟩ <;> omega
theorem c_nmr (hb : bks b) (G : BK b q S K P len f a ni j A J) (h0 : 0 ≤ k) (h1 : k < K) (i0 : 0 ≤ i) (i1 : i < A 14 (200 * q + k)) : g_X5_get n (b + 17) (qz k) (qz i) (cs f d a ni j) = some (qz (nmr q k (A 13) (a (b + 17 + 1)) i)) := by
  obtain ⟨t1, t2, t3, t4, t5, t6, t7, t8, t9⟩ := bk_t G h0 h1
  have grw := G.2.2.2.2.2.2.2.2.2.2.2.2.2
  rw [c_get (rws_b17 hb) grw.2.2.1 h0 (by rw [grw.2.2.2.2.2.2.2.2.1]; exact h1) i0 (by omega), t3]
  rfl
theorem c_tsz (hb : bks b) (G : BK b q S K P len f a ni j A J) (h0 : 0 ≤ k) (h1 : k < K) : g_X5_size n (b + 14) (qz k) (cs f d a ni j) = some (qz (A 14 (200 * q + k))) := by
  obtain ⟨t1, t2, t3, t4, t5, t6, t7, t8, t9⟩ := bk_t G h0 h1
  have grw := G.2.2.2.2.2.2.2.2.2.2.2.2.2
  rw [c_size (rws_b14 hb) grw.2.1 h0 (by rw [grw.2.2.2.2.2.2.2.1]; exact h1), t1, t2, show A 13 (200 * q + k) + A 14 (200 * q + k) - A 13 (200 * q + k) = A 14 (200 * q + k) by omega]
/-- what decoding changes in the class -/
def DC (f : Nat → Nat → Int) (a : Nat → Int → Int) (f2 : Nat → Nat → Int) (a2 : Nat → Int → Int) : Prop := (∀ i, i ≠ 78 → f2 i = f i) ∧ f2 78 0 = f 78 0 ∧ ∀ i, ¬(79 ≤ i ∧ i ≤ 82) → a2 i = a i
/-- what decoding changes in the reference -/
def DM (F : Nat → Int) (A : Nat → Int → Int) (F2 : Nat → Int) (A2 : Nat → Int → Int) : Prop := (∀ i, ¬(45 ≤ i ∧ i ≤ 55) → F2 i = F i) ∧ ∀ i, ¬(32 ≤ i ∧ i ≤ 36) → A2 i = A i
theorem dc_0 : DC f a f a := ⟨fun _ _ => rfl, rfl, fun _ _ => rfl⟩
theorem dm_0 : DM F A F A := ⟨fun _ _ => rfl, fun _ _ => rfl⟩
theorem dc_bk {f2 : Nat → Nat → Int} {a2 : Nat → Int → Int} {F2 : Nat → Int} {A2 : Nat → Int → Int} (hb : bks b) (G : BK b q S K P len f a ni j A J) (h : DC f a f2 a2) (h2 : DM F A F2 A2) : BK b q S K P len f2 a2 ni j A2 J := by
  have hbb : b = 1 ∨ b = 33 := hb
  exact bk_eq G (fun i i1 i2 => h.1 i (by omega)) (fun i i1 i2 => h.2.2 i (by omega)) (fun _ _ _ => rfl) rfl (fun i i1 i2 => h2.2 i (by omega)) ⟨rfl, rfl⟩
theorem c_labels (hn : 100000 ≤ n) (hb : bks b) (hd : d 6 = b) (h78 : f 78 0 = k) (hs : f 78 1 = 0) (G : BK b q S K P len f a ni j A J) (h0 : 0 ≤ k) (h1 : k < K) : ∃ f2 a2, DC f a f2 a2 ∧ ((∃ t, 0 ≤ t ∧ t < A 14 (200 * q + k) ∧ ¬may k (a (b + 8)) (a (b + 10)) (nmr q k (A 13) (a (b + 17 + 1)) t) ∧ (∀ y, 0 ≤ y → y < t → may k (a (b + 8)) (a (b + 10)) (nmr q k (A 13) (a (b + 17 + 1)) y)) ∧ g_X3_decodeLabels n 78 (cs f d a ni j) = some (qz (-2), cs f2 d a2 ni j) ∧ f2 78 2 = t) ∨ ((∀ y, 0 ≤ y → y < A 14 (200 * q + k) → may k (a (b + 8)) (a (b + 10)) (nmr q k (A 13) (a (b + 17 + 1)) y)) ∧ g_X3_decodeLabels n 78 (cs f d a ni j) = some (qz 0, cs f2 d a2 ni j) ∧ f2 78 1 = A 14 (200 * q + k) ∧ ∀ y, 0 ≤ y → y < A 14 (200 * q + k) → a2 79 y = nmr q k (A 13) (a (b + 17 + 1)) y ∧ a2 80 y = 0)) := by
  have hbb : b = 1 ∨ b = 33 := hb
  obtain ⟨t1, t2, t3, t4, t5, t6, t7, t8, t9⟩ := bk_t G h0 h1
  have lp := lp_ix (b := gL_X3_decodeLabels_17 n 78 (qz (A 14 (200 * q + k)))) (fun t c => ∃ f2 a2, c = (qz t, cs f2 d a2 ni j) ∧ DC f a f2 a2 ∧ f2 78 1 = t ∧ (∀ y, 0 ≤ y → y < t → may k (a (b + 8)) (a (b + 10)) (nmr q k (A 13) (a (b + 17 + 1)) y)) ∧ ∀ y, 0 ≤ y → y < t → a2 79 y = nmr q k (A 13) (a (b + 17 + 1)) y ∧ a2 80 y = 0) (Q := fun r => ∃ f2 a2, DC f a f2 a2 ∧ ((∃ t, r = .inl (qz t, cs f2 d a2 ni j) ∧ 0 ≤ t ∧ t < A 14 (200 * q + k) ∧ ¬may k (a (b + 8)) (a (b + 10)) (nmr q k (A 13) (a (b + 17 + 1)) t) ∧ ∀ y, 0 ≤ y → y < t → may k (a (b + 8)) (a (b + 10)) (nmr q k (A 13) (a (b + 17 + 1)) y)) ∨ (r = .inr (qz 0, cs f2 d a2 ni j) ∧ (∀ y, 0 ≤ y → y < A 14 (200 * q + k) → may k (a (b + 8)) (a (b + 10)) (nmr q k (A 13) (a (b + 17 + 1)) y)) ∧ f2 78 1 = A 14 (200 * q + k) ∧ ∀ y, 0 ≤ y → y < A 14 (200 * q + k) → a2 79 y = nmr q k (A 13) (a (b + 17 + 1)) y ∧ a2 80 y = 0))) (A 14 (200 * q + k)) (n := n) (i0 := 0) t6 (by omega) (c0 := (qz 0, cs f d a ni j)) ⟨f, a, rfl, dc_0, hs, fun y y0 y1 => by omega, fun y y0 y1 => by omega⟩ ?_ ?_
  · obtain ⟨r, er, f2, a2, hD, h⟩ := lp
    have e0 : g_X3_decodeLabels n 78 (cs f d a ni j) = (some r).bind fun x4 => Sum.elim (fun y5 => (g_X3_fail n 78 (-2 : Int32) y5.1 y5.2).bind fun x7 => some (x7.1, x7.2)) (fun y6 => some (y6.1, y6.2)) x4 := by
      unfold g_X3_decodeLabels g_X3_decodeLabels_0
      rw [gpc_78_6, hd, gpb_10 hb, gf_cs, h78, c_tsz hb G h0 h1, bd_some, zl0, er]
    rw [bd_some] at e0
    rcases h with ⟨t, rfl, h1', h2', h3', h4'⟩ | ⟨rfl, h1', h2', h3'⟩
    · refine ⟨u2 f2 78 2 t, a2, ⟨fun i hi => by rw [u2_b hi]; exact hD.1 i hi, by rw [u2_c (by decide)]; exact hD.2.1, hD.2.2⟩, Or.inl ⟨t, h1', h2', h3', h4', ?_, by rw [u2_a]⟩⟩
      rw [e0, Sum.elim_inl]
      unfold g_X3_fail g_X3_fail_0
      rw [wf_cs, bd_some, bd_some]
      rfl
    · exact ⟨f2, a2, hD, Or.inr ⟨h1', by rw [e0, Sum.elim_inr], h2', h3'⟩⟩
  · rintro t c u0 u1' ⟨f2, a2, rfl, hD, hN, hm, hv⟩
    have G2 := dc_bk (F := fun _ => (0 : Int)) (A := A) hb G hD dm_0
    have e17 : a2 (b + 17 + 1) = a (b + 17 + 1) := hD.2.2 _ (by omega)
    have e8 : a2 (b + 8) = a (b + 8) := hD.2.2 _ (by omega)
    have e10 : a2 (b + 10) = a (b + 10) := hD.2.2 _ (by omega)
    have k78 : f2 78 0 = k := by rw [hD.2.1]; exact h78
    have eg := c_nmr (n := n) (d := d) hb G2 h0 h1 u0 u1'
    have hr := nmr_r G h0 h1 u0 u1'
    rw [e17] at eg
    have em := c_mayName (n := n) (r := nmr q k (A 13) (a (b + 17 + 1)) t) hb hd k78 G2 h0 h1 hr.1 hr.2
    rw [e8, e10] at em
    unfold gL_X3_decodeLabels_17 g_X3_decodeLabels_17
    simp only [zl0, zl1]
    rw [if_neg (by rw [qz_le (by omega) (by omega) (by omega) (by omega)]; omega), gpc_78_6, hd, gpb_11 hb, gf_cs, k78, eg, bd_some, em, bd_some]
    by_cases c : may k (a (b + 8)) (a (b + 10)) (nmr q k (A 13) (a (b + 17 + 1)) t)
    · rw [qp_T c, if_neg n10, c_addStep hN u0 (by omega), bd_some, qz_add]
      refine Or.inl ⟨_, rfl, _, _, rfl, ⟨fun i hi => by rw [u2_b hi]; exact hD.1 i hi, by rw [u2_c (by decide)]; exact hD.2.1, fun i hi => by rw [v2_o (by omega), v2_o (by omega)]; exact hD.2.2 i hi⟩, by rw [u2_a], fun y y0 y1 => ?_, fun y y0 y1 => ?_⟩
      · by_cases e : y = t
        · rw [e]; exact c
        · exact hm y y0 (by omega)
      · rw [v2_o (by decide), v2_s, v2_s, v2_o (by decide)]
        by_cases e : y = t
        · rw [e, v1_s, v1_s]; exact ⟨rfl, rfl⟩
        · rw [v1_o e, v1_o e]; exact hv y y0 (by omega)
    · rw [qp_F c, if_pos rfl]
      exact Or.inr ⟨_, rfl, f2, a2, hD, Or.inl ⟨t, rfl, u0, u1', c, hm⟩⟩
  · rintro c ⟨f2, a2, rfl, hD, hN, hm, hv⟩
    refine ⟨_, ?_, f2, a2, hD, Or.inr ⟨rfl, hm, hN, hv⟩⟩
    unfold gL_X3_decodeLabels_17 g_X3_decodeLabels_17
    rw [if_pos (by rw [qz_le (by omega) (by omega) (by omega) (by omega)]; omega)]
    rfl
theorem m_labels (hn : 100000 ≤ n) (hq : 0 ≤ q ∧ q ≤ 1) (h4 : F 4 = q) (hs : F 50 = 0) (G : BK b q S K P len f a ni j A J) (hR : Rbk b q len a A) (h0 : 0 ≤ k) (h1 : k < K) : ∃ F2 A2 r, hp_lp (gL_X11_readProof_91 n 0 (qz k) (qz (A 14 (200 * q + k)))) n (qz 0, ms F A J) = some r ∧ DM F A F2 A2 ∧ A2 36 = A 36 ∧ F2 53 = F 53 ∧ ((∃ t, r = .inl (qz t, ms F2 A2 J) ∧ 0 ≤ t ∧ t < A 14 (200 * q + k) ∧ ¬may k (a (b + 8)) (a (b + 10)) (nmr q k (A 13) (a (b + 17 + 1)) t) ∧ ∀ y, 0 ≤ y → y < t → may k (a (b + 8)) (a (b + 10)) (nmr q k (A 13) (a (b + 17 + 1)) y)) ∨ (r = .inr (qz 1, ms F2 A2 J) ∧ (∀ y, 0 ≤ y → y < A 14 (200 * q + k) → may k (a (b + 8)) (a (b + 10)) (nmr q k (A 13) (a (b + 17 + 1)) y)) ∧ F2 50 = A 14 (200 * q + k) ∧ ∀ y, 0 ≤ y → y < A 14 (200 * q + k) → A2 34 y = nmr q k (A 13) (a (b + 17 + 1)) y)) := by
  obtain ⟨t1, t2, t3, t4, t5, t6, t7, t8, t9⟩ := bk_t G h0 h1
  have lp := lp_ix (b := gL_X11_readProof_91 n 0 (qz k) (qz (A 14 (200 * q + k)))) (fun t c => ∃ F2 A2, c = (qz t, ms F2 A2 J) ∧ DM F A F2 A2 ∧ A2 36 = A 36 ∧ F2 53 = F 53 ∧ F2 50 = t ∧ (∀ y, 0 ≤ y → y < t → may k (a (b + 8)) (a (b + 10)) (nmr q k (A 13) (a (b + 17 + 1)) y)) ∧ ∀ y, 0 ≤ y → y < t → A2 34 y = nmr q k (A 13) (a (b + 17 + 1)) y) (Q := fun r => ∃ F2 A2, DM F A F2 A2 ∧ A2 36 = A 36 ∧ F2 53 = F 53 ∧ ((∃ t, r = .inl (qz t, ms F2 A2 J) ∧ 0 ≤ t ∧ t < A 14 (200 * q + k) ∧ ¬may k (a (b + 8)) (a (b + 10)) (nmr q k (A 13) (a (b + 17 + 1)) t) ∧ ∀ y, 0 ≤ y → y < t → may k (a (b + 8)) (a (b + 10)) (nmr q k (A 13) (a (b + 17 + 1)) y)) ∨ (r = .inr (qz 1, ms F2 A2 J) ∧ (∀ y, 0 ≤ y → y < A 14 (200 * q + k) → may k (a (b + 8)) (a (b + 10)) (nmr q k (A 13) (a (b + 17 + 1)) y)) ∧ F2 50 = A 14 (200 * q + k) ∧ ∀ y, 0 ≤ y → y < A 14 (200 * q + k) → A2 34 y = nmr q k (A 13) (a (b + 17 + 1)) y))) (A 14 (200 * q + k)) (n := n) (i0 := 0) t6 (by omega) (c0 := (qz 0, ms F A J)) ⟨F, A, rfl, dm_0, rfl, rfl, hs, fun y y0 y1 => by omega, fun y y0 y1 => by omega⟩ ?_ ?_
  · obtain ⟨r, er, F2, A2, h⟩ := lp
    exact ⟨F2, A2, r, er, h⟩
  · rintro t c u0 u1' ⟨F2, A2, rfl, hD, h36, h53, hN, hm, hv⟩
    have G2 : BK b q S K P len f a ni j A2 J := bk_eq G (fun _ _ _ => rfl) (fun _ _ _ => rfl) (fun _ _ _ => rfl) rfl (fun i i1 i2 => hD.2 i (by omega)) ⟨rfl, rfl⟩
    have hR2 : Rbk b q len a A2 := by
      unfold Rbk
      rw [hD.2 2 (by omega)]
      exact hR
    have F24 : F2 4 = q := by rw [hD.1 4 (by omega)]; exact h4
    have e14 : A2 14 = A 14 := hD.2 14 (by omega)
    have e13 : A2 13 = A 13 := hD.2 13 (by omega)
    have en := m_namedBy (F := F2) (J := J) (i := t) hn hq F24 G2 hR2 h0 h1 u0 (by rw [e14]; exact u1')
    rw [e13] at en
    have hr := nmr_r G h0 h1 u0 u1'
    have em := m_mayName (n := n) (F := F2) (r := nmr q k (A 13) (a (b + 17 + 1)) t) hq F24 G2 h0 h1 hr.1 hr.2
    unfold gL_X11_readProof_91 g_X11_readProof_91
    simp only [zl0, zl1]
    rw [if_neg (by rw [qz_le (by omega) (by omega) (by omega) (by omega)]; omega), en, bd_some, show a (b + 17 + 1) (A 13 (200 * q + k) + t) = nmr q k (A 13) (a (b + 17 + 1)) t from rfl, em, bd_some]
    by_cases c : may k (a (b + 8)) (a (b + 10)) (nmr q k (A 13) (a (b + 17 + 1)) t)
    · rw [qp_T c, if_neg n10, gp_49, gf_ms, hN, ua_34 u0 (by omega), bd_some, gf_ms, hN, qz_add, wf_ms, bd_some]
      refine Or.inl ⟨_, rfl, _, _, rfl, ⟨fun i hi => by rw [u1_o (by omega)]; exact hD.1 i hi, fun i hi => by rw [v2_o (by omega)]; exact hD.2 i hi⟩, by rw [v2_o (by decide)]; exact h36, by rw [u1_o (by decide)]; exact h53, by rw [u1_s], fun y y0 y1 => ?_, fun y y0 y1 => ?_⟩
      · by_cases e : y = t
        · rw [e]; exact c
        · exact hm y y0 (by omega)
      · rw [v2_s]
        by_cases e : y = t
        · rw [e, v1_s]
        · rw [v1_o e]; exact hv y y0 (by omega)
    · rw [qp_F c, if_pos rfl]
      exact Or.inr ⟨_, rfl, F2, A2, hD, h36, h53, Or.inl ⟨t, rfl, u0, u1', c, hm⟩⟩
  · rintro c ⟨F2, A2, rfl, hD, h36, h53, hN, hm, hv⟩
    refine ⟨_, ?_, F2, A2, hD, h36, h53, Or.inr ⟨rfl, hm, hN, hv⟩⟩
    unfold gL_X11_readProof_91 g_X11_readProof_91
    rw [if_pos (by rw [qz_le (by omega) (by omega) (by omega) (by omega)]; omega)]
    rfl
end LAB
