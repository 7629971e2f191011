/-! The letters of a compressed proof: to the end -/
/-- what becomes of the class's letters -/
def kcl (n : Nat) (x : (Int32 × Int32 × st_T) ⊕ (Int32 × st_T)) : Option (Int32 × st_T) :=
  Sum.elim (fun y11 =>
    (g_X3_fail n 78 y11.2.1 y11.1 y11.2.2).bind fun x13 =>
    some (x13.1, x13.2)) (fun y12 =>
    if (gF y12.2 78 11) = 0 then
      if y12.1 = 0 then
        g_X3_decodeLetters_148 n 78 y12.1 y12.2
      else
        some ((0 : Int32), y12.2)
    else
      g_X3_decodeLetters_148 n 78 y12.1 y12.2) x
section LT4
variable {b n : Nat} {q S K P len k kc le : Int} {gl : Int → Int} {f : Nat → Nat → Int} {d : Nat → Nat} {a : Nat → Int → Int} {ni : Nat → Nat} {j : Nat → Int → Int64} {F : Nat → Int} {A : Nat → Int → Int} {J : Nat → Int → Int64}
theorem c_fail {z x : Int} : g_X3_fail n 78 (qz z) (qz x) (cs f d a ni j) = some (qz z, cs (u2 f 78 2 x) d a ni j) := by
  unfold g_X3_fail g_X3_fail_0
  rw [wf_cs, bd_some]
theorem c_tget {i : Int} (hb : bks b) (G : BK b q S K P len f a ni j A J) (h0 : 0 ≤ k) (h1 : k < K) (i0 : 0 ≤ i) (i1 : i < A 14 (200 * q + k)) : g_X5_get n (b + 14) (qz k) (qz i) (cs f d a ni j) = some (qz (tkp q k (A 13) (A 17) i)) := by
  obtain ⟨t1, t2, t3, t4, t5, t6, t7, t8, t9⟩ := bk_t G h0 h1
  have grw := G.2.2.2.2.2.2.2.2.2.2.2.2.2
  rw [c_get (rws_b14 hb) grw.2.1 h0 (by rw [grw.2.2.2.2.2.2.2.1]; exact h1) i0 (by omega), t1, (t9 i i0 i1).1]
  rfl
theorem dcf {x : Int} (h : DC f a f a) : DC f a (u2 f 78 2 x) a := ⟨fun i hi => by rw [u2_b hi], by rw [u2_c (by decide)], fun _ _ => rfl⟩
theorem let_core (hn : 100000 ≤ n) (hb : bks b) (hd : d 6 = b) (h78 : f 78 0 = k) (G : BK b q S K P len f a ni j A J) (hR : Rbk b q len a A) (h0 : 0 ≤ k) (h1 : k < K) (hle : 0 ≤ le) (hlt : le < A 14 (200 * q + k)) (hF : F 48 = lof q k le (A 13) (A 18) (A 14 (200 * q + k) - le - 1).toNat) (hF0 : 0 ≤ F 48) (hF2 : F 48 ≤ 8192) (hB : ltr q k le (A 2) (A 13) (A 17) (A 18) (A 33) (A 14 (200 * q + k) - le - 1).toNat) (H : LTS k kc gl f a 0 0 0 F A) : ∃ (z : Int) (f2 : Nat → Nat → Int) (a2 : Nat → Int → Int) (F2 : Nat → Int) (A2 : Nat → Int → Int), (hp_lp (gL_X3_decodeLetters_47 n 78 (qz (A 14 (200 * q + k)))) n (qz 0, qz (le + 1), cs f d a ni j)).bind (kcl n) = some (qz z, cs f2 d a2 ni j) ∧ (hp_lp (gL_X11_readLetters_15 n 0) n (qz 0, qz 0, qz 0, qz 0, ms F A J)).bind (klt n) = some (qp (z = 0), ms F2 A2 J) ∧ DC f a f2 a2 ∧ DM F A F2 A2 ∧ (z = 0 ∨ z = -3 ∨ z = -10) ∧ (z ≠ 0 → F2 54 = z ∧ F2 55 = f2 78 2) ∧ (z = 0 → f2 78 1 = F2 50 ∧ 0 ≤ F2 50 ∧ F2 50 ≤ 1000 ∧ DP k (F2 50) (a2 79) (a2 80) (A2 34) (A2 35) (A2 36) ∧ mkc (a2 80) (F2 50) ≤ 200) := by
  have hbb : b = 1 ∨ b = 33 := hb
  obtain ⟨t1, t2, t3, t4, t5, t6, t7, t8, t9⟩ := bk_t G h0 h1
  obtain ⟨g1, g2, g3⟩ := bk_tl G h0 h1
  have hl8 : len ≤ 8192 := G.1.2.2.2.2.2.2.2.1
  have hI0 : IV n k kc gl f a F A J 0 f a := ⟨dc_0, 0, 0, 0, F, A, dm_0, rfl, rfl, H, rfl⟩
  have lp := lp_ix (b := gL_X3_decodeLetters_47 n 78 (qz (A 14 (200 * q + k)))) (fun i c => ∃ f3 a3, c = (qz (lof q k le (A 13) (A 18) (i - le - 1).toNat), qz i, cs f3 d a3 ni j) ∧ IV n k kc gl f a F A J (lof q k le (A 13) (A 18) (i - le - 1).toNat) f3 a3) (Q := fun r => (∃ f3 a3, r = .inr (qz (F 48), cs f3 d a3 ni j) ∧ IV n k kc gl f a F A J (F 48) f3 a3) ∨ ∃ (x z : Int) (f3 : Nat → Nat → Int) (a3 : Nat → Int → Int), r = .inl (qz x, qz z, cs f3 d a3 ni j) ∧ z ≠ 0 ∧ DC f a f3 a3 ∧ FT n F A J z x) (A 14 (200 * q + k)) (n := n) (i0 := le + 1) (by omega) (by omega) (c0 := (qz 0, qz (le + 1), cs f d a ni j)) ⟨f, a, by rw [show (le + 1 - le - 1).toNat = 0 by omega]; rfl, by rw [show (le + 1 - le - 1).toNat = 0 by omega]; exact hI0⟩ ?_ ?_
  · obtain ⟨r, er, h⟩ := lp
    rw [er, bd_some]
    rcases h with ⟨f3, a3, rfl, hI⟩ | ⟨x, z, f3, a3, rfl, z0, hD3, hFT⟩
    · obtain ⟨hD3, p, w, h, F3, A3, hM3, g48, g33, hL, hRA⟩ := hI
      have hL' := hL
      obtain ⟨_, ⟨n1, n2, n3, n4, n5, n6⟩, hp, ⟨w1, w2, w3, w4, w5⟩, hDP, h36⟩ := hL'
      have en : n - (F 48).toNat = n - (F 48).toNat - 1 + 1 := by omega
      have eM : (hp_lp (gL_X11_readLetters_15 n 0) n (qz 0, qz 0, qz 0, qz 0, ms F A J)).bind (klt n) = klt n (.inr (.inr (.inr (.inr (qz w, ms F3 A3 J))))) := by
        rw [hRA, en, hp_lp_x (x := .inr (.inr (.inr (.inr (qz w, ms F3 A3 J))))) ?_, bd_some]
        unfold gL_X11_readLetters_15 g_X11_readLetters_15
        rw [gf_ms, g48, if_pos (by rw [qz_le (by omega) (by omega) (by omega) (by omega)]; omega)]
      have eK : klt n (.inr (.inr (.inr (.inr (qz w, ms F3 A3 J))))) = if w = 0 ∧ 0 < F 48 then some (qz 1, ms F3 A3 J) else some (qz 0, ms (u1 (u1 F3 54 (-3)) 55 (F 48)) A3 J) := by
        unfold klt
        simp only [Sum.elim_inr]
        unfold g_X11_readLetters_314 g_X11_readLetters_327
        simp only [zl0, zl1, zlm3]
        rw [gf_ms, g48, m_fails, bd_some]
        by_cases y : w = 0
        · rw [if_pos (by rw [y])]
          by_cases y2 : 0 < F 48
          · rw [if_pos (by rw [qz_lt (by omega) (by omega) (by omega) (by omega)]; exact y2), if_pos ⟨y, y2⟩]
          · rw [if_neg (by rw [qz_lt (by omega) (by omega) (by omega) (by omega)]; exact y2), if_neg (show ¬(w = 0 ∧ 0 < F 48) from fun z => y2 z.2), if_pos rfl]
        · rw [if_neg (by rw [qz_inj (by omega) (by omega) (by omega) (by omega)]; exact y), if_neg (show ¬(w = 0 ∧ 0 < F 48) from fun z => y z.1), if_pos rfl]
      have eC : kcl n (.inr (qz (F 48), cs f3 d a3 ni j)) = if w = 0 ∧ 0 < F 48 then some (qz 0, cs f3 d a3 ni j) else some (qz (-3), cs (u2 f3 78 2 (F 48)) d a3 ni j) := by
        unfold kcl
        simp only [Sum.elim_inr]
        unfold g_X3_decodeLetters_148
        simp only [zl0, zlm3]
        rw [gf_cs, w1, c_fail, bd_some]
        by_cases y : w = 0
        · rw [if_pos (by rw [y])]
          by_cases y2 : 0 < F 48
          · rw [if_neg (by rw [qz_inj (by omega) (by omega) (by omega) (by omega)]; omega), if_pos ⟨y, y2⟩]
          · rw [if_pos (by rw [show F 48 = 0 by omega]), if_neg (fun z => y2 z.2)]
        · rw [if_neg (by rw [qz_inj (by omega) (by omega) (by omega) (by omega)]; exact y), if_neg (fun z => y z.1)]
      by_cases c : w = 0 ∧ 0 < F 48
      · exact ⟨0, f3, a3, F3, A3, by rw [eC, if_pos c], by rw [eM, eK, if_pos c, qp_T rfl], hD3, hM3, Or.inl rfl, fun z => absurd rfl z, fun _ => ⟨n1, n2, n3, hDP, by rw [← n5]; exact n6⟩⟩
      · exact ⟨-3, u2 f3 78 2 (F 48), a3, u1 (u1 F3 54 (-3)) 55 (F 48), A3, by rw [eC, if_neg c], by rw [eM, eK, if_neg c, qp_F (by omega)], ⟨fun i hi => by rw [u2_b hi]; exact hD3.1 i hi, by rw [u2_c (by decide)]; exact hD3.2.1, hD3.2.2⟩, ⟨fun i hi => by rw [u1_o (by omega), u1_o (by omega)]; exact hM3.1 i hi, hM3.2⟩, by omega, fun _ => ⟨by rw [u1_o (by decide), u1_s], by rw [u1_s, u2_a]⟩, fun z => by omega⟩
    · obtain ⟨zr, F3, A3, hM3, g54, g55, eM⟩ := hFT
      refine ⟨z, u2 f3 78 2 x, a3, F3, A3, ?_, by rw [eM, qp_F z0], ⟨fun i hi => by rw [u2_b hi]; exact hD3.1 i hi, by rw [u2_c (by decide)]; exact hD3.2.1, hD3.2.2⟩, hM3, Or.inr zr, fun _ => ⟨g54, by rw [u2_a]; exact g55⟩, fun y => absurd y z0⟩
      unfold kcl
      simp only [Sum.elim_inl]
      rw [c_fail, bd_some]
  · rintro i c i0 i1 ⟨f3, a3, rfl, hI⟩
    have hD3 := hI.1
    have G3 := dc_bk (F := F) (A := A) hb G hD3 dm_0
    have k78 : f3 78 0 = k := by rw [hD3.2.1]; exact h78
    have z1 := g1 i (by omega) i1
    obtain ⟨r, er, hr⟩ := iv_tok (v2 := A 14 (200 * q + k)) (v3 := i) hn hb hd G hR h0 h1 hle hF hF2 hB (by omega) i1 rfl hI
    have em : (i + 1 - le - 1).toNat = (i - le - 1).toNat + 1 := by omega
    have ei : le + 1 + (((i - le - 1).toNat : Nat) : Int) = i := by omega
    unfold gL_X3_decodeLetters_47 g_X3_decodeLetters_47 g_X3_decodeLetters_131
    simp only [zl1]
    rw [if_neg (by rw [qz_le (by omega) (by omega) (by omega) (by omega)]; omega), gpc_78_6, hd, gpb_10 hb, gf_cs, k78, c_tget hb G3 h0 h1 (by omega) i1, bd_some, er, bd_some]
    rcases hr with ⟨f4, a4, rfl, hI4⟩ | ⟨x, z, f4, a4, rfl, z0, hD4, hFT⟩
    · rw [Sum.elim_inr, qz_add]
      refine Or.inl ⟨_, rfl, f4, a4, ?_, ?_⟩
      · rw [em, lof_s, ei]
      · rw [em, lof_s, ei]
        exact hI4
    · rw [Sum.elim_inl]
      exact Or.inr ⟨_, rfl, Or.inr ⟨x, z, f4, a4, rfl, z0, hD4, hFT⟩⟩
  · rintro c ⟨f3, a3, rfl, hI⟩
    rw [← hF] at hI ⊢
    refine ⟨_, ?_, Or.inl ⟨f3, a3, rfl, hI⟩⟩
    unfold gL_X3_decodeLetters_47 g_X3_decodeLetters_47
    rw [if_pos (by rw [qz_le (by omega) (by omega) (by omega) (by omega)]; omega)]
/-- the letters, from where the list was read -/
theorem dec_let (hn : 100000 ≤ n) (hb : bks b) (hd : d 6 = b) (h78 : f 78 0 = k) (hq : 0 ≤ q ∧ q ≤ 1) (h4 : F 4 = q) (G : BK b q S K P len f a ni j A J) (hR : Rbk b q len a A) (h0 : 0 ≤ k) (h1 : k < K) (hk : a (b + 8) k = 3) (hc : a (b + 29) k = 1) (hlt : a (b + 30) k < A 14 (200 * q + k)) (H : LTS k kc gl (u2 (u2 (u2 f 78 10 0) 78 11 0) 78 12 0) a 0 0 0 F A) : ∃ (z : Int) (f2 : Nat → Nat → Int) (a2 : Nat → Int → Int) (F2 : Nat → Int) (A2 : Nat → Int → Int), g_X3_decodeLetters n 78 (cs f d a ni j) = some (qz z, cs f2 d a2 ni j) ∧ g_X11_readLetters n 0 (qz k) (ms F A J) = some (qp (z = 0), ms F2 A2 J) ∧ DC f a f2 a2 ∧ DM F A F2 A2 ∧ (z = 0 ∨ z = -3 ∨ z = -10) ∧ (z ≠ 0 → F2 54 = z ∧ F2 55 = f2 78 2) ∧ (z = 0 → f2 78 1 = F2 50 ∧ 0 ≤ F2 50 ∧ F2 50 ≤ 1000 ∧ DP k (F2 50) (a2 79) (a2 80) (A2 34) (A2 35) (A2 36) ∧ mkc (a2 80) (F2 50) ≤ 200) := by
  have hbb : b = 1 ∨ b = 33 := hb
  have hK : K ≤ 200 := G.2.1.2.2.2.1
  obtain ⟨l1, l2, l3⟩ := G.2.2.2.2.2.2.2.2.2.2.2.1 k h0 h1 hk
  obtain ⟨B, eB, hB, o0, o1⟩ := m_take (F := F) (J := J) hn hq h4 G hR h0 h1 hk hc rfl
  generalize hf' : u2 (u2 (u2 f 78 10 0) 78 11 0) 78 12 0 = f' at H
  have hDC : DC f a f' a := by
    rw [← hf']
    exact ⟨fun i hi => by rw [u2_b hi, u2_b hi, u2_b hi], by rw [u2_c (by decide), u2_c (by decide), u2_c (by decide)], fun _ _ => rfl⟩
  generalize hLC : lof q k (a (b + 30) k) (A 13) (A 18) (A 14 (200 * q + k) - a (b + 30) k - 1).toNat = LC at *
  have hDM : DM F A (u1 F 48 LC) (u1 A 33 B) := ⟨fun i hi => u1_o (by omega), fun i hi => u1_o (by omega)⟩
  have G1 := dc_bk hb G hDC hDM
  have hR1 : Rbk b q len a (u1 A 33 B) := by
    unfold Rbk
    rw [u1_o (by decide)]
    exact hR
  obtain ⟨z, f2, a2, F2, A2, e1, e2, d1, d2, r1, r2, r3⟩ := let_core (le := a (b + 30) k) (kc := kc) (gl := gl) (d := d) (F := u1 F 48 LC) (A := u1 A 33 B) hn hb hd (by rw [hDC.2.1]; exact h78) G1 hR1 h0 h1 l1 (by rw [u1_o (by decide)]; exact hlt) (by rw [u1_s, u1_o (by decide), u1_o (by decide), u1_o (by decide)]; exact hLC.symm) (by rw [u1_s]; exact o0) (by rw [u1_s]; exact o1) (by rw [u1_o (by decide), u1_o (by decide), u1_o (by decide), u1_o (by decide), u1_s, u1_o (by decide)]; exact hB) (lts_eq H (u1_o (by decide)) (u1_o (by decide)) (u1_o (by decide)) (u1_o (by decide)) (u1_o (by decide)) (u1_o (by decide)) (u1_o (by decide)))
  rw [u1_o (by decide)] at e1
  refine ⟨z, f2, a2, F2, A2, ?_, ?_, dc_t hDC d1, dm_t hDM d2, r1, r2, r3⟩
  · have k78 : f' 78 0 = k := by rw [hDC.2.1]; exact h78
    unfold g_X3_decodeLetters g_X3_decodeLetters_0
    simp only [zl0, zl1]
    rw [wf_cs, bd_some, wf_cs, bd_some, wf_cs, bd_some, hf', gpc_78_6, hd, gpb_10 hb, gf_cs, k78, c_tsz hb (dc_bk (F := F) (A := A) hb G hDC dm_0) h0 h1, bd_some, gpb_16 hb, gab_30 hb h0 (by omega), bd_some, qz_add]
    exact e1
  · unfold g_X11_readLetters g_X11_readLetters_0
    simp only [zl0]
    rw [eB, bd_some]
    exact e2
end LT4
