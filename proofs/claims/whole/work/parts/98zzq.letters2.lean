/-! The letters of a compressed proof: both -/
section LT3
variable {b n : Nat} {q S K P len k kc le : Int} {gl : Int → Int} {f : Nat → Nat → Int} {d : Nat → Nat} {a : Nat → Int → Int} {ni : Nat → Nat} {j : Nat → Int → Int64} {F : Nat → Int} {A : Nat → Int → Int} {J : Nat → Int → Int64}
theorem lts_eq {p w h : Int} {F2 : Nat → Int} {A2 : Nat → Int → Int} (H : LTS k kc gl f a p w h F A) (h46 : F2 46 = F 46) (h50 : F2 50 = F 50) (h53 : F2 53 = F 53) (h32 : A2 32 = A 32) (h34 : A2 34 = A 34) (h35 : A2 35 = A 35) (h36 : A2 36 = A 36) : LTS k kc gl f a p w h F2 A2 := by
  unfold LTS at *
  rw [h46, h50, h53, h32, h34, h35, h36]
  exact H
theorem dc_t {f1 f2 : Nat → Nat → Int} {a1 a2 : Nat → Int → Int} (h : DC f a f1 a1) (h2 : DC f1 a1 f2 a2) : DC f a f2 a2 := ⟨fun i hi => by rw [h2.1 i hi]; exact h.1 i hi, by rw [h2.2.1]; exact h.2.1, fun i hi => by rw [h2.2.2 i hi]; exact h.2.2 i hi⟩
theorem dm_t {F1 F2 : Nat → Int} {A1 A2 : Nat → Int → Int} (h : DM F A F1 A1) (h2 : DM F1 A1 F2 A2) : DM F A F2 A2 := ⟨fun i hi => by rw [h2.1 i hi]; exact h.1 i hi, fun i hi => by rw [h2.2 i hi]; exact h.2 i hi⟩
/-- between two letters: the class's state, and where the reference stands -/
def IV (n : Nat) (k kc : Int) (gl : Int → Int) (f : Nat → Nat → Int) (a : Nat → Int → Int) (F : Nat → Int) (A : Nat → Int → Int) (J : Nat → Int → Int64) (b : Int) (f2 : Nat → Nat → Int) (a2 : Nat → Int → Int) : Prop := DC f a f2 a2 ∧ ∃ (p w h : Int) (F2 : Nat → Int) (A2 : Nat → Int → Int), DM F A F2 A2 ∧ F2 48 = F 48 ∧ A2 33 = A 33 ∧ LTS k kc gl f2 a2 p w h F2 A2 ∧ hp_lp (gL_X11_readLetters_15 n 0) n (qz 0, qz 0, qz 0, qz 0, ms F A J) = hp_lp (gL_X11_readLetters_15 n 0) (n - b.toNat) (qz p, qz w, qz h, qz b, ms F2 A2 J)
/-- a wrong letter -/
def FT (n : Nat) (F : Nat → Int) (A : Nat → Int → Int) (J : Nat → Int → Int64) (z b : Int) : Prop := (z = -3 ∨ z = -10) ∧ ∃ (F3 : Nat → Int) (A3 : Nat → Int → Int), DM F A F3 A3 ∧ F3 54 = z ∧ F3 55 = b ∧ (hp_lp (gL_X11_readLetters_15 n 0) n (qz 0, qz 0, qz 0, qz 0, ms F A J)).bind (klt n) = some (qz 0, ms F3 A3 J)
theorem iv_step {c x : Int} {f2 : Nat → Nat → Int} {a2 : Nat → Int → Int} (hn : 100000 ≤ n) (H : IV n k kc gl f a F A J x f2 a2) (b0 : 0 ≤ x) (b1 : x < F 48) (b2 : F 48 ≤ 8192) (hc : A 33 x = c) (c0 : 0 ≤ c) (c1 : c < 128) : ∃ (z : Int) (f3 : Nat → Nat → Int) (a3 : Nat → Int → Int), g_X3_takeLetter n 78 (qz c) (cs f2 d a2 ni j) = some (qz z, cs f3 d a3 ni j) ∧ DC f a f3 a3 ∧ ((z = 0 ∧ IV n k kc gl f a F A J (x + 1) f3 a3) ∨ (z ≠ 0 ∧ FT n F A J z x)) := by
  obtain ⟨hD, p, w, h, F2, A2, hM, h48, h33, hL, hRA⟩ := H
  obtain ⟨z, f3, a3, e1, hD3, h3⟩ := let_step (n := n) (d := d) (ni := ni) (j := j) (J := J) hL b0 (by rw [h48]; exact b1) (by rw [h48]; exact b2) (by rw [h33]; exact hc) c0 c1
  have en : n - x.toNat = n - (x + 1).toNat + 1 := by omega
  refine ⟨z, f3, a3, e1, dc_t hD hD3, ?_⟩
  rcases h3 with ⟨z0, p2, w2, h2, F3, A3, e2, hM3, g48, g33, hL3⟩ | ⟨z0, X, e2, e3⟩
  · refine Or.inl ⟨z0, dc_t hD hD3, p2, w2, h2, F3, A3, dm_t hM hM3, g48.trans h48, g33.trans h33, hL3, ?_⟩
    rw [hRA, en, lp_st e2]
  · refine Or.inr ⟨by omega, z0, u1 (u1 F2 54 z) 55 x, A2, ⟨fun i hi => by rw [u1_o (by omega), u1_o (by omega)]; exact hM.1 i hi, hM.2⟩, by rw [u1_o (by decide), u1_s], by rw [u1_s], ?_⟩
    rw [hRA, en, hp_lp_x e2, bd_some, e3]
theorem iv_tok {v2 v3 o i : Int} {f2 : Nat → Nat → Int} {a2 : Nat → Int → Int} (hn : 100000 ≤ n) (hb : bks b) (hd : d 6 = b) (G : BK b q S K P len f a ni j A J) (hR : Rbk b q len a A) (h0 : 0 ≤ k) (h1 : k < K) (hle : 0 ≤ le) (hF : F 48 = lof q k le (A 13) (A 18) (A 14 (200 * q + k) - le - 1).toNat) (hF2 : F 48 ≤ 8192) (hB : ltr q k le (A 2) (A 13) (A 17) (A 18) (A 33) (A 14 (200 * q + k) - le - 1).toNat) (i0 : le < i) (i1 : i < A 14 (200 * q + k)) (ho : o = lof q k le (A 13) (A 18) (i - le - 1).toNat) (H : IV n k kc gl f a F A J o f2 a2) : ∃ r, hp_lp (gL_X3_decodeLetters_69 n 78 (qz v2) (qz v3)) n (qz o, qz (tkp q k (A 13) (A 17) i), cs f2 d a2 ni j) = some r ∧ ((∃ f3 a3, r = .inr (qz (o + tkl q k (A 13) (A 18) i), cs f3 d a3 ni j) ∧ IV n k kc gl f a F A J (o + tkl q k (A 13) (A 18) i) f3 a3) ∨ ∃ (x z : Int) (f3 : Nat → Nat → Int) (a3 : Nat → Int → Int), r = .inl (qz x, qz z, cs f3 d a3 ni j) ∧ z ≠ 0 ∧ DC f a f3 a3 ∧ FT n F A J z x) := by
  have hbb : b = 1 ∨ b = 33 := hb
  have G' := G
  obtain ⟨⟨b1, b2', b3, b4, b5, b6, b7, b8, b9⟩, gn, _⟩ := G'
  obtain ⟨t1, t2, t3, t4, t5, t6, t7, t8, t9⟩ := bk_t G h0 h1
  obtain ⟨g1, g2, g3⟩ := bk_tl G h0 h1
  obtain ⟨k1, k2, k3, k4, k5⟩ := (t9 i (by omega) i1).2.1
  have z1 := g1 i (by omega) i1
  have z3 := g3 i (by omega) i1
  have o0 : 0 ≤ o := by rw [ho]; exact (lof_b hle g1 g2 (i - le - 1).toNat (by omega)).1
  have heq : ∀ y, 0 ≤ y → y < tkl q k (A 13) (A 18) i → A 33 (o + y) = a (b + 2) (tkp q k (A 13) (A 17) i + y) ∧ o + y < F 48 := by
    intro y y0 y1
    rw [ho, hF]
    exact ltr_eq G hR h0 h1 hle hB i0 i1 y0 y1
  refine lp_ix (b := gL_X3_decodeLetters_69 n 78 (qz v2) (qz v3)) (fun t c => ∃ f3 a3, c = (qz (o + (t - tkp q k (A 13) (A 17) i)), qz t, cs f3 d a3 ni j) ∧ IV n k kc gl f a F A J (o + (t - tkp q k (A 13) (A 17) i)) f3 a3) (tkp q k (A 13) (A 17) i + tkl q k (A 13) (A 18) i) (n := n) (i0 := tkp q k (A 13) (A 17) i) (by omega) (by omega) ⟨f2, a2, by rw [Int.sub_self, Int.add_zero], by rw [Int.sub_self, Int.add_zero]; exact H⟩ ?_ ?_
  · rintro t c u0 u1' ⟨f3, a3, rfl, hI⟩
    have hk := k4 t (by unfold tkp at u0; exact u0) (by unfold tkp tkl at u1'; exact u1')
    obtain ⟨y1, y2⟩ := heq (t - tkp q k (A 13) (A 17) i) (by omega) (by omega)
    rw [show tkp q k (A 13) (A 17) i + (t - tkp q k (A 13) (A 17) i) = t by omega] at y1
    obtain ⟨z, f4, a4, e1, hD4, h4⟩ := iv_step (d := d) (ni := ni) (j := j) hn hI (by omega) y2 hF2 y1 (by omega) (by omega)
    have hD3 := hI.1
    have eb : f3 b = f b := hD3.1 b (by omega)
    have e2 : a3 (b + 2) = a (b + 2) := hD3.2.2 _ (by omega)
    have em : gL_X3_decodeLetters_69 n 78 (qz v2) (qz v3) (qz (o + (t - tkp q k (A 13) (A 17) i)), qz t, cs f3 d a3 ni j) = if qz z = qz 0 then some (.inl (qz (o + (t + 1 - tkp q k (A 13) (A 17) i)), qz (t + 1), cs f4 d a4 ni j)) else some (.inr (.inl (qz (o + (t - tkp q k (A 13) (A 17) i)), qz z, cs f4 d a4 ni j))) := by
      unfold gL_X3_decodeLetters_69 g_X3_decodeLetters_69
      simp only [zl0, zl1]
      rw [gpc_78_6, hd, gf_cs, eb, b6, if_neg (by rw [qz_le (by omega) (by omega) (by omega) (by omega)]; omega), c_inTok hb (by rw [eb]; omega) (by rw [eb]; omega) (by rw [e2]; exact b9) (by omega) (by omega), bd_some, eb, b6, e2, qp_T ⟨by omega, hk.1⟩, if_neg n10, gpb_1 hb, gab_2 hb (by omega) (by omega), e2, bd_some, e1, bd_some, qz_add, qz_add, show o + (t - tkp q k (A 13) (A 17) i) + 1 = o + (t + 1 - tkp q k (A 13) (A 17) i) by omega]
    rcases h4 with ⟨z0, hI4⟩ | ⟨z0, hF4⟩
    · refine Or.inl ⟨_, by rw [em, z0, if_pos rfl], f4, a4, rfl, ?_⟩
      rw [show o + (t + 1 - tkp q k (A 13) (A 17) i) = o + (t - tkp q k (A 13) (A 17) i) + 1 by omega]
      exact hI4
    · have zr := hF4.1
      exact Or.inr ⟨_, by rw [em, if_neg (by rw [qz_inj (by omega) (by omega) (by omega) (by omega)]; exact z0)], Or.inr ⟨_, z, f4, a4, rfl, z0, hD4, hF4⟩⟩
  · rintro c ⟨f3, a3, rfl, hI⟩
    have hD3 := hI.1
    have eb : f3 b = f b := hD3.1 b (by omega)
    have e2 : a3 (b + 2) = a (b + 2) := hD3.2.2 _ (by omega)
    rw [show o + (tkp q k (A 13) (A 17) i + tkl q k (A 13) (A 18) i - tkp q k (A 13) (A 17) i) = o + tkl q k (A 13) (A 18) i by omega] at hI ⊢
    refine ⟨_, ?_, Or.inl ⟨f3, a3, rfl, hI⟩⟩
    unfold gL_X3_decodeLetters_69 g_X3_decodeLetters_69
    simp only [zl0]
    rw [gpc_78_6, hd, gf_cs, eb, b6]
    by_cases c : len ≤ tkp q k (A 13) (A 17) i + tkl q k (A 13) (A 18) i
    · rw [if_pos (by rw [qz_le (by omega) (by omega) (by omega) (by omega)]; exact c)]
    · have := k5 (by unfold tkp tkl at c; omega)
      rw [if_neg (by rw [qz_le (by omega) (by omega) (by omega) (by omega)]; exact c), c_inTok hb (by rw [eb]; omega) (by rw [eb]; omega) (by rw [e2]; exact b9) (by omega) (by omega), bd_some, qp_F (by rw [e2]; unfold tkp tkl; omega), if_pos rfl]
end LT3
