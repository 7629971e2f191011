/-! print -/
section RGE
variable {n b b2 : Nat} {q S K P len dl k : Int} {L : List Int} {f f2 : Nat → Nat → Int} {d d2 : Nat → Nat} {a a2 : Nat → Int → Int} {ni ni2 : Nat → Nat} {j j2 : Nat → Int → Int64} {F F2 : Nat → Int} {A A2 : Nat → Int → Int} {J J2 : Nat → Int → Int64} {st st' : st_T}
theorem rel_gen (R : Rel0 q b b2 S K P len dl f d a ni j F A J) (hf : ∀ i, 1 ≤ i → i < 65 → f2 i = f i) (ha : ∀ i, 1 ≤ i → i < 65 → a2 i = a i) (hn : ∀ i, 1 ≤ i → i < 65 → ni2 i = ni i) (hj : ∀ i, 1 ≤ i → i < 65 → j2 i = j i) (hF : ∀ k, k = 1 ∨ k = 4 → F2 k = F k) (hA : ∀ i, i ≤ 25 → A2 i = A i) (hJ : J2 19 = J 19 ∧ J2 20 = J 20) (hd0 : d2 0 = d 0) (hd1 : d2 1 = d 1) (hd : (d2 2 = 117 ∧ d2 3 = 119) ∨ (d2 2 = 119 ∧ d2 3 = 117)) (hs : Rsh (d2 2) f2 a2 F2 A2) (ht : Rtr f2 a2 ni2 F2 A2) (hm : Rmc f2 a2 ni2) (h9 : f2 0 9 = F2 2) (h10 : f2 0 10 = F2 3) : Rel0 q b b2 S K P len dl f2 d2 a2 ni2 j2 F2 A2 J2 := by
  obtain ⟨r1, r2, r3, r4, r5, r6, r7, r8, ⟨p1, p2, p3, p4, p5, p6, p7, p8⟩, r10, r11, r12, r13, r14⟩ := R
  have hbb := bq_two r1 r2
  refine ⟨r1, r2, by rw [hF 4 (Or.inr rfl)]; exact r3, by rw [hd0]; exact r4, by rw [hd1]; exact r5, hd, ?_, ?_, ?_, hs, ht, hm, h9, h10⟩
  · exact bk_eq r7 (fun i i1 i2 => hf i (by omega) (by omega)) (fun i i1 i2 => ha i (by omega) (by omega)) (fun i i1 i2 => hn i (by omega) (by omega)) (hj _ (by omega) (by omega)) (fun i i1 i2 => hA i (by omega)) hJ
  · unfold Rbk
    rw [ha (b + 2) (by omega) (by omega), hA 2 (by omega)]
    exact r8
  · refine ⟨rwa_rd p1 (fun i i1 i2 => hf i (by omega) (by omega)) (fun i i1 i2 => ha i (by omega) (by omega)) (fun i i1 i2 => hn i (by omega) (by omega)), ?_, ?_, p4, p5, ?_, ?_, ?_⟩
    · rw [hf b2 (by omega) (by omega)]; exact p2
    · rw [hF 1 (Or.inl rfl)]; exact p3
    · rw [ha (b2 + 2) (by omega) (by omega)]; exact p6
    · rw [hA 1 (by omega)]; exact p7
    · rw [ha (b2 + 2) (by omega) (by omega), hA 1 (by omega)]; exact p8
/-- what was told becomes the OUT -/
theorem m_told23 {m : Int} (hn : 100000 ≤ n) (h82 : F 82 = m) (m0 : 0 ≤ m) (m1 : m ≤ 6000) : ∃ B : Int → Int, hp_lp (gL_X11_told_23 n 0) n (qz 0, ms F A J) = some (ms F (u1 A 57 B) J) ∧ ∀ x, 0 ≤ x → x < m → B x = A 58 x := by
  have lp := lp_inv (b := gL_X11_told_23 n 0) (fun t c => ∃ B : Int → Int, c = (qz t, ms F (u1 A 57 B) J) ∧ ∀ x, 0 ≤ x → x < t → B x = A 58 x) (Q := fun s => ∃ B : Int → Int, s = ms F (u1 A 57 B) J ∧ ∀ x, 0 ≤ x → x < m → B x = A 58 x) m (n := n) (i0 := 0) m0 (by omega) (c0 := (qz 0, ms F A J)) ⟨A 57, by rw [u1_id rfl], fun x x0 x1 => by omega⟩ ?_ ?_
  · obtain ⟨s, es, B, rfl, hB⟩ := lp
    exact ⟨B, es, hB⟩
  · rintro t c t0 t1 ⟨B, rfl, h⟩
    refine ⟨_, ?_, v1 B t (A 58 t), rfl, fun x x0 x1 => ?_⟩
    · unfold gL_X11_told_23 g_X11_told_23
      simp only [zl1]
      rw [gf_ms, h82, if_neg (by rw [qz_le (by omega) (by omega) (by omega) (by omega)]; omega), gp_81, ga_58 (by omega) (by omega), bd_some, gp_79, u1_o (by decide), ua_57 (by omega) (by omega), bd_some, qz_add, v2_u1, u1_s, u1_1]
    · by_cases e : x = t
      · rw [e, v1_s]
      · rw [v1_o e]; exact h x x0 (by omega)
  · rintro c ⟨B, rfl, h⟩
    refine ⟨_, ?_, B, rfl, h⟩
    unfold gL_X11_told_23 g_X11_told_23
    rw [gf_ms, h82, if_pos (by rw [qz_le (by omega) (by omega) (by omega) (by omega)]; omega)]
theorem rel_told (hn : 100000 ≤ n) (R : Rel0 q b b2 S K P len dl f d a ni j F A J) (hB : ∀ x : Nat, x < L.length → 0 ≤ L.getD x 0 ∧ L.getD x 0 < 128) (hL : (L.length : Int) < 1000000000) (HC : shC (d 3) L f d a ni j st) (HM : shM L F A J st') : ∃ r sC2 sM2, g_X10_publish n 0 st = some (r, sC2) ∧ g_X11_told n 0 st' = some (r, sM2) ∧ Rel sC2 sM2 := by
  obtain ⟨f2, a2, rfl, h1, h2, h3, h4, h5⟩ := HC
  obtain ⟨F2, A2, rfl, g1, g2, g3, g4⟩ := HM
  have R0 := R
  obtain ⟨r1, r2, r3, r4, r5, r6, r7, r8, r9, r10, r11, r12, r13, r14⟩ := R0
  have ht : Rtr f2 a2 ni F2 A2 := by
    unfold Rtr
    rw [h1 94 (by omega), h4 (94 + 2) (by omega), h4 (94 + 1) (by omega), g1 71 (by decide), g3 48 (by decide), g3 49 (by decide)]
    exact r11
  have hm : Rmc f2 a2 ni := by
    unfold Rmc
    rw [h1 84 (by omega), h1 87 (by omega), h1 97 (by omega), h1 105 (by omega), h4 (84 + 2) (by omega), h4 (87 + 2) (by omega), h4 (97 + 2) (by omega), h4 (105 + 2) (by omega)]
    exact r12
  by_cases c : (L.length : Int) ≤ 6000
  · have e2 : f2 (d 3) 1 = L.length := by
      rw [h2]
      unfold ml
      by_cases y : 6000 ≤ (L.length : Int)
      · rw [if_pos y]; omega
      · rw [if_neg y]
    have e3 : f2 (d 3) 2 = 0 := by
      rw [h3]
      unfold ov
      rw [if_neg (by omega)]
    obtain ⟨B, eB, hB2⟩ := m_told23 (F := u1 F2 80 L.length) (A := A2) (J := J) (m := L.length) hn (by rw [u1_o (by decide)]; exact g2) (by omega) c
    refine ⟨qz L.length, cs f2 (u1 (u1 d 2 (d 3)) 3 (d 2)) a2 ni j, ms (u1 F2 80 L.length) (u1 A2 57 B) J, ?_, ?_, q, b, b2, S, K, P, len, dl, _, _, _, _, _, _, _, _, rfl, rfl, ?_⟩
    · unfold g_X10_publish g_X10_publish_0
      simp only [zl0]
      rw [gpc_0_8, gf_cs, e3, if_pos rfl, gpc_0_7, wp_0_7, bd_some, wp_0_8, bd_some, gpc_0_7, u1_o (by decide), u1_s, gf_cs, e2]
    · unfold g_X11_told g_X11_told_0
      simp only [zl0, zl6000]
      rw [gf_ms, g2, if_pos (by rw [qz_le (by omega) (by omega) (by omega) (by omega)]; exact c), wf_ms, bd_some, eB, bd_some, gf_ms, u1_s]
    · refine rel_gen R (fun i i1 i2 => h1 i (by omega)) (fun i i1 i2 => h4 i (by omega)) (fun _ _ _ => rfl) (fun _ _ _ => rfl) (fun k hk => by rw [u1_o (by omega)]; exact g1 k (by omega)) (fun i hi => by rw [u1_o (by omega)]; exact g3 i (by omega)) ⟨rfl, rfl⟩ (by rw [u1_o (by decide), u1_o (by decide)]) (by rw [u1_o (by decide), u1_o (by decide)]) ?_ ?_ ?_ hm ?_ ?_
      · rw [u1_o (by decide), u1_s, u1_s]
        omega
      · rw [u1_o (by decide), u1_s]
        refine ⟨by rw [u1_s]; exact e2, by rw [u1_s]; omega, by rw [u1_s]; exact c, fun x x0 x1 => ?_⟩
        rw [u1_s] at x1 ⊢
        have y1 := h5 x.toNat (by omega) (by omega)
        have y2 := g4 x.toNat (by omega) (by omega)
        have y3 := hB x.toNat (by omega)
        rw [show ((x.toNat : Nat) : Int) = x by omega] at y1 y2
        rw [y1, hB2 x x0 x1, y2]
        exact ⟨rfl, y3⟩
      · unfold Rtr at *
        rw [u1_o (by decide), u1_o (by decide), u1_o (by decide)]
        exact ht
      · rw [h1 0 (by omega), u1_o (by decide), g1 2 (by decide)]; exact r13
      · rw [h1 0 (by omega), u1_o (by decide), g1 3 (by decide)]; exact r14
  · have e3 : f2 (d 3) 2 = 1 := by
      rw [h3]
      unfold ov
      rw [if_pos (by omega)]
    refine ⟨qz (-3), cs f2 d a2 ni j, ms F2 A2 J, ?_, ?_, q, b, b2, S, K, P, len, dl, _, _, _, _, _, _, _, _, rfl, rfl, ?_⟩
    · unfold g_X10_publish g_X10_publish_0
      simp only [zl0]
      rw [gpc_0_8, gf_cs, e3, if_neg n10]
      rfl
    · unfold g_X11_told g_X11_told_0
      simp only [zl0, zl6000]
      rw [gf_ms, g2, if_neg (by rw [qz_le (by omega) (by omega) (by omega) (by omega)]; exact c)]
      rfl
    · refine rel_gen R (fun i i1 i2 => h1 i (by omega)) (fun i i1 i2 => h4 i (by omega)) (fun _ _ _ => rfl) (fun _ _ _ => rfl) (fun k hk => g1 k (by omega)) (fun i hi => g3 i (by omega)) ⟨rfl, rfl⟩ rfl rfl r6 ?_ ht hm ?_ ?_
      · unfold Rsh at *
        rw [h1 (d 2) (by omega), h4 (d 2 + 1) (by omega), g1 80 (by decide), g3 57 (by decide)]
        exact r10
      · rw [h1 0 (by omega), g1 2 (by decide)]; exact r13
      · rw [h1 0 (by omega), g1 3 (by decide)]; exact r14
end RGE
/-- the bytes of a list lie below a bound -/
def lby (L : List Int) : Prop := ∀ x : Nat, x < L.length → 0 ≤ L.getD x 0 ∧ L.getD x 0 < 128
theorem lby_0 : lby [] := fun x hx => absurd hx (Nat.not_lt_zero _)
theorem lby_1 {L : List Int} {v : Int} (h : lby L) (h0 : 0 ≤ v) (h1 : v < 128) : lby (L ++ [v]) := by
  intro x hx
  rw [len_1] at hx
  by_cases e : x = L.length
  · rw [e, getD_r]; exact ⟨h0, h1⟩
  · rw [getD_l (by omega)]; exact h x (by omega)
theorem lby_n {L : List Int} {T : Int → Int} {p : Int} {m : Nat} (h : lby L) (hT : ∀ i : Nat, i < m → 0 ≤ T (p + i) ∧ T (p + i) < 128) : lby (L ++ nmb T p m) := by
  induction m with
  | zero =>
    rw [show nmb T p 0 = [] from rfl, List.append_nil]
    exact h
  | succ m ih =>
    rw [nmb_s, ← List.append_assoc]
    exact lby_1 (ih (fun i hi => hT i (by omega))) (hT m (by omega)).1 (hT m (by omega)).2
theorem zl32 : (32 : Int32) = qz 32 := id rfl
theorem zl36 : (36 : Int32) = qz 36 := id rfl
theorem zl46 : (46 : Int32) = qz 46 := id rfl
section PRT
variable {n b b2 : Nat} {q S K P len dl k : Int} {L : List Int} {f f2 : Nat → Nat → Int} {d d2 : Nat → Nat} {a a2 : Nat → Int → Int} {ni ni2 : Nat → Nat} {j j2 : Nat → Int → Int64} {F F2 : Nat → Int} {A A2 : Nat → Int → Int} {J J2 : Nat → Int → Int64} {st st' : st_T}
/-- the symbols of a formula, each with a blank behind it -/
def syl (q : Int) (A2 A3 A4 : Int → Int) (sy : Int → Int) : Nat → List Int
  | 0 => []
  | m + 1 => syl q A2 A3 A4 sy m ++ nmb (fun y => A2 (8192 * q + y)) (A3 (300 * q + sy m)) (A4 (300 * q + sy m)).toNat ++ [32]
theorem syl_len {q : Int} {A2 A3 A4 sy : Int → Int} (m : Nat) (h : ∀ i : Nat, i < m → A4 (300 * q + sy i) ≤ 8192) : ((syl q A2 A3 A4 sy m).length : Int) ≤ 8193 * m := by
  induction m with
  | zero => exact Int.le_refl _
  | succ m ih =>
    have := ih (fun i hi => h i (by omega))
    have := h m (by omega)
    unfold syl
    rw [len_1, List.length_append, nmb_len]
    omega
theorem lby_s {q : Int} {A2 A3 A4 sy : Int → Int} (m : Nat) (hL : lby L) (h : ∀ i : Nat, i < m → ∀ y : Nat, y < (A4 (300 * q + sy i)).toNat → 0 ≤ A2 (8192 * q + (A3 (300 * q + sy i) + y)) ∧ A2 (8192 * q + (A3 (300 * q + sy i) + y)) < 128) : lby (L ++ syl q A2 A3 A4 sy m) := by
  induction m with
  | zero =>
    unfold syl
    rw [List.append_nil]
    exact hL
  | succ m ih =>
    unfold syl
    rw [← List.append_assoc, ← List.append_assoc]
    exact lby_1 (lby_n (ih (fun i hi => h i (by omega))) (h m (by omega))) (by omega) (by omega)
theorem c_syms {s : Nat} (hn : 100000 ≤ n) (hs : s = 117 ∨ s = 119) (hb : bks b) (hd : d 0 = b) (G : BK b q S K P len f a ni j A J) (hR : Rbk b q len a A) (k0 : 0 ≤ k) (k1 : k < K) (H : shC s L f d a ni j st) : ∃ st2, hp_lp (gL_X10_writeStatement_65 n 0 s (qz k) (qz (A 12 (200 * q + k)))) n (qz 0, st) = some st2 ∧ shC s (L ++ syl q (A 2) (A 3) (A 4) (fun i => A 16 (4096 * q + A 11 (200 * q + k) + i)) (A 12 (200 * q + k)).toNat) f d a ni j st2 := by
  have hbb : b = 1 ∨ b = 33 := hb
  obtain ⟨f1, f2', f3, f4, f5, f6, f7, f8, f9, f10, f11⟩ := bk_f G k0 k1
  refine lp_inv (b := gL_X10_writeStatement_65 n 0 s (qz k) (qz (A 12 (200 * q + k)))) (fun t c => ∃ st, c = (qz t, st) ∧ shC s (L ++ syl q (A 2) (A 3) (A 4) (fun i => A 16 (4096 * q + A 11 (200 * q + k) + i)) t.toNat) f d a ni j st) (Q := fun st => shC s (L ++ syl q (A 2) (A 3) (A 4) (fun i => A 16 (4096 * q + A 11 (200 * q + k) + i)) (A 12 (200 * q + k)).toNat) f d a ni j st) (A 12 (200 * q + k)) (n := n) (i0 := 0) (by omega) (by omega) (c0 := (qz 0, st)) ⟨_, rfl, by rw [show syl q (A 2) (A 3) (A 4) (fun i => A 16 (4096 * q + A 11 (200 * q + k) + i)) (0 : Int).toNat = [] from rfl, List.append_nil]; exact H⟩ ?_ ?_
  · rintro t c t0 t1 ⟨st, rfl, hst⟩
    have hst' := hst
    obtain ⟨f3', a3, rfl, g1, g2, g3, g4, g5⟩ := hst'
    have G3 := shC_bk hb hs G g1 g4
    have hR3 : Rbk b q len a3 A := by
      unfold Rbk
      rw [g4 (b + 2) (by omega)]
      exact hR
    obtain ⟨e1, e2, e3⟩ := f7 t t0 t1
    have hz := G3.2.2.2.2.2.2.2.2.2.2.2.2.2
    have eg := c_get (n := n) (d := d) (j := j) (f := f3') (a := a3) (ni := ni) (k := k) (i := t) (rws_b11 hb) hz.1 k0 (by rw [hz.2.2.2.2.2.2.1]; exact k1) t0 (by rw [g4 (b + 11 + 2) (by omega)]; omega)
    rw [g4 (b + 11 + 2) (by omega), g4 (b + 11 + 1) (by omega), e1] at eg
    have hl : liv S K (A 16 (4096 * q + A 11 (200 * q + k) + t)) := Or.inl ⟨e2, e3⟩
    have gs := G.2.1.2.2.2.2.2.2.2.1 _ e2 e3
    obtain ⟨st4, e4, h4'⟩ := c_putName hn hs hb G hR hl hst
    obtain ⟨st5, e5, h5'⟩ := c_put (n := n) (v := 32) hs (by omega) (by omega) h4'
    refine ⟨(qz (t + 1), st5), ?_, st5, rfl, ?_⟩
    · unfold gL_X10_writeStatement_65 g_X10_writeStatement_65
      simp only [zl1, zl32]
      rw [if_neg (by rw [qz_le (by omega) (by omega) (by omega) (by omega)]; omega), gpc_0_0, hd, gpb_9 hb, eg, bd_some, gpb_0 hb, e4, bd_some, e5, bd_some, qz_add]
    · rw [show (t + 1).toNat = t.toNat + 1 by omega]
      unfold syl
      rw [show ((t.toNat : Nat) : Int) = t by omega, ← List.append_assoc, ← List.append_assoc, ← gs.1, ← gs.2.1]
      exact h5'
  · rintro c ⟨st, rfl, hst⟩
    refine ⟨st, ?_, hst⟩
    unfold gL_X10_writeStatement_65 g_X10_writeStatement_65
    rw [if_pos (by rw [qz_le (by omega) (by omega) (by omega) (by omega)]; omega)]
theorem m_syms (hn : 100000 ≤ n) (hq : 0 ≤ q ∧ q ≤ 1) (h4 : F 4 = q) (G : BK b q S K P len f a ni j A J) (k0 : 0 ≤ k) (k1 : k < K) (hL : (L.length : Int) < 800000000) (H : shM L F A J st) : ∃ st2, hp_lp (gL_X11_print_86 n 0 (qz k)) n (qz 0, st) = some st2 ∧ shM (L ++ syl q (A 2) (A 3) (A 4) (fun i => A 16 (4096 * q + A 11 (200 * q + k) + i)) (A 12 (200 * q + k)).toNat) F A J st2 := by
  have hK : K ≤ 200 := G.2.1.2.2.2.1
  have hS : S ≤ 300 := G.2.1.2.1
  obtain ⟨f1, f2', f3, f4, f5, f6, f7, f8, f9, f10, f11⟩ := bk_f G k0 k1
  have hsy : ∀ i, 0 ≤ i → i < A 12 (200 * q + k) → 0 ≤ A 3 (300 * q + A 16 (4096 * q + A 11 (200 * q + k) + i)) ∧ 0 ≤ A 4 (300 * q + A 16 (4096 * q + A 11 (200 * q + k) + i)) ∧ A 3 (300 * q + A 16 (4096 * q + A 11 (200 * q + k) + i)) + A 4 (300 * q + A 16 (4096 * q + A 11 (200 * q + k) + i)) ≤ 8192 := by
    intro i i0 i1
    obtain ⟨e1, e2, e3⟩ := f7 i i0 i1
    have gs := G.2.1.2.2.2.2.2.2.2.1 _ e2 e3
    have h1 := bk_n G (x := A 16 (4096 * q + A 11 (200 * q + k) + i)) (Or.inl ⟨e2, e3⟩)
    omega
  refine lp_inv (b := gL_X11_print_86 n 0 (qz k)) (fun t c => ∃ st, c = (qz t, st) ∧ shM (L ++ syl q (A 2) (A 3) (A 4) (fun i => A 16 (4096 * q + A 11 (200 * q + k) + i)) t.toNat) F A J st) (Q := fun st => shM (L ++ syl q (A 2) (A 3) (A 4) (fun i => A 16 (4096 * q + A 11 (200 * q + k) + i)) (A 12 (200 * q + k)).toNat) F A J st) (A 12 (200 * q + k)) (n := n) (i0 := 0) (by omega) (by omega) (c0 := (qz 0, st)) ⟨_, rfl, by rw [show syl q (A 2) (A 3) (A 4) (fun i => A 16 (4096 * q + A 11 (200 * q + k) + i)) (0 : Int).toNat = [] from rfl, List.append_nil]; exact H⟩ ?_ ?_
  · rintro t c t0 t1 ⟨st, rfl, hst⟩
    have hst' := hst
    obtain ⟨F3, A3, rfl, g1, g2, g3, g4⟩ := hst'
    have F34 : F3 4 = q := by rw [g1 4 (by decide)]; exact h4
    obtain ⟨e1, e2, e3⟩ := f7 t t0 t1
    have hy := hsy t t0 t1
    have hl := syl_len (q := q) (A2 := A 2) (A3 := A 3) (A4 := A 4) (sy := fun i => A 16 (4096 * q + A 11 (200 * q + k) + i)) t.toNat (fun i hi => by have := hsy i (by omega) (by omega); omega)
    obtain ⟨st4, e4, h4'⟩ := m_saySym (v1 := qz k) (v3 := qz t) (k := A 16 (4096 * q + A 11 (200 * q + k) + t)) hn hq h4 e2 (by omega) hy.1 hy.2.1 hy.2.2 (by rw [List.length_append]; omega) hst
    obtain ⟨st5, e5, h5'⟩ := m_say (n := n) (v := 32) (by rw [List.length_append, List.length_append, nmb_len]; omega) h4'
    refine ⟨(qz (t + 1), st5), ?_, st5, rfl, ?_⟩
    · unfold gL_X11_print_86 g_X11_print_86
      simp only [zl0, zl1, zl32, zl300, zl4096]
      rw [m_at F34, bd_some, gp_15, ga_12 (by omega) (by omega), bd_some, g3 12 (by decide), if_neg (by rw [qz_le (by omega) (by omega) (by omega) (by omega)]; omega), bd_some, gp_14, ga_11 (by omega) (by omega), bd_some, g3 11 (by decide), gf_ms, F34, qz_mul, qz_add, qz_add, gp_19, ga_16 (by omega) (by omega), bd_some, g3 16 (by decide), qz_mul, qz_add, e4, bd_some, e5, bd_some, qz_add]
    · rw [show (t + 1).toNat = t.toNat + 1 by omega]
      unfold syl
      rw [show ((t.toNat : Nat) : Int) = t by omega, ← List.append_assoc, ← List.append_assoc]
      exact h5'
  · rintro c ⟨st, rfl, hst⟩
    refine ⟨st, ?_, hst⟩
    obtain ⟨F3, A3, rfl, g1, g2, g3, g4⟩ := hst
    have F34 : F3 4 = q := by rw [g1 4 (by decide)]; exact h4
    unfold gL_X11_print_86 g_X11_print_86
    rw [m_at F34, bd_some, gp_15, ga_12 (by omega) (by omega), bd_some, g3 12 (by decide), if_pos (by rw [qz_le (by omega) (by omega) (by omega) (by omega)]; omega)]
end PRT
