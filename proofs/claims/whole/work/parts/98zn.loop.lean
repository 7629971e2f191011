/-! The reading loop: both -/
theorem scn_good {t : Int → Int} {sz : Int} : ∀ {k : Nat} {c : Int} {q : Prop} {o b e : Int}, scn t sz k c q o b e → 0 ≤ c → (o = -1 ∨ o = 0) → ∀ x, c ≤ x → x < e → x < sz → blk (t x) ∨ ¬badc (t x) := by
  intro k
  induction k with
  | zero => intro c q o b e h; exact h.elim
  | succ k ih =>
    intro c q o b e h h0 ho x x1 x2 x3
    obtain ⟨b', e', ht, h⟩ := h
    obtain ⟨t1, t2, t3, t4, t5, t6, t7⟩ := ht
    have low : ∀ x, c ≤ x → x < b' → blk (t x) := t4
    have mid : ¬bad t b' e' → ∀ x, b' ≤ x → x < e' → ¬badc (t x) := fun hb x x1 x2 z => hb ⟨x, x1, x2, z⟩
    have go : ¬bad t b' e' → ∀ q2 : Prop, scn t sz k e' q2 o b e → blk (t x) ∨ ¬badc (t x) := by
      intro hb q2 hs
      by_cases z1 : x < b'
      · exact Or.inl (low x x1 z1)
      · by_cases z2 : x < e'
        · exact Or.inr (mid hb x (by omega) z2)
        · exact ih hs (by omega) ho x (by omega) x2 x3
    rcases h with ⟨h2, rfl, rfl, h3⟩ | ⟨h2, h3, rfl, rfl, rfl⟩ | ⟨h2, h3, h4, h5, rfl, rfl, rfl⟩ | ⟨h2, h3, h4, h5, h6, rfl, rfl, rfl⟩ | ⟨h2, h3, h4, h5, h6⟩ | ⟨h2, h3, h4, h5, h6⟩ | ⟨h2, h3, h4, h5, h6, h7⟩
    · exact Or.inl (low x x1 (by omega))
    · omega
    · by_cases z1 : x < b
      · exact Or.inl (low x x1 z1)
      · exact Or.inr (mid h3 x (by omega) x2)
    · omega
    · exact go h3 _ h6
    · exact go h3 _ h6
    · exact go h3 _ h7
section LOO
variable {b n : Nat} {q S K P len c b0 e0 w : Int} {f0 : Nat → Nat → Int} {a0 : Nat → Int → Int} {ni0 : Nat → Nat} {j0 : Nat → Int → Int64} {F0 : Nat → Int} {A0 : Nat → Int → Int} {J0 : Nat → Int → Int64} {f : Nat → Nat → Int} {d : Nat → Nat} {a : Nat → Int → Int} {ni : Nat → Nat} {j : Nat → Int → Int64} {F : Nat → Int} {A : Nat → Int → Int} {J : Nat → Int → Int64}
/-- where both stand when the text, or a fault, ends the reading -/
def FIN (b : Nat) (q len : Int) (f0 : Nat → Nat → Int) (a0 : Nat → Int → Int) (ni0 : Nat → Nat) (j0 : Nat → Int → Int64) (F0 : Nat → Int) (A0 : Nat → Int → Int) (J0 : Nat → Int → Int64) (d : Nat → Nat) (X : Option (Int32 × st_T)) (Y : Option ((Int32 × st_T) ⊕ (Int32 × st_T))) : Prop :=
  ∃ (z : Int) (f2 : Nat → Nat → Int) (a2 : Nat → Int → Int) (ni2 : Nat → Nat) (j2 : Nat → Int → Int64) (F2 : Nat → Int) (A2 : Nat → Int → Int) (J2 : Nat → Int → Int64), FR b q f0 a0 ni0 j0 F0 A0 J0 f2 a2 ni2 j2 F2 A2 J2 ∧ RwA b f2 a2 ni2 ∧ 0 ≤ z ∧ z ≤ 7 ∧ 0 ≤ f2 77 0 ∧ f2 77 0 ≤ len ∧ ((∃ o, (o = 0 ∨ o = 2) ∧ X = some (qz 0, cs f2 d a2 ni2 j2) ∧ f2 77 2 = o ∧ f2 77 0 = len ∧ Y = some (.inl (qp (o = 2), ms F2 A2 J2)) ∧ 0 ≤ F2 34 ∧ F2 34 ≤ 7 ∧ (F2 34 = 0 ↔ f2 65 4 = 0) ∧ 0 ≤ f2 65 4 ∧ f2 65 4 ≤ 5 ∧ F2 33 = f2 66 0 ∧ 0 ≤ F2 33 ∧ F2 33 ≤ 16 ∧ F2 32 = q ∧ F2 1 = len ∧ (o = 0 → ∃ S2 K2 P2, BK b q S2 K2 P2 len f2 a2 ni2 j2 A2 J2 ∧ txs (a2 (b + 2)) (A2 1) len ∧ ∀ x, 0 ≤ x → x < len → 0 < A2 1 x ∧ A2 1 x < 127)) ∨ (∃ o, (o = 1 ∨ o = 3) ∧ X = some (qz 0, cs f2 d a2 ni2 j2) ∧ f2 77 2 = o ∧ Y = some (.inr (qz o, ms F2 A2 J2)) ∧ F2 29 = f2 77 0) ∨ (1 ≤ z ∧ X = some (qz z, cs f2 d a2 ni2 j2) ∧ Y = some (.inr (qz z, ms F2 A2 J2)) ∧ F2 29 = f2 77 0 ∧ z ≠ 2))
theorem scn_min {t : Int → Int} {sz : Int} : ∀ {k : Nat} {c : Int} {q : Prop} {o b e : Int}, scn t sz k c q o b e → o = -1 → ∃ k' : Nat, (k' : Int) ≤ e - c ∧ scn t sz k' c q o b e := by
  intro k
  induction k with
  | zero => intro c q o b e h; exact h.elim
  | succ k ih =>
    intro c q o b e h ho
    obtain ⟨b', e', ht, h⟩ := h
    have hl := tk_lt ht
    have ⟨t1, t2, t3, _⟩ := ht
    have go : ∀ q2 : Prop, b' < sz → scn t sz k e' q2 o b e → ∃ k'' : Nat, (k'' : Int) + 1 ≤ e - c ∧ scn t sz k'' e' q2 o b e := by
      intro q2 h2 hs
      obtain ⟨k'', g1, g2⟩ := ih hs ho
      have := hl h2
      exact ⟨k'', by omega, g2⟩
    rcases h with ⟨h2, rfl, rfl, h3⟩ | ⟨h2, h3, rfl, rfl, rfl⟩ | ⟨h2, h3, h4, h5, rfl, rfl, rfl⟩ | ⟨h2, h3, h4, h5, h6, rfl, rfl, rfl⟩ | ⟨h2, h3, h4, h5, h6⟩ | ⟨h2, h3, h4, h5, h6⟩ | ⟨h2, h3, h4, h5, h6, h7⟩
    · omega
    · omega
    · have := hl h2
      exact ⟨1, by omega, b, e, ht, Or.inr (Or.inr (Or.inl ⟨h2, h3, h4, h5, rfl, rfl, rfl⟩))⟩
    · omega
    · obtain ⟨k'', g1, g2⟩ := go _ h2 h6
      exact ⟨k'' + 1, by omega, b', e', ht, Or.inr (Or.inr (Or.inr (Or.inr (Or.inl ⟨h2, h3, h4, h5, g2⟩))))⟩
    · obtain ⟨k'', g1, g2⟩ := go _ h2 h6
      exact ⟨k'' + 1, by omega, b', e', ht, Or.inr (Or.inr (Or.inr (Or.inr (Or.inr (Or.inl ⟨h2, h3, h4, h5, g2⟩)))))⟩
    · obtain ⟨k'', g1, g2⟩ := go _ h2 h7
      exact ⟨k'' + 1, by omega, b', e', ht, Or.inr (Or.inr (Or.inr (Or.inr (Or.inr (Or.inr ⟨h2, h3, h4, h5, h6, g2⟩)))))⟩
/-- the relation, with other places of the scanner -/
theorem rd_f (R : RD b q S K P len c f0 a0 ni0 j0 F0 A0 J0 f d a ni j F A J) {f1 : Nat → Nat → Int} {F1 : Nat → Int} (h1 : ∀ i, i ≠ 77 → f1 i = f i) (h4 : f1 77 4 = f 77 4) (h2 : f1 77 2 = f 77 2) (hF : ∀ k, ¬(29 ≤ k ∧ k ≤ 31) → F1 k = F k) : RD b q S K P len c f0 a0 ni0 j0 F0 A0 J0 f1 d a ni j F1 A J := by
  obtain ⟨G, L, Rr, C, M, Fr⟩ := R
  have hbb : b = 1 ∨ b = 33 := bq_b L.1
  have hf : ∀ i, b ≤ i → i < b + 32 → f1 i = f i := fun i i1 i2 => h1 i (by omega)
  refine ⟨bk_k G hf agK_0, ?_, rs_k Rr G (h1 66 (by decide)) (hF 43 (by omega)) agK_0, ?_, ?_, ?_⟩
  · unfold Rl at *
    rw [h4, h2, h1 66 (by decide), hF 1 (by omega), hF 32 (by omega), hF 33 (by omega)]; exact L
  · unfold Rc at *
    rw [hf (b + 11) (by omega) (by omega), hf (b + 14) (by omega) (by omega), hf (b + 17) (by omega) (by omega), hf (b + 20) (by omega) (by omega), hf (b + 23) (by omega) (by omega), hf (b + 26) (by omega) (by omega), hF 36 (by omega), hF 37 (by omega)]; exact C
  · unfold Gmo at *
    rw [h1 65 (by decide), h1 66 (by decide), hF 34 (by omega), hF 35 (by omega), hF 36 (by omega), hF 37 (by omega), hF 43 (by omega)]; exact M
  · obtain ⟨g1, g2, g3⟩ := Fr
    refine ⟨fun i i1 i2 => ?_, fun k hk => ?_, g3⟩
    · rw [h1 i (by omega)]; exact g1 i i1 i2
    · rw [hF k (by omega)]; exact g2 k hk
theorem rd_loop (hn : 100000 ≤ n) : ∀ (k : Nat) (c i : Int) (S K P : Int) (mC mM : Nat) (f : Nat → Nat → Int) (a : Nat → Int → Int) (ni : Nat → Nat) (j : Nat → Int → Int64) (F : Nat → Int) (A : Nat → Int → Int) (J : Nat → Int → Int64), RD b q S K P len c f0 a0 ni0 j0 F0 A0 J0 f d a ni j F A J → f 77 1 = c → F 31 = c → (∀ x, 0 ≤ x → x < c → A 1 x < 127) → 0 ≤ i → 2 * i ≤ c + 1 → len - c < k → len - c + 2 < mC → len - c + 2 < mM → FIN b q len f0 a0 ni0 j0 F0 A0 J0 d (hp_lp (gL_X4_readBook_49 n 65) mC (qz 0, qz i, cs f d a ni j)) (hp_lp (gL_X11_readBook_6 n 0) mM (qz 0, ms F A J)) := by
  intro k
  induction k with
  | zero =>
    intro c i S K P mC mM f a ni j F A J R h1 h2 h3 h4 h5 h6
    have := R.2.1.2.2.2.2.2.2.2.2.2.2.2.1
    omega
  | succ k ih =>
    intro c i S K P mC mM f a ni j F A J R hc1 hc2 hgd hi hi2 hk hmC hmM
    have R' := R
    obtain ⟨G, L, Rr, C, M, Fr⟩ := R'
    have L' := L
    obtain ⟨l1, l2, l3, l4, l5, l6, l7, l8, l9, l10, l11, l12, l13⟩ := L'
    have hb := bq_b l1
    obtain ⟨⟨b1, b2, b3, b4, b5, b6, b7, b8, b9⟩, gn, glb, gk, gf, gt, ghy, gma, gun, gpo, gpr, gfm, gax, grw⟩ := G
    have hsc : scd f d a (b + 2) len := ⟨l3, tx_b hb, l4, b7, b8, b9⟩
    obtain ⟨mC, rfl⟩ : ∃ x, mC = x + 1 := ⟨mC - 1, by omega⟩
    obtain ⟨o, b0, e0, hs⟩ := scn_ex (A 1) len (len - c + 1).toNat c False l12 (by omega)
    obtain ⟨s1, s2, s3, s4, s5, s6, s7⟩ := scn_tok hs l11 l12
    have hsT := sg_scn l10 l11 hs
    have ea := c_adv (f := f) (d := d) (a := a) (ni := ni) (j := j) (n := n) (p := b + 2) (sz := len) hn hsc (by rw [hc1]; exact hsT) (by omega) (by omega) (by omega)
    have hbody : gL_X4_readBook_49 n 65 (qz 0, qz i, cs f d a ni j) = if qp (o = -1) = qz 0 then some (.inr (qz 0, cs (if o = -1 then u2 (u2 f 77 0 b0) 77 1 e0 else u2 (u2 (u2 f 77 0 b0) 77 1 e0) 77 2 o) d a ni j)) else tokC n (qz i) (cs (if o = -1 then u2 (u2 f 77 0 b0) 77 1 e0 else u2 (u2 (u2 f 77 0 b0) 77 1 e0) 77 2 o) d a ni j) := by
      show g_X4_readBook_49 n 65 (qz 0) (qz i) (cs f d a ni j) = _
      rw [tokC_b]
      simp only [qz_lit]
      rw [if_neg (by rw [qz_lt (by omega) (by omega) (by omega) (by omega)]; omega), if_pos trivial, gpc_65_2, ea, bd_some]
    have hF1 : ∀ k, ¬(29 ≤ k ∧ k ≤ 31) → fT F b0 e0 k = F k := fun k hk => fT_o (by omega) (by omega) (by omega)
    have f4 : 0 ≤ f 65 4 ∧ f 65 4 ≤ 5 ∧ 0 ≤ F 34 ∧ F 34 ≤ 7 ∧ (F 34 = 0 ↔ f 65 4 = 0) := by
      rcases M with M | M | M | M | M | M
      · have := M.1; have := M.2.1; omega
      · have := M.1; have := M.2.1; omega
      · have := M.1; have := M.2.1; omega
      · have := M.1; have := M.2.1; omega
      · have := M.1; have := M.2.2.2.2.2.2.2.2.2.2.1; omega
      · have := M.1; have := M.2.1; omega
    have hDD : 0 ≤ f 66 0 ∧ f 66 0 ≤ 16 := ⟨Rr.1.1, Rr.1.2.1⟩
    by_cases ho : o = -1
    · -- a token
      rw [if_pos ho, qp_T ho, if_neg n10] at hbody
      obtain ⟨k', hk', hs'⟩ := scn_min hs ho
      obtain ⟨c', hc', htk⟩ := (s4 (by omega)).2
      have hbe := (s4 (by omega)).1
      have hnb := s5 ho
      obtain ⟨w, hw⟩ : ∃ w, wrd (a (b + 2)) b0 e0 w := by
        obtain ⟨w, _, hw⟩ := c_word (f := u2 (u2 f 77 0 b0) 77 1 e0) (ni := ni) (j := j) hn (scd_u hsc) (tkc_u (by omega) hbe s3)
        exact ⟨w, hw⟩
      have hst : c = 0 ∨ c + 1 ≤ b0 := by
        by_cases z : c = c'
        · subst z
          rcases l13 with y | y | y
          · exact Or.inl y
          · omega
          · have : b0 ≠ c := fun z2 => htk.2.2.2.2.1 (by omega) (z2 ▸ y)
            exact Or.inr (by omega)
        · have := htk.1
          omega
      have R1 := rd_f R (f1 := u2 (u2 f 77 0 b0) 77 1 e0) (F1 := fT F b0 e0) (fun i hi => by rw [u2_b hi, u2_b hi]) (by rw [u2_c (by decide), u2_c (by decide)]) (by rw [u2_c (by decide), u2_c (by decide)]) hF1
      obtain ⟨G1, L1, Rr1, C1, M1, Fr1⟩ := R1
      have T1 : TI b len c b0 e0 w (u2 (u2 f 77 0 b0) 77 1 e0) a (fT F b0 e0) A := ⟨by rw [u2_c (by decide), u2_a], by rw [u2_a], fT_29, fT_30, fT_31, by omega, hbe, s3, hst, hnb.1, htk.2.2.2.2.2.1, (by
        by_cases z : e0 = len
        · exact Or.inl z
        · exact Or.inr (htk.2.2.2.2.2.2 (by omega))), hw⟩
      obtain ⟨z, S2, K2, P2, f2, a2, ni2, j2, F2, A2, J2, o1, o2, o3, o4, o5, o6, o7⟩ := tok_tk hn G1 L1 Rr1 C1 Fr1 T1 M1
      have em := m_adv (f := F) (a := A) (j := J) (n := n) (sz := len) hn l6 l9 k' c False o b0 e0 mM F hs' l11 l12 (by omega) l6 hc2
      rw [qpF] at em
      rcases em with ⟨_, m2, c2, e1, e2, e3⟩ | ⟨e1, _⟩ | ⟨e1, _⟩
      rotate_left
      · omega
      · omega
      rw [o1 (qz i)] at hbody
      rw [e2, lp_st hbody]
      by_cases hz : z = 0
      · subst hz
        obtain ⟨RR, r1, r2⟩ := o6 rfl
        rw [o2 rfl] at e3
        rw [lp_st e3]
        have hq1 : (qz i + (1 : Int32)) = qz (i + 1) := by rw [show (1 : Int32) = qz 1 from rfl, qz_add]
        rw [hq1]
        have hA1 : A2 1 = A 1 := by
          have h1 := RR.2.2.2.2.2.2.2.1 1 (by omega)
          have h2 := Fr.2.2.1 1 (by omega)
          rw [h1, h2]
        refine ih e0 (i + 1) S2 K2 P2 mC m2 f2 a2 ni2 j2 F2 A2 J2 RR r1 r2 (fun x x1 x2 => ?_) (by omega) (by omega) (by omega) (by omega) (by omega)
        rw [hA1]
        by_cases y : x < c
        · exact hgd x x1 y
        · have h1 := scn_good hs l11 (Or.inl ho) x (by omega) x2 (by omega)
          have h2 := l9.2.2 x x1 (by omega)
          unfold blk badc at h1
          omega
      · obtain ⟨y1, y2, y3, y4⟩ := o7 hz
        rw [o3 hz] at e3
        rw [hp_lp_x e3]
        obtain ⟨mC, rfl⟩ : ∃ x, mC = x + 1 := ⟨mC - 1, by omega⟩
        have hb2 : gL_X4_readBook_49 n 65 (qz z, qz i + (1 : Int32), cs f2 d a2 ni2 j2) = some (.inr (qz z, cs f2 d a2 ni2 j2)) := by
          show g_X4_readBook_49 n 65 (qz z) (qz i + (1 : Int32)) (cs f2 d a2 ni2 j2) = _
          rw [tokC_b, if_neg (c := qz z = 0) (by rw [show (0 : Int32) = qz 0 from rfl, qz_inj (by omega) (by omega) (by omega) (by omega)]; exact hz), ite_self]
        rw [hp_lp_x hb2]
        exact ⟨z, f2, a2, ni2, j2, F2, A2, J2, y3, y4, by omega, o5, by omega, by omega, Or.inr (Or.inr ⟨by omega, rfl, rfl, by omega, by omega⟩)⟩
    · -- the end, or what is no token
      rw [if_neg ho, qp_F ho, if_pos rfl] at hbody
      rw [hp_lp_x hbody]
      have em := m_adv (f := F) (a := A) (j := J) (n := n) (sz := len) hn l6 l9 _ c False o b0 e0 mM F hs l11 l12 (by omega) l6 hc2
      rw [qpF] at em
      have R1 := rd_f R (f1 := u2 (u2 f 77 0 b0) 77 1 e0) (F1 := fT F b0 e0) (fun i hi => by rw [u2_b hi, u2_b hi]) (by rw [u2_c (by decide), u2_c (by decide)]) (by rw [u2_c (by decide), u2_c (by decide)]) hF1
      have FrX : FR b q f0 a0 ni0 j0 F0 A0 J0 (u2 (u2 (u2 f 77 0 b0) 77 1 e0) 77 2 o) a ni j (fT F b0 e0) A J := fr_f R1.2.2.2.2.2 (by omega)
      have hff : ∀ i, i ≠ 77 → u2 (u2 (u2 f 77 0 b0) 77 1 e0) 77 2 o i = f i := fun i hi => by rw [u2_b hi, u2_b hi, u2_b hi]
      have hbb : b = 1 ∨ b = 33 := hb
      have GX := bk_k (f2 := u2 (u2 (u2 f 77 0 b0) 77 1 e0) 77 2 o) R.1 (fun i i1 i2 => hff i (by omega)) agK_0
      have h77 : u2 (u2 (u2 f 77 0 b0) 77 1 e0) 77 2 o 77 0 = b0 := by rw [u2_c (by decide), u2_c (by decide), u2_a]
      refine ⟨0, u2 (u2 (u2 f 77 0 b0) 77 1 e0) 77 2 o, a, ni, j, fT F b0 e0, A, J, FrX, grw_rwa (grw_c grw (fun i i1 i2 => hff i (by omega))), by omega, by omega, by rw [h77]; omega, by rw [h77]; omega, ?_⟩
      rcases em with ⟨e1, _⟩ | ⟨e1, e2⟩ | ⟨e1, e2⟩
      · exact absurd e1 ho
      · have hb0 := s6 e1
        refine Or.inl ⟨o, e1, rfl, by rw [u2_a], by rw [h77]; exact hb0, e2, ?_, ?_, ?_, ?_, ?_, ?_, ?_, ?_, by rw [hF1 32 (by omega)]; exact l7, by rw [hF1 1 (by omega)]; exact l6, fun hz => ⟨S, K, P, GX, l10, fun x x1 x2 => ?_⟩⟩
        · rw [hF1 34 (by omega)]; omega
        · rw [hF1 34 (by omega)]; omega
        · rw [hF1 34 (by omega), hff 65 (by decide)]; exact f4.2.2.2.2
        · rw [hff 65 (by decide)]; omega
        · rw [hff 65 (by decide)]; omega
        · rw [hF1 33 (by omega), hff 66 (by decide)]; exact l8
        · rw [hF1 33 (by omega)]; omega
        · rw [hF1 33 (by omega)]; omega
        · have h2 := l9.2.2 x x1 x2
          refine ⟨h2.1, ?_⟩
          by_cases y : x < c
          · exact hgd x x1 y
          · have h1 := scn_good hs l11 (Or.inr hz) x (by omega) (by omega) x2
            unfold blk badc at h1
            omega
      · exact Or.inr (Or.inl ⟨o, e1, rfl, by rw [u2_a], e2, by rw [fT_29, h77]⟩)
end LOO
