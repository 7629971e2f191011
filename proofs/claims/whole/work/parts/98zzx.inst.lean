/-! Is a thing an instance of a hypothesis: class and reference -/
/-- thing r is what W says -/
def ins (L T : Int → Int) (r : Int) (W : List Int) : Prop := L r = W.length ∧ ∀ x : Nat, x < W.length → T (200 * r + x) = W.getD x 0
section INS
variable {n m b : Nat} {q S K P len h R r : Int} {f : Nat → Nat → Int} {d : Nat → Nat} {a : Nat → Int → Int} {ni : Nat → Nat} {j : Nat → Int → Int64} {F : Nat → Int} {A : Nat → Int → Int} {J : Nat → Int → Int64} {sy va sf L T : Int → Int}
theorem sbl_at {i c y : Nat} (hi : i < c) (hy : y < (sbt va sf L T (sy i)).length) : (sbl sy va sf L T c).getD ((sbl sy va sf L T i).length + y) 0 = (sbt va sf L T (sy i)).getD y 0 ∧ (sbl sy va sf L T i).length + y < (sbl sy va sf L T c).length := by
  have hl := sbl_l (sy := sy) (va := va) (sf := sf) (L := L) (T := T) (i := i)
  have hm := sbl_m (sy := sy) (va := va) (sf := sf) (L := L) (T := T) (i + 1) (c - (i + 1))
  rw [show i + 1 + (c - (i + 1)) = c by omega] at hm
  refine ⟨?_, by omega⟩
  have := sbl_p (sy := sy) (va := va) (sf := sf) (L := L) (T := T) (i := i + 1) (r := c - (i + 1)) (x := (sbl sy va sf L T i).length + y) (by omega)
  rw [show i + 1 + (c - (i + 1)) = c by omega] at this
  rw [this, sbl_s, getD_ar]
/-- the first k of thing r are as W says -/
def pms (L T : Int → Int) (r : Int) (W : List Int) (k : Nat) : Prop := (k : Int) ≤ L r ∧ ∀ x : Nat, x < k → T (200 * r + x) = W.getD x 0
theorem pms_s {W : List Int} {k : Nat} (H : pms L T r W k) (h1 : (k : Int) < L r) (h2 : T (200 * r + k) = W.getD k 0) : pms L T r W (k + 1) := by
  refine ⟨by omega, fun x hx => ?_⟩
  by_cases e : x = k
  · rw [e]; exact h2
  · exact H.2 x (by omega)
theorem c_sget (hm : mch m) (SK : RWL (m + 1) 32768 R S f a ni L T) (r0 : 0 ≤ r) (r1 : r < R) (hR : R ≤ 100) {x : Int} (x0 : 0 ≤ x) (x1 : x < 100000) : g_X5_get n (m + 1) (qz r) (qz x) (cs f d a ni j) = some (qz (if x < L r then T (200 * r + x) else -1)) := by
  obtain ⟨g1, g2, g3, g4⟩ := SK.2.2.2 r r0 r1
  by_cases c : x < L r
  · rw [c_get (rwm_1 hm) SK.1 r0 (by rw [SK.2.1]; exact r1) x0 (by omega), (g4 x x0 c).1, if_pos c]
  · rw [c_get0 (rwm_1 hm) SK.1 (by omega) (by omega) (by omega) (by omega) (by omega), if_neg c]
theorem c_inst93 {v1 v4 v5 : Int32} {c o : Int} {W : List Int} (hn : 100000 ≤ n) (hS : S ≤ 300) (hm : mch m) (SK : RWL (m + 1) 32768 R S f a ni L T) (hR : R ≤ 100) (r0 : 0 ≤ r) (r1 : r < R) (c0 : 0 ≤ c) (c1 : c < 300) (s0 : 0 ≤ a (m + 7) c) (s1 : a (m + 7) c < R) (o0 : 0 ≤ o) (o1 : o < 20000) (hW : ∀ y, 0 ≤ y → y < L (a (m + 7) c) - 1 → W.getD (o + y).toNat 0 = T (200 * a (m + 7) c + 1 + y) ∧ o + y < W.length) (H : pms L T r W o.toNat) : (∃ k : Nat, (k : Int) = o + (L (a (m + 7) c) - 1) ∧ hp_lp (gL_X1_isInstance_93 n m v1 (qz r) v4 v5 (qz c) (qz (L (a (m + 7) c))) (cs f d a ni j)) n (qz o, qz 1) = some (.inl (qz k)) ∧ pms L T r W k) ∨ (hp_lp (gL_X1_isInstance_93 n m v1 (qz r) v4 v5 (qz c) (qz (L (a (m + 7) c))) (cs f d a ni j)) n (qz o, qz 1) = some (.inr (qz 0)) ∧ ¬ins L T r W) := by
  obtain ⟨g1, g2, g3, g4⟩ := SK.2.2.2 _ s0 s1
  obtain ⟨h1, h2, h3, h4⟩ := SK.2.2.2 _ r0 r1
  have lp := lp_ix (b := gL_X1_isInstance_93 n m v1 (qz r) v4 v5 (qz c) (qz (L (a (m + 7) c))) (cs f d a ni j)) (fun t s => s = (qz (o + (t - 1)), qz t) ∧ pms L T r W (o + (t - 1)).toNat) (Q := fun x => (∃ k : Nat, (k : Int) = o + (L (a (m + 7) c) - 1) ∧ x = .inl (qz k) ∧ pms L T r W k) ∨ (x = .inr (qz 0) ∧ ¬ins L T r W)) (L (a (m + 7) c)) (n := n) (i0 := 1) g2 (by omega) (c0 := (qz o, qz 1)) ⟨by rw [Int.sub_self, Int.add_zero], by rw [Int.sub_self, Int.add_zero]; exact H⟩ ?_ ?_
  · obtain ⟨x, ex, ⟨k, hk, rfl, hp⟩ | ⟨rfl, hi⟩⟩ := lp
    · exact Or.inl ⟨k, hk, ex, hp⟩
    · exact Or.inr ⟨ex, hi⟩
  · rintro t s t0 t1 ⟨rfl, hp⟩
    obtain ⟨w1, w2⟩ := hW (t - 1) (by omega) (by omega)
    rw [show 200 * a (m + 7) c + 1 + (t - 1) = 200 * a (m + 7) c + t by omega] at w1
    obtain ⟨q1, q2, q3⟩ := g4 t (by omega) t1
    unfold gL_X1_isInstance_93 g_X1_isInstance_93
    simp only [zl0, zl1]
    rw [if_neg (by rw [qz_le (by omega) (by omega) (by omega) (by omega)]; omega), gpm_0 hm, c_sget hm SK r0 r1 hR (by omega) (by omega), bd_some, gpm_3 hm, gam_7 hm c0 c1, bd_some, c_sget hm SK s0 s1 hR (by omega) (by omega), bd_some, if_pos t1]
    have hkk : (((o + (t - 1)).toNat : Nat) : Int) = o + (t - 1) := by omega
    by_cases y : o + (t - 1) < L r
    · obtain ⟨p1, p2, p3⟩ := h4 (o + (t - 1)) (by omega) y
      rw [if_pos y]
      by_cases e : T (200 * r + (o + (t - 1))) = T (200 * a (m + 7) c + t)
      · rw [if_pos (by rw [e]), qz_add, qz_add]
        refine Or.inl ⟨_, rfl, by rw [show o + (t + 1 - 1) = o + (t - 1) + 1 by omega], ?_⟩
        rw [show (o + (t + 1 - 1)).toNat = (o + (t - 1)).toNat + 1 by omega]
        exact pms_s hp (by omega) (by rw [hkk, e, w1])
      · rw [if_neg (by rw [qz_inj (by omega) (by omega) (by omega) (by omega)]; exact e)]
        refine Or.inr ⟨_, rfl, Or.inr ⟨rfl, fun z => e ?_⟩⟩
        have := z.2 (o + (t - 1)).toNat (by omega)
        rw [hkk, w1] at this
        exact this
    · rw [if_neg y, if_neg (by rw [qz_inj (by omega) (by omega) (by omega) (by omega)]; omega)]
      exact Or.inr ⟨_, rfl, Or.inr ⟨rfl, fun z => by have := z.1; omega⟩⟩
  · rintro s ⟨rfl, hp⟩
    refine ⟨.inl (qz (o + (L (a (m + 7) c) - 1))), ?_, Or.inl ⟨(o + (L (a (m + 7) c) - 1)).toNat, by omega, by rw [show (((o + (L (a (m + 7) c) - 1)).toNat : Nat) : Int) = o + (L (a (m + 7) c) - 1) by omega], hp⟩⟩
    unfold gL_X1_isInstance_93 g_X1_isInstance_93
    rw [if_pos (by rw [qz_le (by omega) (by omega) (by omega) (by omega)]; omega)]
theorem c_isInst (hn : 100000 ≤ n) (hm : mch m) (hb : bks b) (hd : d (mi m) = b) (G : BK b q S K P len f a ni j A J) (h0 : 0 ≤ h) (h1 : h < K) (SK : RWL (m + 1) 32768 R S f a ni L T) (hR : R ≤ 100) (r0 : 0 ≤ r) (r1 : r < R) (hs : ∀ i, 0 ≤ i → i < A 12 (200 * q + h) → a (b + 7) (fsy q h (A 11) (A 16) i) = 1 → 0 ≤ a (m + 7) (fsy q h (A 11) (A 16) i) ∧ a (m + 7) (fsy q h (A 11) (A 16) i) < R) : g_X1_isInstance n m (qz h) (qz r) (cs f d a ni j) = some (qp (ins L T r (sbl (fsy q h (A 11) (A 16)) (a (b + 7)) (a (m + 7)) L T (A 12 (200 * q + h)).toNat))) := by
  have hS : S ≤ 300 := G.2.1.2.1
  obtain ⟨f1, f2', f3, f4, f5, f6, f7, f8, f9, f10, f11⟩ := bk_f G h0 h1
  have hbig := (c_sizeOf (n := n) hn hm hb hd G h0 h1 SK hR hs).2
  have hsy := fun i i0 i1 => fsy_r G h0 h1 (i := i) i0 i1
  have hfg := fun i i0 i1 => c_fget (n := n) (d := d) hb G h0 h1 (i := i) i0 i1
  obtain ⟨g1, g2, g3, g4⟩ := SK.2.2.2 _ r0 r1
  generalize hsyd : fsy q h (A 11) (A 16) = sy at *
  generalize hW : sbl sy (a (b + 7)) (a (m + 7)) L T (A 12 (200 * q + h)).toNat = W
  have lp := lp_ix (b := gL_X1_isInstance_18 n m (qz h) (qz r) (qz (A 12 (200 * q + h))) (cs f d a ni j)) (fun i s => s = (qz (sbl sy (a (b + 7)) (a (m + 7)) L T i.toNat).length, qz i) ∧ pms L T r W (sbl sy (a (b + 7)) (a (m + 7)) L T i.toNat).length) (Q := fun x => (x = .inl (qz W.length) ∧ pms L T r W W.length) ∨ (x = .inr (qz 0) ∧ ¬ins L T r W)) (A 12 (200 * q + h)) (n := n) (i0 := 0) (by omega) (by omega) (c0 := (qz 0, qz 0)) ⟨rfl, by
      refine ⟨?_, fun x hx => absurd hx (Nat.not_lt_zero _)⟩
      show (0 : Int) ≤ L r
      omega⟩ ?_ ?_
  · obtain ⟨x, ex, hx⟩ := lp
    unfold g_X1_isInstance g_X1_isInstance_0
    rw [gpm_2 hm, hd, gpb_9 hb, c_fsz hb G h0 h1, bd_some, zl0, ex, bd_some]
    rcases hx with ⟨rfl, hp⟩ | ⟨rfl, hi⟩
    · have hwl := hbig (A 12 (200 * q + h)).toNat (by omega)
      rw [hW] at hwl
      rw [Sum.elim_inl, gpm_0 hm, c_size (rwm_1 hm) SK.1 r0 (by rw [SK.2.1]; exact r1), bd_some, g1]
      by_cases e : (W.length : Int) = L r
      · rw [if_pos (by rw [e]), qp_T (show ins L T r W from ⟨e.symm, hp.2⟩)]
        rfl
      · rw [if_neg (by rw [qz_inj (by omega) (by omega) (by omega) (by omega)]; exact e), qp_F (fun z => e z.1.symm)]
    · rw [Sum.elim_inr, qp_F hi]
  · rintro i s i0 i1 ⟨rfl, hp⟩
    obtain ⟨y1, y2, y3, y4⟩ := hsy i i0 i1
    have en : (i + 1).toNat = i.toNat + 1 := by omega
    have ei : ((i.toNat : Nat) : Int) = i := by omega
    have el := sbl_l (sy := sy) (va := a (b + 7)) (sf := a (m + 7)) (L := L) (T := T) (i := i.toNat)
    have hat := fun y hy => sbl_at (sy := sy) (va := a (b + 7)) (sf := a (m + 7)) (L := L) (T := T) (i := i.toNat) (c := (A 12 (200 * q + h)).toNat) (y := y) (by omega) hy
    rw [hW, ei] at hat
    rw [ei] at el
    have hb0 := hbig i.toNat (by omega)
    unfold gL_X1_isInstance_18 g_X1_isInstance_18 g_X1_isInstance_139
    simp only [zl0, zl1]
    rw [if_neg (by rw [qz_le (by omega) (by omega) (by omega) (by omega)]; omega), gpm_2 hm, hd, gpb_9 hb, hfg i i0 i1, bd_some, c_var hb G y1 y2, bd_some]
    by_cases c : a (b + 7) (sy i) = 1
    · obtain ⟨z1, z2⟩ := hs i i0 i1 c
      obtain ⟨w1, w2, w3, w4⟩ := SK.2.2.2 _ z1 z2
      have el1 := sbt_1 (va := a (b + 7)) (sf := a (m + 7)) (L := L) (T := T) c w2
      rw [qp_T c, if_neg n10, gpm_3 hm, gam_7 hm y1 (by omega), bd_some, gpm_0 hm, c_size (rwm_1 hm) SK.1 z1 (by rw [SK.2.1]; exact z2), bd_some, w1]
      have h93 := c_inst93 (n := n) (d := d) (j := j) (v1 := qz h) (v4 := qz (A 12 (200 * q + h))) (v5 := qz i) (c := sy i) (o := ((sbl sy (a (b + 7)) (a (m + 7)) L T i.toNat).length : Int)) (W := W) hn hS hm SK hR r0 r1 y1 (by omega) z1 z2 (by omega) (by omega) (fun y yy0 yy1 => by
        obtain ⟨v1', v2'⟩ := hat y.toNat (by omega)
        rw [show (((sbl sy (a (b + 7)) (a (m + 7)) L T i.toNat).length : Int) + y).toNat = (sbl sy (a (b + 7)) (a (m + 7)) L T i.toNat).length + y.toNat by omega, v1']
        refine ⟨?_, by omega⟩
        unfold sbt
        rw [if_pos c, getD_nmb (by omega), show ((y.toNat : Nat) : Int) = y by omega]) (by rw [show ((((sbl sy (a (b + 7)) (a (m + 7)) L T i.toNat).length : Nat) : Int)).toNat = (sbl sy (a (b + 7)) (a (m + 7)) L T i.toNat).length by omega]; exact hp)
      rcases h93 with ⟨k, hk, ek, hpk⟩ | ⟨ek, hi⟩
      · rw [ek, bd_some, Sum.elim_inl, qz_add]
        have ekk : k = (sbl sy (a (b + 7)) (a (m + 7)) L T (i + 1).toNat).length := by
          rw [en]
          omega
        exact Or.inl ⟨_, rfl, by rw [ekk], by rw [← ekk]; exact hpk⟩
      · rw [ek, bd_some, Sum.elim_inr]
        exact Or.inr ⟨_, rfl, Or.inr ⟨rfl, hi⟩⟩
    · have e1 : sbt (a (b + 7)) (a (m + 7)) L T (sy i) = [sy i] := sbt_0 c
      rw [e1] at el hat
      have hl1 : (([sy i] : List Int).length : Int) = 1 := rfl
      obtain ⟨v1', v2'⟩ := hat 0 (by show 0 < 1; omega)
      have v1' : W.getD (sbl sy (a (b + 7)) (a (m + 7)) L T i.toNat).length 0 = sy i := v1'
      rw [qp_F c, if_pos rfl, gpm_0 hm, c_sget hm SK r0 r1 hR (by omega) (by omega), bd_some]
      by_cases y : ((sbl sy (a (b + 7)) (a (m + 7)) L T i.toNat).length : Int) < L r
      · obtain ⟨p1, p2, p3⟩ := g4 _ (by omega) y
        rw [if_pos y]
        by_cases e : T (200 * r + (sbl sy (a (b + 7)) (a (m + 7)) L T i.toNat).length) = sy i
        · rw [if_pos (by rw [e]), qz_add, qz_add]
          have hpk := pms_s hp y (by rw [e, v1'])
          have ekk : (sbl sy (a (b + 7)) (a (m + 7)) L T i.toNat).length + 1 = (sbl sy (a (b + 7)) (a (m + 7)) L T (i + 1).toNat).length := by
            rw [en]
            omega
          rw [ekk] at hpk
          exact Or.inl ⟨_, rfl, by rw [← ekk]; rfl, hpk⟩
        · rw [if_neg (by rw [qz_inj (by omega) (by omega) (by omega) (by omega)]; exact e)]
          refine Or.inr ⟨_, rfl, Or.inr ⟨rfl, fun z => e ?_⟩⟩
          have := z.2 (sbl sy (a (b + 7)) (a (m + 7)) L T i.toNat).length (by omega)
          rw [this, v1']
      · rw [if_neg y, if_neg (by rw [qz_inj (by omega) (by omega) (by omega) (by omega)]; omega)]
        refine Or.inr ⟨_, rfl, Or.inr ⟨rfl, fun z => ?_⟩⟩
        have := z.1
        omega
  · rintro s ⟨rfl, hp⟩
    rw [hW] at hp ⊢
    refine ⟨_, ?_, Or.inl ⟨rfl, hp⟩⟩
    unfold gL_X1_isInstance_18 g_X1_isInstance_18
    rw [if_pos (by rw [qz_le (by omega) (by omega) (by omega) (by omega)]; omega)]
end INS
