/-! A thing and a hypothesis: class and reference -/
section FIT
variable {n m b : Nat} {q S K P len h R r s : Int} {f : Nat → Nat → Int} {d : Nat → Nat} {a : Nat → Int → Int} {ni : Nat → Nat} {j : Nat → Int → Int64} {F : Nat → Int} {A : Nat → Int → Int} {J : Nat → Int → Int64} {sy va sf L T : Int → Int}
theorem zlm5 : (-5 : Int32) = qz (-5) := id rfl
theorem zlm6 : (-6 : Int32) = qz (-6) := id rfl
theorem sbl_rng (c : Nat) (h1 : ∀ i : Nat, i < c → 0 ≤ sy i ∧ sy i < S) (h2 : ∀ i : Nat, i < c → va (sy i) = 1 → 1 ≤ L (sf (sy i)) ∧ ∀ x, 0 ≤ x → x < L (sf (sy i)) → 0 ≤ T (200 * sf (sy i) + x) ∧ T (200 * sf (sy i) + x) < S) : ∀ x : Nat, x < (sbl sy va sf L T c).length → 0 ≤ (sbl sy va sf L T c).getD x 0 ∧ (sbl sy va sf L T c).getD x 0 < S := by
  induction c with
  | zero => exact fun x hx => absurd hx (Nat.not_lt_zero _)
  | succ c ih =>
    intro x hx
    rw [sbl_s] at hx ⊢
    by_cases e : x < (sbl sy va sf L T c).length
    · rw [getD_al e]
      exact ih (fun i hi => h1 i (by omega)) (fun i hi => h2 i (by omega)) x e
    · rw [List.length_append] at hx
      have e2 := getD_ar (L1 := sbl sy va sf L T c) (L2 := sbt va sf L T (sy c)) (x := x - (sbl sy va sf L T c).length)
      rw [show (sbl sy va sf L T c).length + (x - (sbl sy va sf L T c).length) = x by omega] at e2
      rw [e2]
      by_cases y : va (sy c) = 1
      · obtain ⟨z1, z2⟩ := h2 c (by omega) y
        have el := sbt_1 (va := va) (sf := sf) (L := L) (T := T) y z1
        unfold sbt at el hx ⊢
        rw [if_pos y] at el hx ⊢
        rw [nmb_len] at hx
        rw [getD_nmb (by omega), show 200 * sf (sy c) + 1 + ((x - (sbl sy va sf L T c).length : Nat) : Int) = 200 * sf (sy c) + (1 + ((x - (sbl sy va sf L T c).length : Nat) : Int)) by omega]
        exact z2 _ (by omega) (by omega)
      · rw [sbt_0 y] at hx ⊢
        have : x - (sbl sy va sf L T c).length = 0 := by
          have : ([sy c] : List Int).length = 1 := rfl
          omega
        rw [this]
        exact h1 c (by omega)
theorem m_meetsE (hn : 100000 ≤ n) (hq : 0 ≤ q ∧ q ≤ 1) (h4 : F 4 = q) (G : BK b q S K P len f a ni j A J) (h0 : 0 ≤ h) (h1 : h < K) (hk : a (b + 8) h = 1) (r0 : 0 ≤ r) (r1 : r < 100) (hr : 1 ≤ A 38 r ∧ A 38 r ≤ 200 ∧ ∀ x, 0 ≤ x → x < A 38 r → 0 ≤ A 37 (200 * r + x) ∧ A 37 (200 * r + x) < S) (hs : ∀ i, 0 ≤ i → i < A 12 (200 * q + h) → a (b + 7) (fsy q h (A 11) (A 16) i) = 1 → 0 ≤ A 43 (fsy q h (A 11) (A 16) i) ∧ A 43 (fsy q h (A 11) (A 16) i) < 100 ∧ 1 ≤ A 38 (A 43 (fsy q h (A 11) (A 16) i)) ∧ A 38 (A 43 (fsy q h (A 11) (A 16) i)) ≤ 200 ∧ ∀ x, 0 ≤ x → x < A 38 (A 43 (fsy q h (A 11) (A 16) i)) → 0 ≤ A 37 (200 * A 43 (fsy q h (A 11) (A 16) i) + x) ∧ A 37 (200 * A 43 (fsy q h (A 11) (A 16) i) + x) < S) : ∃ B : Int → Int, (ins (A 38) (A 37) r (sbl (fsy q h (A 11) (A 16)) (a (b + 7)) (A 43) (A 38) (A 37) (A 12 (200 * q + h)).toNat) → g_X11_meets n 0 (qz s) (qz h) (qz r) (ms F A J) = some (qz 1, ms F (u1 A 42 B) J)) ∧ (¬ins (A 38) (A 37) r (sbl (fsy q h (A 11) (A 16)) (a (b + 7)) (A 43) (A 38) (A 37) (A 12 (200 * q + h)).toNat) → g_X11_meets n 0 (qz s) (qz h) (qz r) (ms F A J) = some (qz 0, ms (u1 (u1 F 54 (-6)) 55 s) (u1 A 42 B) J)) := by
  have hS : S ≤ 300 := G.2.1.2.1
  have hK : K ≤ 200 := G.2.1.2.2.2.1
  have gk := G.2.2.2.1 h h0 h1
  obtain ⟨B, eB, hB⟩ := m_subst (n := n) (F := F) (J := J) hn hq h4 G h0 h1 (fun i i0 i1 i2 => by
    obtain ⟨z1, z2, z3, z4, _⟩ := hs i i0 i1 i2
    exact ⟨z1, z2, z3, z4⟩)
  have hrng := sbl_rng (sy := fsy q h (A 11) (A 16)) (va := a (b + 7)) (sf := A 43) (L := A 38) (T := A 37) (S := S) (A 12 (200 * q + h)).toNat (fun i hi => by
    obtain ⟨y1, y2, _⟩ := fsy_r G h0 h1 (i := i) (by omega) (by omega)
    exact ⟨y1, y2⟩) (fun i hi hv => by
    obtain ⟨z1, z2, z3, z4, z5⟩ := hs i (by omega) (by omega) hv
    exact ⟨z3, z5⟩)
  generalize hW : sbl (fsy q h (A 11) (A 16)) (a (b + 7)) (A 43) (A 38) (A 37) (A 12 (200 * q + h)).toNat = W at *
  refine ⟨B, ?_⟩
  have e0 : g_X11_meets n 0 (qz s) (qz h) (qz r) (ms F A J) = if (if (W.length : Int) ≤ 200 then (W.length : Int) else 201) = A 38 r then g_X11_meets_115 n 0 (qz s) (qz r) (qz (if (W.length : Int) ≤ 200 then (W.length : Int) else 201)) (qz 1) (ms F (u1 A 42 B) J) else g_X11_meets_115 n 0 (qz s) (qz r) (qz (if (W.length : Int) ≤ 200 then (W.length : Int) else 201)) (qz 0) (ms F (u1 A 42 B) J) := by
    have hl : 0 ≤ (if (W.length : Int) ≤ 200 then (W.length : Int) else 201) ∧ (if (W.length : Int) ≤ 200 then (W.length : Int) else 201) ≤ 201 := by
      by_cases y : (W.length : Int) ≤ 200
      · rw [if_pos y]; omega
      · rw [if_neg y]; omega
    generalize (if (W.length : Int) ≤ 200 then (W.length : Int) else 201) = wl at *
    unfold g_X11_meets g_X11_meets_0
    simp only [zl0, zl1]
    rw [m_at h4, bd_some, gp_10, ga_7 (by omega) (by omega), bd_some, if_neg (by rw [qz_inj (by omega) (by omega) (by omega) (by omega)]; omega), eB, bd_some, gp_57, ga_38 r0 r1, u1_o (by decide), bd_some]
    simp (disch := omega) only [qz_inj]
  have e168 : ∀ v : Int, (v = 0 ∨ v = 1) → g_X11_meets_168 n 0 (qz s) (qz v) (ms F (u1 A 42 B) J) = if v = 0 then some (qz 0, ms (u1 (u1 F 54 (-6)) 55 s) (u1 A 42 B) J) else some (qz 1, ms F (u1 A 42 B) J) := by
    intro v hv
    unfold g_X11_meets_168 g_X11_meets_183
    simp only [zl0, zl1, zlm6]
    rw [m_fails, bd_some]
    rcases hv with rfl | rfl
    · rw [if_pos rfl, if_pos rfl, if_pos rfl]
    · rw [if_neg n10, if_neg (by omega)]
  by_cases cl : (W.length : Int) ≤ 200 ∧ (W.length : Int) = A 38 r
  · rw [if_pos cl.1, if_pos cl.2] at e0
    have lp := lp_brk (b := gL_X11_meets_120 n 0 (qz s) (qz r) (qz (W.length : Int)) (ms F (u1 A 42 B) J)) (fun i => (qz 1, qz i)) (fun i => (qz 0, qz i)) (fun Q => qp Q) (fun x => W.getD x.toNat 0 = A 37 (200 * r + x)) (n := n) (lo := 0) (W.length : Int) (by omega) (by omega) ?_ ?_ ?_ ?_
    · unfold g_X11_meets_115 at e0
      rw [zl0, lp, bd_some] at e0
      have hiff : ins (A 38) (A 37) r W ↔ ∀ x, 0 ≤ x → x < (W.length : Int) → W.getD x.toNat 0 = A 37 (200 * r + x) := by
        constructor
        · intro z x x0 x1
          have := z.2 x.toNat (by omega)
          rw [show ((x.toNat : Nat) : Int) = x by omega] at this
          exact this.symm
        · intro z
          refine ⟨cl.2.symm, fun x hx => ?_⟩
          have := z x (by omega) (by omega)
          rw [show (x : Int).toNat = x by omega] at this
          exact this.symm
      refine ⟨fun z => ?_, fun z => ?_⟩
      · rw [e0, qp_T (hiff.mp z), e168 1 (Or.inr rfl), if_neg (by omega)]
      · rw [e0, qp_F (fun y => z (hiff.mpr y)), e168 0 (Or.inl rfl), if_pos rfl]
    · intro i i0 i1 hp
      have hb := hB cl.1 i.toNat (by omega)
      rw [show ((i.toNat : Nat) : Int) = i by omega] at hb
      unfold gL_X11_meets_120 g_X11_meets_120 g_X11_meets_160
      simp only [zl0, zl1]
      rw [if_neg (by rw [qz_le (by omega) (by omega) (by omega) (by omega)]; omega), if_neg n10, gp_62, ga_42 (by omega) (by omega), u1_s, bd_some, m_thing, bd_some, qz_add, gp_56, ga_37 (by omega) (by omega), u1_o (by decide), bd_some, if_pos (by rw [hb, hp]), qz_add]
    · intro i i0 i1 hp
      have hb := hB cl.1 i.toNat (by omega)
      have hb2 := hrng i.toNat (by omega)
      have hb3 := hr.2.2 i i0 (by omega)
      rw [show ((i.toNat : Nat) : Int) = i by omega] at hb
      unfold gL_X11_meets_120 g_X11_meets_120 g_X11_meets_160
      simp only [zl0, zl1]
      rw [if_neg (by rw [qz_le (by omega) (by omega) (by omega) (by omega)]; omega), if_neg n10, gp_62, ga_42 (by omega) (by omega), u1_s, bd_some, m_thing, bd_some, qz_add, gp_56, ga_37 (by omega) (by omega), u1_o (by decide), bd_some, if_neg (by rw [hb, qz_inj (by omega) (by omega) (by omega) (by omega)]; exact hp), qz_add]
    · intro i i0 i1
      unfold gL_X11_meets_120 g_X11_meets_120
      simp only [zl0]
      rw [if_pos trivial, ite_self, qpF]
    · unfold gL_X11_meets_120 g_X11_meets_120
      simp only [zl0]
      rw [if_pos (by rw [qz_le (by omega) (by omega) (by omega) (by omega)]; omega), qpT]
  · have hne : ¬((if (W.length : Int) ≤ 200 then (W.length : Int) else 201) = A 38 r) := by
      by_cases y : (W.length : Int) ≤ 200
      · rw [if_pos y]; exact fun z => cl ⟨y, z⟩
      · rw [if_neg y]; omega
    rw [if_neg hne] at e0
    have hni : ¬ins (A 38) (A 37) r W := by
      intro z
      have := z.1
      by_cases y : (W.length : Int) ≤ 200
      · exact cl ⟨y, this.symm⟩
      · omega
    refine ⟨fun z => absurd z hni, fun _ => ?_⟩
    unfold g_X11_meets_115 at e0
    have e3 : ∀ v, hp_lp (gL_X11_meets_120 n 0 (qz s) (qz r) v (ms F (u1 A 42 B) J)) n (qz 0, qz 0) = some (qz 0) := by
      intro v
      obtain ⟨n, rfl⟩ : ∃ x, n = x + 1 := ⟨n - 1, by omega⟩
      apply hp_lp_x
      unfold gL_X11_meets_120 g_X11_meets_120
      simp only [zl0]
      rw [if_pos trivial, ite_self]
    rw [zl0, e3, bd_some, e168 0 (Or.inl rfl), if_pos rfl] at e0
    exact e0
/-- a thing and a hypothesis, both: X are the variables for which something stands -/
theorem fit_step {X : Int → Prop} (hn : 100000 ≤ n) (hm : mch m) (hb : bks b) (hd : d (mi m) = b) (hq : 0 ≤ q ∧ q ≤ 1) (h4 : F 4 = q) (G : BK b q S K P len f a ni j A J) (h0 : 0 ≤ h) (h1 : h < K) (hk : a (b + 8) h < 2) (SK : RWL (m + 1) 32768 R S f a ni (A 38) (A 37)) (hR : R ≤ 100) (r0 : 0 ≤ r) (r1 : r < R) (hX : ∀ x, X x → a (m + 7) x = A 43 x ∧ 0 ≤ A 43 x ∧ A 43 x < R) (hv : a (b + 8) h = 1 → ∀ i, 0 ≤ i → i < A 12 (200 * q + h) → a (b + 7) (fsy q h (A 11) (A 16) i) = 1 → X (fsy q h (A 11) (A 16) i)) : ∃ (a2 A2 : Nat → Int → Int), (∀ i, i ≠ m + 7 → a2 i = a i) ∧ (∀ i, i ≠ 42 → i ≠ 43 → A2 i = A i) ∧ ((g_X1_fit n m (qz h) (qz r) (cs f d a ni j) = some (qz 0, cs f d a2 ni j) ∧ g_X11_meets n 0 (qz s) (qz h) (qz r) (ms F A J) = some (qz 1, ms F A2 J) ∧ ∀ x, (X x ∨ (a (b + 8) h = 0 ∧ x = fsy q h (A 11) (A 16) 1)) → a2 (m + 7) x = A2 43 x ∧ 0 ≤ A2 43 x ∧ A2 43 x < R) ∨ ∃ z, (z = -5 ∨ z = -6) ∧ g_X1_fit n m (qz h) (qz r) (cs f d a ni j) = some (qz z, cs f d a2 ni j) ∧ g_X11_meets n 0 (qz s) (qz h) (qz r) (ms F A J) = some (qz 0, ms (u1 (u1 F 54 z) 55 s) A2 J)) := by
  have hS : S ≤ 300 := G.2.1.2.1
  have hK : K ≤ 200 := G.2.1.2.2.2.1
  have gk := G.2.2.2.1 h h0 h1
  obtain ⟨f1, f2', f3, f4, f5, f6, f7, f8, f9, f10, f11⟩ := bk_f G h0 h1
  obtain ⟨g1, g2, g3, g4⟩ := SK.2.2.2 r r0 r1
  have e0 : g_X1_fit n m (qz h) (qz r) (cs f d a ni j) = if a (b + 8) h = 1 then (g_X1_isInstance n m (qz h) (qz r) (cs f d a ni j)).bind fun x15 => if x15 = qz 0 then some (qz (-6), cs f d a ni j) else some (qz 0, cs f d a ni j) else (if A 37 (200 * r) = fsy q h (A 11) (A 16) 0 then (g_X5_get n (b + 11) (qz h) (qz 1) (cs f d a ni j)).bind fun x12 => (uA 0 (cs f d a ni j) (m + 7) x12 (qz r)).bind fun w13 => some (qz 0, w13) else some (qz (-5), cs f d a ni j)) := by
    have z1 := g4 0 (by omega) (by omega)
    have z2 := fsy_r G h0 h1 (i := 0) (by omega) (by omega)
    unfold g_X1_fit g_X1_fit_0
    simp only [zl0, zl1, zlm5, zlm6]
    rw [gpm_2 hm, hd, gpb_6 hb, gab_8 hb h0 (by omega), bd_some, gpm_0 hm, c_sget hm SK r0 r1 hR (by omega) (by omega), bd_some, if_pos (show (0 : Int) < A 38 r by omega), gpb_9 hb, c_fget hb G h0 h1 (by omega) (by omega), bd_some, gpm_3 hm, Int.add_zero]
    simp only [Int.add_zero] at z1
    simp (disch := omega) only [qz_inj]
  by_cases c1 : a (b + 8) h = 1
  · rw [if_pos c1] at e0
    have hv' := hv c1
    obtain ⟨B, hB1, hB2⟩ := m_meetsE (n := n) (s := s) (F := F) (J := J) hn hq h4 G h0 h1 c1 r0 (by omega) ⟨g2, g3, fun x x0 x1 => (g4 x x0 x1).2⟩ (fun i i0 i1 i2 => by
      obtain ⟨z1, z2, z3⟩ := hX _ (hv' i i0 i1 i2)
      obtain ⟨w1, w2, w3, w4⟩ := SK.2.2.2 _ z2 z3
      exact ⟨z2, by omega, w2, w3, fun x x0 x1 => (w4 x x0 x1).2⟩)
    have ei := c_isInst (n := n) hn hm hb hd G h0 h1 SK hR r0 r1 (fun i i0 i1 i2 => by
      obtain ⟨z1, z2, z3⟩ := hX _ (hv' i i0 i1 i2)
      rw [z1]
      exact ⟨z2, z3⟩)
    rw [sbl_c (sf2 := A 43) (A 12 (200 * q + h)).toNat (fun x hx hvx => (hX _ (hv' x (by omega) (by omega) hvx)).1)] at ei
    rw [ei, bd_some] at e0
    refine ⟨a, u1 A 42 B, fun _ _ => rfl, fun i i1 i2 => u1_o i1, ?_⟩
    by_cases c2 : ins (A 38) (A 37) r (sbl (fsy q h (A 11) (A 16)) (a (b + 7)) (A 43) (A 38) (A 37) (A 12 (200 * q + h)).toNat)
    · rw [qp_T c2, if_neg n10] at e0
      refine Or.inl ⟨e0, hB1 c2, fun x hx => ?_⟩
      rw [u1_o (by decide)]
      rcases hx with hx | hx
      · exact hX x hx
      · omega
    · rw [qp_F c2, if_pos rfl] at e0
      exact Or.inr ⟨-6, Or.inr rfl, e0, hB2 c2⟩
  · have k0 : a (b + 8) h = 0 := by omega
    have l2 := f11 (by omega)
    rw [if_neg c1] at e0
    have z1 := g4 0 (by omega) (by omega)
    have z2 := fsy_r G h0 h1 (i := 0) (by omega) (by omega)
    have z3 := fsy_r G h0 h1 (i := 1) (by omega) (by omega)
    simp only [Int.add_zero] at z1
    have eM : g_X11_meets n 0 (qz s) (qz h) (qz r) (ms F A J) = if A 37 (200 * r) = fsy q h (A 11) (A 16) 0 then some (qz 1, ms F (v2 A 43 (fsy q h (A 11) (A 16) 1) r) J) else some (qz 0, ms (u1 (u1 F 54 (-5)) 55 s) A J) := by
      unfold g_X11_meets g_X11_meets_0
      simp only [zl0, zl1, zl4096, zlm5]
      rw [m_at h4, bd_some, gp_10, ga_7 (by omega) (by omega), bd_some, if_pos (by rw [← gk.1, k0]), m_thing, bd_some, gp_56, ga_37 (by omega) (by omega), bd_some, bd_some, gp_14, ga_11 (by omega) (by omega), bd_some, gf_ms, h4, qz_mul, qz_add, gp_19, ga_16 (by omega) (by omega), bd_some, bd_some, ga_11 (by omega) (by omega), bd_some, qz_add, qz_add, ga_16 (by omega) (by omega), bd_some, show A 16 (4096 * q + A 11 (200 * q + h)) = fsy q h (A 11) (A 16) 0 from (by unfold fsy; rw [Int.add_zero]), show A 16 (4096 * q + A 11 (200 * q + h) + 1) = fsy q h (A 11) (A 16) 1 from rfl, m_fails, bd_some, hp_bz_0, bd_some, gp_63, ua_43 z3.1 (by omega), bd_some]
      simp (disch := omega) only [qz_inj]
    by_cases c2 : A 37 (200 * r) = fsy q h (A 11) (A 16) 0
    · rw [if_pos c2, c_fget hb G h0 h1 (by omega) (by omega), bd_some, uam_7 hm z3.1 (by omega), bd_some] at e0
      rw [if_pos c2] at eM
      refine ⟨_, _, fun i hi => v2_o hi, fun i i1 i2 => v2_o i2, Or.inl ⟨e0, eM, fun x hx => ?_⟩⟩
      rw [v2_s, v2_s]
      by_cases e : x = fsy q h (A 11) (A 16) 1
      · rw [e, v1_s, v1_s]
        exact ⟨rfl, r0, r1⟩
      · rw [v1_o e, v1_o e]
        rcases hx with hx | hx
        · exact hX x hx
        · exact absurd hx.2 e
    · rw [if_neg c2] at e0 eM
      exact ⟨a, A, fun _ _ => rfl, fun _ _ _ => rfl, Or.inr ⟨-5, Or.inl rfl, e0, eM⟩⟩
end FIT
