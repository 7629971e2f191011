/-! An instance is put on the stack: the class -/
section PIN
variable {n m b : Nat} {q S K P len h R N bs : Int} {f : Nat → Nat → Int} {d : Nat → Nat} {a : Nat → Int → Int} {ni : Nat → Nat} {j : Nat → Int → Int64} {A : Nat → Int → Int} {J : Nat → Int → Int64} {L T L2 T2 : Int → Int}
theorem c_pushInst (hn : 100000 ≤ n) (hm : mch m) (hb : bks b) (hd : d (mi m) = b) (G : BK b q S K P len f a ni j A J) (h0 : 0 ≤ h) (h1 : h < K) (SK : RWL (m + 1) 32768 R S f a ni L T) (hR : R ≤ 100) (hs : ∀ i, 0 ≤ i → i < A 12 (200 * q + h) → a (b + 7) (fsy q h (A 11) (A 16) i) = 1 → 0 ≤ a (m + 7) (fsy q h (A 11) (A 16) i) ∧ a (m + 7) (fsy q h (A 11) (A 16) i) < R) (W : List Int) (hW : sbl (fsy q h (A 11) (A 16)) (a (b + 7)) (a (m + 7)) L T (A 12 (200 * q + h)).toNat = W) (w0 : 1 ≤ (W.length : Int)) (w1 : (W.length : Int) ≤ 200) (hL : L2 R = W.length) (hL2 : ∀ r, 0 ≤ r → r < R → L2 r = L r) (hT : ∀ x : Nat, x < W.length → T2 (200 * R + x) = W.getD x 0) (hT2 : ∀ y, 0 ≤ y → y < 200 * R → T2 y = T y) : ∃ f2 a2 ni2, g_X1_pushInstance n m (qz h) (cs f d a ni j) = some (cs f2 d a2 ni2 j) ∧ RWL (m + 1) 32768 (R + 1) S f2 a2 ni2 L2 T2 ∧ (∀ i, i ≠ m + 1 → f2 i = f i) ∧ (∀ i, i ≠ m + 1 + 1 → i ≠ m + 1 + 2 → a2 i = a i) ∧ ∀ i, i ≠ m + 1 + 1 → ni2 i = ni i := by
  have hbb : b = 1 ∨ b = 33 := hb
  have hmm : m = 83 ∨ m = 93 := hm
  have hS : S ≤ 300 := G.2.1.2.1
  have R0 := rwl_0 SK
  have hu := rwl_u SK R.toNat (by omega)
  rw [show ((R.toNat : Nat) : Int) = R by omega] at hu
  obtain ⟨f1, f2', f3, f4, f5, f6, f7, f8, f9, f10, f11⟩ := bk_f G h0 h1
  have hsy := fun i i0 i1 => fsy_r G h0 h1 (i := i) i0 i1
  have hrg := sbl_rng (sy := fsy q h (A 11) (A 16)) (va := a (b + 7)) (sf := a (m + 7)) (L := L) (T := T) (S := S) (A 12 (200 * q + h)).toNat (fun i hi => by
    obtain ⟨y1, y2, _⟩ := hsy i (by omega) (by omega)
    exact ⟨y1, y2⟩) (fun i hi hv => by
    obtain ⟨z1, z2⟩ := hs i (by omega) (by omega) hv
    obtain ⟨y1, y2, y3, y4⟩ := SK.2.2.2 _ z1 z2
    exact ⟨y2, fun x x0 x1 => (y4 x x0 x1).2⟩)
  rw [hW] at hrg
  have hsum : ∀ i : Nat, (i : Int) ≤ A 12 (200 * q + h) → (sbl (fsy q h (A 11) (A 16)) (a (b + 7)) (a (m + 7)) L T i).length ≤ W.length := by
    intro i hi
    have := sbl_m (sy := fsy q h (A 11) (A 16)) (va := a (b + 7)) (sf := a (m + 7)) (L := L) (T := T) i ((A 12 (200 * q + h)).toNat - i)
    rw [show i + ((A 12 (200 * q + h)).toNat - i) = (A 12 (200 * q + h)).toNat by omega, hW] at this
    exact this
  generalize hsyd : fsy q h (A 11) (A 16) = sy at *
  have lp := lp_inv (b := gL_X1_pushInstance_14 n m (qz h) (qz (A 12 (200 * q + h)))) (fun i c => ∃ (f3 : Nat → Nat → Int) (a3 : Nat → Int → Int) (ni3 : Nat → Nat), c = (qz i, cs f3 d a3 ni3 j) ∧ Rw (f3 (m + 1) 3) (f3 (m + 1) 2) (ni3 (m + 1 + 1)) (nC0 (m + 1 + 2)) 32768 (a3 (m + 1 + 2)) ∧ f3 (m + 1) 3 = R ∧ f3 (m + 1) 2 = a (m + 1 + 2) R + (sbl sy (a (b + 7)) (a (m + 7)) L T i.toNat).length ∧ (∀ t, t < a (m + 1 + 2) R → a3 (m + 1 + 1) t = a (m + 1 + 1) t) ∧ (∀ x : Nat, x < (sbl sy (a (b + 7)) (a (m + 7)) L T i.toNat).length → a3 (m + 1 + 1) (a (m + 1 + 2) R + x) = (sbl sy (a (b + 7)) (a (m + 7)) L T i.toNat).getD x 0) ∧ (∀ x, x ≠ m + 1 → f3 x = f x) ∧ (∀ x, x ≠ m + 1 + 1 → a3 x = a x) ∧ ∀ x, x ≠ m + 1 + 1 → ni3 x = ni x) (Q := fun st => ∃ (f3 : Nat → Nat → Int) (a3 : Nat → Int → Int) (ni3 : Nat → Nat), st = cs f3 d a3 ni3 j ∧ Rw (f3 (m + 1) 3) (f3 (m + 1) 2) (ni3 (m + 1 + 1)) (nC0 (m + 1 + 2)) 32768 (a3 (m + 1 + 2)) ∧ f3 (m + 1) 3 = R ∧ f3 (m + 1) 2 = a (m + 1 + 2) R + W.length ∧ (∀ t, t < a (m + 1 + 2) R → a3 (m + 1 + 1) t = a (m + 1 + 1) t) ∧ (∀ x : Nat, x < W.length → a3 (m + 1 + 1) (a (m + 1 + 2) R + x) = W.getD x 0) ∧ (∀ x, x ≠ m + 1 → f3 x = f x) ∧ (∀ x, x ≠ m + 1 + 1 → a3 x = a x) ∧ ∀ x, x ≠ m + 1 + 1 → ni3 x = ni x) (A 12 (200 * q + h)) (n := n) (i0 := 0) (by omega) (by omega) (c0 := (qz 0, cs f d a ni j)) ⟨f, a, ni, rfl, SK.1, SK.2.1, by rw [SK.2.2.1]; exact (Int.add_zero _).symm, fun _ _ => rfl, fun x hx => absurd hx (Nat.not_lt_zero _), fun _ _ => rfl, fun _ _ => rfl, fun _ _ => rfl⟩ ?_ ?_
  · obtain ⟨st, es, f3, a3, ni3, rfl, q1, q2, q3, q4, q5, q6, q7, q8⟩ := lp
    have e2 := c_endRow (f := f3) (d := d) (a := a3) (ni := ni3) (j := j) (n := n) (M := 32768) (rwm_1 hm) q1 (by rw [q2, ncm_1 hm]; omega)
    rw [q2, q3] at e2
    obtain ⟨e3, e4⟩ := e2
    refine ⟨u2 f3 (m + 1) 3 (R + 1), v2 a3 (m + 1 + 2) (R + 1) (a (m + 1 + 2) R + W.length), ni3, ?_, ⟨?_, by rw [u2_a], ?_, fun r r0 r1 => ?_⟩, fun i hi => by rw [u2_b hi]; exact q6 i hi, fun i i1 i2 => by rw [v2_o i2]; exact q7 i i1, q8⟩
    · unfold g_X1_pushInstance g_X1_pushInstance_0 g_X1_pushInstance_82
      rw [gpm_2 hm, hd, gpb_9 hb, c_fsz hb G h0 h1, bd_some, zl0, es, bd_some, gpm_0 hm, e3, bd_some]
    · rw [u2_a, u2_c (by decide), q3, v2_s]
      exact e4
    · rw [u2_c (by decide), q3, v2_s, v1_s]
    · rw [v2_s, v2_o (by omega), q7 (m + 1 + 2) (by omega)]
      by_cases e : r = R
      · rw [e, v1_s, v1_o (by omega), hL]
        refine ⟨by omega, w0, w1, fun x x0 x1 => ?_⟩
        have y1 := q5 x.toNat (by omega)
        have y2 := hT x.toNat (by omega)
        have y3 := hrg x.toNat (by omega)
        rw [show ((x.toNat : Nat) : Int) = x by omega] at y1 y2
        rw [y1, y2]
        exact ⟨rfl, y3⟩
      · obtain ⟨g1, g2, g3, g4⟩ := SK.2.2.2 r r0 (by omega)
        rw [v1_o (by omega), v1_o (by omega), hL2 r r0 (by omega)]
        refine ⟨g1, g2, g3, fun x x0 x1 => ?_⟩
        have hmn := SK.1.2.2.2.2.2.2.2.2.2.2.2 (r + 1) R (by omega) (by omega) (by rw [SK.2.1]; omega)
        rw [q4 _ (by omega), hT2 _ (by omega) (by omega)]
        exact g4 x x0 x1
  · rintro i st i0 i1 ⟨f3, a3, ni3, rfl, q1, q2, q3, q4, q5, q6, q7, q8⟩
    obtain ⟨y1, y2, y3, y4⟩ := hsy i i0 i1
    have en : (i + 1).toNat = i.toNat + 1 := by omega
    have ei : ((i.toNat : Nat) : Int) = i := by omega
    have el := sbl_l (sy := sy) (va := a (b + 7)) (sf := a (m + 7)) (L := L) (T := T) (i := i.toNat)
    rw [ei] at el
    have hle := hsum (i.toNat + 1) (by omega)
    have G3 : BK b q S K P len f3 a3 ni3 j A J := bk_eq G (fun x x1 x2 => q6 x (by omega)) (fun x x1 x2 => q7 x (by omega)) (fun x x1 x2 => q8 x (by omega)) rfl (fun _ _ _ => rfl) ⟨rfl, rfl⟩
    have e7 : a3 (b + 7) = a (b + 7) := q7 _ (by omega)
    have e72 : a3 (m + 1 + 2) = a (m + 1 + 2) := q7 _ (by omega)
    have em7 : a3 (m + 7) = a (m + 7) := q7 _ (by omega)
    have efg := c_fget (n := n) (d := d) hb G3 h0 h1 i0 i1
    rw [hsyd] at efg
    have eva := c_var (n := n) (d := d) hb G3 y1 y2
    rw [e7] at eva
    have body : gL_X1_pushInstance_14 n m (qz h) (qz (A 12 (200 * q + h))) (qz i, cs f3 d a3 ni3 j) = if qp (a (b + 7) (sy i) = 1) = qz 0 then (g_X5_add n (m + 1) (qz (sy i)) (cs f3 d a3 ni3 j)).bind fun x7 => some (.inl (qz (i + 1), x7)) else (g_X5_addFrom n (m + 1) (m + 1) (qz (a (m + 7) (sy i))) (qz 1) (cs f3 d a3 ni3 j)).bind fun x7 => some (.inl (qz (i + 1), x7)) := by
      unfold gL_X1_pushInstance_14 g_X1_pushInstance_14 g_X1_pushInstance_64 g_X1_pushInstance_76
      simp only [zl0, zl1]
      rw [if_neg (by rw [qz_le (by omega) (by omega) (by omega) (by omega)]; omega), gpm_2 hm, hd, gpb_9 hb, efg, bd_some, eva, bd_some, gpm_0 hm, gpm_3 hm, gam_7 hm y1 (by omega), bd_some, em7, qz_add]
    by_cases c : a (b + 7) (sy i) = 1
    · obtain ⟨z1, z2⟩ := hs i i0 i1 c
      obtain ⟨w1', w2, w3, w4⟩ := SK.2.2.2 _ z1 z2
      have el1 := sbt_1 (va := a (b + 7)) (sf := a (m + 7)) (L := L) (T := T) c w2
      have hmn := SK.1.2.2.2.2.2.2.2.2.2.2.2 (a (m + 7) (sy i) + 1) R (by omega) (by omega) (by rw [SK.2.1]; omega)
      have hm0 := SK.1.2.2.2.2.2.2.2.2.2.2.2 0 (a (m + 7) (sy i)) (by omega) z1 (by rw [SK.2.1]; omega)
      have hz0 : a (m + 1 + 2) 0 = 0 := SK.1.2.2.2.2.2.2.2.2.2.1
      obtain ⟨Gx, Nx, ex, x1, x2, x3⟩ := c_addFrom (f := f3) (d := d) (a := a3) (ni := ni3) (j := j) (n := n) (k := a (m + 7) (sy i)) (i := 1) (l := L (a (m + 7) (sy i)) - 1) (rwm_1 hm) (rwm_1 hm) q1 q1 z1 (by rw [q2]; exact z2) (by omega) (by rw [e72]; omega) (by omega) (by rw [q3]; omega) hn
      rw [qp_T c, if_neg n10, ex, bd_some] at body
      refine ⟨_, body, _, _, _, rfl, ?_, ?_, ?_, fun t ht => ?_, fun x hx => ?_, fun x hx => by rw [u2_b hx]; exact q6 x hx, fun x hx => by rw [u1_o hx]; exact q7 x hx, fun x hx => by rw [u1_o hx]; exact q8 x hx⟩
      · rw [u2_c (by decide), u2_a, u1_s, u1_o (by omega)]
        exact x3
      · rw [u2_c (by decide)]; exact q2
      · rw [u2_a, q3, en, el, el1]; omega
      · rw [u1_s, x1 t (by rw [q3]; omega)]; exact q4 t ht
      · rw [u1_s]
        rw [en] at hx ⊢
        rw [sbl_s, ei]
        by_cases e : x < (sbl sy (a (b + 7)) (a (m + 7)) L T i.toNat).length
        · rw [x1 _ (by rw [q3]; omega), getD_al e]
          exact q5 x e
        · have hx' : x - (sbl sy (a (b + 7)) (a (m + 7)) L T i.toNat).length < (sbt (a (b + 7)) (a (m + 7)) L T (sy i)).length := by
            rw [sbl_s, List.length_append, ei] at hx
            omega
          have hg := x2 ((x - (sbl sy (a (b + 7)) (a (m + 7)) L T i.toNat).length : Nat) : Int) (by omega) (by omega)
          rw [q3, show a (m + 1 + 2) R + ((sbl sy (a (b + 7)) (a (m + 7)) L T i.toNat).length : Int) + ((x - (sbl sy (a (b + 7)) (a (m + 7)) L T i.toNat).length : Nat) : Int) = a (m + 1 + 2) R + (x : Int) by omega] at hg
          rw [hg, e72, q4 _ (by omega), show a (m + 1 + 2) (a (m + 7) (sy i)) + 1 + ((x - (sbl sy (a (b + 7)) (a (m + 7)) L T i.toNat).length : Nat) : Int) = a (m + 1 + 2) (a (m + 7) (sy i)) + (1 + ((x - (sbl sy (a (b + 7)) (a (m + 7)) L T i.toNat).length : Nat) : Int)) by omega, (w4 _ (by omega) (by omega)).1]
          have := getD_ar (L1 := sbl sy (a (b + 7)) (a (m + 7)) L T i.toNat) (L2 := sbt (a (b + 7)) (a (m + 7)) L T (sy i)) (x := x - (sbl sy (a (b + 7)) (a (m + 7)) L T i.toNat).length)
          rw [show (sbl sy (a (b + 7)) (a (m + 7)) L T i.toNat).length + (x - (sbl sy (a (b + 7)) (a (m + 7)) L T i.toNat).length) = x by omega] at this
          rw [this]
          unfold sbt
          rw [if_pos c, getD_nmb (by omega), Int.add_assoc]
    · have e1 : sbt (a (b + 7)) (a (m + 7)) L T (sy i) = [sy i] := sbt_0 c
      have hl1 : (([sy i] : List Int).length : Int) = 1 := rfl
      rw [e1] at el
      obtain ⟨Gx, Nx, ex, x1, x2, x3⟩ := c_add (f := f3) (d := d) (a := a3) (ni := ni3) (j := j) (n := n) (x := sy i) (M := 32768) (rwm_1 hm) q1 (by rw [q3]; omega)
      rw [qp_F c, if_pos rfl, ex, bd_some] at body
      refine ⟨_, body, _, _, _, rfl, ?_, ?_, ?_, fun t ht => ?_, fun x hx => ?_, fun x hx => by rw [u2_b hx]; exact q6 x hx, fun x hx => by rw [u1_o hx]; exact q7 x hx, fun x hx => by rw [u1_o hx]; exact q8 x hx⟩
      · rw [u2_c (by decide), u2_a, u1_s, u1_o (by omega)]
        exact x3
      · rw [u2_c (by decide)]; exact q2
      · rw [u2_a, q3, en, el]; omega
      · rw [u1_s, x1 t (by rw [q3]; omega)]; exact q4 t ht
      · rw [u1_s]
        rw [en] at hx ⊢
        rw [sbl_s, ei, e1] at hx ⊢
        by_cases e : x < (sbl sy (a (b + 7)) (a (m + 7)) L T i.toNat).length
        · rw [x1 _ (by rw [q3]; omega), getD_al e]
          exact q5 x e
        · rw [len_1] at hx
          have ex' : x = (sbl sy (a (b + 7)) (a (m + 7)) L T i.toNat).length := by omega
          rw [ex', getD_r, ← q3]
          exact x2
  · rintro st ⟨f3, a3, ni3, rfl, q1⟩
    rw [hW] at q1
    refine ⟨_, ?_, f3, a3, ni3, rfl, q1⟩
    unfold gL_X1_pushInstance_14 g_X1_pushInstance_14
    rw [if_pos (by rw [qz_le (by omega) (by omega) (by omega) (by omega)]; omega)]
/-- the last row takes the place of N rows under it -/
theorem c_dropN {v : Nat} {M : Int} (hv : rws v) (H : RWL v M (R + 1) S f a ni L T) (n0 : 0 ≤ N) (n1 : N ≤ R) (hbs : bs = R - N) (hL : L2 bs = L R) (hL2 : ∀ r, 0 ≤ r → r < bs → L2 r = L r) (hT : ∀ x, 0 ≤ x → x < L R → T2 (200 * bs + x) = T (200 * R + x)) (hT2 : ∀ y, 0 ≤ y → y < 200 * bs → T2 y = T y) : ∃ f2 a2, g_X5_dropUnderLast n v (qz N) (cs f d a ni j) = some (cs f2 d a2 ni j) ∧ RWL v M (bs + 1) S f2 a2 ni L2 T2 ∧ (∀ i, i ≠ v → f2 i = f i) ∧ ∀ i, i ≠ v + 1 → i ≠ v + 2 → a2 i = a i := by
  have h1 := H.1
  have h2 := H.2.1
  have h3 := H.2.2.1
  have h4 := H.2.2.2
  by_cases c : N = 0
  · refine ⟨f, a, ?_, ?_, fun _ _ => rfl, fun _ _ _ => rfl⟩
    · unfold g_X5_dropUnderLast g_X5_dropUnderLast_0
      simp only [zl0]
      first
        | rw [if_pos (by rw [qz_le (by omega) (by omega) (by omega) (by omega)]; omega)]
        | simp (disch := omega) only [qz_le, c, Int.le_refl, if_true]
    · refine ⟨H.1, by rw [show bs = R by omega]; exact h2, by rw [show bs = R by omega]; exact h3, fun r r0 r1 => ?_⟩
      by_cases e : r = bs
      · have eR : R = bs := by omega
        obtain ⟨g1, g2, g3, g4⟩ := h4 R (by omega) (by omega)
        rw [eR] at g1 g2 g3 g4 hL hT
        rw [e, hL]
        refine ⟨g1, g2, g3, fun x x0 x1 => ?_⟩
        rw [hT x x0 x1]
        exact g4 x x0 x1
      · obtain ⟨g1, g2, g3, g4⟩ := h4 r r0 (by omega)
        rw [hL2 r r0 (by omega)]
        refine ⟨g1, g2, g3, fun x x0 x1 => ?_⟩
        rw [hT2 _ (by omega) (by omega)]
        exact g4 x x0 x1
  · obtain ⟨k1, k2, k3, k4⟩ := h4 R (by omega) (by omega)
    obtain ⟨e1, e2⟩ := c_drop (f := f) (d := d) (a := a) (ni := ni) (j := j) (n := n) (v := v) (M := M) (l := N) (s := a (v + 2) bs) (t := a (v + 2) R) (z := L R) hv h1 (by omega) (by omega) (by rw [h2, show R + 1 - 1 = R by omega]) (by rw [h2, show R + 1 - 1 - N = bs by omega]) (by rw [h2]; exact k1)
    rw [h2, show R + 1 - N = bs + 1 by omega] at e1 e2
    have mono := h1.2.2.2.2.2.2.2.2.2.2.2
    have hlt := mono bs R (by omega) (by omega) (by omega)
    refine ⟨_, _, e1, ⟨?_, ?_, ?_, fun r r0 r1 => ?_⟩, fun i hi => by rw [u2_b hi, u2_b hi], fun i i1 i2 => by rw [u1_o i2, u1_o i1]⟩
    · rw [u2_c (by decide), u2_a, u2_a, u1_s]
      exact e2
    · rw [u2_c (by decide), u2_a]
    · rw [u2_a, u1_s, v1_s]
    · rw [u1_s, u1_o (by omega), u1_s]
      by_cases e : r = bs
      · rw [e, v1_s, v1_o (by omega), hL]
        refine ⟨by omega, k2, k3, fun x x0 x1 => ?_⟩
        unfold cy
        rw [if_pos (by omega), hT x x0 x1, show a (v + 2) R + (a (v + 2) bs + x - a (v + 2) bs) = a (v + 2) R + x by omega]
        exact k4 x x0 x1
      · obtain ⟨g1, g2, g3, g4⟩ := h4 r r0 (by omega)
        have hm2 := mono (r + 1) bs (by omega) (by omega) (by omega)
        rw [v1_o (by omega), v1_o (by omega), hL2 r r0 (by omega)]
        refine ⟨g1, g2, g3, fun x x0 x1 => ?_⟩
        unfold cy
        rw [if_neg (by omega), hT2 _ (by omega) (by omega)]
        exact g4 x x0 x1
end PIN
