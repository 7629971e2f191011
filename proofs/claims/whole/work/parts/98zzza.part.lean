/-! The partners of variables: the class -/
section PAR
variable {n m b : Nat} {q S K P len k R r u v x y : Int} {f : Nat → Nat → Int} {d : Nat → Nat} {a : Nat → Int → Int} {ni : Nat → Nat} {j : Nat → Int → Int64} {A : Nat → Int → Int} {J : Nat → Int → Int64} {L T : Int → Int}
/-- u and v are an active pair at k, in either order -/
def pak (q P : Int) (A21 A22 A23 A24 : Int → Int) (k u v : Int) : Prop := pa q P A21 A22 A23 A24 k (if v ≤ u then v else u) (if v ≤ u then u else v)
/-- the class's partners are the active pairs at k -/
def PRT (m : Nat) (q P k : Int) (A : Nat → Int → Int) (j : Nat → Int → Int64) : Prop := ∀ u v, 0 ≤ u → u < 300 → 0 ≤ v → v < 300 → (bt (j (m + 8)) (u * 5) v ↔ pak q P (A 21) (A 22) (A 23) (A 24) k u v)
theorem c_addPart (hm : mch m) (u0 : 0 ≤ u) (u1' : u < 300) (v0 : 0 ≤ v) (v1' : v < 300) : ∃ w : Int → Int64, g_X1_addPartner n m (qz u) (qz v) (cs f d a ni j) = some (cs f d a ni (u1 j (m + 8) w)) ∧ ∀ x y, 0 ≤ x → x < 300 → 0 ≤ y → y < 300 → (bt w (x * 5) y ↔ bt (j (m + 8)) (x * 5) y ∨ (x = u ∧ y = v)) := by
  refine ⟨v1 (j (m + 8)) (u * 5 + v / 64) (j (m + 8) (u * 5 + v / 64) ||| ((1 : Int64) <<< (Int32.toInt64 (qz (v - v / 64 * 64)) &&& 63))), ?_, fun x y x0 x1 y0 y1 => ?_⟩
  · unfold g_X1_addPartner g_X1_addPartner_0
    simp only [zl5, zl64]
    rw [gpm_4 hm, qz_mul, qz_div (by omega) (by omega) (by omega) (by omega), qz_add, gjm_8 hm (by omega) (by omega), bd_some, qz_mul, qz_sub, ujm_8 hm (by omega) (by omega), bd_some, v2_u1]
  · by_cases e : x = u
    · rw [e, bt_set v0 y0]
      constructor
      · rintro (z | z)
        · exact Or.inl z
        · exact Or.inr ⟨rfl, z⟩
      · rintro (z | z)
        · exact Or.inl z
        · exact Or.inr z.2
    · rw [bt_out (by omega)]
      constructor
      · exact Or.inl
      · rintro (z | z)
        · exact z
        · exact absurd z.1 e
theorem c_noteP (hn : 100000 ≤ n) (hm : mch m) (hb : bks b) (hd : d (mi m) = b) (G : BK b q S K P len f a ni j A J) (h0 : 0 ≤ k) (h1 : k < K) (hk : a (b + 8) k = 3) : ∃ w : Int → Int64, g_X1_notePartners n m (qz k) (cs f d a ni j) = some (cs f d a ni (u1 j (m + 8) w)) ∧ PRT m q P k A (u1 j (m + 8) w) := by
  have hbb : b = 1 ∨ b = 33 := hb
  have hmm : m = 83 ∨ m = 93 := hm
  have hS : S ≤ 300 := G.2.1.2.1
  obtain ⟨_, gn, glb, gk, gf, gt, ghy, gma, gun, ⟨o1, o2, o3⟩, gpr, gfm, gax, grw⟩ := G
  obtain ⟨p1, p2, p3, p4, p5⟩ := gpr k h0 h1
  have p3 := p3 hk
  have w6 := grw.2.2.2.2.2.1
  have w6k := grw.2.2.2.2.2.2.2.2.2.2.2
  have mm := rw_mono w6
  rw [w6k] at mm
  have mk := mono_k mm h0 h1
  have wM : a (b + 26 + 2) K ≤ 65536 := by
    obtain ⟨h1, h2, h3, h4, h5, h6, h7, h8, h9, h10, h11, h12⟩ := w6
    rw [w6k] at h11
    omega
  have hit : ∀ i, 0 ≤ i → i < a (b + 26 + 2) (k + 1) - a (b + 26 + 2) k → ∃ x y, 0 ≤ x ∧ x < y ∧ y < 300 ∧ a (b + 26 + 1) (a (b + 26 + 2) k + i) = 300 * x + y ∧ pa q P (A 21) (A 22) (A 23) (A 24) k x y := by
    intro i i0 i1
    exact (p3 _).mp ⟨a (b + 26 + 2) k + i, by omega, by omega, rfl⟩
  have lp := lp_inv (b := gL_X1_notePartners_22 n m (qz k) (qz (a (b + 26 + 2) (k + 1) - a (b + 26 + 2) k))) (fun t c => ∃ w : Int → Int64, c = (qz t, cs f d a ni (u1 j (m + 8) w)) ∧ ∀ u v, 0 ≤ u → u < 300 → 0 ≤ v → v < 300 → (bt w (u * 5) v ↔ ∃ i, 0 ≤ i ∧ i < t ∧ (a (b + 26 + 1) (a (b + 26 + 2) k + i) = 300 * u + v ∨ a (b + 26 + 1) (a (b + 26 + 2) k + i) = 300 * v + u))) (Q := fun s => ∃ w : Int → Int64, s = cs f d a ni (u1 j (m + 8) w) ∧ ∀ u v, 0 ≤ u → u < 300 → 0 ≤ v → v < 300 → (bt w (u * 5) v ↔ ∃ i, 0 ≤ i ∧ i < a (b + 26 + 2) (k + 1) - a (b + 26 + 2) k ∧ (a (b + 26 + 1) (a (b + 26 + 2) k + i) = 300 * u + v ∨ a (b + 26 + 1) (a (b + 26 + 2) k + i) = 300 * v + u))) (a (b + 26 + 2) (k + 1) - a (b + 26 + 2) k) (n := n) (i0 := 0) (by omega) (by omega) (c0 := (qz 0, cs f d a ni (u1 j (m + 8) (fl (j (m + 8)) 1500 0)))) ⟨_, rfl, fun u v u0 u1' v0 v1' => ⟨fun z => absurd z (bt_zero (by unfold fl; rw [if_pos (by omega)])), fun ⟨i, i0, i1, _⟩ => by omega⟩⟩ ?_ ?_
  · obtain ⟨s, es, w, rfl, hw⟩ := lp
    refine ⟨w, ?_, fun u v u0 u1' v0 v1' => ?_⟩
    · unfold g_X1_notePartners g_X1_notePartners_0
      rw [gpm_4 hm, flm_8 hm hn, bd_some, gpm_2 hm, hd, gpb_14 hb, c_size (rws_b26 hb) w6 h0 (by rw [w6k]; exact h1), bd_some, zl0, es, bd_some]
    · rw [u1_s, hw u v u0 u1' v0 v1']
      unfold pak
      constructor
      · rintro ⟨i, i0, i1, i2⟩
        obtain ⟨x, y, x0, xy, y1, e, hp⟩ := hit i i0 i1
        rcases i2 with i2 | i2
        · rw [show u = x by omega, show v = y by omega, if_neg (by omega), if_neg (by omega)]
          exact hp
        · rw [show u = y by omega, show v = x by omega, if_pos (by omega), if_pos (by omega)]
          exact hp
      · intro hp
        by_cases c : v ≤ u
        · rw [if_pos c, if_pos c] at hp
          have hp' := hp
          obtain ⟨p, z1, z2, z3, z4, _⟩ := hp'
          have o := o3 p z1 z2
          obtain ⟨i, i0, i1, i2⟩ := (p3 (300 * v + u)).mpr ⟨v, u, v0, by omega, u1', rfl, hp⟩
          exact ⟨i - a (b + 26 + 2) k, by omega, by omega, Or.inr (by rw [show a (b + 26 + 2) k + (i - a (b + 26 + 2) k) = i by omega]; exact i2)⟩
        · rw [if_neg c, if_neg c] at hp
          obtain ⟨i, i0, i1, i2⟩ := (p3 (300 * u + v)).mpr ⟨u, v, u0, by omega, v1', rfl, hp⟩
          exact ⟨i - a (b + 26 + 2) k, by omega, by omega, Or.inl (by rw [show a (b + 26 + 2) k + (i - a (b + 26 + 2) k) = i by omega]; exact i2)⟩
  · rintro t c t0 t1 ⟨w, rfl, hw⟩
    obtain ⟨x, y, x0, xy, y1, e, hp⟩ := hit t t0 t1
    obtain ⟨w2, e2, hw2⟩ := c_addPart (n := n) (f := f) (d := d) (a := a) (ni := ni) (j := u1 j (m + 8) w) hm x0 (by omega) (by omega : 0 ≤ y) y1
    obtain ⟨w3, e3, hw3⟩ := c_addPart (n := n) (f := f) (d := d) (a := a) (ni := ni) (j := u1 j (m + 8) w2) hm (by omega : 0 ≤ y) y1 x0 (by omega)
    rw [u1_1] at e2
    rw [u1_s] at hw2
    rw [u1_1] at e3
    rw [u1_s] at hw3
    refine ⟨_, ?_, w3, rfl, fun u v u0 u1' v0 v1' => ?_⟩
    · unfold gL_X1_notePartners_22 g_X1_notePartners_22
      simp only [zl1, zl300]
      rw [if_neg (by rw [qz_le (by omega) (by omega) (by omega) (by omega)]; omega), gpm_2 hm, hd, gpb_14 hb, c_get (rws_b26 hb) w6 h0 (by rw [w6k]; exact h1) t0 t1, bd_some, e, qz_div (by omega) (by omega) (by omega) (by omega), qz_mul, qz_sub, show (300 * x + y) / 300 = x by omega, show 300 * x + y - x * 300 = y by omega, e2, bd_some, e3, bd_some, qz_add]
    · rw [hw3 u v u0 u1' v0 v1', hw2 u v u0 u1' v0 v1', hw u v u0 u1' v0 v1']
      constructor
      · rintro ((⟨i, i0, i1, i2⟩ | ⟨z1, z2⟩) | ⟨z1, z2⟩)
        · exact ⟨i, i0, by omega, i2⟩
        · exact ⟨t, t0, by omega, Or.inl (by rw [e, z1, z2])⟩
        · exact ⟨t, t0, by omega, Or.inr (by rw [e, z1, z2])⟩
      · rintro ⟨i, i0, i1, i2⟩
        by_cases c : i = t
        · rw [c, e] at i2
          rcases i2 with i2 | i2
          · exact Or.inl (Or.inr ⟨by omega, by omega⟩)
          · exact Or.inr ⟨by omega, by omega⟩
        · exact Or.inl (Or.inl ⟨i, i0, by omega, i2⟩)
  · rintro c ⟨w, rfl, hw⟩
    refine ⟨_, ?_, w, rfl, hw⟩
    unfold gL_X1_notePartners_22 g_X1_notePartners_22
    rw [if_pos (by rw [qz_le (by omega) (by omega) (by omega) (by omega)]; omega)]
end PAR
