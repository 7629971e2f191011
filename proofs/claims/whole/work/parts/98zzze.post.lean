/-! After a step: the mark, both -/
section POS
variable {n m : Nat} {S k N i R nd : Int} {f : Nat → Nat → Int} {d : Nat → Nat} {a : Nat → Int → Int} {ni : Nat → Nat} {j : Nat → Int → Int64} {F : Nat → Int} {A : Nat → Int → Int} {J : Nat → Int → Int64}
theorem rwl_c {v : Nat} {M R S : Int} {f2 : Nat → Nat → Int} {a2 : Nat → Int → Int} {ni2 : Nat → Nat} {L T L2 T2 : Int → Int} (H : RWL v M R S f a ni L T) (hf : f2 v = f v) (h1 : a2 (v + 1) = a (v + 1)) (h2 : a2 (v + 2) = a (v + 2)) (hn : ni2 (v + 1) = ni (v + 1)) (hL : ∀ r, 0 ≤ r → r < R → L2 r = L r) (hT : ∀ y, 0 ≤ y → y < 200 * R → T2 y = T y) : RWL v M R S f2 a2 ni2 L2 T2 := by
  unfold RWL
  rw [hf, h1, h2, hn]
  refine ⟨H.1, H.2.1, H.2.2.1, fun r r0 r1 => ?_⟩
  obtain ⟨g1, g2, g3, g4⟩ := H.2.2.2 r r0 r1
  rw [hL r r0 r1]
  refine ⟨g1, g2, g3, fun x x0 x1 => ?_⟩
  rw [hT _ (by omega) (by omega)]
  exact g4 x x0 x1
theorem post_step {e : Int32} (hn : 100000 ≤ n) (hm : mch m) (i0 : 0 ≤ i) (i1 : i < N) (hN : N ≤ 1000) (HD : DP k N (a 79) (a 80) (A 34) (A 35) (A 36)) (hmk : mkc (a 80) N ≤ 200) (hR : F 59 = R) (r0 : 0 ≤ R) (r1 : R < 100) (SK : RWL (m + 1) 32768 (R + 1) S f a ni (A 38) (A 37)) (MK : RWL (m + 4) 65536 (mkc (a 80) i) S f a ni (A 41) (A 40)) : ∃ (f2 : Nat → Nat → Int) (a2 : Nat → Int → Int) (ni2 : Nat → Nat) (A2 : Nat → Int → Int), g_X1_run_102 n m 78 e (qz i) (qz 0) (cs f d a ni j) = some (.inl (qz (i + 1), cs f2 d a2 ni2 j)) ∧ g_X11_endThing n 0 (qz i) (qz nd) (ms F A J) = some (ms (u1 F 59 (R + 1)) A2 J) ∧ RWL (m + 1) 32768 (R + 1) S f2 a2 ni2 (A2 38) (A2 37) ∧ RWL (m + 4) 65536 (mkc (a 80) (i + 1)) S f2 a2 ni2 (A2 41) (A2 40) ∧ (∀ x, x ≠ m + 4 → f2 x = f x) ∧ (∀ x, x ≠ m + 4 + 1 → x ≠ m + 4 + 2 → a2 x = a x) ∧ (∀ x, x ≠ m + 4 + 1 → ni2 x = ni x) ∧ (∀ x, x ≠ 39 → x ≠ 47 → x ≠ 40 → x ≠ 41 → A2 x = A x) ∧ A2 39 = v1 (A 39) R nd ∧ A2 47 = v1 (A 47) i nd := by
  have hmm : m = 83 ∨ m = 93 := hm
  have mi0 := mkc_r (g := a 80) i0
  have miN := mkc_m (g := a 80) (i := i) (y := N) i0 (by omega)
  have mi1 := mkc_m (g := a 80) (i := i + 1) (y := N) (by omega) (by omega)
  obtain ⟨hd1, _⟩ := HD i i0 i1
  obtain ⟨g1, g2, g3, g4⟩ := SK.2.2.2 R r0 (by omega)
  have hm36 : -1 ≤ A 36 i ∧ A 36 i < 200 := by
    rcases hd1 with ⟨z1, z2⟩ | ⟨z1, z2, _⟩
    · omega
    · have := mkc_1 (g := a 80) i0 z1
      omega
  obtain ⟨A2, eE, o1, o2, o3, o4, o5⟩ := m_endThing (n := n) (nd := nd) (J := J) hn hR r0 r1 i0 (by omega) ⟨g2, g3⟩ hm36
  have a38 : A2 38 = A 38 := o1 38 (by decide) (by decide) (by decide) (by decide)
  have a37 : A2 37 = A 37 := o1 37 (by decide) (by decide) (by decide) (by decide)
  rcases hd1 with ⟨z1, z2⟩ | ⟨z1, z2, _⟩
  · obtain ⟨y1, y2⟩ := o4 (by omega)
    refine ⟨f, a, ni, A2, ?_, eE, by rw [a38, a37]; exact SK, by rw [mkc_0 i0 z1, y1, y2]; exact MK, fun _ _ => rfl, fun _ _ _ => rfl, fun _ _ => rfl, o1, o2, o3⟩
    unfold g_X1_run_102 g_X1_run_156
    simp only [zl0, zl1]
    rw [if_pos trivial, gpc_78_4, gac_80 i0 (by omega), bd_some, z1, if_pos rfl, qz_add]
  · have em := mkc_1 (g := a 80) i0 z1
    obtain ⟨y1, y2, y3⟩ := o5 (by omega)
    obtain ⟨f2, a2, ni2, eC, hW, w1, w2, w3⟩ := c_push (n := n) (d := d) (j := j) (k := R) (l := A 38 R) (g := fun x => A 37 (200 * R + x)) (L2 := A2 41) (T2 := A2 40) hn (rwm_4 hm) (rwm_1 hm) MK SK.1 r0 (by rw [SK.2.1]; omega) g1 g2 g3 (fun x x0 x1 => g4 x x0 x1) (by omega) (by rw [ncm_4 hm]; omega) (by rw [y1, z2, v1_s]) (fun r q0 q1 => by rw [y1, z2, v1_o (by omega)]) (fun x x0 x1 => by rw [← z2]; exact y3 x x0 x1) (fun y q0 q1 => y2 y (by rw [z2]; exact q1))
    refine ⟨f2, a2, ni2, A2, ?_, eE, rwl_c SK (w1 _ (by omega)) (w2 _ (by omega) (by omega)) (w2 _ (by omega) (by omega)) (w3 _ (by omega)) (fun _ _ _ => by rw [a38]) (fun _ _ _ => by rw [a37]), by rw [em]; exact hW, w1, w2, w3, o1, o2, o3⟩
    unfold g_X1_run_102 g_X1_run_149 g_X1_run_156
    simp only [zl0, zl1]
    rw [if_pos trivial, gpc_78_4, gac_80 i0 (by omega), bd_some, z1, if_neg n10, gpm_1 hm, gpm_0 hm, gf_cs, SK.2.1, qz_sub, show R + 1 - 1 = R by omega]
    have hg : ∀ (x : Option st_T) (h : (x.bind fun s => g_X5_endRow n (m + 4) s) = some (cs f2 d a2 ni2 j)) (hx : ∀ s, x = some s → gP s m 1 = m + 4), (x.bind fun x6 => (g_X5_endRow n (gP x6 m 1) x6).bind fun x2 => (some (.inl (qz i + qz 1, x2)) : Option ((Int32 × st_T) ⊕ ((Int32 × Int32 × st_T) ⊕ (Int32 × st_T))))) = some (.inl (qz (i + 1), cs f2 d a2 ni2 j)) := by
      intro x h hx
      cases x with
      | none => exact absurd h (by simp)
      | some s =>
        rw [bd_some] at h ⊢
        rw [hx s rfl, h, bd_some, qz_add]
    refine hg _ eC ?_
    intro s hs
    obtain ⟨G, N', e1, _⟩ := c_addFrom (f := f) (d := d) (a := a) (ni := ni) (j := j) (n := n) (k := R) (i := 0) (l := A 38 R) (rwm_4 hm) (rwm_1 hm) MK.1 SK.1 r0 (by rw [SK.2.1]; omega) (by omega) (by omega) (by omega) (by
      have hu := rwl_u MK (mkc (a 80) i).toNat (by omega)
      rw [show (((mkc (a 80) i).toNat : Nat) : Int) = mkc (a 80) i by omega] at hu
      rw [MK.2.2.1]
      omega) hn
    rw [e1] at hs
    injection hs with hs
    rw [← hs, gpm_1 hm]
end POS
