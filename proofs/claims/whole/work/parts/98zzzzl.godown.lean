/-! A proof is told in letters: the reference's way down, whole -/
section GDN
variable {n : Nat} {N c k0 : Int} {nd nm nu can cn lo : Int → Int} {ch : Int → Int → Int} {EV : Int → List Int} {F : Nat → Int} {A : Nat → Int → Int} {J : Nat → Int → Int64}
theorem mem_cat_x {g : Int → List Int} {e : Int} (n : Nat) : e ∈ cat g n → ∃ t : Nat, t < n ∧ e ∈ g t := by
  induction n with
  | zero => intro h; cases h
  | succ n ih =>
    intro h
    have h' : e ∈ cat g n ++ g n := h
    rcases List.mem_append.mp h' with h1 | h1
    · obtain ⟨t, t1, t2⟩ := ih h1
      exact ⟨t, by omega, t2⟩
    · exact ⟨n, by omega, h1⟩
theorem ev_rs (D0 : NDS N c nd nm ch nu can cn) (T : RPN N nd ch lo) (E : EVD N nd nu can cn lo ch EV) (hc : c ≤ 1000) (m : Nat) : ∀ x : Int, 0 ≤ x → x < m → x < N → ∀ i, 0 ≤ i → 1000 + i ∈ EV x → 1 ≤ nd (can i) := by
  induction m with
  | zero => intro x x0 x1; omega
  | succ m ih =>
    intro x x0 x1 xN i i0 hi
    obtain ⟨E1, E2, E3⟩ := E x x0 xN
    obtain ⟨n1, n2, n3⟩ := nds_nu D0 x0 xN
    obtain ⟨c1, c2, _⟩ := nds_can D0 (by omega) n1 n3
    obtain ⟨q1, _⟩ := T (can (nu x)) c1 c2
    obtain ⟨p1, p2, p3, p4, p5, p6, p7⟩ := T x x0 xN
    by_cases h0 : nd (can (nu x)) = 0
    · rw [E1 h0] at hi
      have := List.mem_singleton.mp hi
      omega
    · by_cases h1 : nu x < cn (lo x)
      · rw [E2 h0 h1] at hi
        have e := List.mem_singleton.mp hi
        have e2 : i = nu x := by omega
        rw [e2]; omega
      · rw [E3 h0 (by omega)] at hi
        rcases List.mem_append.mp hi with h2 | h2
        · obtain ⟨t, t1, t2⟩ := mem_cat_x _ h2
          obtain ⟨r1, r2⟩ := p5 t (by omega) (by omega)
          exact ih (ch x t) r1 (by omega) (by omega) i i0 t2
        · have := List.mem_singleton.mp h2
          omega
theorem m_goDown {root : Int} (hn : 100000 ≤ n) (D0 : NDS N c nd nm ch nu can cn) (T : RPN N nd ch lo) (E : EVD N nd nu can cn lo ch EV) (hN0 : 0 < N) (hN : N ≤ 1000) (hl : lo (N - 1) = 0) (h50F : F 50 = N) (hA : ∀ x, 0 ≤ x → x < N → 0 ≤ A 47 x ∧ A 47 x ≤ x ∧ 0 ≤ nm (A 47 x) ∧ nu (A 47 x) = nu x) (h50 : ∀ x, 0 ≤ x → x < N → A 50 x = alk nm nu can x) (M : MST N k0 nd nm ch A) (hr : root = A 47 (N - 1)) : ∃ (F2 : Nat → Int) (A2 : Nat → Int → Int), g_X11_goDown n 0 (qz root) (ms F A J) = some (ms F2 A2 J) ∧ F2 85 = (EV (N - 1)).length ∧ ats (A2 60) 0 ((EV (N - 1)).map (tcd can)) ∧ TMI c nd can (cn N) (A2 54) (fun i => 0 + cE i (EV (N - 1))) ∧ (∀ x, 0 ≤ x → x < N → A2 55 x = 0) ∧ (∀ x, x ≠ 85 → F2 x = F x) ∧ ∀ x, x ≠ 52 → x ≠ 53 → x ≠ 54 → x ≠ 55 → x ≠ 60 → A2 x = A x := by
  obtain ⟨r1, r2, r3, r4, r5, r6, r7, r8, r9⟩ := ev_root D0 T E hN0 hN hl
  obtain ⟨a1, a2, a3, a4⟩ := hA (N - 1) (by omega) (by omega)
  have hroot : A 50 root = N - 1 := by
    rw [hr, h50 _ a1 (by omega)]
    unfold alk
    rw [if_pos a3, a4, r3, r4]
  clear r8 r9
  -- the two counts are emptied
  have hz : ∃ A3, hp_lp (gL_X11_goDown_7 n 0 (qz root)) n (qz 0, ms (u1 F 85 0) A J) = some (ms (u1 F 85 0) A3 J) ∧ (∀ x, 0 ≤ x → x < N → A3 54 x = 0) ∧ (∀ x, 0 ≤ x → x < N → A3 55 x = 0) ∧ ∀ x, x ≠ 54 → x ≠ 55 → A3 x = A x := by
    have := lp_inv (b := gL_X11_goDown_7 n 0 (qz root)) (fun i cc => ∃ A3, cc = (qz i, ms (u1 F 85 0) A3 J) ∧ (∀ x, 0 ≤ x → x < i → A3 54 x = 0) ∧ (∀ x, 0 ≤ x → x < i → A3 55 x = 0) ∧ ∀ x, x ≠ 54 → x ≠ 55 → A3 x = A x) (Q := fun x => ∃ A3, x = ms (u1 F 85 0) A3 J ∧ (∀ x, 0 ≤ x → x < N → A3 54 x = 0) ∧ (∀ x, 0 ≤ x → x < N → A3 55 x = 0) ∧ ∀ x, x ≠ 54 → x ≠ 55 → A3 x = A x) N (n := n) (i0 := 0) (by omega) (by omega) (c0 := (qz 0, ms (u1 F 85 0) A J)) ⟨A, rfl, fun x x0 x1 => by omega, fun x x0 x1 => by omega, fun _ _ _ => rfl⟩ (by
      rintro i cc i0 i1 ⟨A3, rfl, h1, h2, h3⟩
      refine ⟨(qz (i + 1), ms (u1 F 85 0) (v2 (v2 A3 54 i 0) 55 i 0) J), ?_, v2 (v2 A3 54 i 0) 55 i 0, rfl, ?_, ?_, ?_⟩
      · unfold gL_X11_goDown_7 g_X11_goDown_7
        simp only [zl0, zl1]
        rw [gf_ms, u1_o (by decide), h50F, if_neg (by rw [qz_le (by omega) (by omega) (by omega) (by omega)]; omega), gp_76, ua_54 i0 (by omega), bd_some, gp_77, ua_55 i0 (by omega), bd_some, qz_add]
      · intro x x0 x1
        rw [v2_o (by decide), v2_s]
        by_cases y : x = i
        · rw [y, v1_s]
        · rw [v1_o y]; exact h1 x x0 (by omega)
      · intro x x0 x1
        rw [v2_s, v2_o (by decide)]
        by_cases y : x = i
        · rw [y, v1_s]
        · rw [v1_o y]; exact h2 x x0 (by omega)
      · intro x x1 x2
        rw [v2_o x2, v2_o x1]; exact h3 x x1 x2) (by
      rintro cc ⟨A3, rfl, h1, h2, h3⟩
      refine ⟨ms (u1 F 85 0) A3 J, ?_, A3, rfl, h1, h2, h3⟩
      unfold gL_X11_goDown_7 g_X11_goDown_7
      rw [gf_ms, u1_o (by decide), h50F, if_pos (by rw [qz_le (by omega) (by omega) (by omega) (by omega)]; omega)])
    obtain ⟨x, h1, A3, rfl, h2, h3, h4⟩ := this
    exact ⟨A3, h1, h2, h3, h4⟩
  obtain ⟨A3, z1, z2, z3, z4⟩ := hz
  have eA : ∀ x, x ≠ 52 → x ≠ 53 → x ≠ 54 → x ≠ 55 → v2 (v2 A3 52 0 (N - 1)) 53 0 0 x = A x := fun x x1 x2 x3 x4 => by rw [v2_o x2, v2_o x1, z4 x x3 x4]
  obtain ⟨F2, A2, w1, w2, w3, w4, w5, w6, w7, w8⟩ := m_dn (n := n) (J := J) (k0 := k0) hn D0 T E hN (by omega) (A 47) (A 50) hA h50 (N.toNat + 1) (N - 1) 0 (fun _ => 0) n (u1 F 85 0) (v2 (v2 A3 52 0 (N - 1)) 53 0 0) (by omega) (by omega) (by omega) (by omega) (by rw [r3, r4]; omega) (by omega) (by rw [u1_s]; omega) (by rw [u1_s]; omega) (fun i _ _ => by omega) (mst_c M (eA _ (by decide) (by decide) (by decide) (by decide)) (eA _ (by decide) (by decide) (by decide) (by decide)) (eA _ (by decide) (by decide) (by decide) (by decide)) (eA _ (by decide) (by decide) (by decide) (by decide)) (eA _ (by decide) (by decide) (by decide) (by decide))) (eA _ (by decide) (by decide) (by decide) (by decide)) (eA _ (by decide) (by decide) (by decide) (by decide)) (by rw [v2_o (by decide), v2_s, v1_s, r3, r4]) (by rw [v2_s, v1_s]) (by
    intro i i0 i1
    obtain ⟨k1, k2, _⟩ := nds_can D0 (by omega) i0 i1
    rw [v2_o (by decide), v2_o (by decide), z2 _ k1 k2, hl, D0.1]
    refine ⟨fun _ => rfl, fun _ => rfl, Int.le_refl _, by show (0 : Int) ≤ 100000; decide, ?_⟩
    show 1 ≤ (0 : Int) ↔ i < 0
    exact ⟨fun h => by omega, fun h => by omega⟩)
  rw [show N - 1 + 1 = N by omega] at w7
  refine ⟨F2, A2, ?_, ?_, ?_, w7, ?_, ?_, ?_⟩
  · unfold g_X11_goDown g_X11_goDown_0
    simp only [zl0, zl1]
    rw [wf_ms, bd_some, z1, bd_some, gp_72, ga_50 (by omega) (by omega), z4 50 (by decide) (by decide), hroot, bd_some, gp_74, ua_52 (by omega) (by omega), bd_some, gp_75, ua_53 (by omega) (by omega), bd_some]
    rw [show (0 : Int) + 1 = 1 from rfl] at w1
    rw [w1]
    obtain ⟨u, hu⟩ : ∃ u, n + 1 - 2 * (EV (N - 1)).length = u + 1 := ⟨n + 1 - 2 * (EV (N - 1)).length - 1, by omega⟩
    rw [hu, hp_lp_x (x := ms F2 A2 J) (by
      unfold gL_X11_goDown_56 g_X11_goDown_56
      simp only [zl0]
      rw [if_pos (by rw [qz_le (by omega) (by omega) (by omega) (by omega)]; omega)]), bd_some]
  · rw [w2, u1_s]; omega
  · rw [u1_s] at w6; exact w6
  · intro x x0 x1
    rw [w8.2 55 (by decide) (by decide) (by decide) (by decide), v2_o (by decide), v2_o (by decide)]
    exact z3 x x0 x1
  · intro x hx
    rw [w8.1 x hx, u1_o hx]
  · intro x x1 x2 x3 x4 x5
    rw [w8.2 x x1 x2 x3 x5, eA x x1 x2 x3 x4]
end GDN
