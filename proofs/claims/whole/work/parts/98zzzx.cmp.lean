/-! Steps that are alike: the reference -/
section CMP
variable {n : Nat} {N c k s : Int} {nd nm nu can cn lo : Int → Int} {ch : Int → Int → Int} {WO : Int → List Int} {F : Nat → Int} {A : Nat → Int → Int} {J : Nat → Int → Int64}
/-- a step, and the node that stands for it -/
theorem a47_p {A35 A47 : Int → Int} (h : ∀ x, 0 ≤ x → x < N → (0 ≤ nm x → A47 x = x) ∧ (nm x < 0 → 0 ≤ A35 (-1 - nm x) ∧ A35 (-1 - nm x) < x ∧ A47 x = A47 (A35 (-1 - nm x)))) (hq : ∀ x, 0 ≤ x → x < N → nm x < 0 → nu x = nu (A35 (-1 - nm x))) (m : Nat) : ∀ x : Int, 0 ≤ x → x < m → x < N → 0 ≤ A47 x ∧ A47 x ≤ x ∧ 0 ≤ nm (A47 x) ∧ nu (A47 x) = nu x := by
  induction m with
  | zero => intro x x0 x1; omega
  | succ m ih =>
    intro x x0 x1 x2
    obtain ⟨h1, h2⟩ := h x x0 x2
    rcases Int.lt_or_le (nm x) 0 with g | g
    · obtain ⟨k1, k2, k3⟩ := h2 g
      obtain ⟨i1, i2, i3, i4⟩ := ih _ k1 (by omega) (by omega)
      rw [k3]
      exact ⟨i1, by omega, i3, by rw [i4]; exact (hq x x0 x2 g).symm⟩
    · rw [h1 g]
      exact ⟨x0, Int.le_refl _, g, rfl⟩
/-- a proof written out, from a node down -/
def WOD (c : Int) (nd nm : Int → Int) (ch : Int → Int → Int) (nu can : Int → Int) (WO : Int → List Int) : Prop := ∀ y, 0 ≤ y → y < c → WO y = cat (fun t => WO (nu (ch (can y) t))) (nd (can y)).toNat ++ [nm (can y)]
theorem wo_ex (H : NDS N c nd nm ch nu can cn) (T : RPN N nd ch lo) (hN : 0 ≤ N) : ∃ WO : Int → List Int, WOD c nd nm ch nu can WO := by
  by_cases hc : 0 ≤ c
  · obtain ⟨g, hg⟩ := rec_ex ([] : List Int) (fun y g => cat (fun t => g (nu (ch (can y) t))) (nd (can y)).toNat ++ [nm (can y)]) c.toNat (by
      intro y g h y0 y1 e
      show cat (fun t => g (nu (ch (can y) t))) (nd (can y)).toNat ++ [nm (can y)] = cat (fun t => h (nu (ch (can y) t))) (nd (can y)).toNat ++ [nm (can y)]
      obtain ⟨c1, c2, c3, c4, c5, c6⟩ := nds_can H hN y0 (by omega)
      rw [cat_c (g := fun t => g (nu (ch (can y) t))) (h := fun t => h (nu (ch (can y) t))) (nd (can y)).toNat (fun t ht => by
        have hl := nds_lt H T c1 c2 c6 (t := t) (by omega) (by omega)
        obtain ⟨_, _, _, _, p5, _⟩ := T (can y) c1 c2
        obtain ⟨q1, q2⟩ := p5 t (by omega) (by omega)
        obtain ⟨n1, _⟩ := nds_nu H q1 (by omega)
        exact e _ n1 (by omega))])
    exact ⟨g, fun y y0 y1 => hg y y0 (by omega)⟩
  · exact ⟨fun _ => [], fun y y0 y1 => by omega⟩
theorem wo_x (H : NDS N c nd nm ch nu can cn) (E : WOD c nd nm ch nu can WO) {x : Int} (x0 : 0 ≤ x) (x1 : x < N) (hm : 0 ≤ nm x) : WO (nu x) = cat (fun t => WO (nu (ch x t))) (nd x).toNat ++ [nm x] := by
  obtain ⟨n1, n2, n3⟩ := nds_nu H x0 x1
  obtain ⟨_, _, h3⟩ := H.2.2 x x0 x1
  obtain ⟨k1, k2, k3⟩ := h3 hm
  rw [E _ n1 n3, k1, k2, cat_c (g := fun t => WO (nu (ch (can (nu x)) t))) (h := fun t => WO (nu (ch x t))) (nd x).toNat (fun t ht => by
    show WO (nu (ch (can (nu x)) t)) = WO (nu (ch x t))
    rw [k3 t (by omega) (by omega)])]
def cap (y : Int) : Int := if y ≤ 1000 then y else 1001
theorem cap_a {x y : Int} (hx : 0 ≤ x) (hy : 0 ≤ y) : (if cap x + cap y ≤ 1000 then cap x + cap y else 1001) = cap (x + y) := by
  unfold cap
  (repeat' split) <;> omega
theorem cap_r {x : Int} (hx : 0 ≤ x) : 0 ≤ cap x ∧ cap x ≤ 1001 := by
  unfold cap
  split <;> omega
theorem zl1001 : (1001 : Int32) = qz 1001 := id rfl
/-- what the reference knows of the steps -/
def MST (N k : Int) (nd nm : Int → Int) (ch : Int → Int → Int) (A : Nat → Int → Int) : Prop := ∀ x, 0 ≤ x → x < N → A 46 x = nd x ∧ 0 ≤ A 45 x ∧ A 45 x + nd x ≤ 1000 ∧ (∀ t, 0 ≤ t → t < nd x → A 44 (A 45 x + t) = A 47 (ch x t)) ∧ (0 ≤ nm x → A 34 x = nm x ∧ nm x < k) ∧ (nm x < 0 → 1000 ≤ A 34 x ∧ A 34 x < 2000)
theorem m_sizes (hn : 100000 ≤ n) (T : RPN N nd ch lo) (M : MST N k nd nm ch A) (hA : ∀ x, 0 ≤ x → x < N → 0 ≤ A 47 x ∧ A 47 x ≤ x ∧ 0 ≤ nm (A 47 x) ∧ nu (A 47 x) = nu x) (hN : N ≤ 1000) (s0 : 0 ≤ s) (s1 : s < N) (h1 : A 51 s = 1) (hs : ∀ x, 0 ≤ x → x < s → 0 ≤ nm x → A 51 x = cap (WO (nu x)).length) : hp_lp (gL_X11_compare_26 n 0 (qz s)) n (qz 0, ms F A J) = some (ms F (v2 A 51 s (cap (((cat (fun t => WO (nu (ch s t))) (nd s).toNat).length : Int) + 1))) J) := by
  obtain ⟨p1, p2, p3, p4, p5, p6, p7⟩ := T s s0 s1
  obtain ⟨m1, m2, m3, m4, m5, m6⟩ := M s s0 s1
  have key := lp_for (b := gL_X11_compare_26 n 0 (qz s)) (x := ms F (v2 A 51 s (cap (((cat (fun t => WO (nu (ch s t))) (nd s).toNat).length : Int) + 1))) J) (fun t => (qz t, ms F (v2 A 51 s (cap (((cat (fun t => WO (nu (ch s t))) t.toNat).length : Int) + 1))) J)) (nd s) (n := n) (i0 := 0) p1 (by omega) ?_ ?_
  · have e0 : v2 A 51 s (cap (((cat (fun t => WO (nu (ch s t))) (0 : Int).toNat).length : Int) + 1)) = A := by
      rw [v2_u1]
      refine u1_id ?_
      funext y
      by_cases e : y = s
      · have e2 : ((cat (fun t => WO (nu (ch s t))) (0 : Int).toNat).length : Int) = 0 := rfl
        rw [e, v1_s, h1, e2]
        decide
      · rw [v1_o e]
    rw [e0] at key
    exact key
  · intro t t0 t1
    obtain ⟨q1, q2⟩ := p5 t t0 t1
    obtain ⟨w1, w2, w3, w4⟩ := hA _ q1 (by omega)
    have e1 := hs (A 47 (ch s t)) w1 (by omega) w3
    rw [w4] at e1
    have ec := cap_a (x := ((cat (fun t => WO (nu (ch s t))) t.toNat).length : Int) + 1) (y := ((WO (nu (ch s t))).length : Int)) (by omega) (by omega)
    have r1 := cap_r (x := ((cat (fun t => WO (nu (ch s t))) t.toNat).length : Int) + 1) (by omega)
    have r2 := cap_r (x := ((WO (nu (ch s t))).length : Int)) (by omega)
    have el : ((cat (fun t => WO (nu (ch s t))) (t + 1).toNat).length : Int) + 1 = ((cat (fun t => WO (nu (ch s t))) t.toNat).length : Int) + 1 + ((WO (nu (ch s t))).length : Int) := by
      rw [show (t + 1).toNat = t.toNat + 1 by omega]
      show (((cat (fun t => WO (nu (ch s t))) t.toNat) ++ WO (nu (ch s ((t.toNat : Nat) : Int)))).length : Int) + 1 = _
      rw [List.length_append, show ((t.toNat : Nat) : Int) = t by omega]
      omega
    rw [el, ← ec]
    unfold gL_X11_compare_26 g_X11_compare_26 g_X11_compare_81
    simp only [zl1, zl1000, zl1001]
    rw [gp_66, ga_46 s0 (by omega), v2_o (by decide), m1, bd_some, if_neg (by rw [qz_le (by omega) (by omega) (by omega) (by omega)]; omega), gp_73, ga_51 s0 (by omega), v2_s, v1_s, bd_some, gp_65, ga_45 s0 (by omega), v2_o (by decide), bd_some, qz_add, gp_64, ga_44 (by omega) (by omega), v2_o (by decide), m4 t t0 t1, bd_some, ga_51 w1 (by omega), v2_s, v1_o (by omega), e1, bd_some, qz_add]
    by_cases y : cap (((cat (fun t => WO (nu (ch s t))) t.toNat).length : Int) + 1) + cap ((WO (nu (ch s t))).length : Int) ≤ 1000
    · rw [if_pos (by rw [qz_le (by omega) (by omega) (by omega) (by omega)]; exact y), if_pos y, ua_51 s0 (by omega), bd_some, qz_add, v2_u1, v2_u1, u1_1, u1_s, v1_1, ← v2_u1]
    · rw [if_neg (by rw [qz_le (by omega) (by omega) (by omega) (by omega)]; exact y), if_neg y, ua_51 s0 (by omega), bd_some, qz_add, v2_u1, v2_u1, u1_1, u1_s, v1_1, ← v2_u1]
  · unfold gL_X11_compare_26 g_X11_compare_26
    rw [gp_66, ga_46 s0 (by omega), v2_o (by decide), m1, bd_some, if_pos (by rw [qz_le (by omega) (by omega) (by omega) (by omega)]; omega)]
end CMP
