/-! trace: the class as the reference -/
section TRA
variable {n b b2 : Nat} {q S K P len dl p R : Int} {f f2 : Nat → Nat → Int} {d d2 : Nat → Nat} {a a2 : Nat → Int → Int} {ni ni2 : Nat → Nat} {j j2 : Nat → Int → Int64} {F F2 : Nat → Int} {A A2 : Nat → Int → Int} {J : Nat → Int → Int64}
/-- what tracing leaves -/
def TRF (f : Nat → Nat → Int) (d : Nat → Nat) (a : Nat → Int → Int) (ni : Nat → Nat) (j : Nat → Int → Int64) (F : Nat → Int) (A : Nat → Int → Int) (f2 : Nat → Nat → Int) (d2 : Nat → Nat) (a2 : Nat → Int → Int) (ni2 : Nat → Nat) (j2 : Nat → Int → Int64) (F2 : Nat → Int) (A2 : Nat → Int → Int) : Prop := (∀ x, x ≠ 0 → ¬(78 ≤ x ∧ x ≤ 82) → ¬(94 ≤ x ∧ x ≤ 102) → f2 x = f x ∧ a2 x = a x ∧ ni2 x = ni x ∧ j2 x = j x) ∧ (∀ x, x ≠ 6 → x ≠ 8 → d2 x = d x) ∧ (∀ x, x ≠ 3 → x ≠ 71 → ¬(45 ≤ x ∧ x ≤ 55) → x ≠ 59 → x ≠ 67 → F2 x = F x) ∧ ∀ x, ¬(32 ≤ x ∧ x ≤ 49) → A2 x = A x
theorem rel_tr (R : Rel0 q b b2 S K P len dl f d a ni j F A J) (X : TRF f d a ni j F A f2 d2 a2 ni2 j2 F2 A2) (h9 : f2 0 9 = f 0 9) (h10 : f2 0 10 = F2 3) (T : Rtr f2 a2 ni2 F2 A2) (W : Rw (f2 97 3) (f2 97 2) (ni2 (97 + 1)) (nC0 (97 + 2)) 65536 (a2 (97 + 2))) : Rel0 q b b2 S K P len dl f2 d2 a2 ni2 j2 F2 A2 J := by
  have R1 := R
  obtain ⟨r1, r2, r3, r4, r5, r6, r7, r8, r9, r10, r11, r12, r13, r14⟩ := R1
  obtain ⟨x1, x2, x3, x4⟩ := X
  have e2 : d2 2 = d 2 := x2 2 (by decide) (by decide)
  have e3 : d2 3 = d 3 := x2 3 (by decide) (by decide)
  have h117 : d 2 = 117 ∨ d 2 = 119 := by omega
  refine rel_gen R (fun i i1 i2 => (x1 i (by omega) (by omega) (by omega)).1) (fun i i1 i2 => (x1 i (by omega) (by omega) (by omega)).2.1) (fun i i1 i2 => (x1 i (by omega) (by omega) (by omega)).2.2.1) (fun i i1 i2 => (x1 i (by omega) (by omega) (by omega)).2.2.2) (fun k hk => x3 k (by omega) (by omega) (by omega) (by omega) (by omega)) (fun i hi => x4 i (by omega)) ⟨rfl, rfl⟩ (x2 0 (by decide) (by decide)) (x2 1 (by decide) (by decide)) (by rw [e2, e3]; exact r6) ?_ T ?_ ?_ h10
  · unfold Rsh at r10 ⊢
    rw [e2, (x1 (d 2) (by omega) (by omega) (by omega)).1, (x1 (d 2 + 1) (by omega) (by omega) (by omega)).2.1, x3 80 (by omega) (by omega) (by omega) (by omega) (by omega), x4 57 (by omega)]
    exact r10
  · obtain ⟨m1, m2, m3, m4⟩ := r12
    refine ⟨?_, ?_, W, ?_⟩
    · rw [(x1 84 (by omega) (by omega) (by omega)).1, (x1 (84 + 1) (by omega) (by omega) (by omega)).2.2.1, (x1 (84 + 2) (by omega) (by omega) (by omega)).2.1]
      exact m1
    · rw [(x1 87 (by omega) (by omega) (by omega)).1, (x1 (87 + 1) (by omega) (by omega) (by omega)).2.2.1, (x1 (87 + 2) (by omega) (by omega) (by omega)).2.1]
      exact m2
    · rw [(x1 105 (by omega) (by omega) (by omega)).1, (x1 (105 + 1) (by omega) (by omega) (by omega)).2.2.1, (x1 (105 + 2) (by omega) (by omega) (by omega)).2.1]
      exact m4
  · rw [h9, x3 2 (by omega) (by omega) (by omega) (by omega) (by omega)]
    exact r13
/-- what stands is noted: the reference -/
theorem m_traced (hn : 100000 ≤ n) (h59 : F 59 = R) (r0 : 0 ≤ R) (r1 : R ≤ 100) (hl : ∀ r, 0 ≤ r → r < R → 1 ≤ A 38 r ∧ A 38 r ≤ 200) : ∃ B8 B9 : Int → Int, hp_lp (gL_X11_trace_102 n 0) n (qz 0, ms F A J) = some (ms F (u1 (u1 A 49 B9) 48 B8) J) ∧ ∀ r, 0 ≤ r → r < R → B9 r = A 38 r ∧ ∀ x, 0 ≤ x → x < A 38 r → B8 (200 * r + x) = A 37 (200 * r + x) := by
  have inner : ∀ (r : Int) (B8 B9 : Int → Int), 0 ≤ r → r < R → ∃ C : Int → Int, hp_lp (gL_X11_trace_125 n 0 (qz r)) n (qz 0, ms F (u1 (u1 A 49 B9) 48 B8) J) = some (ms F (u1 (u1 A 49 B9) 48 C) J) ∧ (∀ y, y < 200 * r → C y = B8 y) ∧ ∀ x, 0 ≤ x → x < A 38 r → C (200 * r + x) = A 37 (200 * r + x) := by
    intro r B8 B9 q0 q1
    obtain ⟨l0, l1⟩ := hl r q0 q1
    have lp := lp_inv (b := gL_X11_trace_125 n 0 (qz r)) (fun t c => ∃ C : Int → Int, c = (qz t, ms F (u1 (u1 A 49 B9) 48 C) J) ∧ (∀ y, y < 200 * r → C y = B8 y) ∧ ∀ x, 0 ≤ x → x < t → C (200 * r + x) = A 37 (200 * r + x)) (Q := fun st => ∃ C : Int → Int, st = ms F (u1 (u1 A 49 B9) 48 C) J ∧ (∀ y, y < 200 * r → C y = B8 y) ∧ ∀ x, 0 ≤ x → x < A 38 r → C (200 * r + x) = A 37 (200 * r + x)) (A 38 r) (n := n) (i0 := 0) (by omega) (by omega) (c0 := (qz 0, ms F (u1 (u1 A 49 B9) 48 B8) J)) ⟨B8, rfl, fun _ _ => rfl, fun x x0 x1 => by omega⟩ ?_ ?_
    · obtain ⟨st, es, C, rfl, h⟩ := lp
      exact ⟨C, es, h⟩
    · rintro t st t0 t1 ⟨C, rfl, g1, g2⟩
      refine ⟨_, ?_, v1 C (200 * r + t) (A 37 (200 * r + t)), rfl, fun y hy => by rw [v1_o (by omega)]; exact g1 y hy, fun x x0 x1 => ?_⟩
      · unfold gL_X11_trace_125 g_X11_trace_125
        simp only [zl1]
        rw [gp_57, ga_38 q0 (by omega), u1_o (by decide), u1_o (by decide), bd_some, if_neg (by rw [qz_le (by omega) (by omega) (by omega) (by omega)]; omega), m_thing, bd_some, bd_some, gp_56, qz_add, ga_37 (by omega) (by omega), u1_o (by decide), u1_o (by decide), bd_some, gp_69, ua_48 (by omega) (by omega), bd_some, qz_add, v2_u1, u1_s, u1_1]
      · by_cases y : x = t
        · rw [y, v1_s]
        · rw [v1_o (by omega)]; exact g2 x x0 (by omega)
    · rintro st ⟨C, rfl, h⟩
      refine ⟨_, ?_, C, rfl, h⟩
      unfold gL_X11_trace_125 g_X11_trace_125
      rw [gp_57, ga_38 q0 (by omega), u1_o (by decide), u1_o (by decide), bd_some, if_pos (by rw [qz_le (by omega) (by omega) (by omega) (by omega)]; omega)]
  have lp := lp_inv (b := gL_X11_trace_102 n 0) (fun t c => ∃ B8 B9 : Int → Int, c = (qz t, ms F (u1 (u1 A 49 B9) 48 B8) J) ∧ ∀ r, 0 ≤ r → r < t → B9 r = A 38 r ∧ ∀ x, 0 ≤ x → x < A 38 r → B8 (200 * r + x) = A 37 (200 * r + x)) (Q := fun st => ∃ B8 B9 : Int → Int, st = ms F (u1 (u1 A 49 B9) 48 B8) J ∧ ∀ r, 0 ≤ r → r < R → B9 r = A 38 r ∧ ∀ x, 0 ≤ x → x < A 38 r → B8 (200 * r + x) = A 37 (200 * r + x)) R (n := n) (i0 := 0) (by omega) (by omega) (c0 := (qz 0, ms F A J)) ⟨A 48, A 49, by rw [u1_id rfl, u1_id rfl], fun r q0 q1 => by omega⟩ ?_ ?_
  · obtain ⟨st, es, B8, B9, rfl, h⟩ := lp
    exact ⟨B8, B9, es, h⟩
  · rintro t st t0 t1 ⟨B8, B9, rfl, h⟩
    obtain ⟨C, eC, c1, c2⟩ := inner t B8 (v1 B9 t (A 38 t)) t0 t1
    refine ⟨_, ?_, C, v1 B9 t (A 38 t), rfl, fun r q0 q1 => ?_⟩
    · unfold gL_X11_trace_102 g_X11_trace_102
      simp only [zl0, zl1]
      rw [gf_ms, h59, if_neg (by rw [qz_le (by omega) (by omega) (by omega) (by omega)]; omega), gp_57, ga_38 t0 (by omega), u1_o (by decide), u1_o (by decide), bd_some, gp_70, ua_49 t0 (by omega), bd_some, v2_u1, u1_o (by decide), u1_s, u1_sw (by decide), u1_1, eC, bd_some, qz_add]
    · by_cases y : r = t
      · rw [y, v1_s]
        exact ⟨rfl, c2⟩
      · obtain ⟨h1, h2⟩ := h r q0 (by omega)
        rw [v1_o y]
        refine ⟨h1, fun x x0 x1 => ?_⟩
        have := hl r q0 (by omega)
        rw [c1 _ (by omega)]
        exact h2 x x0 x1
  · rintro st ⟨B8, B9, rfl, h⟩
    refine ⟨_, ?_, B8, B9, rfl, h⟩
    unfold gL_X11_trace_102 g_X11_trace_102
    rw [gf_ms, h59, if_pos (by rw [qz_le (by omega) (by omega) (by omega) (by omega)]; omega)]
end TRA
