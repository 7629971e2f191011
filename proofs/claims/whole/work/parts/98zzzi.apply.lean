/-! A step that is an assertion: both -/
section APP
variable {n m b : Nat} {q S K P len k N i R bs tk l e w : Int} {f : Nat → Nat → Int} {d : Nat → Nat} {a : Nat → Int → Int} {ni : Nat → Nat} {j : Nat → Int → Int64} {F : Nat → Int} {A : Nat → Int → Int} {J : Nat → Int → Int64}
theorem zlm7 : (-7 : Int32) = qz (-7) := id rfl
theorem zlm4 : (-4 : Int32) = qz (-4) := id rfl
/-- what a step takes is noted: the reference -/
theorem m_takes {v2 v7 : Int32} (hn : 100000 ≤ n) (h67 : F 67 = tk) (t0 : 0 ≤ tk) (l0 : 0 ≤ l) (t1 : tk + l ≤ 1000) (b0 : 0 ≤ bs) (b1 : bs + l ≤ 100) : ∃ B : Int → Int, hp_lp (gL_X11_pushAssertion_255 n 0 v2 (qz l) (qz bs) v7) n (qz 0, ms F A J) = some (ms (u1 F 67 (tk + l)) (u1 A 44 B) J) ∧ (∀ y, y < tk → B y = A 44 y) ∧ ∀ x, 0 ≤ x → x < l → B (tk + x) = A 39 (bs + x) := by
  have lp := lp_inv (b := gL_X11_pushAssertion_255 n 0 v2 (qz l) (qz bs) v7) (fun t c => ∃ B : Int → Int, c = (qz t, ms (u1 F 67 (tk + t)) (u1 A 44 B) J) ∧ (∀ y, y < tk → B y = A 44 y) ∧ ∀ x, 0 ≤ x → x < t → B (tk + x) = A 39 (bs + x)) (Q := fun st => ∃ B : Int → Int, st = ms (u1 F 67 (tk + l)) (u1 A 44 B) J ∧ (∀ y, y < tk → B y = A 44 y) ∧ ∀ x, 0 ≤ x → x < l → B (tk + x) = A 39 (bs + x)) l (n := n) (i0 := 0) (by omega) (by omega) (c0 := (qz 0, ms F A J)) ⟨A 44, by rw [u1_id rfl, Int.add_zero, u1_id h67], fun _ _ => rfl, fun x x0 x1 => by omega⟩ ?_ ?_
  · obtain ⟨st, es, B, rfl, h⟩ := lp
    exact ⟨B, es, h⟩
  · rintro t st q0 q1 ⟨B, rfl, g1, g2⟩
    refine ⟨_, ?_, v1 B (tk + t) (A 39 (bs + t)), rfl, fun y hy => by rw [v1_o (by omega)]; exact g1 y hy, fun x x0 x1 => ?_⟩
    · unfold gL_X11_pushAssertion_255 g_X11_pushAssertion_255
      simp only [zl1]
      rw [if_neg (by rw [qz_le (by omega) (by omega) (by omega) (by omega)]; omega), gp_58, qz_add, ga_39 (by omega) (by omega), u1_o (by decide), bd_some, gp_64, gf_ms, u1_s, ua_44 (by omega) (by omega), bd_some, gf_ms, u1_s, qz_add, wf_ms, bd_some, qz_add, v2_u1, u1_s, u1_1, u1_1, Int.add_assoc]
    · by_cases y : x = t
      · rw [y, v1_s]
      · rw [v1_o (by omega)]; exact g2 x x0 (by omega)
  · rintro st ⟨B, rfl, h⟩
    refine ⟨_, ?_, B, rfl, h⟩
    unfold gL_X11_pushAssertion_255 g_X11_pushAssertion_255
    rw [if_pos (by rw [qz_le (by omega) (by omega) (by omega) (by omega)]; omega)]
theorem m_copyI {v2 : Int32} (hn : 100000 ≤ n) (b0 : 0 ≤ bs) (b1 : bs < 100) (l0 : 0 ≤ l) (l1 : l ≤ 200) : ∃ B : Int → Int, hp_lp (gL_X11_pushAssertion_315 n 0 v2 (qz bs) (qz l)) n (qz 0, ms F A J) = some (ms F (u1 A 37 B) J) ∧ (∀ y, y < 200 * bs → B y = A 37 y) ∧ ∀ x, 0 ≤ x → x < l → B (200 * bs + x) = A 42 x := by
  have lp := lp_inv (b := gL_X11_pushAssertion_315 n 0 v2 (qz bs) (qz l)) (fun t c => ∃ B : Int → Int, c = (qz t, ms F (u1 A 37 B) J) ∧ (∀ y, y < 200 * bs → B y = A 37 y) ∧ ∀ x, 0 ≤ x → x < t → B (200 * bs + x) = A 42 x) (Q := fun st => ∃ B : Int → Int, st = ms F (u1 A 37 B) J ∧ (∀ y, y < 200 * bs → B y = A 37 y) ∧ ∀ x, 0 ≤ x → x < l → B (200 * bs + x) = A 42 x) l (n := n) (i0 := 0) (by omega) (by omega) (c0 := (qz 0, ms F A J)) ⟨A 37, by rw [u1_id rfl], fun _ _ => rfl, fun x x0 x1 => by omega⟩ ?_ ?_
  · obtain ⟨st, es, B, rfl, h⟩ := lp
    exact ⟨B, es, h⟩
  · rintro t st q0 q1 ⟨B, rfl, g1, g2⟩
    refine ⟨_, ?_, v1 B (200 * bs + t) (A 42 t), rfl, fun y hy => by rw [v1_o (by omega)]; exact g1 y hy, fun x x0 x1 => ?_⟩
    · unfold gL_X11_pushAssertion_315 g_X11_pushAssertion_315
      simp only [zl1]
      rw [if_neg (by rw [qz_le (by omega) (by omega) (by omega) (by omega)]; omega), m_thing, bd_some, gp_62, ga_42 (by omega) (by omega), u1_o (by decide), bd_some, gp_56, qz_add, ua_37 (by omega) (by omega), bd_some, qz_add, v2_u1, u1_s, u1_1]
    · by_cases y : x = t
      · rw [y, v1_s]
      · rw [v1_o (by omega)]; exact g2 x x0 (by omega)
  · rintro st ⟨B, rfl, h⟩
    refine ⟨_, ?_, B, rfl, h⟩
    unfold gL_X11_pushAssertion_315 g_X11_pushAssertion_315
    rw [if_pos (by rw [qz_le (by omega) (by omega) (by omega) (by omega)]; omega)]
/-- a variable of a mandatory hypothesis has been given its row -/
theorem mf_st {x : Int} (G : BK b q S K P len f a ni j A J) (h0 : 0 ≤ e) (h1 : e < K) (h : mf (a (b + 20 + 1)) (a (b + 20 + 2)) (a (b + 8)) (a (b + 11 + 1)) (a (b + 11 + 2)) e x) : stX b q e a (A 11) (A 16) e x := by
  obtain ⟨h, hh, kh, eh⟩ := h
  obtain ⟨e1, e2, e3, e4⟩ := bk_h G h0 h1
  have hr := e4 h hh
  have f11 := (bk_f G hr.1 (by omega)).2.2.2.2.2.2.2.2.2.2
  have gk := G.2.2.2.1 h hr.1 (by omega)
  rw [bk_fs G hr.1 (by omega) (by omega) (by have := f11 (by omega); omega)] at eh
  exact ⟨h, hh, hr.2.1, kh, eh.symm⟩
/-- the first symbol of a formula stays -/
theorem sbl_1 {sf L T : Int → Int} (G : BK b q S K P len f a ni j A J) (h0 : 0 ≤ e) (h1 : e < K) : 1 ≤ ((sbl (fsy q e (A 11) (A 16)) (a (b + 7)) sf L T (A 12 (200 * q + e)).toNat).length : Int) := by
  obtain ⟨f1, f2', f3, f4, f5, f6, f7, f8, f9, f10, f11⟩ := bk_f G h0 h1
  have g := (G.2.2.2.2.1 e h0 h1).2.2.2.2.2.1
  have g2 := bk_fs G h0 h1 (i := 0) (by omega) (by omega)
  rw [Int.add_zero] at g2
  rw [g2] at g
  have h2 := sbl_m (sy := fsy q e (A 11) (A 16)) (va := a (b + 7)) (sf := sf) (L := L) (T := T) 1 ((A 12 (200 * q + e)).toNat - 1)
  rw [show 1 + ((A 12 (200 * q + e)).toNat - 1) = (A 12 (200 * q + e)).toNat by omega] at h2
  have h3 : (sbl (fsy q e (A 11) (A 16)) (a (b + 7)) sf L T 1).length = 1 := by
    rw [show (1 : Nat) = 0 + 1 from rfl, sbl_s, show ((0 : Nat) : Int) = 0 from rfl, sbt_0 (by rw [g]; decide)]
    rfl
  omega
end APP
