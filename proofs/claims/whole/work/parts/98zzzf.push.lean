/-! A hypothesis or a marked step is put on: both -/
/-- how many a step takes -/
def ndf (b : Nat) (a : Nat → Int → Int) (x : Int) : Int := if 0 ≤ a 79 x then a (b + 20 + 2) (a 79 x + 1) - a (b + 20 + 2) (a 79 x) else 0
/-- what running changes in the class -/
def FRM (m : Nat) (f : Nat → Nat → Int) (a : Nat → Int → Int) (ni : Nat → Nat) (j : Nat → Int → Int64) (f2 : Nat → Nat → Int) (a2 : Nat → Int → Int) (ni2 : Nat → Nat) (j2 : Nat → Int → Int64) : Prop := (∀ x, ¬(m < x ∧ x < m + 10) → f2 x = f x ∧ a2 x = a x ∧ ni2 x = ni x ∧ j2 x = j x) ∧ j2 (m + 8) = j (m + 8)
/-- what running changes in the reference -/
def FRR (F : Nat → Int) (A : Nat → Int → Int) (F2 : Nat → Int) (A2 : Nat → Int → Int) : Prop := (∀ x, x ≠ 54 → x ≠ 55 → x ≠ 59 → x ≠ 67 → F2 x = F x) ∧ ∀ x, ¬(37 ≤ x ∧ x ≤ 47) → A2 x = A x
def RWm (m : Nat) (f : Nat → Nat → Int) (a : Nat → Int → Int) (ni : Nat → Nat) : Prop := Rw (f (m + 1) 3) (f (m + 1) 2) (ni (m + 1 + 1)) (nC0 (m + 1 + 2)) 32768 (a (m + 1 + 2)) ∧ Rw (f (m + 4) 3) (f (m + 4) 2) (ni (m + 4 + 1)) (nC0 (m + 4 + 2)) 65536 (a (m + 4 + 2))
/-- class and reference between two steps -/
def RI (m b : Nat) (q S K P len k N i : Int) (f : Nat → Nat → Int) (d : Nat → Nat) (a : Nat → Int → Int) (ni : Nat → Nat) (j : Nat → Int → Int64) (F : Nat → Int) (A : Nat → Int → Int) (J : Nat → Int → Int64) : Prop :=
  BK b q S K P len f a ni j A J ∧ d (mi m) = b ∧ F 4 = q ∧ PRT m q P k A j ∧ RWL (m + 1) 32768 (F 59) S f a ni (A 38) (A 37) ∧ F 59 ≤ 100 ∧ RWL (m + 4) 65536 (mkc (a 80) i) S f a ni (A 41) (A 40) ∧ DP k N (a 79) (a 80) (A 34) (A 35) (A 36) ∧ mkc (a 80) N ≤ 200 ∧ (0 ≤ F 67 ∧ F 67 + F 59 = i) ∧ TREE i (F 59) (F 67) (ndf b a) (a 79) (A 35) (A 39) (A 44) (A 45) (A 46) (A 47)
section PSH
variable {n m b : Nat} {q S K P len k N i h R : Int} {f : Nat → Nat → Int} {d : Nat → Nat} {a : Nat → Int → Int} {ni : Nat → Nat} {j : Nat → Int → Int64} {F : Nat → Int} {A : Nat → Int → Int} {J : Nat → Int → Int64}
theorem zl100 : (100 : Int32) = qz 100 := id rfl
theorem ri_fr {f2 : Nat → Nat → Int} {a2 : Nat → Int → Int} {ni2 : Nat → Nat} {j2 : Nat → Int → Int64} {F2 : Nat → Int} {A2 : Nat → Int → Int} (hm : mch m) (hb : bks b) (G : BK b q S K P len f a ni j A J) (HP : PRT m q P k A j) (HD : DP k N (a 79) (a 80) (A 34) (A 35) (A 36)) (h : FRM m f a ni j f2 a2 ni2 j2) (h2 : FRR F A F2 A2) : BK b q S K P len f2 a2 ni2 j2 A2 J ∧ PRT m q P k A2 j2 ∧ DP k N (a2 79) (a2 80) (A2 34) (A2 35) (A2 36) ∧ a2 79 = a 79 ∧ a2 80 = a 80 ∧ ndf b a2 = ndf b a := by
  have hbb : b = 1 ∨ b = 33 := hb
  have hmm : m = 83 ∨ m = 93 := hm
  have e79 : a2 79 = a 79 := (h.1 79 (by omega)).2.1
  have e80 : a2 80 = a 80 := (h.1 80 (by omega)).2.1
  refine ⟨bk_eq G (fun x x1 x2 => (h.1 x (by omega)).1) (fun x x1 x2 => (h.1 x (by omega)).2.1) (fun x x1 x2 => (h.1 x (by omega)).2.2.1) (h.1 _ (by omega)).2.2.2 (fun x x1 x2 => h2.2 x (by omega)) ⟨rfl, rfl⟩, ?_, ?_, e79, e80, ?_⟩
  · unfold PRT
    rw [h.2, h2.2 21 (by omega), h2.2 22 (by omega), h2.2 23 (by omega), h2.2 24 (by omega)]
    exact HP
  · rw [e79, e80, h2.2 34 (by omega), h2.2 35 (by omega), h2.2 36 (by omega)]
    exact HD
  · funext x
    unfold ndf
    rw [e79, (h.1 (b + 20 + 2) (by omega)).2.1]
theorem m_copyH {v1' : Int32} (hn : 100000 ≤ n) (hq : 0 ≤ q ∧ q ≤ 1) (h4 : F 4 = q) (hR : F 59 = R) (r0 : 0 ≤ R) (r1 : R < 100) (G : BK b q S K P len f a ni j A J) (h0 : 0 ≤ h) (h1 : h < K) : ∃ B : Int → Int, hp_lp (gL_X11_pushHypothesis_38 n 0 v1' (qz h)) n (qz 0, ms F A J) = some (ms F (u1 A 37 B) J) ∧ (∀ y, y < 200 * R → B y = A 37 y) ∧ ∀ x, 0 ≤ x → x < A 12 (200 * q + h) → B (200 * R + x) = fsy q h (A 11) (A 16) x := by
  have hK : K ≤ 200 := G.2.1.2.2.2.1
  obtain ⟨f1, f2', f3, f4, f5, f6, f7, f8, f9, f10, f11⟩ := bk_f G h0 h1
  have lp := lp_inv (b := gL_X11_pushHypothesis_38 n 0 v1' (qz h)) (fun t c => ∃ B : Int → Int, c = (qz t, ms F (u1 A 37 B) J) ∧ (∀ y, y < 200 * R → B y = A 37 y) ∧ ∀ x, 0 ≤ x → x < t → B (200 * R + x) = fsy q h (A 11) (A 16) x) (Q := fun st => ∃ B : Int → Int, st = ms F (u1 A 37 B) J ∧ (∀ y, y < 200 * R → B y = A 37 y) ∧ ∀ x, 0 ≤ x → x < A 12 (200 * q + h) → B (200 * R + x) = fsy q h (A 11) (A 16) x) (A 12 (200 * q + h)) (n := n) (i0 := 0) (by omega) (by omega) (c0 := (qz 0, ms F A J)) ⟨A 37, by rw [u1_id rfl], fun _ _ => rfl, fun x x0 x1 => by omega⟩ ?_ ?_
  · obtain ⟨st, es, B, rfl, h⟩ := lp
    exact ⟨B, es, h⟩
  · rintro t st t0 t1 ⟨B, rfl, g1, g2⟩
    refine ⟨_, ?_, v1 B (200 * R + t) (fsy q h (A 11) (A 16) t), rfl, fun y hy => by rw [v1_o (by omega)]; exact g1 y hy, fun x x0 x1 => ?_⟩
    · unfold gL_X11_pushHypothesis_38 g_X11_pushHypothesis_38
      simp only [zl1, zl4096]
      rw [m_at h4, bd_some, gp_15, ga_12 (by omega) (by omega), u1_o (by decide), bd_some, if_neg (by rw [qz_le (by omega) (by omega) (by omega) (by omega)]; omega), gf_ms, hR, m_thing, bd_some, bd_some, gp_14, ga_11 (by omega) (by omega), u1_o (by decide), bd_some, gf_ms, h4, qz_mul, qz_add, qz_add, gp_19, ga_16 (by omega) (by omega), u1_o (by decide), bd_some, qz_add, gp_56, ua_37 (by omega) (by omega), bd_some, qz_add, v2_u1, u1_s, u1_1]
      rfl
    · by_cases e : x = t
      · rw [e, v1_s]
      · rw [v1_o (by omega)]; exact g2 x x0 (by omega)
  · rintro st ⟨B, rfl, h⟩
    refine ⟨_, ?_, B, rfl, h⟩
    unfold gL_X11_pushHypothesis_38 g_X11_pushHypothesis_38
    rw [m_at h4, bd_some, gp_15, ga_12 (by omega) (by omega), u1_o (by decide), bd_some, if_pos (by rw [qz_le (by omega) (by omega) (by omega) (by omega)]; omega)]
theorem m_copyM {v1' : Int32} {mm : Int} (hn : 100000 ≤ n) (hR : F 59 = R) (r0 : 0 ≤ R) (r1 : R < 100) (m0 : 0 ≤ mm) (m1 : mm < 200) (hl : 1 ≤ A 41 mm ∧ A 41 mm ≤ 200) : ∃ B : Int → Int, hp_lp (gL_X11_pushMarked_34 n 0 v1' (qz mm)) n (qz 0, ms F A J) = some (ms F (u1 A 37 B) J) ∧ (∀ y, y < 200 * R → B y = A 37 y) ∧ ∀ x, 0 ≤ x → x < A 41 mm → B (200 * R + x) = A 40 (200 * mm + x) := by
  have lp := lp_inv (b := gL_X11_pushMarked_34 n 0 v1' (qz mm)) (fun t c => ∃ B : Int → Int, c = (qz t, ms F (u1 A 37 B) J) ∧ (∀ y, y < 200 * R → B y = A 37 y) ∧ ∀ x, 0 ≤ x → x < t → B (200 * R + x) = A 40 (200 * mm + x)) (Q := fun st => ∃ B : Int → Int, st = ms F (u1 A 37 B) J ∧ (∀ y, y < 200 * R → B y = A 37 y) ∧ ∀ x, 0 ≤ x → x < A 41 mm → B (200 * R + x) = A 40 (200 * mm + x)) (A 41 mm) (n := n) (i0 := 0) (by omega) (by omega) (c0 := (qz 0, ms F A J)) ⟨A 37, by rw [u1_id rfl], fun _ _ => rfl, fun x x0 x1 => by omega⟩ ?_ ?_
  · obtain ⟨st, es, B, rfl, h⟩ := lp
    exact ⟨B, es, h⟩
  · rintro t st t0 t1 ⟨B, rfl, g1, g2⟩
    refine ⟨_, ?_, v1 B (200 * R + t) (A 40 (200 * mm + t)), rfl, fun y hy => by rw [v1_o (by omega)]; exact g1 y hy, fun x x0 x1 => ?_⟩
    · unfold gL_X11_pushMarked_34 g_X11_pushMarked_34
      simp only [zl1, zl200]
      rw [gp_61, ga_41 m0 m1, u1_o (by decide), bd_some, if_neg (by rw [qz_le (by omega) (by omega) (by omega) (by omega)]; omega), gf_ms, hR, m_thing, bd_some, gp_60, qz_mul, qz_add, ga_40 (by omega) (by omega), u1_o (by decide), bd_some, qz_add, gp_56, ua_37 (by omega) (by omega), bd_some, qz_add, v2_u1, u1_s, u1_1]
    · by_cases e : x = t
      · rw [e, v1_s]
      · rw [v1_o (by omega)]; exact g2 x x0 (by omega)
  · rintro st ⟨B, rfl, h⟩
    refine ⟨_, ?_, B, rfl, h⟩
    unfold gL_X11_pushMarked_34 g_X11_pushMarked_34
    rw [gp_61, ga_41 m0 m1, u1_o (by decide), bd_some, if_pos (by rw [qz_le (by omega) (by omega) (by omega) (by omega)]; omega)]
end PSH
