/-! A thing is put on: the reference; the tree of the steps -/
/-- the tree of the steps before s: what each took, and what stands on the stack -/
def TREE (s R tk : Int) (nd a79 A35 A39 A44 A45 A46 A47 : Int → Int) : Prop := ∃ (dp : Int → Int) (NS : Int → Int → Int), dp 0 = 0 ∧ dp s = R ∧ (∀ r, 0 ≤ r → r < R → A39 r = NS s r) ∧ ∀ x, 0 ≤ x → x < s → 0 ≤ nd x ∧ nd x ≤ dp x ∧ dp (x + 1) = dp x - nd x + 1 ∧ (∀ r, 0 ≤ r → r < dp x - nd x → NS (x + 1) r = NS x r) ∧ NS (x + 1) (dp x - nd x) = A47 x ∧ A46 x = nd x ∧ 0 ≤ A45 x ∧ A45 x + nd x ≤ tk ∧ (∀ i, 0 ≤ i → i < nd x → A44 (A45 x + i) = NS x (dp x - nd x + i)) ∧ (0 ≤ a79 x → A47 x = x) ∧ (a79 x < 0 → 0 ≤ A35 (-1 - a79 x) ∧ A35 (-1 - a79 x) < x ∧ A47 x = A47 (A35 (-1 - a79 x)))
theorem tree_0 {nd a79 A35 A39 A44 A45 A46 A47 : Int → Int} : TREE 0 0 0 nd a79 A35 A39 A44 A45 A46 A47 := ⟨fun _ => 0, fun _ _ => 0, rfl, rfl, fun r r0 r1 => by omega, fun x x0 x1 => by omega⟩
theorem tree_s {s R tk node : Int} {nd a79 A35 A39 A44 A45 A46 A47 B39 B44 B45 B46 B47 : Int → Int} (H : TREE s R tk nd a79 A35 A39 A44 A45 A46 A47) (s0 : 0 ≤ s) (n0 : 0 ≤ nd s) (n1 : nd s ≤ R) (tk0 : 0 ≤ tk) (h39 : ∀ r, 0 ≤ r → r < R - nd s → B39 r = A39 r) (g39 : B39 (R - nd s) = node) (h44 : ∀ y, y < tk → B44 y = A44 y) (g44 : ∀ i, 0 ≤ i → i < nd s → B44 (tk + i) = A39 (R - nd s + i)) (h45 : ∀ x, x < s → B45 x = A45 x) (g45 : B45 s = tk) (h46 : ∀ x, x < s → B46 x = A46 x) (g46 : B46 s = nd s) (h47 : ∀ x, x < s → B47 x = A47 x) (g47 : B47 s = node) (hp : 0 ≤ a79 s → node = s) (hm : a79 s < 0 → 0 ≤ A35 (-1 - a79 s) ∧ A35 (-1 - a79 s) < s ∧ node = A47 (A35 (-1 - a79 s))) : TREE (s + 1) (R - nd s + 1) (tk + nd s) nd a79 A35 B39 B44 B45 B46 B47 := by
  obtain ⟨dp, NS, d0, dR, dS, dx⟩ := H
  refine ⟨v1 dp (s + 1) (R - nd s + 1), fun x => if x = s + 1 then v1 (NS s) (R - nd s) node else NS x, by rw [v1_o (by omega)]; exact d0, by rw [v1_s], fun r r0 r1 => ?_, fun x x0 x1 => ?_⟩
  · show B39 r = (if s + 1 = s + 1 then v1 (NS s) (R - nd s) node else NS (s + 1)) r
    rw [if_pos rfl]
    by_cases e : r = R - nd s
    · rw [e, v1_s]; exact g39
    · rw [v1_o e, h39 r r0 (by omega)]
      exact dS r r0 (by omega)
  · show 0 ≤ nd x ∧ nd x ≤ v1 dp (s + 1) (R - nd s + 1) x ∧ v1 dp (s + 1) (R - nd s + 1) (x + 1) = v1 dp (s + 1) (R - nd s + 1) x - nd x + 1 ∧ (∀ r, 0 ≤ r → r < v1 dp (s + 1) (R - nd s + 1) x - nd x → (if x + 1 = s + 1 then v1 (NS s) (R - nd s) node else NS (x + 1)) r = (if x = s + 1 then v1 (NS s) (R - nd s) node else NS x) r) ∧ (if x + 1 = s + 1 then v1 (NS s) (R - nd s) node else NS (x + 1)) (v1 dp (s + 1) (R - nd s + 1) x - nd x) = B47 x ∧ B46 x = nd x ∧ 0 ≤ B45 x ∧ B45 x + nd x ≤ tk + nd s ∧ (∀ i, 0 ≤ i → i < nd x → B44 (B45 x + i) = (if x = s + 1 then v1 (NS s) (R - nd s) node else NS x) (v1 dp (s + 1) (R - nd s + 1) x - nd x + i)) ∧ (0 ≤ a79 x → B47 x = x) ∧ (a79 x < 0 → 0 ≤ A35 (-1 - a79 x) ∧ A35 (-1 - a79 x) < x ∧ B47 x = B47 (A35 (-1 - a79 x)))
    rw [if_neg (by omega : ¬x = s + 1), v1_o (by omega : x ≠ s + 1)]
    by_cases e : x = s
    · subst e
      rw [if_pos rfl, v1_s, dR, v1_s, g45, g46, g47]
      refine ⟨n0, n1, rfl, fun r r0 r1 => by rw [v1_o (by omega)], rfl, rfl, tk0, Int.le_refl _, fun i i0 i1 => ?_, hp, fun z => ?_⟩
      · rw [g44 i i0 i1]
        exact dS _ (by omega) (by omega)
      · obtain ⟨y1, y2, y3⟩ := hm z
        exact ⟨y1, y2, by rw [h47 _ y2]; exact y3⟩
    · obtain ⟨q1, q2, q3, q4, q5, q6, q7, q8, q9, q10, q11⟩ := dx x x0 (by omega)
      rw [if_neg (by omega), v1_o (by omega), h45 x (by omega), h46 x (by omega), h47 x (by omega)]
      refine ⟨q1, q2, q3, q4, q5, q6, q7, by omega, fun i i0 i1 => ?_, q10, fun z => ?_⟩
      · rw [h44 _ (by omega)]
        exact q9 i i0 i1
      · obtain ⟨y1, y2, y3⟩ := q11 z
        exact ⟨y1, y2, by rw [h47 _ (by omega)]; exact y3⟩
section THI
variable {n : Nat} {s nd R : Int} {F : Nat → Int} {A : Nat → Int → Int} {J : Nat → Int → Int64}
theorem m_endThing (hn : 100000 ≤ n) (hR : F 59 = R) (r0 : 0 ≤ R) (r1 : R < 100) (s0 : 0 ≤ s) (s1 : s < 1000) (hl : 1 ≤ A 38 R ∧ A 38 R ≤ 200) (hm : -1 ≤ A 36 s ∧ A 36 s < 200) : ∃ A2 : Nat → Int → Int, g_X11_endThing n 0 (qz s) (qz nd) (ms F A J) = some (ms (u1 F 59 (R + 1)) A2 J) ∧ (∀ i, i ≠ 39 → i ≠ 47 → i ≠ 40 → i ≠ 41 → A2 i = A i) ∧ A2 39 = v1 (A 39) R nd ∧ A2 47 = v1 (A 47) s nd ∧ (A 36 s < 0 → A2 40 = A 40 ∧ A2 41 = A 41) ∧ (0 ≤ A 36 s → A2 41 = v1 (A 41) (A 36 s) (A 38 R) ∧ (∀ y, y < 200 * A 36 s → A2 40 y = A 40 y) ∧ ∀ x, 0 ≤ x → x < A 38 R → A2 40 (200 * A 36 s + x) = A 37 (200 * R + x)) := by
  have e97 : ∀ A2 : Nat → Int → Int, g_X11_endThing_97 n 0 (ms F A2 J) = some (ms (u1 F 59 (R + 1)) A2 J) := by
    intro A2
    unfold g_X11_endThing_97
    rw [gf_ms, hR, zl1, qz_add, wf_ms, bd_some]
  have e0 : g_X11_endThing n 0 (qz s) (qz nd) (ms F A J) = if A 36 s < 0 then g_X11_endThing_97 n 0 (ms F (v2 (v2 A 39 R nd) 47 s nd) J) else (uA 0 (ms F (v2 (v2 A 39 R nd) 47 s nd) J) 41 (qz (A 36 s)) (qz (A 38 R))).bind fun w12 => (hp_lp (gL_X11_endThing_51 n 0 (qz (A 36 s))) n (qz 0, w12)).bind fun x13 => g_X11_endThing_97 n 0 x13 := by
    unfold g_X11_endThing g_X11_endThing_0
    simp only [zl0]
    rw [gp_58, gf_ms, hR, ua_39 r0 r1, bd_some, gp_68, ua_47 s0 s1, bd_some, gp_52, ga_36 s0 s1, v2_o (by decide), v2_o (by decide), bd_some, bd_some, gp_57, gf_ms, hR, ga_38 r0 r1, v2_o (by decide), v2_o (by decide), bd_some, gp_61]
    simp (disch := omega) only [qz_lt]
  by_cases c : A 36 s < 0
  · refine ⟨v2 (v2 A 39 R nd) 47 s nd, by rw [e0, if_pos c, e97], fun i i1 i2 i3 i4 => by rw [v2_o i2, v2_o i1], by rw [v2_o (by decide), v2_s], by rw [v2_s, v2_o (by decide)], fun _ => ⟨by rw [v2_o (by decide), v2_o (by decide)], by rw [v2_o (by decide), v2_o (by decide)]⟩, fun z => by omega⟩
  rw [if_neg c, ua_41 (by omega) (by omega), bd_some] at e0
  generalize hA1 : v2 (v2 (v2 A 39 R nd) 47 s nd) 41 (A 36 s) (A 38 R) = A1 at e0
  have a38 : A1 38 = A 38 := by rw [← hA1, v2_o (by decide), v2_o (by decide), v2_o (by decide)]
  have a37 : A1 37 = A 37 := by rw [← hA1, v2_o (by decide), v2_o (by decide), v2_o (by decide)]
  have a41 : A1 41 = v1 (A 41) (A 36 s) (A 38 R) := by rw [← hA1, v2_s, v2_o (by decide), v2_o (by decide)]
  have a40 : A1 40 = A 40 := by rw [← hA1, v2_o (by decide), v2_o (by decide), v2_o (by decide)]
  have lp := lp_inv (b := gL_X11_endThing_51 n 0 (qz (A 36 s))) (fun t c => ∃ B : Int → Int, c = (qz t, ms F (u1 A1 40 B) J) ∧ (∀ y, y < 200 * A 36 s → B y = A 40 y) ∧ ∀ x, 0 ≤ x → x < t → B (200 * A 36 s + x) = A 37 (200 * R + x)) (Q := fun st => ∃ B : Int → Int, st = ms F (u1 A1 40 B) J ∧ (∀ y, y < 200 * A 36 s → B y = A 40 y) ∧ ∀ x, 0 ≤ x → x < A 38 R → B (200 * A 36 s + x) = A 37 (200 * R + x)) (A 38 R) (n := n) (i0 := 0) (by omega) (by omega) (c0 := (qz 0, ms F A1 J)) ⟨A 40, by rw [u1_id a40], fun _ _ => rfl, fun x x0 x1 => by omega⟩ ?_ ?_
  · obtain ⟨st, es, B, rfl, h1, h2⟩ := lp
    rw [es, bd_some, e97] at e0
    refine ⟨u1 A1 40 B, e0, fun i i1 i2 i3 i4 => by rw [u1_o i3, ← hA1, v2_o i4, v2_o i2, v2_o i1], by rw [u1_o (by decide), ← hA1, v2_o (by decide), v2_o (by decide), v2_s], by rw [u1_o (by decide), ← hA1, v2_o (by decide), v2_s, v2_o (by decide)], fun z => by omega, fun _ => ⟨by rw [u1_o (by decide)]; exact a41, by rw [u1_s]; exact h1, by rw [u1_s]; exact h2⟩⟩
  · rintro t st t0 t1 ⟨B, rfl, h1, h2⟩
    refine ⟨_, ?_, v1 B (200 * A 36 s + t) (A 37 (200 * R + t)), rfl, fun y hy => by rw [v1_o (by omega)]; exact h1 y hy, fun x x0 x1 => ?_⟩
    · unfold gL_X11_endThing_51 g_X11_endThing_51
      simp only [zl1, zl200]
      rw [gp_61, ga_41 (by omega) (by omega), u1_o (by decide), a41, v1_s, bd_some, if_neg (by rw [qz_le (by omega) (by omega) (by omega) (by omega)]; omega), gf_ms, hR, m_thing, bd_some, qz_add, gp_56, ga_37 (by omega) (by omega), u1_o (by decide), a37, bd_some, gp_60, qz_mul, qz_add, ua_40 (by omega) (by omega), bd_some, qz_add, v2_u1, u1_s, u1_1]
    · by_cases e : x = t
      · rw [e, v1_s]
      · rw [v1_o (by omega)]; exact h2 x x0 (by omega)
  · rintro st ⟨B, rfl, h⟩
    refine ⟨_, ?_, B, rfl, h⟩
    unfold gL_X11_endThing_51 g_X11_endThing_51
    rw [gp_61, ga_41 (by omega) (by omega), u1_o (by decide), a41, v1_s, bd_some, if_pos (by rw [qz_le (by omega) (by omega) (by omega) (by omega)]; omega)]
end THI
