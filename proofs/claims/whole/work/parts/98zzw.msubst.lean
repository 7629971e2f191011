/-! Substitution in the reference -/
section MSB
variable {n b : Nat} {q S K P len h c : Int} {f : Nat → Nat → Int} {d : Nat → Nat} {a : Nat → Int → Int} {ni : Nat → Nat} {j : Nat → Int → Int64} {F : Nat → Int} {A : Nat → Int → Int} {J : Nat → Int → Int64} {B : Int → Int}
theorem zl201 : (201 : Int32) = qz 201 := id rfl
theorem m_thing {x : Int} {s : st_T} : g_X11_thing n 0 (qz x) s = some (qz (200 * x)) := by
  unfold g_X11_thing g_X11_thing_0
  rw [zl200, qz_mul]
theorem m_sub106 {v3 : Int32} {o va : Int} (hn : 100000 ≤ n) (c0 : 0 ≤ c) (c1 : c < 300) (o0 : 0 ≤ o) (hv : va = 0 ∨ va = 1) (hc : va = 1 → 0 ≤ A 43 c ∧ A 43 c < 100 ∧ 1 ≤ A 38 (A 43 c) ∧ A 38 (A 43 c) ≤ 200) (vf : Int → Int) (hvf : vf c = va) (ho : o + (sbt vf (A 43) (A 38) (A 37) c).length ≤ 200) : ∃ B2 : Int → Int, hp_lp (gL_X11_substitute_106 n 0 (qz h) v3 (qz c) (qz va) (qz (sbt vf (A 43) (A 38) (A 37) c).length)) n (qz o, qz 0, ms F (u1 A 42 B) J) = some (qz (o + (sbt vf (A 43) (A 38) (A 37) c).length), ms F (u1 A 42 B2) J) ∧ (∀ x, x < o → B2 x = B x) ∧ ∀ y : Nat, y < (sbt vf (A 43) (A 38) (A 37) c).length → B2 (o + y) = (sbt vf (A 43) (A 38) (A 37) c).getD y 0 := by
  generalize htl : sbt vf (A 43) (A 38) (A 37) c = tl at *
  have lp := lp_inv (b := gL_X11_substitute_106 n 0 (qz h) v3 (qz c) (qz va) (qz tl.length)) (fun t s => ∃ B2 : Int → Int, s = (qz (o + t), qz t, ms F (u1 A 42 B2) J) ∧ (∀ x, x < o → B2 x = B x) ∧ ∀ y : Nat, (y : Int) < t → B2 (o + y) = tl.getD y 0) (Q := fun s => ∃ B2 : Int → Int, s = (qz (o + tl.length), ms F (u1 A 42 B2) J) ∧ (∀ x, x < o → B2 x = B x) ∧ ∀ y : Nat, y < tl.length → B2 (o + y) = tl.getD y 0) tl.length (n := n) (i0 := 0) (by omega) (by omega) (c0 := (qz o, qz 0, ms F (u1 A 42 B) J)) ⟨B, by rw [Int.add_zero], fun _ _ => rfl, fun y hy => by omega⟩ ?_ ?_
  · obtain ⟨s, es, B2, rfl, h1, h2⟩ := lp
    exact ⟨B2, es, h1, h2⟩
  · rintro t s t0 t1 ⟨B2, rfl, h1, h2⟩
    refine ⟨_, ?_, v1 B2 (o + t) (tl.getD t.toNat 0), rfl, fun x hx => by rw [v1_o (by omega)]; exact h1 x hx, fun y hy => ?_⟩
    · have ev : ∀ w, (uA 0 (ms F (u1 A 42 B2) J) 42 (qz (o + t)) (qz w)).bind (fun w1 => (some (.inl (qz (o + t) + (1 : Int32), qz t + (1 : Int32), w1)) : Option ((Int32 × Int32 × st_T) ⊕ (Int32 × st_T)))) = some (.inl (qz (o + (t + 1)), qz (t + 1), ms F (u1 A 42 (v1 B2 (o + t) w)) J)) := by
        intro w
        rw [ua_42 (by omega) (by omega), bd_some, zl1, qz_add, qz_add, v2_u1, u1_s, u1_1, Int.add_assoc]
      unfold gL_X11_substitute_106 g_X11_substitute_106 g_X11_substitute_149
      rw [if_neg (by rw [qz_le (by omega) (by omega) (by omega) (by omega)]; omega), gp_62]
      rcases hv with v0 | v0
      · rw [if_pos (by rw [v0]; rfl), ev]
        have e : tl = [c] := by rw [← htl]; exact sbt_0 (by omega)
        have : t = 0 := by
          rw [e] at t1
          have : (([c] : List Int).length : Int) = 1 := rfl
          omega
        rw [e, this]
        rfl
      · obtain ⟨z1, z2, z3, z4⟩ := hc v0
        have el := sbt_1 (va := vf) (sf := A 43) (L := A 38) (T := A 37) (c := c) (by omega) z3
        rw [htl] at el
        rw [if_neg (by rw [v0]; decide), gp_63, ga_43 c0 c1, u1_o (by decide), bd_some, m_thing, bd_some, zl1, qz_add, qz_add, gp_56, ga_37 (by omega) (by omega), u1_o (by decide), bd_some, ← zl1, ev]
        have e : tl.getD t.toNat 0 = A 37 (200 * A 43 c + 1 + t) := by
          rw [← htl]
          unfold sbt
          rw [if_pos (by omega), getD_nmb (by omega), show ((t.toNat : Nat) : Int) = t by omega]
        rw [e]
    · by_cases e : (y : Int) = t
      · rw [e, v1_s, show t.toNat = y by omega]
      · rw [v1_o (by omega)]; exact h2 y (by omega)
  · rintro s ⟨B2, rfl, h1, h2⟩
    refine ⟨_, ?_, B2, rfl, h1, fun y hy => h2 y (by omega)⟩
    unfold gL_X11_substitute_106 g_X11_substitute_106
    rw [if_pos (by rw [qz_le (by omega) (by omega) (by omega) (by omega)]; omega)]
theorem m_subst (hn : 100000 ≤ n) (hq : 0 ≤ q ∧ q ≤ 1) (h4 : F 4 = q) (G : BK b q S K P len f a ni j A J) (h0 : 0 ≤ h) (h1 : h < K) (hs : ∀ i, 0 ≤ i → i < A 12 (200 * q + h) → a (b + 7) (fsy q h (A 11) (A 16) i) = 1 → 0 ≤ A 43 (fsy q h (A 11) (A 16) i) ∧ A 43 (fsy q h (A 11) (A 16) i) < 100 ∧ 1 ≤ A 38 (A 43 (fsy q h (A 11) (A 16) i)) ∧ A 38 (A 43 (fsy q h (A 11) (A 16) i)) ≤ 200) : ∃ B : Int → Int, g_X11_substitute n 0 (qz h) (ms F A J) = some (qz (if ((sbl (fsy q h (A 11) (A 16)) (a (b + 7)) (A 43) (A 38) (A 37) (A 12 (200 * q + h)).toNat).length : Int) ≤ 200 then ((sbl (fsy q h (A 11) (A 16)) (a (b + 7)) (A 43) (A 38) (A 37) (A 12 (200 * q + h)).toNat).length : Int) else 201), ms F (u1 A 42 B) J) ∧ (((sbl (fsy q h (A 11) (A 16)) (a (b + 7)) (A 43) (A 38) (A 37) (A 12 (200 * q + h)).toNat).length : Int) ≤ 200 → ∀ x : Nat, x < (sbl (fsy q h (A 11) (A 16)) (a (b + 7)) (A 43) (A 38) (A 37) (A 12 (200 * q + h)).toNat).length → B x = (sbl (fsy q h (A 11) (A 16)) (a (b + 7)) (A 43) (A 38) (A 37) (A 12 (200 * q + h)).toNat).getD x 0) := by
  have hS : S ≤ 300 := G.2.1.2.1
  have hK : K ≤ 200 := G.2.1.2.2.2.1
  obtain ⟨f1, f2', f3, f4, f5, f6, f7, f8, f9, f10, f11⟩ := bk_f G h0 h1
  have hsy := fun i i0 i1 => fsy_r G h0 h1 (i := i) i0 i1
  generalize hsyd : fsy q h (A 11) (A 16) = sy at *
  have lp := lp_ix (b := gL_X11_substitute_4 n 0 (qz h)) (fun i s => ∃ B : Int → Int, s = (qz (sbl sy (a (b + 7)) (A 43) (A 38) (A 37) i.toNat).length, qz i, ms F (u1 A 42 B) J) ∧ ((sbl sy (a (b + 7)) (A 43) (A 38) (A 37) i.toNat).length : Int) ≤ 200 ∧ ∀ x : Nat, x < (sbl sy (a (b + 7)) (A 43) (A 38) (A 37) i.toNat).length → B x = (sbl sy (a (b + 7)) (A 43) (A 38) (A 37) i.toNat).getD x 0) (Q := fun r => ∃ B : Int → Int, r = (qz (if ((sbl sy (a (b + 7)) (A 43) (A 38) (A 37) (A 12 (200 * q + h)).toNat).length : Int) ≤ 200 then ((sbl sy (a (b + 7)) (A 43) (A 38) (A 37) (A 12 (200 * q + h)).toNat).length : Int) else 201), ms F (u1 A 42 B) J) ∧ (((sbl sy (a (b + 7)) (A 43) (A 38) (A 37) (A 12 (200 * q + h)).toNat).length : Int) ≤ 200 → ∀ x : Nat, x < (sbl sy (a (b + 7)) (A 43) (A 38) (A 37) (A 12 (200 * q + h)).toNat).length → B x = (sbl sy (a (b + 7)) (A 43) (A 38) (A 37) (A 12 (200 * q + h)).toNat).getD x 0)) (A 12 (200 * q + h)) (n := n) (i0 := 0) (by omega) (by omega) (c0 := (qz 0, qz 0, ms F A J)) ⟨A 42, by rw [u1_id (f := A) rfl]; rfl, by show (0 : Int) ≤ 200; omega, fun x hx => absurd hx (Nat.not_lt_zero _)⟩ ?_ ?_
  · obtain ⟨r, er, B, rfl, h2⟩ := lp
    refine ⟨B, ?_, h2⟩
    unfold g_X11_substitute g_X11_substitute_0
    rw [zl0, er, bd_some]
  · rintro i s i0 i1 ⟨B, rfl, hl, hB⟩
    obtain ⟨y1, y2, y3, y4⟩ := hsy i i0 i1
    have en : (i + 1).toNat = i.toNat + 1 := by omega
    have ei : ((i.toNat : Nat) : Int) = i := by omega
    have el := sbl_l (sy := sy) (va := a (b + 7)) (sf := A 43) (L := A 38) (T := A 37) (i := i.toNat)
    rw [ei] at el
    have hlen : (sbt (a (b + 7)) (A 43) (A 38) (A 37) (sy i)).length ≤ 200 := by
      by_cases c : a (b + 7) (sy i) = 1
      · obtain ⟨z1, z2, z3, z4⟩ := hs i i0 i1 c
        have := sbt_1 (va := a (b + 7)) (sf := A 43) (L := A 38) (T := A 37) c z3
        omega
      · rw [sbt_0 c]
        show 1 ≤ 200
        omega
    have em : gL_X11_substitute_4 n 0 (qz h) (qz (sbl sy (a (b + 7)) (A 43) (A 38) (A 37) i.toNat).length, qz i, ms F (u1 A 42 B) J) = g_X11_substitute_87 n 0 (qz h) (qz (sbl sy (a (b + 7)) (A 43) (A 38) (A 37) i.toNat).length) (qz i) (qz (sy i)) (qz (a (b + 7) (sy i))) (qz (sbt (a (b + 7)) (A 43) (A 38) (A 37) (sy i)).length) (ms F (u1 A 42 B) J) := by
      unfold gL_X11_substitute_4 g_X11_substitute_4
      simp only [zl0, zl300, zl4096]
      rw [m_at h4, bd_some, gp_15, ga_12 (by omega) (by omega), u1_o (by decide), bd_some, if_neg (by rw [qz_le (by omega) (by omega) (by omega) (by omega)]; omega), bd_some, gp_14, ga_11 (by omega) (by omega), u1_o (by decide), bd_some, gf_ms, h4, qz_mul, qz_add, qz_add, gp_19, ga_16 (by omega) (by omega), u1_o (by decide), bd_some, show A 16 (4096 * q + A 11 (200 * q + h) + i) = sy i from (by rw [← hsyd]; rfl), qz_mul, qz_add, gp_8, ga_5 (by omega) (by omega), u1_o (by decide), bd_some, ← y3]
      by_cases c : a (b + 7) (sy i) = 1
      · obtain ⟨z1, z2, z3, z4⟩ := hs i i0 i1 c
        rw [c, if_neg n10, gp_63, ga_43 (by omega) (by omega), u1_o (by decide), bd_some, gp_57, ga_38 z1 z2, u1_o (by decide), bd_some, zl1, qz_sub, sbt_1 c z3]
      · rw [show a (b + 7) (sy i) = 0 by omega, if_pos rfl, sbt_0 c]
        rfl
    rw [em]
    unfold g_X11_substitute_87
    simp only [zl0, zl1, zl200, zl201]
    rw [qz_add]
    by_cases c : ((sbl sy (a (b + 7)) (A 43) (A 38) (A 37) i.toNat).length : Int) + (sbt (a (b + 7)) (A 43) (A 38) (A 37) (sy i)).length ≤ 200
    · obtain ⟨B2, eB, b1, b2⟩ := m_sub106 (n := n) (h := h) (v3 := qz i) (F := F) (J := J) (B := B) (va := a (b + 7) (sy i)) hn y1 (by omega) (o := ((sbl sy (a (b + 7)) (A 43) (A 38) (A 37) i.toNat).length : Int)) (by omega) y4 (hs i i0 i1) (a (b + 7)) rfl c
      rw [if_pos (by rw [qz_le (by omega) (by omega) (by omega) (by omega)]; exact c), eB, bd_some, qz_add]
      refine Or.inl ⟨_, rfl, B2, by rw [en, el], by rw [en, el]; exact c, fun x hx => ?_⟩
      rw [en] at hx ⊢
      rw [sbl_s, ei]
      by_cases e : x < (sbl sy (a (b + 7)) (A 43) (A 38) (A 37) i.toNat).length
      · rw [b1 x (by omega), getD_al e]
        exact hB x e
      · have hx' : x - (sbl sy (a (b + 7)) (A 43) (A 38) (A 37) i.toNat).length < (sbt (a (b + 7)) (A 43) (A 38) (A 37) (sy i)).length := by
          rw [sbl_s, List.length_append, ei] at hx
          omega
        have hb := b2 _ hx'
        rw [show ((sbl sy (a (b + 7)) (A 43) (A 38) (A 37) i.toNat).length : Int) + ((x - (sbl sy (a (b + 7)) (A 43) (A 38) (A 37) i.toNat).length : Nat) : Int) = (x : Int) by omega] at hb
        rw [hb]
        have := getD_ar (L1 := sbl sy (a (b + 7)) (A 43) (A 38) (A 37) i.toNat) (L2 := sbt (a (b + 7)) (A 43) (A 38) (A 37) (sy i)) (x := x - (sbl sy (a (b + 7)) (A 43) (A 38) (A 37) i.toNat).length)
        rw [show (sbl sy (a (b + 7)) (A 43) (A 38) (A 37) i.toNat).length + (x - (sbl sy (a (b + 7)) (A 43) (A 38) (A 37) i.toNat).length) = x by omega] at this
        rw [this]
    · rw [if_neg (by rw [qz_le (by omega) (by omega) (by omega) (by omega)]; exact c)]
      have hbig := sbl_m (sy := sy) (va := a (b + 7)) (sf := A 43) (L := A 38) (T := A 37) (i.toNat + 1) ((A 12 (200 * q + h)).toNat - (i.toNat + 1))
      rw [show i.toNat + 1 + ((A 12 (200 * q + h)).toNat - (i.toNat + 1)) = (A 12 (200 * q + h)).toNat by omega] at hbig
      have hno : ¬(((sbl sy (a (b + 7)) (A 43) (A 38) (A 37) (A 12 (200 * q + h)).toNat).length : Int) ≤ 200) := by omega
      exact Or.inr ⟨_, rfl, B, by rw [if_neg hno], fun z => absurd z hno⟩
  · rintro s ⟨B, rfl, hl, hB⟩
    refine ⟨_, ?_, B, by rw [if_pos hl], fun _ => hB⟩
    unfold gL_X11_substitute_4 g_X11_substitute_4
    rw [m_at h4, bd_some, gp_15, ga_12 (by omega) (by omega), u1_o (by decide), bd_some, if_pos (by rw [qz_le (by omega) (by omega) (by omega) (by omega)]; omega)]
end MSB
