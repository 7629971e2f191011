/-! The frame of a statement: its pairs, the class -/
theorem u2_sw {α : Type} {f : Nat → Nat → α} {i i2 k k2 : Nat} {x y : α} (h : i ≠ i2) : u2 (u2 f i k x) i2 k2 y = u2 (u2 f i2 k2 y) i k x := by
  funext p r
  by_cases h1 : p = i
  · subst h1
    by_cases h3 : r = k <;> simp [u2, h, h3]
  · by_cases h2 : p = i2
    · subst h2
      by_cases h3 : r = k2 <;> simp [u2, h1, h3]
    · simp [u2, h1, h2]
section FRP
variable {f : Nat → Nat → Int} {d : Nat → Nat} {a : Nat → Int → Int} {ni : Nat → Nat} {j : Nat → Int → Int64} {n b : Nat} {k K hc pc pv : Int}
theorem c_frameP (hb : bks b) (hn : 100000 ≤ n) {v2' : Int} (hpv : pv = 0 ∨ pv = 1) (H : Rw (f (b + 23) 3) (f (b + 23) 2) (ni (b + 23 + 1)) (nC0 (b + 23 + 2)) 65536 (a (b + 23 + 2))) (H2 : Rw (f (b + 26) 3) (f (b + 26) 2) (ni (b + 26 + 1)) (nC0 (b + 26 + 2)) 65536 (a (b + 26 + 2))) (hp : f 66 12 = pc) (h0 : 0 ≤ pc) (h1 : pc ≤ 200) (hM : f (b + 23) 2 + pc ≤ 65536) (hM2 : f (b + 26) 2 + pc ≤ 65536) (hasc : asc (a 74) 0 pc) (hr : ∀ i, 0 ≤ i → i < pc → 0 ≤ a 74 i ∧ a 74 i < 90000) (hnd : ∀ x, 0 ≤ x → x < 300 → 0 ≤ a 72 x ∧ a 72 x < 100000) :
    ∃ (g h : Int → Int) (N N2 : Nat) (u w : Int), hp_lp (gL_X7_makeFrame_88 n 66 b (qz v2') (qz pv)) n (qz 0, cs f d a ni j) = some (cs (u2 (u2 f (b + 23) 2 u) (b + 26) 2 w) d (u1 (u1 a (b + 23 + 1) g) (b + 26 + 1) h) (u1 (u1 ni (b + 23 + 1) N) (b + 26 + 1) N2) j) ∧ f (b + 23) 2 ≤ u ∧ u ≤ f (b + 23) 2 + pc ∧ f (b + 26) 2 ≤ w ∧ w ≤ f (b + 26) 2 + pc ∧ (∀ t, t < f (b + 23) 2 → g t = a (b + 23 + 1) t) ∧ (∀ t, t < f (b + 26) 2 → h t = a (b + 26 + 1) t) ∧ asc g (f (b + 23) 2) u ∧ asc h (f (b + 26) 2) w ∧ (∀ z, mem g (f (b + 23) 2) u z ↔ mem (a 74) 0 pc z ∧ 0 < a 72 (z / 300) ∧ 0 < a 72 (z - z / 300 * 300)) ∧ (∀ z, mem h (f (b + 26) 2) w z ↔ pv = 1 ∧ mem (a 74) 0 pc z) ∧ Rw (f (b + 23) 3) u N (nC0 (b + 23 + 2)) 65536 (a (b + 23 + 2)) ∧ Rw (f (b + 26) 3) w N2 (nC0 (b + 26 + 2)) 65536 (a (b + 26 + 2)) ∧ (pv = 0 → w = f (b + 26) 2) := by
  have hbb : b = 1 ∨ b = 33 := hb
  have hu0 : 0 ≤ f (b + 23) 2 ∧ 0 ≤ f (b + 26) 2 := ⟨H.2.2.1, H2.2.2.1⟩
  have lp := lp_inv (b := gL_X7_makeFrame_88 n 66 b (qz v2') (qz pv)) (fun t c => ∃ (g h : Int → Int) (N N2 : Nat) (u w : Int), c = (qz t, cs (u2 (u2 f (b + 23) 2 u) (b + 26) 2 w) d (u1 (u1 a (b + 23 + 1) g) (b + 26 + 1) h) (u1 (u1 ni (b + 23 + 1) N) (b + 26 + 1) N2) j) ∧ f (b + 23) 2 ≤ u ∧ u ≤ f (b + 23) 2 + t ∧ f (b + 26) 2 ≤ w ∧ w ≤ f (b + 26) 2 + t ∧ (∀ t, t < f (b + 23) 2 → g t = a (b + 23 + 1) t) ∧ (∀ t, t < f (b + 26) 2 → h t = a (b + 26 + 1) t) ∧ asc g (f (b + 23) 2) u ∧ asc h (f (b + 26) 2) w ∧ (∀ z, mem g (f (b + 23) 2) u z ↔ mem (a 74) 0 t z ∧ 0 < a 72 (z / 300) ∧ 0 < a 72 (z - z / 300 * 300)) ∧ (∀ z, mem h (f (b + 26) 2) w z ↔ pv = 1 ∧ mem (a 74) 0 t z) ∧ Rw (f (b + 23) 3) u N (nC0 (b + 23 + 2)) 65536 (a (b + 23 + 2)) ∧ Rw (f (b + 26) 3) w N2 (nC0 (b + 26 + 2)) 65536 (a (b + 26 + 2)) ∧ (pv = 0 → w = f (b + 26) 2))
    (Q := fun c => ∃ (g h : Int → Int) (N N2 : Nat) (u w : Int), c = cs (u2 (u2 f (b + 23) 2 u) (b + 26) 2 w) d (u1 (u1 a (b + 23 + 1) g) (b + 26 + 1) h) (u1 (u1 ni (b + 23 + 1) N) (b + 26 + 1) N2) j ∧ f (b + 23) 2 ≤ u ∧ u ≤ f (b + 23) 2 + pc ∧ f (b + 26) 2 ≤ w ∧ w ≤ f (b + 26) 2 + pc ∧ (∀ t, t < f (b + 23) 2 → g t = a (b + 23 + 1) t) ∧ (∀ t, t < f (b + 26) 2 → h t = a (b + 26 + 1) t) ∧ asc g (f (b + 23) 2) u ∧ asc h (f (b + 26) 2) w ∧ (∀ z, mem g (f (b + 23) 2) u z ↔ mem (a 74) 0 pc z ∧ 0 < a 72 (z / 300) ∧ 0 < a 72 (z - z / 300 * 300)) ∧ (∀ z, mem h (f (b + 26) 2) w z ↔ pv = 1 ∧ mem (a 74) 0 pc z) ∧ Rw (f (b + 23) 3) u N (nC0 (b + 23 + 2)) 65536 (a (b + 23 + 2)) ∧ Rw (f (b + 26) 3) w N2 (nC0 (b + 26 + 2)) 65536 (a (b + 26 + 2)) ∧ (pv = 0 → w = f (b + 26) 2)) pc (n := n) (i0 := 0) h0 (by omega) (c0 := (qz 0, cs f d a ni j)) ?_ ?_ ?_
  · obtain ⟨c, e, g, h, N, N2, u, w, rfl, h'⟩ := lp
    exact ⟨g, h, N, N2, u, w, e, h'⟩
  · refine ⟨a (b + 23 + 1), a (b + 26 + 1), ni (b + 23 + 1), ni (b + 26 + 1), f (b + 23) 2, f (b + 26) 2, by rw [u1_id (f := a) rfl, u1_id (f := a) rfl, u1_id (f := ni) rfl, u1_id (f := ni) rfl, u2_id (f := f) rfl, u2_id (f := f) rfl], Int.le_refl _, by omega, Int.le_refl _, by omega, fun _ _ => rfl, fun _ _ => rfl, fun i k i1 i2 i3 => by omega, fun i k i1 i2 i3 => by omega, fun z => ⟨fun ⟨i, i1, i2, _⟩ => by omega, fun ⟨⟨i, i1, i2, _⟩, _⟩ => by omega⟩, fun z => ⟨fun ⟨i, i1, i2, _⟩ => by omega, fun ⟨_, ⟨i, i1, i2, _⟩⟩ => by omega⟩, H, H2, fun _ => rfl⟩
  · rintro t c t1 t2 ⟨g, h, N, N2, u, w, rfl, p1, p2, p3, p4, p5, p6, p7, p8, p9, p10, p11, p12, p13⟩
    obtain ⟨q1, q2⟩ := hr t t1 t2
    have n1 := hnd (a 74 t / 300) (by omega) (by omega)
    have n2 := hnd (a 74 t - a 74 t / 300 * 300) (by omega) (by omega)
    -- the second half of the body
    have half : ∀ (g' : Int → Int) (N' : Nat) (u' : Int), ∃ (h2 : Int → Int) (N3 : Nat) (w2 : Int), g_X7_makeFrame_149 n 66 b (qz v2') (qz pv) (qz t) (cs (u2 (u2 f (b + 23) 2 u') (b + 26) 2 w) d (u1 (u1 a (b + 23 + 1) g') (b + 26 + 1) h) (u1 (u1 ni (b + 23 + 1) N') (b + 26 + 1) N2) j) = some (.inl (qz (t + 1), cs (u2 (u2 f (b + 23) 2 u') (b + 26) 2 w2) d (u1 (u1 a (b + 23 + 1) g') (b + 26 + 1) h2) (u1 (u1 ni (b + 23 + 1) N') (b + 26 + 1) N3) j)) ∧ f (b + 26) 2 ≤ w2 ∧ w2 ≤ f (b + 26) 2 + (t + 1) ∧ (∀ t, t < f (b + 26) 2 → h2 t = a (b + 26 + 1) t) ∧ asc h2 (f (b + 26) 2) w2 ∧ (∀ z, mem h2 (f (b + 26) 2) w2 z ↔ pv = 1 ∧ mem (a 74) 0 (t + 1) z) ∧ Rw (f (b + 26) 3) w2 N3 (nC0 (b + 26 + 2)) 65536 (a (b + 26 + 2)) ∧ (pv = 0 → w2 = f (b + 26) 2) := by
      intro g' N' u'
      unfold g_X7_makeFrame_149 g_X7_makeFrame_167
      rcases hpv with z | z
      · refine ⟨h, N2, w, ?_, p3, by omega, p6, p8, fun y => ?_, p12, p13⟩
        · rw [z]
          simp only [qz_lit, qz_add, if_true]
        · rw [p10 y, z]
          constructor
          · rintro ⟨x, _⟩; omega
          · rintro ⟨x, _⟩; omega
      · obtain ⟨h2, N3, ea, a1, a2, a3⟩ := c_add (f := u2 (u2 f (b + 23) 2 u') (b + 26) 2 w) (a := u1 (u1 a (b + 23 + 1) g') (b + 26 + 1) h) (ni := u1 (u1 ni (b + 23 + 1) N') (b + 26 + 1) N2) (d := d) (j := j) (n := n) (x := a 74 t) (M := 65536) (rws_b26 hb) (by simp (disch := omega) only [u2_c, u2_b, u2_a, u1_o, u1_s]; exact p12) (by rw [u2_a]; omega)
        simp (disch := omega) only [u2_a, u2_b, u2_d, u2_c, u1_1, u1_s, u1_o] at ea a1 a2 a3
        refine ⟨h2, N3, w + 1, ?_, by omega, by omega, fun y hy => by rw [a1 y (by omega)]; exact p6 y hy, fun i k i1 i2 i3 => ?_, fun y => ?_, a3, fun y => by omega⟩
        · rw [z]
          simp (disch := first | assumption | omega) only [qpT, qpF, qz_lit, qz_add, qz_mul, qz_neg, qz_sub, qz_inj, qz_lt, qz_le, qz_div, qp_0, qp_1, hp_bz_qp, hp_bz_0, hp_bz_1, if_neg, gpc_66_10, gac_74, u1_o, gpb_14, ea, bd_some]
        · by_cases y : k = w
          · rw [y, a2, a1 i (by omega)]
            obtain ⟨_, i', y1, y2, y3⟩ := (p10 (h i)).mp ⟨i, i1, by omega, rfl⟩
            rw [← y3]
            exact hasc i' t y1 y2 t2
          · rw [a1 i (by omega), a1 k (by omega)]
            exact p8 i k i1 i2 (by omega)
        · constructor
          · rintro ⟨i, i1, i2, i3⟩
            by_cases x : i = w
            · rw [x, a2] at i3
              exact ⟨z, t, t1, by omega, i3⟩
            · rw [a1 i (by omega)] at i3
              obtain ⟨x1, i', y1, y2, y3⟩ := (p10 y).mp ⟨i, i1, by omega, i3⟩
              exact ⟨x1, i', y1, by omega, y3⟩
          · rintro ⟨_, i, i1, i2, i3⟩
            by_cases x : i = t
            · rw [x] at i3
              exact ⟨w, p3, by omega, by rw [a2]; exact i3⟩
            · obtain ⟨i', y1, y2, y3⟩ := (p10 y).mpr ⟨z, i, i1, by omega, i3⟩
              exact ⟨i', y1, by omega, by rw [a1 i' y2]; exact y3⟩
    have body : gL_X7_makeFrame_88 n 66 b (qz v2') (qz pv) (qz t, cs (u2 (u2 f (b + 23) 2 u) (b + 26) 2 w) d (u1 (u1 a (b + 23 + 1) g) (b + 26 + 1) h) (u1 (u1 ni (b + 23 + 1) N) (b + 26 + 1) N2) j) = if 0 < a 72 (a 74 t / 300) ∧ 0 < a 72 (a 74 t - a 74 t / 300 * 300) then (g_X5_add n (b + 23) (qz (a 74 t)) (cs (u2 (u2 f (b + 23) 2 u) (b + 26) 2 w) d (u1 (u1 a (b + 23 + 1) g) (b + 26 + 1) h) (u1 (u1 ni (b + 23 + 1) N) (b + 26 + 1) N2) j)).bind (fun x12 => g_X7_makeFrame_149 n 66 b (qz v2') (qz pv) (qz t) x12) else g_X7_makeFrame_149 n 66 b (qz v2') (qz pv) (qz t) (cs (u2 (u2 f (b + 23) 2 u) (b + 26) 2 w) d (u1 (u1 a (b + 23 + 1) g) (b + 26 + 1) h) (u1 (u1 ni (b + 23 + 1) N) (b + 26 + 1) N2) j) := by
      unfold gL_X7_makeFrame_88 g_X7_makeFrame_88
      simp (disch := first | assumption | omega) only [qpT, qpF, qz_lit, qz_add, qz_mul, qz_neg, qz_sub, qz_inj, qz_lt, qz_le, qz_div, qp_0, qp_1, hp_bz_qp, hp_bz_0, hp_bz_1, if_neg, gf_cs, u2_b, hp, gpc_66_10, gac_74, u1_o, gpc_66_7, gac_72, gpb_13, bd_some]
      by_cases z1 : a 72 (a 74 t / 300) ≤ 0
      · rw [if_pos z1, if_neg (by omega)]
      · rw [if_neg z1]
        by_cases z2 : a 72 (a 74 t - a 74 t / 300 * 300) ≤ 0
        · rw [if_pos z2, if_neg (by omega)]
        · rw [if_neg z2, if_pos (by omega)]
    by_cases sel : 0 < a 72 (a 74 t / 300) ∧ 0 < a 72 (a 74 t - a 74 t / 300 * 300)
    · rw [if_pos sel] at body
      obtain ⟨g', N', ea, a1, a2, a3⟩ := c_add (f := u2 (u2 f (b + 23) 2 u) (b + 26) 2 w) (a := u1 (u1 a (b + 23 + 1) g) (b + 26 + 1) h) (ni := u1 (u1 ni (b + 23 + 1) N) (b + 26 + 1) N2) (d := d) (j := j) (n := n) (x := a 74 t) (M := 65536) (rws_b23 hb) (by simp (disch := omega) only [u2_c, u2_b, u2_a, u1_o, u1_s]; exact p11) (by simp (disch := omega) only [u2_b, u2_a]; omega)
      simp (disch := omega) only [u2_a, u2_b, u2_c, u1_s, u1_o] at ea a1 a2 a3
      have e3 : u2 (u2 (u2 f (b + 23) 2 u) (b + 26) 2 w) (b + 23) 2 (u + 1) = u2 (u2 f (b + 23) 2 (u + 1)) (b + 26) 2 w := by
        rw [u2_sw (i := b + 26) (i2 := b + 23) (by omega), u2_d]
      have e4 : u1 (u1 (u1 a (b + 23 + 1) g) (b + 26 + 1) h) (b + 23 + 1) g' = u1 (u1 a (b + 23 + 1) g') (b + 26 + 1) h := by
        rw [u1_sw (i := b + 26 + 1) (k := b + 23 + 1) (by omega), u1_1]
      have e5 : u1 (u1 (u1 ni (b + 23 + 1) N) (b + 26 + 1) N2) (b + 23 + 1) N' = u1 (u1 ni (b + 23 + 1) N') (b + 26 + 1) N2 := by
        rw [u1_sw (i := b + 26 + 1) (k := b + 23 + 1) (by omega), u1_1]
      rw [e3, e4, e5] at ea
      obtain ⟨h2, N3, w2, eh, h21, h22, h23, h24, h25, h26, h27⟩ := half g' N' (u + 1)
      refine ⟨_, ?_, g', h2, N', N3, u + 1, w2, rfl, by omega, by omega, h21, h22, fun y hy => by rw [a1 y (by omega)]; exact p5 y hy, h23, fun i k i1 i2 i3 => ?_, h24, fun y => ?_, h25, a3, h26, h27⟩
      · rw [body, ea, bd_some, eh]
      · by_cases z : k = u
        · rw [z, a2, a1 i (by omega)]
          obtain ⟨⟨i', y1, y2, y3⟩, _⟩ := (p9 (g i)).mp ⟨i, i1, by omega, rfl⟩
          rw [← y3]
          exact hasc i' t y1 y2 t2
        · rw [a1 i (by omega), a1 k (by omega)]
          exact p7 i k i1 i2 (by omega)
      · constructor
        · rintro ⟨i, i1, i2, i3⟩
          by_cases x : i = u
          · rw [x, a2] at i3
            exact ⟨⟨t, t1, by omega, i3⟩, by rw [← i3]; exact sel⟩
          · rw [a1 i (by omega)] at i3
            obtain ⟨⟨i', y1, y2, y3⟩, x1⟩ := (p9 y).mp ⟨i, i1, by omega, i3⟩
            exact ⟨⟨i', y1, by omega, y3⟩, x1⟩
        · rintro ⟨⟨i, i1, i2, i3⟩, x1⟩
          by_cases x : i = t
          · rw [x] at i3
            exact ⟨u, p1, by omega, by rw [a2]; exact i3⟩
          · obtain ⟨i', y1, y2, y3⟩ := (p9 y).mpr ⟨⟨i, i1, by omega, i3⟩, x1⟩
            exact ⟨i', y1, by omega, by rw [a1 i' y2]; exact y3⟩
    · rw [if_neg sel] at body
      obtain ⟨h2, N3, w2, eh, h21, h22, h23, h24, h25, h26, h27⟩ := half g N u
      refine ⟨_, by rw [body, eh], g, h2, N, N3, u, w2, rfl, p1, by omega, h21, h22, p5, h23, p7, h24, fun y => ?_, h25, p11, h26, h27⟩
      rw [p9 y]
      constructor
      · rintro ⟨⟨i, i1, i2, i3⟩, x1⟩
        exact ⟨⟨i, i1, by omega, i3⟩, x1⟩
      · rintro ⟨⟨i, i1, i2, i3⟩, x1⟩
        have : i ≠ t := fun z => sel (by rw [← z, i3]; exact x1)
        exact ⟨⟨i, i1, by omega, i3⟩, x1⟩
  · rintro c ⟨g, h, N, N2, u, w, rfl, h'⟩
    refine ⟨_, ?_, g, h, N, N2, u, w, rfl, h'⟩
    unfold gL_X7_makeFrame_88 g_X7_makeFrame_88
    simp (disch := first | assumption | omega) only [qpT, qpF, qz_lit, qz_add, qz_mul, qz_neg, qz_sub, qz_inj, qz_lt, qz_le, qz_div, qp_0, qp_1, hp_bz_qp, hp_bz_0, hp_bz_1, if_pos, gf_cs, u2_b, hp]
end FRP
