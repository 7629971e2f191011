/-! A statement more: the groups -/
section NXT
variable {q S K len u u' kd D ls ll : Int} {T it st st2 ki va A7 A10 A11 A12 A16 nm nst nst2 stn lnn A13 A14 A17 A18 hit hst hit2 de un un2 hs nx ln A3 A4 A5 A8 A9 : Int → Int} {Jm Jm2 Ja Ja2 : Int → Int64}
theorem gk_n (G : Gk q K ki de A7 A10) (hk : A7 (200 * q + K) = kd) (hk0 : 0 ≤ kd) (hk1 : kd ≤ 3) (hD : A10 (200 * q + K) = D) (hD0 : 0 ≤ D) (hD1 : D ≤ 16) : Gk q (K + 1) (v1 ki K kd) (v1 de K D) A7 A10 := by
  intro k h1 h2
  by_cases e : k = K
  · subst e
    rw [v1_s, v1_s]
    omega
  · rw [v1_o e, v1_o e]
    exact G k h1 (by omega)
theorem gf_n (G : Gf q K S it st va ki A11 A12 A16) (h1 : A11 (200 * q + K) = st K) (h2 : u = st K + A12 (200 * q + K)) (h3 : 1 ≤ A12 (200 * q + K)) (h4 : A12 (200 * q + K) ≤ 60) (h5 : ∀ i, 0 ≤ i → i < A12 (200 * q + K) → it (st K + i) = A16 (4096 * q + (st K + i)) ∧ 0 ≤ it (st K + i) ∧ it (st K + i) < S) (h6 : va (it (st K)) = 0) (h7 : kd = 0 → A12 (200 * q + K) = 2 ∧ va (it (st K + 1)) = 1) : Gf q (K + 1) S it (v1 st (K + 1) u) va (v1 ki K kd) A11 A12 A16 := by
  intro k x1 x2
  by_cases e : k = K
  · subst e
    rw [v1_s, v1_o (by omega), v1_s]
    exact ⟨h1.symm, h2, h3, h4, h5, h6, h7⟩
  · rw [v1_o (by omega), v1_o (by omega), v1_o e]
    exact G k x1 (by omega)
theorem nmd_n {k p l r : Int} (h : nmd T stn lnn k p l r) (hk : k ≤ K) {s l' : Int} : nmd T (v1 stn (300 + K) s) (v1 lnn (300 + K) l') k p l r := by
  rcases h with ⟨z1, z2⟩ | ⟨z1, z2, z3⟩
  · exact Or.inl ⟨z1, fun y y1 y2 => by rw [v1_o (by omega), v1_o (by omega)]; exact z2 y y1 y2⟩
  · exact Or.inr ⟨z1, z2, by rw [v1_o (by omega), v1_o (by omega)]; exact z3⟩
theorem gt_n (G : Gt q K len T it st nm nst stn lnn ki A13 A14 A17 A18) (h1 : A13 (200 * q + K) = st K) (h2 : u = st K + A14 (200 * q + K)) (h3 : nst K = st K) (h4 : 0 ≤ A14 (200 * q + K)) (h5 : A14 (200 * q + K) ≤ 400) (h6 : kd ≠ 3 → A14 (200 * q + K) = 0) (h7 : ∀ i, 0 ≤ i → i < A14 (200 * q + K) → Gt2 q len K T it nm stn lnn A17 A18 (st K) i) {s l' : Int} : Gt q (K + 1) len T it (v1 st (K + 1) u) nm (v1 nst (K + 1) u) (v1 stn (300 + K) s) (v1 lnn (300 + K) l') (v1 ki K kd) A13 A14 A17 A18 := by
  intro k x1 x2
  by_cases e : k = K
  · subst e
    rw [v1_s, v1_o (by omega), v1_o (by omega), v1_s, v1_s]
    refine ⟨h1.symm, h2, h3, rfl, h4, h5, h6, fun i i1 i2 => ?_⟩
    obtain ⟨⟨y1, y2, y3⟩, y4⟩ := h7 i i1 i2
    exact ⟨⟨y1, y2, nmd_n y3 (Int.le_refl _)⟩, y4⟩
  · obtain ⟨t1, t2, t3, t4, t5, t6, t7, t8⟩ := G k x1 (by omega)
    rw [v1_o (by omega), v1_o (by omega), v1_o (by omega), v1_o (by omega), v1_o e]
    refine ⟨t1, t2, t3, t4, t5, t6, t7, fun i i1 i2 => ?_⟩
    obtain ⟨⟨y1, y2, y3⟩, y4⟩ := t8 i i1 i2
    exact ⟨⟨y1, y2, nmd_n y3 (by omega)⟩, y4⟩
theorem ghy_n (G : Ghy q K hit hst ki Jm) (hm : mono K hst) (h1 : ∀ i, i < hst K → hit2 i = hit i) (hJ : ∀ x, ¬(4 * (200 * q + K) ≤ x ∧ x < 4 * (200 * q + K) + 4) → Jm2 x = Jm x) (g1 : asc hit2 (hst K) u) (g2 : ∀ h, 0 ≤ h → h < 200 → (mem hit2 (hst K) u h ↔ bt Jm2 (4 * (200 * q + K)) h)) (g3 : ∀ h, mem hit2 (hst K) u h → 0 ≤ h ∧ h < K ∧ ki h < 2) (g4 : kd < 2 → u = hst K) : Ghy q (K + 1) hit2 (v1 hst (K + 1) u) (v1 ki K kd) Jm2 := by
  intro k x1 x2
  by_cases e : k = K
  · subst e
    rw [v1_s, v1_o (by omega), v1_s]
    refine ⟨g1, g2, fun h hm => ?_, g4⟩
    have := g3 h hm
    rw [v1_o (by omega)]
    exact this
  · obtain ⟨y1, y2, y3, y4⟩ := G k x1 (by omega)
    have m := mono_k hm x1 (by omega)
    have hc : ∀ i, hst k ≤ i → i < hst (k + 1) → hit2 i = hit i := fun i i1 i2 => h1 i (by omega)
    rw [v1_o (by omega), v1_o (by omega), v1_o e]
    refine ⟨asc_c hc y1, fun h z1 z2 => ?_, fun h z => ?_, y4⟩
    · rw [mem_c hc, y2 h z1 z2]
      unfold bt
      rw [hJ _ (by omega)]
    · have := y3 h ((mem_c hc).mp z)
      rw [v1_o (by omega)]
      exact this
theorem mf_n {k x : Int} (m0 : mono K hst) (hk0 : 0 ≤ k) (hk : k < K) (g : ∀ h, mem hit (hst k) (hst (k + 1)) h → 0 ≤ h ∧ h < k) (h1 : ∀ i, i < hst K → hit2 i = hit i) : mf hit2 (v1 hst (K + 1) u) (v1 ki K kd) it (v1 st (K + 1) u') k x ↔ mf hit hst ki it st k x := by
  have m := mono_k m0 hk0 hk
  have hc : ∀ i, hst k ≤ i → i < hst (k + 1) → hit2 i = hit i := fun i i1 i2 => h1 i (by omega)
  unfold mf
  rw [v1_o (by omega), v1_o (by omega)]
  constructor
  · rintro ⟨h, z1, z2, z3⟩
    have z4 := (mem_c hc).mp z1
    have := g h z4
    rw [v1_o (by omega)] at z2 z3
    exact ⟨h, z4, z2, z3⟩
  · rintro ⟨h, z1, z2, z3⟩
    have := g h z1
    exact ⟨h, (mem_c hc).mpr z1, by rw [v1_o (by omega)]; exact z2, by rw [v1_o (by omega)]; exact z3⟩
theorem gma_n (G : Gma q K hit hst ki it st va A12) (Gh : Ghy q K hit hst ki Jm) (m0 : mono K hst) (h1 : ∀ i, i < hst K → hit2 i = hit i) (g3 : ∀ h, mem hit2 (hst K) u h → 0 ≤ h ∧ h < K) (n1 : 2 ≤ kd → ∀ i, 0 ≤ i → i < A12 (200 * q + K) → va (it (st K + i)) = 1 → ∃ h, mem hit2 (hst K) u h ∧ ki h = 0 ∧ it (st h + 1) = it (st K + i)) (n2 : 2 ≤ kd → ∀ e, mem hit2 (hst K) u e → ki e = 1 → ∀ i, 0 ≤ i → i < A12 (200 * q + e) → va (it (st e + i)) = 1 → ∃ h, mem hit2 (hst K) u h ∧ h < e ∧ ki h = 0 ∧ it (st h + 1) = it (st e + i)) : Gma q (K + 1) hit2 (v1 hst (K + 1) u) (v1 ki K kd) it (v1 st (K + 1) u') va A12 := by
  intro k x1 x2
  by_cases e : k = K
  · subst e
    rw [v1_s]
    intro hkd
    constructor
    · intro i i1 i2 i3
      rw [v1_o (by omega)] at i3 ⊢
      obtain ⟨h, z1, z2, z3⟩ := n1 hkd i i1 i2 i3
      have := g3 h z1
      refine ⟨h, by rw [v1_o (by omega), v1_s]; exact z1, by rw [v1_o (by omega)]; exact z2, by rw [v1_o (by omega)]; exact z3⟩
    · intro e' z1 z2 i i1 i2 i3
      rw [v1_o (by omega), v1_s] at z1
      have := g3 e' z1
      have ke : v1 ki k kd e' = ki e' := v1_o (by omega)
      have se : v1 st (k + 1) u' e' = st e' := v1_o (by omega)
      rw [ke] at z2
      rw [se] at i3 ⊢
      obtain ⟨h, y1, y2, y3, y4⟩ := n2 hkd e' z1 z2 i i1 i2 i3
      have := g3 h y1
      exact ⟨h, by rw [v1_o (by omega), v1_s]; exact y1, y2, by rw [v1_o (by omega)]; exact y3, by rw [v1_o (by omega)]; exact y4⟩
  · rw [v1_o e]
    intro hkd
    obtain ⟨y1, y2⟩ := G k x1 (by omega) hkd
    have hg := (Gh k x1 (by omega)).2.2.1
    have m := mono_k m0 x1 (by omega)
    have hc : ∀ i, hst k ≤ i → i < hst (k + 1) → hit2 i = hit i := fun i i1 i2 => h1 i (by omega)
    constructor
    · intro i i1 i2 i3
      rw [v1_o (by omega)] at i3 ⊢
      exact (mf_n m0 x1 (by omega) (fun h x => ⟨(hg h x).1, (hg h x).2.1⟩) h1).mpr (y1 i i1 i2 i3)
    · intro e' z1 z2 i i1 i2 i3
      rw [v1_o (by omega), v1_o (by omega), mem_c hc] at z1
      have := hg e' z1
      have ke : v1 ki K kd e' = ki e' := v1_o (by omega)
      have se : v1 st (K + 1) u' e' = st e' := v1_o (by omega)
      rw [ke] at z2
      rw [se] at i3 ⊢
      obtain ⟨h, w1, w2, w3, w4⟩ := y2 e' z1 z2 i i1 i2 i3
      have := hg h w1
      refine ⟨h, ?_, w2, by rw [v1_o (by omega)]; exact w3, by rw [v1_o (by omega)]; exact w4⟩
      rw [v1_o (by omega), v1_o (by omega), mem_c hc]
      exact w1
theorem gun_n (G : Gun q K un ki Ja) (h1 : ∀ h, 0 ≤ h → h < K → un2 h = un h) (hJ : ∀ x, ¬(4 * (200 * q + K) ≤ x ∧ x < 4 * (200 * q + K) + 4) → Ja2 x = Ja x) (hK : K < 200) (g : ∀ h, 0 ≤ h → h < K → ki h < 2 → (bt Ja2 (4 * (200 * q + K)) h ↔ K < un h) ∧ 0 ≤ un h ∧ un h ≤ 200) : Gun q (K + 1) un2 (v1 ki K kd) Ja2 := by
  intro k x1 x2 h y1 y2 y3
  rw [v1_o (by omega)] at y3
  rw [h1 h y1 (by omega)]
  by_cases e : k = K
  · subst e
    exact g h y1 y2 y3
  · have g' := G k x1 (by omega) h y1 y2 y3
    refine ⟨?_, g'.2⟩
    rw [← g'.1]
    unfold bt
    rw [hJ _ (by omega)]
theorem gpr_n {P : Int} {dit dst dit2 pit pst pit2 A21 A22 A23 A24 : Int → Int} {v w : Int} (G : Gpr q K P dit dst pit pst hit hst ki it st A21 A22 A23 A24) (Gh : Ghy q K hit hst ki Jm) (m0 : mono K hst) (m2 : mono K dst) (m3 : mono K pst) (h1 : ∀ i, i < hst K → hit2 i = hit i) (h2 : ∀ i, i < dst K → dit2 i = dit i) (h3 : ∀ i, i < pst K → pit2 i = pit i) (n1 : asc dit2 (dst K) v) (n2 : asc pit2 (pst K) w) (n3 : kd = 3 → ∀ z, mem pit2 (pst K) w z ↔ ∃ x y, 0 ≤ x ∧ x < y ∧ y < 300 ∧ z = 300 * x + y ∧ pa q P A21 A22 A23 A24 K x y) (n4 : 2 ≤ kd → ∀ z, mem dit2 (dst K) v z ↔ ∃ x y, 0 ≤ x ∧ x < y ∧ y < 300 ∧ z = 300 * x + y ∧ pa q P A21 A22 A23 A24 K x y ∧ mf hit2 (v1 hst (K + 1) u) (v1 ki K kd) it (v1 st (K + 1) u') K x ∧ mf hit2 (v1 hst (K + 1) u) (v1 ki K kd) it (v1 st (K + 1) u') K y) (n5 : kd < 2 → v = dst K) : Gpr q (K + 1) P dit2 (v1 dst (K + 1) v) pit2 (v1 pst (K + 1) w) hit2 (v1 hst (K + 1) u) (v1 ki K kd) it (v1 st (K + 1) u') A21 A22 A23 A24 := by
  intro k x1 x2
  by_cases e : k = K
  · subst e
    rw [v1_s, v1_s, v1_s, v1_o (by omega), v1_o (by omega)]
    exact ⟨n1, n2, n3, n4, n5⟩
  · obtain ⟨y1, y2, y3, y4, y5⟩ := G k x1 (by omega)
    have hg := (Gh k x1 (by omega)).2.2.1
    have ma := mono_k m2 x1 (by omega)
    have mb := mono_k m3 x1 (by omega)
    have hc : ∀ i, dst k ≤ i → i < dst (k + 1) → dit2 i = dit i := fun i i1 i2 => h2 i (by omega)
    have hc2 : ∀ i, pst k ≤ i → i < pst (k + 1) → pit2 i = pit i := fun i i1 i2 => h3 i (by omega)
    rw [v1_o (by omega), v1_o (by omega), v1_o (by omega), v1_o (by omega), v1_o e]
    refine ⟨asc_c hc y1, asc_c hc2 y2, fun h z => ?_, fun h z => ?_, y5⟩
    · rw [mem_c hc2]; exact y3 h z
    · rw [mem_c hc, y4 h z]
      simp only [mf_n (u := u) (u' := u') (kd := kd) m0 x1 (by omega : k < K) (fun h x => ⟨(hg h x).1, (hg h x).2.1⟩) h1]
theorem gfm_n {cm le cm2 le2 : Int → Int} (G : Gfm q K T it st cm le ki A14 A18) (h1 : ∀ k, 0 ≤ k → k < K → cm2 k = cm k ∧ le2 k = le k) (n : kd = 3 → 0 ≤ le2 K ∧ le2 K ≤ A14 (200 * q + K) ∧ ((cm2 K = 1 ∧ 0 < A14 (200 * q + K) ∧ one q T it A18 (st K) 40 ∧ 1 ≤ le2 K ∧ (∀ i, 1 ≤ i → i < le2 K → ¬one q T it A18 (st K + i) 41) ∧ (le2 K < A14 (200 * q + K) → one q T it A18 (st K + le2 K) 41)) ∨ (cm2 K = 0 ∧ ¬(0 < A14 (200 * q + K) ∧ one q T it A18 (st K) 40) ∧ le2 K = A14 (200 * q + K)))) : Gfm q (K + 1) T it (v1 st (K + 1) u) cm2 le2 (v1 ki K kd) A14 A18 := by
  intro k x1 x2
  by_cases e : k = K
  · subst e
    rw [v1_s, v1_o (by omega)]
    exact n
  · obtain ⟨y1, y2⟩ := h1 k x1 (by omega)
    rw [v1_o e, v1_o (by omega), y1, y2]
    exact G k x1 (by omega)
theorem gax_n {jx jx2 : Int → Int64} {le le2 : Int → Int} (G : Gax K jx le nm nst ki) (Gt' : Gt q K len T it st nm nst stn lnn ki A13 A14 A17 A18) (Gm : ∀ k, 0 ≤ k → k < K → ki k = 3 → 0 ≤ le k ∧ le k ≤ A14 (200 * q + k)) (h1 : ∀ k, 0 ≤ k → k < K → le2 k = le k) (hJ : ∀ x, ¬(K * 4 ≤ x ∧ x < K * 4 + 4) → jx2 x = jx x) (hK : K < 200) (hnm : ∀ i, 0 ≤ i → i < le2 K → -1 ≤ nm (nst K + i) ∧ nm (nst K + i) < K) (n : kd = 3 → ∀ x, 0 ≤ x → x < 200 → (bt jx2 (K * 4) x ↔ ∃ i, 0 ≤ i ∧ i < le2 K ∧ ((nm (nst K + i) = x ∧ v1 ki K kd x = 2) ∨ (0 ≤ nm (nst K + i) ∧ v1 ki K kd (nm (nst K + i)) = 3 ∧ bt jx (nm (nst K + i) * 4) x)))) : Gax (K + 1) jx2 le2 nm (v1 nst (K + 1) u) (v1 ki K kd) := by
  have hb : ∀ y x, 0 ≤ y → y < K → 0 ≤ x → x < 200 → (bt jx2 (y * 4) x ↔ bt jx (y * 4) x) := by
    intro y x y1 y2 x1 x2
    unfold bt
    rw [hJ _ (by omega)]
  intro k x1 x2
  by_cases e : k = K
  · subst e
    rw [v1_s]
    intro hkd x z1 z2
    have e1 : v1 nst (k + 1) u k = nst k := v1_o (by omega)
    rw [n hkd x z1 z2, e1]
    constructor
    · rintro ⟨i, i1, i2, i3 | ⟨i3, i4, i5⟩⟩
      · exact ⟨i, i1, i2, Or.inl i3⟩
      · exact ⟨i, i1, i2, Or.inr ⟨i3, i4, (hb _ x i3 (hnm i i1 i2).2 z1 z2).mpr i5⟩⟩
    · rintro ⟨i, i1, i2, i3 | ⟨i3, i4, i5⟩⟩
      · exact ⟨i, i1, i2, Or.inl i3⟩
      · exact ⟨i, i1, i2, Or.inr ⟨i3, i4, (hb _ x i3 (hnm i i1 i2).2 z1 z2).mp i5⟩⟩
  · rw [v1_o e]
    intro hkd x z1 z2
    have hkK : k < K := by omega
    obtain ⟨t1, t2, t3, t4, t5, t6, t7, t8⟩ := Gt' k x1 hkK
    obtain ⟨l1, l2⟩ := Gm k x1 hkK hkd
    have g := G k x1 hkK hkd x z1 z2
    have e1 : v1 nst (K + 1) u k = nst k := v1_o (by omega)
    rw [hb k x x1 hkK z1 z2, g, h1 k x1 hkK, e1]
    clear g
    have hn : ∀ i, 0 ≤ i → i < le k → -1 ≤ nm (nst k + i) ∧ nm (nst k + i) < k := by
      intro i i1 i2
      obtain ⟨⟨_, _, w⟩, _⟩ := t8 i i1 (by omega)
      rw [t3]
      rcases w with ⟨w, _⟩ | ⟨w1, w2, _⟩ <;> omega
    constructor
    · rintro ⟨i, i1, i2, i3 | ⟨i3, i4, i5⟩⟩
      · have := hn i i1 i2
        refine ⟨i, i1, i2, Or.inl ⟨i3.1, ?_⟩⟩
        rw [v1_o (by omega)]; exact i3.2
      · have := hn i i1 i2
        refine ⟨i, i1, i2, Or.inr ⟨i3, ?_, (hb _ x i3 (by omega) z1 z2).mpr i5⟩⟩
        rw [v1_o (by omega)]; exact i4
    · rintro ⟨i, i1, i2, i3 | ⟨i3, i4, i5⟩⟩
      · have := hn i i1 i2
        refine ⟨i, i1, i2, Or.inl ⟨i3.1, ?_⟩⟩
        have i4 := i3.2
        rw [v1_o (by omega)] at i4; exact i4
      · have := hn i i1 i2
        refine ⟨i, i1, i2, Or.inr ⟨i3, ?_, (hb _ x i3 (by omega) z1 z2).mp i5⟩⟩
        rw [v1_o (by omega)] at i4; exact i4
theorem gn_lab (Gn' : Gn q S K len T hs nx st ln va A3 A4 A5 A8 A9) (hl : len ≤ 8192) (L : Lb q S K len T st ln A8 A9 ls ll) : Gn q S (K + 1) len T (v1 hs (hd T ls ll) (300 + K)) (v1 nx (300 + K) (hs (hd T ls ll))) (v1 st (300 + K) ls) (v1 ln (300 + K) ll) va A3 A4 A5 A8 A9 := by
  obtain ⟨g1, g2, g3, g4, g5, g6, g7, g8, g9⟩ := Gn'
  obtain ⟨c1, c2, c3, c4, c5, c6, c7, hu⟩ := L
  have hid : ¬liv S K (300 + K) := by unfold liv; omega
  have hlv : ∀ x, liv S (K + 1) x ↔ (liv S K x ∨ x = 300 + K) := by
    intro x
    unfold liv
    omega
  refine ⟨g1, g2, by omega, by omega, ni_iff (ni_add g5 (by omega) hid c4 (by omega) (by omega) (by omega) (by omega)) (by omega) (fun x => (hlv x).symm), fun x hx => ?_, fun x y hx hy => ?_, fun x x1 x2 => ?_, fun k k1 k2 => ?_⟩
  · rcases (hlv x).mp hx with z | z
    · have : x ≠ 300 + K := fun y => hid (y ▸ z)
      rw [v1_o this, v1_o this]; exact g6 x z
    · rw [z, v1_s, v1_s]; omega
  · intro hnm
    rcases (hlv x).mp hx with z | z
    · have n1 : x ≠ 300 + K := fun y => hid (y ▸ z)
      rw [v1_o n1, v1_o n1] at hnm
      rcases (hlv y).mp hy with z2 | z2
      · have n2 : y ≠ 300 + K := fun y => hid (y ▸ z2)
        rw [v1_o n2, v1_o n2] at hnm
        exact g7 x y z z2 hnm
      · rw [z2, v1_s, v1_s] at hnm
        exact absurd hnm (hu x z)
    · rcases (hlv y).mp hy with z2 | z2
      · have n2 : y ≠ 300 + K := fun y => hid (y ▸ z2)
        rw [z, v1_s, v1_s, v1_o n2, v1_o n2] at hnm
        refine absurd ⟨hnm.1.symm, fun i i1 i2 => (hnm.2 i i1 (by have := hnm.1; omega)).symm⟩ (hu y z2)
      · rw [z, z2]
  · rw [v1_o (by omega), v1_o (by omega)]; exact g8 x x1 x2
  · by_cases e : k = K
    · rw [e, v1_s, v1_s]
      exact ⟨c2, c3⟩
    · rw [v1_o (by omega), v1_o (by omega)]; exact g9 k k1 (by omega)
theorem glb_n (G : Glb K T st ln) (h : ∀ x, 0 ≤ x → x < ll → lch (T (ls + x))) : Glb (K + 1) T (v1 st (300 + K) ls) (v1 ln (300 + K) ll) := by
  intro k k1 k2 x x1 x2
  by_cases e : k = K
  · subst e
    rw [v1_s] at x2 ⊢
    exact h x x1 x2
  · rw [v1_o (by omega)] at x2 ⊢
    exact G k k1 (by omega) x x1 x2
end NXT
