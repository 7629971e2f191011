/-! Which hypotheses an assertion needs -/
section SEL
variable {q S K D hc l : Int} {oh hv isA de ki fl tf act it st va nd A12 A11 A16 : Int → Int}
/-- a symbol stands in statement k -/
def occ (q : Int) (it st A12 : Int → Int) (k x : Int) : Prop := ∃ i, 0 ≤ i ∧ i < A12 (200 * q + k) ∧ it (st k + i) = x
theorem nd1_iff {x : Int} (hx : 0 ≤ x) (hx2 : x < 300) (H1 : Gh1 D K hc oh hv isA de ki) (hK : K ≤ 200) (H5 : Gh5 q hc nd it st A12 ki hv) (hl : A12 (200 * q + K) = l) : 0 < ndp nd it (st K) l 1 x ↔ occ q it st A12 K x ∨ ∃ e, 0 ≤ e ∧ e < K ∧ isA e = 1 ∧ ki e = 1 ∧ occ q it st A12 e x := by
  obtain ⟨g1, g2, g3, g4, g5⟩ := H1
  have h1 := ndv_pos (q := q) (it := it) (st := st) (A12 := A12) (ki := ki) (hv := hv) (x := x) g1
  have h2 := cn_le (fun y => it (st K + y) = x) l.toNat
  have h3 : 0 < cn (fun y => it (st K + y) = x) l.toNat ↔ occ q it st A12 K x := by
    rw [cn_pos]
    unfold occ
    rw [hl]
    constructor
    · rintro ⟨i, i1, i2, i3⟩; exact ⟨i, i1, by omega, i3⟩
    · rintro ⟨i, i1, i2, i3⟩; exact ⟨i, i1, by omega, i3⟩
  have h4 : 0 < ndv q it st A12 ki hv hc x ↔ ∃ e, 0 ≤ e ∧ e < K ∧ isA e = 1 ∧ ki e = 1 ∧ occ q it st A12 e x := by
    rw [h1.2]
    constructor
    · rintro ⟨i, i1, i2, i3, y, y1, y2, y3⟩
      have := g2 i i1 i2
      exact ⟨hv i, by omega, this.2.1, this.2.2.1, i3, y, y1, y2, y3⟩
    · rintro ⟨e, e0, e1, e2, e3, y, y1, y2, y3⟩
      obtain ⟨_, i, i1, i2, i3⟩ := (g4 e e0 (by omega)).2 e2
      exact ⟨i, i1, i2, by rw [i3]; exact e3, y, y1, by rw [i3]; exact y2, by rw [i3]; exact y3⟩
  unfold ndp
  rw [H5 x hx hx2, ← h3, ← h4]
  omega
/-- what the class puts into a frame -/
def sel (hc : Int) (hv ki nd1 it st : Int → Int) (h : Int) : Prop := ∃ i, 0 ≤ i ∧ i < hc ∧ hv i = h ∧ (ki h = 1 ∨ 0 < nd1 (it (st h + 1)))
/-- what is mandatory -/
def mndc (q K : Int) (isA ki va tf it st A12 : Int → Int) (h : Int) : Prop := (∃ i, 0 ≤ i ∧ i < A12 (200 * q + K) ∧ va (it (st K + i)) = 1 ∧ tf (it (st K + i)) = h) ∨ ∃ e, 0 ≤ e ∧ e < K ∧ isA e = 1 ∧ ki e = 1 ∧ (h = e ∨ ∃ i, 0 ≤ i ∧ i < A12 (200 * q + e) ∧ va (it (st e + i)) = 1 ∧ tf (it (st e + i)) = h)
theorem sel_all (H1 : Gh1 D K hc oh hv isA de ki) (hK0 : 0 ≤ K) (hK : K ≤ 200) (hS : S ≤ 300) (H3 : Gh3 K fl tf isA ki de act it st) (H4 : Gh4 q K isA ki it st va tf de A12) (H5 : Gh5 q hc nd it st A12 ki hv) (hl : A12 (200 * q + K) = l) (Gf' : Gf q K S it st va ki A11 A12 A16) (hki : ∀ k, 0 ≤ k → k < K → 0 ≤ ki k) (hF1 : ∀ i, 0 ≤ i → i < l → 0 ≤ it (st K + i) ∧ it (st K + i) < S) (hF2 : ∀ i, 0 ≤ i → i < l → va (it (st K + i)) = 1 → 0 ≤ tf (it (st K + i))) :
    (∀ h, sel hc hv ki (ndp nd it (st K) l 1) it st h ↔ mndc q K isA ki va tf it st A12 h) ∧ (∀ h, sel hc hv ki (ndp nd it (st K) l 1) it st h → 0 ≤ h ∧ h < K ∧ ki h < 2) ∧ (∀ i, 0 ≤ i → i < l → va (it (st K + i)) = 1 → ∃ h, sel hc hv ki (ndp nd it (st K) l 1) it st h ∧ ki h = 0 ∧ it (st h + 1) = it (st K + i)) ∧ (∀ e, sel hc hv ki (ndp nd it (st K) l 1) it st e → ki e = 1 → ∀ i, 0 ≤ i → i < A12 (200 * q + e) → va (it (st e + i)) = 1 → ∃ h, sel hc hv ki (ndp nd it (st K) l 1) it st h ∧ h < e ∧ ki h = 0 ∧ it (st h + 1) = it (st e + i)) ∧ (∀ x, 0 ≤ x → x < 300 → va x = 1 → (0 < ndp nd it (st K) l 1 x ↔ ∃ h, sel hc hv ki (ndp nd it (st K) l 1) it st h ∧ ki h = 0 ∧ it (st h + 1) = x)) := by
  have nd1 : ∀ x, 0 ≤ x → x < 300 → (0 < ndp nd it (st K) l 1 x ↔ occ q it st A12 K x ∨ ∃ e, 0 ≤ e ∧ e < K ∧ isA e = 1 ∧ ki e = 1 ∧ occ q it st A12 e x) := fun x h0 h1 => nd1_iff h0 h1 H1 hK H5 hl
  obtain ⟨g1, g2, g3, g4, g5⟩ := H1
  -- a typed variable that stands somewhere
  have typ : ∀ x, 0 ≤ x → x < 300 → 0 ≤ tf x → 0 < ndp nd it (st K) l 1 x → sel hc hv ki (ndp nd it (st K) l 1) it st (tf x) ∧ ki (tf x) = 0 ∧ it (st (tf x) + 1) = x := by
    intro x x0 x1 x2 x3
    obtain ⟨d1, d2, d3, d4, _⟩ := (H3.1 x x0 x1).2.2.2 x2
    obtain ⟨_, i, i1, i2, i3⟩ := (g4 (tf x) x2 (by omega)).2 d2
    exact ⟨⟨i, i1, i2, i3, Or.inr (by rw [d4]; exact x3)⟩, d3, d4⟩
  have inK : ∀ i, 0 ≤ i → i < l → 0 < ndp nd it (st K) l 1 (it (st K + i)) := by
    intro i i1 i2
    have := hF1 i i1 i2
    exact (nd1 _ this.1 (by omega)).mpr (Or.inl ⟨i, i1, by omega, rfl⟩)
  have inE : ∀ e i, 0 ≤ e → e < K → isA e = 1 → ki e = 1 → 0 ≤ i → i < A12 (200 * q + e) → 0 ≤ it (st e + i) ∧ it (st e + i) < 300 ∧ 0 < ndp nd it (st K) l 1 (it (st e + i)) := by
    intro e i e0 e1 e2 e3 i1 i2
    have := (Gf' e e0 e1).2.2.2.2.1 i i1 i2
    exact ⟨this.2.1, by omega, (nd1 _ this.2.1 (by omega)).mpr (Or.inr ⟨e, e0, e1, e2, e3, i, i1, i2, rfl⟩)⟩
  have rng : ∀ h, sel hc hv ki (ndp nd it (st K) l 1) it st h → 0 ≤ h ∧ h < K ∧ ki h < 2 ∧ isA h = 1 := by
    rintro h ⟨i, i1, i2, rfl, _⟩
    have := g2 i i1 i2
    exact ⟨by omega, this.2.1, this.2.2.2.1, this.2.2.1⟩
  have p3 : ∀ i, 0 ≤ i → i < l → va (it (st K + i)) = 1 → ∃ h, sel hc hv ki (ndp nd it (st K) l 1) it st h ∧ ki h = 0 ∧ it (st h + 1) = it (st K + i) := by
    intro i i1 i2 i3
    have h0 := hF1 i i1 i2
    have h1 := hF2 i i1 i2 i3
    exact ⟨_, typ _ h0.1 (by omega) h1 (inK i i1 i2)⟩
  have p4 : ∀ e, 0 ≤ e → e < K → isA e = 1 → ki e = 1 → ∀ i, 0 ≤ i → i < A12 (200 * q + e) → va (it (st e + i)) = 1 → ∃ h, sel hc hv ki (ndp nd it (st K) l 1) it st h ∧ h < e ∧ ki h = 0 ∧ it (st h + 1) = it (st e + i) ∧ h = tf (it (st e + i)) := by
    intro e e0 e1 e2 e3 i i1 i2 i3
    obtain ⟨h0, h1, h2⟩ := inE e i e0 e1 e2 e3 i1 i2
    obtain ⟨y1, y2, y3⟩ := H4 e e0 e1 e2 e3 i i1 i2 i3
    obtain ⟨z1, z2, z3⟩ := typ _ h0 h1 y1 h2
    exact ⟨_, z1, y2, z2, z3, rfl⟩
  refine ⟨fun h => ⟨?_, ?_⟩, fun h hs => ⟨(rng h hs).1, (rng h hs).2.1, (rng h hs).2.2.1⟩, p3, fun e hs e3 i i1 i2 i3 => ?_, fun x x0 x1 x2 => ⟨fun hx => ?_, ?_⟩⟩
  · intro hs
    obtain ⟨r1, r2, r3, r4⟩ := rng h hs
    obtain ⟨i, i1, i2, i3, i4⟩ := hs
    by_cases k1 : ki h = 1
    · exact Or.inr ⟨h, r1, r2, r4, k1, Or.inl rfl⟩
    · have k0 : ki h = 0 := by have := hki h r1 r2; omega
      have i5 : 0 < ndp nd it (st K) l 1 (it (st h + 1)) := by
        rcases i4 with z | z
        · exact absurd z k1
        · exact z
      have f := Gf' h r1 r2
      have f7 := f.2.2.2.2.2.2 k0
      have f5 := f.2.2.2.2.1 1 (by omega) (by omega)
      have t := H3.2 h r1 r2 r4 k0
      rcases (nd1 _ f5.2.1 (by omega)).mp i5 with ⟨y, y1, y2, y3⟩ | ⟨e, e0, e1, e2, e3, y, y1, y2, y3⟩
      · exact Or.inl ⟨y, y1, y2, by rw [y3]; exact f7.2, by rw [y3]; exact t⟩
      · exact Or.inr ⟨e, e0, e1, e2, e3, Or.inr ⟨y, y1, y2, by rw [y3]; exact f7.2, by rw [y3]; exact t⟩⟩
  · rintro (⟨i, i1, i2, i3, i4⟩ | ⟨e, e0, e1, e2, e3, rfl | ⟨i, i1, i2, i3, i4⟩⟩)
    · rw [hl] at i2
      have h0 := hF1 i i1 i2
      have h1 := hF2 i i1 i2 i3
      rw [← i4]
      exact (typ _ h0.1 (by omega) h1 (inK i i1 i2)).1
    · obtain ⟨_, i, i1, i2, i3⟩ := (g4 h e0 (by omega)).2 e2
      exact ⟨i, i1, i2, i3, Or.inl e3⟩
    · obtain ⟨h', z1, z2, z3, z4, z5⟩ := p4 e e0 e1 e2 e3 i i1 i2 i3
      rw [← i4, ← z5]; exact z1
  · obtain ⟨r1, r2, r3, r4⟩ := rng e hs
    obtain ⟨h', z1, z2, z3, z4, z5⟩ := p4 e r1 r2 r4 e3 i i1 i2 i3
    exact ⟨h', z1, z2, z3, z4⟩
  · rcases (nd1 x x0 x1).mp hx with ⟨y, y1, y2, y3⟩ | ⟨e, e0, e1, e2, e3, y, y1, y2, y3⟩
    · obtain ⟨h', z⟩ := p3 y y1 (by omega) (by rw [y3]; exact x2)
      exact ⟨h', by rw [← y3]; exact z⟩
    · obtain ⟨h', z1, z2, z3, z4, z5⟩ := p4 e e0 e1 e2 e3 y y1 y2 (by rw [y3]; exact x2)
      exact ⟨h', z1, z3, by rw [← y3]; exact z4⟩
  · rintro ⟨h, hs, k0, rfl⟩
    obtain ⟨i, i1, i2, i3, i4⟩ := hs
    rcases i4 with z | z
    · omega
    · exact z
end SEL
section MAS
variable {b n : Nat} {q S K P len c b0 e0 w : Int} {f0 : Nat → Nat → Int} {a0 : Nat → Int → Int} {ni0 : Nat → Nat} {j0 : Nat → Int → Int64} {F0 : Nat → Int} {A0 : Nat → Int → Int} {J0 : Nat → Int → Int64} {f : Nat → Nat → Int} {d : Nat → Nat} {a : Nat → Int → Int} {ni : Nat → Nat} {j : Nat → Int → Int64} {F : Nat → Int} {A : Nat → Int → Int} {J : Nat → Int → Int64}
theorem M_a {kd : Int} (hn : 100000 ≤ n) (hq : 0 ≤ q ∧ q ≤ 1) (h32 : F 32 = q) (h15 : A 15 q = K) (hK0 : 0 ≤ K) (hK : K < 200) (h7 : A 7 (200 * q + K) = kd) (hk : 2 ≤ kd) (hk3 : kd ≤ 3) (h28 : ∀ k, 0 ≤ k → k < K → (A 28 k = 0 ∨ A 28 k = 1) ∧ 0 ≤ A 7 (200 * q + k) ∧ A 7 (200 * q + k) ≤ 3)
    (hx : ∀ k, 0 ≤ k → k ≤ K → (k = K ∨ (A 28 k = 1 ∧ A 7 (200 * q + k) = 1)) → 0 ≤ A 12 (200 * q + k) ∧ A 12 (200 * q + k) ≤ 60 ∧ 0 ≤ A 11 (200 * q + k) ∧ A 11 (200 * q + k) + A 12 (200 * q + k) ≤ 4096 ∧ ∀ i, 0 ≤ i → i < A 12 (200 * q + k) → 0 ≤ A 16 (4096 * q + A 11 (200 * q + k) + i) ∧ A 16 (4096 * q + A 11 (200 * q + k) + i) < 300 ∧ (A 5 (300 * q + A 16 (4096 * q + A 11 (200 * q + k) + i)) = 0 ∨ A 5 (300 * q + A 16 (4096 * q + A 11 (200 * q + k) + i)) = 1) ∧ (A 5 (300 * q + A 16 (4096 * q + A 11 (200 * q + k) + i)) = 1 → 0 ≤ A 27 (A 16 (4096 * q + A 11 (200 * q + k) + i)) ∧ A 27 (A 16 (4096 * q + A 11 (200 * q + k) + i)) < 200)) :
    ∃ (A2 : Nat → Int → Int) (J2 : Nat → Int → Int64), g_X11_endStatement n 0 (ms F A J) = some (ms (u1 F 34 0) A2 J2) ∧ (∀ i, i ≠ 15 → A2 i = A i) ∧ A2 15 q = K + 1 ∧ (∀ x, x ≠ q → A2 15 x = A 15 x) ∧ (∀ i, i ≠ 19 → i ≠ 20 → J2 i = J i) ∧ (∀ x, ¬(4 * (200 * q + K) ≤ x ∧ x < 4 * (200 * q + K) + 4) → J2 19 x = J 19 x ∧ J2 20 x = J 20 x) ∧ (∀ h, 0 ≤ h → h < 200 → (bt (J2 20) (4 * (200 * q + K)) h ↔ mnd q K A h)) ∧ ∀ h, 0 ≤ h → h < 200 → (bt (J2 19) (4 * (200 * q + K)) h ↔ h < K ∧ A 28 h = 1) := by
  obtain ⟨z19, z20, M1, M11, M12⟩ := m_end1 (F := F) (A := A) (J := J) (n := n) (s := 200 * q + K) (v1' := K) hn (by omega) (by omega)
  obtain ⟨y19, M2, M21, M22⟩ := m_end2 (F := F) (A := A) (J := u1 (u1 J 19 z19) 20 z20) (n := n) (s := 200 * q + K) (K := K) hn (by omega) (by omega) hK0 hK (fun k x1 x2 => (h28 k x1 x2).1)
  simp (disch := omega) only [u1_o, u1_s] at M21 M22
  obtain ⟨y20, M3, M31, M32⟩ := m_frameOf (F := F) (A := A) (J := u1 (u1 (u1 J 19 z19) 20 z20) 19 y19) (n := n) (q := q) (K := K) hn hq h32 hK0 hK h28 hx
  simp (disch := omega) only [u1_o, u1_s] at M31 M32
  have Y0 : g_X11_endStatement n 0 (ms F A J) = some (ms (u1 F 34 0) (v2 A 15 q (K + 1)) (u1 (u1 (u1 (u1 J 19 z19) 20 z20) 19 y19) 20 y20)) := by
    unfold g_X11_endStatement g_X11_endStatement_0
    simp only [qz_lit]
    simp (disch := first | assumption | omega) only [qz_mul, qz_add, gf_ms, h32, gp_0, gp_5, gp_6, gp_7, gp_8, gp_9, gp_10, gp_11, gp_12, gp_13, gp_14, gp_15, gp_16, gp_17, gp_18, gp_19, gp_20, gp_21, gp_22, gp_23, gp_24, gp_25, gp_26, gp_27, gp_28, gp_38, gp_39, gp_40, gp_41, gp_42, gp_44, gp_45, gp_47, gp_49, gp_51, gp_52, gp_56, gp_57, gp_58, gp_60, gp_61, gp_62, gp_63, gp_64, gp_65, gp_66, gp_68, gp_69, gp_70, gp_72, gp_73, gp_74, gp_75, gp_76, gp_77, gp_78, gp_79, gp_81, gp_83, gp_84, ga_15, h15, bd_some]
    rw [M1, bd_some, M2, bd_some]
    simp (disch := first | assumption | omega) only [gp_0, gp_5, gp_6, gp_7, gp_8, gp_9, gp_10, gp_11, gp_12, gp_13, gp_14, gp_15, gp_16, gp_17, gp_18, gp_19, gp_20, gp_21, gp_22, gp_23, gp_24, gp_25, gp_26, gp_27, gp_28, gp_38, gp_39, gp_40, gp_41, gp_42, gp_44, gp_45, gp_47, gp_49, gp_51, gp_52, gp_56, gp_57, gp_58, gp_60, gp_61, gp_62, gp_63, gp_64, gp_65, gp_66, gp_68, gp_69, gp_70, gp_72, gp_73, gp_74, gp_75, gp_76, gp_77, gp_78, gp_79, gp_81, gp_83, gp_84, ga_7, h7, bd_some]
    rw [if_neg (by rw [qz_lt (by omega) (by omega) (by omega) (by omega)]; omega), M3, bd_some]
    unfold g_X11_endStatement_162
    simp (disch := first | assumption | omega) only [qpT, qpF, qz_lit, qz_add, qz_mul, qz_neg, qz_sub, qz_inj, qz_lt, qz_le, qz_div, qp_0, qp_1, hp_bz_qp, hp_bz_0, hp_bz_1, gf_ms, wf_ms, h32, gp_0, gp_5, gp_6, gp_7, gp_8, gp_9, gp_10, gp_11, gp_12, gp_13, gp_14, gp_15, gp_16, gp_17, gp_18, gp_19, gp_20, gp_21, gp_22, gp_23, gp_24, gp_25, gp_26, gp_27, gp_28, gp_38, gp_39, gp_40, gp_41, gp_42, gp_44, gp_45, gp_47, gp_49, gp_51, gp_52, gp_56, gp_57, gp_58, gp_60, gp_61, gp_62, gp_63, gp_64, gp_65, gp_66, gp_68, gp_69, gp_70, gp_72, gp_73, gp_74, gp_75, gp_76, gp_77, gp_78, gp_79, gp_81, gp_83, gp_84, ga_15, ua_15, h15, bd_some]
  refine ⟨_, _, Y0, fun i i1 => v2_o i1, by rw [v2_s, v1_s], fun x hx => by rw [v2_s, v1_o hx], fun i i1 i2 => by rw [u1_o i2, u1_o i1, u1_o i2, u1_o i1], fun x hx => ⟨?_, ?_⟩, fun h h0 h1 => ?_, fun h h0 h1 => ?_⟩
  · rw [u1_o (by decide), u1_s, M21 x hx]; exact (M11 x hx).1
  · rw [u1_s, M31 x hx]; exact (M11 x hx).2
  · rw [u1_s, M32 h h0 h1]
    exact ⟨fun z => z.elim (fun z => absurd z (bt_zero (M12 _ (by omega) (by omega)).2)) id, Or.inr⟩
  · rw [u1_o (by decide), u1_s, M22 h h0 h1]
    exact ⟨fun z => z.elim (fun z => absurd z (bt_zero (M12 _ (by omega) (by omega)).1)) id, Or.inr⟩
end MAS
