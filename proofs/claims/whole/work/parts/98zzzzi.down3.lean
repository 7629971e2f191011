/-! A proof is told in letters: the reference goes down -/
section DNR
variable {n : Nat} {N c k0 : Int} {nd nm nu can cn lo : Int → Int} {ch : Int → Int → Int} {EV : Int → List Int} {F F2 F3 : Nat → Int} {A A2 A3 : Nat → Int → Int} {J : Nat → Int → Int64}
theorem cE_len {j : Int} (l : List Int) : cE j l ≤ l.length := by
  induction l with
  | nil => exact Int.le_refl _
  | cons e es ih =>
    show (if e = j ∨ e = 1000 + j then 1 else 0) + cE j es ≤ ((es.length + 1 : Nat) : Int)
    split <;> omega
def DJ (F : Nat → Int) (A : Nat → Int → Int) (F2 : Nat → Int) (A2 : Nat → Int → Int) : Prop := (∀ x, x ≠ 85 → F2 x = F x) ∧ ∀ x, x ≠ 52 → x ≠ 53 → x ≠ 54 → x ≠ 60 → A2 x = A x
theorem dj_0 : DJ F A F A := ⟨fun _ _ => rfl, fun _ _ _ _ _ => rfl⟩
theorem dj_t (h : DJ F A F2 A2) (h2 : DJ F2 A2 F3 A3) : DJ F A F3 A3 := ⟨fun x x1 => (h2.1 x x1).trans (h.1 x x1), fun x x1 x2 x3 x4 => (h2.2 x x1 x2 x3 x4).trans (h.2 x x1 x2 x3 x4)⟩
theorem dj_ms (M : MST N k0 nd nm ch A) (h : DJ F A F2 A2) : MST N k0 nd nm ch A2 := mst_c M (h.2 _ (by decide) (by decide) (by decide) (by decide)) (h.2 _ (by decide) (by decide) (by decide) (by decide)) (h.2 _ (by decide) (by decide) (by decide) (by decide)) (h.2 _ (by decide) (by decide) (by decide) (by decide)) (h.2 _ (by decide) (by decide) (by decide) (by decide))
def tcd (can : Int → Int) (e : Int) : Int := if e < 1000 then can e else 1000 + can (e - 1000)
/-- how often the nodes were come to -/
def TMI (c : Int) (nd can : Int → Int) (m : Int) (g ce : Int → Int) : Prop := ∀ i, 0 ≤ i → i < c → (1 ≤ nd (can i) → g (can i) = ce i) ∧ (nd (can i) ≤ 0 → g (can i) = 0) ∧ 0 ≤ ce i ∧ ce i ≤ 100000 ∧ opq (1 ≤ ce i ↔ i < m)
/-- a list stands in an array from p on -/
def ats (g : Int → Int) (p : Int) : List Int → Prop
  | [] => True
  | e :: es => g p = e ∧ ats g (p + 1) es
theorem ats_a {g : Int → Int} {l2 : List Int} (l : List Int) : ∀ p, ats g p l → ats g (p + l.length) l2 → ats g p (l ++ l2) := by
  induction l with
  | nil => intro p _ h; rw [show p + (([] : List Int).length : Int) = p from Int.add_zero _] at h; exact h
  | cons e es ih =>
    intro p h h2
    refine ⟨h.1, ih (p + 1) h.2 ?_⟩
    rw [show p + ((e :: es).length : Int) = p + 1 + es.length by show p + ((es.length + 1 : Nat) : Int) = _; omega] at h2
    exact h2
theorem ats_c {g g2 : Int → Int} (l : List Int) : ∀ p, ats g p l → (∀ y, p ≤ y → y < p + l.length → g2 y = g y) → ats g2 p l := by
  induction l with
  | nil => intro p _ _; trivial
  | cons e es ih =>
    intro p h h2
    have hl : ((e :: es).length : Int) = es.length + 1 := rfl
    refine ⟨by rw [h2 p (Int.le_refl _) (by omega)]; exact h.1, ih (p + 1) h.2 (fun y y0 y1 => h2 y (by omega) (by omega))⟩
theorem m_dn (hn : 100000 ≤ n) (D0 : NDS N c nd nm ch nu can cn) (T : RPN N nd ch lo) (E : EVD N nd nu can cn lo ch EV) (hN : N ≤ 1000) (hc : c ≤ 1000) (A47 A50 : Int → Int) (hA : ∀ x, 0 ≤ x → x < N → 0 ≤ A47 x ∧ A47 x ≤ x ∧ 0 ≤ nm (A47 x) ∧ nu (A47 x) = nu x) (h50 : ∀ x, 0 ≤ x → x < N → A50 x = alk nm nu can x) (m : Nat) : ∀ (x D : Int) (ce : Int → Int) (u : Nat) (F : Nat → Int) (A : Nat → Int → Int), 0 ≤ x → x < m → x < N → 0 ≤ D → D + can (nu x) < 1000 → 2 * (EV x).length ≤ u → 0 ≤ F 85 → F 85 + (EV x).length ≤ 2000 → (∀ i, 0 ≤ i → i < c → ce i + (EV x).length ≤ 100000) → MST N k0 nd nm ch A → A 47 = A47 → A 50 = A50 → A 52 D = can (nu x) → A 53 D = 0 → TMI c nd can (cn (lo x)) (A 54) ce →
    ∃ (F2 : Nat → Int) (A2 : Nat → Int → Int), hp_lp (gL_X11_goDown_56 n 0) u (qz (D + 1), ms F A J) = hp_lp (gL_X11_goDown_56 n 0) (u + 1 - 2 * (EV x).length) (qz D, ms F2 A2 J) ∧ F2 85 = F 85 + (EV x).length ∧ (∀ i, i < D → A2 52 i = A 52 i) ∧ (∀ i, i < D → A2 53 i = A 53 i) ∧ (∀ y, y < F 85 → A2 60 y = A 60 y) ∧ ats (A2 60) (F 85) ((EV x).map (tcd can)) ∧ TMI c nd can (cn (x + 1)) (A2 54) (fun i => ce i + cE i (EV x)) ∧ DJ F A F2 A2 := by
  induction m with
  | zero => intro x D ce u F A x0 x1; omega
  | succ m ih =>
    intro x D ce u F A x0 x1 xN D0' Dx hu u0 u1' hce M e47 e50 e52 e53 hT
    obtain ⟨p1, p2, p3, p4, p5, p6, p7⟩ := T x x0 xN
    obtain ⟨n1, n2, n3⟩ := nds_nu D0 x0 xN
    obtain ⟨E1, E2, E3⟩ := E x x0 xN
    obtain ⟨c1, c2, c3, c4, c5, c6⟩ := nds_can D0 (by omega) n1 n3
    obtain ⟨m1, m2, m3, m4, m5, m6⟩ := M (can (nu x)) c1 c2
    obtain ⟨o1, o2⟩ := nds_new D0 T x0 xN
    obtain ⟨t1, t2, t3, t4, t5⟩ := hT (nu x) n1 n3
    obtain ⟨q1, _⟩ := T (can (nu x)) c1 c2
    -- the canonical step of a node tells the nodes apart
    have hinj : ∀ i, 0 ≤ i → i < c → can i = can (nu x) → i = nu x := by
      intro i i0 i1 e
      obtain ⟨_, _, k3, _⟩ := nds_can D0 (by omega) i0 i1
      rw [← k3, e, c3]
    -- leaving a node
    have leave : ∀ (F3 : Nat → Int) (A3 : Nat → Int → Int) (tv : Int), A3 52 D = can (nu x) → A3 53 D = nd (can (nu x)) → A3 46 = A 46 → 0 ≤ F3 85 → F3 85 < 2000 → (nd (can (nu x)) ≤ 0 → tv = 0) → (0 < nd (can (nu x)) → tv = 1) → gL_X11_goDown_56 n 0 (qz (D + 1), ms F3 A3 J) = some (.inl (qz D, ms (u1 F3 85 (F3 85 + 1)) (v2 (v2 A3 54 (can (nu x)) tv) 60 (F3 85) (can (nu x))) J)) := by
      intro F3 A3 tv k1 k2 k3 k4 k5 k6 k7
      have e142 : g_X11_goDown_142 n 0 (qz (D + 1)) (qz (can (nu x))) (qz (nd (can (nu x)))) (ms F3 A3 J) = some (.inl (qz D, ms (u1 F3 85 (F3 85 + 1)) (v2 (v2 A3 54 (can (nu x)) tv) 60 (F3 85) (can (nu x))) J)) := by
        unfold g_X11_goDown_142 g_X11_goDown_222 g_X11_goDown_246
        simp only [zl0, zl1, zlm1, qz_neg]
        rw [gp_66, ga_46 c1 (by omega), k3, m1, bd_some, if_pos (by rw [qz_le (by omega) (by omega) (by omega) (by omega)]; omega), bd_some]
        by_cases y : nd (can (nu x)) ≤ 0
        · rw [if_pos (by rw [qz_le (by omega) (by omega) (by omega) (by omega)]; exact y), gp_76, ua_54 c1 (by omega), bd_some, gp_84, gf_ms, ua_60 k4 (by omega), bd_some, gf_ms, qz_add, wf_ms, bd_some, qz_add, show D + 1 + -1 = D by omega, k6 y]
        · rw [if_neg (by rw [qz_le (by omega) (by omega) (by omega) (by omega)]; exact y), gp_76, ua_54 c1 (by omega), bd_some, gp_84, gf_ms, ua_60 k4 (by omega), bd_some, gf_ms, qz_add, wf_ms, bd_some, qz_add, show D + 1 + -1 = D by omega, k7 (by omega)]
      unfold gL_X11_goDown_56 g_X11_goDown_56
      simp only [zl0, zl1]
      rw [if_neg (by rw [qz_le (by omega) (by omega) (by omega) (by omega)]; omega), qz_sub, show D + 1 - 1 = D by omega, gp_74, ga_52 D0' (by omega), k1, bd_some, gp_75, ga_53 D0' (by omega), k2, bd_some]
      by_cases y : nd (can (nu x)) = 0
      · have e := e142
        rw [y] at e ⊢
        rw [if_pos rfl, gp_66, ga_46 c1 (by omega), k3, m1, y, bd_some, if_pos (by rw [qz_le (by omega) (by omega) (by omega) (by omega)]; omega)]
        exact e
      · rw [if_neg (by rw [qz_inj (by omega) (by omega) (by omega) (by omega)]; exact y)]
        exact e142
    by_cases c0 : nd (can (nu x)) = 0
    · -- a leaf
      have hE := E1 c0
      have hl1 : (EV x).length = 1 := by rw [hE]; rfl
      have eb := leave F A 0 e52 (by rw [e53, c0]) rfl u0 (by omega) (fun _ => rfl) (fun h => by omega)
      refine ⟨u1 F 85 (F 85 + 1), v2 (v2 A 54 (can (nu x)) 0) 60 (F 85) (can (nu x)), ?_, ?_, fun i hi => ?_, fun i hi => ?_, fun y hy => ?_, ?_, ?_, ⟨fun y hy => u1_o hy, fun y y1 y2 y3 y4 => by rw [v2_o y4, v2_o y3]⟩⟩
      · rw [hl1, show u = u - 1 + 1 by omega, lp_st eb, show u - 1 + 1 + 1 - 2 * 1 = u - 1 by omega]
      · rw [u1_s, hl1]; rfl
      · rw [v2_o (by decide), v2_o (by decide)]
      · rw [v2_o (by decide), v2_o (by decide)]
      · rw [v2_s, v1_o (by omega), v2_o (by decide)]
      · rw [hE, v2_s, v2_o (by decide)]
        show v1 (A 60) (F 85) (can (nu x)) (F 85) = tcd can (nu x) ∧ True
        rw [v1_s]
        unfold tcd
        rw [if_pos (by omega)]
        exact ⟨rfl, trivial⟩
      · intro i i0 i1
        obtain ⟨s1, s2, s3, s4, s5⟩ := hT i i0 i1
        rw [v2_o (by decide), v2_s]
        have hcnt : cE i (EV x) = if nu x = i then 1 else 0 := by
          rw [hE]
          show (if nu x = i ∨ nu x = 1000 + i then 1 else 0) + 0 = _
          by_cases y : nu x = i
          · rw [if_pos (Or.inl y), if_pos y]; rfl
          · rw [if_neg (by omega), if_neg y]; rfl
        have hlo : lo x = x := by
          apply p4
          obtain ⟨_, g2, g3⟩ := D0.2.2 x x0 xN
          rcases Int.lt_or_le (nm x) 0 with h | h
          · exact g2 h
          · rw [← (g3 h).2.1]; exact c0
        have hcn := (D0.2.2 x x0 xN).1
        show (1 ≤ nd (can i) → v1 (A 54) (can (nu x)) 0 (can i) = ce i + cE i (EV x)) ∧ (nd (can i) ≤ 0 → v1 (A 54) (can (nu x)) 0 (can i) = 0) ∧ 0 ≤ ce i + cE i (EV x) ∧ ce i + cE i (EV x) ≤ 100000 ∧ opq (1 ≤ ce i + cE i (EV x) ↔ i < cn (x + 1))
        have hcei := hce i i0 i1
        have s5' : 1 ≤ ce i ↔ i < cn (lo x) := s5
        rw [hlo] at s5'
        by_cases y : nu x = i
        · rw [hcnt, if_pos y, ← y, v1_s]
          refine ⟨fun h => by omega, fun _ => rfl, ?_, ?_, ?_⟩
          · rw [y]; omega
          · rw [y]; omega
          · show 1 ≤ ce (nu x) + 1 ↔ nu x < cn (x + 1)
            rw [y]
            exact ⟨fun _ => by omega, fun _ => by omega⟩
        · rw [hcnt, if_neg y, v1_o (fun e => y (hinj i i0 i1 e).symm), Int.add_zero]
          refine ⟨s1, s2, s3, s4, ?_⟩
          show 1 ≤ ce i ↔ i < cn (x + 1)
          constructor
          · intro h; have := s5'.mp h; omega
          · intro h; exact s5'.mpr (by omega)
    · by_cases cR : nu x < cn (lo x)
      · -- come to again
        have hE := E2 c0 cR
        have hl1 : (EV x).length = 1 := by rw [hE]; rfl
        have ecn := o1 cR
        have t5' : 1 ≤ ce (nu x) ↔ nu x < cn (lo x) := t5
        have hc1 := t5'.mpr cR
        have e54 := t1 (by omega)
        have eb : gL_X11_goDown_56 n 0 (qz (D + 1), ms F A J) = some (.inl (qz D, ms (u1 F 85 (F 85 + 1)) (v2 (v2 A 54 (can (nu x)) (ce (nu x) + 1)) 60 (F 85) (1000 + can (nu x))) J)) := by
          unfold gL_X11_goDown_56 g_X11_goDown_56 g_X11_goDown_246
          simp only [zl0, zl1, zlm1, zl1000, qz_neg]
          rw [if_neg (by rw [qz_le (by omega) (by omega) (by omega) (by omega)]; omega), qz_sub, show D + 1 - 1 = D by omega, gp_74, ga_52 D0' (by omega), e52, bd_some, gp_75, ga_53 D0' (by omega), e53, bd_some, if_pos rfl, gp_66, ga_46 c1 (by omega), m1, bd_some, if_neg (by rw [qz_le (by omega) (by omega) (by omega) (by omega)]; omega), gp_76, ga_54 c1 (by omega), e54, bd_some, if_neg (by rw [qz_le (by omega) (by omega) (by omega) (by omega)]; omega), bd_some, qz_add, ua_54 c1 (by omega), bd_some, gp_84, gf_ms, qz_add, ua_60 u0 (by omega), bd_some, gf_ms, qz_add, wf_ms, bd_some, qz_add, show D + 1 + -1 = D by omega]
        refine ⟨u1 F 85 (F 85 + 1), v2 (v2 A 54 (can (nu x)) (ce (nu x) + 1)) 60 (F 85) (1000 + can (nu x)), ?_, ?_, fun i hi => ?_, fun i hi => ?_, fun y hy => ?_, ?_, ?_, ⟨fun y hy => u1_o hy, fun y y1 y2 y3 y4 => by rw [v2_o y4, v2_o y3]⟩⟩
        · rw [hl1, show u = u - 1 + 1 by omega, lp_st eb, show u - 1 + 1 + 1 - 2 * 1 = u - 1 by omega]
        · rw [u1_s, hl1]; rfl
        · rw [v2_o (by decide), v2_o (by decide)]
        · rw [v2_o (by decide), v2_o (by decide)]
        · rw [v2_s, v1_o (by omega), v2_o (by decide)]
        · rw [hE, v2_s, v2_o (by decide)]
          show v1 (A 60) (F 85) (1000 + can (nu x)) (F 85) = tcd can (1000 + nu x) ∧ True
          rw [v1_s]
          unfold tcd
          rw [if_neg (by omega), show 1000 + nu x - 1000 = nu x by omega]
          exact ⟨rfl, trivial⟩
        · intro i i0 i1
          obtain ⟨s1, s2, s3, s4, s5⟩ := hT i i0 i1
          rw [v2_o (by decide), v2_s]
          have hcnt : cE i (EV x) = if nu x = i then 1 else 0 := by
            rw [hE]
            show (if 1000 + nu x = i ∨ 1000 + nu x = 1000 + i then 1 else 0) + 0 = _
            by_cases y : nu x = i
            · rw [if_pos (Or.inr (by omega)), if_pos y]; rfl
            · rw [if_neg (by omega), if_neg y]; rfl
          have hcei := hce i i0 i1
          show (1 ≤ nd (can i) → v1 (A 54) (can (nu x)) (ce (nu x) + 1) (can i) = ce i + cE i (EV x)) ∧ (nd (can i) ≤ 0 → v1 (A 54) (can (nu x)) (ce (nu x) + 1) (can i) = 0) ∧ 0 ≤ ce i + cE i (EV x) ∧ ce i + cE i (EV x) ≤ 100000 ∧ opq (1 ≤ ce i + cE i (EV x) ↔ i < cn (x + 1))
          rw [ecn]
          by_cases y : nu x = i
          · rw [hcnt, if_pos y, ← y, v1_s]
            refine ⟨fun h => rfl, fun h => by omega, by omega, by rw [y]; omega, ?_⟩
            show 1 ≤ ce (nu x) + 1 ↔ nu x < cn (lo x)
            exact ⟨fun _ => cR, fun _ => by omega⟩
          · rw [hcnt, if_neg y, v1_o (fun e => y (hinj i i0 i1 e).symm), Int.add_zero]
            exact ⟨s1, s2, s3, s4, s5⟩
      · -- come to anew
        obtain ⟨k1, k2, k3, k4⟩ := o2 (by omega)
        have hE := E3 c0 (by omega)
        have hlen : (EV x).length = (cat (fun t => EV (ch x t)) (nd x).toNat).length + 1 := by
          rw [hE, List.length_append]; rfl
        rw [k2] at e52 Dx c0 q1 leave hinj t1 t2 m1 m2 m3 m4
        have hmono : ∀ t r : Nat, (cat (fun t => EV (ch x t)) t).length ≤ (cat (fun t => EV (ch x t)) (t + r)).length := by
          intro t r
          induction r with
          | zero => exact Nat.le_refl _
          | succ r ihr =>
            show _ ≤ (cat (fun t => EV (ch x t)) (t + r) ++ EV (ch x ((t + r : Nat) : Int))).length
            rw [List.length_append]; omega
        have t5' : 1 ≤ ce (nu x) ↔ nu x < cn (lo x) := t5
        have hce0 : ce (nu x) = 0 := by
          rcases Int.lt_or_le (ce (nu x)) 1 with h | h
          · omega
          · exact absurd (t5'.mp h) cR
        clear t5 t5' o1 o2
        have e540 : A 54 x = 0 := by rw [t1 (by omega)]; exact hce0
        have key : ∀ t : Nat, (t : Int) ≤ nd x → ∃ (F3 : Nat → Int) (A3 : Nat → Int → Int), hp_lp (gL_X11_goDown_56 n 0) u (qz (D + 1), ms F A J) = hp_lp (gL_X11_goDown_56 n 0) (u - 2 * (cat (fun t => EV (ch x t)) t).length) (qz (D + 1), ms F3 A3 J) ∧ F3 85 = F 85 + (cat (fun t => EV (ch x t)) t).length ∧ (∀ i, i ≤ D → A3 52 i = A 52 i) ∧ (∀ i, i < D → A3 53 i = A 53 i) ∧ A3 53 D = t ∧ (∀ y, y < F 85 → A3 60 y = A 60 y) ∧ ats (A3 60) (F 85) ((cat (fun t => EV (ch x t)) t).map (tcd can)) ∧ TMI c nd can (cn (pos ch lo x t)) (A3 54) (fun i => ce i + cE i (cat (fun t => EV (ch x t)) t)) ∧ DJ F A F3 A3 := by
          intro t
          induction t with
          | zero =>
            intro _
            refine ⟨F, A, rfl, by show F 85 = F 85 + 0; omega, fun _ _ => rfl, fun _ _ => rfl, e53, fun _ _ => rfl, trivial, ?_, dj_0⟩
            have e : (fun i => ce i + cE i (cat (fun t => EV (ch x t)) 0)) = ce := by
              funext i
              exact Int.add_zero _
            rw [e]
            exact hT
          | succ t iht =>
            intro t1
            obtain ⟨F3, A3, h1, h2, h3, h4, h5, h6, h7, h8, h9⟩ := iht (by omega)
            clear iht
            obtain ⟨z0, z1⟩ := p5 t (by omega) (by omega)
            obtain ⟨y1, y2⟩ := pos_lo T x0 xN (t := t) (by omega) (by omega)
            obtain ⟨v1', v2', v3'⟩ := nds_nu D0 z0 (by omega : ch x t < N)
            obtain ⟨b1, b2, b3, b4, b5, b6⟩ := nds_can D0 (by omega) v1' v3'
            obtain ⟨w1, w2, w3, w4⟩ := hA (ch x t) z0 (by omega)
            have et : cat (fun t => EV (ch x t)) (t + 1) = cat (fun t => EV (ch x t)) t ++ EV (ch x t) := rfl
            have el : (cat (fun t => EV (ch x t)) (t + 1)).length = (cat (fun t => EV (ch x t)) t).length + (EV (ch x t)).length := by
              rw [et, List.length_append]
            have hmo := hmono (t + 1) ((nd x).toNat - (t + 1))
            rw [show t + 1 + ((nd x).toNat - (t + 1)) = (nd x).toNat by omega] at hmo
            have hlt : can (nu (ch x t)) < x := by
              have hl := nds_lt D0 T x0 xN k4 (t := t) (by omega) (by omega)
              have := nds_c D0 x.toNat (by omega) (nu (ch x t)) v1' (by rw [show ((x.toNat : Nat) : Int) = x by omega]; omega)
              omega
            have e54' : A3 54 x = 0 := by
              have := (h8 (nu x) n1 n3).1 (by rw [k2]; omega)
              rw [k2] at this
              rw [this]
              have hh := (h8 (nu x) n1 n3).2.2.2.2
              have hh' : 1 ≤ ce (nu x) + cE (nu x) (cat (fun t => EV (ch x t)) t) ↔ nu x < cn (pos ch lo x t) := hh
              have h0 := (h8 (nu x) n1 n3).2.2.1
              have h0' : 0 ≤ ce (nu x) + cE (nu x) (cat (fun t => EV (ch x t)) t) := h0
              show ce (nu x) + cE (nu x) (cat (fun t => EV (ch x t)) t) = 0
              rcases Int.lt_or_le (ce (nu x) + cE (nu x) (cat (fun t => EV (ch x t)) t)) 1 with h | h
              · omega
              · have q := hh'.mp h
                have := nds_le D0 (x := pos ch lo x t) (y := x) (by rw [← y1]; exact (T _ z0 (by omega)).2.1) (by
                  rw [← y1]
                  have := (T _ z0 (by omega : ch x t < N)).2.2.1
                  omega) (by omega)
                omega
            have M3 := dj_ms M h9
            obtain ⟨mm1, mm2, mm3, mm4, _⟩ := M3 x x0 xN
            have e47' : A3 47 = A47 := by rw [h9.2 47 (by decide) (by decide) (by decide) (by decide)]; exact e47
            have e50' : A3 50 = A50 := by rw [h9.2 50 (by decide) (by decide) (by decide) (by decide)]; exact e50
            have em := mm4 t (by omega) (by omega)
            rw [e47'] at em
            have ea : A3 50 (A47 (ch x t)) = can (nu (ch x t)) := by
              rw [e50', h50 _ w1 (by omega)]
              unfold alk
              rw [if_pos w3, w4]
            generalize ha4 : v2 (v2 (v2 A3 53 D (t + 1)) 52 (D + 1) (can (nu (ch x t)))) 53 (D + 1) 0 = A4
            have o52 : A4 52 = v1 (A3 52) (D + 1) (can (nu (ch x t))) := by rw [← ha4, v2_o (by decide), v2_s, v2_o (by decide)]
            have o53 : A4 53 = v1 (v1 (A3 53) D (t + 1)) (D + 1) 0 := by rw [← ha4, v2_s, v2_o (by decide), v2_s]
            have ox : ∀ x, x ≠ 52 → x ≠ 53 → A4 x = A3 x := fun x x1 x2 => by rw [← ha4, v2_o x2, v2_o x1, v2_o x2]
            have e142 : g_X11_goDown_142 n 0 (qz (D + 1)) (qz x) (qz t) (ms F3 A3 J) = some (.inl (qz (D + 1 + 1), ms F3 A4 J)) := by
              unfold g_X11_goDown_142 g_X11_goDown_246
              simp only [zl0, zl1]
              rw [gp_66, ga_46 x0 (by omega), mm1, bd_some, if_neg (by rw [qz_le (by omega) (by omega) (by omega) (by omega)]; omega), gp_75, qz_sub, show D + 1 - 1 = D by omega, ga_53 D0' (by omega), h5, bd_some, qz_add, ua_53 D0' (by omega), bd_some, gp_65, ga_45 x0 (by omega), v2_o (by decide), bd_some, qz_add, gp_64, ga_44 (by omega) (by omega), v2_o (by decide), em, bd_some, gp_72, ga_50 w1 (by omega), v2_o (by decide), ea, bd_some, gp_74, ua_52 (by omega) (by omega), bd_some, gp_75, ua_53 (by omega) (by omega), bd_some, qz_add, ha4]
            have eb : gL_X11_goDown_56 n 0 (qz (D + 1), ms F3 A3 J) = some (.inl (qz (D + 1 + 1), ms F3 A4 J)) := by
              unfold gL_X11_goDown_56 g_X11_goDown_56
              simp only [zl0, zl1]
              rw [if_neg (by rw [qz_le (by omega) (by omega) (by omega) (by omega)]; omega), qz_sub, show D + 1 - 1 = D by omega, gp_74, ga_52 D0' (by omega), h3 D (Int.le_refl _), e52, bd_some, gp_75, ga_53 D0' (by omega), h5, bd_some, gp_66, ga_46 x0 (by omega), mm1, bd_some, gp_76, ga_54 x0 (by omega), e54', bd_some, e142]
              rw [if_pos (Int32.le_refl _), ite_self, ite_self]
            have F4 : DJ F3 A3 F3 A4 := ⟨fun _ _ => rfl, fun x x1 x2 _ _ => ox x x1 x2⟩
            have hcez : ∀ i, 0 ≤ i → i < c → (ce i + cE i (cat (fun t => EV (ch x t)) t)) + ((EV (ch x t)).length : Int) ≤ 100000 := by
              intro i i0 i1
              have hh1 := hce i i0 i1
              have hh2 := cE_len (j := i) (cat (fun t => EV (ch x t)) t)
              omega
            obtain ⟨F5, A5, j1, j2, j3, j4, j5, j6, j7, j8⟩ := ih (ch x t) (D + 1) (fun i => ce i + cE i (cat (fun t => EV (ch x t)) t)) (u - 2 * (cat (fun t => EV (ch x t)) t).length - 1) F3 A4 z0 (by omega) (by omega) (by omega) (by omega) (by omega) (by omega) (by omega) hcez (dj_ms M3 F4) (by rw [ox 47 (by decide) (by decide)]; exact e47') (by rw [ox 50 (by decide) (by decide)]; exact e50') (by rw [o52, v1_s]) (by rw [o53, v1_s]) (by rw [ox 54 (by decide) (by decide), y1]; exact h8)
            refine ⟨F5, A5, ?_, by rw [j2, h2, el]; omega, fun i hi => ?_, fun i hi => ?_, ?_, fun y hy => ?_, ?_, ?_, dj_t h9 (dj_t F4 j8)⟩
            · rw [h1, show u - 2 * (cat (fun t => EV (ch x t)) t).length = u - 2 * (cat (fun t => EV (ch x t)) t).length - 1 + 1 by omega, lp_st eb, j1, el, show u - 2 * (cat (fun t => EV (ch x t)) t).length - 1 + 1 - 2 * (EV (ch x t)).length = u - 2 * ((cat (fun t => EV (ch x t)) t).length + (EV (ch x t)).length) by omega]
            · rw [j3 i (by omega), o52, v1_o (by omega)]; exact h3 i hi
            · rw [j4 i (by omega), o53, v1_o (by omega), v1_o (by omega)]; exact h4 i hi
            · rw [j4 D (by omega), o53, v1_o (by omega), v1_s]; omega
            · rw [j5 y (by omega), ox 60 (by decide) (by decide)]; exact h6 y hy
            · rw [et, List.map_append]
              refine ats_a _ _ (ats_c _ _ h7 (fun y q0 q1 => ?_)) ?_
              · rw [List.length_map] at q1
                rw [j5 y (by omega), ox 60 (by decide) (by decide)]
              · rw [List.length_map, ← h2]; exact j6
            · rw [show ((t + 1 : Nat) : Int) = (t : Int) + 1 by omega, y2]
              have e : (fun i => ce i + cE i (cat (fun t => EV (ch x t)) (t + 1))) = fun i => (fun i => ce i + cE i (cat (fun t => EV (ch x t)) t)) i + cE i (EV (ch x t)) := by
                funext i
                show ce i + cE i (cat (fun t => EV (ch x t)) t ++ EV (ch x t)) = ce i + cE i (cat (fun t => EV (ch x t)) t) + cE i (EV (ch x t))
                rw [cE_app]; omega
              rw [e]
              exact j7
        obtain ⟨F3, A3, h1, h2, h3, h4, h5, h6, h7, h8, h9⟩ := key (nd x).toNat (by omega)
        clear key
        rw [show (((nd x).toNat : Nat) : Int) = nd x by omega] at h5 h8
        rw [pos_e T x0 xN] at h8
        have eb := leave F3 A3 1 (by rw [h3 D (Int.le_refl _)]; exact e52) h5 (h9.2 46 (by decide) (by decide) (by decide) (by decide)) (by omega) (by omega) (fun h => by omega) (fun _ => rfl)
        refine ⟨u1 F3 85 (F3 85 + 1), v2 (v2 A3 54 x 1) 60 (F3 85) x, ?_, ?_, fun i hi => ?_, fun i hi => ?_, fun y hy => ?_, ?_, ?_, dj_t h9 ⟨fun y hy => u1_o hy, fun y y1 y2 y3 y4 => by rw [v2_o y4, v2_o y3]⟩⟩
        · rw [h1, show u - 2 * (cat (fun t => EV (ch x t)) (nd x).toNat).length = u - 2 * (cat (fun t => EV (ch x t)) (nd x).toNat).length - 1 + 1 by omega, lp_st eb, show u - 2 * (cat (fun t => EV (ch x t)) (nd x).toNat).length - 1 = u + 1 - 2 * (EV x).length by omega]
        · rw [u1_s, h2, hlen]; omega
        · rw [v2_o (by decide), v2_o (by decide)]; exact h3 i (by omega)
        · rw [v2_o (by decide), v2_o (by decide)]; exact h4 i hi
        · rw [v2_s, v1_o (by omega), v2_o (by decide)]; exact h6 y hy
        · rw [hE, List.map_append, v2_s, v2_o (by decide)]
          refine ats_a _ _ (ats_c _ _ h7 (fun y q0 q1 => ?_)) ?_
          · rw [List.length_map] at q1
            rw [v1_o (by omega)]
          · rw [List.length_map, ← h2]
            show v1 (A3 60) (F3 85) x (F3 85) = tcd can (nu x) ∧ True
            rw [v1_s]
            unfold tcd
            rw [if_pos (by omega), k2]
            exact ⟨rfl, trivial⟩
        · intro i i0 i1
          obtain ⟨s1, s2, s3, s4, s5⟩ := h8 i i0 i1
          rw [v2_o (by decide), v2_s]
          have hcnt : cE i (EV x) = cE i (cat (fun t => EV (ch x t)) (nd x).toNat) + if nu x = i then 1 else 0 := by
            rw [hE, cE_app]
            show _ + ((if nu x = i ∨ nu x = 1000 + i then 1 else 0) + 0) = _
            by_cases y : nu x = i
            · rw [if_pos (Or.inl y), if_pos y]; omega
            · rw [if_neg (by omega), if_neg y]; omega
          have hcei := hce i i0 i1
          have hle := cE_len (j := i) (EV x)
          show (1 ≤ nd (can i) → v1 (A3 54) x 1 (can i) = ce i + cE i (EV x)) ∧ (nd (can i) ≤ 0 → v1 (A3 54) x 1 (can i) = 0) ∧ 0 ≤ ce i + cE i (EV x) ∧ ce i + cE i (EV x) ≤ 100000 ∧ opq (1 ≤ ce i + cE i (EV x) ↔ i < cn (x + 1))
          have s5' : 1 ≤ ce i + cE i (cat (fun t => EV (ch x t)) (nd x).toNat) ↔ i < cn x := s5
          have s3' : 0 ≤ ce i + cE i (cat (fun t => EV (ch x t)) (nd x).toNat) := s3
          by_cases y : nu x = i
          · rw [hcnt, if_pos y] at hle
            rw [hcnt, if_pos y, ← y, k2, v1_s]
            have e0 : ce i + cE i (cat (fun t => EV (ch x t)) (nd x).toNat) = 0 := by
              rcases Int.lt_or_le (ce i + cE i (cat (fun t => EV (ch x t)) (nd x).toNat)) 1 with h | h
              · omega
              · have := s5'.mp h; omega
            rw [y]
            refine ⟨fun _ => by omega, fun h => by omega, by omega, by omega, ?_⟩
            show 1 ≤ ce i + (cE i (cat (fun t => EV (ch x t)) (nd x).toNat) + 1) ↔ i < cn (x + 1)
            exact ⟨fun _ => by omega, fun _ => by omega⟩
          · rw [hcnt, if_neg y] at hle
            rw [hcnt, if_neg y, Int.add_zero, v1_o (fun e => y (hinj i i0 i1 e).symm)]
            refine ⟨s1, s2, s3, by omega, ?_⟩
            show 1 ≤ ce i + cE i (cat (fun t => EV (ch x t)) (nd x).toNat) ↔ i < cn (x + 1)
            constructor
            · intro h; have := s5'.mp h; omega
            · intro h; exact s5'.mpr (by omega)
end DNR
