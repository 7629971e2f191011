/-! A proof is written out: the reference -/
section WOM
variable {n b : Nat} {q S K P len N c k0 : Int} {nd nm nu can cn lo : Int → Int} {ch : Int → Int → Int} {WO : Int → List Int} {f : Nat → Nat → Int} {a : Nat → Int → Int} {ni : Nat → Nat} {j : Nat → Int → Int64} {F F2 F3 : Nat → Int} {A A2 A3 : Nat → Int → Int} {J : Nat → Int → Int64}
def DG (F : Nat → Int) (A : Nat → Int → Int) (F2 : Nat → Int) (A2 : Nat → Int → Int) : Prop := (∀ x, x ≠ 82 → F2 x = F x) ∧ ∀ x, x ≠ 52 → x ≠ 53 → x ≠ 58 → A2 x = A x
theorem dg_0 : DG F A F A := ⟨fun _ _ => rfl, fun _ _ _ _ => rfl⟩
theorem dg_t (h : DG F A F2 A2) (h2 : DG F2 A2 F3 A3) : DG F A F3 A3 := ⟨fun x x1 => (h2.1 x x1).trans (h.1 x x1), fun x x1 x2 x3 => (h2.2 x x1 x2 x3).trans (h.2 x x1 x2 x3)⟩
theorem dg_bk (G : BK b q S K P len f a ni j A J) (h : DG F A F2 A2) : BK b q S K P len f a ni j A2 J := bk_eq G (fun _ _ _ => rfl) (fun _ _ _ => rfl) (fun _ _ _ => rfl) rfl (fun x x1 x2 => h.2 x (by omega) (by omega) (by omega)) ⟨rfl, rfl⟩
theorem dg_ms (M : MST N k0 nd nm ch A) (h : DG F A F2 A2) : MST N k0 nd nm ch A2 := mst_c M (h.2 _ (by decide) (by decide) (by decide)) (h.2 _ (by decide) (by decide) (by decide)) (h.2 _ (by decide) (by decide) (by decide)) (h.2 _ (by decide) (by decide) (by decide)) (h.2 _ (by decide) (by decide) (by decide))
theorem m_wo (hn : 100000 ≤ n) (hq : 0 ≤ q ∧ q ≤ 1) (D0 : NDS N c nd nm ch nu can cn) (T : RPN N nd ch lo) (W : WOD c nd nm ch nu can WO) (hN : N ≤ 1000) (hk0 : k0 ≤ K) (A47 : Int → Int) (hA : ∀ x, 0 ≤ x → x < N → 0 ≤ A47 x ∧ A47 x ≤ x ∧ 0 ≤ nm (A47 x) ∧ nu (A47 x) = nu x) (nl : Int → List Int) (m : Nat) : ∀ (x D k : Int) (L : List Int) (u : Nat) (F : Nat → Int) (A : Nat → Int → Int), 0 ≤ x → x < m → x < N → 0 ≤ nm x → 0 ≤ D → D + x < 1000 → 0 ≤ k → k + (WO (nu x)).length ≤ 1000 → 2 * (WO (nu x)).length ≤ u → BK b q S K P len f a ni j A J → MST N k0 nd nm ch A → A 47 = A47 → nlx q (A 2) (A 8) (A 9) = nl → F 4 = q → A 52 D = x → A 53 D = 0 → SM L F A → (L.length : Int) ≤ 9000 * k → (k ≤ 0 ↔ (L.length : Int) ≤ 0) →
    ∃ (F2 : Nat → Int) (A2 : Nat → Int → Int), hp_lp (gL_X11_writeOut_36 n 0) u (qz (D + 1), ms F A J) = hp_lp (gL_X11_writeOut_36 n 0) (u + 1 - 2 * (WO (nu x)).length) (qz D, ms F2 A2 J) ∧ (∀ i, i < D → A2 52 i = A 52 i) ∧ (∀ i, i < D → A2 53 i = A 53 i) ∧ SM (L ++ wtx nl k (WO (nu x))) F2 A2 ∧ ((L ++ wtx nl k (WO (nu x))).length : Int) ≤ 9000 * (k + (WO (nu x)).length) ∧ (k + ((WO (nu x)).length : Int) ≤ 0 ↔ ((L ++ wtx nl k (WO (nu x))).length : Int) ≤ 0) ∧ DG F A F2 A2 := by
  induction m with
  | zero => intro x D k L u F A x0 x1; omega
  | succ m ih =>
    intro x D k L u F A x0 x1 xN hm D0' Dx k1 kw uw G M e47 enl h4 e52 e53 hS hLk hL0
    have ew := wo_x D0 W x0 xN hm
    obtain ⟨p1, p2, p3, p4, p5, p6, p7⟩ := T x x0 xN
    have elen : ((WO (nu x)).length : Int) = (cat (fun t => WO (nu (ch x t))) (nd x).toNat).length + 1 := by
      rw [ew, List.length_append]; rfl
    have hmono : ∀ t r : Nat, (cat (fun t => WO (nu (ch x t))) t).length ≤ (cat (fun t => WO (nu (ch x t))) (t + r)).length := by
      intro t r
      induction r with
      | zero => exact Nat.le_refl _
      | succ r ihr =>
        show _ ≤ (cat (fun t => WO (nu (ch x t))) (t + r) ++ WO (nu (ch x ((t + r : Nat) : Int)))).length
        rw [List.length_append]; omega
    have key : ∀ t : Nat, (t : Int) ≤ nd x → ∃ (F3 : Nat → Int) (A3 : Nat → Int → Int), hp_lp (gL_X11_writeOut_36 n 0) u (qz (D + 1), ms F A J) = hp_lp (gL_X11_writeOut_36 n 0) (u - 2 * (cat (fun t => WO (nu (ch x t))) t).length) (qz (D + 1), ms F3 A3 J) ∧ (∀ i, i ≤ D → A3 52 i = A 52 i) ∧ (∀ i, i < D → A3 53 i = A 53 i) ∧ A3 53 D = t ∧ SM (L ++ wtx nl k (cat (fun t => WO (nu (ch x t))) t)) F3 A3 ∧ ((L ++ wtx nl k (cat (fun t => WO (nu (ch x t))) t)).length : Int) ≤ 9000 * (k + (cat (fun t => WO (nu (ch x t))) t).length) ∧ (k + ((cat (fun t => WO (nu (ch x t))) t).length : Int) ≤ 0 ↔ ((L ++ wtx nl k (cat (fun t => WO (nu (ch x t))) t)).length : Int) ≤ 0) ∧ DG F A F3 A3 := by
      intro t
      induction t with
      | zero =>
        intro _
        have e0 : (cat (fun t => WO (nu (ch x t))) 0).length = 0 := rfl
        have e1 : wtx nl k (cat (fun t => WO (nu (ch x t))) 0) = [] := rfl
        rw [e0, e1, List.append_nil]
        refine ⟨F, A, rfl, fun _ _ => rfl, fun _ _ => rfl, e53, hS, ?_, ?_, dg_0⟩
        · rw [show k + ((0 : Nat) : Int) = k by omega]; exact hLk
        · rw [show k + ((0 : Nat) : Int) = k by omega]; exact hL0
      | succ t iht =>
        intro t1
        obtain ⟨F3, A3, h1, h2, h3, h5, h6, h7, h8, h9⟩ := iht (by omega)
        clear iht
        have el : (cat (fun t => WO (nu (ch x t))) (t + 1)).length = (cat (fun t => WO (nu (ch x t))) t).length + (WO (nu (ch x t))).length := by
          show (cat (fun t => WO (nu (ch x t))) t ++ WO (nu (ch x t))).length = _
          rw [List.length_append]
        have et : cat (fun t => WO (nu (ch x t))) (t + 1) = cat (fun t => WO (nu (ch x t))) t ++ WO (nu (ch x t)) := rfl
        have hmo := hmono (t + 1) ((nd x).toNat - (t + 1))
        rw [show t + 1 + ((nd x).toNat - (t + 1)) = (nd x).toNat by omega] at hmo
        obtain ⟨q1, q2⟩ := p5 t (by omega) (by omega)
        obtain ⟨w1, w2, w3, w4⟩ := hA (ch x t) q1 (by omega)
        have M3 := dg_ms M h9
        obtain ⟨m1, m2, m3, m4, m5, m6⟩ := M3 x x0 xN
        have e47' : A3 47 = A47 := by rw [h9.2 47 (by decide) (by decide) (by decide)]; exact e47
        have em := m4 t (by omega) (by omega)
        rw [e47'] at em
        generalize ha4 : v2 (v2 (v2 A3 53 D (t + 1)) 52 (D + 1) (A47 (ch x t))) 53 (D + 1) 0 = A4
        have o52 : A4 52 = v1 (A3 52) (D + 1) (A47 (ch x t)) := by rw [← ha4, v2_o (by decide), v2_s, v2_o (by decide)]
        have o53 : A4 53 = v1 (v1 (A3 53) D (t + 1)) (D + 1) 0 := by rw [← ha4, v2_s, v2_o (by decide), v2_s]
        have ox : ∀ x, x ≠ 52 → x ≠ 53 → A4 x = A3 x := fun x x1 x2 => by rw [← ha4, v2_o x2, v2_o x1, v2_o x2]
        have F4 : DG F3 A3 F3 A4 := ⟨fun _ _ => rfl, fun x x1 x2 _ => ox x x1 x2⟩
        have eb : gL_X11_writeOut_36 n 0 (qz (D + 1), ms F3 A3 J) = some (.inl (qz (D + 1 + 1), ms F3 A4 J)) := by
          unfold gL_X11_writeOut_36 g_X11_writeOut_36 g_X11_writeOut_141
          simp only [zl0, zl1]
          rw [if_neg (by rw [qz_le (by omega) (by omega) (by omega) (by omega)]; omega), qz_sub, show D + 1 - 1 = D by omega, gp_74, ga_52 (by omega) (by omega), h2 D (Int.le_refl _), e52, bd_some, gp_75, ga_53 (by omega) (by omega), h5, bd_some, gp_66, ga_46 x0 (by omega), m1, bd_some, if_neg (by rw [qz_le (by omega) (by omega) (by omega) (by omega)]; omega), bd_some, qz_add, ua_53 (by omega) (by omega), bd_some, gp_65, ga_45 x0 (by omega), v2_o (by decide), bd_some, qz_add, gp_64, ga_44 (by omega) (by omega), v2_o (by decide), em, bd_some, gp_74, ua_52 (by omega) (by omega), bd_some, gp_75, ua_53 (by omega) (by omega), bd_some, qz_add, ha4]
        have h2l : (WO (nu (ch x t))).length = (WO (nu (A47 (ch x t)))).length := by rw [w4]
        obtain ⟨F5, A5, j1, j2, j3, j4, j5, j6, j7⟩ := ih (A47 (ch x t)) (D + 1) (k + (cat (fun t => WO (nu (ch x t))) t).length) (L ++ wtx nl k (cat (fun t => WO (nu (ch x t))) t)) (u - 2 * (cat (fun t => WO (nu (ch x t))) t).length - 1) F3 A4 w1 (by omega) (by omega) w3 (by omega) (by omega) (by omega) (by omega) (by omega) (dg_bk G (dg_t h9 F4)) (dg_ms M3 F4) (by rw [ox 47 (by decide) (by decide)]; exact e47') (by rw [ox 2 (by decide) (by decide), ox 8 (by decide) (by decide), ox 9 (by decide) (by decide), h9.2 2 (by decide) (by decide) (by decide), h9.2 8 (by decide) (by decide) (by decide), h9.2 9 (by decide) (by decide) (by decide)]; exact enl) (by rw [h9.1 4 (by decide)]; exact h4) (by rw [o52, v1_s]) (by rw [o53, v1_s]) (by
          unfold SM at h6 ⊢
          rw [ox 58 (by decide) (by decide)]
          exact h6) h7 h8
        rw [w4] at j1 j4 j5 j6
        rw [List.append_assoc, ← wtx_a, ← et] at j4 j5 j6
        refine ⟨F5, A5, ?_, fun i hi => ?_, fun i hi => ?_, ?_, j4, ?_, ?_, dg_t h9 (dg_t F4 j7)⟩
        · rw [h1, show u - 2 * (cat (fun t => WO (nu (ch x t))) t).length = u - 2 * (cat (fun t => WO (nu (ch x t))) t).length - 1 + 1 by omega, lp_st eb, j1, el, show u - 2 * (cat (fun t => WO (nu (ch x t))) t).length - 1 + 1 - 2 * (WO (nu (ch x t))).length = u - 2 * ((cat (fun t => WO (nu (ch x t))) t).length + (WO (nu (ch x t))).length) by omega]
        · rw [j2 i (by omega), o52, v1_o (by omega)]; exact h2 i hi
        · rw [j3 i (by omega), o53, v1_o (by omega), v1_o (by omega)]; exact h3 i hi
        · rw [j3 D (by omega), o53, v1_o (by omega), v1_s]; omega
        · rw [el]; omega
        · rw [el]
          rw [show k + (((cat (fun t => WO (nu (ch x t))) t).length + (WO (nu (ch x t))).length : Nat) : Int) = k + ((cat (fun t => WO (nu (ch x t))) t).length : Int) + ((WO (nu (ch x t))).length : Int) by omega]
          exact j6
    obtain ⟨F3, A3, h1, h2, h3, h5, h6, h7, h8, h9⟩ := key (nd x).toNat (by omega)
    clear key
    have M3 := dg_ms M h9
    obtain ⟨m1, m2, m3, m4, m5, m6⟩ := M3 x x0 xN
    obtain ⟨m7, m8⟩ := m5 hm
    have G3 := dg_bk G h9
    have enl3 : nlx q (A3 2) (A3 8) (A3 9) = nl := by rw [h9.2 2 (by decide) (by decide) (by decide), h9.2 8 (by decide) (by decide) (by decide), h9.2 9 (by decide) (by decide) (by decide)]; exact enl
    have eb0 : gL_X11_writeOut_36 n 0 (qz (D + 1), ms F3 A3 J) = if qz (F3 82) ≤ qz 0 then g_X11_writeOut_128 n 0 (qz (D + 1)) (qz x) (ms F3 A3 J) else (g_X11_say n 0 (qz 32) (ms F3 A3 J)).bind fun x7 => g_X11_writeOut_128 n 0 (qz (D + 1)) (qz x) x7 := by
      unfold gL_X11_writeOut_36 g_X11_writeOut_36
      simp only [zl0, zl1, zl32]
      rw [if_neg (by rw [qz_le (by omega) (by omega) (by omega) (by omega)]; omega), qz_sub, show D + 1 - 1 = D by omega, gp_74, ga_52 (by omega) (by omega), h2 D (Int.le_refl _), e52, bd_some, gp_75, ga_53 (by omega) (by omega), h5, bd_some, gp_66, ga_46 x0 (by omega), m1, bd_some, if_pos (by rw [qz_le (by omega) (by omega) (by omega) (by omega)]; omega), gf_ms]
    have e128 : ∀ (L' : List Int) (F5 : Nat → Int) (A5 : Nat → Int → Int), SM L' F5 A5 → DG F3 A3 F5 A5 → A5 52 = A3 52 → A5 53 = A3 53 → (L'.length : Int) < 900000000 → ∃ (F6 : Nat → Int) (A6 : Nat → Int → Int), g_X11_writeOut_128 n 0 (qz (D + 1)) (qz x) (ms F5 A5 J) = some (.inl (qz D, ms F6 A6 J)) ∧ SM (L' ++ nl (nm x)) F6 A6 ∧ DG F3 A3 F6 A6 ∧ A6 52 = A3 52 ∧ A6 53 = A3 53 := by
      intro L' F5 A5 w1 w2 w3 w4 w5
      have G5 := dg_bk G3 w2
      obtain ⟨F6, A6, z1, z2, z3, z4⟩ := m_name2 (n := n) (F := F5) (k := nm x) hn hq (by rw [w2.1 4 (by decide), h9.1 4 (by decide)]; exact h4) G5 hm (by omega) w5 w1
      rw [w2.2 2 (by decide) (by decide) (by decide), w2.2 8 (by decide) (by decide) (by decide), w2.2 9 (by decide) (by decide) (by decide), enl3] at z2
      refine ⟨F6, A6, ?_, z2, ⟨fun x x1 => by rw [z3 x x1]; exact w2.1 x x1, fun x x1 x2 x3 => by rw [z4 x x3]; exact w2.2 x x1 x2 x3⟩, by rw [z4 _ (by decide)]; exact w3, by rw [z4 _ (by decide)]; exact w4⟩
      unfold g_X11_writeOut_128 g_X11_writeOut_141
      simp only [zlm1]
      rw [gp_49, ga_34 x0 (by omega), w2.2 34 (by decide) (by decide) (by decide), m7, bd_some, z1, bd_some, qz_add, show D + 1 + -1 = D by omega]
    have hnl := nlx_l G3 hm (by omega : nm x < K)
    rw [enl3] at hnl
    have ewt : wtx nl k (WO (nu x)) = wtx nl k (cat (fun t => WO (nu (ch x t))) (nd x).toNat) ++ ((if k + ((cat (fun t => WO (nu (ch x t))) (nd x).toNat).length : Int) ≤ 0 then [] else [32]) ++ nl (nm x)) := by
      rw [ew, wtx_a]
      show _ ++ ((if k + ((cat (fun t => WO (nu (ch x t))) (nd x).toNat).length : Int) ≤ 0 then [] else [32]) ++ nl (nm x) ++ []) = _
      rw [List.append_nil]
    have fin : ∀ (F6 : Nat → Int) (A6 : Nat → Int → Int), gL_X11_writeOut_36 n 0 (qz (D + 1), ms F3 A3 J) = some (.inl (qz D, ms F6 A6 J)) → SM (L ++ wtx nl k (WO (nu x))) F6 A6 → DG F3 A3 F6 A6 → A6 52 = A3 52 → A6 53 = A3 53 → ∃ (F2 : Nat → Int) (A2 : Nat → Int → Int), hp_lp (gL_X11_writeOut_36 n 0) u (qz (D + 1), ms F A J) = hp_lp (gL_X11_writeOut_36 n 0) (u + 1 - 2 * (WO (nu x)).length) (qz D, ms F2 A2 J) ∧ (∀ i, i < D → A2 52 i = A 52 i) ∧ (∀ i, i < D → A2 53 i = A 53 i) ∧ SM (L ++ wtx nl k (WO (nu x))) F2 A2 ∧ ((L ++ wtx nl k (WO (nu x))).length : Int) ≤ 9000 * (k + (WO (nu x)).length) ∧ (k + ((WO (nu x)).length : Int) ≤ 0 ↔ ((L ++ wtx nl k (WO (nu x))).length : Int) ≤ 0) ∧ DG F A F2 A2 := by
      intro F6 A6 z1 z2 z3 z4 z5
      have hb2 : ((if k + ((cat (fun t => WO (nu (ch x t))) (nd x).toNat).length : Int) ≤ 0 then ([] : List Int) else [32]).length : Int) ≤ 1 := by
        split
        · decide
        · decide
      have elx : ((L ++ wtx nl k (WO (nu x))).length : Int) = ((L ++ wtx nl k (cat (fun t => WO (nu (ch x t))) (nd x).toNat)).length : Int) + ((if k + ((cat (fun t => WO (nu (ch x t))) (nd x).toNat).length : Int) ≤ 0 then ([] : List Int) else [32]).length : Int) + (nl (nm x)).length := by
        rw [ewt, ← List.append_assoc, List.length_append, List.length_append (bs := nl (nm x))]
        omega
      refine ⟨F6, A6, ?_, fun i hi => ?_, fun i hi => ?_, z2, ?_, ?_, dg_t h9 z3⟩
      · rw [h1, show u - 2 * (cat (fun t => WO (nu (ch x t))) (nd x).toNat).length = u - 2 * (cat (fun t => WO (nu (ch x t))) (nd x).toNat).length - 1 + 1 by omega, lp_st z1, show u - 2 * (cat (fun t => WO (nu (ch x t))) (nd x).toNat).length - 1 = u + 1 - 2 * (WO (nu x)).length by omega]
      · rw [z4]; exact h2 i (by omega)
      · rw [z5]; exact h3 i hi
      · rw [elx, elen]; omega
      · rw [elx, elen]; omega
    by_cases ck : k + ((cat (fun t => WO (nu (ch x t))) (nd x).toNat).length : Int) ≤ 0
    · have hl0 := h8.mp ck
      rw [if_pos (by rw [h6.1, qz_le (by omega) (by omega) (by omega) (by omega)]; exact hl0)] at eb0
      obtain ⟨F6, A6, z1, z2, z3, z4, z5⟩ := e128 _ F3 A3 h6 dg_0 rfl rfl (by omega)
      refine fin F6 A6 (by rw [eb0]; exact z1) ?_ z3 z4 z5
      rw [ewt, if_pos ck, List.nil_append, ← List.append_assoc]
      exact z2
    · have hl0 : ¬((L ++ wtx nl k (cat (fun t => WO (nu (ch x t))) (nd x).toNat)).length : Int) ≤ 0 := fun h => ck (h8.mpr h)
      rw [if_neg (by rw [h6.1, qz_le (by omega) (by omega) (by omega) (by omega)]; exact hl0)] at eb0
      obtain ⟨F5, A5, w1, w2, w3, w4⟩ := m_say2 (n := n) (v := 32) (J := J) (by omega) h6
      rw [w1, bd_some] at eb0
      obtain ⟨F6, A6, z1, z2, z3, z4, z5⟩ := e128 _ F5 A5 w2 ⟨w3, fun x x1 x2 x3 => w4 x x3⟩ (w4 52 (by decide)) (w4 53 (by decide)) (by rw [List.length_append]; show ((_ + 1 : Nat) : Int) < _; omega)
      refine fin F6 A6 (by rw [eb0]; exact z1) ?_ z3 z4 z5
      rw [ewt, if_neg ck, ← List.append_assoc, ← List.append_assoc]
      exact z2
end WOM
