/-! A proof is told in letters: the reference writes the letters -/
section CPO
variable {n b : Nat} {q S K P len c k own li : Int} {can sz usf lab ln0 lnn : Int → Int} {EVR : List Int} {f : Nat → Nat → Int} {a : Nat → Int → Int} {ni : Nat → Nat} {j : Nat → Int → Int64} {J : Nat → Int → Int64}
theorem m_out (hn : 100000 ≤ n) (hbq : bq b q) (h0 : 0 ≤ k) (h1 : k < K) (O : OWN b k a ln0) (ow0 : 0 ≤ own) (ow1 : own ≤ 200) (li0 : 0 ≤ li) (li1 : li ≤ 1000) (hor : ∀ x, 0 ≤ x → x < 200 → 0 ≤ ln0 x ∧ ln0 x ≤ own) (c1 : c ≤ 1000) (hcan : ∀ i, 0 ≤ i → i < c → 0 ≤ can i ∧ can i < 1000) (hinj : ∀ i y, 0 ≤ i → i < c → 0 ≤ y → y < c → can i = can y → i = y) (hlb : ∀ i, 0 ≤ i → i < c → 0 ≤ lab i ∧ lab i < 200 ∧ 1 ≤ lnn (lab i) ∧ lnn (lab i) ≤ 3000) (hRZ : ∀ i, 0 ≤ i → 1000 + i ∈ EVR → 1 ≤ sz i ∧ 2 ≤ usf i) (l : List Int) : ∀ (m t nb : Int) (nn : Int → Int) (L : List Int) (u : Nat) (F : Nat → Int) (A : Nat → Int → Int), gd m l c → 0 ≤ m → 0 ≤ t → t + l.length ≤ 2000 → l.length < u → (∀ e, e ∈ l → e ∈ EVR) → own + li ≤ nb → nb + l.length ≤ 3000 → (L.length : Int) + 10 * l.length ≤ 100000000 → BK b q S K P len f a ni j A J → F 4 = q → F 85 = t + l.length → ats (A 60) t (l.map (tcd can)) → (∀ i, 0 ≤ i → i < c → A 34 (can i) = lab i) → (∀ x, 0 ≤ x → x < 200 → lnn x = if ln0 x = 0 then A 56 x else ln0 x) → (∀ i, 0 ≤ i → i < c → opq (2 ≤ A 54 (can i) ↔ 1 ≤ sz i ∧ 2 ≤ usf i) ∧ 0 ≤ A 54 (can i) ∧ A 54 (can i) ≤ 100000) → (∀ i, 0 ≤ i → i < c → A 55 (can i) = nn i) → DI c sz usf m nn nb → SM L F A →
    ∃ (F2 : Nat → Int) (A2 : Nat → Int → Int), hp_lp (gL_X11_compressed_165 n 0 (qz k) (qz own) (qz li)) u (qz (nb - own - li), qz t, ms F A J) = some (ms F2 A2 J) ∧ SM (l.foldl (oe sz usf lnn lab) (nn, nb, L)).2.2 F2 A2 ∧ (∀ x, x ≠ 82 → F2 x = F x) ∧ ∀ x, x ≠ 52 → x ≠ 55 → x ≠ 58 → A2 x = A x := by
  induction l with
  | nil =>
    intro m t nb nn L u F A hg m0 t0 t1 hu hsub nb0 nb1 hLl G h4 h85 hat h34 hR hZ h55 hDI hS
    obtain ⟨u, rfl⟩ : ∃ k, u = k + 1 := ⟨u - 1, by omega⟩
    refine ⟨F, A, ?_, hS, fun _ _ => rfl, fun _ _ _ _ => rfl⟩
    apply hp_lp_x
    unfold gL_X11_compressed_165 g_X11_compressed_165
    have hl0 : (([] : List Int).length : Int) = 0 := rfl
    rw [gf_ms, h85, if_pos (by rw [qz_le (by omega) (by omega) (by omega) (by omega)]; omega)]
  | cons e es ih =>
    intro m t nb nn L u F A hg m0 t0 t1 hu hsub nb0 nb1 hLl G h4 h85 hat h34 hR hZ h55 hDI hS
    obtain ⟨u, rfl⟩ : ∃ k, u = k + 1 := ⟨u - 1, by omega⟩
    have hl : ((e :: es).length : Int) = es.length + 1 := rfl
    have hln : (e :: es).length = es.length + 1 := rfl
    obtain ⟨hat1, hat2⟩ := hat
    have hsub' : ∀ e', e' ∈ es → e' ∈ EVR := fun e' he => hsub e' (List.mem_cons_of_mem _ he)
    have hmc : m ≤ c := gd_le _ hg
    show ∃ (F2 : Nat → Int) (A2 : Nat → Int → Int), hp_lp (gL_X11_compressed_165 n 0 (qz k) (qz own) (qz li)) (u + 1) (qz (nb - own - li), qz t, ms F A J) = some (ms F2 A2 J) ∧ SM (es.foldl (oe sz usf lnn lab) (oe sz usf lnn lab (nn, nb, L) e)).2.2 F2 A2 ∧ (∀ x, x ≠ 82 → F2 x = F x) ∧ ∀ x, x ≠ 52 → x ≠ 55 → x ≠ 58 → A2 x = A x
    -- a node is left
    have leave : ∀ m', 0 ≤ e → e < c → e < 1000 → gd m' es c → m ≤ m' → (∀ i, i < m' ↔ i < m ∨ (i < m' ∧ i = e)) → e < m' → ∃ (F2 : Nat → Int) (A2 : Nat → Int → Int), hp_lp (gL_X11_compressed_165 n 0 (qz k) (qz own) (qz li)) (u + 1) (qz (nb - own - li), qz t, ms F A J) = some (ms F2 A2 J) ∧ SM (es.foldl (oe sz usf lnn lab) (oe sz usf lnn lab (nn, nb, L) e)).2.2 F2 A2 ∧ (∀ x, x ≠ 82 → F2 x = F x) ∧ ∀ x, x ≠ 52 → x ≠ 55 → x ≠ 58 → A2 x = A x := by
      intro m' e0 ec e1 hg' mm hmm em
      obtain ⟨k1, k2⟩ := hcan e e0 ec
      obtain ⟨q1, q2, q3, q4⟩ := hlb e e0 ec
      obtain ⟨z1, z2, z3⟩ := hZ e e0 ec
      have z1' : 2 ≤ A 54 (can e) ↔ 1 ≤ sz e ∧ 2 ≤ usf e := z1
      have he : A 60 t = can e := by
        rw [hat1]
        unfold tcd
        rw [if_pos e1]
      have hor' := hor _ q1 q2
      have hRe := hR _ q1 q2
      obtain ⟨F3, A3, w1, w2, w3, w4⟩ := m_sayNum (n := n) (F := F) (A := A) (J := J) (L := L) (z := lnn (lab e)) hn q3 q4 (by omega) hS
      have eb : gL_X11_compressed_165 n 0 (qz k) (qz own) (qz li) (qz (nb - own - li), qz t, ms F A J) = if qz (A 54 (can e)) ≤ qz 1 then some (.inl (qz (nb - own - li), qz (t + 1), ms F3 A3 J)) else (uA 0 (ms F3 A3 J) 55 (qz (can e)) (qz (nb + 1))).bind fun w5 => (g_X11_say n 0 (qz 90) w5).bind fun x6 => some (.inl (qz (nb + 1 - own - li), qz (t + 1), x6)) := by
        unfold gL_X11_compressed_165 g_X11_compressed_165 g_X11_compressed_251 g_X11_compressed_288
        simp only [zl0, zl1, zl90, zl1000]
        rw [gf_ms, h85, if_neg (by rw [qz_le (by omega) (by omega) (by omega) (by omega)]; omega), gp_84, ga_60 t0 (by omega), he, bd_some, bd_some, if_pos (by rw [qz_lt (by omega) (by omega) (by omega) (by omega)]; omega), qz_div (by omega) (by omega) (by omega) (by omega), qz_mul, qz_sub, show can e - can e / 1000 * 1000 = can e by omega, gp_49, ga_34 k1 k2, h34 e e0 ec, bd_some, m_indexOf hn G hbq h4 h0 h1 O q1 q2, bd_some, bd_some, gp_78, ga_56 q1 q2, bd_some]
        have e5 : ∀ X : Int, X = lnn (lab e) → (g_X11_sayNumber n 0 (qz X) (ms F A J)) = some (ms F3 A3 J) := fun X hX => by rw [hX]; exact w1
        have e54 : A3 54 = A 54 := w4 54 (by decide) (by decide)
        by_cases y : ln0 (lab e) = 0
        · rw [if_pos y] at hRe
          rw [if_pos (by rw [qz_le (by omega) (by omega) (by omega) (by omega)]; omega), e5 _ hRe.symm, bd_some, gp_76, ga_54 k1 k2, e54, bd_some, gp_77, qz_add, qz_add, qz_add, qz_add, show own + li + (nb - own - li + 1) = nb + 1 by omega, show nb - own - li + 1 = nb + 1 - own - li by omega]
        · rw [if_neg y] at hRe
          rw [if_neg (by rw [qz_le (by omega) (by omega) (by omega) (by omega)]; omega), e5 _ hRe.symm, bd_some, gp_76, ga_54 k1 k2, e54, bd_some, gp_77, qz_add, qz_add, qz_add, qz_add, show own + li + (nb - own - li + 1) = nb + 1 by omega, show nb - own - li + 1 = nb + 1 - own - li by omega]
      have hnl := num_l (z := lnn (lab e))
      by_cases z : 1 ≤ sz e ∧ 2 ≤ usf e
      · have hz2 := z1'.mpr z
        rw [if_neg (by rw [qz_le (by omega) (by omega) (by omega) (by omega)]; omega), ua_55 k1 k2, bd_some] at eb
        obtain ⟨F4, A4, x1, x2, x3, x4⟩ := m_say2 (n := n) (v := 90) (J := J) (F := F3) (A := v2 A3 55 (can e) (nb + 1)) (L := L ++ num (lnn (lab e))) (by rw [List.length_append]; omega) (by
          unfold SM at w2 ⊢
          rw [v2_o (by decide)]
          exact w2)
        rw [x1, bd_some] at eb
        have eo : oe sz usf lnn lab (nn, nb, L) e = (v1 nn e (nb + 1), nb + 1, L ++ num (lnn (lab e)) ++ [90]) := by
          unfold oe
          rw [if_pos e1, if_pos z]
        have eF : ∀ x, x ≠ 82 → F4 x = F x := fun x hx => by rw [x3 x hx, w3 x hx]
        have eA : ∀ x, x ≠ 52 → x ≠ 55 → x ≠ 58 → A4 x = A x := fun x a1 a2 a3 => by rw [x4 x a3, v2_o a2, w4 x a3 a1]
        have e55 : A4 55 = v1 (A 55) (can e) (nb + 1) := by rw [x4 55 (by decide), v2_s, w4 55 (by decide) (by decide)]
        rw [eo]
        obtain ⟨F2, A2, i1, i2, i3, i4⟩ := ih m' (t + 1) (nb + 1) (v1 nn e (nb + 1)) (L ++ num (lnn (lab e)) ++ [90]) u F4 A4 hg' (by omega) (by omega) (by omega) (by omega) hsub' (by omega) (by omega) (by rw [List.length_append, List.length_append]; show ((L.length + (num (lnn (lab e))).length + 1 : Nat) : Int) + _ ≤ _; omega) (bk_eq G (fun _ _ _ => rfl) (fun _ _ _ => rfl) (fun _ _ _ => rfl) rfl (fun x x1 x2 => eA x (by omega) (by omega) (by omega)) ⟨rfl, rfl⟩) (by rw [eF 4 (by decide)]; exact h4) (by rw [eF 85 (by decide)]; omega) (by rw [eA 60 (by decide) (by decide) (by decide)]; exact hat2) (by rw [eA 34 (by decide) (by decide) (by decide)]; exact h34) (by rw [eA 56 (by decide) (by decide) (by decide)]; exact hR) (by rw [eA 54 (by decide) (by decide) (by decide)]; exact hZ) (by
          intro i i0 i1
          rw [e55]
          by_cases w : i = e
          · rw [w, v1_s, v1_s]
          · rw [v1_o w, v1_o (fun h => w (hinj i e i0 i1 e0 ec h))]
            exact h55 i i0 i1) (by
          intro i i0 i1
          obtain ⟨d1, d2, d3⟩ := hDI i i0 i1
          by_cases w : i = e
          · rw [w, v1_s]
            exact ⟨⟨fun _ => ⟨em, z.1, z.2⟩, fun _ => by omega⟩, by omega, by omega⟩
          · rw [v1_o w]
            refine ⟨⟨fun h => ?_, fun h => ?_⟩, d2, by omega⟩
            · obtain ⟨r1, r2, r3⟩ := d1.mp h
              exact ⟨by omega, r2, r3⟩
            · refine d1.mpr ⟨?_, h.2.1, h.2.2⟩
              rcases (hmm i).mp h.1 with g | g
              · exact g
              · exact absurd g.2 w) x2
        refine ⟨F2, A2, by rw [lp_st eb, i1], i2, fun x hx => by rw [i3 x hx]; exact eF x hx, fun x a1 a2 a3 => by rw [i4 x a1 a2 a3]; exact eA x a1 a2 a3⟩
      · have hz2 : ¬2 ≤ A 54 (can e) := fun h => z (z1'.mp h)
        rw [if_pos (by rw [qz_le (by omega) (by omega) (by omega) (by omega)]; omega)] at eb
        have eo : oe sz usf lnn lab (nn, nb, L) e = (nn, nb, L ++ num (lnn (lab e))) := by
          unfold oe
          rw [if_pos e1, if_neg z]
        rw [eo]
        have eA : ∀ x, x ≠ 52 → x ≠ 55 → x ≠ 58 → A3 x = A x := fun x a1 a2 a3 => w4 x a3 a1
        obtain ⟨F2, A2, i1, i2, i3, i4⟩ := ih m' (t + 1) nb nn (L ++ num (lnn (lab e))) u F3 A3 hg' (by omega) (by omega) (by omega) (by omega) hsub' (by omega) (by omega) (by rw [List.length_append]; omega) (bk_eq G (fun _ _ _ => rfl) (fun _ _ _ => rfl) (fun _ _ _ => rfl) rfl (fun x x1 x2 => eA x (by omega) (by omega) (by omega)) ⟨rfl, rfl⟩) (by rw [w3 4 (by decide)]; exact h4) (by rw [w3 85 (by decide)]; omega) (by rw [eA 60 (by decide) (by decide) (by decide)]; exact hat2) (by rw [eA 34 (by decide) (by decide) (by decide)]; exact h34) (by rw [eA 56 (by decide) (by decide) (by decide)]; exact hR) (by rw [eA 54 (by decide) (by decide) (by decide)]; exact hZ) (by rw [w4 55 (by decide) (by decide)]; exact h55) (by
          intro i i0 i1
          obtain ⟨d1, d2, d3⟩ := hDI i i0 i1
          refine ⟨⟨fun h => ?_, fun h => ?_⟩, d2, d3⟩
          · obtain ⟨r1, r2, r3⟩ := d1.mp h
            exact ⟨by omega, r2, r3⟩
          · refine d1.mpr ⟨?_, h.2.1, h.2.2⟩
            rcases (hmm i).mp h.1 with g | g
            · exact g
            · rw [g.2] at h
              exact absurd ⟨h.2.1, h.2.2⟩ z) w2
        refine ⟨F2, A2, by rw [lp_st eb, i1], i2, fun x hx => by rw [i3 x hx]; exact w3 x hx, fun x a1 a2 a3 => by rw [i4 x a1 a2 a3]; exact eA x a1 a2 a3⟩
    rcases hg with ⟨z0, z1, z2, z3⟩ | ⟨z1, z2, z3⟩ | ⟨z0, z1, z2⟩
    · exact leave m z0 (by omega) z2 z3 (Int.le_refl _) (fun i => ⟨fun h => Or.inl h, fun h => h.elim (fun g => g) (fun g => g.1)⟩) z1
    · have hmc' := gd_le _ z3
      refine leave (m + 1) (by omega) (by omega) z2 z3 (by omega) (fun i => ⟨fun h => ?_, fun h => ?_⟩) (by omega)
      · by_cases y : i = e
        · exact Or.inr ⟨h, y⟩
        · exact Or.inl (by omega)
      · rcases h with g | g
        · omega
        · exact g.1
    · -- come to again
      obtain ⟨k1, k2⟩ := hcan (e - 1000) (by omega) (by omega)
      have hrz := hRZ (e - 1000) (by omega) (by rw [show 1000 + (e - 1000) = e by omega]; exact hsub e List.mem_cons_self)
      obtain ⟨d1, d2, d3⟩ := hDI (e - 1000) (by omega) (by omega)
      have hnn := d1.mpr ⟨z1, hrz.1, hrz.2⟩
      have he : A 60 t = 1000 + can (e - 1000) := by
        rw [hat1]
        unfold tcd
        rw [if_neg (by omega)]
      obtain ⟨F3, A3, w1, w2, w3, w4⟩ := m_sayNum (n := n) (F := F) (A := A) (J := J) (L := L) (z := nn (e - 1000)) hn hnn (by omega) (by omega) hS
      have hnl := num_l (z := nn (e - 1000))
      have eb : gL_X11_compressed_165 n 0 (qz k) (qz own) (qz li) (qz (nb - own - li), qz t, ms F A J) = some (.inl (qz (nb - own - li), qz (t + 1), ms F3 A3 J)) := by
        unfold gL_X11_compressed_165 g_X11_compressed_165 g_X11_compressed_288
        simp only [zl1, zl1000]
        rw [gf_ms, h85, if_neg (by rw [qz_le (by omega) (by omega) (by omega) (by omega)]; omega), gp_84, ga_60 t0 (by omega), he, bd_some, bd_some, if_neg (by rw [qz_lt (by omega) (by omega) (by omega) (by omega)]; omega), qz_div (by omega) (by omega) (by omega) (by omega), qz_mul, qz_sub, show 1000 + can (e - 1000) - (1000 + can (e - 1000)) / 1000 * 1000 = can (e - 1000) by omega, gp_77, ga_55 k1 k2, h55 _ (by omega) (by omega), bd_some, w1, bd_some, qz_add]
      have eo : oe sz usf lnn lab (nn, nb, L) e = (nn, nb, L ++ num (nn (e - 1000))) := by
        unfold oe
        rw [if_neg (by omega)]
      rw [eo]
      have eA : ∀ x, x ≠ 52 → x ≠ 55 → x ≠ 58 → A3 x = A x := fun x a1 a2 a3 => w4 x a3 a1
      obtain ⟨F2, A2, i1, i2, i3, i4⟩ := ih m (t + 1) nb nn (L ++ num (nn (e - 1000))) u F3 A3 z2 (by omega) (by omega) (by omega) (by omega) hsub' (by omega) (by omega) (by rw [List.length_append]; omega) (bk_eq G (fun _ _ _ => rfl) (fun _ _ _ => rfl) (fun _ _ _ => rfl) rfl (fun x x1 x2 => eA x (by omega) (by omega) (by omega)) ⟨rfl, rfl⟩) (by rw [w3 4 (by decide)]; exact h4) (by rw [w3 85 (by decide)]; omega) (by rw [eA 60 (by decide) (by decide) (by decide)]; exact hat2) (by rw [eA 34 (by decide) (by decide) (by decide)]; exact h34) (by rw [eA 56 (by decide) (by decide) (by decide)]; exact hR) (by rw [eA 54 (by decide) (by decide) (by decide)]; exact hZ) (by rw [w4 55 (by decide) (by decide)]; exact h55) hDI w2
      refine ⟨F2, A2, by rw [lp_st eb, i1], i2, fun x hx => by rw [i3 x hx]; exact w3 x hx, fun x a1 a2 a3 => by rw [i4 x a1 a2 a3]; exact eA x a1 a2 a3⟩
end CPO
