/-! A proof is told in letters: the reference writes -/
section CPM
variable {n b : Nat} {q S K P len N c k k0 own nb0 : Int} {nd nm nu can cn lo sz usf lab ln0 lnn : Int → Int} {ch : Int → Int → Int} {EV : Int → List Int} {EVR L0 : List Int} {nl : Int → List Int} {f : Nat → Nat → Int} {a : Nat → Int → Int} {ni : Nat → Nat} {j : Nat → Int → Int64} {F F2 : Nat → Int} {A A2 : Nat → Int → Int} {J : Nat → Int → Int64}
def DK (F : Nat → Int) (A : Nat → Int → Int) (F2 : Nat → Int) (A2 : Nat → Int → Int) : Prop := (∀ x, x ≠ 82 → F2 x = F x) ∧ ∀ x, x ≠ 52 → x ≠ 55 → x ≠ 56 → x ≠ 58 → A2 x = A x
theorem dk_t {F3 : Nat → Int} {A3 : Nat → Int → Int} (h : DK F A F2 A2) (h2 : DK F2 A2 F3 A3) : DK F A F3 A3 := ⟨fun x x1 => (h2.1 x x1).trans (h.1 x x1), fun x x1 x2 x3 x4 => (h2.2 x x1 x2 x3 x4).trans (h.2 x x1 x2 x3 x4)⟩
theorem dk_bk (G : BK b q S K P len f a ni j A J) (h : DK F A F2 A2) : BK b q S K P len f a ni j A2 J := bk_eq G (fun _ _ _ => rfl) (fun _ _ _ => rfl) (fun _ _ _ => rfl) rfl (fun x x1 x2 => h.2 x (by omega) (by omega) (by omega) (by omega)) ⟨rfl, rfl⟩
theorem m_lst (hn : 100000 ≤ n) (hbq : bq b q) (h0 : 0 ≤ k) (h1 : k < K) (O : OWN b k a ln0) (ow0 : 0 ≤ own) (ow1 : own ≤ 200) (hor : ∀ x, 0 ≤ x → x < 200 → 0 ≤ ln0 x ∧ ln0 x ≤ own) (c1 : c ≤ 1000) (hL0 : (L0.length : Int) ≤ 10) (hcan : ∀ i, 0 ≤ i → i < c → 0 ≤ can i ∧ can i < 1000) (hlb : ∀ i, 0 ≤ i → i < c → 0 ≤ lab i ∧ lab i < 200 ∧ lab i < K ∧ ((nl (lab i)).length : Int) ≤ 8192) (l : List Int) : ∀ (m t : Int) (u : Nat) (F : Nat → Int) (A : Nat → Int → Int), gd m l c → 0 ≤ m → 0 ≤ t → t + l.length ≤ 2000 → l.length < u → BK b q S K P len f a ni j A J → F 4 = q → nlx q (A 2) (A 8) (A 9) = nl → F 85 = t + l.length → ats (A 60) t (l.map (tcd can)) → (∀ i, 0 ≤ i → i < c → A 34 (can i) = lab i) → (∀ x, 0 ≤ x → x < 200 → (lst nl lab (ln0, own, L0) m.toNat).1 x = if ln0 x = 0 then A 56 x else ln0 x) → SM (lst nl lab (ln0, own, L0) m.toNat).2.2 F A →
    ∃ (F2 : Nat → Int) (A2 : Nat → Int → Int), hp_lp (gL_X11_compressed_59 n 0 (qz k) (qz own)) u (qz ((lst nl lab (ln0, own, L0) m.toNat).2.1 - own), qz t, ms F A J) = some (qz ((lst nl lab (ln0, own, L0) c.toNat).2.1 - own), ms F2 A2 J) ∧ SM (lst nl lab (ln0, own, L0) c.toNat).2.2 F2 A2 ∧ (∀ x, 0 ≤ x → x < 200 → (lst nl lab (ln0, own, L0) c.toNat).1 x = if ln0 x = 0 then A2 56 x else ln0 x) ∧ (∀ x, x ≠ 82 → F2 x = F x) ∧ ∀ x, x ≠ 56 → x ≠ 58 → A2 x = A x := by
  induction l with
  | nil =>
    intro m t u F A hg m0 t0 t1 hu G h4 enl h85 hat h34 hR hS
    have em : m = c := hg
    obtain ⟨u, rfl⟩ : ∃ k, u = k + 1 := ⟨u - 1, by omega⟩
    rw [em] at hR hS ⊢
    refine ⟨F, A, ?_, hS, hR, fun _ _ => rfl, fun _ _ _ => rfl⟩
    apply hp_lp_x
    unfold gL_X11_compressed_59 g_X11_compressed_59
    have hl0 : (([] : List Int).length : Int) = 0 := rfl
    rw [gf_ms, h85, if_pos (by rw [qz_le (by omega) (by omega) (by omega) (by omega)]; omega)]
  | cons e es ih =>
    intro m t u F A hg m0 t0 t1 hu G h4 enl h85 hat h34 hR hS
    obtain ⟨u, rfl⟩ : ∃ k, u = k + 1 := ⟨u - 1, by omega⟩
    have hl : ((e :: es).length : Int) = es.length + 1 := rfl
    have hln : (e :: es).length = es.length + 1 := rfl
    obtain ⟨hat1, hat2⟩ := hat
    have hmc : m ≤ c := gd_le _ hg
    obtain ⟨p1, p2, p3, p4, p5⟩ := lst_p (nl := nl) (L0 := L0) (c := c) hor ow0 (fun y y0 y1 => by
      obtain ⟨q1, q2, q3, q4⟩ := hlb y y0 y1
      exact ⟨q1, q2, q4⟩) m.toNat (by omega)
    rw [show ((m.toNat : Nat) : Int) = m by omega] at p2 p4 p5
    -- what the turn does at a node that is left
    have eb0 : ∀ y, 0 ≤ y → y < c → A 60 t = can y → gL_X11_compressed_59 n 0 (qz k) (qz own) (qz ((lst nl lab (ln0, own, L0) m.toNat).2.1 - own), qz t, ms F A J) = if qz (ln0 (lab y)) = qz 0 then if qz (A 56 (lab y)) = qz 0 then (uA 0 (ms F A J) 56 (qz (lab y)) (qz (own + ((lst nl lab (ln0, own, L0) m.toNat).2.1 - own + 1)))).bind fun w11 => (g_X11_sayLabel n 0 (qz (lab y)) w11).bind fun x12 => (g_X11_say n 0 (qz 32) x12).bind fun x13 => some (.inl (qz ((lst nl lab (ln0, own, L0) m.toNat).2.1 - own + 1), qz (t + 1), x13)) else some (.inl (qz ((lst nl lab (ln0, own, L0) m.toNat).2.1 - own), qz (t + 1), ms F A J)) else some (.inl (qz ((lst nl lab (ln0, own, L0) m.toNat).2.1 - own), qz (t + 1), ms F A J)) := by
      intro y y0 y1 ey
      obtain ⟨k1, k2⟩ := hcan y y0 y1
      obtain ⟨q1, q2, _⟩ := hlb y y0 y1
      unfold gL_X11_compressed_59 g_X11_compressed_59 g_X11_compressed_141
      simp only [zl0, zl1, zl32, zl1000]
      rw [gf_ms, h85, if_neg (by rw [qz_le (by omega) (by omega) (by omega) (by omega)]; omega), gp_84, ga_60 t0 (by omega), ey, bd_some, if_neg (by rw [qz_le (by omega) (by omega) (by omega) (by omega)]; omega), bd_some, gp_49, ga_34 k1 k2, h34 y y0 y1, bd_some, m_indexOf hn G hbq h4 h0 h1 O q1 q2, bd_some, gp_78, ga_56 q1 q2, bd_some, qz_add, qz_add, qz_add]
    -- nothing to do
    have skip : gL_X11_compressed_59 n 0 (qz k) (qz own) (qz ((lst nl lab (ln0, own, L0) m.toNat).2.1 - own), qz t, ms F A J) = some (.inl (qz ((lst nl lab (ln0, own, L0) m.toNat).2.1 - own), qz (t + 1), ms F A J)) → ∀ m', gd m' es c → m ≤ m' → lst nl lab (ln0, own, L0) m'.toNat = lst nl lab (ln0, own, L0) m.toNat → ∃ (F2 : Nat → Int) (A2 : Nat → Int → Int), hp_lp (gL_X11_compressed_59 n 0 (qz k) (qz own)) (u + 1) (qz ((lst nl lab (ln0, own, L0) m.toNat).2.1 - own), qz t, ms F A J) = some (qz ((lst nl lab (ln0, own, L0) c.toNat).2.1 - own), ms F2 A2 J) ∧ SM (lst nl lab (ln0, own, L0) c.toNat).2.2 F2 A2 ∧ (∀ x, 0 ≤ x → x < 200 → (lst nl lab (ln0, own, L0) c.toNat).1 x = if ln0 x = 0 then A2 56 x else ln0 x) ∧ (∀ x, x ≠ 82 → F2 x = F x) ∧ ∀ x, x ≠ 56 → x ≠ 58 → A2 x = A x := by
      intro eb m' hg' mm el
      obtain ⟨F2, A2, i1, i2⟩ := ih m' (t + 1) u F A hg' (by omega) (by omega) (by omega) (by omega) G h4 enl (by omega) hat2 h34 (by rw [el]; exact hR) (by rw [el]; exact hS)
      refine ⟨F2, A2, ?_, i2⟩
      rw [lp_st eb, ← i1, el]
    rcases hg with ⟨z0, z1, z2, z3⟩ | ⟨z1, z2, z3⟩ | ⟨z0, z1, z2⟩
    · -- left anew
      refine skip ?_ m z3 (Int.le_refl _) rfl
      have he : A 60 t = can e := by
        rw [hat1]
        unfold tcd
        rw [if_pos z2]
      rw [eb0 e z0 (by omega) he]
      obtain ⟨q1, q2, _⟩ := hlb e z0 (by omega)
      have hne := p4 e z0 z1
      rw [hR _ q1 q2] at hne
      have hp3 := p3 _ q1 q2
      rw [hR _ q1 q2] at hp3
      have hor' := hor _ q1 q2
      by_cases y : ln0 (lab e) = 0
      · rw [if_pos y] at hne hp3
        rw [if_pos (by rw [y]), if_neg (by rw [qz_inj (by omega) (by omega) (by omega) (by omega)]; omega)]
      · rw [if_neg (by rw [qz_inj (by omega) (by omega) (by omega) (by omega)]; exact y)]
    · -- the next node
      have hmc' : m + 1 ≤ c := gd_le _ z3
      have he : A 60 t = can m := by
        rw [hat1, z1]
        unfold tcd
        rw [if_pos (by omega)]
      have eb := eb0 m m0 (by omega) he
      obtain ⟨q1, q2, q3, q4⟩ := hlb m m0 (by omega)
      have els : lst nl lab (ln0, own, L0) (m + 1).toNat = lstep nl (lst nl lab (ln0, own, L0) m.toNat) (lab m) := by
        rw [show (m + 1).toNat = m.toNat + 1 by omega]
        show lstep _ (lst _ lab _ m.toNat) (lab ((m.toNat : Nat) : Int)) = _
        rw [show ((m.toNat : Nat) : Int) = m by omega]
      have hp3 := p3 _ q1 q2
      have hor' := hor _ q1 q2
      have hRm := hR _ q1 q2
      by_cases y : (lst nl lab (ln0, own, L0) m.toNat).1 (lab m) = 0
      · have y1 : ln0 (lab m) = 0 := by
          by_cases w : ln0 (lab m) = 0
          · exact w
          · rw [if_neg w] at hRm; omega
        have y2 : A 56 (lab m) = 0 := by
          rw [if_pos y1] at hRm; omega
        have els2 : lst nl lab (ln0, own, L0) (m + 1).toNat = (v1 (lst nl lab (ln0, own, L0) m.toNat).1 (lab m) ((lst nl lab (ln0, own, L0) m.toNat).2.1 + 1), (lst nl lab (ln0, own, L0) m.toNat).2.1 + 1, (lst nl lab (ln0, own, L0) m.toNat).2.2 ++ nl (lab m) ++ [32]) := by
          rw [els]
          unfold lstep
          rw [if_pos y]
        rw [if_pos (by rw [y1]), if_pos (by rw [y2]), ua_56 q1 q2, bd_some] at eb
        generalize hst : lst nl lab (ln0, own, L0) m.toNat = st at *
        rw [show own + (st.2.1 - own + 1) = st.2.1 + 1 by omega] at eb
        have G2 : BK b q S K P len f a ni j (v2 A 56 (lab m) (st.2.1 + 1)) J := bk_eq G (fun _ _ _ => rfl) (fun _ _ _ => rfl) (fun _ _ _ => rfl) rfl (fun x x1 x2 => v2_o (by omega)) ⟨rfl, rfl⟩
        obtain ⟨F3, A3, w1, w2, w3, w4⟩ := m_name2 (n := n) (F := F) (k := lab m) hn (bq_q hbq) h4 G2 q1 q3 (L := st.2.2) (by omega) (by
          unfold SM at hS ⊢
          rw [v2_o (by decide)]
          exact hS)
        rw [v2_o (by decide), v2_o (by decide), v2_o (by decide), enl] at w2
        obtain ⟨F4, A4, x1, x2, x3, x4⟩ := m_say2 (n := n) (v := 32) (J := J) (by rw [List.length_append]; omega) w2
        rw [w1, bd_some, x1, bd_some] at eb
        have eF : ∀ x, x ≠ 82 → F4 x = F x := fun x hx => by rw [x3 x hx, w3 x hx]
        have eA : ∀ x, x ≠ 56 → x ≠ 58 → A4 x = A x := fun x hx hx2 => by rw [x4 x hx2, w4 x hx2, v2_o hx]
        have e56 : A4 56 = v1 (A 56) (lab m) (st.2.1 + 1) := by rw [x4 56 (by decide), w4 56 (by decide), v2_s]
        have eG := bk_eq G (f2 := f) (a2 := a) (ni2 := ni) (j2 := j) (A2 := A4) (J2 := J) (fun _ _ _ => rfl) (fun _ _ _ => rfl) (fun _ _ _ => rfl) rfl (fun x x1 x2 => eA x (by omega) (by omega)) ⟨rfl, rfl⟩
        obtain ⟨F2, A2, i1, i2, i3, i4, i5⟩ := ih (m + 1) (t + 1) u F4 A4 z3 (by omega) (by omega) (by omega) (by omega) eG (by rw [eF 4 (by decide)]; exact h4) (by rw [eA 2 (by decide) (by decide), eA 8 (by decide) (by decide), eA 9 (by decide) (by decide)]; exact enl) (by rw [eF 85 (by decide)]; omega) (by rw [eA 60 (by decide) (by decide)]; exact hat2) (by rw [eA 34 (by decide) (by decide)]; exact h34) (by
          intro x x0 x1'
          rw [els2, e56]
          show v1 st.1 (lab m) (st.2.1 + 1) x = _
          by_cases w : x = lab m
          · rw [w, v1_s, v1_s, if_pos y1]
          · rw [v1_o w, v1_o w]; exact hR x x0 x1') (by rw [els2]; exact x2)
        refine ⟨F2, A2, ?_, i2, i3, fun x hx => by rw [i4 x hx]; exact eF x hx, fun x hx hx2 => by rw [i5 x hx hx2]; exact eA x hx hx2⟩
        rw [els2] at i1
        rw [lp_st eb, ← i1]
        show hp_lp _ u (qz (st.2.1 - own + 1), _, _) = hp_lp _ u (qz (st.2.1 + 1 - own), _, _)
        rw [show st.2.1 - own + 1 = st.2.1 + 1 - own by omega]
      · refine skip ?_ (m + 1) z3 (by omega) ?_
        · rw [eb]
          by_cases w : ln0 (lab m) = 0
          · rw [if_pos w] at hRm
            rw [if_pos (by rw [w]), if_neg (by rw [qz_inj (by omega) (by omega) (by omega) (by omega)]; omega)]
          · rw [if_neg (by rw [qz_inj (by omega) (by omega) (by omega) (by omega)]; exact w)]
        · rw [els]
          unfold lstep
          rw [if_neg y]
    · -- come to again
      refine skip ?_ m z2 (Int.le_refl _) rfl
      obtain ⟨k1, k2⟩ := hcan (e - 1000) (by omega) (by omega)
      have he : A 60 t = 1000 + can (e - 1000) := by
        rw [hat1]
        unfold tcd
        rw [if_neg (by omega)]
      unfold gL_X11_compressed_59 g_X11_compressed_59 g_X11_compressed_141
      simp only [zl1, zl1000]
      rw [gf_ms, h85, if_neg (by rw [qz_le (by omega) (by omega) (by omega) (by omega)]; omega), gp_84, ga_60 t0 (by omega), he, bd_some, if_pos (by rw [qz_le (by omega) (by omega) (by omega) (by omega)]; omega), qz_add]
end CPM
