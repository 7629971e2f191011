/-! Numbers of a proof told in letters: both -/
section NUM
variable {n s : Nat} {z : Int} {L : List Int} {f : Nat → Nat → Int} {d : Nat → Nat} {a : Nat → Int → Int} {ni : Nat → Nat} {j : Nat → Int → Int64} {F : Nat → Int} {A : Nat → Int → Int} {J : Nat → Int → Int64}
def dgl : Nat → Int → List Int
  | 0, _ => []
  | k + 1, p => if p ≤ 0 then [] else dgl k ((p - 1) / 5) ++ [85 + (p - 1) % 5]
def dgb : Nat → Int
  | 0 => 1
  | k + 1 => 5 * dgb k + 1
def num (z : Int) : List Int := dgl 3 ((z - 1) / 20) ++ [65 + (z - 1) % 20]
theorem dgl_l (k : Nat) : ∀ p, (dgl k p).length ≤ k := by
  induction k with
  | zero => intro p; exact Nat.le_refl _
  | succ k ih =>
    intro p
    unfold dgl
    split
    · exact Nat.zero_le _
    · rw [List.length_append]
      have := ih ((p - 1) / 5)
      show _ + 1 ≤ _
      omega
theorem num_l {z : Int} : (num z).length ≤ 4 := by
  unfold num
  rw [List.length_append]
  have := dgl_l 3 ((z - 1) / 20)
  show _ + 1 ≤ _
  omega
theorem dgl_r (k : Nat) : ∀ p, ∀ e, e ∈ dgl k p → 85 ≤ e ∧ e < 90 := by
  induction k with
  | zero => intro p e he; exact absurd he (by unfold dgl; simp)
  | succ k ih =>
    intro p e he
    unfold dgl at he
    split at he
    · exact absurd he (by simp)
    · rcases List.mem_append.mp he with h | h
      · exact ih _ e h
      · have : e = 85 + (p - 1) % 5 := by simpa using h
        omega
/-- the digits stand in the array, the last one first -/
def rvs (g : Int → Int) (i : Int) (l : List Int) : Prop := ∀ r : Nat, r < l.length → g (i + r) = l.getD (l.length - 1 - r) 0
theorem rvs_a {g : Int → Int} {i e : Int} {l : List Int} (h0 : g i = e) (h : rvs g (i + 1) l) : rvs g i (l ++ [e]) := by
  intro r hr
  rw [List.length_append] at hr ⊢
  have hr' : r < l.length + 1 := hr
  show g (i + r) = (l ++ [e]).getD (l.length + 1 - 1 - r) 0
  by_cases c : r = 0
  · rw [c]
    show g (i + 0) = (l ++ [e]).getD (l.length + 1 - 1 - 0) 0
    rw [Int.add_zero, h0, show l.length + 1 - 1 - 0 = l.length by omega, getD_r]
  · have := h (r - 1) (by omega)
    rw [show i + 1 + ((r - 1 : Nat) : Int) = i + (r : Int) by omega] at this
    rw [this, getD_al (by omega), show l.length - 1 - (r - 1) = l.length + 1 - 1 - r by omega]
theorem c_dig {w2 : Int32} (k : Nat) : ∀ (p i : Int) (a : Nat → Int → Int) (u : Nat), k < u → 0 ≤ p → p < dgb k → p < 1000000 → 0 ≤ i → i + k ≤ 16 → ∃ g : Int → Int, hp_lp (gL_X9_putNumber_10 n 103 s w2) u (qz i, qz p, cs f d a ni j) = some (qz (i + (dgl k p).length), cs f d (u1 a 116 g) ni j) ∧ (∀ y, y < i → g y = a 116 y) ∧ rvs g i (dgl k p) := by
  induction k with
  | zero =>
    intro p i a u hu p0 p1 p2 i0 i1
    have hp : p ≤ 0 := by have : dgb 0 = 1 := rfl; omega
    obtain ⟨u, rfl⟩ : ∃ k, u = k + 1 := ⟨u - 1, by omega⟩
    refine ⟨a 116, ?_, fun _ _ => rfl, fun r hr => absurd hr (Nat.not_lt_zero _)⟩
    rw [u1_id rfl]
    apply hp_lp_x
    unfold gL_X9_putNumber_10 g_X9_putNumber_10
    rw [if_pos (by rw [zl0, qz_le (by omega) (by omega) (by omega) (by omega)]; exact hp)]
    show some (Sum.inr (qz i, _)) = some (Sum.inr (qz (i + 0), _))
    rw [Int.add_zero]
  | succ k ih =>
    intro p i a u hu p0 p1 p2 i0 i1
    obtain ⟨u, rfl⟩ : ∃ k, u = k + 1 := ⟨u - 1, by omega⟩
    unfold dgl
    by_cases hp : p ≤ 0
    · rw [if_pos hp]
      refine ⟨a 116, ?_, fun _ _ => rfl, fun r hr => absurd hr (Nat.not_lt_zero _)⟩
      rw [u1_id rfl]
      apply hp_lp_x
      unfold gL_X9_putNumber_10 g_X9_putNumber_10
      rw [if_pos (by rw [zl0, qz_le (by omega) (by omega) (by omega) (by omega)]; exact hp)]
      show some (Sum.inr (qz i, _)) = some (Sum.inr (qz (i + 0), _))
      rw [Int.add_zero]
    · rw [if_neg hp]
      have hb : dgb (k + 1) = 5 * dgb k + 1 := rfl
      obtain ⟨g, e1, e2, e3⟩ := ih ((p - 1) / 5) (i + 1) (v2 a 116 i (85 + (p - 1) % 5)) u (by omega) (by omega) (by omega) (by omega) (by omega) (by omega)
      have eb : gL_X9_putNumber_10 n 103 s w2 (qz i, qz p, cs f d a ni j) = some (.inl (qz (i + 1), qz ((p - 1) / 5), cs f d (v2 a 116 i (85 + (p - 1) % 5)) ni j)) := by
        unfold gL_X9_putNumber_10 g_X9_putNumber_10
        simp only [zl0, zl1, zl5, zl85]
        rw [if_neg (by rw [qz_le (by omega) (by omega) (by omega) (by omega)]; exact hp), gpc_103_16, gL_cs (n := 16) rfl, if_neg (by rw [qz_le (by omega) (by omega) (by omega) (by omega)]; omega), qz_sub, qz_div (by omega) (by omega) (by omega) (by omega), qz_mul, qz_sub, qz_add, uac_116 i0 (by omega), bd_some, qz_add, show p - 1 - (p - 1) / 5 * 5 = (p - 1) % 5 by omega]
      refine ⟨g, ?_, fun y hy => ?_, rvs_a ?_ e3⟩
      · rw [lp_st eb, e1, List.length_append, v2_u1, u1_1]
        show some (qz (i + 1 + ((dgl k ((p - 1) / 5)).length : Int)), _) = some (qz (i + (((dgl k ((p - 1) / 5)).length + 1 : Nat) : Int)), _)
        rw [show i + 1 + ((dgl k ((p - 1) / 5)).length : Int) = i + (((dgl k ((p - 1) / 5)).length + 1 : Nat) : Int) by omega]
      · rw [e2 y (by omega), v2_s, v1_o (by omega)]
      · rw [e2 i (by omega), v2_s, v1_s]
theorem c_putd {v2 : Int32} (hs : s = 117 ∨ s = 119) (l : List Int) : ∀ (L : List Int) (f : Nat → Nat → Int) (a : Nat → Int → Int) (u : Nat), l.length < u → l.length ≤ 16 → (∀ e, e ∈ l → 0 ≤ e ∧ e < 128) → rvs (a 116) 0 l → SC s L f a → ∃ (f2 : Nat → Nat → Int) (a2 : Nat → Int → Int), hp_lp (gL_X9_putNumber_58 n 103 s v2) u (qz ((l.length : Int) - 1), cs f d a ni j) = some (cs f2 d a2 ni j) ∧ SC s (L ++ l) f2 a2 ∧ (∀ i, i ≠ s → f2 i = f i) ∧ ∀ i, i ≠ s + 1 → a2 i = a i := by
  induction l with
  | nil =>
    intro L f a u hu hl he hr hS
    obtain ⟨u, rfl⟩ : ∃ k, u = k + 1 := ⟨u - 1, by omega⟩
    refine ⟨f, a, ?_, by rw [List.append_nil]; exact hS, fun _ _ => rfl, fun _ _ => rfl⟩
    apply hp_lp_x
    unfold gL_X9_putNumber_58 g_X9_putNumber_58
    rw [if_pos (by rw [zl0]; show qz (0 - 1) < qz 0; rw [qz_lt (by omega) (by omega) (by omega) (by omega)]; omega)]
  | cons e es ih =>
    intro L f a u hu hl he hr hS
    obtain ⟨u, rfl⟩ : ∃ k, u = k + 1 := ⟨u - 1, by omega⟩
    have hl' : es.length + 1 ≤ 16 := hl
    have hu' : es.length + 1 < u + 1 := hu
    obtain ⟨e0, e1⟩ := he e List.mem_cons_self
    have ea : a 116 (es.length : Int) = e := by
      have := hr es.length (Nat.lt_succ_self _)
      rw [Int.zero_add] at this
      rw [this, show (e :: es).length - 1 - es.length = 0 by simp]
      rfl
    obtain ⟨f3, a3, w1, w2, w3, w4⟩ := c_put2 (n := n) (d := d) (ni := ni) (j := j) hs e0 e1 hS
    obtain ⟨f4, a4, z1, z2, z3, z4⟩ := ih (L ++ [e]) f3 a3 u (by omega) (by omega) (fun x hx => he x (List.mem_cons_of_mem _ hx)) (by
      rw [w4 116 (by omega)]
      intro r hr'
      have := hr r (by show r < es.length + 1; omega)
      rw [this]
      show (e :: es).getD (es.length + 1 - 1 - r) 0 = es.getD (es.length - 1 - r) 0
      rw [show es.length + 1 - 1 - r = (es.length - 1 - r) + 1 by omega]
      rfl) w2
    refine ⟨f4, a4, ?_, by rw [List.append_assoc] at z2; exact z2, fun i hi => by rw [z3 i hi]; exact w3 i hi, fun i hi => by rw [z4 i hi]; exact w4 i hi⟩
    have eb : gL_X9_putNumber_58 n 103 s v2 (qz (((e :: es).length : Int) - 1), cs f d a ni j) = some (.inl (qz ((es.length : Int) - 1), cs f3 d a3 ni j)) := by
      unfold gL_X9_putNumber_58 g_X9_putNumber_58
      simp only [zl0, zlm1]
      have elen : ((e :: es).length : Int) - 1 = (es.length : Int) := by
        show ((es.length + 1 : Nat) : Int) - 1 = _
        omega
      rw [elen, if_neg (by rw [qz_lt (by omega) (by omega) (by omega) (by omega)]; omega), gpc_103_16, gac_116 (by omega) (by omega), ea, bd_some, w1, bd_some, qz_add, show (es.length : Int) + -1 = (es.length : Int) - 1 by omega]
    rw [lp_st eb, z1]
theorem zl65' : (65 : Int32) = qz 65 := id rfl
/-- a number is put down: the class -/
theorem c_putNum (hn : 100000 ≤ n) (hs : s = 117 ∨ s = 119) (z0 : 1 ≤ z) (z1 : z ≤ 3000) (hS : SC s L f a) : ∃ (f2 : Nat → Nat → Int) (a2 : Nat → Int → Int), g_X9_putNumber n 103 s (qz z) (cs f d a ni j) = some (cs f2 d a2 ni j) ∧ SC s (L ++ num z) f2 a2 ∧ (∀ i, i ≠ s → f2 i = f i) ∧ ∀ i, i ≠ s + 1 → i ≠ 116 → a2 i = a i := by
  have hb : dgb 3 = 156 := rfl
  obtain ⟨g, e1, e2, e3⟩ := c_dig (n := n) (s := s) (f := f) (d := d) (ni := ni) (j := j) (w2 := qz z) 3 ((z - 1) / 20) 0 a n (by omega) (by omega) (by omega) (by omega) (by omega) (by omega)
  have hll := dgl_l 3 ((z - 1) / 20)
  obtain ⟨f3, a3, w1, w2, w3, w4⟩ := c_putd (n := n) (d := d) (ni := ni) (j := j) (v2 := qz z) hs (dgl 3 ((z - 1) / 20)) L f (u1 a 116 g) n (by omega) (by omega) (fun e he => by have := dgl_r 3 _ e he; omega) (by rw [u1_s]; exact e3) (by
    unfold SC at hS ⊢
    rw [u1_o (by omega)]
    exact hS)
  obtain ⟨f4, a4, y1, y2, y3, y4⟩ := c_put2 (n := n) (d := d) (ni := ni) (j := j) (v := 65 + (z - 1) % 20) hs (by omega) (by omega) w2
  refine ⟨f4, a4, ?_, by unfold num; rw [← List.append_assoc]; exact y2, fun i hi => by rw [y3 i hi]; exact w3 i hi, fun i hi hi2 => by rw [y4 i hi, w4 i hi, u1_o hi2]⟩
  unfold g_X9_putNumber g_X9_putNumber_0 g_X9_putNumber_53
  simp only [zl0, zl1, zl20, zl65]
  rw [qz_sub, qz_div (by omega) (by omega) (by omega) (by omega), e1, bd_some, Int.zero_add, qz_sub, w1, bd_some, qz_mul, qz_sub, qz_add, show z - 1 - (z - 1) / 20 * 20 = (z - 1) % 20 by omega, y1, bd_some]
theorem m_dig {v2 : Int32} (k : Nat) : ∀ (p i : Int) (A : Nat → Int → Int) (u : Nat), k < u → 0 ≤ p → p < dgb k → p < 1000000 → 0 ≤ i → i + k ≤ 1000 → ∃ g : Int → Int, hp_lp (gL_X11_sayNumber_12 n 0 v2) u (qz i, qz p, ms F A J) = some (qz (i + (dgl k p).length), ms F (u1 A 52 g) J) ∧ (∀ y, y < i → g y = A 52 y) ∧ rvs g i (dgl k p) := by
  induction k with
  | zero =>
    intro p i A u hu p0 p1 p2 i0 i1
    have hp : p ≤ 0 := by have : dgb 0 = 1 := rfl; omega
    obtain ⟨u, rfl⟩ : ∃ k, u = k + 1 := ⟨u - 1, by omega⟩
    refine ⟨A 52, ?_, fun _ _ => rfl, fun r hr => absurd hr (Nat.not_lt_zero _)⟩
    rw [u1_id rfl]
    apply hp_lp_x
    unfold gL_X11_sayNumber_12 g_X11_sayNumber_12
    rw [if_pos (by rw [zl0, qz_le (by omega) (by omega) (by omega) (by omega)]; exact hp)]
    show some (Sum.inr (qz i, _)) = some (Sum.inr (qz (i + 0), _))
    rw [Int.add_zero]
  | succ k ih =>
    intro p i A u hu p0 p1 p2 i0 i1
    obtain ⟨u, rfl⟩ : ∃ k, u = k + 1 := ⟨u - 1, by omega⟩
    unfold dgl
    by_cases hp : p ≤ 0
    · rw [if_pos hp]
      refine ⟨A 52, ?_, fun _ _ => rfl, fun r hr => absurd hr (Nat.not_lt_zero _)⟩
      rw [u1_id rfl]
      apply hp_lp_x
      unfold gL_X11_sayNumber_12 g_X11_sayNumber_12
      rw [if_pos (by rw [zl0, qz_le (by omega) (by omega) (by omega) (by omega)]; exact hp)]
      show some (Sum.inr (qz i, _)) = some (Sum.inr (qz (i + 0), _))
      rw [Int.add_zero]
    · rw [if_neg hp]
      have hb : dgb (k + 1) = 5 * dgb k + 1 := rfl
      obtain ⟨g, e1, e2, e3⟩ := ih ((p - 1) / 5) (i + 1) (u1 A 52 (v1 (A 52) i (85 + (p - 1) % 5))) u (by omega) (by omega) (by omega) (by omega) (by omega) (by omega)
      have eb : gL_X11_sayNumber_12 n 0 v2 (qz i, qz p, ms F A J) = some (.inl (qz (i + 1), qz ((p - 1) / 5), ms F (u1 A 52 (v1 (A 52) i (85 + (p - 1) % 5))) J)) := by
        unfold gL_X11_sayNumber_12 g_X11_sayNumber_12
        simp only [zl0, zl1, zl5, zl85]
        rw [if_neg (by rw [qz_le (by omega) (by omega) (by omega) (by omega)]; exact hp), gp_74, qz_sub, qz_div (by omega) (by omega) (by omega) (by omega), qz_mul, qz_sub, qz_add, ua_52 i0 (by omega), bd_some, qz_add, show p - 1 - (p - 1) / 5 * 5 = (p - 1) % 5 by omega, v2_u1]
      refine ⟨g, ?_, fun y hy => ?_, rvs_a ?_ e3⟩
      · rw [lp_st eb, e1, List.length_append, u1_1]
        show some (qz (i + 1 + ((dgl k ((p - 1) / 5)).length : Int)), _) = some (qz (i + (((dgl k ((p - 1) / 5)).length + 1 : Nat) : Int)), _)
        rw [show i + 1 + ((dgl k ((p - 1) / 5)).length : Int) = i + (((dgl k ((p - 1) / 5)).length + 1 : Nat) : Int) by omega]
      · rw [e2 y (by omega), u1_s, v1_o (by omega)]
      · rw [e2 i (by omega), u1_s, v1_s]
theorem m_sayd {v2 : Int32} (l : List Int) : ∀ (L : List Int) (F : Nat → Int) (A : Nat → Int → Int) (u : Nat), l.length < u → l.length ≤ 16 → (L.length : Int) + l.length < 900000000 → rvs (A 52) 0 l → SM L F A → ∃ (F2 : Nat → Int) (A2 : Nat → Int → Int), hp_lp (gL_X11_sayNumber_51 n 0 v2) u (qz ((l.length : Int) - 1), ms F A J) = some (ms F2 A2 J) ∧ SM (L ++ l) F2 A2 ∧ (∀ i, i ≠ 82 → F2 i = F i) ∧ ∀ i, i ≠ 58 → A2 i = A i := by
  induction l with
  | nil =>
    intro L F A u hu hl hL hr hS
    obtain ⟨u, rfl⟩ : ∃ k, u = k + 1 := ⟨u - 1, by omega⟩
    refine ⟨F, A, ?_, by rw [List.append_nil]; exact hS, fun _ _ => rfl, fun _ _ => rfl⟩
    apply hp_lp_x
    unfold gL_X11_sayNumber_51 g_X11_sayNumber_51
    rw [if_pos (by rw [zl0]; show qz (0 - 1) < qz 0; rw [qz_lt (by omega) (by omega) (by omega) (by omega)]; omega)]
  | cons e es ih =>
    intro L F A u hu hl hL hr hS
    obtain ⟨u, rfl⟩ : ∃ k, u = k + 1 := ⟨u - 1, by omega⟩
    have hl' : es.length + 1 ≤ 16 := hl
    have hu' : es.length + 1 < u + 1 := hu
    have ea : A 52 (es.length : Int) = e := by
      have := hr es.length (Nat.lt_succ_self _)
      rw [Int.zero_add] at this
      rw [this, show (e :: es).length - 1 - es.length = 0 by simp]
      rfl
    obtain ⟨F3, A3, w1, w2, w3, w4⟩ := m_say2 (n := n) (J := J) (v := e) (by omega) hS
    obtain ⟨F4, A4, z1, z2, z3, z4⟩ := ih (L ++ [e]) F3 A3 u (by omega) (by omega) (by rw [List.length_append]; show ((L.length + 1 : Nat) : Int) + es.length < _; have : ((e :: es).length : Int) = es.length + 1 := rfl; omega) (by
      rw [w4 52 (by omega)]
      intro r hr'
      have := hr r (by show r < es.length + 1; omega)
      rw [this]
      show (e :: es).getD (es.length + 1 - 1 - r) 0 = es.getD (es.length - 1 - r) 0
      rw [show es.length + 1 - 1 - r = (es.length - 1 - r) + 1 by omega]
      rfl) w2
    refine ⟨F4, A4, ?_, by rw [List.append_assoc] at z2; exact z2, fun i hi => by rw [z3 i hi]; exact w3 i hi, fun i hi => by rw [z4 i hi]; exact w4 i hi⟩
    have eb : gL_X11_sayNumber_51 n 0 v2 (qz (((e :: es).length : Int) - 1), ms F A J) = some (.inl (qz ((es.length : Int) - 1), ms F3 A3 J)) := by
      unfold gL_X11_sayNumber_51 g_X11_sayNumber_51
      simp only [zl0, zlm1]
      have elen : ((e :: es).length : Int) - 1 = (es.length : Int) := by
        show ((es.length + 1 : Nat) : Int) - 1 = _
        omega
      rw [elen, if_neg (by rw [qz_lt (by omega) (by omega) (by omega) (by omega)]; omega), gp_74, ga_52 (by omega) (by omega), ea, bd_some, w1, bd_some, qz_add, show (es.length : Int) + -1 = (es.length : Int) - 1 by omega]
    rw [lp_st eb, z1]
/-- a number is said: the reference -/
theorem m_sayNum (hn : 100000 ≤ n) (z0 : 1 ≤ z) (z1 : z ≤ 3000) (hL : (L.length : Int) < 800000000) (hS : SM L F A) : ∃ (F2 : Nat → Int) (A2 : Nat → Int → Int), g_X11_sayNumber n 0 (qz z) (ms F A J) = some (ms F2 A2 J) ∧ SM (L ++ num z) F2 A2 ∧ (∀ i, i ≠ 82 → F2 i = F i) ∧ ∀ i, i ≠ 58 → i ≠ 52 → A2 i = A i := by
  have hb : dgb 3 = 156 := rfl
  obtain ⟨g, e1, e2, e3⟩ := m_dig (n := n) (F := F) (J := J) (v2 := qz z) 3 ((z - 1) / 20) 0 A n (by omega) (by omega) (by omega) (by omega) (by omega) (by omega)
  have hll := dgl_l 3 ((z - 1) / 20)
  obtain ⟨F3, A3, w1, w2, w3, w4⟩ := m_sayd (n := n) (J := J) (v2 := qz z) (dgl 3 ((z - 1) / 20)) L F (u1 A 52 g) n (by omega) (by omega) (by omega) (by rw [u1_s]; exact e3) (by
    unfold SM at hS ⊢
    rw [u1_o (by omega)]
    exact hS)
  obtain ⟨F4, A4, y1, y2, y3, y4⟩ := m_say2 (n := n) (J := J) (v := 65 + (z - 1) % 20) (by rw [List.length_append]; omega) w2
  refine ⟨F4, A4, ?_, by unfold num; rw [← List.append_assoc]; exact y2, fun i hi => by rw [y3 i hi]; exact w3 i hi, fun i hi hi2 => by rw [y4 i hi, w4 i hi, u1_o hi2]⟩
  unfold g_X11_sayNumber g_X11_sayNumber_0
  simp only [zl0, zl1, zl20, zl65]
  rw [qz_sub, qz_div (by omega) (by omega) (by omega) (by omega), e1, bd_some, Int.zero_add, qz_sub, w1, bd_some, qz_mul, qz_sub, qz_add, show z - 1 - (z - 1) / 20 * 20 = (z - 1) % 20 by omega, y1, bd_some]
end NUM
