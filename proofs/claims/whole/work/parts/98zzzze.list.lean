/-! The labels of a proof told in letters: their list -/
section LST
variable {n b s : Nat} {q S K P len c k x own : Int} {sz lab ln0 : Int → Int} {row : Int → Int → Int} {WO : Int → List Int} {L0 : List Int} {nl : Int → List Int} {f : Nat → Nat → Int} {d : Nat → Nat} {a : Nat → Int → Int} {ni : Nat → Nat} {j : Nat → Int → Int64} {F : Nat → Int} {A : Nat → Int → Int} {J : Nat → Int → Int64}
def lstep (nl : Int → List Int) (st : (Int → Int) × Int × List Int) (l : Int) : (Int → Int) × Int × List Int := if st.1 l = 0 then (v1 st.1 l (st.2.1 + 1), st.2.1 + 1, st.2.2 ++ nl l ++ [32]) else st
def lst (nl : Int → List Int) (lab : Int → Int) (st0 : (Int → Int) × Int × List Int) : Nat → (Int → Int) × Int × List Int
  | 0 => st0
  | m + 1 => lstep nl (lst nl lab st0 m) (lab m)
theorem lst_p (h0 : ∀ x, 0 ≤ x → x < 200 → 0 ≤ ln0 x ∧ ln0 x ≤ own) (o0 : 0 ≤ own) (hl : ∀ y, 0 ≤ y → y < c → 0 ≤ lab y ∧ lab y < 200 ∧ ((nl (lab y)).length : Int) ≤ 8192) (m : Nat) : (m : Int) ≤ c → own ≤ (lst nl lab (ln0, own, L0) m).2.1 ∧ (lst nl lab (ln0, own, L0) m).2.1 ≤ own + m ∧ (∀ x, 0 ≤ x → x < 200 → 0 ≤ (lst nl lab (ln0, own, L0) m).1 x ∧ (lst nl lab (ln0, own, L0) m).1 x ≤ (lst nl lab (ln0, own, L0) m).2.1) ∧ (∀ y : Int, 0 ≤ y → y < m → 1 ≤ (lst nl lab (ln0, own, L0) m).1 (lab y)) ∧ ((lst nl lab (ln0, own, L0) m).2.2.length : Int) ≤ L0.length + 9000 * m := by
  induction m with
  | zero =>
    intro _
    exact ⟨Int.le_refl _, by show own ≤ own + 0; omega, h0, fun y y0 y1 => by omega, by show (L0.length : Int) ≤ L0.length + 9000 * 0; omega⟩
  | succ m ih =>
    intro hm
    obtain ⟨i1, i2, i3, i4, i5⟩ := ih (by omega)
    obtain ⟨l0, l1, l2⟩ := hl m (by omega) (by omega)
    show own ≤ (lstep nl (lst nl lab (ln0, own, L0) m) (lab m)).2.1 ∧ (lstep nl (lst nl lab (ln0, own, L0) m) (lab m)).2.1 ≤ own + ((m + 1 : Nat) : Int) ∧ (∀ x, 0 ≤ x → x < 200 → 0 ≤ (lstep nl (lst nl lab (ln0, own, L0) m) (lab m)).1 x ∧ (lstep nl (lst nl lab (ln0, own, L0) m) (lab m)).1 x ≤ (lstep nl (lst nl lab (ln0, own, L0) m) (lab m)).2.1) ∧ (∀ y, 0 ≤ y → y < ((m + 1 : Nat) : Int) → 1 ≤ (lstep nl (lst nl lab (ln0, own, L0) m) (lab m)).1 (lab y)) ∧ ((lstep nl (lst nl lab (ln0, own, L0) m) (lab m)).2.2.length : Int) ≤ L0.length + 9000 * ((m + 1 : Nat) : Int)
    generalize lst nl lab (ln0, own, L0) m = st at *
    unfold lstep
    by_cases e : st.1 (lab m) = 0
    · rw [if_pos e]
      refine ⟨by show own ≤ st.2.1 + 1; omega, by show st.2.1 + 1 ≤ _; omega, fun x x0 x1 => ?_, fun y y0 y1 => ?_, ?_⟩
      · show 0 ≤ v1 st.1 (lab m) (st.2.1 + 1) x ∧ v1 st.1 (lab m) (st.2.1 + 1) x ≤ st.2.1 + 1
        by_cases y : x = lab m
        · rw [y, v1_s]; omega
        · rw [v1_o y]
          have := i3 x x0 x1
          omega
      · show 1 ≤ v1 st.1 (lab m) (st.2.1 + 1) (lab y)
        by_cases z : lab y = lab m
        · rw [z, v1_s]; omega
        · rw [v1_o z]
          by_cases w : y = m
          · exact absurd (by rw [w]) z
          · exact i4 y y0 (by omega)
      · show ((st.2.2 ++ nl (lab m) ++ [32]).length : Int) ≤ _
        rw [List.length_append, List.length_append]
        show ((st.2.2.length + (nl (lab m)).length + 1 : Nat) : Int) ≤ _
        omega
    · rw [if_neg e]
      refine ⟨i1, by omega, i3, fun y y0 y1 => ?_, by omega⟩
      by_cases w : y = m
      · rw [w]
        have := i3 (lab m) l0 l1
        omega
      · exact i4 y y0 (by omega)
/-- the numbers of the proof's own hypotheses -/
def OWN (b : Nat) (k : Int) (a : Nat → Int → Int) (ln0 : Int → Int) : Prop := (∀ i, 0 ≤ i → i < a (b + 20 + 2) (k + 1) - a (b + 20 + 2) k → ln0 (a (b + 20 + 1) (a (b + 20 + 2) k + i)) = i + 1) ∧ ∀ x, 0 ≤ x → x < 200 → ¬mem (a (b + 20 + 1)) (a (b + 20 + 2) k) (a (b + 20 + 2) (k + 1)) x → ln0 x = 0
theorem own_le (G : BK b q S K P len f a ni j A J) (h0 : 0 ≤ k) (h1 : k < K) : 0 ≤ a (b + 20 + 2) (k + 1) - a (b + 20 + 2) k ∧ a (b + 20 + 2) (k + 1) - a (b + 20 + 2) k ≤ k := by
  obtain ⟨e1, e2, e3, e4⟩ := bk_h G h0 h1
  refine ⟨by omega, ?_⟩
  have key : ∀ i : Nat, (i : Int) < a (b + 20 + 2) (k + 1) - a (b + 20 + 2) k → (i : Int) ≤ a (b + 20 + 1) (a (b + 20 + 2) k + i) := by
    intro i
    induction i with
    | zero =>
      intro hi
      exact (e4 _ ⟨a (b + 20 + 2) k + ((0 : Nat) : Int), by omega, by omega, rfl⟩).1
    | succ i ih =>
      intro hi
      have := ih (by omega)
      have h2 := e1 (a (b + 20 + 2) k + i) (a (b + 20 + 2) k + ((i + 1 : Nat) : Int)) (by omega) (by omega) (by omega)
      omega
  by_cases e : a (b + 20 + 2) (k + 1) - a (b + 20 + 2) k ≤ 0
  · omega
  · have h2 := key (a (b + 20 + 2) (k + 1) - a (b + 20 + 2) k - 1).toNat (by omega)
    have h3 := (e4 _ ⟨a (b + 20 + 2) k + ((a (b + 20 + 2) (k + 1) - a (b + 20 + 2) k - 1).toNat : Int), by omega, by omega, rfl⟩).2.1
    omega
theorem own_r (G : BK b q S K P len f a ni j A J) (h0 : 0 ≤ k) (h1 : k < K) (O : OWN b k a ln0) : ∀ x, 0 ≤ x → x < 200 → 0 ≤ ln0 x ∧ ln0 x ≤ a (b + 20 + 2) (k + 1) - a (b + 20 + 2) k := by
  intro x x0 x1
  obtain ⟨e1, e2, e3, e4⟩ := bk_h G h0 h1
  by_cases e : mem (a (b + 20 + 1)) (a (b + 20 + 2) k) (a (b + 20 + 2) (k + 1)) x
  · obtain ⟨i, i0, i1, ei⟩ := e
    have := O.1 (i - a (b + 20 + 2) k) (by omega) (by omega)
    rw [show a (b + 20 + 2) k + (i - a (b + 20 + 2) k) = i by omega, ei] at this
    omega
  · rw [O.2 x x0 x1 e]; omega
theorem m_indexOf (hn : 100000 ≤ n) (G : BK b q S K P len f a ni j A J) (hbq : bq b q) (h4 : F 4 = q) (h0 : 0 ≤ k) (h1 : k < K) (O : OWN b k a ln0) (x0 : 0 ≤ x) (x1 : x < 200) : g_X11_indexOf n 0 (qz k) (qz x) (ms F A J) = some (qz (ln0 x)) := by
  have hq := bq_q hbq
  obtain ⟨e1, e2, e3, e4⟩ := bk_h G h0 h1
  have hK : K ≤ 200 := G.2.1.2.2.2.1
  unfold g_X11_indexOf g_X11_indexOf_0
  have lp := lp_ix (b := gL_X11_indexOf_5 n 0 (qz k) (qz x) (ms F A J)) (fun t c => ∃ m, c = (qz m, qz t) ∧ cnt (a (b + 20 + 1)) (a (b + 20 + 2) k) (a (b + 20 + 2) (k + 1)) t m ∧ m ≤ t ∧ (x < t → ¬mem (a (b + 20 + 1)) (a (b + 20 + 2) k) (a (b + 20 + 2) (k + 1)) x)) (Q := fun r => r = qz (ln0 x)) k (n := n) (i0 := 0) (by omega) (by omega) (c0 := (qz 0, qz 0)) ⟨0, rfl, cnt_0 e2 (fun x hx => (e4 x hx).1), by omega, fun h => by omega⟩ ?_ ?_
  · obtain ⟨r, er, hr⟩ := lp
    rw [zl0, er, bd_some, hr]
  · rintro t c t1 t2 ⟨m, rfl, hm, hm1, hm2⟩
    have hm0 := hm.1
    have eb : gL_X11_indexOf_5 n 0 (qz k) (qz x) (ms F A J) (qz m, qz t) = if qp (bt (J 20) (4 * (200 * q + k)) t) = qz 0 then some (.inl (qz m, qz (t + 1))) else if qz t = qz x then some (.inr (qz (m + 1))) else some (.inl (qz (m + 1), qz (t + 1))) := by
      unfold gL_X11_indexOf_5 g_X11_indexOf_5 g_X11_indexOf_36
      simp only [zl0, zl1]
      rw [if_neg (by rw [qz_le (by omega) (by omega) (by omega) (by omega)]; omega), gp_23, m_isBit (Or.inr rfl) h4 hq h0 (by omega) t1 (by omega), bd_some, qz_add, qz_add]
    by_cases c : bt (J 20) (4 * (200 * q + k)) t
    · obtain ⟨g1, g2, g3⟩ := cnt_in e1 hm ((e3 t t1 (by omega)).mpr c)
      rw [qp_T c, if_neg n10] at eb
      by_cases c2 : t = x
      · rw [if_pos (by rw [c2])] at eb
        refine Or.inr ⟨_, eb, ?_⟩
        have := O.1 m hm0 (by omega)
        rw [g3, c2] at this
        rw [this]
      · rw [if_neg (by rw [qz_inj (by omega) (by omega) (by omega) (by omega)]; exact c2)] at eb
        exact Or.inl ⟨_, eb, m + 1, rfl, g1, by omega, fun h => hm2 (by omega)⟩
    · rw [qp_F c, if_pos rfl] at eb
      refine Or.inl ⟨_, eb, m, rfl, cnt_o1 hm (fun y => c ((e3 t t1 (by omega)).mp y)), by omega, fun h => ?_⟩
      by_cases c2 : x = t
      · rw [c2]
        exact fun y => c ((e3 t t1 (by omega)).mp y)
      · exact hm2 (by omega)
  · rintro c ⟨m, rfl, hm, hm1, hm2⟩
    refine ⟨qz 0, ?_, ?_⟩
    · unfold gL_X11_indexOf_5 g_X11_indexOf_5
      rw [if_pos (by rw [qz_le (by omega) (by omega) (by omega) (by omega)]; omega), zl0]
    · rw [O.2 x x0 x1]
      intro y
      have := e4 x y
      exact hm2 (by omega) y
end LST
