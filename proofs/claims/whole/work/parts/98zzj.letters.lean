/-! The letters of a proof, and a proof with a question mark: the reference -/
section LET
variable {b n : Nat} {q S K P len k le x y i c : Int} {f : Nat → Nat → Int} {d : Nat → Nat} {a : Nat → Int → Int} {ni : Nat → Nat} {j : Nat → Int → Int64} {F : Nat → Int} {A : Nat → Int → Int} {J : Nat → Int → Int64}
/-- how many letters stand before the m-th token behind the list -/
def lof (q k le : Int) (A13 A18 : Int → Int) (m : Nat) : Int := nsum (fun x => tkl q k A13 A18 (le + 1 + x)) m
theorem lof_s {A13 A18 : Int → Int} {m : Nat} : lof q k le A13 A18 (m + 1) = lof q k le A13 A18 m + tkl q k A13 A18 (le + 1 + m) := rfl
theorem lof_b {A13 A17 A18 : Int → Int} {cnt : Int} (hl : 0 ≤ le) (h1 : ∀ i, 0 ≤ i → i < cnt → 0 ≤ tkp q k A13 A17 i ∧ 1 ≤ tkl q k A13 A18 i) (h2 : ∀ i, 0 < i → i < cnt → tkp q k A13 A17 (i - 1) + tkl q k A13 A18 (i - 1) ≤ tkp q k A13 A17 i) (m : Nat) : (le + m < cnt → 0 ≤ lof q k le A13 A18 m ∧ (0 < m → lof q k le A13 A18 m ≤ tkp q k A13 A17 (le + m) + tkl q k A13 A18 (le + m))) := by
  induction m with
  | zero => exact fun _ => ⟨Int.le_refl _, fun z => absurd z (Nat.lt_irrefl _)⟩
  | succ m ih =>
    intro h
    obtain ⟨i1, i2⟩ := ih (by omega)
    have g1 := h1 (le + 1 + m) (by omega) (by omega)
    rw [lof_s, show le + ((m + 1 : Nat) : Int) = le + 1 + m by omega]
    refine ⟨by omega, fun _ => ?_⟩
    by_cases z : m = 0
    · subst z
      have e : lof q k le A13 A18 0 = 0 := rfl
      omega
    · have g2 := h2 (le + 1 + m) (by omega) (by omega)
      rw [show le + 1 + (m : Int) - 1 = le + m by omega] at g2
      have := i2 (by omega)
      omega
theorem lof_dec {A13 A18 : Int → Int} (m : Nat) (h1 : ∀ i : Nat, i < m → 1 ≤ tkl q k A13 A18 (le + 1 + i)) : ∀ x, 0 ≤ x → x < lof q k le A13 A18 m → ∃ i : Nat, i < m ∧ ∃ y, 0 ≤ y ∧ y < tkl q k A13 A18 (le + 1 + i) ∧ x = lof q k le A13 A18 i + y := by
  induction m with
  | zero =>
    intro x x0 x1
    have e : lof q k le A13 A18 0 = 0 := rfl
    omega
  | succ m ih =>
    intro x x0 x1
    rw [lof_s] at x1
    by_cases c : x < lof q k le A13 A18 m
    · obtain ⟨i, i1, y, y0, y1, y2⟩ := ih (fun i hi => h1 i (by omega)) x x0 c
      exact ⟨i, by omega, y, y0, y1, y2⟩
    · exact ⟨m, by omega, x - lof q k le A13 A18 m, by omega, by omega, by omega⟩
theorem lof_m {A13 A18 : Int → Int} (m r : Nat) (h1 : ∀ i : Nat, i < m + r → 1 ≤ tkl q k A13 A18 (le + 1 + i)) : lof q k le A13 A18 m ≤ lof q k le A13 A18 (m + r) := by
  induction r with
  | zero => exact Int.le_refl _
  | succ r ih =>
    have := ih (fun i hi => h1 i (by omega))
    have := h1 (m + r) (by omega)
    rw [show m + (r + 1) = m + r + 1 from rfl, lof_s]
    omega
/-- what B holds after the letters of m tokens -/
def ltr (q k le : Int) (A2 A13 A17 A18 B : Int → Int) (m : Nat) : Prop := ∀ i : Nat, i < m → ∀ y, 0 ≤ y → y < tkl q k A13 A18 (le + 1 + i) → B (lof q k le A13 A18 i + y) = A2 (8192 * q + tkp q k A13 A17 (le + 1 + i) + y)
theorem m_take37 {v2 : Int32} {w o : Int} {B : Int → Int} (hn : 100000 ≤ n) (hq : 0 ≤ q ∧ q ≤ 1) (h4 : F 4 = q) (w0 : 0 ≤ w) (w1 : w < 8192) (p0 : 0 ≤ A 17 w) (l0 : 0 ≤ A 18 w) (p1 : A 17 w + A 18 w ≤ 8192) (o0 : 0 ≤ o) (o1 : o + A 18 w ≤ 8192) : ∃ B2 : Int → Int, hp_lp (gL_X11_takeLetters_37 n 0 (qz k) v2 (qz w)) n (qz 0, ms (u1 F 48 o) (u1 A 33 B) J) = some (ms (u1 F 48 (o + A 18 w)) (u1 A 33 B2) J) ∧ (∀ x, x < o → B2 x = B x) ∧ ∀ y, 0 ≤ y → y < A 18 w → B2 (o + y) = A 2 (8192 * q + A 17 w + y) := by
  have lp := lp_inv (b := gL_X11_takeLetters_37 n 0 (qz k) v2 (qz w)) (fun t c => ∃ B2 : Int → Int, c = (qz t, ms (u1 F 48 (o + t)) (u1 A 33 B2) J) ∧ (∀ x, x < o → B2 x = B x) ∧ ∀ y, 0 ≤ y → y < t → B2 (o + y) = A 2 (8192 * q + A 17 w + y)) (Q := fun s => ∃ B2 : Int → Int, s = ms (u1 F 48 (o + A 18 w)) (u1 A 33 B2) J ∧ (∀ x, x < o → B2 x = B x) ∧ ∀ y, 0 ≤ y → y < A 18 w → B2 (o + y) = A 2 (8192 * q + A 17 w + y)) (A 18 w) (n := n) (i0 := 0) l0 (by omega) (c0 := (qz 0, ms (u1 F 48 o) (u1 A 33 B) J)) ⟨B, by rw [Int.add_zero], fun _ _ => rfl, fun y y0 y1 => by omega⟩ ?_ ?_
  · obtain ⟨s, es, B2, rfl, h⟩ := lp
    exact ⟨B2, es, h⟩
  · rintro t c t0 t1 ⟨B2, rfl, h1, h2⟩
    refine ⟨_, ?_, v1 B2 (o + t) (A 2 (8192 * q + A 17 w + t)), rfl, fun x hx => by rw [v1_o (by omega)]; exact h1 x hx, fun y y0 y1 => ?_⟩
    · unfold gL_X11_takeLetters_37 g_X11_takeLetters_37
      simp only [zl1, zl8192]
      rw [gp_21, ga_18 w0 w1, u1_o (by decide), bd_some, if_neg (by rw [qz_le (by omega) (by omega) (by omega) (by omega)]; omega), gp_20, ga_17 w0 w1, u1_o (by decide), bd_some, gf_ms, u1_o (by decide), h4, qz_mul, qz_add, qz_add, gp_5, ga_2 (by omega) (by omega), u1_o (by decide), bd_some, gp_47, gf_ms, u1_s, ua_33 (by omega) (by omega), bd_some, gf_ms, u1_s, qz_add, wf_ms, bd_some, qz_add, u1_1, v2_u1, u1_s, u1_1, Int.add_assoc]
    · by_cases e : y = t
      · rw [e, v1_s]
      · rw [v1_o (by omega)]; exact h2 y y0 (by omega)
  · rintro c ⟨B2, rfl, h⟩
    refine ⟨_, ?_, B2, rfl, h⟩
    unfold gL_X11_takeLetters_37 g_X11_takeLetters_37
    rw [gp_21, ga_18 w0 w1, u1_o (by decide), bd_some, if_pos (by rw [qz_le (by omega) (by omega) (by omega) (by omega)]; omega)]
/-- what is known of the tokens of statement k -/
theorem bk_tl (G : BK b q S K P len f a ni j A J) (h0 : 0 ≤ k) (h1 : k < K) : (∀ i, 0 ≤ i → i < A 14 (200 * q + k) → 0 ≤ tkp q k (A 13) (A 17) i ∧ 1 ≤ tkl q k (A 13) (A 18) i) ∧ (∀ i, 0 < i → i < A 14 (200 * q + k) → tkp q k (A 13) (A 17) (i - 1) + tkl q k (A 13) (A 18) (i - 1) ≤ tkp q k (A 13) (A 17) i) ∧ ∀ i, 0 ≤ i → i < A 14 (200 * q + k) → tkp q k (A 13) (A 17) i + tkl q k (A 13) (A 18) i ≤ len := by
  obtain ⟨t1, t2, t3, t4, t5, t6, t7, t8, t9⟩ := bk_t G h0 h1
  unfold tkp tkl
  refine ⟨fun i i0 i1 => ?_, fun i i0 i1 => (t9 i (by omega) i1).2.2.2 i0, fun i i0 i1 => (t9 i i0 i1).2.1.2.2.1⟩
  obtain ⟨g1, ⟨u1', u2', u3, u4, u5⟩, g3, g4⟩ := t9 i i0 i1
  exact ⟨u1', u2'⟩
theorem m_take (hn : 100000 ≤ n) (hq : 0 ≤ q ∧ q ≤ 1) (h4 : F 4 = q) (G : BK b q S K P len f a ni j A J) (hR : Rbk b q len a A) (h0 : 0 ≤ k) (h1 : k < K) (hk : a (b + 8) k = 3) (hc : a (b + 29) k = 1) (hle : a (b + 30) k = le) : ∃ B : Int → Int, g_X11_takeLetters n 0 (qz k) (ms F A J) = some (ms (u1 F 48 (lof q k le (A 13) (A 18) (A 14 (200 * q + k) - le - 1).toNat)) (u1 A 33 B) J) ∧ ltr q k le (A 2) (A 13) (A 17) (A 18) B (A 14 (200 * q + k) - le - 1).toNat ∧ 0 ≤ lof q k le (A 13) (A 18) (A 14 (200 * q + k) - le - 1).toNat ∧ lof q k le (A 13) (A 18) (A 14 (200 * q + k) - le - 1).toNat ≤ 8192 := by
  have hK : K ≤ 200 := G.2.1.2.2.2.1
  have hln : len ≤ 8192 := G.1.2.2.2.2.2.2.2.1
  obtain ⟨t1, t2, t3, t4, t5, t6, t7, t8, t9⟩ := bk_t G h0 h1
  obtain ⟨g1, g2, g3⟩ := bk_tl G h0 h1
  obtain ⟨l1, l2, l3⟩ := G.2.2.2.2.2.2.2.2.2.2.2.1 k h0 h1 hk
  rw [hle] at l1 l2
  have hlb : ∀ m : Nat, le + m < A 14 (200 * q + k) → 0 ≤ lof q k le (A 13) (A 18) m ∧ lof q k le (A 13) (A 18) m ≤ 8192 := by
    intro m hm
    obtain ⟨y1, y2⟩ := lof_b l1 g1 g2 m hm
    by_cases z : m = 0
    · subst z
      have e : lof q k le (A 13) (A 18) 0 = 0 := rfl
      omega
    · have := y2 (by omega)
      have := g3 (le + m) (by omega) (by omega)
      omega
  have h33 : ∀ B : Int → Int, (∀ i, i ≠ 33 → u1 A 33 B i = A i) := fun B i hi => u1_o hi
  have hle' := m_listEnd (F := u1 F 48 0) (A := A) (J := J) hn hq (by rw [u1_o (by decide)]; exact h4) G hR h0 h1 hk hc
  rw [hle] at hle'
  unfold g_X11_takeLetters g_X11_takeLetters_0
  rw [zl0, wf_ms, bd_some, hle', bd_some, zl1, qz_add]
  by_cases cE : A 14 (200 * q + k) ≤ le
  · have eM : (A 14 (200 * q + k) - le - 1).toNat = 0 := by omega
    rw [eM]
    refine ⟨A 33, ?_, fun i hi => absurd hi (Nat.not_lt_zero _), Int.le_refl _, by show (0 : Int) ≤ 8192; omega⟩
    have e : hp_lp (gL_X11_takeLetters_13 n 0 (qz k)) n (qz (le + 1), ms (u1 F 48 0) A J) = some (ms (u1 F 48 0) A J) := by
      obtain ⟨n, rfl⟩ : ∃ x, n = x + 1 := ⟨n - 1, by omega⟩
      apply hp_lp_x
      unfold gL_X11_takeLetters_13 g_X11_takeLetters_13
      rw [m_at (q := q) (by rw [u1_o (by decide)]; exact h4), bd_some, gp_17, ga_14 (by omega) (by omega), bd_some, if_pos (by rw [qz_le (by omega) (by omega) (by omega) (by omega)]; omega)]
    rw [e, bd_some, u1_id (f := A) rfl]
    rfl
  have hend := hlb (A 14 (200 * q + k) - le - 1).toNat (by omega)
  have lp := lp_inv (b := gL_X11_takeLetters_13 n 0 (qz k)) (fun t c => ∃ B : Int → Int, c = (qz t, ms (u1 F 48 (lof q k le (A 13) (A 18) (t - le - 1).toNat)) (u1 A 33 B) J) ∧ ltr q k le (A 2) (A 13) (A 17) (A 18) B (t - le - 1).toNat) (Q := fun s => ∃ B : Int → Int, s = ms (u1 F 48 (lof q k le (A 13) (A 18) (A 14 (200 * q + k) - le - 1).toNat)) (u1 A 33 B) J ∧ ltr q k le (A 2) (A 13) (A 17) (A 18) B (A 14 (200 * q + k) - le - 1).toNat) (A 14 (200 * q + k)) (n := n) (i0 := le + 1) (by omega) (by omega) (c0 := (qz (le + 1), ms (u1 F 48 0) A J)) ⟨A 33, by rw [show (le + 1 - le - 1).toNat = 0 by omega, u1_id (f := A) rfl]; rfl, by rw [show (le + 1 - le - 1).toNat = 0 by omega]; exact fun i hi => absurd hi (Nat.not_lt_zero _)⟩ ?_ ?_
  · obtain ⟨s, es, B, rfl, h⟩ := lp
    exact ⟨B, by rw [es, bd_some], h, hend.1, hend.2⟩
  · rintro t c u0 u1' ⟨B, rfl, h⟩
    have hm : (t + 1 - le - 1).toNat = (t - le - 1).toNat + 1 := by omega
    have ht : le + 1 + (((t - le - 1).toNat : Nat) : Int) = t := by omega
    have y1 := g1 t (by omega) u1'
    have y3 := g3 t (by omega) u1'
    have z1 := hlb (t - le - 1).toNat (by omega)
    have z2 : lof q k le (A 13) (A 18) (t - le - 1).toNat + tkl q k (A 13) (A 18) t ≤ 8192 := by
      have e : lof q k le (A 13) (A 18) (t + 1 - le - 1).toNat = lof q k le (A 13) (A 18) (t - le - 1).toNat + tkl q k (A 13) (A 18) t := by
        rw [hm, lof_s, ht]
      by_cases y : t + 1 < A 14 (200 * q + k) + 1
      · have q1 := lof_b l1 g1 g2 (t + 1 - le - 1).toNat (by omega)
        have q2 := q1.2 (by omega)
        rw [show le + (((t + 1 - le - 1).toNat : Nat) : Int) = t by omega] at q2
        omega
      · omega
    obtain ⟨B2, eB, B1, B3⟩ := m_take37 (k := k) (v2 := qz t) (F := F) (A := A) (J := J) (B := B) (w := 4096 * q + A 13 (200 * q + k) + t) (o := lof q k le (A 13) (A 18) (t - le - 1).toNat) hn hq h4 (by omega) (by omega) y1.1 (by unfold tkl at y1; omega) (by unfold tkp tkl at y3; omega) z1.1 (by unfold tkl at z2; exact z2)
    refine ⟨_, ?_, B2, rfl, ?_⟩
    · unfold gL_X11_takeLetters_13 g_X11_takeLetters_13
      simp only [zl0, zl1]
      rw [m_at (q := q) (by rw [u1_o (by decide)]; exact h4), bd_some, gp_17, ga_14 (by omega) (by omega), h33 B 14 (by decide), bd_some, if_neg (by rw [qz_le (by omega) (by omega) (by omega) (by omega)]; omega), m_ptok (by rw [u1_o (by decide)]; exact h4) hq h0 (by omega), h33 B 13 (by decide), bd_some, eB, bd_some, qz_add, hm, lof_s, ht]
      rfl
    · rw [hm]
      intro i hi y y0 y2
      by_cases e : i = (t - le - 1).toNat
      · rw [e, ht] at y2 ⊢
        exact B3 y y0 y2
      · rw [B1 _ ?_]
        · exact h i (by omega) y y0 y2
        · have q1 := lof_m (q := q) (k := k) (le := le) (A13 := A 13) (A18 := A 18) (i + 1) ((t - le - 1).toNat - (i + 1)) (fun i hi => (g1 _ (by omega) (by omega)).2)
          rw [show i + 1 + ((t - le - 1).toNat - (i + 1)) = (t - le - 1).toNat by omega, lof_s] at q1
          omega
  · rintro c ⟨B, rfl, h⟩
    refine ⟨_, ?_, B, rfl, h⟩
    unfold gL_X11_takeLetters_13 g_X11_takeLetters_13
    rw [m_at (q := q) (by rw [u1_o (by decide)]; exact h4), bd_some, gp_17, ga_14 (by omega) (by omega), h33 B 14 (by decide), bd_some, if_pos (by rw [qz_le (by omega) (by omega) (by omega) (by omega)]; omega)]
end LET
