/-! The two machines of the class; rows on a stack -/
def mch (m : Nat) : Prop := m = 83 ∨ m = 93
def mi (m : Nat) : Nat := if m = 83 then 7 else 8
section MCH
variable {n m v w : Nat} {k x y M R S l : Int} {f : Nat → Nat → Int} {d : Nat → Nat} {a : Nat → Int → Int} {ni : Nat → Nat} {j : Nat → Int → Int64} {q : Nat} {u : Int64} {L T L2 T2 g : Int → Int}
theorem gpm_0 (h : mch m) : gP (cs f d a ni j) m 0 = m + 1 := by rcases h with rfl | rfl <;> rfl
theorem gpm_1 (h : mch m) : gP (cs f d a ni j) m 1 = m + 4 := by rcases h with rfl | rfl <;> rfl
theorem gpm_2 (h : mch m) : gP (cs f d a ni j) m 2 = d (mi m) := by rcases h with rfl | rfl <;> rfl
theorem gpm_3 (h : mch m) : gP (cs f d a ni j) m 3 = m + 7 := by rcases h with rfl | rfl <;> rfl
theorem gpm_4 (h : mch m) : gP (cs f d a ni j) m 4 = m + 8 := by rcases h with rfl | rfl <;> rfl
theorem gpm_5 (h : mch m) : gP (cs f d a ni j) m 5 = m + 9 := by rcases h with rfl | rfl <;> rfl
theorem wpm_2 (h : mch m) : wP (cs f d a ni j) m 2 q = some (cs f (u1 d (mi m) q) a ni j) := by
  rcases h with rfl | rfl
  · exact wp_83_2
  · exact wp_93_2
theorem rwm_1 (h : mch m) : rws (m + 1) := by rcases h with rfl | rfl <;> rfl
theorem rwm_4 (h : mch m) : rws (m + 4) := by rcases h with rfl | rfl <;> rfl
theorem ncm_1 (h : mch m) : nC0 (m + 1 + 2) = 102 := by rcases h with rfl | rfl <;> rfl
theorem ncm_4 (h : mch m) : nC0 (m + 4 + 2) = 201 := by rcases h with rfl | rfl <;> rfl
theorem gam_7 (h : mch m) (h0 : 0 ≤ x) (h1 : x < 300) : gA (cs f d a ni j) (m + 7) (qz x) = some (qz (a (m + 7) x)) := by
  rcases h with rfl | rfl
  · exact gac_90 h0 h1
  · exact gac_100 h0 h1
theorem uam_7 (h : mch m) (h0 : 0 ≤ x) (h1 : x < 300) : uA 0 (cs f d a ni j) (m + 7) (qz x) (qz y) = some (cs f d (v2 a (m + 7) x y) ni j) := by
  rcases h with rfl | rfl
  · exact uac_90 h0 h1
  · exact uac_100 h0 h1
theorem gjm_8 (h : mch m) (h0 : 0 ≤ x) (h1 : x < 1500) : gJ (cs f d a ni j) (m + 8) (qz x) = some (j (m + 8) x) := by
  rcases h with rfl | rfl
  · exact gjc_91 h0 h1
  · exact gjc_101 h0 h1
theorem ujm_8 (h : mch m) (h0 : 0 ≤ x) (h1 : x < 1500) : uJ (cs f d a ni j) (m + 8) (qz x) u = some (cs f d a ni (v2 j (m + 8) x u)) := by
  rcases h with rfl | rfl
  · exact ujc_91 h0 h1
  · exact ujc_101 h0 h1
theorem gjm_9 (h : mch m) (h0 : 0 ≤ x) (h1 : x < 5) : gJ (cs f d a ni j) (m + 9) (qz x) = some (j (m + 9) x) := by
  rcases h with rfl | rfl
  · exact gjc_92 h0 h1
  · exact gjc_102 h0 h1
theorem ujm_9 (h : mch m) (h0 : 0 ≤ x) (h1 : x < 5) : uJ (cs f d a ni j) (m + 9) (qz x) u = some (cs f d a ni (v2 j (m + 9) x u)) := by
  rcases h with rfl | rfl
  · exact ujc_92 h0 h1
  · exact ujc_102 h0 h1
theorem flm_8 (h : mch m) (hn : 100000 ≤ n) : g_J7_fill_d0a16 n (m + 8) u (cs f d a ni j) = some (cs f d a ni (u1 j (m + 8) (fl (j (m + 8)) 1500 u))) := c_fillJ (by rcases h with rfl | rfl <;> rfl) (by omega) (by omega)
theorem flm_9 (h : mch m) (hn : 100000 ≤ n) : g_J7_fill_d0a16 n (m + 9) u (cs f d a ni j) = some (cs f d a ni (u1 j (m + 9) (fl (j (m + 9)) 5 u))) := c_fillJ (by rcases h with rfl | rfl <;> rfl) (by omega) (by omega)
/-- rows of the class and things of the reference -/
def RWL (v : Nat) (M R S : Int) (f : Nat → Nat → Int) (a : Nat → Int → Int) (ni : Nat → Nat) (L T : Int → Int) : Prop := Rw (f v 3) (f v 2) (ni (v + 1)) (nC0 (v + 2)) M (a (v + 2)) ∧ f v 3 = R ∧ f v 2 = a (v + 2) R ∧ ∀ r, 0 ≤ r → r < R → a (v + 2) (r + 1) - a (v + 2) r = L r ∧ 1 ≤ L r ∧ L r ≤ 200 ∧ ∀ x, 0 ≤ x → x < L r → a (v + 1) (a (v + 2) r + x) = T (200 * r + x) ∧ 0 ≤ T (200 * r + x) ∧ T (200 * r + x) < S
theorem rwl_u (H : RWL v M R S f a ni L T) : ∀ r : Nat, (r : Int) ≤ R → 0 ≤ a (v + 2) r ∧ a (v + 2) r ≤ 200 * r := by
  obtain ⟨h1, h2, h3, h4⟩ := H
  obtain ⟨r1, r2, r3, r4, r5, r6, r7, r8, r9, r10, r11, r12⟩ := h1
  intro r
  induction r with
  | zero =>
    intro _
    show 0 ≤ a (v + 2) 0 ∧ a (v + 2) 0 ≤ 0
    rw [r10]
    omega
  | succ r ih =>
    intro h
    have i := ih (by omega)
    have := h4 r (by omega) (by omega)
    rw [show ((r + 1 : Nat) : Int) = (r : Int) + 1 by omega]
    omega
theorem rwl_0 (H : RWL v M R S f a ni L T) : 0 ≤ R := by
  rw [← H.2.1]
  exact H.1.1
theorem c_push (hn : 100000 ≤ n) (hv : rws v) (hw : rws w) {M2 : Int} (H : RWL v M R S f a ni L T) (H2 : Rw (f w 3) (f w 2) (ni (w + 1)) (nC0 (w + 2)) M2 (a (w + 2))) (k0 : 0 ≤ k) (k1 : k < f w 3) (hl : a (w + 2) (k + 1) - a (w + 2) k = l) (l0 : 1 ≤ l) (l1 : l ≤ 200) (hs : ∀ x, 0 ≤ x → x < l → a (w + 1) (a (w + 2) k + x) = g x ∧ 0 ≤ g x ∧ g x < S) (hM : 200 * R + 200 ≤ M) (hC : R + 1 < (nC0 (v + 2) : Int)) (hL : L2 R = l) (hL2 : ∀ r, 0 ≤ r → r < R → L2 r = L r) (hT : ∀ x, 0 ≤ x → x < l → T2 (200 * R + x) = g x) (hT2 : ∀ y, 0 ≤ y → y < 200 * R → T2 y = T y) : ∃ f2 a2 ni2, ((g_X5_addFrom n v w (qz k) (qz 0) (cs f d a ni j)).bind fun x => g_X5_endRow n v x) = some (cs f2 d a2 ni2 j) ∧ RWL v M (R + 1) S f2 a2 ni2 L2 T2 ∧ (∀ i, i ≠ v → f2 i = f i) ∧ (∀ i, i ≠ v + 1 → i ≠ v + 2 → a2 i = a i) ∧ ∀ i, i ≠ v + 1 → ni2 i = ni i := by
  have R0 := rwl_0 H
  have hu := rwl_u H R.toNat (by omega)
  rw [show ((R.toNat : Nat) : Int) = R by omega] at hu
  obtain ⟨h1, h2, h3, h4⟩ := H
  obtain ⟨G, N, e1, a1, a2, a3⟩ := c_addFrom (f := f) (d := d) (a := a) (ni := ni) (j := j) (n := n) (i := 0) (l := l) hv hw h1 H2 k0 k1 (by omega) (by omega) (by omega) (by omega) hn
  have e2 := c_endRow (f := u2 f v 2 (f v 2 + l)) (d := d) (a := u1 a (v + 1) G) (ni := u1 ni (v + 1) N) (j := j) (n := n) (M := M) hv (by rw [u2_c (by decide), u2_a, u1_s, u1_o (by omega)]; exact a3) (by rw [u2_c (by decide), h2]; exact hC)
  rw [u2_c (by decide), u2_a, u1_s, u1_o (by omega), h2] at e2
  obtain ⟨e3, e4⟩ := e2
  refine ⟨_, _, _, by rw [e1, bd_some, e3], ⟨?_, by rw [u2_a], ?_, fun r r0 r1 => ?_⟩, fun i hi => by rw [u2_b hi, u2_b hi], fun i i1 i2 => by rw [v2_o i2, u1_o i1], fun i hi => u1_o hi⟩
  · rw [u2_a, u2_c (by decide), u2_a, u1_s, v2_s, u1_o (by omega)]
    exact e4
  · rw [u2_c (by decide), u2_a, v2_s, v1_s]
  · rw [v2_s, v2_o (by omega), u1_s, u1_o (by omega)]
    by_cases e : r = R
    · subst e
      rw [v1_s, v1_o (by omega), hL, h3]
      refine ⟨by omega, l0, l1, fun x x0 x1 => ?_⟩
      rw [← h3, a2 x x0 x1, hT x x0 x1, Int.add_zero]
      exact hs x x0 x1
    · obtain ⟨g1, g2, g3, g4⟩ := h4 r r0 (by omega)
      rw [v1_o (by omega), v1_o (by omega), hL2 r r0 (by omega)]
      refine ⟨g1, g2, g3, fun x x0 x1 => ?_⟩
      have hm := h1.2.2.2.2.2.2.2.2.2.2.2 (r + 1) R (by omega) (by omega) (by omega)
      rw [a1 _ (by omega), hT2 _ (by omega) (by omega)]
      exact g4 x x0 x1
end MCH
