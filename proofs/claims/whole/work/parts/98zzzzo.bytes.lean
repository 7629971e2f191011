/-! What is told is made of characters; what telling leaves -/
section BYT
variable {n b b2 : Nat} {q S K P len dl N c k : Int} {nd nm nu can cn lo : Int → Int} {ch : Int → Int → Int} {WO : Int → List Int} {f f2 : Nat → Nat → Int} {d d2 : Nat → Nat} {a a2 : Nat → Int → Int} {ni ni2 : Nat → Nat} {j j2 : Nat → Int → Int64} {F F2 : Nat → Int} {A A2 : Nat → Int → Int} {J : Nat → Int → Int64}
def chs (L : List Int) : Prop := ∀ v, v ∈ L → 0 ≤ v ∧ v < 128
theorem chs_lby {L : List Int} (h : chs L) : lby L := by
  intro x hx
  have e : L.getD x 0 = L[x] := by
    rw [List.getD_eq_getElem?_getD, List.getElem?_eq_getElem hx]; rfl
  rw [e]
  exact h _ (List.getElem_mem hx)
theorem chs_a {L L2 : List Int} (h : chs L) (h2 : chs L2) : chs (L ++ L2) := by
  intro v hv
  rcases List.mem_append.mp hv with h1 | h1
  · exact h v h1
  · exact h2 v h1
theorem chs_1 {x : Int} (h0 : 0 ≤ x) (h1 : x < 128) : chs [x] := by
  intro v hv
  rw [List.mem_singleton.mp hv]
  exact ⟨h0, h1⟩
theorem chs_num {z : Int} : chs (num z) := by
  unfold num
  refine chs_a (fun v hv => ?_) (chs_1 (by omega) (by omega))
  have := dgl_r 3 _ v hv
  omega
theorem chs_nl (G : BK b q S K P len f a ni j A J) (hR : Rbk b q len a A) (k0 : 0 ≤ k) (k1 : k < K) : chs (nlx q (A 2) (A 8) (A 9) k) := by
  have hl : liv S K (300 + k) := Or.inr ⟨by omega, by omega⟩
  obtain ⟨n1, n2, n3, n4, n5, n6⟩ := bk_n G hl
  obtain ⟨g1, g2⟩ := G.2.1.2.2.2.2.2.2.2.2 k k0 k1
  intro v hv
  unfold nlx nmb at hv
  obtain ⟨x, hx, e⟩ := List.mem_map.mp hv
  have hx' := List.mem_range.mp hx
  have := hR (A 8 (200 * q + k) + x) (by omega) (by omega)
  have e' : A 2 (8192 * q + (A 8 (200 * q + k) + x)) = v := e
  omega
theorem chs_lst {nl : Int → List Int} {lab : Int → Int} {st : (Int → Int) × Int × List Int} (h0 : chs st.2.2) (h : ∀ y, 0 ≤ y → y < c → chs (nl (lab y))) (m : Nat) : (m : Int) ≤ c → chs (lst nl lab st m).2.2 := by
  induction m with
  | zero => intro _; exact h0
  | succ m ih =>
    intro hm
    show chs (lstep nl (lst nl lab st m) (lab m)).2.2
    have i := ih (by omega)
    unfold lstep
    split
    · exact chs_a (chs_a i (h m (by omega) (by omega))) (chs_1 (by omega) (by omega))
    · exact i
theorem chs_oe {sz usf lnn lab : Int → Int} (l : List Int) : ∀ st : (Int → Int) × Int × List Int, chs st.2.2 → chs (l.foldl (oe sz usf lnn lab) st).2.2 := by
  induction l with
  | nil => intro st h; exact h
  | cons e es ih =>
    intro st h
    show chs (es.foldl (oe sz usf lnn lab) (oe sz usf lnn lab st e)).2.2
    apply ih
    unfold oe
    split
    · split
      · exact chs_a (chs_a h chs_num) (chs_1 (by omega) (by omega))
      · exact chs_a h chs_num
    · exact chs_a h chs_num
theorem chs_wtx {nl : Int → List Int} (l : List Int) : ∀ x, (∀ e, e ∈ l → chs (nl e)) → chs (wtx nl x l) := by
  induction l with
  | nil => intro x _ v hv; exact absurd hv (by unfold wtx; simp)
  | cons e es ih =>
    intro x h
    unfold wtx
    refine chs_a (chs_a ?_ (h e List.mem_cons_self)) (ih _ (fun e' he => h e' (List.mem_cons_of_mem _ he)))
    split
    · intro v hv; exact absurd hv (by simp)
    · exact chs_1 (by omega) (by omega)
theorem wo_lab {sz : Int → Int} {row : Int → Int → Int} {lab : Int → Int} (NN : NT c K sz row lab WO) (m : Nat) : ∀ y : Int, 0 ≤ y → y < m → y < c → ∀ e, e ∈ WO y → 0 ≤ e ∧ e < K := by
  induction m with
  | zero => intro y y0 y1; omega
  | succ m ih =>
    intro y y0 y1 yc e he
    obtain ⟨h1, h2, h3, h4, h5, h6⟩ := NN y y0 yc
    rw [h6] at he
    rcases List.mem_append.mp he with g | g
    · obtain ⟨t, t1, t2⟩ := mem_cat_x _ g
      obtain ⟨r1, r2⟩ := h5 t (by omega) (by omega)
      exact ih _ r1 (by omega) (by omega) e t2
    · rw [List.mem_singleton.mp g]
      exact ⟨h3, h4⟩
theorem rel_tl (R : Rel0 q b b2 S K P len dl f d a ni j F A J) (hf : ∀ x, x < 78 ∨ (93 ≤ x ∧ x ≠ 103 ∧ x ≠ 105 ∧ x ≠ d 3) → f2 x = f x) (ha : ∀ x, x < 78 ∨ (93 ≤ x ∧ x < 104) ∨ (117 ≤ x ∧ x ≠ d 3 + 1) → a2 x = a x) (hni : ∀ x, x < 78 ∨ (93 ≤ x ∧ x < 104) → ni2 x = ni x) (hj : ∀ x, x < 78 → j2 x = j x) (hF : ∀ x, ¬(45 ≤ x ∧ x ≤ 55) → x ≠ 59 → x ≠ 67 → x ≠ 82 → x ≠ 85 → F2 x = F x) (hA : ∀ x, x < 32 ∨ x = 48 ∨ x = 49 ∨ x = 57 → A2 x = A x) (hd : ∀ x, x < 4 → d2 x = d x) (W : RWm 83 f2 a2 ni2) (W5 : Rw (f2 105 3) (f2 105 2) (ni2 (105 + 1)) (nC0 (105 + 2)) 1024 (a2 (105 + 2))) : Rel0 q b b2 S K P len dl f2 d2 a2 ni2 j2 F2 A2 J := by
  have R1 := R
  obtain ⟨r1, r2, r3, r4, r5, r6, r7, r8, r9, r10, r11, r12, r13, r14⟩ := R1
  have e2 : d2 2 = d 2 := hd 2 (by decide)
  have e3 : d2 3 = d 3 := hd 3 (by decide)
  refine rel_gen R (fun i i1 i2 => hf i (by omega)) (fun i i1 i2 => ha i (by omega)) (fun i i1 i2 => hni i (by omega)) (fun i i1 i2 => hj i (by omega)) (fun k hk => hF k (by omega) (by omega) (by omega) (by omega) (by omega)) (fun i hi => hA i (by omega)) ⟨rfl, rfl⟩ (hd 0 (by decide)) (hd 1 (by decide)) (by rw [e2, e3]; exact r6) ?_ ?_ ?_ ?_ ?_
  · unfold Rsh at r10 ⊢
    rw [e2, hf (d 2) (by omega), ha (d 2 + 1) (by omega), hF 80 (by omega) (by omega) (by omega) (by omega) (by omega), hA 57 (by omega)]
    exact r10
  · unfold Rtr at r11 ⊢
    rw [hf 94 (by omega), ha (94 + 1) (by omega), ha (94 + 2) (by omega), hni (94 + 1) (by omega), hF 71 (by omega) (by omega) (by omega) (by omega) (by omega), hA 48 (by omega), hA 49 (by omega)]
    exact r11
  · obtain ⟨w1, w2⟩ := W
    obtain ⟨m1, m2, m3, m4⟩ := r12
    refine ⟨w1, w2, ?_, W5⟩
    rw [hf 97 (by omega), hni (97 + 1) (by omega), ha (97 + 2) (by omega)]
    exact m3
  · rw [hf 0 (by omega), hF 2 (by omega) (by omega) (by omega) (by omega) (by omega)]
    exact r13
  · rw [hf 0 (by omega), hF 3 (by omega) (by omega) (by omega) (by omega) (by omega)]
    exact r14
end BYT
