/-! What the constructors leave: every cell -/
def allF (P : Nat → hp_E → Prop) : Nat → List hp_E → Prop
  | _, [] => True
  | i, e :: es => P i e ∧ allF P (i + 1) es
theorem allF_g {P : Nat → hp_E → Prop} (L : List hp_E) : ∀ k, allF P k L → ∀ i, i < L.length → ∃ e, L[i]? = some e ∧ P (k + i) e := by
  induction L with
  | nil => intro k _ i hi; exact absurd hi (Nat.not_lt_zero _)
  | cons e es ih =>
    intro k h i hi
    cases i with
    | zero => exact ⟨e, rfl, h.1⟩
    | succ i =>
      obtain ⟨e2, h1, h2⟩ := ih (k + 1) h.2 i (Nat.lt_of_succ_lt_succ hi)
      refine ⟨e2, h1, ?_⟩
      rw [show k + (i + 1) = k + 1 + i by omega]
      exact h2
theorem allF_a {P : Nat → hp_E → Prop} {L2 : List hp_E} (L : List hp_E) : ∀ k, allF P k L → allF P (k + L.length) L2 → allF P k (L ++ L2) := by
  induction L with
  | nil => intro k _ h; exact h
  | cons e es ih =>
    intro k h h2
    refine ⟨h.1, ih (k + 1) h.2 ?_⟩
    rw [show k + 1 + es.length = k + (es.length + 1) by omega]
    exact h2
def aI0 (i j : Nat) : Int32 := if (i = 4 ∨ i = 36) ∧ j < 256 then -1 else 0
/-- the cell i, as the tables have it -/
def okC (tg nn : Nat → Nat) (pp : Nat → Nat → Nat) (aa : Nat → Nat → Int32) (z i : Nat) (e : hp_E) : Prop := (tg i < 5 ∧ tg i ≠ 3 → e = .inl (kd (tg i), nn i, aa i)) ∧ (tg i = 3 → e = .inr (.inl (nn i, fun _ => 0))) ∧ ∀ c, tg i = 10 + c → ∃ V, e = ob c V ∧ ∀ k, k < nf c → V k = if ftag c k = 99 then .int 0 else .ref (z + pp i k)
theorem okC_a {tg nn : Nat → Nat} {pp : Nat → Nat → Nat} {aa : Nat → Nat → Int32} {z i t m : Nat} {g : Nat → Int32} (ht : tg i = t) (h5 : t < 5) (h3 : t ≠ 3) (hm : nn i = m) (hg : aa i = g) : okC tg nn pp aa z i (.inl (kd t, m, g)) := ⟨fun _ => by rw [ht, hm, hg], fun h => by omega, fun c h => by omega⟩
theorem okC_j {tg nn : Nat → Nat} {pp : Nat → Nat → Nat} {aa : Nat → Nat → Int32} {z i m : Nat} (ht : tg i = 3) (hm : nn i = m) : okC tg nn pp aa z i (aj m) := ⟨fun h => by omega, fun _ => by rw [hm], fun c h => by omega⟩
theorem okC_o {tg nn : Nat → Nat} {pp : Nat → Nat → Nat} {aa : Nat → Nat → Int32} {z i c : Nat} {V : Nat → Value} (ht : tg i = 10 + c) (h : ∀ k, k < nf c → V k = if ftag c k = 99 then .int 0 else .ref (z + pp i k)) : okC tg nn pp aa z i (ob c V) := ⟨fun h => by omega, fun h => by omega, fun c2 h2 => by
  have e : c2 = c := by omega
  subst e
  exact ⟨V, rfl, h⟩⟩
theorem upd_s {V : Nat → Value} {k : Nat} {v : Value} : updV V k v k = v := by simp [updV]
theorem upd_o {V : Nat → Value} {k k2 : Nat} {v : Value} (h : k2 ≠ k) : updV V k v k2 = V k2 := by simp [updV, h]
theorem aI0_z {i : Nat} (h : i ≠ 4) (h2 : i ≠ 36) : aI0 i = fun _ => 0 := by
  funext j
  simp [aI0, h, h2]
theorem aI0_m {i : Nat} (h : i = 4 ∨ i = 36) : aI0 i = fun j => if j < 256 then -1 else 0 := by
  funext j
  simp [aI0, h]
set_option maxRecDepth 20000 in
theorem allC (z : Nat) : allF (okC tC0 nC0 pC0 aI0 z) 0 (ob 10 (wX10 (fun k => defaultValue (tyX10 k)) (z + 1)) :: eX10 (z + 1)) := by
  simp only [eX10, eX0, eX2, eX5, eX4, eX7, eX3, eX1, eX8, eX9, List.cons_append, List.nil_append, List.append_nil, List.append_assoc, allF, Nat.reduceAdd, Nat.zero_add, and_true]
  refine ⟨?_, ?_, ?_, ?_, ?_, ?_, ?_, ?_, ?_, ?_, ?_, ?_, ?_, ?_, ?_, ?_, ?_, ?_, ?_, ?_, ?_, ?_, ?_, ?_, ?_, ?_, ?_, ?_, ?_, ?_, ?_, ?_, ?_, ?_, ?_, ?_, ?_, ?_, ?_, ?_, ?_, ?_, ?_, ?_, ?_, ?_, ?_, ?_, ?_, ?_, ?_, ?_, ?_, ?_, ?_, ?_, ?_, ?_, ?_, ?_, ?_, ?_, ?_, ?_, ?_, ?_, ?_, ?_, ?_, ?_, ?_, ?_, ?_, ?_, ?_, ?_, ?_, ?_, ?_, ?_, ?_, ?_, ?_, ?_, ?_, ?_, ?_, ?_, ?_, ?_, ?_, ?_, ?_, ?_, ?_, ?_, ?_, ?_, ?_, ?_, ?_, ?_, ?_, ?_, ?_, ?_, ?_, ?_, ?_, ?_, ?_, ?_, ?_, ?_, ?_, ?_, ?_, ?_, ?_, ?_, ?_⟩
  · exact (show okC tC0 nC0 pC0 aI0 z 0 _ from okC_o (c := 10) rfl (fun k hk => by
    have hk2 : k < 11 := hk
    match k, hk2 with
    | 0, _ => rfl
    | 1, _ => rfl
    | 2, _ => rfl
    | 3, _ => rfl
    | 4, _ => rfl
    | 5, _ => rfl
    | 6, _ => rfl
    | 7, _ => rfl
    | 8, _ => rfl
    | 9, _ => rfl
    | 10, _ => rfl
    | k + 11, hk => exact absurd hk (by omega)))
  · exact (show okC tC0 nC0 pC0 aI0 z 1 _ from okC_o (c := 0) rfl (fun k hk => by
    have hk2 : k < 18 := hk
    match k, hk2 with
    | 0, _ => rfl
    | 1, _ => rfl
    | 2, _ => rfl
    | 3, _ => rfl
    | 4, _ => rfl
    | 5, _ => rfl
    | 6, _ => rfl
    | 7, _ => rfl
    | 8, _ => rfl
    | 9, _ => rfl
    | 10, _ => rfl
    | 11, _ => rfl
    | 12, _ => rfl
    | 13, _ => rfl
    | 14, _ => rfl
    | 15, _ => rfl
    | 16, _ => rfl
    | 17, _ => rfl
    | k + 18, hk => exact absurd hk (by omega)))
  · exact (show okC tC0 nC0 pC0 aI0 z 2 _ from okC_o (c := 2) rfl (fun k hk => by
    have hk2 : k < 5 := hk
    match k, hk2 with
    | 0, _ => rfl
    | 1, _ => rfl
    | 2, _ => rfl
    | 3, _ => rfl
    | 4, _ => rfl
    | k + 5, hk => exact absurd hk (by omega)))
  · exact (show okC tC0 nC0 pC0 aI0 z 3 _ from okC_a (t := 1) rfl (by decide) (by decide) rfl (aI0_z (by decide) (by decide)))
  · exact (show okC tC0 nC0 pC0 aI0 z 4 _ from okC_a (t := 0) rfl (by decide) (by decide) rfl (aI0_m (by decide)))
  · exact (show okC tC0 nC0 pC0 aI0 z 5 _ from okC_a (t := 0) rfl (by decide) (by decide) rfl (aI0_z (by decide) (by decide)))
  · exact (show okC tC0 nC0 pC0 aI0 z 6 _ from okC_a (t := 0) rfl (by decide) (by decide) rfl (aI0_z (by decide) (by decide)))
  · exact (show okC tC0 nC0 pC0 aI0 z 7 _ from okC_a (t := 0) rfl (by decide) (by decide) rfl (aI0_z (by decide) (by decide)))
  · exact (show okC tC0 nC0 pC0 aI0 z 8 _ from okC_a (t := 1) rfl (by decide) (by decide) rfl (aI0_z (by decide) (by decide)))
  · exact (show okC tC0 nC0 pC0 aI0 z 9 _ from okC_a (t := 0) rfl (by decide) (by decide) rfl (aI0_z (by decide) (by decide)))
  · exact (show okC tC0 nC0 pC0 aI0 z 10 _ from okC_a (t := 0) rfl (by decide) (by decide) rfl (aI0_z (by decide) (by decide)))
  · exact (show okC tC0 nC0 pC0 aI0 z 11 _ from okC_a (t := 0) rfl (by decide) (by decide) rfl (aI0_z (by decide) (by decide)))
  · exact (show okC tC0 nC0 pC0 aI0 z 12 _ from okC_o (c := 5) rfl (fun k hk => by
    have hk2 : k < 4 := hk
    match k, hk2 with
    | 0, _ => rfl
    | 1, _ => rfl
    | 2, _ => rfl
    | 3, _ => rfl
    | k + 4, hk => exact absurd hk (by omega)))
  · exact (show okC tC0 nC0 pC0 aI0 z 13 _ from okC_a (t := 4) rfl (by decide) (by decide) rfl (aI0_z (by decide) (by decide)))
  · exact (show okC tC0 nC0 pC0 aI0 z 14 _ from okC_a (t := 0) rfl (by decide) (by decide) rfl (aI0_z (by decide) (by decide)))
  · exact (show okC tC0 nC0 pC0 aI0 z 15 _ from okC_o (c := 5) rfl (fun k hk => by
    have hk2 : k < 4 := hk
    match k, hk2 with
    | 0, _ => rfl
    | 1, _ => rfl
    | 2, _ => rfl
    | 3, _ => rfl
    | k + 4, hk => exact absurd hk (by omega)))
  · exact (show okC tC0 nC0 pC0 aI0 z 16 _ from okC_a (t := 4) rfl (by decide) (by decide) rfl (aI0_z (by decide) (by decide)))
  · exact (show okC tC0 nC0 pC0 aI0 z 17 _ from okC_a (t := 0) rfl (by decide) (by decide) rfl (aI0_z (by decide) (by decide)))
  · exact (show okC tC0 nC0 pC0 aI0 z 18 _ from okC_o (c := 5) rfl (fun k hk => by
    have hk2 : k < 4 := hk
    match k, hk2 with
    | 0, _ => rfl
    | 1, _ => rfl
    | 2, _ => rfl
    | 3, _ => rfl
    | k + 4, hk => exact absurd hk (by omega)))
  · exact (show okC tC0 nC0 pC0 aI0 z 19 _ from okC_a (t := 4) rfl (by decide) (by decide) rfl (aI0_z (by decide) (by decide)))
  · exact (show okC tC0 nC0 pC0 aI0 z 20 _ from okC_a (t := 0) rfl (by decide) (by decide) rfl (aI0_z (by decide) (by decide)))
  · exact (show okC tC0 nC0 pC0 aI0 z 21 _ from okC_o (c := 5) rfl (fun k hk => by
    have hk2 : k < 4 := hk
    match k, hk2 with
    | 0, _ => rfl
    | 1, _ => rfl
    | 2, _ => rfl
    | 3, _ => rfl
    | k + 4, hk => exact absurd hk (by omega)))
  · exact (show okC tC0 nC0 pC0 aI0 z 22 _ from okC_a (t := 4) rfl (by decide) (by decide) rfl (aI0_z (by decide) (by decide)))
  · exact (show okC tC0 nC0 pC0 aI0 z 23 _ from okC_a (t := 0) rfl (by decide) (by decide) rfl (aI0_z (by decide) (by decide)))
  · exact (show okC tC0 nC0 pC0 aI0 z 24 _ from okC_o (c := 5) rfl (fun k hk => by
    have hk2 : k < 4 := hk
    match k, hk2 with
    | 0, _ => rfl
    | 1, _ => rfl
    | 2, _ => rfl
    | 3, _ => rfl
    | k + 4, hk => exact absurd hk (by omega)))
  · exact (show okC tC0 nC0 pC0 aI0 z 25 _ from okC_a (t := 4) rfl (by decide) (by decide) rfl (aI0_z (by decide) (by decide)))
  · exact (show okC tC0 nC0 pC0 aI0 z 26 _ from okC_a (t := 0) rfl (by decide) (by decide) rfl (aI0_z (by decide) (by decide)))
  · exact (show okC tC0 nC0 pC0 aI0 z 27 _ from okC_o (c := 5) rfl (fun k hk => by
    have hk2 : k < 4 := hk
    match k, hk2 with
    | 0, _ => rfl
    | 1, _ => rfl
    | 2, _ => rfl
    | 3, _ => rfl
    | k + 4, hk => exact absurd hk (by omega)))
  · exact (show okC tC0 nC0 pC0 aI0 z 28 _ from okC_a (t := 4) rfl (by decide) (by decide) rfl (aI0_z (by decide) (by decide)))
  · exact (show okC tC0 nC0 pC0 aI0 z 29 _ from okC_a (t := 0) rfl (by decide) (by decide) rfl (aI0_z (by decide) (by decide)))
  · exact (show okC tC0 nC0 pC0 aI0 z 30 _ from okC_a (t := 1) rfl (by decide) (by decide) rfl (aI0_z (by decide) (by decide)))
  · exact (show okC tC0 nC0 pC0 aI0 z 31 _ from okC_a (t := 0) rfl (by decide) (by decide) rfl (aI0_z (by decide) (by decide)))
  · exact (show okC tC0 nC0 pC0 aI0 z 32 _ from okC_j rfl rfl)
  · exact (show okC tC0 nC0 pC0 aI0 z 33 _ from okC_o (c := 0) rfl (fun k hk => by
    have hk2 : k < 18 := hk
    match k, hk2 with
    | 0, _ => rfl
    | 1, _ => rfl
    | 2, _ => rfl
    | 3, _ => rfl
    | 4, _ => rfl
    | 5, _ => rfl
    | 6, _ => rfl
    | 7, _ => rfl
    | 8, _ => rfl
    | 9, _ => rfl
    | 10, _ => rfl
    | 11, _ => rfl
    | 12, _ => rfl
    | 13, _ => rfl
    | 14, _ => rfl
    | 15, _ => rfl
    | 16, _ => rfl
    | 17, _ => rfl
    | k + 18, hk => exact absurd hk (by omega)))
  · exact (show okC tC0 nC0 pC0 aI0 z 34 _ from okC_o (c := 2) rfl (fun k hk => by
    have hk2 : k < 5 := hk
    match k, hk2 with
    | 0, _ => rfl
    | 1, _ => rfl
    | 2, _ => rfl
    | 3, _ => rfl
    | 4, _ => rfl
    | k + 5, hk => exact absurd hk (by omega)))
  · exact (show okC tC0 nC0 pC0 aI0 z 35 _ from okC_a (t := 1) rfl (by decide) (by decide) rfl (aI0_z (by decide) (by decide)))
  · exact (show okC tC0 nC0 pC0 aI0 z 36 _ from okC_a (t := 0) rfl (by decide) (by decide) rfl (aI0_m (by decide)))
  · exact (show okC tC0 nC0 pC0 aI0 z 37 _ from okC_a (t := 0) rfl (by decide) (by decide) rfl (aI0_z (by decide) (by decide)))
  · exact (show okC tC0 nC0 pC0 aI0 z 38 _ from okC_a (t := 0) rfl (by decide) (by decide) rfl (aI0_z (by decide) (by decide)))
  · exact (show okC tC0 nC0 pC0 aI0 z 39 _ from okC_a (t := 0) rfl (by decide) (by decide) rfl (aI0_z (by decide) (by decide)))
  · exact (show okC tC0 nC0 pC0 aI0 z 40 _ from okC_a (t := 1) rfl (by decide) (by decide) rfl (aI0_z (by decide) (by decide)))
  · exact (show okC tC0 nC0 pC0 aI0 z 41 _ from okC_a (t := 0) rfl (by decide) (by decide) rfl (aI0_z (by decide) (by decide)))
  · exact (show okC tC0 nC0 pC0 aI0 z 42 _ from okC_a (t := 0) rfl (by decide) (by decide) rfl (aI0_z (by decide) (by decide)))
  · exact (show okC tC0 nC0 pC0 aI0 z 43 _ from okC_a (t := 0) rfl (by decide) (by decide) rfl (aI0_z (by decide) (by decide)))
  · exact (show okC tC0 nC0 pC0 aI0 z 44 _ from okC_o (c := 5) rfl (fun k hk => by
    have hk2 : k < 4 := hk
    match k, hk2 with
    | 0, _ => rfl
    | 1, _ => rfl
    | 2, _ => rfl
    | 3, _ => rfl
    | k + 4, hk => exact absurd hk (by omega)))
  · exact (show okC tC0 nC0 pC0 aI0 z 45 _ from okC_a (t := 4) rfl (by decide) (by decide) rfl (aI0_z (by decide) (by decide)))
  · exact (show okC tC0 nC0 pC0 aI0 z 46 _ from okC_a (t := 0) rfl (by decide) (by decide) rfl (aI0_z (by decide) (by decide)))
  · exact (show okC tC0 nC0 pC0 aI0 z 47 _ from okC_o (c := 5) rfl (fun k hk => by
    have hk2 : k < 4 := hk
    match k, hk2 with
    | 0, _ => rfl
    | 1, _ => rfl
    | 2, _ => rfl
    | 3, _ => rfl
    | k + 4, hk => exact absurd hk (by omega)))
  · exact (show okC tC0 nC0 pC0 aI0 z 48 _ from okC_a (t := 4) rfl (by decide) (by decide) rfl (aI0_z (by decide) (by decide)))
  · exact (show okC tC0 nC0 pC0 aI0 z 49 _ from okC_a (t := 0) rfl (by decide) (by decide) rfl (aI0_z (by decide) (by decide)))
  · exact (show okC tC0 nC0 pC0 aI0 z 50 _ from okC_o (c := 5) rfl (fun k hk => by
    have hk2 : k < 4 := hk
    match k, hk2 with
    | 0, _ => rfl
    | 1, _ => rfl
    | 2, _ => rfl
    | 3, _ => rfl
    | k + 4, hk => exact absurd hk (by omega)))
  · exact (show okC tC0 nC0 pC0 aI0 z 51 _ from okC_a (t := 4) rfl (by decide) (by decide) rfl (aI0_z (by decide) (by decide)))
  · exact (show okC tC0 nC0 pC0 aI0 z 52 _ from okC_a (t := 0) rfl (by decide) (by decide) rfl (aI0_z (by decide) (by decide)))
  · exact (show okC tC0 nC0 pC0 aI0 z 53 _ from okC_o (c := 5) rfl (fun k hk => by
    have hk2 : k < 4 := hk
    match k, hk2 with
    | 0, _ => rfl
    | 1, _ => rfl
    | 2, _ => rfl
    | 3, _ => rfl
    | k + 4, hk => exact absurd hk (by omega)))
  · exact (show okC tC0 nC0 pC0 aI0 z 54 _ from okC_a (t := 4) rfl (by decide) (by decide) rfl (aI0_z (by decide) (by decide)))
  · exact (show okC tC0 nC0 pC0 aI0 z 55 _ from okC_a (t := 0) rfl (by decide) (by decide) rfl (aI0_z (by decide) (by decide)))
  · exact (show okC tC0 nC0 pC0 aI0 z 56 _ from okC_o (c := 5) rfl (fun k hk => by
    have hk2 : k < 4 := hk
    match k, hk2 with
    | 0, _ => rfl
    | 1, _ => rfl
    | 2, _ => rfl
    | 3, _ => rfl
    | k + 4, hk => exact absurd hk (by omega)))
  · exact (show okC tC0 nC0 pC0 aI0 z 57 _ from okC_a (t := 4) rfl (by decide) (by decide) rfl (aI0_z (by decide) (by decide)))
  · exact (show okC tC0 nC0 pC0 aI0 z 58 _ from okC_a (t := 0) rfl (by decide) (by decide) rfl (aI0_z (by decide) (by decide)))
  · exact (show okC tC0 nC0 pC0 aI0 z 59 _ from okC_o (c := 5) rfl (fun k hk => by
    have hk2 : k < 4 := hk
    match k, hk2 with
    | 0, _ => rfl
    | 1, _ => rfl
    | 2, _ => rfl
    | 3, _ => rfl
    | k + 4, hk => exact absurd hk (by omega)))
  · exact (show okC tC0 nC0 pC0 aI0 z 60 _ from okC_a (t := 4) rfl (by decide) (by decide) rfl (aI0_z (by decide) (by decide)))
  · exact (show okC tC0 nC0 pC0 aI0 z 61 _ from okC_a (t := 0) rfl (by decide) (by decide) rfl (aI0_z (by decide) (by decide)))
  · exact (show okC tC0 nC0 pC0 aI0 z 62 _ from okC_a (t := 1) rfl (by decide) (by decide) rfl (aI0_z (by decide) (by decide)))
  · exact (show okC tC0 nC0 pC0 aI0 z 63 _ from okC_a (t := 0) rfl (by decide) (by decide) rfl (aI0_z (by decide) (by decide)))
  · exact (show okC tC0 nC0 pC0 aI0 z 64 _ from okC_j rfl rfl)
  · exact (show okC tC0 nC0 pC0 aI0 z 65 _ from okC_o (c := 4) rfl (fun k hk => by
    have hk2 : k < 11 := hk
    match k, hk2 with
    | 0, _ => rfl
    | 1, _ => rfl
    | 2, _ => rfl
    | 3, _ => rfl
    | 4, _ => rfl
    | 5, _ => rfl
    | 6, _ => rfl
    | 7, _ => rfl
    | 8, _ => rfl
    | 9, _ => rfl
    | 10, _ => rfl
    | k + 11, hk => exact absurd hk (by omega)))
  · exact (show okC tC0 nC0 pC0 aI0 z 66 _ from okC_o (c := 7) rfl (fun k hk => by
    have hk2 : k < 13 := hk
    match k, hk2 with
    | 0, _ => rfl
    | 1, _ => rfl
    | 2, _ => rfl
    | 3, _ => rfl
    | 4, _ => rfl
    | 5, _ => rfl
    | 6, _ => rfl
    | 7, _ => rfl
    | 8, _ => rfl
    | 9, _ => rfl
    | 10, _ => rfl
    | 11, _ => rfl
    | 12, _ => rfl
    | k + 13, hk => exact absurd hk (by omega)))
  · exact (show okC tC0 nC0 pC0 aI0 z 67 _ from okC_a (t := 0) rfl (by decide) (by decide) rfl (aI0_z (by decide) (by decide)))
  · exact (show okC tC0 nC0 pC0 aI0 z 68 _ from okC_a (t := 0) rfl (by decide) (by decide) rfl (aI0_z (by decide) (by decide)))
  · exact (show okC tC0 nC0 pC0 aI0 z 69 _ from okC_a (t := 0) rfl (by decide) (by decide) rfl (aI0_z (by decide) (by decide)))
  · exact (show okC tC0 nC0 pC0 aI0 z 70 _ from okC_a (t := 1) rfl (by decide) (by decide) rfl (aI0_z (by decide) (by decide)))
  · exact (show okC tC0 nC0 pC0 aI0 z 71 _ from okC_a (t := 1) rfl (by decide) (by decide) rfl (aI0_z (by decide) (by decide)))
  · exact (show okC tC0 nC0 pC0 aI0 z 72 _ from okC_a (t := 0) rfl (by decide) (by decide) rfl (aI0_z (by decide) (by decide)))
  · exact (show okC tC0 nC0 pC0 aI0 z 73 _ from okC_a (t := 0) rfl (by decide) (by decide) rfl (aI0_z (by decide) (by decide)))
  · exact (show okC tC0 nC0 pC0 aI0 z 74 _ from okC_a (t := 0) rfl (by decide) (by decide) rfl (aI0_z (by decide) (by decide)))
  · exact (show okC tC0 nC0 pC0 aI0 z 75 _ from okC_a (t := 0) rfl (by decide) (by decide) rfl (aI0_z (by decide) (by decide)))
  · exact (show okC tC0 nC0 pC0 aI0 z 76 _ from okC_a (t := 0) rfl (by decide) (by decide) rfl (aI0_z (by decide) (by decide)))
  · exact (show okC tC0 nC0 pC0 aI0 z 77 _ from okC_o (c := 6) rfl (fun k hk => by
    have hk2 : k < 5 := hk
    match k, hk2 with
    | 0, _ => rfl
    | 1, _ => rfl
    | 2, _ => rfl
    | 3, _ => rfl
    | 4, _ => rfl
    | k + 5, hk => exact absurd hk (by omega)))
  · exact (show okC tC0 nC0 pC0 aI0 z 78 _ from okC_o (c := 3) rfl (fun k hk => by
    have hk2 : k < 13 := hk
    match k, hk2 with
    | 0, _ => rfl
    | 1, _ => rfl
    | 2, _ => rfl
    | 3, _ => rfl
    | 4, _ => rfl
    | 5, _ => rfl
    | 6, _ => rfl
    | 7, _ => rfl
    | 8, _ => rfl
    | 9, _ => rfl
    | 10, _ => rfl
    | 11, _ => rfl
    | 12, _ => rfl
    | k + 13, hk => exact absurd hk (by omega)))
  · exact (show okC tC0 nC0 pC0 aI0 z 79 _ from okC_a (t := 0) rfl (by decide) (by decide) rfl (aI0_z (by decide) (by decide)))
  · exact (show okC tC0 nC0 pC0 aI0 z 80 _ from okC_a (t := 1) rfl (by decide) (by decide) rfl (aI0_z (by decide) (by decide)))
  · exact (show okC tC0 nC0 pC0 aI0 z 81 _ from okC_a (t := 0) rfl (by decide) (by decide) rfl (aI0_z (by decide) (by decide)))
  · exact (show okC tC0 nC0 pC0 aI0 z 82 _ from okC_a (t := 1) rfl (by decide) (by decide) rfl (aI0_z (by decide) (by decide)))
  · exact (show okC tC0 nC0 pC0 aI0 z 83 _ from okC_o (c := 1) rfl (fun k hk => by
    have hk2 : k < 6 := hk
    match k, hk2 with
    | 0, _ => rfl
    | 1, _ => rfl
    | 2, _ => rfl
    | 3, _ => rfl
    | 4, _ => rfl
    | 5, _ => rfl
    | k + 6, hk => exact absurd hk (by omega)))
  · exact (show okC tC0 nC0 pC0 aI0 z 84 _ from okC_o (c := 5) rfl (fun k hk => by
    have hk2 : k < 4 := hk
    match k, hk2 with
    | 0, _ => rfl
    | 1, _ => rfl
    | 2, _ => rfl
    | 3, _ => rfl
    | k + 4, hk => exact absurd hk (by omega)))
  · exact (show okC tC0 nC0 pC0 aI0 z 85 _ from okC_a (t := 4) rfl (by decide) (by decide) rfl (aI0_z (by decide) (by decide)))
  · exact (show okC tC0 nC0 pC0 aI0 z 86 _ from okC_a (t := 0) rfl (by decide) (by decide) rfl (aI0_z (by decide) (by decide)))
  · exact (show okC tC0 nC0 pC0 aI0 z 87 _ from okC_o (c := 5) rfl (fun k hk => by
    have hk2 : k < 4 := hk
    match k, hk2 with
    | 0, _ => rfl
    | 1, _ => rfl
    | 2, _ => rfl
    | 3, _ => rfl
    | k + 4, hk => exact absurd hk (by omega)))
  · exact (show okC tC0 nC0 pC0 aI0 z 88 _ from okC_a (t := 4) rfl (by decide) (by decide) rfl (aI0_z (by decide) (by decide)))
  · exact (show okC tC0 nC0 pC0 aI0 z 89 _ from okC_a (t := 0) rfl (by decide) (by decide) rfl (aI0_z (by decide) (by decide)))
  · exact (show okC tC0 nC0 pC0 aI0 z 90 _ from okC_a (t := 0) rfl (by decide) (by decide) rfl (aI0_z (by decide) (by decide)))
  · exact (show okC tC0 nC0 pC0 aI0 z 91 _ from okC_j rfl rfl)
  · exact (show okC tC0 nC0 pC0 aI0 z 92 _ from okC_j rfl rfl)
  · exact (show okC tC0 nC0 pC0 aI0 z 93 _ from okC_o (c := 1) rfl (fun k hk => by
    have hk2 : k < 6 := hk
    match k, hk2 with
    | 0, _ => rfl
    | 1, _ => rfl
    | 2, _ => rfl
    | 3, _ => rfl
    | 4, _ => rfl
    | 5, _ => rfl
    | k + 6, hk => exact absurd hk (by omega)))
  · exact (show okC tC0 nC0 pC0 aI0 z 94 _ from okC_o (c := 5) rfl (fun k hk => by
    have hk2 : k < 4 := hk
    match k, hk2 with
    | 0, _ => rfl
    | 1, _ => rfl
    | 2, _ => rfl
    | 3, _ => rfl
    | k + 4, hk => exact absurd hk (by omega)))
  · exact (show okC tC0 nC0 pC0 aI0 z 95 _ from okC_a (t := 4) rfl (by decide) (by decide) rfl (aI0_z (by decide) (by decide)))
  · exact (show okC tC0 nC0 pC0 aI0 z 96 _ from okC_a (t := 0) rfl (by decide) (by decide) rfl (aI0_z (by decide) (by decide)))
  · exact (show okC tC0 nC0 pC0 aI0 z 97 _ from okC_o (c := 5) rfl (fun k hk => by
    have hk2 : k < 4 := hk
    match k, hk2 with
    | 0, _ => rfl
    | 1, _ => rfl
    | 2, _ => rfl
    | 3, _ => rfl
    | k + 4, hk => exact absurd hk (by omega)))
  · exact (show okC tC0 nC0 pC0 aI0 z 98 _ from okC_a (t := 4) rfl (by decide) (by decide) rfl (aI0_z (by decide) (by decide)))
  · exact (show okC tC0 nC0 pC0 aI0 z 99 _ from okC_a (t := 0) rfl (by decide) (by decide) rfl (aI0_z (by decide) (by decide)))
  · exact (show okC tC0 nC0 pC0 aI0 z 100 _ from okC_a (t := 0) rfl (by decide) (by decide) rfl (aI0_z (by decide) (by decide)))
  · exact (show okC tC0 nC0 pC0 aI0 z 101 _ from okC_j rfl rfl)
  · exact (show okC tC0 nC0 pC0 aI0 z 102 _ from okC_j rfl rfl)
  · exact (show okC tC0 nC0 pC0 aI0 z 103 _ from okC_o (c := 9) rfl (fun k hk => by
    have hk2 : k < 17 := hk
    match k, hk2 with
    | 0, _ => rfl
    | 1, _ => rfl
    | 2, _ => rfl
    | 3, _ => rfl
    | 4, _ => rfl
    | 5, _ => rfl
    | 6, _ => rfl
    | 7, _ => rfl
    | 8, _ => rfl
    | 9, _ => rfl
    | 10, _ => rfl
    | 11, _ => rfl
    | 12, _ => rfl
    | 13, _ => rfl
    | 14, _ => rfl
    | 15, _ => rfl
    | 16, _ => rfl
    | k + 17, hk => exact absurd hk (by omega)))
  · exact (show okC tC0 nC0 pC0 aI0 z 104 _ from okC_a (t := 0) rfl (by decide) (by decide) rfl (aI0_z (by decide) (by decide)))
  · exact (show okC tC0 nC0 pC0 aI0 z 105 _ from okC_o (c := 5) rfl (fun k hk => by
    have hk2 : k < 4 := hk
    match k, hk2 with
    | 0, _ => rfl
    | 1, _ => rfl
    | 2, _ => rfl
    | 3, _ => rfl
    | k + 4, hk => exact absurd hk (by omega)))
  · exact (show okC tC0 nC0 pC0 aI0 z 106 _ from okC_a (t := 4) rfl (by decide) (by decide) rfl (aI0_z (by decide) (by decide)))
  · exact (show okC tC0 nC0 pC0 aI0 z 107 _ from okC_a (t := 0) rfl (by decide) (by decide) rfl (aI0_z (by decide) (by decide)))
  · exact (show okC tC0 nC0 pC0 aI0 z 108 _ from okC_a (t := 0) rfl (by decide) (by decide) rfl (aI0_z (by decide) (by decide)))
  · exact (show okC tC0 nC0 pC0 aI0 z 109 _ from okC_a (t := 0) rfl (by decide) (by decide) rfl (aI0_z (by decide) (by decide)))
  · exact (show okC tC0 nC0 pC0 aI0 z 110 _ from okC_a (t := 0) rfl (by decide) (by decide) rfl (aI0_z (by decide) (by decide)))
  · exact (show okC tC0 nC0 pC0 aI0 z 111 _ from okC_a (t := 0) rfl (by decide) (by decide) rfl (aI0_z (by decide) (by decide)))
  · exact (show okC tC0 nC0 pC0 aI0 z 112 _ from okC_a (t := 0) rfl (by decide) (by decide) rfl (aI0_z (by decide) (by decide)))
  · exact (show okC tC0 nC0 pC0 aI0 z 113 _ from okC_a (t := 0) rfl (by decide) (by decide) rfl (aI0_z (by decide) (by decide)))
  · exact (show okC tC0 nC0 pC0 aI0 z 114 _ from okC_a (t := 0) rfl (by decide) (by decide) rfl (aI0_z (by decide) (by decide)))
  · exact (show okC tC0 nC0 pC0 aI0 z 115 _ from okC_a (t := 0) rfl (by decide) (by decide) rfl (aI0_z (by decide) (by decide)))
  · exact (show okC tC0 nC0 pC0 aI0 z 116 _ from okC_a (t := 0) rfl (by decide) (by decide) rfl (aI0_z (by decide) (by decide)))
  · exact (show okC tC0 nC0 pC0 aI0 z 117 _ from okC_o (c := 8) rfl (fun k hk => by
    have hk2 : k < 3 := hk
    match k, hk2 with
    | 0, _ => rfl
    | 1, _ => rfl
    | 2, _ => rfl
    | k + 3, hk => exact absurd hk (by omega)))
  · exact (show okC tC0 nC0 pC0 aI0 z 118 _ from okC_a (t := 1) rfl (by decide) (by decide) rfl (aI0_z (by decide) (by decide)))
  · exact (show okC tC0 nC0 pC0 aI0 z 119 _ from okC_o (c := 8) rfl (fun k hk => by
    have hk2 : k < 3 := hk
    match k, hk2 with
    | 0, _ => rfl
    | 1, _ => rfl
    | 2, _ => rfl
    | k + 3, hk => exact absurd hk (by omega)))
  · exact (show okC tC0 nC0 pC0 aI0 z 120 _ from okC_a (t := 1) rfl (by decide) (by decide) rfl (aI0_z (by decide) (by decide)))
set_option maxRecDepth 20000 in
theorem allM (z : Nat) : allF (okC tM0 nM0 pM0 (fun _ _ => 0) z) 0 (ob 11 (wX11 (fun k => defaultValue (tyX11 k)) (z + 1)) :: eX11) := by
  refine And.intro ?_ (And.intro ?_ (And.intro ?_ (And.intro ?_ (And.intro ?_ (And.intro ?_ (And.intro ?_ (And.intro ?_ (And.intro ?_ (And.intro ?_ (And.intro ?_ (And.intro ?_ (And.intro ?_ (And.intro ?_ (And.intro ?_ (And.intro ?_ (And.intro ?_ (And.intro ?_ (And.intro ?_ (And.intro ?_ (And.intro ?_ (And.intro ?_ (And.intro ?_ (And.intro ?_ (And.intro ?_ (And.intro ?_ (And.intro ?_ (And.intro ?_ (And.intro ?_ (And.intro ?_ (And.intro ?_ (And.intro ?_ (And.intro ?_ (And.intro ?_ (And.intro ?_ (And.intro ?_ (And.intro ?_ (And.intro ?_ (And.intro ?_ (And.intro ?_ (And.intro ?_ (And.intro ?_ (And.intro ?_ (And.intro ?_ (And.intro ?_ (And.intro ?_ (And.intro ?_ (And.intro ?_ (And.intro ?_ (And.intro ?_ (And.intro ?_ (And.intro ?_ (And.intro ?_ (And.intro ?_ (And.intro ?_ (And.intro ?_ (And.intro ?_ (And.intro ?_ (And.intro ?_ (And.intro ?_ (And.intro ?_ (True.intro)))))))))))))))))))))))))))))))))))))))))))))))))))))))))))))
  · exact (show okC tM0 nM0 pM0 (fun _ _ => 0) z 0 _ from okC_o (c := 11) rfl (fun k hk => by
    have hk2 : k < 86 := hk
    match k, hk2 with
    | 0, _ => rfl
    | 1, _ => rfl
    | 2, _ => rfl
    | 3, _ => rfl
    | 4, _ => rfl
    | 5, _ => rfl
    | 6, _ => rfl
    | 7, _ => rfl
    | 8, _ => rfl
    | 9, _ => rfl
    | 10, _ => rfl
    | 11, _ => rfl
    | 12, _ => rfl
    | 13, _ => rfl
    | 14, _ => rfl
    | 15, _ => rfl
    | 16, _ => rfl
    | 17, _ => rfl
    | 18, _ => rfl
    | 19, _ => rfl
    | 20, _ => rfl
    | 21, _ => rfl
    | 22, _ => rfl
    | 23, _ => rfl
    | 24, _ => rfl
    | 25, _ => rfl
    | 26, _ => rfl
    | 27, _ => rfl
    | 28, _ => rfl
    | 29, _ => rfl
    | 30, _ => rfl
    | 31, _ => rfl
    | 32, _ => rfl
    | 33, _ => rfl
    | 34, _ => rfl
    | 35, _ => rfl
    | 36, _ => rfl
    | 37, _ => rfl
    | 38, _ => rfl
    | 39, _ => rfl
    | 40, _ => rfl
    | 41, _ => rfl
    | 42, _ => rfl
    | 43, _ => rfl
    | 44, _ => rfl
    | 45, _ => rfl
    | 46, _ => rfl
    | 47, _ => rfl
    | 48, _ => rfl
    | 49, _ => rfl
    | 50, _ => rfl
    | 51, _ => rfl
    | 52, _ => rfl
    | 53, _ => rfl
    | 54, _ => rfl
    | 55, _ => rfl
    | 56, _ => rfl
    | 57, _ => rfl
    | 58, _ => rfl
    | 59, _ => rfl
    | 60, _ => rfl
    | 61, _ => rfl
    | 62, _ => rfl
    | 63, _ => rfl
    | 64, _ => rfl
    | 65, _ => rfl
    | 66, _ => rfl
    | 67, _ => rfl
    | 68, _ => rfl
    | 69, _ => rfl
    | 70, _ => rfl
    | 71, _ => rfl
    | 72, _ => rfl
    | 73, _ => rfl
    | 74, _ => rfl
    | 75, _ => rfl
    | 76, _ => rfl
    | 77, _ => rfl
    | 78, _ => rfl
    | 79, _ => rfl
    | 80, _ => rfl
    | 81, _ => rfl
    | 82, _ => rfl
    | 83, _ => rfl
    | 84, _ => rfl
    | 85, _ => rfl
    | k + 86, hk => exact absurd hk (by omega)))
  · exact (show okC tM0 nM0 pM0 (fun _ _ => 0) z 1 _ from okC_a (t := 0) rfl (by decide) (by decide) rfl rfl)
  · exact (show okC tM0 nM0 pM0 (fun _ _ => 0) z 2 _ from okC_a (t := 0) rfl (by decide) (by decide) rfl rfl)
  · exact (show okC tM0 nM0 pM0 (fun _ _ => 0) z 3 _ from okC_a (t := 0) rfl (by decide) (by decide) rfl rfl)
  · exact (show okC tM0 nM0 pM0 (fun _ _ => 0) z 4 _ from okC_a (t := 0) rfl (by decide) (by decide) rfl rfl)
  · exact (show okC tM0 nM0 pM0 (fun _ _ => 0) z 5 _ from okC_a (t := 2) rfl (by decide) (by decide) rfl rfl)
  · exact (show okC tM0 nM0 pM0 (fun _ _ => 0) z 6 _ from okC_a (t := 0) rfl (by decide) (by decide) rfl rfl)
  · exact (show okC tM0 nM0 pM0 (fun _ _ => 0) z 7 _ from okC_a (t := 0) rfl (by decide) (by decide) rfl rfl)
  · exact (show okC tM0 nM0 pM0 (fun _ _ => 0) z 8 _ from okC_a (t := 0) rfl (by decide) (by decide) rfl rfl)
  · exact (show okC tM0 nM0 pM0 (fun _ _ => 0) z 9 _ from okC_a (t := 0) rfl (by decide) (by decide) rfl rfl)
  · exact (show okC tM0 nM0 pM0 (fun _ _ => 0) z 10 _ from okC_a (t := 0) rfl (by decide) (by decide) rfl rfl)
  · exact (show okC tM0 nM0 pM0 (fun _ _ => 0) z 11 _ from okC_a (t := 0) rfl (by decide) (by decide) rfl rfl)
  · exact (show okC tM0 nM0 pM0 (fun _ _ => 0) z 12 _ from okC_a (t := 0) rfl (by decide) (by decide) rfl rfl)
  · exact (show okC tM0 nM0 pM0 (fun _ _ => 0) z 13 _ from okC_a (t := 0) rfl (by decide) (by decide) rfl rfl)
  · exact (show okC tM0 nM0 pM0 (fun _ _ => 0) z 14 _ from okC_a (t := 0) rfl (by decide) (by decide) rfl rfl)
  · exact (show okC tM0 nM0 pM0 (fun _ _ => 0) z 15 _ from okC_a (t := 0) rfl (by decide) (by decide) rfl rfl)
  · exact (show okC tM0 nM0 pM0 (fun _ _ => 0) z 16 _ from okC_a (t := 0) rfl (by decide) (by decide) rfl rfl)
  · exact (show okC tM0 nM0 pM0 (fun _ _ => 0) z 17 _ from okC_a (t := 0) rfl (by decide) (by decide) rfl rfl)
  · exact (show okC tM0 nM0 pM0 (fun _ _ => 0) z 18 _ from okC_a (t := 0) rfl (by decide) (by decide) rfl rfl)
  · exact (show okC tM0 nM0 pM0 (fun _ _ => 0) z 19 _ from okC_j rfl rfl)
  · exact (show okC tM0 nM0 pM0 (fun _ _ => 0) z 20 _ from okC_j rfl rfl)
  · exact (show okC tM0 nM0 pM0 (fun _ _ => 0) z 21 _ from okC_a (t := 0) rfl (by decide) (by decide) rfl rfl)
  · exact (show okC tM0 nM0 pM0 (fun _ _ => 0) z 22 _ from okC_a (t := 0) rfl (by decide) (by decide) rfl rfl)
  · exact (show okC tM0 nM0 pM0 (fun _ _ => 0) z 23 _ from okC_a (t := 0) rfl (by decide) (by decide) rfl rfl)
  · exact (show okC tM0 nM0 pM0 (fun _ _ => 0) z 24 _ from okC_a (t := 0) rfl (by decide) (by decide) rfl rfl)
  · exact (show okC tM0 nM0 pM0 (fun _ _ => 0) z 25 _ from okC_a (t := 0) rfl (by decide) (by decide) rfl rfl)
  · exact (show okC tM0 nM0 pM0 (fun _ _ => 0) z 26 _ from okC_a (t := 0) rfl (by decide) (by decide) rfl rfl)
  · exact (show okC tM0 nM0 pM0 (fun _ _ => 0) z 27 _ from okC_a (t := 0) rfl (by decide) (by decide) rfl rfl)
  · exact (show okC tM0 nM0 pM0 (fun _ _ => 0) z 28 _ from okC_a (t := 2) rfl (by decide) (by decide) rfl rfl)
  · exact (show okC tM0 nM0 pM0 (fun _ _ => 0) z 29 _ from okC_a (t := 0) rfl (by decide) (by decide) rfl rfl)
  · exact (show okC tM0 nM0 pM0 (fun _ _ => 0) z 30 _ from okC_a (t := 0) rfl (by decide) (by decide) rfl rfl)
  · exact (show okC tM0 nM0 pM0 (fun _ _ => 0) z 31 _ from okC_a (t := 0) rfl (by decide) (by decide) rfl rfl)
  · exact (show okC tM0 nM0 pM0 (fun _ _ => 0) z 32 _ from okC_a (t := 0) rfl (by decide) (by decide) rfl rfl)
  · exact (show okC tM0 nM0 pM0 (fun _ _ => 0) z 33 _ from okC_a (t := 0) rfl (by decide) (by decide) rfl rfl)
  · exact (show okC tM0 nM0 pM0 (fun _ _ => 0) z 34 _ from okC_a (t := 0) rfl (by decide) (by decide) rfl rfl)
  · exact (show okC tM0 nM0 pM0 (fun _ _ => 0) z 35 _ from okC_a (t := 0) rfl (by decide) (by decide) rfl rfl)
  · exact (show okC tM0 nM0 pM0 (fun _ _ => 0) z 36 _ from okC_a (t := 0) rfl (by decide) (by decide) rfl rfl)
  · exact (show okC tM0 nM0 pM0 (fun _ _ => 0) z 37 _ from okC_a (t := 0) rfl (by decide) (by decide) rfl rfl)
  · exact (show okC tM0 nM0 pM0 (fun _ _ => 0) z 38 _ from okC_a (t := 0) rfl (by decide) (by decide) rfl rfl)
  · exact (show okC tM0 nM0 pM0 (fun _ _ => 0) z 39 _ from okC_a (t := 0) rfl (by decide) (by decide) rfl rfl)
  · exact (show okC tM0 nM0 pM0 (fun _ _ => 0) z 40 _ from okC_a (t := 0) rfl (by decide) (by decide) rfl rfl)
  · exact (show okC tM0 nM0 pM0 (fun _ _ => 0) z 41 _ from okC_a (t := 0) rfl (by decide) (by decide) rfl rfl)
  · exact (show okC tM0 nM0 pM0 (fun _ _ => 0) z 42 _ from okC_a (t := 0) rfl (by decide) (by decide) rfl rfl)
  · exact (show okC tM0 nM0 pM0 (fun _ _ => 0) z 43 _ from okC_a (t := 0) rfl (by decide) (by decide) rfl rfl)
  · exact (show okC tM0 nM0 pM0 (fun _ _ => 0) z 44 _ from okC_a (t := 0) rfl (by decide) (by decide) rfl rfl)
  · exact (show okC tM0 nM0 pM0 (fun _ _ => 0) z 45 _ from okC_a (t := 0) rfl (by decide) (by decide) rfl rfl)
  · exact (show okC tM0 nM0 pM0 (fun _ _ => 0) z 46 _ from okC_a (t := 0) rfl (by decide) (by decide) rfl rfl)
  · exact (show okC tM0 nM0 pM0 (fun _ _ => 0) z 47 _ from okC_a (t := 0) rfl (by decide) (by decide) rfl rfl)
  · exact (show okC tM0 nM0 pM0 (fun _ _ => 0) z 48 _ from okC_a (t := 0) rfl (by decide) (by decide) rfl rfl)
  · exact (show okC tM0 nM0 pM0 (fun _ _ => 0) z 49 _ from okC_a (t := 0) rfl (by decide) (by decide) rfl rfl)
  · exact (show okC tM0 nM0 pM0 (fun _ _ => 0) z 50 _ from okC_a (t := 0) rfl (by decide) (by decide) rfl rfl)
  · exact (show okC tM0 nM0 pM0 (fun _ _ => 0) z 51 _ from okC_a (t := 0) rfl (by decide) (by decide) rfl rfl)
  · exact (show okC tM0 nM0 pM0 (fun _ _ => 0) z 52 _ from okC_a (t := 0) rfl (by decide) (by decide) rfl rfl)
  · exact (show okC tM0 nM0 pM0 (fun _ _ => 0) z 53 _ from okC_a (t := 0) rfl (by decide) (by decide) rfl rfl)
  · exact (show okC tM0 nM0 pM0 (fun _ _ => 0) z 54 _ from okC_a (t := 0) rfl (by decide) (by decide) rfl rfl)
  · exact (show okC tM0 nM0 pM0 (fun _ _ => 0) z 55 _ from okC_a (t := 0) rfl (by decide) (by decide) rfl rfl)
  · exact (show okC tM0 nM0 pM0 (fun _ _ => 0) z 56 _ from okC_a (t := 0) rfl (by decide) (by decide) rfl rfl)
  · exact (show okC tM0 nM0 pM0 (fun _ _ => 0) z 57 _ from okC_a (t := 0) rfl (by decide) (by decide) rfl rfl)
  · exact (show okC tM0 nM0 pM0 (fun _ _ => 0) z 58 _ from okC_a (t := 0) rfl (by decide) (by decide) rfl rfl)
  · exact (show okC tM0 nM0 pM0 (fun _ _ => 0) z 59 _ from okC_a (t := 2) rfl (by decide) (by decide) rfl rfl)
  · exact (show okC tM0 nM0 pM0 (fun _ _ => 0) z 60 _ from okC_a (t := 0) rfl (by decide) (by decide) rfl rfl)
