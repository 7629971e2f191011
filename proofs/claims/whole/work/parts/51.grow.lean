/-! States by names, for methods that make cells: an array of a row list may come anew at another address -/
def pt (tg N : Nat → Nat) : Nat := ((List.range 300).map fun i => if tg i = 4 then N i else 0).sum
theorem pt_sum {f g : Nat → Nat} {i d : Nat} (e : ∀ j, j ≠ i → g j = f j) (e2 : g i = f i + d) : ∀ n, ((List.range n).map g).sum = ((List.range n).map f).sum + (if i < n then d else 0) := by
  intro n
  induction n with
  | zero => simp
  | succ n ih =>
    rw [List.range_succ, List.map_append, List.map_append, List.sum_append, List.sum_append, ih]
    simp only [List.map_cons, List.map_nil, List.sum_cons, List.sum_nil]
    by_cases q : n = i
    · subst q
      rw [e2]
      simp
      omega
    · rw [e n q]
      by_cases q2 : i < n
      · simp [q2, Nat.lt_succ_of_lt q2]; omega
      · have : ¬ i < n + 1 := by omega
        simp [q2, this]
/-- the state s stands in h, whose cells are below sz, at r2; objects stand where r has them; what lies below zb and isn't at r stays as it was in hb; cells and slots made are paid for by the lengths of the row lists' items; no two row lists have the same items -/
def iz (tg r : Nat → Nat) (hb : hp_H) (zb c1 c2 : Nat) (r2 : Nat → Nat) (h : hp_H) (s : st_T) (sz sl : Nat) : Prop :=
  iso tg r2 h s ∧ (∀ i, 10 ≤ tg i → r2 i = r i) ∧ (∀ i, tg i < 99 → r2 i < sz) ∧ (∀ p, p < zb → (∀ i, tg i < 99 → r i ≠ p) → h p = hb p) ∧ zb ≤ sz ∧ (∀ i, tg i < 99 → r2 i = r i ∨ zb ≤ r2 i) ∧ (sz ≤ c1 + pt tg s.2.2.2.1 ∧ sl ≤ c2 + 2 * pt tg s.2.2.2.1) ∧ (∀ i j, tg i = 15 → tg j = 15 → s.2.1 i 0 = s.2.1 j 0 → i = j) ∧ ∀ i, tg i = 4 → i < 300
theorem iz.step {tg r : Nat → Nat} {hb : hp_H} {zb c1 c2 : Nat} {r2 : Nat → Nat} {h h2 : hp_H} {s s2 : st_T} {sz sl : Nat} (Z : iz tg r hb zb c1 c2 r2 h s sz sl) (I : iso tg r2 h2 s2) (F : isf tg r2 h h2 s s2) : iz tg r hb zb c1 c2 r2 h2 s2 sz sl := by
  obtain ⟨Z1, Z2, Z3, Z4, Z5, Z6, Z7, Z8, Z9⟩ := Z
  refine ⟨I, Z2, Z3, fun p hp hq => ?_, Z5, Z6, by rw [F.2.1]; exact Z7, fun i j hi hj e => Z8 i j hi hj (by rw [← F.2.2 i hi, ← F.2.2 j hj]; exact e), Z9⟩
  rw [F.1 p (fun i hi q => ?_)]
  · exact Z4 p hp hq
  · rcases Z6 i hi with e | e
    · exact hq i hi (e.symm.trans q)
    · omega
theorem tr_eq2 {α β : Type} {x : Option α} {a : α} {F : α → Option β} {C : hp_H → Nat → Nat → β} {D : hp_H → Nat → Nat → (Nat → Nat) → Prop} (e : x = some a) (k : ∃ h2 sz2 sl2 r3, F a = some (C h2 sz2 sl2) ∧ D h2 sz2 sl2 r3) : ∃ h2 sz2 sl2 r3, x.bind F = some (C h2 sz2 sl2) ∧ D h2 sz2 sl2 r3 := by rw [e]; exact k
/-- the array i becomes longer, filled up with 0 -/
def uG (s : st_T) (i m : Nat) : st_T := (s.1, s.2.1, (fun a => if a = i then (fun j => if j < s.2.2.2.1 i then s.2.2.1 i j else 0) else s.2.2.1 a), (fun a => if a = i then m else s.2.2.2.1 a), s.2.2.2.2)
/-- Rows.add's first half: a longer array when the old one is full -/
def g_X5_grow (v0 : Nat) (s : st_T) : Option st_T :=
  if gF s v0 2 = gL s (gP s v0 0) then
    (hp_cnt ((2 : Int32) * gF s v0 2)).bind fun m => if m = 2 * s.2.2.2.1 (gP s v0 0) ∧ 0 < s.2.2.2.1 (gP s v0 0) then some (uG s (gP s v0 0) m) else none
  else some s
def g_X5_put (v0 : Nat) (v1 : Int32) (s : st_T) : Option st_T := (uA 0 s (gP s v0 0) (gF s v0 2) v1).bind fun w => wF w v0 2 (gF w v0 2 + (1 : Int32))
def g_X5_add (_n : Nat) (v0 : Nat) (v1 : Int32) (s : st_T) : Option st_T := (g_X5_grow v0 s).bind fun w => g_X5_put v0 v1 w
theorem ftag4 : ∀ c, c < 12 → ∀ k, k < 90 → ftag c k = 4 → c = 5 ∧ k = 0 := by decide +kernel
theorem nf90 : ∀ c, c < 12 → nf c ≤ 90 := by decide +kernel
theorem t2_put {tg r2 : Nat → Nat} {h : hp_H} {s : st_T} {n v0 sz sl : Nat} {v1 : Int32} (I : iso tg r2 h s) (T : tg v0 = 15) {res : st_T} (hm : g_X5_put v0 v1 s = some res) : ∃ h2, f_X5_add_29 n (r2 v0) v1 h sz sl = some (h2, sz, sl) ∧ iso tg r2 h2 res ∧ isf tg r2 h h2 s res := by
  unfold g_X5_put at hm
  unfold f_X5_add_29
  have T1 : tg (gP s v0 0) = 4 := t_tg (c := 5) I T (by decide) (by decide) rfl (by decide)
  refine tr_eq (C := fun h2 => (h2, sz, sl)) (t_fR I T (by decide) (by decide) (by decide)) ?_
  refine tr_eq (C := fun h2 => (h2, sz, sl)) (t_fI I T (by decide) (by decide) rfl) ?_
  obtain ⟨w, hw, hm⟩ := hp_bd hm
  obtain ⟨h3, e3, I3, F3⟩ := t_sI I isf.rf T1 (by decide) rfl hw
  refine tr_eq (C := fun h2 => (h2, sz, sl)) e3 ?_
  refine tr_eq (C := fun h2 => (h2, sz, sl)) (t_fI I3 T (by decide) (by decide) rfl) ?_
  obtain ⟨h4, e4, I4, F4⟩ := t_wF (c := 5) (k := 2) I3 F3 T (by decide) (by decide) rfl hm
  refine tr_eq (C := fun h2 => (h2, sz, sl)) e4 ?_
  exact ⟨h4, rfl, I4, F4⟩
theorem t2_grow {tg r : Nat → Nat} {hb : hp_H} {zb c1 c2 : Nat} {r2 : Nat → Nat} {h : hp_H} {s : st_T} {sz sl v0 m : Nat} (Z : iz tg r hb zb c1 c2 r2 h s sz sl) (T : tg v0 = 15) (hN : 0 < s.2.2.2.1 (gP s v0 0)) (hm : m = 2 * s.2.2.2.1 (gP s v0 0)) {V : Nat → Value} (hV : h (r2 v0) = some (.inr (.inr (5, V)))) (hV2 : ∀ k, k < nf 5 → V k = if ftag 5 k = 99 then .int (s.1 v0 k) else .ref (r2 (s.2.1 v0 k))) :
    iz tg r hb zb c1 c2 (fun i => if i = gP s v0 0 then sz else r2 i) (hp_w (hp_w (hp_na h sz 0 m) sz (.inl (0, m, va_cpy (s.2.2.1 (gP s v0 0)) (fun _ => 0) 0 0 (s.2.2.2.1 (gP s v0 0))))) (r2 v0) (.inr (.inr (5, updV V 0 (.ref sz))))) (uG s (gP s v0 0) m) (sz + 1) (sl + m) := by
  obtain ⟨I, Z2, Z3, Z4, Z5, Z6, Z7, Z8, Z9⟩ := Z
  have T1 : tg (gP s v0 0) = 4 := t_tg (c := 5) I T (by decide) (by decide) rfl (by decide)
  generalize hi : gP s v0 0 = i at *
  have hi0 : s.2.1 v0 0 = i := hi
  obtain ⟨I1, I2, I3, I4, I5⟩ := I
  have hv0 : v0 ≠ i := fun q => by rw [q] at T; omega
  have hvz := Z3 v0 (by omega)
  have iz0 := Z9 i T1
  have ho : ∀ p, p ≠ r2 v0 → p ≠ sz → hp_w (hp_w (hp_na h sz 0 m) sz (.inl (0, m, va_cpy (s.2.2.1 i) (fun _ => 0) 0 0 (s.2.2.2.1 i)))) (r2 v0) (.inr (.inr (5, updV V 0 (.ref sz)))) p = h p := by
    intro p h1 h3
    rw [hp_w_ne h1, hp_w_ne h3]
    unfold hp_na
    rw [hp_w_ne h3]
  have hz : hp_w (hp_w (hp_na h sz 0 m) sz (.inl (0, m, va_cpy (s.2.2.1 i) (fun _ => 0) 0 0 (s.2.2.2.1 i)))) (r2 v0) (.inr (.inr (5, updV V 0 (.ref sz)))) sz = some (.inl (0, m, va_cpy (s.2.2.1 i) (fun _ => 0) 0 0 (s.2.2.2.1 i))) := by
    rw [hp_w_ne (by omega), hp_w_self]
  have ap : ∀ j, tg j < 99 → j ≠ v0 → r2 j ≠ r2 v0 := fun j hj hne q => hne (I4 j v0 hj (by omega) q)
  refine ⟨⟨fun j hj => ?_, fun j hj => ?_, fun j c hj hc => ?_, fun j k hj hk q => ?_, I5⟩, fun j hj => ?_, fun j hj => ?_, fun p hp hq => ?_, by omega, fun j hj => ?_, ?_, Z8, Z9⟩
  · by_cases q : j = i
    · subst q
      have e9 : (fun x => if x < s.2.2.2.1 j then s.2.2.1 j x else 0) = va_cpy (s.2.2.1 j) (fun _ => 0) 0 0 (s.2.2.2.1 j) := by
        funext x
        by_cases hx : x < s.2.2.2.1 j
        · rw [pk_cpy_in (by omega) (by omega)]; simp [hx]
        · rw [pk_cpy_out (by omega)]; simp [hx]
      simp only [if_true, uG]
      rw [hz, e9, T1]
      rfl
    · simp only [q, if_false, uG]
      rw [ho _ (ap j (by omega) (fun z => by subst z; omega)) (by have := Z3 j (by omega); omega)]
      exact I1 j hj
  · have q : j ≠ i := fun z => by subst z; omega
    simp only [q, if_false, uG]
    rw [ho _ (ap j (by omega) (fun z => by subst z; omega)) (by have := Z3 j (by omega); omega)]
    exact I2 j hj
  · have q : j ≠ i := fun z => by subst z; omega
    simp only [q, if_false, uG]
    by_cases e : j = v0
    · subst e
      have : c = 5 := by omega
      subst this
      refine ⟨_, hp_w_self, fun k hk => ?_⟩
      by_cases k0 : k = 0
      · subst k0
        have f0 : ftag 5 0 = 4 := by decide
        simp [updV, f0, hi0]
      · by_cases f9 : ftag 5 k = 99
        · simp only [updV, k0, if_false, f9, if_true]
          rw [hV2 k hk]
          simp [f9]
        · have ne : s.2.1 j k ≠ i := fun z => by
            have := I5 j 5 k T (by decide) hk f9
            rw [z, T1] at this
            exact k0 (ftag4 5 (by decide) k (Nat.lt_of_lt_of_le hk (nf90 5 (by decide))) this.symm).2
          simp only [updV, k0, if_false, f9, ne]
          rw [hV2 k hk]
          simp [f9]
    · obtain ⟨V2, h1, h2⟩ := I3 j c hj hc
      refine ⟨V2, by rw [ho _ (ap j (by omega) e) (by have := Z3 j (by omega); omega)]; exact h1, fun k hk => ?_⟩
      rw [h2 k hk]
      by_cases f9 : ftag c k = 99
      · simp [f9]
      · have ne : s.2.1 j k ≠ i := fun z => by
          have h5 := I5 j c k hj hc hk f9
          rw [z, T1] at h5
          obtain ⟨g1, g2⟩ := ftag4 c hc k (Nat.lt_of_lt_of_le hk (nf90 c hc)) h5.symm
          subst g1; subst g2
          exact e (Z8 j v0 hj T (z.trans hi0.symm))
        simp [f9, ne]
  · by_cases q1 : j = i <;> by_cases q2 : k = i
    · rw [q1, q2]
    · simp only [q1, q2, if_true, if_false] at q
      have := Z3 k hk
      omega
    · simp only [q1, q2, if_true, if_false] at q
      have := Z3 j hj
      omega
    · simp only [q1, q2, if_false] at q
      exact I4 j k hj hk q
  · have q : j ≠ i := fun z => by subst z; omega
    simp only [q, if_false]
    exact Z2 j hj
  · by_cases q : j = i
    · simp [q]
    · simp only [q, if_false]
      have := Z3 j hj
      omega
  · have h1 : p ≠ r2 v0 := fun z => hq v0 (by omega) ((Z2 v0 (by omega)).symm.trans z.symm)
    rw [ho p h1 (by omega)]
    exact Z4 p hp hq
  · by_cases q : j = i
    · simp [q, Z5]
    · simp only [q, if_false]
      exact Z6 j hj
  · have e9 : pt tg (uG s i m).2.2.2.1 = pt tg s.2.2.2.1 + s.2.2.2.1 i := by
      unfold pt
      rw [pt_sum (f := fun j => if tg j = 4 then s.2.2.2.1 j else 0) (g := fun j => if tg j = 4 then (uG s i m).2.2.2.1 j else 0) (i := i) (d := s.2.2.2.1 i) (fun j hj => by simp [uG, hj]) (by simp [uG, T1, hm]; omega) 300]
      simp [iz0]
    rw [e9]
    omega
theorem t2_X5_add {tg r : Nat → Nat} {hb : hp_H} {zb c1 c2 : Nat} {r2 : Nat → Nat} {h : hp_H} {s : st_T} {sz sl n v0 : Nat} {v1 : Int32} (Z : iz tg r hb zb c1 c2 r2 h s sz sl) (T : tg v0 = 15) {res : st_T} (hm : g_X5_add n v0 v1 s = some res) : ∃ h2 sz2 sl2 r3, f_X5_add n (r v0) v1 h sz sl = some (h2, sz2, sl2) ∧ iz tg r hb zb c1 c2 r3 h2 res sz2 sl2 := by
  have I := Z.1
  unfold g_X5_add at hm
  obtain ⟨w, hw, hm⟩ := hp_bd hm
  unfold f_X5_add
  rw [← Z.2.1 v0 (by omega)]
  have T1 : tg (gP s v0 0) = 4 := t_tg (c := 5) I T (by decide) (by decide) rfl (by decide)
  refine tr_eq2 (C := fun h2 a b => (h2, a, b)) (t_ck I T (by decide)) ?_
  unfold f_X5_add_0
  refine tr_eq2 (C := fun h2 a b => (h2, a, b)) (t_fI I T (by decide) (by decide) rfl) ?_
  refine tr_eq2 (C := fun h2 a b => (h2, a, b)) (t_fR I T (by decide) (by decide) (by decide)) ?_
  refine tr_eq2 (C := fun h2 a b => (h2, a, b)) (t_len I T1 (by decide)) ?_
  unfold g_X5_grow at hw
  by_cases c : gF s v0 2 = gL s (gP s v0 0)
  · rw [if_pos c] at hw ⊢
    obtain ⟨m, hm0, hw⟩ := hp_bd hw
    split at hw
    · rename_i hc
      obtain ⟨hm2, hN⟩ := hc
      have hw := Option.some.inj hw
      obtain ⟨V, hV, hV2⟩ := I.2.2.1 v0 5 T (by decide)
      have hcn := hp_cnt_spec hm0
      refine tr_eq2 (C := fun h2 a b => (h2, a, b)) (t_fR I T (by decide) (by decide) (by decide)) ?_
      refine tr_eq2 (C := fun h2 a b => (h2, a, b)) (t_fI I T (by decide) (by decide) rfl) ?_
      have hi4 := Z.2.2.1 (gP s v0 0) (by omega)
      have hv4 := Z.2.2.1 v0 (by omega)
      have cA := I.1 (gP s v0 0) (by omega)
      rw [T1] at cA
      have hlen : (Int32.ofNat (s.2.2.2.1 (gP s v0 0))).toInt = (s.2.2.2.1 (gP s v0 0) : Int) := nI_toInt (n := s.2.2.2.1 (gP s v0 0)) (by omega)
      have hne : ¬ (2 : Int32) * gF s v0 2 = gL s (gP s v0 0) := fun q => by
        have h5 := hcn.1
        rw [q] at h5
        unfold gL at h5
        omega
      have hmn : hp_mn (gL s (gP s v0 0)) ((2 : Int32) * gF s v0 2) = gL s (gP s v0 0) := by
        unfold hp_mn
        rw [if_neg]
        intro q
        have := Int32.lt_iff_toInt_lt.mp q
        unfold gL at this
        omega
      have hcopy : f_J7_copyOf_59c91 n (r2 (gP s v0 0)) ((2 : Int32) * gF s v0 2) h sz sl = some (sz, hp_w (hp_na h sz 0 m) sz (.inl (0, m, va_cpy (s.2.2.1 (gP s v0 0)) (fun _ => 0) 0 0 (s.2.2.2.1 (gP s v0 0)))), sz + 1, sl + m) := by
        unfold f_J7_copyOf_59c91 f_J7_copyOf_59c91_0
        rw [t_len I T1 (by decide)]
        show (if _ then _ else _) = _
        rw [if_neg hne, hm0]
        show f_J7_copyOf_59c91_17 n _ _ sz _ _ _ = _
        unfold f_J7_copyOf_59c91_17
        have k1 : hp_na h sz 0 m (r2 (gP s v0 0)) = some (.inl (0, s.2.2.2.1 (gP s v0 0), s.2.2.1 (gP s v0 0))) := by
          unfold hp_na
          rw [hp_w_ne (by omega)]
          exact cA
        have k2 : hp_na h sz 0 m sz = some (.inl (0, m, fun _ => 0)) := by
          unfold hp_na
          exact hp_w_self
        have k3 : hp_len (hp_na h sz 0 m) (r2 (gP s v0 0)) = some (gL s (gP s v0 0)) := by simp [hp_len, k1, gL]
        rw [k3]
        show (hp_cp _ _ _ _ _ (hp_mn (gL s (gP s v0 0)) _)).bind _ = _
        rw [hmn]
        have k4 : (gL s (gP s v0 0)).toNatClampNeg = s.2.2.2.1 (gP s v0 0) := nI_clamp (n := s.2.2.2.1 (gP s v0 0)) (by omega)
        have k5 : (gL s (gP s v0 0)).toInt = (s.2.2.2.1 (gP s v0 0) : Int) := hlen
        have k6 : hp_cp (hp_na h sz 0 m) (r2 (gP s v0 0)) (0 : Int32) sz (0 : Int32) (gL s (gP s v0 0)) = some (hp_w (hp_na h sz 0 m) sz (.inl (0, m, va_cpy (s.2.2.1 (gP s v0 0)) (fun _ => 0) 0 0 (s.2.2.2.1 (gP s v0 0))))) := by
          unfold hp_cp
          rw [k1, k2]
          show (if _ then _ else _) = _
          rw [if_pos (by rw [k5]; refine ⟨rfl, rfl, by decide, by decide, by omega, ?_, ?_⟩ <;> simp <;> omega), k4]
          rfl
        rw [k6]
        rfl
      refine tr_eq2 (C := fun h2 a b => (h2, a, b)) hcopy ?_
      dsimp only
      have Z2 := t2_grow Z T hN hm2 hV hV2
      have k8 : hp_pF (hp_w (hp_na h sz 0 m) sz (.inl (0, m, va_cpy (s.2.2.1 (gP s v0 0)) (fun _ => 0) 0 0 (s.2.2.2.1 (gP s v0 0))))) 5 (r2 v0) 0 (.ref sz) = some (hp_w (hp_w (hp_na h sz 0 m) sz (.inl (0, m, va_cpy (s.2.2.1 (gP s v0 0)) (fun _ => 0) 0 0 (s.2.2.2.1 (gP s v0 0))))) (r2 v0) (.inr (.inr (5, updV V 0 (.ref sz))))) := by
        unfold hp_pF
        rw [hp_w_ne (by omega)]
        unfold hp_na
        rw [hp_w_ne (by omega), hV]
        rfl
      unfold f_X5_add_26
      refine tr_eq2 (C := fun h2 a b => (h2, a, b)) k8 ?_
      subst hw
      have hr3 : ¬ v0 = gP s v0 0 := fun z => by rw [← z] at T1; omega
      obtain ⟨h9, e9, I9, F9⟩ := t2_put (n := n) (sz := sz + 1) (sl := sl + m) Z2.1 T hm
      rw [if_neg hr3] at e9
      exact ⟨h9, _, _, _, e9, Z2.step I9 F9⟩
    · cases hw
  · rw [if_neg c] at hw ⊢
    have hw := Option.some.inj hw
    subst hw
    obtain ⟨h9, e9, I9, F9⟩ := t2_put (n := n) (sz := sz) (sl := sl) I T hm
    exact ⟨h9, _, _, _, e9, Z.step I9 F9⟩
