abbrev m_L_law : hp_M := (RL, cL_law, 4, some .boolean, 11, 430, "law")
abbrev zx_L_law_18 : (Int32 × hp_H × Nat × Nat) → Nat × Nat := (fun y => (y.2.2.1, y.2.2.2))
abbrev zz_L_law_18 : ((Int32 × hp_H × Nat × Nat) ⊕ (Int32 × hp_H × Nat × Nat)) → Nat × Nat := Sum.elim (fun y => (y.2.2.1, y.2.2.2)) zx_L_law_18
def f_L_law_637 (n L : Nat) (xs : Nat → Int32) (b : Nat) (v1 : Nat) (v2 : Nat) (v3 : Int32) (h : hp_H) (sz sl : Nat) : Option ((Int32 × hp_H × Nat × Nat) ⊕ (Int32 × hp_H × Nat × Nat)) :=
  some (.inl ((v3 + (5 : Int32)), h, sz, sl))
set_option maxHeartbeats 1000000 in
set_option maxRecDepth 4000 in
theorem mo_L_law_637 {n L : Nat} {xs : Nat → Int32} {b : Nat} {v1 : Nat} {v2 : Nat} {v3 : Int32} {h : hp_H} {sz sl : Nat} {res : (Int32 × hp_H × Nat × Nat) ⊕ (Int32 × hp_H × Nat × Nat)} (hm : f_L_law_637 n L xs b v1 v2 v3 h sz sl = some res) : sz ≤ (zz_L_law_18 res).1 ∧ sl ≤ (zz_L_law_18 res).2 := by
  unfold f_L_law_637 at hm
  obtain rfl := Option.some.inj hm
  exact ⟨Nat.le_refl _, Nat.le_refl _⟩
set_option maxHeartbeats 1000000 in
set_option maxRecDepth 4000 in
theorem q_L_law_637 (G : hp_G) (n L : Nat) (xs : Nat → Int32) (b : Nat) (hb0 : b < G.2.1) (v1 : Nat) (v2 : Nat) (v3 : Int32) (h : hp_H) (sz sl : Nat) (o : hp_O) (res : (Int32 × hp_H × Nat × Nat) ⊕ (Int32 × hp_H × Nat × Nat)) (hB : (zz_L_law_18 res).1 ≤ o.2.2.1 ∧ (zz_L_law_18 res).2 ≤ o.2.2.2) (hm : f_L_law_637 n L xs b v1 v2 v3 h sz sl = some res) (kI : ∀ y : Int32 × hp_H × Nat × Nat, res = .inl y → hp_U (hp_Sc b L xs) G m_L_law 18 [(0, .ref b), (1, .ref v1), (2, .ref v2), (3, .int y.1)] [] y.2.1 y.2.2.1 y.2.2.2 o) (kR : ∀ y : Int32 × hp_H × Nat × Nat, res = .inr y → o = (some (.int y.1), y.2.1, y.2.2.1, y.2.2.2)) : hp_U (hp_Sc b L xs) G m_L_law 637 [(0, .ref b), (1, .ref v1), (2, .ref v2), (3, .int v3)] [] h sz sl o := by
  have ho : sz ≤ o.2.2.1 ∧ sl ≤ o.2.2.2 := ⟨Nat.le_trans (mo_L_law_637 hm).1 hB.1, Nat.le_trans (mo_L_law_637 hm).2 hB.2⟩
  unfold f_L_law_637 at hm
  refine hv_iinc (v3 + (5 : Int32)) 3 [(3, .int (v3 + (5 : Int32))), (0, .ref b), (1, .ref v1), (2, .ref v2)] dL_law_637 rfl rfl (by decide) rfl ?_
  refine hv_goto (tgt := 18) dL_law_640 (by decide) ?_
  exact hv_sub [1, 2, 3, 0] rfl (kI ((v3 + (5 : Int32)), h, sz, sl) (Option.some.inj hm).symm)
def f_L_law_213 (n L : Nat) (xs : Nat → Int32) (b : Nat) (v1 : Nat) (v2 : Nat) (v3 : Int32) (s0 : Int32) (h : hp_H) (sz sl : Nat) : Option ((Int32 × hp_H × Nat × Nat) ⊕ (Int32 × hp_H × Nat × Nat)) :=
  (f_X11_read n v2 h).bind fun x1 =>
  if s0 = x1.1 then
    f_L_law_637 n L xs b v1 v2 v3 x1.2 sz sl
  else
    some (.inr ((0 : Int32), x1.2, sz, sl))
set_option maxHeartbeats 1000000 in
set_option maxRecDepth 4000 in
theorem mo_L_law_213 {n L : Nat} {xs : Nat → Int32} {b : Nat} {v1 : Nat} {v2 : Nat} {v3 : Int32} {s0 : Int32} {h : hp_H} {sz sl : Nat} {res : (Int32 × hp_H × Nat × Nat) ⊕ (Int32 × hp_H × Nat × Nat)} (hm : f_L_law_213 n L xs b v1 v2 v3 s0 h sz sl = some res) : sz ≤ (zz_L_law_18 res).1 ∧ sl ≤ (zz_L_law_18 res).2 := by
  unfold f_L_law_213 at hm
  obtain ⟨x1, hx1, hm⟩ := hp_bd hm
  rcases Decidable.em (s0 = x1.1) with c2 | c2
  · rw [if_pos c2] at hm
    exact mo_L_law_637 hm
  · rw [if_neg c2] at hm
    obtain rfl := Option.some.inj hm
    exact ⟨Nat.le_refl _, Nat.le_refl _⟩
set_option maxHeartbeats 1000000 in
set_option maxRecDepth 4000 in
theorem q_L_law_213 (G : hp_G) (n L : Nat) (xs : Nat → Int32) (b : Nat) (hb0 : b < G.2.1) (v1 : Nat) (v2 : Nat) (v3 : Int32) (s0 : Int32) (h : hp_H) (sz sl : Nat) (o : hp_O) (res : (Int32 × hp_H × Nat × Nat) ⊕ (Int32 × hp_H × Nat × Nat)) (hB : (zz_L_law_18 res).1 ≤ o.2.2.1 ∧ (zz_L_law_18 res).2 ≤ o.2.2.2) (hm : f_L_law_213 n L xs b v1 v2 v3 s0 h sz sl = some res) (kI : ∀ y : Int32 × hp_H × Nat × Nat, res = .inl y → hp_U (hp_Sc b L xs) G m_L_law 18 [(0, .ref b), (1, .ref v1), (2, .ref v2), (3, .int y.1)] [] y.2.1 y.2.2.1 y.2.2.2 o) (kR : ∀ y : Int32 × hp_H × Nat × Nat, res = .inr y → o = (some (.int y.1), y.2.1, y.2.2.1, y.2.2.2)) : hp_U (hp_Sc b L xs) G m_L_law 213 [(0, .ref b), (1, .ref v1), (2, .ref v2), (3, .int v3)] [.int s0] h sz sl o := by
  have ho : sz ≤ o.2.2.1 ∧ sl ≤ o.2.2.2 := ⟨Nat.le_trans (mo_L_law_213 hm).1 hB.1, Nat.le_trans (mo_L_law_213 hm).2 hB.2⟩
  unfold f_L_law_213 at hm
  refine hv_aload_n 2 dL_law_213 rfl rfl ?_
  obtain ⟨x1, hx1, hm⟩ := hp_bd hm
  obtain ⟨Vx1, hVx1⟩ := k_X11_read hx1
  refine hv_callV (As := []) (rest := [.int s0]) Z_X11_read I_X11_read lk_m_L_24 rfl hVx1 (c_X11_read G n v2 h sz sl _ hx1) rfl (Nat.le_of_ble_eq_true rfl) ⟨Nat.le_of_ble_eq_true rfl, Nat.le_of_ble_eq_true rfl⟩ ho.1 ho.2 rfl dL_law_214 ?_
  refine hv_as [.int x1.1, .int s0] x1.2 rfl rfl ?_
  refine hv_icmp_eq (tgt := 637) dL_law_217 (by decide) (fun c2 => ?_) (fun c2 => ?_)
  · rw [if_pos c2] at hm
    exact hv_sub [0, 1, 2, 3] rfl (q_L_law_637 G n L xs b hb0 v1 v2 v3 x1.2 sz sl o _ hB hm kI kR)
  · rw [if_neg c2] at hm
    refine hv_iconst (0 : Int32) dL_law_220 (by decide) ?_
    obtain rfl := kR _ (Option.some.inj hm).symm
    exact hv_zret rfl (by decide) dL_law_221
def f_L_law_419 (n L : Nat) (xs : Nat → Int32) (b : Nat) (v1 : Nat) (v2 : Nat) (v3 : Int32) (s0 : Int32) (h : hp_H) (sz sl : Nat) : Option ((Int32 × hp_H × Nat × Nat) ⊕ (Int32 × hp_H × Nat × Nat)) :=
  (hp_sc L xs (v3 + (1 : Int32))).bind fun x1 =>
  (f_X11_check n v2 x1 h).bind fun x2 =>
  if s0 = x2.1 then
    f_L_law_637 n L xs b v1 v2 v3 x2.2 sz sl
  else
    some (.inr ((0 : Int32), x2.2, sz, sl))
set_option maxHeartbeats 1000000 in
set_option maxRecDepth 4000 in
theorem mo_L_law_419 {n L : Nat} {xs : Nat → Int32} {b : Nat} {v1 : Nat} {v2 : Nat} {v3 : Int32} {s0 : Int32} {h : hp_H} {sz sl : Nat} {res : (Int32 × hp_H × Nat × Nat) ⊕ (Int32 × hp_H × Nat × Nat)} (hm : f_L_law_419 n L xs b v1 v2 v3 s0 h sz sl = some res) : sz ≤ (zz_L_law_18 res).1 ∧ sl ≤ (zz_L_law_18 res).2 := by
  unfold f_L_law_419 at hm
  obtain ⟨x1, hx1, hm⟩ := hp_bd hm
  obtain ⟨x2, hx2, hm⟩ := hp_bd hm
  rcases Decidable.em (s0 = x2.1) with c3 | c3
  · rw [if_pos c3] at hm
    exact mo_L_law_637 hm
  · rw [if_neg c3] at hm
    obtain rfl := Option.some.inj hm
    exact ⟨Nat.le_refl _, Nat.le_refl _⟩
set_option maxHeartbeats 1000000 in
set_option maxRecDepth 4000 in
theorem q_L_law_419 (G : hp_G) (n L : Nat) (xs : Nat → Int32) (b : Nat) (hb0 : b < G.2.1) (v1 : Nat) (v2 : Nat) (v3 : Int32) (s0 : Int32) (h : hp_H) (sz sl : Nat) (o : hp_O) (res : (Int32 × hp_H × Nat × Nat) ⊕ (Int32 × hp_H × Nat × Nat)) (hB : (zz_L_law_18 res).1 ≤ o.2.2.1 ∧ (zz_L_law_18 res).2 ≤ o.2.2.2) (hm : f_L_law_419 n L xs b v1 v2 v3 s0 h sz sl = some res) (kI : ∀ y : Int32 × hp_H × Nat × Nat, res = .inl y → hp_U (hp_Sc b L xs) G m_L_law 18 [(0, .ref b), (1, .ref v1), (2, .ref v2), (3, .int y.1)] [] y.2.1 y.2.2.1 y.2.2.2 o) (kR : ∀ y : Int32 × hp_H × Nat × Nat, res = .inr y → o = (some (.int y.1), y.2.1, y.2.2.1, y.2.2.2)) : hp_U (hp_Sc b L xs) G m_L_law 419 [(0, .ref b), (1, .ref v1), (2, .ref v2), (3, .int v3)] [.int s0] h sz sl o := by
  have ho : sz ≤ o.2.2.1 ∧ sl ≤ o.2.2.2 := ⟨Nat.le_trans (mo_L_law_419 hm).1 hB.1, Nat.le_trans (mo_L_law_419 hm).2 hB.2⟩
  unfold f_L_law_419 at hm
  refine hv_aload_n 2 dL_law_419 rfl rfl ?_
  refine hv_aload_n 0 dL_law_420 rfl rfl ?_
  refine hv_iload_n 3 dL_law_421 rfl rfl ?_
  refine hv_iconst (1 : Int32) dL_law_422 (by decide) ?_
  refine hv_iadd dL_law_423 ?_
  obtain ⟨x1, hx1, hm⟩ := hp_bd hm
  refine hv_sld hb0 dL_law_424 hx1 ?_
  obtain ⟨x2, hx2, hm⟩ := hp_bd hm
  obtain ⟨Vx2, hVx2⟩ := k_X11_check hx2
  refine hv_callV (As := [.int x1]) (rest := [.int s0]) Z_X11_check I_X11_check lk_m_L_55 rfl hVx2 (c_X11_check G n v2 x1 h sz sl _ hx2) rfl (Nat.le_of_ble_eq_true rfl) ⟨Nat.le_of_ble_eq_true rfl, Nat.le_of_ble_eq_true rfl⟩ ho.1 ho.2 rfl dL_law_425 ?_
  refine hv_as [.int x2.1, .int s0] x2.2 rfl rfl ?_
  refine hv_icmp_eq (tgt := 637) dL_law_428 (by decide) (fun c3 => ?_) (fun c3 => ?_)
  · rw [if_pos c3] at hm
    exact hv_sub [0, 1, 2, 3] rfl (q_L_law_637 G n L xs b hb0 v1 v2 v3 x2.2 sz sl o _ hB hm kI kR)
  · rw [if_neg c3] at hm
    refine hv_iconst (0 : Int32) dL_law_431 (by decide) ?_
    obtain rfl := kR _ (Option.some.inj hm).symm
    exact hv_zret rfl (by decide) dL_law_432
def f_L_law_460 (n L : Nat) (xs : Nat → Int32) (b : Nat) (v1 : Nat) (v2 : Nat) (v3 : Int32) (s0 : Int32) (h : hp_H) (sz sl : Nat) : Option ((Int32 × hp_H × Nat × Nat) ⊕ (Int32 × hp_H × Nat × Nat)) :=
  (hp_sc L xs (v3 + (1 : Int32))).bind fun x1 =>
  (hp_sc L xs (v3 + (2 : Int32))).bind fun x2 =>
  (f_X11_trace n v2 x1 x2 h).bind fun x3 =>
  if s0 = x3.1 then
    f_L_law_637 n L xs b v1 v2 v3 x3.2 sz sl
  else
    some (.inr ((0 : Int32), x3.2, sz, sl))
set_option maxHeartbeats 1000000 in
set_option maxRecDepth 4000 in
theorem mo_L_law_460 {n L : Nat} {xs : Nat → Int32} {b : Nat} {v1 : Nat} {v2 : Nat} {v3 : Int32} {s0 : Int32} {h : hp_H} {sz sl : Nat} {res : (Int32 × hp_H × Nat × Nat) ⊕ (Int32 × hp_H × Nat × Nat)} (hm : f_L_law_460 n L xs b v1 v2 v3 s0 h sz sl = some res) : sz ≤ (zz_L_law_18 res).1 ∧ sl ≤ (zz_L_law_18 res).2 := by
  unfold f_L_law_460 at hm
  obtain ⟨x1, hx1, hm⟩ := hp_bd hm
  obtain ⟨x2, hx2, hm⟩ := hp_bd hm
  obtain ⟨x3, hx3, hm⟩ := hp_bd hm
  rcases Decidable.em (s0 = x3.1) with c4 | c4
  · rw [if_pos c4] at hm
    exact mo_L_law_637 hm
  · rw [if_neg c4] at hm
    obtain rfl := Option.some.inj hm
    exact ⟨Nat.le_refl _, Nat.le_refl _⟩
set_option maxHeartbeats 1000000 in
set_option maxRecDepth 4000 in
theorem q_L_law_460 (G : hp_G) (n L : Nat) (xs : Nat → Int32) (b : Nat) (hb0 : b < G.2.1) (v1 : Nat) (v2 : Nat) (v3 : Int32) (s0 : Int32) (h : hp_H) (sz sl : Nat) (o : hp_O) (res : (Int32 × hp_H × Nat × Nat) ⊕ (Int32 × hp_H × Nat × Nat)) (hB : (zz_L_law_18 res).1 ≤ o.2.2.1 ∧ (zz_L_law_18 res).2 ≤ o.2.2.2) (hm : f_L_law_460 n L xs b v1 v2 v3 s0 h sz sl = some res) (kI : ∀ y : Int32 × hp_H × Nat × Nat, res = .inl y → hp_U (hp_Sc b L xs) G m_L_law 18 [(0, .ref b), (1, .ref v1), (2, .ref v2), (3, .int y.1)] [] y.2.1 y.2.2.1 y.2.2.2 o) (kR : ∀ y : Int32 × hp_H × Nat × Nat, res = .inr y → o = (some (.int y.1), y.2.1, y.2.2.1, y.2.2.2)) : hp_U (hp_Sc b L xs) G m_L_law 460 [(0, .ref b), (1, .ref v1), (2, .ref v2), (3, .int v3)] [.int s0] h sz sl o := by
  have ho : sz ≤ o.2.2.1 ∧ sl ≤ o.2.2.2 := ⟨Nat.le_trans (mo_L_law_460 hm).1 hB.1, Nat.le_trans (mo_L_law_460 hm).2 hB.2⟩
  unfold f_L_law_460 at hm
  refine hv_aload_n 2 dL_law_460 rfl rfl ?_
  refine hv_aload_n 0 dL_law_461 rfl rfl ?_
  refine hv_iload_n 3 dL_law_462 rfl rfl ?_
  refine hv_iconst (1 : Int32) dL_law_463 (by decide) ?_
  refine hv_iadd dL_law_464 ?_
  obtain ⟨x1, hx1, hm⟩ := hp_bd hm
  refine hv_sld hb0 dL_law_465 hx1 ?_
  refine hv_aload_n 0 dL_law_466 rfl rfl ?_
  refine hv_iload_n 3 dL_law_467 rfl rfl ?_
  refine hv_iconst (2 : Int32) dL_law_468 (by decide) ?_
  refine hv_iadd dL_law_469 ?_
  obtain ⟨x2, hx2, hm⟩ := hp_bd hm
  refine hv_sld hb0 dL_law_470 hx2 ?_
  obtain ⟨x3, hx3, hm⟩ := hp_bd hm
  obtain ⟨Vx3, hVx3⟩ := k_X11_trace hx3
  refine hv_callV (As := [.int x1, .int x2]) (rest := [.int s0]) Z_X11_trace I_X11_trace lk_m_L_63 rfl hVx3 (c_X11_trace G n v2 x1 x2 h sz sl _ hx3) rfl (Nat.le_of_ble_eq_true rfl) ⟨Nat.le_of_ble_eq_true rfl, Nat.le_of_ble_eq_true rfl⟩ ho.1 ho.2 rfl dL_law_471 ?_
  refine hv_as [.int x3.1, .int s0] x3.2 rfl rfl ?_
  refine hv_icmp_eq (tgt := 637) dL_law_474 (by decide) (fun c4 => ?_) (fun c4 => ?_)
  · rw [if_pos c4] at hm
    exact hv_sub [0, 1, 2, 3] rfl (q_L_law_637 G n L xs b hb0 v1 v2 v3 x3.2 sz sl o _ hB hm kI kR)
  · rw [if_neg c4] at hm
    refine hv_iconst (0 : Int32) dL_law_477 (by decide) ?_
    obtain rfl := kR _ (Option.some.inj hm).symm
    exact hv_zret rfl (by decide) dL_law_478
def f_L_law_526 (n L : Nat) (xs : Nat → Int32) (b : Nat) (v1 : Nat) (v2 : Nat) (v3 : Int32) (s0 : Int32) (h : hp_H) (sz sl : Nat) : Option ((Int32 × hp_H × Nat × Nat) ⊕ (Int32 × hp_H × Nat × Nat)) :=
  (hp_sc L xs (v3 + (1 : Int32))).bind fun x1 =>
  (hp_sc L xs (v3 + (2 : Int32))).bind fun x2 =>
  (f_X11_tell n v2 x1 x2 h).bind fun x3 =>
  if s0 = x3.1 then
    f_L_law_637 n L xs b v1 v2 v3 x3.2 sz sl
  else
    some (.inr ((0 : Int32), x3.2, sz, sl))
set_option maxHeartbeats 1000000 in
set_option maxRecDepth 4000 in
theorem mo_L_law_526 {n L : Nat} {xs : Nat → Int32} {b : Nat} {v1 : Nat} {v2 : Nat} {v3 : Int32} {s0 : Int32} {h : hp_H} {sz sl : Nat} {res : (Int32 × hp_H × Nat × Nat) ⊕ (Int32 × hp_H × Nat × Nat)} (hm : f_L_law_526 n L xs b v1 v2 v3 s0 h sz sl = some res) : sz ≤ (zz_L_law_18 res).1 ∧ sl ≤ (zz_L_law_18 res).2 := by
  unfold f_L_law_526 at hm
  obtain ⟨x1, hx1, hm⟩ := hp_bd hm
  obtain ⟨x2, hx2, hm⟩ := hp_bd hm
  obtain ⟨x3, hx3, hm⟩ := hp_bd hm
  rcases Decidable.em (s0 = x3.1) with c4 | c4
  · rw [if_pos c4] at hm
    exact mo_L_law_637 hm
  · rw [if_neg c4] at hm
    obtain rfl := Option.some.inj hm
    exact ⟨Nat.le_refl _, Nat.le_refl _⟩
set_option maxHeartbeats 1000000 in
set_option maxRecDepth 4000 in
theorem q_L_law_526 (G : hp_G) (n L : Nat) (xs : Nat → Int32) (b : Nat) (hb0 : b < G.2.1) (v1 : Nat) (v2 : Nat) (v3 : Int32) (s0 : Int32) (h : hp_H) (sz sl : Nat) (o : hp_O) (res : (Int32 × hp_H × Nat × Nat) ⊕ (Int32 × hp_H × Nat × Nat)) (hB : (zz_L_law_18 res).1 ≤ o.2.2.1 ∧ (zz_L_law_18 res).2 ≤ o.2.2.2) (hm : f_L_law_526 n L xs b v1 v2 v3 s0 h sz sl = some res) (kI : ∀ y : Int32 × hp_H × Nat × Nat, res = .inl y → hp_U (hp_Sc b L xs) G m_L_law 18 [(0, .ref b), (1, .ref v1), (2, .ref v2), (3, .int y.1)] [] y.2.1 y.2.2.1 y.2.2.2 o) (kR : ∀ y : Int32 × hp_H × Nat × Nat, res = .inr y → o = (some (.int y.1), y.2.1, y.2.2.1, y.2.2.2)) : hp_U (hp_Sc b L xs) G m_L_law 526 [(0, .ref b), (1, .ref v1), (2, .ref v2), (3, .int v3)] [.int s0] h sz sl o := by
  have ho : sz ≤ o.2.2.1 ∧ sl ≤ o.2.2.2 := ⟨Nat.le_trans (mo_L_law_526 hm).1 hB.1, Nat.le_trans (mo_L_law_526 hm).2 hB.2⟩
  unfold f_L_law_526 at hm
  refine hv_aload_n 2 dL_law_526 rfl rfl ?_
  refine hv_aload_n 0 dL_law_527 rfl rfl ?_
  refine hv_iload_n 3 dL_law_528 rfl rfl ?_
  refine hv_iconst (1 : Int32) dL_law_529 (by decide) ?_
  refine hv_iadd dL_law_530 ?_
  obtain ⟨x1, hx1, hm⟩ := hp_bd hm
  refine hv_sld hb0 dL_law_531 hx1 ?_
  refine hv_aload_n 0 dL_law_532 rfl rfl ?_
  refine hv_iload_n 3 dL_law_533 rfl rfl ?_
  refine hv_iconst (2 : Int32) dL_law_534 (by decide) ?_
  refine hv_iadd dL_law_535 ?_
  obtain ⟨x2, hx2, hm⟩ := hp_bd hm
  refine hv_sld hb0 dL_law_536 hx2 ?_
  obtain ⟨x3, hx3, hm⟩ := hp_bd hm
  obtain ⟨Vx3, hVx3⟩ := k_X11_tell hx3
  refine hv_callV (As := [.int x1, .int x2]) (rest := [.int s0]) Z_X11_tell I_X11_tell lk_m_L_71 rfl hVx3 (c_X11_tell G n v2 x1 x2 h sz sl _ hx3) rfl (Nat.le_of_ble_eq_true rfl) ⟨Nat.le_of_ble_eq_true rfl, Nat.le_of_ble_eq_true rfl⟩ ho.1 ho.2 rfl dL_law_537 ?_
  refine hv_as [.int x3.1, .int s0] x3.2 rfl rfl ?_
  refine hv_icmp_eq (tgt := 637) dL_law_540 (by decide) (fun c4 => ?_) (fun c4 => ?_)
  · rw [if_pos c4] at hm
    exact hv_sub [0, 1, 2, 3] rfl (q_L_law_637 G n L xs b hb0 v1 v2 v3 x3.2 sz sl o _ hB hm kI kR)
  · rw [if_neg c4] at hm
    refine hv_iconst (0 : Int32) dL_law_543 (by decide) ?_
    obtain rfl := kR _ (Option.some.inj hm).symm
    exact hv_zret rfl (by decide) dL_law_544
def f_L_law_18 (n L : Nat) (xs : Nat → Int32) (b : Nat) (v1 : Nat) (v2 : Nat) (v3 : Int32) (h : hp_H) (sz sl : Nat) : Option ((Int32 × hp_H × Nat × Nat) ⊕ (Int32 × hp_H × Nat × Nat)) :=
  if ((Int32.ofNat L) - (5 : Int32)) < v3 then
    some (.inr ((1 : Int32), h, sz, sl))
  else
    (hp_sc L xs v3).bind fun x1 =>
    if (x1 &&& (31 : Int32)) = (0 : Int32) then
      (hp_sc L xs (v3 + (1 : Int32))).bind fun x3 =>
      (hp_sc L xs (v3 + (2 : Int32))).bind fun x4 =>
      (hp_sc L xs (v3 + (3 : Int32))).bind fun x5 =>
      (hp_sc L xs (v3 + (4 : Int32))).bind fun x6 =>
      (f_X10_feed n v1 (((Int32.toInt64 x3) <<< (Int32.toInt64 (32 : Int32) &&& 63)) ||| ((Int32.toInt64 x4) &&& (4294967295 : Int64))) (((Int32.toInt64 x5) <<< (Int32.toInt64 (32 : Int32) &&& 63)) ||| ((Int32.toInt64 x6) &&& (4294967295 : Int64))) h).bind fun x7 =>
      (hp_sc L xs (v3 + (1 : Int32))).bind fun x8 =>
      (hp_sc L xs (v3 + (2 : Int32))).bind fun x9 =>
      (hp_sc L xs (v3 + (3 : Int32))).bind fun x10 =>
      (hp_sc L xs (v3 + (4 : Int32))).bind fun x11 =>
      (f_X11_feed n v2 (((Int32.toInt64 x8) <<< (Int32.toInt64 (32 : Int32) &&& 63)) ||| ((Int32.toInt64 x9) &&& (4294967295 : Int64))) (((Int32.toInt64 x10) <<< (Int32.toInt64 (32 : Int32) &&& 63)) ||| ((Int32.toInt64 x11) &&& (4294967295 : Int64))) x7.2).bind fun x12 =>
      if x7.1 = x12.1 then
        f_L_law_637 n L xs b v1 v2 v3 x12.2 sz sl
      else
        some (.inr ((0 : Int32), x12.2, sz, sl))
    else if (x1 &&& (31 : Int32)) = (1 : Int32) then
      (f_X10_read n v1 h sz sl).bind fun x15 =>
      f_L_law_213 n L xs b v1 v2 v3 x15.1 x15.2.1 x15.2.2.1 x15.2.2.2
    else if (x1 &&& (31 : Int32)) = (2 : Int32) then
      (f_X10_place n v1 h).bind fun x17 =>
      (f_X11_place n v2 h).bind fun x18 =>
      if x17 = x18 then
        f_L_law_637 n L xs b v1 v2 v3 h sz sl
      else
        some (.inr ((0 : Int32), h, sz, sl))
    else if (x1 &&& (31 : Int32)) = (3 : Int32) then
      (hp_sc L xs (v3 + (1 : Int32))).bind fun x21 =>
      (f_X10_count n v1 x21 h).bind fun x22 =>
      (hp_sc L xs (v3 + (1 : Int32))).bind fun x23 =>
      (f_X11_count n v2 x23 h).bind fun x24 =>
      if x22 = x24 then
        f_L_law_637 n L xs b v1 v2 v3 h sz sl
      else
        some (.inr ((0 : Int32), h, sz, sl))
    else if (x1 &&& (31 : Int32)) = (4 : Int32) then
      (hp_sc L xs (v3 + (1 : Int32))).bind fun x27 =>
      (hp_sc L xs (v3 + (2 : Int32))).bind fun x28 =>
      (f_X10_statement n v1 x27 x28 h).bind fun x29 =>
      (hp_sc L xs (v3 + (1 : Int32))).bind fun x30 =>
      (hp_sc L xs (v3 + (2 : Int32))).bind fun x31 =>
      (f_X11_statement n v2 x30 x31 h).bind fun x32 =>
      if x29 = x32 then
        f_L_law_637 n L xs b v1 v2 v3 h sz sl
      else
        some (.inr ((0 : Int32), h, sz, sl))
    else if (x1 &&& (31 : Int32)) = (5 : Int32) then
      (hp_sc L xs (v3 + (1 : Int32))).bind fun x35 =>
      (hp_sc L xs (v3 + (2 : Int32))).bind fun x36 =>
      (f_X10_symbol n v1 x35 x36 h).bind fun x37 =>
      (hp_sc L xs (v3 + (1 : Int32))).bind fun x38 =>
      (hp_sc L xs (v3 + (2 : Int32))).bind fun x39 =>
      (f_X11_symbol n v2 x38 x39 h).bind fun x40 =>
      if x37 = x40 then
        f_L_law_637 n L xs b v1 v2 v3 h sz sl
      else
        some (.inr ((0 : Int32), h, sz, sl))
    else if (x1 &&& (31 : Int32)) = (6 : Int32) then
      (hp_sc L xs (v3 + (1 : Int32))).bind fun x43 =>
      (hp_sc L xs (v3 + (2 : Int32))).bind fun x44 =>
      (hp_sc L xs (v3 + (3 : Int32))).bind fun x45 =>
      (f_X10_name n v1 x43 x44 x45 h).bind fun x46 =>
      (hp_sc L xs (v3 + (1 : Int32))).bind fun x47 =>
      (hp_sc L xs (v3 + (2 : Int32))).bind fun x48 =>
      (hp_sc L xs (v3 + (3 : Int32))).bind fun x49 =>
      (f_X11_name n v2 x47 x48 x49 h).bind fun x50 =>
      if x46 = x50 then
        f_L_law_637 n L xs b v1 v2 v3 h sz sl
      else
        some (.inr ((0 : Int32), h, sz, sl))
    else if (x1 &&& (31 : Int32)) = (7 : Int32) then
      (hp_sc L xs (v3 + (1 : Int32))).bind fun x53 =>
      (hp_sc L xs (v3 + (2 : Int32))).bind fun x54 =>
      (hp_sc L xs (v3 + (3 : Int32))).bind fun x55 =>
      (f_X10_frame n v1 x53 x54 x55 h).bind fun x56 =>
      (hp_sc L xs (v3 + (1 : Int32))).bind fun x57 =>
      (hp_sc L xs (v3 + (2 : Int32))).bind fun x58 =>
      (hp_sc L xs (v3 + (3 : Int32))).bind fun x59 =>
      (f_X11_frame n v2 x57 x58 x59 h).bind fun x60 =>
      if x56 = x60 then
        f_L_law_637 n L xs b v1 v2 v3 h sz sl
      else
        some (.inr ((0 : Int32), h, sz, sl))
    else if (x1 &&& (31 : Int32)) = (8 : Int32) then
      (hp_sc L xs (v3 + (1 : Int32))).bind fun x63 =>
      (f_X10_check n v1 x63 h sz sl).bind fun x64 =>
      f_L_law_419 n L xs b v1 v2 v3 x64.1 x64.2.1 x64.2.2.1 x64.2.2.2
    else if (x1 &&& (31 : Int32)) = (9 : Int32) then
      (f_X10_step n v1 h).bind fun x66 =>
      (f_X11_step n v2 h).bind fun x67 =>
      if x66 = x67 then
        f_L_law_637 n L xs b v1 v2 v3 h sz sl
      else
        some (.inr ((0 : Int32), h, sz, sl))
    else if (x1 &&& (31 : Int32)) = (10 : Int32) then
      (hp_sc L xs (v3 + (1 : Int32))).bind fun x70 =>
      (hp_sc L xs (v3 + (2 : Int32))).bind fun x71 =>
      (f_X10_trace n v1 x70 x71 h sz sl).bind fun x72 =>
      f_L_law_460 n L xs b v1 v2 v3 x72.1 x72.2.1 x72.2.2.1 x72.2.2.2
    else if (x1 &&& (31 : Int32)) = (11 : Int32) then
      (hp_sc L xs (v3 + (1 : Int32))).bind fun x74 =>
      (hp_sc L xs (v3 + (2 : Int32))).bind fun x75 =>
      (f_X10_thing n v1 x74 x75 h).bind fun x76 =>
      (hp_sc L xs (v3 + (1 : Int32))).bind fun x77 =>
      (hp_sc L xs (v3 + (2 : Int32))).bind fun x78 =>
      (f_X11_thing_ n v2 x77 x78 h).bind fun x79 =>
      if x76 = x79 then
        f_L_law_637 n L xs b v1 v2 v3 h sz sl
      else
        some (.inr ((0 : Int32), h, sz, sl))
    else if (x1 &&& (31 : Int32)) = (12 : Int32) then
      (hp_sc L xs (v3 + (1 : Int32))).bind fun x82 =>
      (hp_sc L xs (v3 + (2 : Int32))).bind fun x83 =>
      (f_X10_tell n v1 x82 x83 h sz sl).bind fun x84 =>
      f_L_law_526 n L xs b v1 v2 v3 x84.1 x84.2.1 x84.2.2.1 x84.2.2.2
    else if (x1 &&& (31 : Int32)) = (13 : Int32) then
      (hp_sc L xs (v3 + (1 : Int32))).bind fun x86 =>
      (f_X10_print n v1 x86 h).bind fun x87 =>
      (hp_sc L xs (v3 + (1 : Int32))).bind fun x88 =>
      (f_X11_print n v2 x88 x87.2).bind fun x89 =>
      if x87.1 = x89.1 then
        f_L_law_637 n L xs b v1 v2 v3 x89.2 sz sl
      else
        some (.inr ((0 : Int32), x89.2, sz, sl))
    else if (x1 &&& (31 : Int32)) = (14 : Int32) then
      (hp_sc L xs (v3 + (1 : Int32))).bind fun x92 =>
      (f_X10_out n v1 x92 h).bind fun x93 =>
      (hp_sc L xs (v3 + (1 : Int32))).bind fun x94 =>
      (f_X11_out n v2 x94 h).bind fun x95 =>
      if x93 = x95 then
        f_L_law_637 n L xs b v1 v2 v3 h sz sl
      else
        some (.inr ((0 : Int32), h, sz, sl))
    else if (x1 &&& (31 : Int32)) = (15 : Int32) then
      (hp_sc L xs (v3 + (1 : Int32))).bind fun x98 =>
      (hp_sc L xs (v3 + (2 : Int32))).bind fun x99 =>
      (f_X10_rests n v1 x98 x99 h).bind fun x100 =>
      (hp_sc L xs (v3 + (1 : Int32))).bind fun x101 =>
      (hp_sc L xs (v3 + (2 : Int32))).bind fun x102 =>
      (f_X11_rests n v2 x101 x102 h).bind fun x103 =>
      if x100 = x103.1 then
        f_L_law_637 n L xs b v1 v2 v3 x103.2 sz sl
      else
        some (.inr ((0 : Int32), x103.2, sz, sl))
    else if (x1 &&& (31 : Int32)) = (16 : Int32) then
      (f_X10_find n v1 h).bind fun x106 =>
      (f_X11_find n v2 x106.2).bind fun x107 =>
      if x106.1 = x107.1 then
        f_L_law_637 n L xs b v1 v2 v3 x107.2 sz sl
      else
        some (.inr ((0 : Int32), x107.2, sz, sl))
    else 
      f_L_law_637 n L xs b v1 v2 v3 h sz sl
set_option maxHeartbeats 1000000 in
set_option maxRecDepth 4000 in
theorem mo_L_law_18 {n L : Nat} {xs : Nat → Int32} {b : Nat} {v1 : Nat} {v2 : Nat} {v3 : Int32} {h : hp_H} {sz sl : Nat} {res : (Int32 × hp_H × Nat × Nat) ⊕ (Int32 × hp_H × Nat × Nat)} (hm : f_L_law_18 n L xs b v1 v2 v3 h sz sl = some res) : sz ≤ (zz_L_law_18 res).1 ∧ sl ≤ (zz_L_law_18 res).2 := by
  unfold f_L_law_18 at hm
  rcases Decidable.em (((Int32.ofNat L) - (5 : Int32)) < v3) with c109 | c109
  · rw [if_pos c109] at hm
    obtain rfl := Option.some.inj hm
    exact ⟨Nat.le_refl _, Nat.le_refl _⟩
  · rw [if_neg c109] at hm
    obtain ⟨x1, hx1, hm⟩ := hp_bd hm
    by_cases c2 : (x1 &&& (31 : Int32)) = (0 : Int32)
    · rw [if_pos c2] at hm
      obtain ⟨x3, hx3, hm⟩ := hp_bd hm
      obtain ⟨x4, hx4, hm⟩ := hp_bd hm
      obtain ⟨x5, hx5, hm⟩ := hp_bd hm
      obtain ⟨x6, hx6, hm⟩ := hp_bd hm
      obtain ⟨x7, hx7, hm⟩ := hp_bd hm
      obtain ⟨x8, hx8, hm⟩ := hp_bd hm
      obtain ⟨x9, hx9, hm⟩ := hp_bd hm
      obtain ⟨x10, hx10, hm⟩ := hp_bd hm
      obtain ⟨x11, hx11, hm⟩ := hp_bd hm
      obtain ⟨x12, hx12, hm⟩ := hp_bd hm
      rcases Decidable.em (x7.1 = x12.1) with c13 | c13
      · rw [if_pos c13] at hm
        exact mo_L_law_637 hm
      · rw [if_neg c13] at hm
        obtain rfl := Option.some.inj hm
        exact ⟨Nat.le_refl _, Nat.le_refl _⟩
    rw [if_neg c2] at hm
    by_cases c14 : (x1 &&& (31 : Int32)) = (1 : Int32)
    · rw [if_pos c14] at hm
      obtain ⟨x15, hx15, hm⟩ := hp_bd hm
      exact hp_tr (mx_X10_read hx15) (mo_L_law_213 hm)
    rw [if_neg c14] at hm
    by_cases c16 : (x1 &&& (31 : Int32)) = (2 : Int32)
    · rw [if_pos c16] at hm
      obtain ⟨x17, hx17, hm⟩ := hp_bd hm
      obtain ⟨x18, hx18, hm⟩ := hp_bd hm
      rcases Decidable.em (x17 = x18) with c19 | c19
      · rw [if_pos c19] at hm
        exact mo_L_law_637 hm
      · rw [if_neg c19] at hm
        obtain rfl := Option.some.inj hm
        exact ⟨Nat.le_refl _, Nat.le_refl _⟩
    rw [if_neg c16] at hm
    by_cases c20 : (x1 &&& (31 : Int32)) = (3 : Int32)
    · rw [if_pos c20] at hm
      obtain ⟨x21, hx21, hm⟩ := hp_bd hm
      obtain ⟨x22, hx22, hm⟩ := hp_bd hm
      obtain ⟨x23, hx23, hm⟩ := hp_bd hm
      obtain ⟨x24, hx24, hm⟩ := hp_bd hm
      rcases Decidable.em (x22 = x24) with c25 | c25
      · rw [if_pos c25] at hm
        exact mo_L_law_637 hm
      · rw [if_neg c25] at hm
        obtain rfl := Option.some.inj hm
        exact ⟨Nat.le_refl _, Nat.le_refl _⟩
    rw [if_neg c20] at hm
    by_cases c26 : (x1 &&& (31 : Int32)) = (4 : Int32)
    · rw [if_pos c26] at hm
      obtain ⟨x27, hx27, hm⟩ := hp_bd hm
      obtain ⟨x28, hx28, hm⟩ := hp_bd hm
      obtain ⟨x29, hx29, hm⟩ := hp_bd hm
      obtain ⟨x30, hx30, hm⟩ := hp_bd hm
      obtain ⟨x31, hx31, hm⟩ := hp_bd hm
      obtain ⟨x32, hx32, hm⟩ := hp_bd hm
      rcases Decidable.em (x29 = x32) with c33 | c33
      · rw [if_pos c33] at hm
        exact mo_L_law_637 hm
      · rw [if_neg c33] at hm
        obtain rfl := Option.some.inj hm
        exact ⟨Nat.le_refl _, Nat.le_refl _⟩
    rw [if_neg c26] at hm
    by_cases c34 : (x1 &&& (31 : Int32)) = (5 : Int32)
    · rw [if_pos c34] at hm
      obtain ⟨x35, hx35, hm⟩ := hp_bd hm
      obtain ⟨x36, hx36, hm⟩ := hp_bd hm
      obtain ⟨x37, hx37, hm⟩ := hp_bd hm
      obtain ⟨x38, hx38, hm⟩ := hp_bd hm
      obtain ⟨x39, hx39, hm⟩ := hp_bd hm
      obtain ⟨x40, hx40, hm⟩ := hp_bd hm
      rcases Decidable.em (x37 = x40) with c41 | c41
      · rw [if_pos c41] at hm
        exact mo_L_law_637 hm
      · rw [if_neg c41] at hm
        obtain rfl := Option.some.inj hm
        exact ⟨Nat.le_refl _, Nat.le_refl _⟩
    rw [if_neg c34] at hm
    by_cases c42 : (x1 &&& (31 : Int32)) = (6 : Int32)
    · rw [if_pos c42] at hm
      obtain ⟨x43, hx43, hm⟩ := hp_bd hm
      obtain ⟨x44, hx44, hm⟩ := hp_bd hm
      obtain ⟨x45, hx45, hm⟩ := hp_bd hm
      obtain ⟨x46, hx46, hm⟩ := hp_bd hm
      obtain ⟨x47, hx47, hm⟩ := hp_bd hm
      obtain ⟨x48, hx48, hm⟩ := hp_bd hm
      obtain ⟨x49, hx49, hm⟩ := hp_bd hm
      obtain ⟨x50, hx50, hm⟩ := hp_bd hm
      rcases Decidable.em (x46 = x50) with c51 | c51
      · rw [if_pos c51] at hm
        exact mo_L_law_637 hm
      · rw [if_neg c51] at hm
        obtain rfl := Option.some.inj hm
        exact ⟨Nat.le_refl _, Nat.le_refl _⟩
    rw [if_neg c42] at hm
    by_cases c52 : (x1 &&& (31 : Int32)) = (7 : Int32)
    · rw [if_pos c52] at hm
      obtain ⟨x53, hx53, hm⟩ := hp_bd hm
      obtain ⟨x54, hx54, hm⟩ := hp_bd hm
      obtain ⟨x55, hx55, hm⟩ := hp_bd hm
      obtain ⟨x56, hx56, hm⟩ := hp_bd hm
      obtain ⟨x57, hx57, hm⟩ := hp_bd hm
      obtain ⟨x58, hx58, hm⟩ := hp_bd hm
      obtain ⟨x59, hx59, hm⟩ := hp_bd hm
      obtain ⟨x60, hx60, hm⟩ := hp_bd hm
      rcases Decidable.em (x56 = x60) with c61 | c61
      · rw [if_pos c61] at hm
        exact mo_L_law_637 hm
      · rw [if_neg c61] at hm
        obtain rfl := Option.some.inj hm
        exact ⟨Nat.le_refl _, Nat.le_refl _⟩
    rw [if_neg c52] at hm
    by_cases c62 : (x1 &&& (31 : Int32)) = (8 : Int32)
    · rw [if_pos c62] at hm
      obtain ⟨x63, hx63, hm⟩ := hp_bd hm
      obtain ⟨x64, hx64, hm⟩ := hp_bd hm
      exact hp_tr (mx_X10_check hx64) (mo_L_law_419 hm)
    rw [if_neg c62] at hm
    by_cases c65 : (x1 &&& (31 : Int32)) = (9 : Int32)
    · rw [if_pos c65] at hm
      obtain ⟨x66, hx66, hm⟩ := hp_bd hm
      obtain ⟨x67, hx67, hm⟩ := hp_bd hm
      rcases Decidable.em (x66 = x67) with c68 | c68
      · rw [if_pos c68] at hm
        exact mo_L_law_637 hm
      · rw [if_neg c68] at hm
        obtain rfl := Option.some.inj hm
        exact ⟨Nat.le_refl _, Nat.le_refl _⟩
    rw [if_neg c65] at hm
    by_cases c69 : (x1 &&& (31 : Int32)) = (10 : Int32)
    · rw [if_pos c69] at hm
      obtain ⟨x70, hx70, hm⟩ := hp_bd hm
      obtain ⟨x71, hx71, hm⟩ := hp_bd hm
      obtain ⟨x72, hx72, hm⟩ := hp_bd hm
      exact hp_tr (mx_X10_trace hx72) (mo_L_law_460 hm)
    rw [if_neg c69] at hm
    by_cases c73 : (x1 &&& (31 : Int32)) = (11 : Int32)
    · rw [if_pos c73] at hm
      obtain ⟨x74, hx74, hm⟩ := hp_bd hm
      obtain ⟨x75, hx75, hm⟩ := hp_bd hm
      obtain ⟨x76, hx76, hm⟩ := hp_bd hm
      obtain ⟨x77, hx77, hm⟩ := hp_bd hm
      obtain ⟨x78, hx78, hm⟩ := hp_bd hm
      obtain ⟨x79, hx79, hm⟩ := hp_bd hm
      rcases Decidable.em (x76 = x79) with c80 | c80
      · rw [if_pos c80] at hm
        exact mo_L_law_637 hm
      · rw [if_neg c80] at hm
        obtain rfl := Option.some.inj hm
        exact ⟨Nat.le_refl _, Nat.le_refl _⟩
    rw [if_neg c73] at hm
    by_cases c81 : (x1 &&& (31 : Int32)) = (12 : Int32)
    · rw [if_pos c81] at hm
      obtain ⟨x82, hx82, hm⟩ := hp_bd hm
      obtain ⟨x83, hx83, hm⟩ := hp_bd hm
      obtain ⟨x84, hx84, hm⟩ := hp_bd hm
      exact hp_tr (mx_X10_tell hx84) (mo_L_law_526 hm)
    rw [if_neg c81] at hm
    by_cases c85 : (x1 &&& (31 : Int32)) = (13 : Int32)
    · rw [if_pos c85] at hm
      obtain ⟨x86, hx86, hm⟩ := hp_bd hm
      obtain ⟨x87, hx87, hm⟩ := hp_bd hm
      obtain ⟨x88, hx88, hm⟩ := hp_bd hm
      obtain ⟨x89, hx89, hm⟩ := hp_bd hm
      rcases Decidable.em (x87.1 = x89.1) with c90 | c90
      · rw [if_pos c90] at hm
        exact mo_L_law_637 hm
      · rw [if_neg c90] at hm
        obtain rfl := Option.some.inj hm
        exact ⟨Nat.le_refl _, Nat.le_refl _⟩
    rw [if_neg c85] at hm
    by_cases c91 : (x1 &&& (31 : Int32)) = (14 : Int32)
    · rw [if_pos c91] at hm
      obtain ⟨x92, hx92, hm⟩ := hp_bd hm
      obtain ⟨x93, hx93, hm⟩ := hp_bd hm
      obtain ⟨x94, hx94, hm⟩ := hp_bd hm
      obtain ⟨x95, hx95, hm⟩ := hp_bd hm
      rcases Decidable.em (x93 = x95) with c96 | c96
      · rw [if_pos c96] at hm
        exact mo_L_law_637 hm
      · rw [if_neg c96] at hm
        obtain rfl := Option.some.inj hm
        exact ⟨Nat.le_refl _, Nat.le_refl _⟩
    rw [if_neg c91] at hm
    by_cases c97 : (x1 &&& (31 : Int32)) = (15 : Int32)
    · rw [if_pos c97] at hm
      obtain ⟨x98, hx98, hm⟩ := hp_bd hm
      obtain ⟨x99, hx99, hm⟩ := hp_bd hm
      obtain ⟨x100, hx100, hm⟩ := hp_bd hm
      obtain ⟨x101, hx101, hm⟩ := hp_bd hm
      obtain ⟨x102, hx102, hm⟩ := hp_bd hm
      obtain ⟨x103, hx103, hm⟩ := hp_bd hm
      rcases Decidable.em (x100 = x103.1) with c104 | c104
      · rw [if_pos c104] at hm
        exact mo_L_law_637 hm
      · rw [if_neg c104] at hm
        obtain rfl := Option.some.inj hm
        exact ⟨Nat.le_refl _, Nat.le_refl _⟩
    rw [if_neg c97] at hm
    by_cases c105 : (x1 &&& (31 : Int32)) = (16 : Int32)
    · rw [if_pos c105] at hm
      obtain ⟨x106, hx106, hm⟩ := hp_bd hm
      obtain ⟨x107, hx107, hm⟩ := hp_bd hm
      rcases Decidable.em (x106.1 = x107.1) with c108 | c108
      · rw [if_pos c108] at hm
        exact mo_L_law_637 hm
      · rw [if_neg c108] at hm
        obtain rfl := Option.some.inj hm
        exact ⟨Nat.le_refl _, Nat.le_refl _⟩
    rw [if_neg c105] at hm
    exact mo_L_law_637 hm
set_option maxHeartbeats 1000000 in
set_option maxRecDepth 4000 in
theorem q_L_law_18 (G : hp_G) (n L : Nat) (xs : Nat → Int32) (b : Nat) (hb0 : b < G.2.1) (v1 : Nat) (v2 : Nat) (v3 : Int32) (h : hp_H) (sz sl : Nat) (o : hp_O) (res : (Int32 × hp_H × Nat × Nat) ⊕ (Int32 × hp_H × Nat × Nat)) (hB : (zz_L_law_18 res).1 ≤ o.2.2.1 ∧ (zz_L_law_18 res).2 ≤ o.2.2.2) (hm : f_L_law_18 n L xs b v1 v2 v3 h sz sl = some res) (kI : ∀ y : Int32 × hp_H × Nat × Nat, res = .inl y → hp_U (hp_Sc b L xs) G m_L_law 18 [(0, .ref b), (1, .ref v1), (2, .ref v2), (3, .int y.1)] [] y.2.1 y.2.2.1 y.2.2.2 o) (kR : ∀ y : Int32 × hp_H × Nat × Nat, res = .inr y → o = (some (.int y.1), y.2.1, y.2.2.1, y.2.2.2)) : hp_U (hp_Sc b L xs) G m_L_law 18 [(0, .ref b), (1, .ref v1), (2, .ref v2), (3, .int v3)] [] h sz sl o := by
  have ho : sz ≤ o.2.2.1 ∧ sl ≤ o.2.2.2 := ⟨Nat.le_trans (mo_L_law_18 hm).1 hB.1, Nat.le_trans (mo_L_law_18 hm).2 hB.2⟩
  unfold f_L_law_18 at hm
  refine hv_iload_n 3 dL_law_18 rfl rfl ?_
  refine hv_aload_n 0 dL_law_19 rfl rfl ?_
  refine hv_slen hb0 dL_law_20 ?_
  refine hv_iconst (5 : Int32) dL_law_21 (by decide) ?_
  refine hv_isub dL_law_22 ?_
  refine hv_icmp_gt (tgt := 643) dL_law_23 (by decide) (fun c109 => ?_) (fun c109 => ?_)
  · rw [if_pos c109] at hm
    refine hv_iconst (1 : Int32) dL_law_643 (by decide) ?_
    obtain rfl := kR _ (Option.some.inj hm).symm
    exact hv_zret rfl (by decide) dL_law_644
  · rw [if_neg c109] at hm
    refine hv_aload_n 0 dL_law_26 rfl rfl ?_
    refine hv_iload_n 3 dL_law_27 rfl rfl ?_
    obtain ⟨x1, hx1, hm⟩ := hp_bd hm
    refine hv_sld hb0 dL_law_28 hx1 ?_
    refine hv_bipush (31 : Int32) dL_law_29 (by decide) ?_
    refine hv_iand dL_law_31 ?_
    by_cases c2 : (x1 &&& (31 : Int32)) = (0 : Int32)
    · rw [if_pos c2] at hm
      refine hv_tabIn (off := 84) (tgt := 116) dL_law_32 (by rw [c2]; decide) (by rw [c2]; decide) (by rw [c2]; rfl) (by decide) ?_
      refine hv_aload_n 1 dL_law_116 rfl rfl ?_
      refine hv_aload_n 0 dL_law_117 rfl rfl ?_
      refine hv_iload_n 3 dL_law_118 rfl rfl ?_
      refine hv_iconst (1 : Int32) dL_law_119 (by decide) ?_
      refine hv_iadd dL_law_120 ?_
      obtain ⟨x3, hx3, hm⟩ := hp_bd hm
      refine hv_sld hb0 dL_law_121 hx3 ?_
      refine hv_i2l dL_law_122 ?_
      refine hv_bipush (32 : Int32) dL_law_123 (by decide) ?_
      refine hv_lshl dL_law_125 ?_
      refine hv_aload_n 0 dL_law_126 rfl rfl ?_
      refine hv_iload_n 3 dL_law_127 rfl rfl ?_
      refine hv_iconst (2 : Int32) dL_law_128 (by decide) ?_
      refine hv_iadd dL_law_129 ?_
      obtain ⟨x4, hx4, hm⟩ := hp_bd hm
      refine hv_sld hb0 dL_law_130 hx4 ?_
      refine hv_i2l dL_law_131 ?_
      refine hv_ldc2 (4294967295 : Int64) dL_law_132 lk_c_L_13 ?_
      refine hv_land dL_law_135 ?_
      refine hv_lor dL_law_136 ?_
      refine hv_aload_n 0 dL_law_137 rfl rfl ?_
      refine hv_iload_n 3 dL_law_138 rfl rfl ?_
      refine hv_iconst (3 : Int32) dL_law_139 (by decide) ?_
      refine hv_iadd dL_law_140 ?_
      obtain ⟨x5, hx5, hm⟩ := hp_bd hm
      refine hv_sld hb0 dL_law_141 hx5 ?_
      refine hv_i2l dL_law_142 ?_
      refine hv_bipush (32 : Int32) dL_law_143 (by decide) ?_
      refine hv_lshl dL_law_145 ?_
      refine hv_aload_n 0 dL_law_146 rfl rfl ?_
      refine hv_iload_n 3 dL_law_147 rfl rfl ?_
      refine hv_iconst (4 : Int32) dL_law_148 (by decide) ?_
      refine hv_iadd dL_law_149 ?_
      obtain ⟨x6, hx6, hm⟩ := hp_bd hm
      refine hv_sld hb0 dL_law_150 hx6 ?_
      refine hv_i2l dL_law_151 ?_
      refine hv_ldc2 (4294967295 : Int64) dL_law_152 lk_c_L_13 ?_
      refine hv_land dL_law_155 ?_
      refine hv_lor dL_law_156 ?_
      obtain ⟨x7, hx7, hm⟩ := hp_bd hm
      obtain ⟨Vx7, hVx7⟩ := k_X10_feed hx7
      refine hv_callV (As := [.long (((Int32.toInt64 x3) <<< (Int32.toInt64 (32 : Int32) &&& 63)) ||| ((Int32.toInt64 x4) &&& (4294967295 : Int64))), .long (((Int32.toInt64 x5) <<< (Int32.toInt64 (32 : Int32) &&& 63)) ||| ((Int32.toInt64 x6) &&& (4294967295 : Int64)))]) (rest := []) Z_X10_feed I_X10_feed lk_m_L_15 rfl hVx7 (c_X10_feed G n v1 (((Int32.toInt64 x3) <<< (Int32.toInt64 (32 : Int32) &&& 63)) ||| ((Int32.toInt64 x4) &&& (4294967295 : Int64))) (((Int32.toInt64 x5) <<< (Int32.toInt64 (32 : Int32) &&& 63)) ||| ((Int32.toInt64 x6) &&& (4294967295 : Int64))) h sz sl _ hx7) rfl (Nat.le_of_ble_eq_true rfl) ⟨Nat.le_of_ble_eq_true rfl, Nat.le_of_ble_eq_true rfl⟩ ho.1 ho.2 rfl dL_law_157 ?_
      refine hv_as [.int x7.1] x7.2 rfl rfl ?_
      refine hv_aload_n 2 dL_law_160 rfl rfl ?_
      refine hv_aload_n 0 dL_law_161 rfl rfl ?_
      refine hv_iload_n 3 dL_law_162 rfl rfl ?_
      refine hv_iconst (1 : Int32) dL_law_163 (by decide) ?_
      refine hv_iadd dL_law_164 ?_
      obtain ⟨x8, hx8, hm⟩ := hp_bd hm
      refine hv_sld hb0 dL_law_165 hx8 ?_
      refine hv_i2l dL_law_166 ?_
      refine hv_bipush (32 : Int32) dL_law_167 (by decide) ?_
      refine hv_lshl dL_law_169 ?_
      refine hv_aload_n 0 dL_law_170 rfl rfl ?_
      refine hv_iload_n 3 dL_law_171 rfl rfl ?_
      refine hv_iconst (2 : Int32) dL_law_172 (by decide) ?_
      refine hv_iadd dL_law_173 ?_
      obtain ⟨x9, hx9, hm⟩ := hp_bd hm
      refine hv_sld hb0 dL_law_174 hx9 ?_
      refine hv_i2l dL_law_175 ?_
      refine hv_ldc2 (4294967295 : Int64) dL_law_176 lk_c_L_13 ?_
      refine hv_land dL_law_179 ?_
      refine hv_lor dL_law_180 ?_
      refine hv_aload_n 0 dL_law_181 rfl rfl ?_
      refine hv_iload_n 3 dL_law_182 rfl rfl ?_
      refine hv_iconst (3 : Int32) dL_law_183 (by decide) ?_
      refine hv_iadd dL_law_184 ?_
      obtain ⟨x10, hx10, hm⟩ := hp_bd hm
      refine hv_sld hb0 dL_law_185 hx10 ?_
      refine hv_i2l dL_law_186 ?_
      refine hv_bipush (32 : Int32) dL_law_187 (by decide) ?_
      refine hv_lshl dL_law_189 ?_
      refine hv_aload_n 0 dL_law_190 rfl rfl ?_
      refine hv_iload_n 3 dL_law_191 rfl rfl ?_
      refine hv_iconst (4 : Int32) dL_law_192 (by decide) ?_
      refine hv_iadd dL_law_193 ?_
      obtain ⟨x11, hx11, hm⟩ := hp_bd hm
      refine hv_sld hb0 dL_law_194 hx11 ?_
      refine hv_i2l dL_law_195 ?_
      refine hv_ldc2 (4294967295 : Int64) dL_law_196 lk_c_L_13 ?_
      refine hv_land dL_law_199 ?_
      refine hv_lor dL_law_200 ?_
      obtain ⟨x12, hx12, hm⟩ := hp_bd hm
      obtain ⟨Vx12, hVx12⟩ := k_X11_feed hx12
      refine hv_callV (As := [.long (((Int32.toInt64 x8) <<< (Int32.toInt64 (32 : Int32) &&& 63)) ||| ((Int32.toInt64 x9) &&& (4294967295 : Int64))), .long (((Int32.toInt64 x10) <<< (Int32.toInt64 (32 : Int32) &&& 63)) ||| ((Int32.toInt64 x11) &&& (4294967295 : Int64)))]) (rest := [.int x7.1]) Z_X11_feed I_X11_feed lk_m_L_19 rfl hVx12 (c_X11_feed G n v2 (((Int32.toInt64 x8) <<< (Int32.toInt64 (32 : Int32) &&& 63)) ||| ((Int32.toInt64 x9) &&& (4294967295 : Int64))) (((Int32.toInt64 x10) <<< (Int32.toInt64 (32 : Int32) &&& 63)) ||| ((Int32.toInt64 x11) &&& (4294967295 : Int64))) x7.2 sz sl _ hx12) rfl (Nat.le_of_ble_eq_true rfl) ⟨Nat.le_of_ble_eq_true rfl, Nat.le_of_ble_eq_true rfl⟩ ho.1 ho.2 rfl dL_law_201 ?_
      refine hv_as [.int x12.1, .int x7.1] x12.2 rfl rfl ?_
      refine hv_icmp_eq (tgt := 637) dL_law_204 (by decide) (fun c13 => ?_) (fun c13 => ?_)
      · rw [if_pos c13] at hm
        exact hv_sub [0, 1, 2, 3] rfl (q_L_law_637 G n L xs b hb0 v1 v2 v3 x12.2 sz sl o _ hB hm kI kR)
      · rw [if_neg c13] at hm
        refine hv_iconst (0 : Int32) dL_law_207 (by decide) ?_
        obtain rfl := kR _ (Option.some.inj hm).symm
        exact hv_zret rfl (by decide) dL_law_208
    rw [if_neg c2] at hm
    by_cases c14 : (x1 &&& (31 : Int32)) = (1 : Int32)
    · rw [if_pos c14] at hm
      refine hv_tabIn (off := 177) (tgt := 209) dL_law_32 (by rw [c14]; decide) (by rw [c14]; decide) (by rw [c14]; rfl) (by decide) ?_
      refine hv_aload_n 1 dL_law_209 rfl rfl ?_
      obtain ⟨x15, hx15, hm⟩ := hp_bd hm
      have hq := hp_tr (mo_L_law_213 hm) hB
      obtain ⟨Vx15, hVx15⟩ := k_X10_read hx15
      refine hv_callV (As := []) (rest := []) Z_X10_read I_X10_read lk_m_L_20 rfl hVx15 (c_X10_read G n v1 h sz sl _ hx15) rfl (Nat.le_of_ble_eq_true rfl) ⟨Nat.le_of_ble_eq_true rfl, Nat.le_of_ble_eq_true rfl⟩ hq.1 hq.2 rfl dL_law_210 ?_
      refine hv_as2 [.int x15.1] x15.2.1 x15.2.2.1 x15.2.2.2 rfl rfl rfl rfl ?_
      exact hv_sub [0, 1, 2, 3] rfl (q_L_law_213 G n L xs b hb0 v1 v2 v3 x15.1 x15.2.1 x15.2.2.1 x15.2.2.2 o _ hB hm kI kR)
    rw [if_neg c14] at hm
    by_cases c16 : (x1 &&& (31 : Int32)) = (2 : Int32)
    · rw [if_pos c16] at hm
      refine hv_tabIn (off := 190) (tgt := 222) dL_law_32 (by rw [c16]; decide) (by rw [c16]; decide) (by rw [c16]; rfl) (by decide) ?_
      refine hv_aload_n 1 dL_law_222 rfl rfl ?_
      obtain ⟨x17, hx17, hm⟩ := hp_bd hm
      obtain ⟨Vx17, hVx17⟩ := k_X10_place hx17
      refine hv_callV (As := []) (rest := []) Z_X10_place I_X10_place lk_m_L_25 rfl hVx17 (c_X10_place G n v1 h sz sl _ hx17) rfl (Nat.le_of_ble_eq_true rfl) ⟨Nat.le_of_ble_eq_true rfl, Nat.le_of_ble_eq_true rfl⟩ ho.1 ho.2 rfl dL_law_223 ?_
      refine hv_as [.int x17] h rfl rfl ?_
      refine hv_aload_n 2 dL_law_226 rfl rfl ?_
      obtain ⟨x18, hx18, hm⟩ := hp_bd hm
      obtain ⟨Vx18, hVx18⟩ := k_X11_place hx18
      refine hv_callV (As := []) (rest := [.int x17]) Z_X11_place I_X11_place lk_m_L_28 rfl hVx18 (c_X11_place G n v2 h sz sl _ hx18) rfl (Nat.le_of_ble_eq_true rfl) ⟨Nat.le_of_ble_eq_true rfl, Nat.le_of_ble_eq_true rfl⟩ ho.1 ho.2 rfl dL_law_227 ?_
      refine hv_as [.int x18, .int x17] h rfl rfl ?_
      refine hv_icmp_eq (tgt := 637) dL_law_230 (by decide) (fun c19 => ?_) (fun c19 => ?_)
      · rw [if_pos c19] at hm
        exact hv_sub [0, 1, 2, 3] rfl (q_L_law_637 G n L xs b hb0 v1 v2 v3 h sz sl o _ hB hm kI kR)
      · rw [if_neg c19] at hm
        refine hv_iconst (0 : Int32) dL_law_233 (by decide) ?_
        obtain rfl := kR _ (Option.some.inj hm).symm
        exact hv_zret rfl (by decide) dL_law_234
    rw [if_neg c16] at hm
    by_cases c20 : (x1 &&& (31 : Int32)) = (3 : Int32)
    · rw [if_pos c20] at hm
      refine hv_tabIn (off := 203) (tgt := 235) dL_law_32 (by rw [c20]; decide) (by rw [c20]; decide) (by rw [c20]; rfl) (by decide) ?_
      refine hv_aload_n 1 dL_law_235 rfl rfl ?_
      refine hv_aload_n 0 dL_law_236 rfl rfl ?_
      refine hv_iload_n 3 dL_law_237 rfl rfl ?_
      refine hv_iconst (1 : Int32) dL_law_238 (by decide) ?_
      refine hv_iadd dL_law_239 ?_
      obtain ⟨x21, hx21, hm⟩ := hp_bd hm
      refine hv_sld hb0 dL_law_240 hx21 ?_
      obtain ⟨x22, hx22, hm⟩ := hp_bd hm
      obtain ⟨Vx22, hVx22⟩ := k_X10_count hx22
      refine hv_callV (As := [.int x21]) (rest := []) Z_X10_count I_X10_count lk_m_L_29 rfl hVx22 (c_X10_count G n v1 x21 h sz sl _ hx22) rfl (Nat.le_of_ble_eq_true rfl) ⟨Nat.le_of_ble_eq_true rfl, Nat.le_of_ble_eq_true rfl⟩ ho.1 ho.2 rfl dL_law_241 ?_
      refine hv_as [.int x22] h rfl rfl ?_
      refine hv_aload_n 2 dL_law_244 rfl rfl ?_
      refine hv_aload_n 0 dL_law_245 rfl rfl ?_
      refine hv_iload_n 3 dL_law_246 rfl rfl ?_
      refine hv_iconst (1 : Int32) dL_law_247 (by decide) ?_
      refine hv_iadd dL_law_248 ?_
      obtain ⟨x23, hx23, hm⟩ := hp_bd hm
      refine hv_sld hb0 dL_law_249 hx23 ?_
      obtain ⟨x24, hx24, hm⟩ := hp_bd hm
      obtain ⟨Vx24, hVx24⟩ := k_X11_count hx24
      refine hv_callV (As := [.int x23]) (rest := [.int x22]) Z_X11_count I_X11_count lk_m_L_33 rfl hVx24 (c_X11_count G n v2 x23 h sz sl _ hx24) rfl (Nat.le_of_ble_eq_true rfl) ⟨Nat.le_of_ble_eq_true rfl, Nat.le_of_ble_eq_true rfl⟩ ho.1 ho.2 rfl dL_law_250 ?_
      refine hv_as [.int x24, .int x22] h rfl rfl ?_
      refine hv_icmp_eq (tgt := 637) dL_law_253 (by decide) (fun c25 => ?_) (fun c25 => ?_)
      · rw [if_pos c25] at hm
        exact hv_sub [0, 1, 2, 3] rfl (q_L_law_637 G n L xs b hb0 v1 v2 v3 h sz sl o _ hB hm kI kR)
      · rw [if_neg c25] at hm
        refine hv_iconst (0 : Int32) dL_law_256 (by decide) ?_
        obtain rfl := kR _ (Option.some.inj hm).symm
        exact hv_zret rfl (by decide) dL_law_257
    rw [if_neg c20] at hm
    by_cases c26 : (x1 &&& (31 : Int32)) = (4 : Int32)
    · rw [if_pos c26] at hm
      refine hv_tabIn (off := 226) (tgt := 258) dL_law_32 (by rw [c26]; decide) (by rw [c26]; decide) (by rw [c26]; rfl) (by decide) ?_
      refine hv_aload_n 1 dL_law_258 rfl rfl ?_
      refine hv_aload_n 0 dL_law_259 rfl rfl ?_
      refine hv_iload_n 3 dL_law_260 rfl rfl ?_
      refine hv_iconst (1 : Int32) dL_law_261 (by decide) ?_
      refine hv_iadd dL_law_262 ?_
      obtain ⟨x27, hx27, hm⟩ := hp_bd hm
      refine hv_sld hb0 dL_law_263 hx27 ?_
      refine hv_aload_n 0 dL_law_264 rfl rfl ?_
      refine hv_iload_n 3 dL_law_265 rfl rfl ?_
      refine hv_iconst (2 : Int32) dL_law_266 (by decide) ?_
      refine hv_iadd dL_law_267 ?_
      obtain ⟨x28, hx28, hm⟩ := hp_bd hm
      refine hv_sld hb0 dL_law_268 hx28 ?_
      obtain ⟨x29, hx29, hm⟩ := hp_bd hm
      obtain ⟨Vx29, hVx29⟩ := k_X10_statement hx29
      refine hv_callV (As := [.int x27, .int x28]) (rest := []) Z_X10_statement I_X10_statement lk_m_L_34 rfl hVx29 (c_X10_statement G n v1 x27 x28 h sz sl _ hx29) rfl (Nat.le_of_ble_eq_true rfl) ⟨Nat.le_of_ble_eq_true rfl, Nat.le_of_ble_eq_true rfl⟩ ho.1 ho.2 rfl dL_law_269 ?_
      refine hv_as [.int x29] h rfl rfl ?_
      refine hv_aload_n 2 dL_law_272 rfl rfl ?_
      refine hv_aload_n 0 dL_law_273 rfl rfl ?_
      refine hv_iload_n 3 dL_law_274 rfl rfl ?_
      refine hv_iconst (1 : Int32) dL_law_275 (by decide) ?_
      refine hv_iadd dL_law_276 ?_
      obtain ⟨x30, hx30, hm⟩ := hp_bd hm
      refine hv_sld hb0 dL_law_277 hx30 ?_
      refine hv_aload_n 0 dL_law_278 rfl rfl ?_
      refine hv_iload_n 3 dL_law_279 rfl rfl ?_
      refine hv_iconst (2 : Int32) dL_law_280 (by decide) ?_
      refine hv_iadd dL_law_281 ?_
      obtain ⟨x31, hx31, hm⟩ := hp_bd hm
      refine hv_sld hb0 dL_law_282 hx31 ?_
      obtain ⟨x32, hx32, hm⟩ := hp_bd hm
      obtain ⟨Vx32, hVx32⟩ := k_X11_statement hx32
      refine hv_callV (As := [.int x30, .int x31]) (rest := [.int x29]) Z_X11_statement I_X11_statement lk_m_L_38 rfl hVx32 (c_X11_statement G n v2 x30 x31 h sz sl _ hx32) rfl (Nat.le_of_ble_eq_true rfl) ⟨Nat.le_of_ble_eq_true rfl, Nat.le_of_ble_eq_true rfl⟩ ho.1 ho.2 rfl dL_law_283 ?_
      refine hv_as [.int x32, .int x29] h rfl rfl ?_
      refine hv_icmp_eq (tgt := 637) dL_law_286 (by decide) (fun c33 => ?_) (fun c33 => ?_)
      · rw [if_pos c33] at hm
        exact hv_sub [0, 1, 2, 3] rfl (q_L_law_637 G n L xs b hb0 v1 v2 v3 h sz sl o _ hB hm kI kR)
      · rw [if_neg c33] at hm
        refine hv_iconst (0 : Int32) dL_law_289 (by decide) ?_
        obtain rfl := kR _ (Option.some.inj hm).symm
        exact hv_zret rfl (by decide) dL_law_290
    rw [if_neg c26] at hm
    by_cases c34 : (x1 &&& (31 : Int32)) = (5 : Int32)
    · rw [if_pos c34] at hm
      refine hv_tabIn (off := 259) (tgt := 291) dL_law_32 (by rw [c34]; decide) (by rw [c34]; decide) (by rw [c34]; rfl) (by decide) ?_
      refine hv_aload_n 1 dL_law_291 rfl rfl ?_
      refine hv_aload_n 0 dL_law_292 rfl rfl ?_
      refine hv_iload_n 3 dL_law_293 rfl rfl ?_
      refine hv_iconst (1 : Int32) dL_law_294 (by decide) ?_
      refine hv_iadd dL_law_295 ?_
      obtain ⟨x35, hx35, hm⟩ := hp_bd hm
      refine hv_sld hb0 dL_law_296 hx35 ?_
      refine hv_aload_n 0 dL_law_297 rfl rfl ?_
      refine hv_iload_n 3 dL_law_298 rfl rfl ?_
      refine hv_iconst (2 : Int32) dL_law_299 (by decide) ?_
      refine hv_iadd dL_law_300 ?_
      obtain ⟨x36, hx36, hm⟩ := hp_bd hm
      refine hv_sld hb0 dL_law_301 hx36 ?_
      obtain ⟨x37, hx37, hm⟩ := hp_bd hm
      obtain ⟨Vx37, hVx37⟩ := k_X10_symbol hx37
      refine hv_callV (As := [.int x35, .int x36]) (rest := []) Z_X10_symbol I_X10_symbol lk_m_L_39 rfl hVx37 (c_X10_symbol G n v1 x35 x36 h sz sl _ hx37) rfl (Nat.le_of_ble_eq_true rfl) ⟨Nat.le_of_ble_eq_true rfl, Nat.le_of_ble_eq_true rfl⟩ ho.1 ho.2 rfl dL_law_302 ?_
      refine hv_as [.int x37] h rfl rfl ?_
      refine hv_aload_n 2 dL_law_305 rfl rfl ?_
      refine hv_aload_n 0 dL_law_306 rfl rfl ?_
      refine hv_iload_n 3 dL_law_307 rfl rfl ?_
      refine hv_iconst (1 : Int32) dL_law_308 (by decide) ?_
      refine hv_iadd dL_law_309 ?_
      obtain ⟨x38, hx38, hm⟩ := hp_bd hm
      refine hv_sld hb0 dL_law_310 hx38 ?_
      refine hv_aload_n 0 dL_law_311 rfl rfl ?_
      refine hv_iload_n 3 dL_law_312 rfl rfl ?_
      refine hv_iconst (2 : Int32) dL_law_313 (by decide) ?_
      refine hv_iadd dL_law_314 ?_
      obtain ⟨x39, hx39, hm⟩ := hp_bd hm
      refine hv_sld hb0 dL_law_315 hx39 ?_
      obtain ⟨x40, hx40, hm⟩ := hp_bd hm
      obtain ⟨Vx40, hVx40⟩ := k_X11_symbol hx40
      refine hv_callV (As := [.int x38, .int x39]) (rest := [.int x37]) Z_X11_symbol I_X11_symbol lk_m_L_42 rfl hVx40 (c_X11_symbol G n v2 x38 x39 h sz sl _ hx40) rfl (Nat.le_of_ble_eq_true rfl) ⟨Nat.le_of_ble_eq_true rfl, Nat.le_of_ble_eq_true rfl⟩ ho.1 ho.2 rfl dL_law_316 ?_
      refine hv_as [.int x40, .int x37] h rfl rfl ?_
      refine hv_icmp_eq (tgt := 637) dL_law_319 (by decide) (fun c41 => ?_) (fun c41 => ?_)
      · rw [if_pos c41] at hm
        exact hv_sub [0, 1, 2, 3] rfl (q_L_law_637 G n L xs b hb0 v1 v2 v3 h sz sl o _ hB hm kI kR)
      · rw [if_neg c41] at hm
        refine hv_iconst (0 : Int32) dL_law_322 (by decide) ?_
        obtain rfl := kR _ (Option.some.inj hm).symm
        exact hv_zret rfl (by decide) dL_law_323
    rw [if_neg c34] at hm
    by_cases c42 : (x1 &&& (31 : Int32)) = (6 : Int32)
    · rw [if_pos c42] at hm
      refine hv_tabIn (off := 292) (tgt := 324) dL_law_32 (by rw [c42]; decide) (by rw [c42]; decide) (by rw [c42]; rfl) (by decide) ?_
      refine hv_aload_n 1 dL_law_324 rfl rfl ?_
      refine hv_aload_n 0 dL_law_325 rfl rfl ?_
      refine hv_iload_n 3 dL_law_326 rfl rfl ?_
      refine hv_iconst (1 : Int32) dL_law_327 (by decide) ?_
      refine hv_iadd dL_law_328 ?_
      obtain ⟨x43, hx43, hm⟩ := hp_bd hm
      refine hv_sld hb0 dL_law_329 hx43 ?_
      refine hv_aload_n 0 dL_law_330 rfl rfl ?_
      refine hv_iload_n 3 dL_law_331 rfl rfl ?_
      refine hv_iconst (2 : Int32) dL_law_332 (by decide) ?_
      refine hv_iadd dL_law_333 ?_
      obtain ⟨x44, hx44, hm⟩ := hp_bd hm
      refine hv_sld hb0 dL_law_334 hx44 ?_
      refine hv_aload_n 0 dL_law_335 rfl rfl ?_
      refine hv_iload_n 3 dL_law_336 rfl rfl ?_
      refine hv_iconst (3 : Int32) dL_law_337 (by decide) ?_
      refine hv_iadd dL_law_338 ?_
      obtain ⟨x45, hx45, hm⟩ := hp_bd hm
      refine hv_sld hb0 dL_law_339 hx45 ?_
      obtain ⟨x46, hx46, hm⟩ := hp_bd hm
      obtain ⟨Vx46, hVx46⟩ := k_X10_name hx46
      refine hv_callV (As := [.int x43, .int x44, .int x45]) (rest := []) Z_X10_name I_X10_name lk_m_L_43 rfl hVx46 (c_X10_name G n v1 x43 x44 x45 h sz sl _ hx46) rfl (Nat.le_of_ble_eq_true rfl) ⟨Nat.le_of_ble_eq_true rfl, Nat.le_of_ble_eq_true rfl⟩ ho.1 ho.2 rfl dL_law_340 ?_
      refine hv_as [.int x46] h rfl rfl ?_
      refine hv_aload_n 2 dL_law_343 rfl rfl ?_
      refine hv_aload_n 0 dL_law_344 rfl rfl ?_
      refine hv_iload_n 3 dL_law_345 rfl rfl ?_
      refine hv_iconst (1 : Int32) dL_law_346 (by decide) ?_
      refine hv_iadd dL_law_347 ?_
      obtain ⟨x47, hx47, hm⟩ := hp_bd hm
      refine hv_sld hb0 dL_law_348 hx47 ?_
      refine hv_aload_n 0 dL_law_349 rfl rfl ?_
      refine hv_iload_n 3 dL_law_350 rfl rfl ?_
      refine hv_iconst (2 : Int32) dL_law_351 (by decide) ?_
      refine hv_iadd dL_law_352 ?_
      obtain ⟨x48, hx48, hm⟩ := hp_bd hm
      refine hv_sld hb0 dL_law_353 hx48 ?_
      refine hv_aload_n 0 dL_law_354 rfl rfl ?_
      refine hv_iload_n 3 dL_law_355 rfl rfl ?_
      refine hv_iconst (3 : Int32) dL_law_356 (by decide) ?_
      refine hv_iadd dL_law_357 ?_
      obtain ⟨x49, hx49, hm⟩ := hp_bd hm
      refine hv_sld hb0 dL_law_358 hx49 ?_
      obtain ⟨x50, hx50, hm⟩ := hp_bd hm
      obtain ⟨Vx50, hVx50⟩ := k_X11_name hx50
      refine hv_callV (As := [.int x47, .int x48, .int x49]) (rest := [.int x46]) Z_X11_name I_X11_name lk_m_L_47 rfl hVx50 (c_X11_name G n v2 x47 x48 x49 h sz sl _ hx50) rfl (Nat.le_of_ble_eq_true rfl) ⟨Nat.le_of_ble_eq_true rfl, Nat.le_of_ble_eq_true rfl⟩ ho.1 ho.2 rfl dL_law_359 ?_
      refine hv_as [.int x50, .int x46] h rfl rfl ?_
      refine hv_icmp_eq (tgt := 637) dL_law_362 (by decide) (fun c51 => ?_) (fun c51 => ?_)
      · rw [if_pos c51] at hm
        exact hv_sub [0, 1, 2, 3] rfl (q_L_law_637 G n L xs b hb0 v1 v2 v3 h sz sl o _ hB hm kI kR)
      · rw [if_neg c51] at hm
        refine hv_iconst (0 : Int32) dL_law_365 (by decide) ?_
        obtain rfl := kR _ (Option.some.inj hm).symm
        exact hv_zret rfl (by decide) dL_law_366
    rw [if_neg c42] at hm
    by_cases c52 : (x1 &&& (31 : Int32)) = (7 : Int32)
    · rw [if_pos c52] at hm
      refine hv_tabIn (off := 335) (tgt := 367) dL_law_32 (by rw [c52]; decide) (by rw [c52]; decide) (by rw [c52]; rfl) (by decide) ?_
      refine hv_aload_n 1 dL_law_367 rfl rfl ?_
      refine hv_aload_n 0 dL_law_368 rfl rfl ?_
      refine hv_iload_n 3 dL_law_369 rfl rfl ?_
      refine hv_iconst (1 : Int32) dL_law_370 (by decide) ?_
      refine hv_iadd dL_law_371 ?_
      obtain ⟨x53, hx53, hm⟩ := hp_bd hm
      refine hv_sld hb0 dL_law_372 hx53 ?_
      refine hv_aload_n 0 dL_law_373 rfl rfl ?_
      refine hv_iload_n 3 dL_law_374 rfl rfl ?_
      refine hv_iconst (2 : Int32) dL_law_375 (by decide) ?_
      refine hv_iadd dL_law_376 ?_
      obtain ⟨x54, hx54, hm⟩ := hp_bd hm
      refine hv_sld hb0 dL_law_377 hx54 ?_
      refine hv_aload_n 0 dL_law_378 rfl rfl ?_
      refine hv_iload_n 3 dL_law_379 rfl rfl ?_
      refine hv_iconst (3 : Int32) dL_law_380 (by decide) ?_
      refine hv_iadd dL_law_381 ?_
      obtain ⟨x55, hx55, hm⟩ := hp_bd hm
      refine hv_sld hb0 dL_law_382 hx55 ?_
      obtain ⟨x56, hx56, hm⟩ := hp_bd hm
      obtain ⟨Vx56, hVx56⟩ := k_X10_frame hx56
      refine hv_callV (As := [.int x53, .int x54, .int x55]) (rest := []) Z_X10_frame I_X10_frame lk_m_L_48 rfl hVx56 (c_X10_frame G n v1 x53 x54 x55 h sz sl _ hx56) rfl (Nat.le_of_ble_eq_true rfl) ⟨Nat.le_of_ble_eq_true rfl, Nat.le_of_ble_eq_true rfl⟩ ho.1 ho.2 rfl dL_law_383 ?_
      refine hv_as [.int x56] h rfl rfl ?_
      refine hv_aload_n 2 dL_law_386 rfl rfl ?_
      refine hv_aload_n 0 dL_law_387 rfl rfl ?_
      refine hv_iload_n 3 dL_law_388 rfl rfl ?_
      refine hv_iconst (1 : Int32) dL_law_389 (by decide) ?_
      refine hv_iadd dL_law_390 ?_
      obtain ⟨x57, hx57, hm⟩ := hp_bd hm
      refine hv_sld hb0 dL_law_391 hx57 ?_
      refine hv_aload_n 0 dL_law_392 rfl rfl ?_
      refine hv_iload_n 3 dL_law_393 rfl rfl ?_
      refine hv_iconst (2 : Int32) dL_law_394 (by decide) ?_
      refine hv_iadd dL_law_395 ?_
      obtain ⟨x58, hx58, hm⟩ := hp_bd hm
      refine hv_sld hb0 dL_law_396 hx58 ?_
      refine hv_aload_n 0 dL_law_397 rfl rfl ?_
      refine hv_iload_n 3 dL_law_398 rfl rfl ?_
      refine hv_iconst (3 : Int32) dL_law_399 (by decide) ?_
      refine hv_iadd dL_law_400 ?_
      obtain ⟨x59, hx59, hm⟩ := hp_bd hm
      refine hv_sld hb0 dL_law_401 hx59 ?_
      obtain ⟨x60, hx60, hm⟩ := hp_bd hm
      obtain ⟨Vx60, hVx60⟩ := k_X11_frame hx60
      refine hv_callV (As := [.int x57, .int x58, .int x59]) (rest := [.int x56]) Z_X11_frame I_X11_frame lk_m_L_51 rfl hVx60 (c_X11_frame G n v2 x57 x58 x59 h sz sl _ hx60) rfl (Nat.le_of_ble_eq_true rfl) ⟨Nat.le_of_ble_eq_true rfl, Nat.le_of_ble_eq_true rfl⟩ ho.1 ho.2 rfl dL_law_402 ?_
      refine hv_as [.int x60, .int x56] h rfl rfl ?_
      refine hv_icmp_eq (tgt := 637) dL_law_405 (by decide) (fun c61 => ?_) (fun c61 => ?_)
      · rw [if_pos c61] at hm
        exact hv_sub [0, 1, 2, 3] rfl (q_L_law_637 G n L xs b hb0 v1 v2 v3 h sz sl o _ hB hm kI kR)
      · rw [if_neg c61] at hm
        refine hv_iconst (0 : Int32) dL_law_408 (by decide) ?_
        obtain rfl := kR _ (Option.some.inj hm).symm
        exact hv_zret rfl (by decide) dL_law_409
    rw [if_neg c52] at hm
    by_cases c62 : (x1 &&& (31 : Int32)) = (8 : Int32)
    · rw [if_pos c62] at hm
      refine hv_tabIn (off := 378) (tgt := 410) dL_law_32 (by rw [c62]; decide) (by rw [c62]; decide) (by rw [c62]; rfl) (by decide) ?_
      refine hv_aload_n 1 dL_law_410 rfl rfl ?_
      refine hv_aload_n 0 dL_law_411 rfl rfl ?_
      refine hv_iload_n 3 dL_law_412 rfl rfl ?_
      refine hv_iconst (1 : Int32) dL_law_413 (by decide) ?_
      refine hv_iadd dL_law_414 ?_
      obtain ⟨x63, hx63, hm⟩ := hp_bd hm
      refine hv_sld hb0 dL_law_415 hx63 ?_
      obtain ⟨x64, hx64, hm⟩ := hp_bd hm
      have hq := hp_tr (mo_L_law_419 hm) hB
      obtain ⟨Vx64, hVx64⟩ := k_X10_check hx64
      refine hv_callV (As := [.int x63]) (rest := []) Z_X10_check I_X10_check lk_m_L_52 rfl hVx64 (c_X10_check G n v1 x63 h sz sl _ hx64) rfl (Nat.le_of_ble_eq_true rfl) ⟨Nat.le_of_ble_eq_true rfl, Nat.le_of_ble_eq_true rfl⟩ hq.1 hq.2 rfl dL_law_416 ?_
      refine hv_as2 [.int x64.1] x64.2.1 x64.2.2.1 x64.2.2.2 rfl rfl rfl rfl ?_
      exact hv_sub [0, 1, 2, 3] rfl (q_L_law_419 G n L xs b hb0 v1 v2 v3 x64.1 x64.2.1 x64.2.2.1 x64.2.2.2 o _ hB hm kI kR)
    rw [if_neg c62] at hm
    by_cases c65 : (x1 &&& (31 : Int32)) = (9 : Int32)
    · rw [if_pos c65] at hm
      refine hv_tabIn (off := 401) (tgt := 433) dL_law_32 (by rw [c65]; decide) (by rw [c65]; decide) (by rw [c65]; rfl) (by decide) ?_
      refine hv_aload_n 1 dL_law_433 rfl rfl ?_
      obtain ⟨x66, hx66, hm⟩ := hp_bd hm
      obtain ⟨Vx66, hVx66⟩ := k_X10_step hx66
      refine hv_callV (As := []) (rest := []) Z_X10_step I_X10_step lk_m_L_56 rfl hVx66 (c_X10_step G n v1 h sz sl _ hx66) rfl (Nat.le_of_ble_eq_true rfl) ⟨Nat.le_of_ble_eq_true rfl, Nat.le_of_ble_eq_true rfl⟩ ho.1 ho.2 rfl dL_law_434 ?_
      refine hv_as [.int x66] h rfl rfl ?_
      refine hv_aload_n 2 dL_law_437 rfl rfl ?_
      obtain ⟨x67, hx67, hm⟩ := hp_bd hm
      obtain ⟨Vx67, hVx67⟩ := k_X11_step hx67
      refine hv_callV (As := []) (rest := [.int x66]) Z_X11_step I_X11_step lk_m_L_59 rfl hVx67 (c_X11_step G n v2 h sz sl _ hx67) rfl (Nat.le_of_ble_eq_true rfl) ⟨Nat.le_of_ble_eq_true rfl, Nat.le_of_ble_eq_true rfl⟩ ho.1 ho.2 rfl dL_law_438 ?_
      refine hv_as [.int x67, .int x66] h rfl rfl ?_
      refine hv_icmp_eq (tgt := 637) dL_law_441 (by decide) (fun c68 => ?_) (fun c68 => ?_)
      · rw [if_pos c68] at hm
        exact hv_sub [0, 1, 2, 3] rfl (q_L_law_637 G n L xs b hb0 v1 v2 v3 h sz sl o _ hB hm kI kR)
      · rw [if_neg c68] at hm
        refine hv_iconst (0 : Int32) dL_law_444 (by decide) ?_
        obtain rfl := kR _ (Option.some.inj hm).symm
        exact hv_zret rfl (by decide) dL_law_445
    rw [if_neg c65] at hm
    by_cases c69 : (x1 &&& (31 : Int32)) = (10 : Int32)
    · rw [if_pos c69] at hm
      refine hv_tabIn (off := 414) (tgt := 446) dL_law_32 (by rw [c69]; decide) (by rw [c69]; decide) (by rw [c69]; rfl) (by decide) ?_
      refine hv_aload_n 1 dL_law_446 rfl rfl ?_
      refine hv_aload_n 0 dL_law_447 rfl rfl ?_
      refine hv_iload_n 3 dL_law_448 rfl rfl ?_
      refine hv_iconst (1 : Int32) dL_law_449 (by decide) ?_
      refine hv_iadd dL_law_450 ?_
      obtain ⟨x70, hx70, hm⟩ := hp_bd hm
      refine hv_sld hb0 dL_law_451 hx70 ?_
      refine hv_aload_n 0 dL_law_452 rfl rfl ?_
      refine hv_iload_n 3 dL_law_453 rfl rfl ?_
      refine hv_iconst (2 : Int32) dL_law_454 (by decide) ?_
      refine hv_iadd dL_law_455 ?_
      obtain ⟨x71, hx71, hm⟩ := hp_bd hm
      refine hv_sld hb0 dL_law_456 hx71 ?_
      obtain ⟨x72, hx72, hm⟩ := hp_bd hm
      have hq := hp_tr (mo_L_law_460 hm) hB
      obtain ⟨Vx72, hVx72⟩ := k_X10_trace hx72
      refine hv_callV (As := [.int x70, .int x71]) (rest := []) Z_X10_trace I_X10_trace lk_m_L_60 rfl hVx72 (c_X10_trace G n v1 x70 x71 h sz sl _ hx72) rfl (Nat.le_of_ble_eq_true rfl) ⟨Nat.le_of_ble_eq_true rfl, Nat.le_of_ble_eq_true rfl⟩ hq.1 hq.2 rfl dL_law_457 ?_
      refine hv_as2 [.int x72.1] x72.2.1 x72.2.2.1 x72.2.2.2 rfl rfl rfl rfl ?_
      exact hv_sub [0, 1, 2, 3] rfl (q_L_law_460 G n L xs b hb0 v1 v2 v3 x72.1 x72.2.1 x72.2.2.1 x72.2.2.2 o _ hB hm kI kR)
    rw [if_neg c69] at hm
    by_cases c73 : (x1 &&& (31 : Int32)) = (11 : Int32)
    · rw [if_pos c73] at hm
      refine hv_tabIn (off := 447) (tgt := 479) dL_law_32 (by rw [c73]; decide) (by rw [c73]; decide) (by rw [c73]; rfl) (by decide) ?_
      refine hv_aload_n 1 dL_law_479 rfl rfl ?_
      refine hv_aload_n 0 dL_law_480 rfl rfl ?_
      refine hv_iload_n 3 dL_law_481 rfl rfl ?_
      refine hv_iconst (1 : Int32) dL_law_482 (by decide) ?_
      refine hv_iadd dL_law_483 ?_
      obtain ⟨x74, hx74, hm⟩ := hp_bd hm
      refine hv_sld hb0 dL_law_484 hx74 ?_
      refine hv_aload_n 0 dL_law_485 rfl rfl ?_
      refine hv_iload_n 3 dL_law_486 rfl rfl ?_
      refine hv_iconst (2 : Int32) dL_law_487 (by decide) ?_
      refine hv_iadd dL_law_488 ?_
      obtain ⟨x75, hx75, hm⟩ := hp_bd hm
      refine hv_sld hb0 dL_law_489 hx75 ?_
      obtain ⟨x76, hx76, hm⟩ := hp_bd hm
      obtain ⟨Vx76, hVx76⟩ := k_X10_thing hx76
      refine hv_callV (As := [.int x74, .int x75]) (rest := []) Z_X10_thing I_X10_thing lk_m_L_64 rfl hVx76 (c_X10_thing G n v1 x74 x75 h sz sl _ hx76) rfl (Nat.le_of_ble_eq_true rfl) ⟨Nat.le_of_ble_eq_true rfl, Nat.le_of_ble_eq_true rfl⟩ ho.1 ho.2 rfl dL_law_490 ?_
      refine hv_as [.int x76] h rfl rfl ?_
      refine hv_aload_n 2 dL_law_493 rfl rfl ?_
      refine hv_aload_n 0 dL_law_494 rfl rfl ?_
      refine hv_iload_n 3 dL_law_495 rfl rfl ?_
      refine hv_iconst (1 : Int32) dL_law_496 (by decide) ?_
      refine hv_iadd dL_law_497 ?_
      obtain ⟨x77, hx77, hm⟩ := hp_bd hm
      refine hv_sld hb0 dL_law_498 hx77 ?_
      refine hv_aload_n 0 dL_law_499 rfl rfl ?_
      refine hv_iload_n 3 dL_law_500 rfl rfl ?_
      refine hv_iconst (2 : Int32) dL_law_501 (by decide) ?_
      refine hv_iadd dL_law_502 ?_
      obtain ⟨x78, hx78, hm⟩ := hp_bd hm
      refine hv_sld hb0 dL_law_503 hx78 ?_
      obtain ⟨x79, hx79, hm⟩ := hp_bd hm
      obtain ⟨Vx79, hVx79⟩ := k_X11_thing_ hx79
      refine hv_callV (As := [.int x77, .int x78]) (rest := [.int x76]) Z_X11_thing_ I_X11_thing_ lk_m_L_67 rfl hVx79 (c_X11_thing_ G n v2 x77 x78 h sz sl _ hx79) rfl (Nat.le_of_ble_eq_true rfl) ⟨Nat.le_of_ble_eq_true rfl, Nat.le_of_ble_eq_true rfl⟩ ho.1 ho.2 rfl dL_law_504 ?_
      refine hv_as [.int x79, .int x76] h rfl rfl ?_
      refine hv_icmp_eq (tgt := 637) dL_law_507 (by decide) (fun c80 => ?_) (fun c80 => ?_)
      · rw [if_pos c80] at hm
        exact hv_sub [0, 1, 2, 3] rfl (q_L_law_637 G n L xs b hb0 v1 v2 v3 h sz sl o _ hB hm kI kR)
      · rw [if_neg c80] at hm
        refine hv_iconst (0 : Int32) dL_law_510 (by decide) ?_
        obtain rfl := kR _ (Option.some.inj hm).symm
        exact hv_zret rfl (by decide) dL_law_511
    rw [if_neg c73] at hm
    by_cases c81 : (x1 &&& (31 : Int32)) = (12 : Int32)
    · rw [if_pos c81] at hm
      refine hv_tabIn (off := 480) (tgt := 512) dL_law_32 (by rw [c81]; decide) (by rw [c81]; decide) (by rw [c81]; rfl) (by decide) ?_
      refine hv_aload_n 1 dL_law_512 rfl rfl ?_
      refine hv_aload_n 0 dL_law_513 rfl rfl ?_
      refine hv_iload_n 3 dL_law_514 rfl rfl ?_
      refine hv_iconst (1 : Int32) dL_law_515 (by decide) ?_
      refine hv_iadd dL_law_516 ?_
      obtain ⟨x82, hx82, hm⟩ := hp_bd hm
      refine hv_sld hb0 dL_law_517 hx82 ?_
      refine hv_aload_n 0 dL_law_518 rfl rfl ?_
      refine hv_iload_n 3 dL_law_519 rfl rfl ?_
      refine hv_iconst (2 : Int32) dL_law_520 (by decide) ?_
      refine hv_iadd dL_law_521 ?_
      obtain ⟨x83, hx83, hm⟩ := hp_bd hm
      refine hv_sld hb0 dL_law_522 hx83 ?_
      obtain ⟨x84, hx84, hm⟩ := hp_bd hm
      have hq := hp_tr (mo_L_law_526 hm) hB
      obtain ⟨Vx84, hVx84⟩ := k_X10_tell hx84
      refine hv_callV (As := [.int x82, .int x83]) (rest := []) Z_X10_tell I_X10_tell lk_m_L_68 rfl hVx84 (c_X10_tell G n v1 x82 x83 h sz sl _ hx84) rfl (Nat.le_of_ble_eq_true rfl) ⟨Nat.le_of_ble_eq_true rfl, Nat.le_of_ble_eq_true rfl⟩ hq.1 hq.2 rfl dL_law_523 ?_
      refine hv_as2 [.int x84.1] x84.2.1 x84.2.2.1 x84.2.2.2 rfl rfl rfl rfl ?_
      exact hv_sub [0, 1, 2, 3] rfl (q_L_law_526 G n L xs b hb0 v1 v2 v3 x84.1 x84.2.1 x84.2.2.1 x84.2.2.2 o _ hB hm kI kR)
    rw [if_neg c81] at hm
    by_cases c85 : (x1 &&& (31 : Int32)) = (13 : Int32)
    · rw [if_pos c85] at hm
      refine hv_tabIn (off := 513) (tgt := 545) dL_law_32 (by rw [c85]; decide) (by rw [c85]; decide) (by rw [c85]; rfl) (by decide) ?_
      refine hv_aload_n 1 dL_law_545 rfl rfl ?_
      refine hv_aload_n 0 dL_law_546 rfl rfl ?_
      refine hv_iload_n 3 dL_law_547 rfl rfl ?_
      refine hv_iconst (1 : Int32) dL_law_548 (by decide) ?_
      refine hv_iadd dL_law_549 ?_
      obtain ⟨x86, hx86, hm⟩ := hp_bd hm
      refine hv_sld hb0 dL_law_550 hx86 ?_
      obtain ⟨x87, hx87, hm⟩ := hp_bd hm
      obtain ⟨Vx87, hVx87⟩ := k_X10_print hx87
      refine hv_callV (As := [.int x86]) (rest := []) Z_X10_print I_X10_print lk_m_L_72 rfl hVx87 (c_X10_print G n v1 x86 h sz sl _ hx87) rfl (Nat.le_of_ble_eq_true rfl) ⟨Nat.le_of_ble_eq_true rfl, Nat.le_of_ble_eq_true rfl⟩ ho.1 ho.2 rfl dL_law_551 ?_
      refine hv_as [.int x87.1] x87.2 rfl rfl ?_
      refine hv_aload_n 2 dL_law_554 rfl rfl ?_
      refine hv_aload_n 0 dL_law_555 rfl rfl ?_
      refine hv_iload_n 3 dL_law_556 rfl rfl ?_
      refine hv_iconst (1 : Int32) dL_law_557 (by decide) ?_
      refine hv_iadd dL_law_558 ?_
      obtain ⟨x88, hx88, hm⟩ := hp_bd hm
      refine hv_sld hb0 dL_law_559 hx88 ?_
      obtain ⟨x89, hx89, hm⟩ := hp_bd hm
      obtain ⟨Vx89, hVx89⟩ := k_X11_print hx89
      refine hv_callV (As := [.int x88]) (rest := [.int x87.1]) Z_X11_print I_X11_print lk_m_L_75 rfl hVx89 (c_X11_print G n v2 x88 x87.2 sz sl _ hx89) rfl (Nat.le_of_ble_eq_true rfl) ⟨Nat.le_of_ble_eq_true rfl, Nat.le_of_ble_eq_true rfl⟩ ho.1 ho.2 rfl dL_law_560 ?_
      refine hv_as [.int x89.1, .int x87.1] x89.2 rfl rfl ?_
      refine hv_icmp_eq (tgt := 637) dL_law_563 (by decide) (fun c90 => ?_) (fun c90 => ?_)
      · rw [if_pos c90] at hm
        exact hv_sub [0, 1, 2, 3] rfl (q_L_law_637 G n L xs b hb0 v1 v2 v3 x89.2 sz sl o _ hB hm kI kR)
      · rw [if_neg c90] at hm
        refine hv_iconst (0 : Int32) dL_law_566 (by decide) ?_
        obtain rfl := kR _ (Option.some.inj hm).symm
        exact hv_zret rfl (by decide) dL_law_567
    rw [if_neg c85] at hm
    by_cases c91 : (x1 &&& (31 : Int32)) = (14 : Int32)
    · rw [if_pos c91] at hm
      refine hv_tabIn (off := 536) (tgt := 568) dL_law_32 (by rw [c91]; decide) (by rw [c91]; decide) (by rw [c91]; rfl) (by decide) ?_
      refine hv_aload_n 1 dL_law_568 rfl rfl ?_
      refine hv_aload_n 0 dL_law_569 rfl rfl ?_
      refine hv_iload_n 3 dL_law_570 rfl rfl ?_
      refine hv_iconst (1 : Int32) dL_law_571 (by decide) ?_
      refine hv_iadd dL_law_572 ?_
      obtain ⟨x92, hx92, hm⟩ := hp_bd hm
      refine hv_sld hb0 dL_law_573 hx92 ?_
      obtain ⟨x93, hx93, hm⟩ := hp_bd hm
      obtain ⟨Vx93, hVx93⟩ := k_X10_out hx93
      refine hv_callV (As := [.int x92]) (rest := []) Z_X10_out I_X10_out lk_m_L_76 rfl hVx93 (c_X10_out G n v1 x92 h sz sl _ hx93) rfl (Nat.le_of_ble_eq_true rfl) ⟨Nat.le_of_ble_eq_true rfl, Nat.le_of_ble_eq_true rfl⟩ ho.1 ho.2 rfl dL_law_574 ?_
      refine hv_as [.int x93] h rfl rfl ?_
      refine hv_aload_n 2 dL_law_577 rfl rfl ?_
      refine hv_aload_n 0 dL_law_578 rfl rfl ?_
      refine hv_iload_n 3 dL_law_579 rfl rfl ?_
      refine hv_iconst (1 : Int32) dL_law_580 (by decide) ?_
      refine hv_iadd dL_law_581 ?_
      obtain ⟨x94, hx94, hm⟩ := hp_bd hm
      refine hv_sld hb0 dL_law_582 hx94 ?_
      obtain ⟨x95, hx95, hm⟩ := hp_bd hm
      obtain ⟨Vx95, hVx95⟩ := k_X11_out hx95
      refine hv_callV (As := [.int x94]) (rest := [.int x93]) Z_X11_out I_X11_out lk_m_L_79 rfl hVx95 (c_X11_out G n v2 x94 h sz sl _ hx95) rfl (Nat.le_of_ble_eq_true rfl) ⟨Nat.le_of_ble_eq_true rfl, Nat.le_of_ble_eq_true rfl⟩ ho.1 ho.2 rfl dL_law_583 ?_
      refine hv_as [.int x95, .int x93] h rfl rfl ?_
      refine hv_icmp_eq (tgt := 637) dL_law_586 (by decide) (fun c96 => ?_) (fun c96 => ?_)
      · rw [if_pos c96] at hm
        exact hv_sub [0, 1, 2, 3] rfl (q_L_law_637 G n L xs b hb0 v1 v2 v3 h sz sl o _ hB hm kI kR)
      · rw [if_neg c96] at hm
        refine hv_iconst (0 : Int32) dL_law_589 (by decide) ?_
        obtain rfl := kR _ (Option.some.inj hm).symm
        exact hv_zret rfl (by decide) dL_law_590
    rw [if_neg c91] at hm
    by_cases c97 : (x1 &&& (31 : Int32)) = (15 : Int32)
    · rw [if_pos c97] at hm
      refine hv_tabIn (off := 559) (tgt := 591) dL_law_32 (by rw [c97]; decide) (by rw [c97]; decide) (by rw [c97]; rfl) (by decide) ?_
      refine hv_aload_n 1 dL_law_591 rfl rfl ?_
      refine hv_aload_n 0 dL_law_592 rfl rfl ?_
      refine hv_iload_n 3 dL_law_593 rfl rfl ?_
      refine hv_iconst (1 : Int32) dL_law_594 (by decide) ?_
      refine hv_iadd dL_law_595 ?_
      obtain ⟨x98, hx98, hm⟩ := hp_bd hm
      refine hv_sld hb0 dL_law_596 hx98 ?_
      refine hv_aload_n 0 dL_law_597 rfl rfl ?_
      refine hv_iload_n 3 dL_law_598 rfl rfl ?_
      refine hv_iconst (2 : Int32) dL_law_599 (by decide) ?_
      refine hv_iadd dL_law_600 ?_
      obtain ⟨x99, hx99, hm⟩ := hp_bd hm
      refine hv_sld hb0 dL_law_601 hx99 ?_
      obtain ⟨x100, hx100, hm⟩ := hp_bd hm
      obtain ⟨Vx100, hVx100⟩ := k_X10_rests hx100
      refine hv_callV (As := [.int x98, .int x99]) (rest := []) Z_X10_rests I_X10_rests lk_m_L_80 rfl hVx100 (c_X10_rests G n v1 x98 x99 h sz sl _ hx100) rfl (Nat.le_of_ble_eq_true rfl) ⟨Nat.le_of_ble_eq_true rfl, Nat.le_of_ble_eq_true rfl⟩ ho.1 ho.2 rfl dL_law_602 ?_
      refine hv_as [.int x100] h rfl rfl ?_
      refine hv_aload_n 2 dL_law_605 rfl rfl ?_
      refine hv_aload_n 0 dL_law_606 rfl rfl ?_
      refine hv_iload_n 3 dL_law_607 rfl rfl ?_
      refine hv_iconst (1 : Int32) dL_law_608 (by decide) ?_
      refine hv_iadd dL_law_609 ?_
      obtain ⟨x101, hx101, hm⟩ := hp_bd hm
      refine hv_sld hb0 dL_law_610 hx101 ?_
      refine hv_aload_n 0 dL_law_611 rfl rfl ?_
      refine hv_iload_n 3 dL_law_612 rfl rfl ?_
      refine hv_iconst (2 : Int32) dL_law_613 (by decide) ?_
      refine hv_iadd dL_law_614 ?_
      obtain ⟨x102, hx102, hm⟩ := hp_bd hm
      refine hv_sld hb0 dL_law_615 hx102 ?_
      obtain ⟨x103, hx103, hm⟩ := hp_bd hm
      obtain ⟨Vx103, hVx103⟩ := k_X11_rests hx103
      refine hv_callV (As := [.int x101, .int x102]) (rest := [.int x100]) Z_X11_rests I_X11_rests lk_m_L_83 rfl hVx103 (c_X11_rests G n v2 x101 x102 h sz sl _ hx103) rfl (Nat.le_of_ble_eq_true rfl) ⟨Nat.le_of_ble_eq_true rfl, Nat.le_of_ble_eq_true rfl⟩ ho.1 ho.2 rfl dL_law_616 ?_
      refine hv_as [.int x103.1, .int x100] x103.2 rfl rfl ?_
      refine hv_icmp_eq (tgt := 637) dL_law_619 (by decide) (fun c104 => ?_) (fun c104 => ?_)
      · rw [if_pos c104] at hm
        exact hv_sub [0, 1, 2, 3] rfl (q_L_law_637 G n L xs b hb0 v1 v2 v3 x103.2 sz sl o _ hB hm kI kR)
      · rw [if_neg c104] at hm
        refine hv_iconst (0 : Int32) dL_law_622 (by decide) ?_
        obtain rfl := kR _ (Option.some.inj hm).symm
        exact hv_zret rfl (by decide) dL_law_623
    rw [if_neg c97] at hm
    by_cases c105 : (x1 &&& (31 : Int32)) = (16 : Int32)
    · rw [if_pos c105] at hm
      refine hv_tabIn (off := 592) (tgt := 624) dL_law_32 (by rw [c105]; decide) (by rw [c105]; decide) (by rw [c105]; rfl) (by decide) ?_
      refine hv_aload_n 1 dL_law_624 rfl rfl ?_
      obtain ⟨x106, hx106, hm⟩ := hp_bd hm
      obtain ⟨Vx106, hVx106⟩ := k_X10_find hx106
      refine hv_callV (As := []) (rest := []) Z_X10_find I_X10_find lk_m_L_84 rfl hVx106 (c_X10_find G n v1 h sz sl _ hx106) rfl (Nat.le_of_ble_eq_true rfl) ⟨Nat.le_of_ble_eq_true rfl, Nat.le_of_ble_eq_true rfl⟩ ho.1 ho.2 rfl dL_law_625 ?_
      refine hv_as [.int x106.1] x106.2 rfl rfl ?_
      refine hv_aload_n 2 dL_law_628 rfl rfl ?_
      obtain ⟨x107, hx107, hm⟩ := hp_bd hm
      obtain ⟨Vx107, hVx107⟩ := k_X11_find hx107
      refine hv_callV (As := []) (rest := [.int x106.1]) Z_X11_find I_X11_find lk_m_L_87 rfl hVx107 (c_X11_find G n v2 x106.2 sz sl _ hx107) rfl (Nat.le_of_ble_eq_true rfl) ⟨Nat.le_of_ble_eq_true rfl, Nat.le_of_ble_eq_true rfl⟩ ho.1 ho.2 rfl dL_law_629 ?_
      refine hv_as [.int x107.1, .int x106.1] x107.2 rfl rfl ?_
      refine hv_icmp_eq (tgt := 637) dL_law_632 (by decide) (fun c108 => ?_) (fun c108 => ?_)
      · rw [if_pos c108] at hm
        exact hv_sub [0, 1, 2, 3] rfl (q_L_law_637 G n L xs b hb0 v1 v2 v3 x107.2 sz sl o _ hB hm kI kR)
      · rw [if_neg c108] at hm
        refine hv_iconst (0 : Int32) dL_law_635 (by decide) ?_
        obtain rfl := kR _ (Option.some.inj hm).symm
        exact hv_zret rfl (by decide) dL_law_636
    rw [if_neg c105] at hm
    have nc2 := lv_neT c2 (show (0 : Int32).toInt = 0 by decide)
    have nc14 := lv_neT c14 (show (1 : Int32).toInt = 1 by decide)
    have nc16 := lv_neT c16 (show (2 : Int32).toInt = 2 by decide)
    have nc20 := lv_neT c20 (show (3 : Int32).toInt = 3 by decide)
    have nc26 := lv_neT c26 (show (4 : Int32).toInt = 4 by decide)
    have nc34 := lv_neT c34 (show (5 : Int32).toInt = 5 by decide)
    have nc42 := lv_neT c42 (show (6 : Int32).toInt = 6 by decide)
    have nc52 := lv_neT c52 (show (7 : Int32).toInt = 7 by decide)
    have nc62 := lv_neT c62 (show (8 : Int32).toInt = 8 by decide)
    have nc65 := lv_neT c65 (show (9 : Int32).toInt = 9 by decide)
    have nc69 := lv_neT c69 (show (10 : Int32).toInt = 10 by decide)
    have nc73 := lv_neT c73 (show (11 : Int32).toInt = 11 by decide)
    have nc81 := lv_neT c81 (show (12 : Int32).toInt = 12 by decide)
    have nc85 := lv_neT c85 (show (13 : Int32).toInt = 13 by decide)
    have nc91 := lv_neT c91 (show (14 : Int32).toInt = 14 by decide)
    have nc97 := lv_neT c97 (show (15 : Int32).toInt = 15 by decide)
    have nc105 := lv_neT c105 (show (16 : Int32).toInt = 16 by decide)
    refine hv_tabOut (tgt := 637) dL_law_32 (by omega) (by decide) ?_
    exact hv_sub [0, 1, 2, 3] rfl (q_L_law_637 G n L xs b hb0 v1 v2 v3 h sz sl o _ hB hm kI kR)
def fL_L_law_18 (n L : Nat) (xs : Nat → Int32) (b : Nat) (v1 : Nat) (v2 : Nat) (s : Int32 × hp_H × Nat × Nat) : Option ((Int32 × hp_H × Nat × Nat) ⊕ (Int32 × hp_H × Nat × Nat)) := f_L_law_18 n L xs b v1 v2 s.1 s.2.1 s.2.2.1 s.2.2.2
theorem ml_L_law_18 {n L : Nat} {xs : Nat → Int32} {b : Nat} {v1 : Nat} {v2 : Nat} : ∀ (k : Nat) (s : Int32 × hp_H × Nat × Nat) (x : Int32 × hp_H × Nat × Nat), hp_lp (fL_L_law_18 n L xs b v1 v2) k s = some x → s.2.2.1 ≤ (zx_L_law_18 x).1 ∧ s.2.2.2 ≤ (zx_L_law_18 x).2 := by
  intro k
  induction k with
  | zero => intro s x hx; exact (hp_lp_0 hx).elim
  | succ k ih =>
    intro s x hx
    obtain ⟨r, hr, hc⟩ := hp_lp_1 hx
    have h1 := mo_L_law_18 hr
    rcases hc with ⟨s3, e3, hx3⟩ | e3
    · subst e3
      exact hp_tr h1 (ih _ _ hx3)
    · subst e3
      exact h1
theorem l_L_law_18 (G : hp_G) (n L : Nat) (xs : Nat → Int32) (b : Nat) (hb0 : b < G.2.1) (v1 : Nat) (v2 : Nat) (o : hp_O) : ∀ (k : Nat) (s : Int32 × hp_H × Nat × Nat) (x : Int32 × hp_H × Nat × Nat), hp_lp (fL_L_law_18 n L xs b v1 v2) k s = some x → ((zx_L_law_18 x).1 ≤ o.2.2.1 ∧ (zx_L_law_18 x).2 ≤ o.2.2.2) → (∀ y : Int32 × hp_H × Nat × Nat, x = y → o = (some (.int y.1), y.2.1, y.2.2.1, y.2.2.2)) → hp_U (hp_Sc b L xs) G m_L_law 18 [(0, .ref b), (1, .ref v1), (2, .ref v2), (3, .int s.1)] [] s.2.1 s.2.2.1 s.2.2.2 o := by
  intro k
  induction k with
  | zero => intro s x hx; exact (hp_lp_0 hx).elim
  | succ k ih =>
    intro s x hx hz k0
    obtain ⟨r, hr, hc⟩ := hp_lp_1 hx
    have hB : (zz_L_law_18 r).1 ≤ o.2.2.1 ∧ (zz_L_law_18 r).2 ≤ o.2.2.2 := by
      rcases hc with ⟨s3, e3, hx3⟩ | e3
      · subst e3
        exact hp_tr (ml_L_law_18 _ _ _ hx3) hz
      · subst e3
        exact hz
    refine q_L_law_18 G n L xs b hb0 v1 v2 s.1 s.2.1 s.2.2.1 s.2.2.2 o r hB hr (fun s2 e => ?_) (fun y e => ?_)
    · rcases hc with ⟨s3, e3, hx3⟩ | e3
      · have e4 := Sum.inl.inj (e.symm.trans e3)
        subst e4
        exact ih _ _ hx3 hz k0
      · cases (e.symm.trans e3)
    · rcases hc with ⟨s3, e3, hx3⟩ | e3
      · cases (e.symm.trans e3)
      · exact k0 y (Sum.inr.inj (e3.symm.trans e))
def f_L_law_15 (n L : Nat) (xs : Nat → Int32) (b : Nat) (v1 : Nat) (s0 : Nat) (h : hp_H) (sz sl : Nat) : Option (Int32 × hp_H × Nat × Nat) :=
  (hp_lp (fL_L_law_18 n L xs b v1 s0) n ((0 : Int32), h, sz, sl)).bind fun x1 =>
  some (x1.1, x1.2.1, x1.2.2.1, x1.2.2.2)
set_option maxHeartbeats 1000000 in
set_option maxRecDepth 4000 in
theorem mo_L_law_15 {n L : Nat} {xs : Nat → Int32} {b : Nat} {v1 : Nat} {s0 : Nat} {h : hp_H} {sz sl : Nat} {res : Int32 × hp_H × Nat × Nat} (hm : f_L_law_15 n L xs b v1 s0 h sz sl = some res) : sz ≤ res.2.2.1 ∧ sl ≤ res.2.2.2 := by
  unfold f_L_law_15 at hm
  obtain ⟨x1, hx1, hm⟩ := hp_bd hm
  have ml := ml_L_law_18 _ _ _ hx1
  · skip
    obtain rfl := Option.some.inj hm
    exact ml
set_option maxHeartbeats 1000000 in
set_option maxRecDepth 4000 in
theorem q_L_law_15 (G : hp_G) (n L : Nat) (xs : Nat → Int32) (b : Nat) (hb0 : b < G.2.1) (v1 : Nat) (s0 : Nat) (h : hp_H) (sz sl : Nat) (res : Int32 × hp_H × Nat × Nat) (hm : f_L_law_15 n L xs b v1 s0 h sz sl = some res) : hp_U (hp_Sc b L xs) G m_L_law 15 [(0, .ref b), (1, .ref v1)] [.ref s0] h sz sl (some (.int res.1), res.2.1, res.2.2.1, res.2.2.2) := by
  have ho := mo_L_law_15 hm
  unfold f_L_law_15 at hm
  refine hv_astore_n [(2, .ref s0), (0, .ref b), (1, .ref v1)] dL_law_15 rfl (by decide) rfl ?_
  refine hv_iconst (0 : Int32) dL_law_16 (by decide) ?_
  refine hv_istore_n [(3, .int (0 : Int32)), (2, .ref s0), (0, .ref b), (1, .ref v1)] dL_law_17 rfl (by decide) rfl ?_
  obtain ⟨x1, hx1, hm⟩ := hp_bd hm
  · skip
    have hz : (zx_L_law_18 x1).1 ≤ res.2.2.1 ∧ (zx_L_law_18 x1).2 ≤ res.2.2.2 := by
      have q := Option.some.inj hm
      subst q
      exact ⟨Nat.le_refl _, Nat.le_refl _⟩
    refine hv_sub [2, 3, 1, 0] rfl (l_L_law_18 G n L xs b hb0 v1 s0  _  n _ _ hx1 hz (fun wy2 ey2 => ?_))
    · cases ey2
      obtain rfl := Option.some.inj hm
      rfl
def f_L_law_11 (n L : Nat) (xs : Nat → Int32) (b : Nat) (v1 : Nat) (s0 : Nat) (h : hp_H) (sz sl : Nat) : Option (Int32 × hp_H × Nat × Nat) :=
  (f_X11_init n s0 h sz sl).bind fun x1 =>
  f_L_law_15 n L xs b v1 s0 x1.1 x1.2.1 x1.2.2
set_option maxHeartbeats 1000000 in
set_option maxRecDepth 4000 in
theorem mo_L_law_11 {n L : Nat} {xs : Nat → Int32} {b : Nat} {v1 : Nat} {s0 : Nat} {h : hp_H} {sz sl : Nat} {res : Int32 × hp_H × Nat × Nat} (hm : f_L_law_11 n L xs b v1 s0 h sz sl = some res) : sz ≤ res.2.2.1 ∧ sl ≤ res.2.2.2 := by
  unfold f_L_law_11 at hm
  obtain ⟨x1, hx1, hm⟩ := hp_bd hm
  exact hp_tr (mx_X11_init hx1) (mo_L_law_15 hm)
set_option maxHeartbeats 1000000 in
set_option maxRecDepth 4000 in
theorem q_L_law_11 (G : hp_G) (n L : Nat) (xs : Nat → Int32) (b : Nat) (hb0 : b < G.2.1) (v1 : Nat) (s0 : Nat) (h : hp_H) (sz sl : Nat) (res : Int32 × hp_H × Nat × Nat) (hm : f_L_law_11 n L xs b v1 s0 h sz sl = some res) : hp_U (hp_Sc b L xs) G m_L_law 11 [(0, .ref b), (1, .ref v1)] [.ref s0] h sz sl (some (.int res.1), res.2.1, res.2.2.1, res.2.2.2) := by
  have ho := mo_L_law_11 hm
  unfold f_L_law_11 at hm
  refine hv_dup dL_law_11 rfl ?_
  obtain ⟨x1, hx1, hm⟩ := hp_bd hm
  have hq := mo_L_law_15 hm
  refine hv_callI (As := []) (rest := [.ref s0]) Z_X11_init rfl I_X11_init lk_m_L_12 (c_X11_init G n s0 h sz sl _ hx1) rfl (Nat.le_of_ble_eq_true rfl) ⟨Nat.le_of_ble_eq_true rfl, Nat.le_of_ble_eq_true rfl⟩ hq.1 hq.2 rfl dL_law_12 ?_
  refine hv_as2 [.ref s0] x1.1 x1.2.1 x1.2.2 rfl rfl rfl rfl ?_
  exact hv_sub [0, 1] rfl (q_L_law_15 G n L xs b hb0 v1 s0 x1.1 x1.2.1 x1.2.2 _ hm)
def f_L_law_7 (n L : Nat) (xs : Nat → Int32) (b : Nat) (s0 : Nat) (h : hp_H) (sz sl : Nat) : Option (Int32 × hp_H × Nat × Nat) :=
  f_L_law_11 n L xs b s0 sz (hp_nw h sz 11 tyX11) (sz + 1) (sl + 86)
set_option maxHeartbeats 1000000 in
set_option maxRecDepth 4000 in
theorem mo_L_law_7 {n L : Nat} {xs : Nat → Int32} {b : Nat} {s0 : Nat} {h : hp_H} {sz sl : Nat} {res : Int32 × hp_H × Nat × Nat} (hm : f_L_law_7 n L xs b s0 h sz sl = some res) : sz ≤ res.2.2.1 ∧ sl ≤ res.2.2.2 := by
  unfold f_L_law_7 at hm
  exact hp_tr ⟨Nat.le_add_right _ _, Nat.le_add_right _ _⟩ (mo_L_law_11 hm)
set_option maxHeartbeats 1000000 in
set_option maxRecDepth 4000 in
theorem q_L_law_7 (G : hp_G) (n L : Nat) (xs : Nat → Int32) (b : Nat) (hb0 : b < G.2.1) (s0 : Nat) (h : hp_H) (sz sl : Nat) (res : Int32 × hp_H × Nat × Nat) (hm : f_L_law_7 n L xs b s0 h sz sl = some res) : hp_U (hp_Sc b L xs) G m_L_law 7 [(0, .ref b)] [.ref s0] h sz sl (some (.int res.1), res.2.1, res.2.2.1, res.2.2.2) := by
  have ho := mo_L_law_7 hm
  unfold f_L_law_7 at hm
  refine hv_astore_n [(1, .ref s0), (0, .ref b)] dL_law_7 rfl (by decide) rfl ?_
  have hq := mo_L_law_11 hm
  refine hv_new CL11 lk_k_L_10 dL_law_8 hq.1 hq.2 ?_
  exact hv_sub [1, 0] rfl (q_L_law_11 G n L xs b hb0 s0 sz (hp_nw h sz 11 tyX11) (sz + 1) (sl + 86) _ hm)
def f_L_law_3 (n L : Nat) (xs : Nat → Int32) (b : Nat) (s0 : Nat) (h : hp_H) (sz sl : Nat) : Option (Int32 × hp_H × Nat × Nat) :=
  (f_X10_init n s0 h sz sl).bind fun x1 =>
  f_L_law_7 n L xs b s0 x1.1 x1.2.1 x1.2.2
set_option maxHeartbeats 1000000 in
set_option maxRecDepth 4000 in
theorem mo_L_law_3 {n L : Nat} {xs : Nat → Int32} {b : Nat} {s0 : Nat} {h : hp_H} {sz sl : Nat} {res : Int32 × hp_H × Nat × Nat} (hm : f_L_law_3 n L xs b s0 h sz sl = some res) : sz ≤ res.2.2.1 ∧ sl ≤ res.2.2.2 := by
  unfold f_L_law_3 at hm
  obtain ⟨x1, hx1, hm⟩ := hp_bd hm
  exact hp_tr (mx_X10_init hx1) (mo_L_law_7 hm)
set_option maxHeartbeats 1000000 in
set_option maxRecDepth 4000 in
theorem q_L_law_3 (G : hp_G) (n L : Nat) (xs : Nat → Int32) (b : Nat) (hb0 : b < G.2.1) (s0 : Nat) (h : hp_H) (sz sl : Nat) (res : Int32 × hp_H × Nat × Nat) (hm : f_L_law_3 n L xs b s0 h sz sl = some res) : hp_U (hp_Sc b L xs) G m_L_law 3 [(0, .ref b)] [.ref s0] h sz sl (some (.int res.1), res.2.1, res.2.2.1, res.2.2.2) := by
  have ho := mo_L_law_3 hm
  unfold f_L_law_3 at hm
  refine hv_dup dL_law_3 rfl ?_
  obtain ⟨x1, hx1, hm⟩ := hp_bd hm
  have hq := mo_L_law_7 hm
  refine hv_callI (As := []) (rest := [.ref s0]) Z_X10_init rfl I_X10_init lk_m_L_9 (c_X10_init G n s0 h sz sl _ hx1) rfl (Nat.le_of_ble_eq_true rfl) ⟨Nat.le_of_ble_eq_true rfl, Nat.le_of_ble_eq_true rfl⟩ hq.1 hq.2 rfl dL_law_4 ?_
  refine hv_as2 [.ref s0] x1.1 x1.2.1 x1.2.2 rfl rfl rfl rfl ?_
  exact hv_sub [0] rfl (q_L_law_7 G n L xs b hb0 s0 x1.1 x1.2.1 x1.2.2 _ hm)
def f_L_law_0 (n L : Nat) (xs : Nat → Int32) (b : Nat) (h : hp_H) (sz sl : Nat) : Option (Int32 × hp_H × Nat × Nat) :=
  f_L_law_3 n L xs b sz (hp_nw h sz 10 tyX10) (sz + 1) (sl + 11)
set_option maxHeartbeats 1000000 in
set_option maxRecDepth 4000 in
theorem mo_L_law_0 {n L : Nat} {xs : Nat → Int32} {b : Nat} {h : hp_H} {sz sl : Nat} {res : Int32 × hp_H × Nat × Nat} (hm : f_L_law_0 n L xs b h sz sl = some res) : sz ≤ res.2.2.1 ∧ sl ≤ res.2.2.2 := by
  unfold f_L_law_0 at hm
  exact hp_tr ⟨Nat.le_add_right _ _, Nat.le_add_right _ _⟩ (mo_L_law_3 hm)
set_option maxHeartbeats 1000000 in
set_option maxRecDepth 4000 in
theorem q_L_law_0 (G : hp_G) (n L : Nat) (xs : Nat → Int32) (b : Nat) (hb0 : b < G.2.1) (h : hp_H) (sz sl : Nat) (res : Int32 × hp_H × Nat × Nat) (hm : f_L_law_0 n L xs b h sz sl = some res) : hp_U (hp_Sc b L xs) G m_L_law 0 [(0, .ref b)] [] h sz sl (some (.int res.1), res.2.1, res.2.2.1, res.2.2.2) := by
  have ho := mo_L_law_0 hm
  unfold f_L_law_0 at hm
  have hq := mo_L_law_3 hm
  refine hv_new CL10 lk_k_L_7 dL_law_0 hq.1 hq.2 ?_
  exact hv_sub [0] rfl (q_L_law_3 G n L xs b hb0 sz (hp_nw h sz 10 tyX10) (sz + 1) (sl + 11) _ hm)
