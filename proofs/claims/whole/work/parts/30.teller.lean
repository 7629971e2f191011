abbrev m_X9_takesStack : hp_M := (RX9, cX9_takesStack, 5, some .boolean, 1, 22, "takesStack")
theorem Z_X9_takesStack : hp_Y yX9_takesStack m_X9_takesStack 2 := Y_X9_takesStack
def f_X9_takesStack_12 (n : Nat) (v0 : Nat) (v1 : Int32) (v2 : Int32) (v3 : Int32) (v4 : Int32) (h : hp_H) : Option ((Int32) ⊕ (Int32)) :=
  if v3 ≤ v4 then
    some (.inr (1 : Int32))
  else
    (hp_fR h 9 v0 5).bind fun x1 =>
    (f_X5_get n x1 v1 v4 h).bind fun x2 =>
    (hp_fR h 9 v0 10).bind fun x3 =>
    (hp_aI h 0 x3 (v2 + v4)).bind fun x4 =>
    if x2 = x4 then
      some (.inl (v4 + (1 : Int32)))
    else
      some (.inr (0 : Int32))
set_option maxHeartbeats 1000000 in
set_option maxRecDepth 4000 in
theorem q_X9_takesStack_12 (G : hp_G) (n : Nat) (v0 : Nat) (v1 : Int32) (v2 : Int32) (v3 : Int32) (v4 : Int32) (h : hp_H) (sz sl : Nat) (o : hp_O) (ho : sz ≤ o.2.2.1 ∧ sl ≤ o.2.2.2) (res : (Int32) ⊕ (Int32)) (hm : f_X9_takesStack_12 n v0 v1 v2 v3 v4 h = some res) (kI : ∀ y : Int32, res = .inl y → hp_V G m_X9_takesStack 12 [(0, .ref v0), (1, .int v1), (2, .int v2), (3, .int v3), (4, .int y)] [] h sz sl o) (kR : ∀ y : Int32, res = .inr y → o = (some (.int y), h, sz, sl)) : hp_V G m_X9_takesStack 12 [(0, .ref v0), (1, .int v1), (2, .int v2), (3, .int v3), (4, .int v4)] [] h sz sl o := by
  unfold f_X9_takesStack_12 at hm
  refine hv_iload 4 dX9_takesStack_12 rfl ?_
  refine hv_iload_n 3 dX9_takesStack_14 rfl rfl ?_
  refine hv_icmp_ge (tgt := 48) dX9_takesStack_15 (by decide) (fun c6 => ?_) (fun c6 => ?_)
  · rw [if_pos c6] at hm
    refine hv_iconst (1 : Int32) dX9_takesStack_48 (by decide) ?_
    obtain rfl := kR _ (Option.some.inj hm).symm
    exact hv_zret rfl (by decide) dX9_takesStack_49
  · rw [if_neg c6] at hm
    refine hv_aload_n 0 dX9_takesStack_18 rfl rfl ?_
    obtain ⟨x1, hx1, hm⟩ := hp_bd hm
    refine hv_get lk_f_X9_20 dX9_takesStack_19 (hp_fR_spec hx1) ?_
    refine hv_iload_n 1 dX9_takesStack_22 rfl rfl ?_
    refine hv_iload 4 dX9_takesStack_23 rfl ?_
    obtain ⟨x2, hx2, hm⟩ := hp_bd hm
    obtain ⟨Vx2, hVx2⟩ := k_X5_get hx2
    refine hv_callV (As := [.int v1, .int v4]) (rest := []) Z_X5_get I_X5_get lk_m_X9_108 rfl hVx2 (c_X5_get G n x1 v1 v4 h sz sl _ hx2) rfl (Nat.le_of_ble_eq_true rfl) ⟨Nat.le_of_ble_eq_true rfl, Nat.le_of_ble_eq_true rfl⟩ ho.1 ho.2 rfl dX9_takesStack_25 ?_
    refine hv_as [.int x2] h rfl rfl ?_
    refine hv_aload_n 0 dX9_takesStack_28 rfl rfl ?_
    obtain ⟨x3, hx3, hm⟩ := hp_bd hm
    refine hv_get lk_f_X9_36 dX9_takesStack_29 (hp_fR_spec hx3) ?_
    refine hv_iload_n 2 dX9_takesStack_32 rfl rfl ?_
    refine hv_iload 4 dX9_takesStack_33 rfl ?_
    refine hv_iadd dX9_takesStack_35 ?_
    obtain ⟨x4, hx4, hm⟩ := hp_bd hm
    refine hv_iald dX9_takesStack_36 hx4 ?_
    refine hv_icmp_eq (tgt := 42) dX9_takesStack_37 (by decide) (fun c5 => ?_) (fun c5 => ?_)
    · rw [if_pos c5] at hm
      refine hv_iinc (v4 + (1 : Int32)) 4 [(4, .int (v4 + (1 : Int32))), (0, .ref v0), (1, .int v1), (2, .int v2), (3, .int v3)] dX9_takesStack_42 rfl rfl (by decide) rfl ?_
      refine hv_goto (tgt := 12) dX9_takesStack_45 (by decide) ?_
      exact hv_sub [1, 2, 3, 4, 0] rfl (kI (v4 + (1 : Int32)) (Option.some.inj hm).symm)
    · rw [if_neg c5] at hm
      refine hv_iconst (0 : Int32) dX9_takesStack_40 (by decide) ?_
      obtain rfl := kR _ (Option.some.inj hm).symm
      exact hv_zret rfl (by decide) dX9_takesStack_41
def fL_X9_takesStack_12 (n : Nat) (v0 : Nat) (v1 : Int32) (v2 : Int32) (v3 : Int32) (h : hp_H) (s : Int32) : Option ((Int32) ⊕ (Int32)) := f_X9_takesStack_12 n v0 v1 v2 v3 s h
theorem l_X9_takesStack_12 (G : hp_G) (n : Nat) (v0 : Nat) (v1 : Int32) (v2 : Int32) (v3 : Int32) (h : hp_H) (sz sl : Nat) (o : hp_O) (ho : sz ≤ o.2.2.1 ∧ sl ≤ o.2.2.2) : ∀ (k : Nat) (s : Int32) (x : Int32), hp_lp (fL_X9_takesStack_12 n v0 v1 v2 v3 h) k s = some x → (∀ y : Int32, x = y → o = (some (.int y), h, sz, sl)) → hp_V G m_X9_takesStack 12 [(0, .ref v0), (1, .int v1), (2, .int v2), (3, .int v3), (4, .int s)] [] h sz sl o := by
  intro k
  induction k with
  | zero => intro s x hx; exact (hp_lp_0 hx).elim
  | succ k ih =>
    intro s x hx k0
    obtain ⟨r, hr, hc⟩ := hp_lp_1 hx
    refine q_X9_takesStack_12 G n v0 v1 v2 v3 s h sz sl o ho r hr (fun s2 e => ?_) (fun y e => ?_)
    · rcases hc with ⟨s3, e3, hx3⟩ | e3
      · have e4 := Sum.inl.inj (e.symm.trans e3)
        subst e4
        exact ih _ _ hx3 k0
      · cases (e.symm.trans e3)
    · rcases hc with ⟨s3, e3, hx3⟩ | e3
      · cases (e.symm.trans e3)
      · exact k0 y (Sum.inr.inj (e3.symm.trans e))
def f_X9_takesStack_0 (n : Nat) (v0 : Nat) (v1 : Int32) (v2 : Int32) (h : hp_H) : Option (Int32) :=
  (hp_fR h 9 v0 5).bind fun x1 =>
  (f_X5_size n x1 v1 h).bind fun x2 =>
  (hp_lp (fL_X9_takesStack_12 n v0 v1 v2 x2 h) n (0 : Int32)).bind fun x3 =>
  some x3
set_option maxHeartbeats 1000000 in
set_option maxRecDepth 4000 in
theorem q_X9_takesStack_0 (G : hp_G) (n : Nat) (v0 : Nat) (v1 : Int32) (v2 : Int32) (h : hp_H) (sz sl : Nat) (res : Int32) (hm : f_X9_takesStack_0 n v0 v1 v2 h = some res) : hp_V G m_X9_takesStack 0 [(0, .ref v0), (1, .int v1), (2, .int v2)] [] h sz sl (some (.int res), h, sz, sl) := by
  have ho : sz ≤ sz ∧ sl ≤ sl := ⟨Nat.le_refl _, Nat.le_refl _⟩
  unfold f_X9_takesStack_0 at hm
  refine hv_aload_n 0 dX9_takesStack_0 rfl rfl ?_
  obtain ⟨x1, hx1, hm⟩ := hp_bd hm
  refine hv_get lk_f_X9_20 dX9_takesStack_1 (hp_fR_spec hx1) ?_
  refine hv_iload_n 1 dX9_takesStack_4 rfl rfl ?_
  obtain ⟨x2, hx2, hm⟩ := hp_bd hm
  obtain ⟨Vx2, hVx2⟩ := k_X5_size hx2
  refine hv_callV (As := [.int v1]) (rest := []) Z_X5_size I_X5_size lk_m_X9_85 rfl hVx2 (c_X5_size G n x1 v1 h sz sl _ hx2) rfl (Nat.le_of_ble_eq_true rfl) ⟨Nat.le_of_ble_eq_true rfl, Nat.le_of_ble_eq_true rfl⟩ ho.1 ho.2 rfl dX9_takesStack_5 ?_
  refine hv_as [.int x2] h rfl rfl ?_
  refine hv_istore_n [(3, .int x2), (0, .ref v0), (1, .int v1), (2, .int v2)] dX9_takesStack_8 rfl (by decide) rfl ?_
  refine hv_iconst (0 : Int32) dX9_takesStack_9 (by decide) ?_
  refine hv_istore [(4, .int (0 : Int32)), (3, .int x2), (0, .ref v0), (1, .int v1), (2, .int v2)] dX9_takesStack_10 (by decide) rfl ?_
  obtain ⟨x3, hx3, hm⟩ := hp_bd hm
  refine hv_sub [2, 3, 4, 1, 0] rfl (l_X9_takesStack_12 G n v0 v1 v2 x2 h sz sl _ ho n _ _ hx3 (fun y4 ey4 => ?_))
  · subst ey4
    obtain rfl := Option.some.inj hm
    rfl
def f_X9_takesStack (n : Nat) (v0 : Nat) (v1 : Int32) (v2 : Int32) (h : hp_H) : Option (Int32) := (hp_ck h 9 v0).bind fun _ => f_X9_takesStack_0 n v0 v1 v2 h
theorem c_X9_takesStack (G : hp_G) (n : Nat) (v0 : Nat) (v1 : Int32) (v2 : Int32) (h : hp_H) (sz sl : Nat) (res : Int32) (hm : f_X9_takesStack n v0 v1 v2 h = some res) : hp_C G m_X9_takesStack yX9_takesStack [.ref v0, .int v1, .int v2] h sz sl (some (.int res), h, sz, sl) := by
  unfold f_X9_takesStack at hm
  obtain ⟨_, _, hm⟩ := hp_bd hm
  exact hp_C_of (by decide) rfl rfl (Nat.le_of_ble_eq_true rfl) (Nat.le_refl _) (Nat.le_refl _) (hv_sub [0, 1, 2] rfl (q_X9_takesStack_0 G n v0 v1 v2 h sz sl res hm))
theorem k_X9_takesStack {n : Nat} {v0 : Nat} {v1 : Int32} {v2 : Int32} {h : hp_H} {res : Int32} (hm : f_X9_takesStack n v0 v1 v2 h = some res) : ∃ V, h v0 = some (.inr (.inr (9, V))) := by
  unfold f_X9_takesStack at hm
  obtain ⟨_, hu, _⟩ := hp_bd hm
  exact hp_ck_spec hu
abbrev m_X9_enter : hp_M := (RX9, cX9_enter, 2, none, 0, 0, "enter")
theorem Z_X9_enter : hp_Y yX9_enter m_X9_enter 1 := Y_X9_enter
def f_X9_enter_0 (n : Nat) (v0 : Nat) (v1 : Int32) (h : hp_H) : Option (hp_H) :=
  (hp_fR h 9 v0 10).bind fun x1 =>
  (hp_fI h 9 v0 12).bind fun x2 =>
  (hp_sI h 0 x1 x2 v1).bind fun h3 =>
  (hp_fR h3 9 v0 11).bind fun x4 =>
  (hp_fI h3 9 v0 12).bind fun x5 =>
  (hp_sI h3 0 x4 x5 (0 : Int32)).bind fun h6 =>
  (hp_fI h6 9 v0 12).bind fun x7 =>
  (hp_pF h6 9 v0 12 (.int (x7 + (1 : Int32)))).bind fun h8 =>
  some h8
set_option maxHeartbeats 1000000 in
set_option maxRecDepth 4000 in
theorem q_X9_enter_0 (G : hp_G) (n : Nat) (v0 : Nat) (v1 : Int32) (h : hp_H) (sz sl : Nat) (res : hp_H) (hm : f_X9_enter_0 n v0 v1 h = some res) : hp_V G m_X9_enter 0 [(0, .ref v0), (1, .int v1)] [] h sz sl (none, res, sz, sl) := by
  have ho : sz ≤ sz ∧ sl ≤ sl := ⟨Nat.le_refl _, Nat.le_refl _⟩
  unfold f_X9_enter_0 at hm
  refine hv_aload_n 0 dX9_enter_0 rfl rfl ?_
  obtain ⟨x1, hx1, hm⟩ := hp_bd hm
  refine hv_get lk_f_X9_36 dX9_enter_1 (hp_fR_spec hx1) ?_
  refine hv_aload_n 0 dX9_enter_4 rfl rfl ?_
  obtain ⟨x2, hx2, hm⟩ := hp_bd hm
  refine hv_get lk_f_X9_121 dX9_enter_5 (hp_fI_spec hx2) ?_
  refine hv_iload_n 1 dX9_enter_8 rfl rfl ?_
  obtain ⟨h3, hh3, hm⟩ := hp_bd hm
  refine hv_iast dX9_enter_9 hh3 ?_
  refine hv_aload_n 0 dX9_enter_10 rfl rfl ?_
  obtain ⟨x4, hx4, hm⟩ := hp_bd hm
  refine hv_get lk_f_X9_39 dX9_enter_11 (hp_fR_spec hx4) ?_
  refine hv_aload_n 0 dX9_enter_14 rfl rfl ?_
  obtain ⟨x5, hx5, hm⟩ := hp_bd hm
  refine hv_get lk_f_X9_121 dX9_enter_15 (hp_fI_spec hx5) ?_
  refine hv_iconst (0 : Int32) dX9_enter_18 (by decide) ?_
  obtain ⟨h6, hh6, hm⟩ := hp_bd hm
  refine hv_iast dX9_enter_19 hh6 ?_
  refine hv_aload_n 0 dX9_enter_20 rfl rfl ?_
  refine hv_dup dX9_enter_21 rfl ?_
  obtain ⟨x7, hx7, hm⟩ := hp_bd hm
  refine hv_get lk_f_X9_121 dX9_enter_22 (hp_fI_spec hx7) ?_
  refine hv_iconst (1 : Int32) dX9_enter_25 (by decide) ?_
  refine hv_iadd dX9_enter_26 ?_
  obtain ⟨h8, hh8, hm⟩ := hp_bd hm
  refine hv_put lk_f_X9_121 dX9_enter_27 rfl rfl hh8 ?_
  obtain rfl := Option.some.inj hm
  exact hv_vret rfl dX9_enter_30
def f_X9_enter (n : Nat) (v0 : Nat) (v1 : Int32) (h : hp_H) : Option (hp_H) := (hp_ck h 9 v0).bind fun _ => f_X9_enter_0 n v0 v1 h
theorem c_X9_enter (G : hp_G) (n : Nat) (v0 : Nat) (v1 : Int32) (h : hp_H) (sz sl : Nat) (res : hp_H) (hm : f_X9_enter n v0 v1 h = some res) : hp_C G m_X9_enter yX9_enter [.ref v0, .int v1] h sz sl (none, res, sz, sl) := by
  unfold f_X9_enter at hm
  obtain ⟨_, _, hm⟩ := hp_bd hm
  exact hp_C_of (by decide) rfl rfl (Nat.le_of_ble_eq_true rfl) (Nat.le_refl _) (Nat.le_refl _) (hv_sub [0, 1] rfl (q_X9_enter_0 G n v0 v1 h sz sl res hm))
theorem k_X9_enter {n : Nat} {v0 : Nat} {v1 : Int32} {h : hp_H} {res : hp_H} (hm : f_X9_enter n v0 v1 h = some res) : ∃ V, h v0 = some (.inr (.inr (9, V))) := by
  unfold f_X9_enter at hm
  obtain ⟨_, hu, _⟩ := hp_bd hm
  exact hp_ck_spec hu
abbrev m_X9_enterRoot : hp_M := (RX9, cX9_enterRoot, 1, none, 1, 21, "enterRoot")
theorem Z_X9_enterRoot : hp_Y yX9_enterRoot m_X9_enterRoot 0 := Y_X9_enterRoot
def f_X9_enterRoot_0 (n : Nat) (v0 : Nat) (h : hp_H) : Option (hp_H) :=
  (hp_pF h 9 v0 12 (.int (0 : Int32))).bind fun h1 =>
  (hp_fI h1 9 v0 3).bind fun x2 =>
  (f_X9_enter n v0 x2 h1).bind fun x3 =>
  some x3
set_option maxHeartbeats 1000000 in
set_option maxRecDepth 4000 in
theorem q_X9_enterRoot_0 (G : hp_G) (n : Nat) (v0 : Nat) (h : hp_H) (sz sl : Nat) (res : hp_H) (hm : f_X9_enterRoot_0 n v0 h = some res) : hp_V G m_X9_enterRoot 0 [(0, .ref v0)] [] h sz sl (none, res, sz, sl) := by
  have ho : sz ≤ sz ∧ sl ≤ sl := ⟨Nat.le_refl _, Nat.le_refl _⟩
  unfold f_X9_enterRoot_0 at hm
  refine hv_aload_n 0 dX9_enterRoot_0 rfl rfl ?_
  refine hv_iconst (0 : Int32) dX9_enterRoot_1 (by decide) ?_
  obtain ⟨h1, hh1, hm⟩ := hp_bd hm
  refine hv_put lk_f_X9_121 dX9_enterRoot_2 rfl rfl hh1 ?_
  refine hv_aload_n 0 dX9_enterRoot_5 rfl rfl ?_
  refine hv_aload_n 0 dX9_enterRoot_6 rfl rfl ?_
  obtain ⟨x2, hx2, hm⟩ := hp_bd hm
  refine hv_get lk_f_X9_97 dX9_enterRoot_7 (hp_fI_spec hx2) ?_
  obtain ⟨x3, hx3, hm⟩ := hp_bd hm
  obtain ⟨Vx3, hVx3⟩ := k_X9_enter hx3
  refine hv_callV (As := [.int x2]) (rest := []) Z_X9_enter I_X9_enter lk_m_X9_128 rfl hVx3 (c_X9_enter G n v0 x2 h1 sz sl _ hx3) rfl (Nat.le_of_ble_eq_true rfl) ⟨Nat.le_of_ble_eq_true rfl, Nat.le_of_ble_eq_true rfl⟩ ho.1 ho.2 rfl dX9_enterRoot_10 ?_
  refine hv_as [] x3 rfl rfl ?_
  obtain rfl := Option.some.inj hm
  exact hv_vret rfl dX9_enterRoot_13
def f_X9_enterRoot (n : Nat) (v0 : Nat) (h : hp_H) : Option (hp_H) := (hp_ck h 9 v0).bind fun _ => f_X9_enterRoot_0 n v0 h
theorem c_X9_enterRoot (G : hp_G) (n : Nat) (v0 : Nat) (h : hp_H) (sz sl : Nat) (res : hp_H) (hm : f_X9_enterRoot n v0 h = some res) : hp_C G m_X9_enterRoot yX9_enterRoot [.ref v0] h sz sl (none, res, sz, sl) := by
  unfold f_X9_enterRoot at hm
  obtain ⟨_, _, hm⟩ := hp_bd hm
  exact hp_C_of (by decide) rfl rfl (Nat.le_of_ble_eq_true rfl) (Nat.le_refl _) (Nat.le_refl _) (hv_sub [0] rfl (q_X9_enterRoot_0 G n v0 h sz sl res hm))
theorem k_X9_enterRoot {n : Nat} {v0 : Nat} {h : hp_H} {res : hp_H} (hm : f_X9_enterRoot n v0 h = some res) : ∃ V, h v0 = some (.inr (.inr (9, V))) := by
  unfold f_X9_enterRoot at hm
  obtain ⟨_, hu, _⟩ := hp_bd hm
  exact hp_ck_spec hu
abbrev m_X9_nextTaken : hp_M := (RX9, cX9_nextTaken, 3, some .int, 1, 22, "nextTaken")
theorem Z_X9_nextTaken : hp_Y yX9_nextTaken m_X9_nextTaken 0 := Y_X9_nextTaken
def f_X9_nextTaken_0 (n : Nat) (v0 : Nat) (h : hp_H) : Option (Int32 × hp_H) :=
  (hp_fI h 9 v0 12).bind fun x1 =>
  (hp_fR h 9 v0 5).bind fun x2 =>
  (hp_fR h 9 v0 10).bind fun x3 =>
  (hp_aI h 0 x3 (x1 - (1 : Int32))).bind fun x4 =>
  (hp_fR h 9 v0 11).bind fun x5 =>
  (hp_aI h 0 x5 (x1 - (1 : Int32))).bind fun x6 =>
  (f_X5_get n x2 x4 x6 h).bind fun x7 =>
  (hp_fR h 9 v0 11).bind fun x8 =>
  (hp_aI h 0 x8 (x1 - (1 : Int32))).bind fun x9 =>
  (hp_sI h 0 x8 (x1 - (1 : Int32)) (x9 + (1 : Int32))).bind fun h10 =>
  some (x7, h10)
set_option maxHeartbeats 1000000 in
set_option maxRecDepth 4000 in
theorem q_X9_nextTaken_0 (G : hp_G) (n : Nat) (v0 : Nat) (h : hp_H) (sz sl : Nat) (res : Int32 × hp_H) (hm : f_X9_nextTaken_0 n v0 h = some res) : hp_V G m_X9_nextTaken 0 [(0, .ref v0)] [] h sz sl (some (.int res.1), res.2, sz, sl) := by
  have ho : sz ≤ sz ∧ sl ≤ sl := ⟨Nat.le_refl _, Nat.le_refl _⟩
  unfold f_X9_nextTaken_0 at hm
  refine hv_aload_n 0 dX9_nextTaken_0 rfl rfl ?_
  obtain ⟨x1, hx1, hm⟩ := hp_bd hm
  refine hv_get lk_f_X9_121 dX9_nextTaken_1 (hp_fI_spec hx1) ?_
  refine hv_iconst (1 : Int32) dX9_nextTaken_4 (by decide) ?_
  refine hv_isub dX9_nextTaken_5 ?_
  refine hv_istore_n [(1, .int (x1 - (1 : Int32))), (0, .ref v0)] dX9_nextTaken_6 rfl (by decide) rfl ?_
  refine hv_aload_n 1 dX9_nextTaken_7 rfl rfl ?_
  obtain ⟨x2, hx2, hm⟩ := hp_bd hm
  refine hv_get lk_f_X9_20 dX9_nextTaken_8 (hp_fR_spec hx2) ?_
  refine hv_aload_n 1 dX9_nextTaken_11 rfl rfl ?_
  obtain ⟨x3, hx3, hm⟩ := hp_bd hm
  refine hv_get lk_f_X9_36 dX9_nextTaken_12 (hp_fR_spec hx3) ?_
  refine hv_iload_n 0 dX9_nextTaken_15 rfl rfl ?_
  obtain ⟨x4, hx4, hm⟩ := hp_bd hm
  refine hv_iald dX9_nextTaken_16 hx4 ?_
  refine hv_aload_n 1 dX9_nextTaken_17 rfl rfl ?_
  obtain ⟨x5, hx5, hm⟩ := hp_bd hm
  refine hv_get lk_f_X9_39 dX9_nextTaken_18 (hp_fR_spec hx5) ?_
  refine hv_iload_n 0 dX9_nextTaken_21 rfl rfl ?_
  obtain ⟨x6, hx6, hm⟩ := hp_bd hm
  refine hv_iald dX9_nextTaken_22 hx6 ?_
  obtain ⟨x7, hx7, hm⟩ := hp_bd hm
  obtain ⟨Vx7, hVx7⟩ := k_X5_get hx7
  refine hv_callV (As := [.int x4, .int x6]) (rest := []) Z_X5_get I_X5_get lk_m_X9_108 rfl hVx7 (c_X5_get G n x2 x4 x6 h sz sl _ hx7) rfl (Nat.le_of_ble_eq_true rfl) ⟨Nat.le_of_ble_eq_true rfl, Nat.le_of_ble_eq_true rfl⟩ ho.1 ho.2 rfl dX9_nextTaken_23 ?_
  refine hv_as [.int x7] h rfl rfl ?_
  refine hv_istore_n [(2, .int x7), (1, .int (x1 - (1 : Int32))), (0, .ref v0)] dX9_nextTaken_26 rfl (by decide) rfl ?_
  refine hv_aload_n 2 dX9_nextTaken_27 rfl rfl ?_
  obtain ⟨x8, hx8, hm⟩ := hp_bd hm
  refine hv_get lk_f_X9_39 dX9_nextTaken_28 (hp_fR_spec hx8) ?_
  refine hv_iload_n 1 dX9_nextTaken_31 rfl rfl ?_
  refine hv_dup2_11 dX9_nextTaken_32 rfl rfl ?_
  obtain ⟨x9, hx9, hm⟩ := hp_bd hm
  refine hv_iald dX9_nextTaken_33 hx9 ?_
  refine hv_iconst (1 : Int32) dX9_nextTaken_34 (by decide) ?_
  refine hv_iadd dX9_nextTaken_35 ?_
  obtain ⟨h10, hh10, hm⟩ := hp_bd hm
  refine hv_iast dX9_nextTaken_36 hh10 ?_
  refine hv_iload_n 0 dX9_nextTaken_37 rfl rfl ?_
  obtain rfl := Option.some.inj hm
  exact hv_iret rfl dX9_nextTaken_38
def f_X9_nextTaken (n : Nat) (v0 : Nat) (h : hp_H) : Option (Int32 × hp_H) := (hp_ck h 9 v0).bind fun _ => f_X9_nextTaken_0 n v0 h
theorem c_X9_nextTaken (G : hp_G) (n : Nat) (v0 : Nat) (h : hp_H) (sz sl : Nat) (res : Int32 × hp_H) (hm : f_X9_nextTaken n v0 h = some res) : hp_C G m_X9_nextTaken yX9_nextTaken [.ref v0] h sz sl (some (.int res.1), res.2, sz, sl) := by
  unfold f_X9_nextTaken at hm
  obtain ⟨_, _, hm⟩ := hp_bd hm
  exact hp_C_of (by decide) rfl rfl (Nat.le_of_ble_eq_true rfl) (Nat.le_refl _) (Nat.le_refl _) (hv_sub [0] rfl (q_X9_nextTaken_0 G n v0 h sz sl res hm))
theorem k_X9_nextTaken {n : Nat} {v0 : Nat} {h : hp_H} {res : Int32 × hp_H} (hm : f_X9_nextTaken n v0 h = some res) : ∃ V, h v0 = some (.inr (.inr (9, V))) := by
  unfold f_X9_nextTaken at hm
  obtain ⟨_, hu, _⟩ := hp_bd hm
  exact hp_ck_spec hu
abbrev m_X9_writeOut : hp_M := (RX9, cX9_writeOut, 5, some .boolean, 2, 46, "writeOut")
theorem Z_X9_writeOut : hp_Y yX9_writeOut m_X9_writeOut 1 := Y_X9_writeOut
def f_X9_writeOut_106 (n : Nat) (v0 : Nat) (v1 : Nat) (v2 : Int32) (v3 : Int32) (h : hp_H) : Option ((Int32 × Int32 × hp_H) ⊕ (Int32 × hp_H)) :=
  some (.inl (v2, (v3 + (1 : Int32)), h))
set_option maxHeartbeats 1000000 in
set_option maxRecDepth 4000 in
theorem q_X9_writeOut_106 (G : hp_G) (n : Nat) (v0 : Nat) (v1 : Nat) (v2 : Int32) (v3 : Int32) (h : hp_H) (sz sl : Nat) (o : hp_O) (ho : sz ≤ o.2.2.1 ∧ sl ≤ o.2.2.2) (res : (Int32 × Int32 × hp_H) ⊕ (Int32 × hp_H)) (hm : f_X9_writeOut_106 n v0 v1 v2 v3 h = some res) (kI : ∀ y : Int32 × Int32 × hp_H, res = .inl y → hp_V G m_X9_writeOut 8 [(0, .ref v0), (1, .ref v1), (2, .int y.1), (3, .int y.2.1)] [] y.2.2 sz sl o) (kR : ∀ y : Int32 × hp_H, res = .inr y → o = (some (.int y.1), y.2, sz, sl)) : hp_V G m_X9_writeOut 106 [(0, .ref v0), (1, .ref v1), (2, .int v2), (3, .int v3)] [] h sz sl o := by
  unfold f_X9_writeOut_106 at hm
  refine hv_iinc (v3 + (1 : Int32)) 3 [(3, .int (v3 + (1 : Int32))), (0, .ref v0), (1, .ref v1), (2, .int v2)] dX9_writeOut_106 rfl rfl (by decide) rfl ?_
  refine hv_goto (tgt := 8) dX9_writeOut_109 (by decide) ?_
  exact hv_sub [1, 2, 3, 0] rfl (kI (v2, (v3 + (1 : Int32)), h) (Option.some.inj hm).symm)
def f_X9_writeOut_62 (n : Nat) (v0 : Nat) (v1 : Nat) (v2 : Int32) (v3 : Int32) (h : hp_H) : Option ((Int32 × Int32 × hp_H) ⊕ (Int32 × hp_H)) :=
  (hp_fR h 9 v0 0).bind fun x1 =>
  (hp_fR h 0 x1 0).bind fun x2 =>
  (hp_fR h 9 v0 4).bind fun x3 =>
  (hp_fR h 9 v0 10).bind fun x4 =>
  (hp_fI h 9 v0 12).bind fun x5 =>
  (hp_aI h 0 x4 (x5 - (1 : Int32))).bind fun x6 =>
  (hp_aI h 0 x3 x6).bind fun x7 =>
  (f_X8_putName n v1 x2 ((300 : Int32) + x7) h).bind fun x8 =>
  (hp_fI x8 9 v0 12).bind fun x9 =>
  (hp_pF x8 9 v0 12 (.int (x9 - (1 : Int32)))).bind fun h10 =>
  f_X9_writeOut_106 n v0 v1 (v2 + (1 : Int32)) v3 h10
set_option maxHeartbeats 1000000 in
set_option maxRecDepth 4000 in
theorem q_X9_writeOut_62 (G : hp_G) (n : Nat) (v0 : Nat) (v1 : Nat) (v2 : Int32) (v3 : Int32) (h : hp_H) (sz sl : Nat) (o : hp_O) (ho : sz ≤ o.2.2.1 ∧ sl ≤ o.2.2.2) (res : (Int32 × Int32 × hp_H) ⊕ (Int32 × hp_H)) (hm : f_X9_writeOut_62 n v0 v1 v2 v3 h = some res) (kI : ∀ y : Int32 × Int32 × hp_H, res = .inl y → hp_V G m_X9_writeOut 8 [(0, .ref v0), (1, .ref v1), (2, .int y.1), (3, .int y.2.1)] [] y.2.2 sz sl o) (kR : ∀ y : Int32 × hp_H, res = .inr y → o = (some (.int y.1), y.2, sz, sl)) : hp_V G m_X9_writeOut 62 [(0, .ref v0), (1, .ref v1), (2, .int v2), (3, .int v3)] [] h sz sl o := by
  unfold f_X9_writeOut_62 at hm
  refine hv_aload_n 1 dX9_writeOut_62 rfl rfl ?_
  refine hv_aload_n 0 dX9_writeOut_63 rfl rfl ?_
  obtain ⟨x1, hx1, hm⟩ := hp_bd hm
  refine hv_get lk_f_X9_51 dX9_writeOut_64 (hp_fR_spec hx1) ?_
  obtain ⟨x2, hx2, hm⟩ := hp_bd hm
  refine hv_get lk_f_X9_136 dX9_writeOut_67 (hp_fR_spec hx2) ?_
  refine hv_sipush (300 : Int32) dX9_writeOut_70 (by decide) ?_
  refine hv_aload_n 0 dX9_writeOut_73 rfl rfl ?_
  obtain ⟨x3, hx3, hm⟩ := hp_bd hm
  refine hv_get lk_f_X9_9 dX9_writeOut_74 (hp_fR_spec hx3) ?_
  refine hv_aload_n 0 dX9_writeOut_77 rfl rfl ?_
  obtain ⟨x4, hx4, hm⟩ := hp_bd hm
  refine hv_get lk_f_X9_36 dX9_writeOut_78 (hp_fR_spec hx4) ?_
  refine hv_aload_n 0 dX9_writeOut_81 rfl rfl ?_
  obtain ⟨x5, hx5, hm⟩ := hp_bd hm
  refine hv_get lk_f_X9_121 dX9_writeOut_82 (hp_fI_spec hx5) ?_
  refine hv_iconst (1 : Int32) dX9_writeOut_85 (by decide) ?_
  refine hv_isub dX9_writeOut_86 ?_
  obtain ⟨x6, hx6, hm⟩ := hp_bd hm
  refine hv_iald dX9_writeOut_87 hx6 ?_
  obtain ⟨x7, hx7, hm⟩ := hp_bd hm
  refine hv_iald dX9_writeOut_88 hx7 ?_
  refine hv_iadd dX9_writeOut_89 ?_
  obtain ⟨x8, hx8, hm⟩ := hp_bd hm
  obtain ⟨Vx8, hVx8⟩ := k_X8_putName hx8
  refine hv_callV (As := [.ref x2, .int ((300 : Int32) + x7)]) (rest := []) Z_X8_putName I_X8_putName lk_m_X9_139 rfl hVx8 (c_X8_putName G n v1 x2 ((300 : Int32) + x7) h sz sl _ hx8) rfl (Nat.le_of_ble_eq_true rfl) ⟨Nat.le_of_ble_eq_true rfl, Nat.le_of_ble_eq_true rfl⟩ ho.1 ho.2 rfl dX9_writeOut_90 ?_
  refine hv_as [] x8 rfl rfl ?_
  refine hv_iinc (v2 + (1 : Int32)) 2 [(2, .int (v2 + (1 : Int32))), (0, .ref v0), (1, .ref v1), (3, .int v3)] dX9_writeOut_93 rfl rfl (by decide) rfl ?_
  refine hv_aload_n 1 dX9_writeOut_96 rfl rfl ?_
  refine hv_dup dX9_writeOut_97 rfl ?_
  obtain ⟨x9, hx9, hm⟩ := hp_bd hm
  refine hv_get lk_f_X9_121 dX9_writeOut_98 (hp_fI_spec hx9) ?_
  refine hv_iconst (1 : Int32) dX9_writeOut_101 (by decide) ?_
  refine hv_isub dX9_writeOut_102 ?_
  obtain ⟨h10, hh10, hm⟩ := hp_bd hm
  refine hv_put lk_f_X9_121 dX9_writeOut_103 rfl rfl hh10 ?_
  exact hv_sub [1, 2, 0, 3] rfl (q_X9_writeOut_106 G n v0 v1 (v2 + (1 : Int32)) v3 h10 sz sl o ho _ hm kI kR)
def f_X9_writeOut_8 (n : Nat) (v0 : Nat) (v1 : Nat) (v2 : Int32) (v3 : Int32) (h : hp_H) : Option ((Int32 × Int32 × hp_H) ⊕ (Int32 × hp_H)) :=
  if (4000 : Int32) ≤ v3 then
    some (.inr ((1 : Int32), h))
  else
    (hp_fI h 9 v0 12).bind fun x1 =>
    if x1 ≤ 0 then
      some (.inr ((1 : Int32), h))
    else
      (f_X9_nextTaken n v0 h).bind fun x2 =>
      if x2.1 = (-1 : Int32) then
        if v2 = (1000 : Int32) then
          some (.inr ((0 : Int32), x2.2))
        else
          if v2 ≤ 0 then
            f_X9_writeOut_62 n v0 v1 v2 v3 x2.2
          else
            (f_X8_put n v1 (32 : Int32) x2.2).bind fun x3 =>
            f_X9_writeOut_62 n v0 v1 v2 v3 x3
      else
        (f_X9_enter n v0 x2.1 x2.2).bind fun x6 =>
        f_X9_writeOut_106 n v0 v1 v2 v3 x6
set_option maxHeartbeats 1000000 in
set_option maxRecDepth 4000 in
theorem q_X9_writeOut_8 (G : hp_G) (n : Nat) (v0 : Nat) (v1 : Nat) (v2 : Int32) (v3 : Int32) (h : hp_H) (sz sl : Nat) (o : hp_O) (ho : sz ≤ o.2.2.1 ∧ sl ≤ o.2.2.2) (res : (Int32 × Int32 × hp_H) ⊕ (Int32 × hp_H)) (hm : f_X9_writeOut_8 n v0 v1 v2 v3 h = some res) (kI : ∀ y : Int32 × Int32 × hp_H, res = .inl y → hp_V G m_X9_writeOut 8 [(0, .ref v0), (1, .ref v1), (2, .int y.1), (3, .int y.2.1)] [] y.2.2 sz sl o) (kR : ∀ y : Int32 × hp_H, res = .inr y → o = (some (.int y.1), y.2, sz, sl)) : hp_V G m_X9_writeOut 8 [(0, .ref v0), (1, .ref v1), (2, .int v2), (3, .int v3)] [] h sz sl o := by
  unfold f_X9_writeOut_8 at hm
  refine hv_iload_n 3 dX9_writeOut_8 rfl rfl ?_
  refine hv_sipush (4000 : Int32) dX9_writeOut_9 (by decide) ?_
  refine hv_icmp_ge (tgt := 112) dX9_writeOut_12 (by decide) (fun c9 => ?_) (fun c9 => ?_)
  · rw [if_pos c9] at hm
    refine hv_iconst (1 : Int32) dX9_writeOut_112 (by decide) ?_
    obtain rfl := kR _ (Option.some.inj hm).symm
    exact hv_zret rfl (by decide) dX9_writeOut_113
  · rw [if_neg c9] at hm
    refine hv_aload_n 0 dX9_writeOut_15 rfl rfl ?_
    obtain ⟨x1, hx1, hm⟩ := hp_bd hm
    refine hv_get lk_f_X9_121 dX9_writeOut_16 (hp_fI_spec hx1) ?_
    refine hv_if_le (tgt := 112) dX9_writeOut_19 (by decide) (fun c8 => ?_) (fun c8 => ?_)
    · rw [if_pos c8] at hm
      refine hv_iconst (1 : Int32) dX9_writeOut_112 (by decide) ?_
      obtain rfl := kR _ (Option.some.inj hm).symm
      exact hv_zret rfl (by decide) dX9_writeOut_113
    · rw [if_neg c8] at hm
      refine hv_aload_n 0 dX9_writeOut_22 rfl rfl ?_
      obtain ⟨x2, hx2, hm⟩ := hp_bd hm
      obtain ⟨Vx2, hVx2⟩ := k_X9_nextTaken hx2
      refine hv_callV (As := []) (rest := []) Z_X9_nextTaken I_X9_nextTaken lk_m_X9_124 rfl hVx2 (c_X9_nextTaken G n v0 h sz sl _ hx2) rfl (Nat.le_of_ble_eq_true rfl) ⟨Nat.le_of_ble_eq_true rfl, Nat.le_of_ble_eq_true rfl⟩ ho.1 ho.2 rfl dX9_writeOut_23 ?_
      refine hv_as [.int x2.1] x2.2 rfl rfl ?_
      refine hv_istore [(4, .int x2.1), (0, .ref v0), (1, .ref v1), (2, .int v2), (3, .int v3)] dX9_writeOut_26 (by decide) rfl ?_
      refine hv_iload 0 dX9_writeOut_28 rfl ?_
      refine hv_iconst (-1 : Int32) dX9_writeOut_30 (by decide) ?_
      refine hv_icmp_eq (tgt := 43) dX9_writeOut_31 (by decide) (fun c7 => ?_) (fun c7 => ?_)
      · rw [if_pos c7] at hm
        refine hv_iload_n 3 dX9_writeOut_43 rfl rfl ?_
        refine hv_sipush (1000 : Int32) dX9_writeOut_44 (by decide) ?_
        refine hv_icmp_ne (tgt := 52) dX9_writeOut_47 (by decide) (fun c5 => ?_) (fun c5 => ?_)
        · rw [if_neg c5] at hm
          refine hv_iload_n 3 dX9_writeOut_52 rfl rfl ?_
          refine hv_if_le (tgt := 62) dX9_writeOut_53 (by decide) (fun c4 => ?_) (fun c4 => ?_)
          · rw [if_pos c4] at hm
            exact hv_sub [1, 2, 3, 4] rfl (q_X9_writeOut_62 G n v0 v1 v2 v3 x2.2 sz sl o ho _ hm kI kR)
          · rw [if_neg c4] at hm
            refine hv_aload_n 2 dX9_writeOut_56 rfl rfl ?_
            refine hv_bipush (32 : Int32) dX9_writeOut_57 (by decide) ?_
            obtain ⟨x3, hx3, hm⟩ := hp_bd hm
            obtain ⟨Vx3, hVx3⟩ := k_X8_put hx3
            refine hv_callV (As := [.int (32 : Int32)]) (rest := []) Z_X8_put I_X8_put lk_m_X9_131 rfl hVx3 (c_X8_put G n v1 (32 : Int32) x2.2 sz sl _ hx3) rfl (Nat.le_of_ble_eq_true rfl) ⟨Nat.le_of_ble_eq_true rfl, Nat.le_of_ble_eq_true rfl⟩ ho.1 ho.2 rfl dX9_writeOut_59 ?_
            refine hv_as [] x3 rfl rfl ?_
            exact hv_sub [1, 2, 3, 4] rfl (q_X9_writeOut_62 G n v0 v1 v2 v3 x3 sz sl o ho _ hm kI kR)
        · rw [if_pos c5] at hm
          refine hv_iconst (0 : Int32) dX9_writeOut_50 (by decide) ?_
          obtain rfl := kR _ (Option.some.inj hm).symm
          exact hv_zret rfl (by decide) dX9_writeOut_51
      · rw [if_neg c7] at hm
        refine hv_aload_n 1 dX9_writeOut_34 rfl rfl ?_
        refine hv_iload 0 dX9_writeOut_35 rfl ?_
        obtain ⟨x6, hx6, hm⟩ := hp_bd hm
        obtain ⟨Vx6, hVx6⟩ := k_X9_enter hx6
        refine hv_callV (As := [.int x2.1]) (rest := []) Z_X9_enter I_X9_enter lk_m_X9_128 rfl hVx6 (c_X9_enter G n v0 x2.1 x2.2 sz sl _ hx6) rfl (Nat.le_of_ble_eq_true rfl) ⟨Nat.le_of_ble_eq_true rfl, Nat.le_of_ble_eq_true rfl⟩ ho.1 ho.2 rfl dX9_writeOut_37 ?_
        refine hv_as [] x6 rfl rfl ?_
        refine hv_goto (tgt := 106) dX9_writeOut_40 (by decide) ?_
        exact hv_sub [1, 2, 3, 4] rfl (q_X9_writeOut_106 G n v0 v1 v2 v3 x6 sz sl o ho _ hm kI kR)
def fL_X9_writeOut_8 (n : Nat) (v0 : Nat) (v1 : Nat) (s : Int32 × Int32 × hp_H) : Option ((Int32 × Int32 × hp_H) ⊕ (Int32 × hp_H)) := f_X9_writeOut_8 n v0 v1 s.1 s.2.1 s.2.2
theorem l_X9_writeOut_8 (G : hp_G) (n : Nat) (v0 : Nat) (v1 : Nat) (sz sl : Nat) (o : hp_O) (ho : sz ≤ o.2.2.1 ∧ sl ≤ o.2.2.2) : ∀ (k : Nat) (s : Int32 × Int32 × hp_H) (x : Int32 × hp_H), hp_lp (fL_X9_writeOut_8 n v0 v1) k s = some x → (∀ y : Int32 × hp_H, x = y → o = (some (.int y.1), y.2, sz, sl)) → hp_V G m_X9_writeOut 8 [(0, .ref v0), (1, .ref v1), (2, .int s.1), (3, .int s.2.1)] [] s.2.2 sz sl o := by
  intro k
  induction k with
  | zero => intro s x hx; exact (hp_lp_0 hx).elim
  | succ k ih =>
    intro s x hx k0
    obtain ⟨r, hr, hc⟩ := hp_lp_1 hx
    refine q_X9_writeOut_8 G n v0 v1 s.1 s.2.1 s.2.2 sz sl o ho r hr (fun s2 e => ?_) (fun y e => ?_)
    · rcases hc with ⟨s3, e3, hx3⟩ | e3
      · have e4 := Sum.inl.inj (e.symm.trans e3)
        subst e4
        exact ih _ _ hx3 k0
      · cases (e.symm.trans e3)
    · rcases hc with ⟨s3, e3, hx3⟩ | e3
      · cases (e.symm.trans e3)
      · exact k0 y (Sum.inr.inj (e3.symm.trans e))
def f_X9_writeOut_0 (n : Nat) (v0 : Nat) (v1 : Nat) (h : hp_H) : Option (Int32 × hp_H) :=
  (f_X9_enterRoot n v0 h).bind fun x1 =>
  (hp_lp (fL_X9_writeOut_8 n v0 v1) n ((0 : Int32), (0 : Int32), x1)).bind fun x2 =>
  some (x2.1, x2.2)
set_option maxHeartbeats 1000000 in
set_option maxRecDepth 4000 in
theorem q_X9_writeOut_0 (G : hp_G) (n : Nat) (v0 : Nat) (v1 : Nat) (h : hp_H) (sz sl : Nat) (res : Int32 × hp_H) (hm : f_X9_writeOut_0 n v0 v1 h = some res) : hp_V G m_X9_writeOut 0 [(0, .ref v0), (1, .ref v1)] [] h sz sl (some (.int res.1), res.2, sz, sl) := by
  have ho : sz ≤ sz ∧ sl ≤ sl := ⟨Nat.le_refl _, Nat.le_refl _⟩
  unfold f_X9_writeOut_0 at hm
  refine hv_iconst (0 : Int32) dX9_writeOut_0 (by decide) ?_
  refine hv_istore_n [(2, .int (0 : Int32)), (0, .ref v0), (1, .ref v1)] dX9_writeOut_1 rfl (by decide) rfl ?_
  refine hv_aload_n 1 dX9_writeOut_2 rfl rfl ?_
  obtain ⟨x1, hx1, hm⟩ := hp_bd hm
  obtain ⟨Vx1, hVx1⟩ := k_X9_enterRoot hx1
  refine hv_callV (As := []) (rest := []) Z_X9_enterRoot I_X9_enterRoot lk_m_X9_118 rfl hVx1 (c_X9_enterRoot G n v0 h sz sl _ hx1) rfl (Nat.le_of_ble_eq_true rfl) ⟨Nat.le_of_ble_eq_true rfl, Nat.le_of_ble_eq_true rfl⟩ ho.1 ho.2 rfl dX9_writeOut_3 ?_
  refine hv_as [] x1 rfl rfl ?_
  refine hv_iconst (0 : Int32) dX9_writeOut_6 (by decide) ?_
  refine hv_istore_n [(3, .int (0 : Int32)), (2, .int (0 : Int32)), (0, .ref v0), (1, .ref v1)] dX9_writeOut_7 rfl (by decide) rfl ?_
  obtain ⟨x2, hx2, hm⟩ := hp_bd hm
  refine hv_sub [2, 3, 1, 0] rfl (l_X9_writeOut_8 G n v0 v1 sz sl _ ho n _ _ hx2 (fun y3 ey3 => ?_))
  · subst ey3
    obtain rfl := Option.some.inj hm
    rfl
def f_X9_writeOut (n : Nat) (v0 : Nat) (v1 : Nat) (h : hp_H) : Option (Int32 × hp_H) := (hp_ck h 9 v0).bind fun _ => f_X9_writeOut_0 n v0 v1 h
theorem c_X9_writeOut (G : hp_G) (n : Nat) (v0 : Nat) (v1 : Nat) (h : hp_H) (sz sl : Nat) (res : Int32 × hp_H) (hm : f_X9_writeOut n v0 v1 h = some res) : hp_C G m_X9_writeOut yX9_writeOut [.ref v0, .ref v1] h sz sl (some (.int res.1), res.2, sz, sl) := by
  unfold f_X9_writeOut at hm
  obtain ⟨_, _, hm⟩ := hp_bd hm
  exact hp_C_of (by decide) rfl rfl (Nat.le_of_ble_eq_true rfl) (Nat.le_refl _) (Nat.le_refl _) (hv_sub [0, 1] rfl (q_X9_writeOut_0 G n v0 v1 h sz sl res hm))
theorem k_X9_writeOut {n : Nat} {v0 : Nat} {v1 : Nat} {h : hp_H} {res : Int32 × hp_H} (hm : f_X9_writeOut n v0 v1 h = some res) : ∃ V, h v0 = some (.inr (.inr (9, V))) := by
  unfold f_X9_writeOut at hm
  obtain ⟨_, hu, _⟩ := hp_bd hm
  exact hp_ck_spec hu
abbrev m_X9_numberLabels : hp_M := (RX9, cX9_numberLabels, 4, none, 2, 46, "numberLabels")
theorem Z_X9_numberLabels : hp_Y yX9_numberLabels m_X9_numberLabels 1 := Y_X9_numberLabels
def f_X9_numberLabels_33 (n : Nat) (v0 : Nat) (v1 : Nat) (v2 : Int32) (v3 : Int32) (h : hp_H) : Option ((Int32 × hp_H) ⊕ (hp_H)) :=
  if v2 ≤ v3 then
    some (.inr h)
  else
    (hp_fI h 9 v0 15).bind fun x1 =>
    (hp_pF h 9 v0 15 (.int (x1 + (1 : Int32)))).bind fun h2 =>
    (hp_fR h2 9 v0 13).bind fun x3 =>
    (hp_fR h2 9 v0 0).bind fun x4 =>
    (hp_fR h2 0 x4 12).bind fun x5 =>
    (hp_fR h2 9 v0 1).bind fun x6 =>
    (hp_fI h2 3 x6 0).bind fun x7 =>
    (f_X5_get n x5 x7 v3 h2).bind fun x8 =>
    (hp_fI h2 9 v0 15).bind fun x9 =>
    (hp_sI h2 0 x3 x8 x9).bind fun h10 =>
    some (.inl ((v3 + (1 : Int32)), h10))
set_option maxHeartbeats 1000000 in
set_option maxRecDepth 4000 in
theorem q_X9_numberLabels_33 (G : hp_G) (n : Nat) (v0 : Nat) (v1 : Nat) (v2 : Int32) (v3 : Int32) (h : hp_H) (sz sl : Nat) (o : hp_O) (ho : sz ≤ o.2.2.1 ∧ sl ≤ o.2.2.2) (res : (Int32 × hp_H) ⊕ (hp_H)) (hm : f_X9_numberLabels_33 n v0 v1 v2 v3 h = some res) (kI : ∀ y : Int32 × hp_H, res = .inl y → hp_V G m_X9_numberLabels 33 [(0, .ref v0), (1, .ref v1), (2, .int v2), (3, .int y.1)] [] y.2 sz sl o) (kX0 : ∀ y : hp_H, res = .inr y → hp_V G m_X9_numberLabels 81 [(0, .ref v0), (1, .ref v1)] [] y sz sl o) : hp_V G m_X9_numberLabels 33 [(0, .ref v0), (1, .ref v1), (2, .int v2), (3, .int v3)] [] h sz sl o := by
  unfold f_X9_numberLabels_33 at hm
  refine hv_iload_n 3 dX9_numberLabels_33 rfl rfl ?_
  refine hv_iload_n 2 dX9_numberLabels_34 rfl rfl ?_
  refine hv_icmp_ge (tgt := 81) dX9_numberLabels_35 (by decide) (fun c11 => ?_) (fun c11 => ?_)
  · rw [if_pos c11] at hm
    exact hv_sub [0, 1] rfl (kX0 h (Option.some.inj hm).symm)
  · rw [if_neg c11] at hm
    refine hv_aload_n 0 dX9_numberLabels_38 rfl rfl ?_
    refine hv_dup dX9_numberLabels_39 rfl ?_
    obtain ⟨x1, hx1, hm⟩ := hp_bd hm
    refine hv_get lk_f_X9_154 dX9_numberLabels_40 (hp_fI_spec hx1) ?_
    refine hv_iconst (1 : Int32) dX9_numberLabels_43 (by decide) ?_
    refine hv_iadd dX9_numberLabels_44 ?_
    obtain ⟨h2, hh2, hm⟩ := hp_bd hm
    refine hv_put lk_f_X9_154 dX9_numberLabels_45 rfl rfl hh2 ?_
    refine hv_aload_n 0 dX9_numberLabels_48 rfl rfl ?_
    obtain ⟨x3, hx3, hm⟩ := hp_bd hm
    refine hv_get lk_f_X9_42 dX9_numberLabels_49 (hp_fR_spec hx3) ?_
    refine hv_aload_n 0 dX9_numberLabels_52 rfl rfl ?_
    obtain ⟨x4, hx4, hm⟩ := hp_bd hm
    refine hv_get lk_f_X9_51 dX9_numberLabels_53 (hp_fR_spec hx4) ?_
    obtain ⟨x5, hx5, hm⟩ := hp_bd hm
    refine hv_get lk_f_X9_80 dX9_numberLabels_56 (hp_fR_spec hx5) ?_
    refine hv_aload_n 0 dX9_numberLabels_59 rfl rfl ?_
    obtain ⟨x6, hx6, hm⟩ := hp_bd hm
    refine hv_get lk_f_X9_55 dX9_numberLabels_60 (hp_fR_spec hx6) ?_
    obtain ⟨x7, hx7, hm⟩ := hp_bd hm
    refine hv_get lk_f_X9_157 dX9_numberLabels_63 (hp_fI_spec hx7) ?_
    refine hv_iload_n 3 dX9_numberLabels_66 rfl rfl ?_
    obtain ⟨x8, hx8, hm⟩ := hp_bd hm
    obtain ⟨Vx8, hVx8⟩ := k_X5_get hx8
    refine hv_callV (As := [.int x7, .int v3]) (rest := [.ref x3]) Z_X5_get I_X5_get lk_m_X9_108 rfl hVx8 (c_X5_get G n x5 x7 v3 h2 sz sl _ hx8) rfl (Nat.le_of_ble_eq_true rfl) ⟨Nat.le_of_ble_eq_true rfl, Nat.le_of_ble_eq_true rfl⟩ ho.1 ho.2 rfl dX9_numberLabels_67 ?_
    refine hv_as [.int x8, .ref x3] h2 rfl rfl ?_
    refine hv_aload_n 0 dX9_numberLabels_70 rfl rfl ?_
    obtain ⟨x9, hx9, hm⟩ := hp_bd hm
    refine hv_get lk_f_X9_154 dX9_numberLabels_71 (hp_fI_spec hx9) ?_
    obtain ⟨h10, hh10, hm⟩ := hp_bd hm
    refine hv_iast dX9_numberLabels_74 hh10 ?_
    refine hv_iinc (v3 + (1 : Int32)) 3 [(3, .int (v3 + (1 : Int32))), (0, .ref v0), (1, .ref v1), (2, .int v2)] dX9_numberLabels_75 rfl rfl (by decide) rfl ?_
    refine hv_goto (tgt := 33) dX9_numberLabels_78 (by decide) ?_
    exact hv_sub [1, 2, 3, 0] rfl (kI ((v3 + (1 : Int32)), h10) (Option.some.inj hm).symm)
def fL_X9_numberLabels_33 (n : Nat) (v0 : Nat) (v1 : Nat) (v2 : Int32) (s : Int32 × hp_H) : Option ((Int32 × hp_H) ⊕ (hp_H)) := f_X9_numberLabels_33 n v0 v1 v2 s.1 s.2
theorem l_X9_numberLabels_33 (G : hp_G) (n : Nat) (v0 : Nat) (v1 : Nat) (v2 : Int32) (sz sl : Nat) (o : hp_O) (ho : sz ≤ o.2.2.1 ∧ sl ≤ o.2.2.2) : ∀ (k : Nat) (s : Int32 × hp_H) (x : hp_H), hp_lp (fL_X9_numberLabels_33 n v0 v1 v2) k s = some x → (∀ y : hp_H, x = y → hp_V G m_X9_numberLabels 81 [(0, .ref v0), (1, .ref v1)] [] y sz sl o) → hp_V G m_X9_numberLabels 33 [(0, .ref v0), (1, .ref v1), (2, .int v2), (3, .int s.1)] [] s.2 sz sl o := by
  intro k
  induction k with
  | zero => intro s x hx; exact (hp_lp_0 hx).elim
  | succ k ih =>
    intro s x hx k0
    obtain ⟨r, hr, hc⟩ := hp_lp_1 hx
    refine q_X9_numberLabels_33 G n v0 v1 v2 s.1 s.2 sz sl o ho r hr (fun s2 e => ?_) (fun y e => ?_)
    · rcases hc with ⟨s3, e3, hx3⟩ | e3
      · have e4 := Sum.inl.inj (e.symm.trans e3)
        subst e4
        exact ih _ _ hx3 k0
      · cases (e.symm.trans e3)
    · rcases hc with ⟨s3, e3, hx3⟩ | e3
      · cases (e.symm.trans e3)
      · exact k0 y (Sum.inr.inj (e3.symm.trans e))
def f_X9_numberLabels_169 (n : Nat) (v0 : Nat) (v1 : Nat) (v3 : Int32) (h : hp_H) : Option ((Int32 × hp_H) ⊕ (hp_H)) :=
  some (.inl ((v3 + (1 : Int32)), h))
set_option maxHeartbeats 1000000 in
set_option maxRecDepth 4000 in
theorem q_X9_numberLabels_169 (G : hp_G) (n : Nat) (v0 : Nat) (v1 : Nat) (v3 : Int32) (h : hp_H) (sz sl : Nat) (o : hp_O) (ho : sz ≤ o.2.2.1 ∧ sl ≤ o.2.2.2) (res : (Int32 × hp_H) ⊕ (hp_H)) (hm : f_X9_numberLabels_169 n v0 v1 v3 h = some res) (kI : ∀ y : Int32 × hp_H, res = .inl y → hp_V G m_X9_numberLabels 95 [(0, .ref v0), (1, .ref v1), (3, .int y.1)] [] y.2 sz sl o) (kX0 : ∀ y : hp_H, res = .inr y → hp_V G m_X9_numberLabels 175 [(1, .ref v1)] [] y sz sl o) : hp_V G m_X9_numberLabels 169 [(0, .ref v0), (1, .ref v1), (3, .int v3)] [] h sz sl o := by
  unfold f_X9_numberLabels_169 at hm
  refine hv_iinc (v3 + (1 : Int32)) 2 [(3, .int (v3 + (1 : Int32))), (0, .ref v0), (1, .ref v1)] dX9_numberLabels_169 rfl rfl (by decide) rfl ?_
  refine hv_goto (tgt := 95) dX9_numberLabels_172 (by decide) ?_
  exact hv_sub [1, 2, 0] rfl (kI ((v3 + (1 : Int32)), h) (Option.some.inj hm).symm)
def f_X9_numberLabels_95 (n : Nat) (v0 : Nat) (v1 : Nat) (v3 : Int32) (h : hp_H) : Option ((Int32 × hp_H) ⊕ (hp_H)) :=
  (hp_fI h 9 v0 2).bind fun x1 =>
  if x1 ≤ v3 then
    some (.inr h)
  else
    (hp_fR h 9 v0 13).bind fun x2 =>
    (hp_fR h 9 v0 4).bind fun x3 =>
    (hp_aI h 0 x3 v3).bind fun x4 =>
    (hp_aI h 0 x2 x4).bind fun x5 =>
    if x5 = 0 then
      (hp_fI h 9 v0 15).bind fun x6 =>
      (hp_pF h 9 v0 15 (.int (x6 + (1 : Int32)))).bind fun h7 =>
      (hp_fR h7 9 v0 13).bind fun x8 =>
      (hp_fR h7 9 v0 4).bind fun x9 =>
      (hp_aI h7 0 x9 v3).bind fun x10 =>
      (hp_fI h7 9 v0 15).bind fun x11 =>
      (hp_sI h7 0 x8 x10 x11).bind fun h12 =>
      (hp_fR h12 9 v0 0).bind fun x13 =>
      (hp_fR h12 0 x13 0).bind fun x14 =>
      (hp_fR h12 9 v0 4).bind fun x15 =>
      (hp_aI h12 0 x15 v3).bind fun x16 =>
      (f_X8_putName n v1 x14 ((300 : Int32) + x16) h12).bind fun x17 =>
      (f_X8_put n v1 (32 : Int32) x17).bind fun x18 =>
      f_X9_numberLabels_169 n v0 v1 v3 x18
    else
      f_X9_numberLabels_169 n v0 v1 v3 h
set_option maxHeartbeats 1000000 in
set_option maxRecDepth 4000 in
theorem q_X9_numberLabels_95 (G : hp_G) (n : Nat) (v0 : Nat) (v1 : Nat) (v3 : Int32) (h : hp_H) (sz sl : Nat) (o : hp_O) (ho : sz ≤ o.2.2.1 ∧ sl ≤ o.2.2.2) (res : (Int32 × hp_H) ⊕ (hp_H)) (hm : f_X9_numberLabels_95 n v0 v1 v3 h = some res) (kI : ∀ y : Int32 × hp_H, res = .inl y → hp_V G m_X9_numberLabels 95 [(0, .ref v0), (1, .ref v1), (3, .int y.1)] [] y.2 sz sl o) (kX0 : ∀ y : hp_H, res = .inr y → hp_V G m_X9_numberLabels 175 [(1, .ref v1)] [] y sz sl o) : hp_V G m_X9_numberLabels 95 [(0, .ref v0), (1, .ref v1), (3, .int v3)] [] h sz sl o := by
  unfold f_X9_numberLabels_95 at hm
  refine hv_iload_n 2 dX9_numberLabels_95 rfl rfl ?_
  refine hv_aload_n 0 dX9_numberLabels_96 rfl rfl ?_
  obtain ⟨x1, hx1, hm⟩ := hp_bd hm
  refine hv_get lk_f_X9_59 dX9_numberLabels_97 (hp_fI_spec hx1) ?_
  refine hv_icmp_ge (tgt := 175) dX9_numberLabels_100 (by decide) (fun c20 => ?_) (fun c20 => ?_)
  · rw [if_pos c20] at hm
    exact hv_sub [1] rfl (kX0 h (Option.some.inj hm).symm)
  · rw [if_neg c20] at hm
    refine hv_aload_n 0 dX9_numberLabels_103 rfl rfl ?_
    obtain ⟨x2, hx2, hm⟩ := hp_bd hm
    refine hv_get lk_f_X9_42 dX9_numberLabels_104 (hp_fR_spec hx2) ?_
    refine hv_aload_n 0 dX9_numberLabels_107 rfl rfl ?_
    obtain ⟨x3, hx3, hm⟩ := hp_bd hm
    refine hv_get lk_f_X9_9 dX9_numberLabels_108 (hp_fR_spec hx3) ?_
    refine hv_iload_n 2 dX9_numberLabels_111 rfl rfl ?_
    obtain ⟨x4, hx4, hm⟩ := hp_bd hm
    refine hv_iald dX9_numberLabels_112 hx4 ?_
    obtain ⟨x5, hx5, hm⟩ := hp_bd hm
    refine hv_iald dX9_numberLabels_113 hx5 ?_
    refine hv_if_ne (tgt := 169) dX9_numberLabels_114 (by decide) (fun c19 => ?_) (fun c19 => ?_)
    · rw [if_neg c19] at hm
      exact hv_sub [0, 1, 2] rfl (q_X9_numberLabels_169 G n v0 v1 v3 h sz sl o ho _ hm kI kX0)
    · rw [if_pos c19] at hm
      refine hv_aload_n 0 dX9_numberLabels_117 rfl rfl ?_
      refine hv_dup dX9_numberLabels_118 rfl ?_
      obtain ⟨x6, hx6, hm⟩ := hp_bd hm
      refine hv_get lk_f_X9_154 dX9_numberLabels_119 (hp_fI_spec hx6) ?_
      refine hv_iconst (1 : Int32) dX9_numberLabels_122 (by decide) ?_
      refine hv_iadd dX9_numberLabels_123 ?_
      obtain ⟨h7, hh7, hm⟩ := hp_bd hm
      refine hv_put lk_f_X9_154 dX9_numberLabels_124 rfl rfl hh7 ?_
      refine hv_aload_n 0 dX9_numberLabels_127 rfl rfl ?_
      obtain ⟨x8, hx8, hm⟩ := hp_bd hm
      refine hv_get lk_f_X9_42 dX9_numberLabels_128 (hp_fR_spec hx8) ?_
      refine hv_aload_n 0 dX9_numberLabels_131 rfl rfl ?_
      obtain ⟨x9, hx9, hm⟩ := hp_bd hm
      refine hv_get lk_f_X9_9 dX9_numberLabels_132 (hp_fR_spec hx9) ?_
      refine hv_iload_n 2 dX9_numberLabels_135 rfl rfl ?_
      obtain ⟨x10, hx10, hm⟩ := hp_bd hm
      refine hv_iald dX9_numberLabels_136 hx10 ?_
      refine hv_aload_n 0 dX9_numberLabels_137 rfl rfl ?_
      obtain ⟨x11, hx11, hm⟩ := hp_bd hm
      refine hv_get lk_f_X9_154 dX9_numberLabels_138 (hp_fI_spec hx11) ?_
      obtain ⟨h12, hh12, hm⟩ := hp_bd hm
      refine hv_iast dX9_numberLabels_141 hh12 ?_
      refine hv_aload_n 1 dX9_numberLabels_142 rfl rfl ?_
      refine hv_aload_n 0 dX9_numberLabels_143 rfl rfl ?_
      obtain ⟨x13, hx13, hm⟩ := hp_bd hm
      refine hv_get lk_f_X9_51 dX9_numberLabels_144 (hp_fR_spec hx13) ?_
      obtain ⟨x14, hx14, hm⟩ := hp_bd hm
      refine hv_get lk_f_X9_136 dX9_numberLabels_147 (hp_fR_spec hx14) ?_
      refine hv_sipush (300 : Int32) dX9_numberLabels_150 (by decide) ?_
      refine hv_aload_n 0 dX9_numberLabels_153 rfl rfl ?_
      obtain ⟨x15, hx15, hm⟩ := hp_bd hm
      refine hv_get lk_f_X9_9 dX9_numberLabels_154 (hp_fR_spec hx15) ?_
      refine hv_iload_n 2 dX9_numberLabels_157 rfl rfl ?_
      obtain ⟨x16, hx16, hm⟩ := hp_bd hm
      refine hv_iald dX9_numberLabels_158 hx16 ?_
      refine hv_iadd dX9_numberLabels_159 ?_
      obtain ⟨x17, hx17, hm⟩ := hp_bd hm
      obtain ⟨Vx17, hVx17⟩ := k_X8_putName hx17
      refine hv_callV (As := [.ref x14, .int ((300 : Int32) + x16)]) (rest := []) Z_X8_putName I_X8_putName lk_m_X9_139 rfl hVx17 (c_X8_putName G n v1 x14 ((300 : Int32) + x16) h12 sz sl _ hx17) rfl (Nat.le_of_ble_eq_true rfl) ⟨Nat.le_of_ble_eq_true rfl, Nat.le_of_ble_eq_true rfl⟩ ho.1 ho.2 rfl dX9_numberLabels_160 ?_
      refine hv_as [] x17 rfl rfl ?_
      refine hv_aload_n 1 dX9_numberLabels_163 rfl rfl ?_
      refine hv_bipush (32 : Int32) dX9_numberLabels_164 (by decide) ?_
      obtain ⟨x18, hx18, hm⟩ := hp_bd hm
      obtain ⟨Vx18, hVx18⟩ := k_X8_put hx18
      refine hv_callV (As := [.int (32 : Int32)]) (rest := []) Z_X8_put I_X8_put lk_m_X9_131 rfl hVx18 (c_X8_put G n v1 (32 : Int32) x17 sz sl _ hx18) rfl (Nat.le_of_ble_eq_true rfl) ⟨Nat.le_of_ble_eq_true rfl, Nat.le_of_ble_eq_true rfl⟩ ho.1 ho.2 rfl dX9_numberLabels_166 ?_
      refine hv_as [] x18 rfl rfl ?_
      exact hv_sub [0, 1, 2] rfl (q_X9_numberLabels_169 G n v0 v1 v3 x18 sz sl o ho _ hm kI kX0)
def fL_X9_numberLabels_95 (n : Nat) (v0 : Nat) (v1 : Nat) (s : Int32 × hp_H) : Option ((Int32 × hp_H) ⊕ (hp_H)) := f_X9_numberLabels_95 n v0 v1 s.1 s.2
theorem l_X9_numberLabels_95 (G : hp_G) (n : Nat) (v0 : Nat) (v1 : Nat) (sz sl : Nat) (o : hp_O) (ho : sz ≤ o.2.2.1 ∧ sl ≤ o.2.2.2) : ∀ (k : Nat) (s : Int32 × hp_H) (x : hp_H), hp_lp (fL_X9_numberLabels_95 n v0 v1) k s = some x → (∀ y : hp_H, x = y → hp_V G m_X9_numberLabels 175 [(1, .ref v1)] [] y sz sl o) → hp_V G m_X9_numberLabels 95 [(0, .ref v0), (1, .ref v1), (3, .int s.1)] [] s.2 sz sl o := by
  intro k
  induction k with
  | zero => intro s x hx; exact (hp_lp_0 hx).elim
  | succ k ih =>
    intro s x hx k0
    obtain ⟨r, hr, hc⟩ := hp_lp_1 hx
    refine q_X9_numberLabels_95 G n v0 v1 s.1 s.2 sz sl o ho r hr (fun s2 e => ?_) (fun y e => ?_)
    · rcases hc with ⟨s3, e3, hx3⟩ | e3
      · have e4 := Sum.inl.inj (e.symm.trans e3)
        subst e4
        exact ih _ _ hx3 k0
      · cases (e.symm.trans e3)
    · rcases hc with ⟨s3, e3, hx3⟩ | e3
      · cases (e.symm.trans e3)
      · exact k0 y (Sum.inr.inj (e3.symm.trans e))
def f_X9_numberLabels_0 (n : Nat) (v0 : Nat) (v1 : Nat) (h : hp_H) : Option (hp_H) :=
  (hp_fR h 9 v0 13).bind fun x1 =>
  (f_J7_fill_53178 n x1 (0 : Int32) h).bind fun x2 =>
  (hp_pF x2 9 v0 15 (.int (0 : Int32))).bind fun h3 =>
  (hp_fR h3 9 v0 0).bind fun x4 =>
  (hp_fR h3 0 x4 12).bind fun x5 =>
  (hp_fR h3 9 v0 1).bind fun x6 =>
  (hp_fI h3 3 x6 0).bind fun x7 =>
  (f_X5_size n x5 x7 h3).bind fun x8 =>
  (hp_lp (fL_X9_numberLabels_33 n v0 v1 x8) n ((0 : Int32), h3)).bind fun x9 =>
  (f_X8_put n v1 (40 : Int32) x9).bind fun x11 =>
  (f_X8_put n v1 (32 : Int32) x11).bind fun x12 =>
  (hp_lp (fL_X9_numberLabels_95 n v0 v1) n ((0 : Int32), x12)).bind fun x13 =>
  (f_X8_put n v1 (41 : Int32) x13).bind fun x15 =>
  (f_X8_put n v1 (32 : Int32) x15).bind fun x16 =>
  some x16
set_option maxHeartbeats 1000000 in
set_option maxRecDepth 4000 in
theorem q_X9_numberLabels_0 (G : hp_G) (n : Nat) (v0 : Nat) (v1 : Nat) (h : hp_H) (sz sl : Nat) (res : hp_H) (hm : f_X9_numberLabels_0 n v0 v1 h = some res) : hp_V G m_X9_numberLabels 0 [(0, .ref v0), (1, .ref v1)] [] h sz sl (none, res, sz, sl) := by
  have ho : sz ≤ sz ∧ sl ≤ sl := ⟨Nat.le_refl _, Nat.le_refl _⟩
  unfold f_X9_numberLabels_0 at hm
  refine hv_aload_n 0 dX9_numberLabels_0 rfl rfl ?_
  obtain ⟨x1, hx1, hm⟩ := hp_bd hm
  refine hv_get lk_f_X9_42 dX9_numberLabels_1 (hp_fR_spec hx1) ?_
  refine hv_iconst (0 : Int32) dX9_numberLabels_4 (by decide) ?_
  obtain ⟨x2, hx2, hm⟩ := hp_bd hm
  refine hv_callS (As := [.ref x1, .int (0 : Int32)]) (rest := []) Z_J7_fill_53178 I_J7_fill_53178 lk_m_X9_66 (c_J7_fill_53178 G n x1 (0 : Int32) h sz sl _ hx2) rfl (Nat.le_of_ble_eq_true rfl) ⟨Nat.le_of_ble_eq_true rfl, Nat.le_of_ble_eq_true rfl⟩ ho.1 ho.2 rfl dX9_numberLabels_5 ?_
  refine hv_as [] x2 rfl rfl ?_
  refine hv_aload_n 0 dX9_numberLabels_8 rfl rfl ?_
  refine hv_iconst (0 : Int32) dX9_numberLabels_9 (by decide) ?_
  obtain ⟨h3, hh3, hm⟩ := hp_bd hm
  refine hv_put lk_f_X9_154 dX9_numberLabels_10 rfl rfl hh3 ?_
  refine hv_aload_n 0 dX9_numberLabels_13 rfl rfl ?_
  obtain ⟨x4, hx4, hm⟩ := hp_bd hm
  refine hv_get lk_f_X9_51 dX9_numberLabels_14 (hp_fR_spec hx4) ?_
  obtain ⟨x5, hx5, hm⟩ := hp_bd hm
  refine hv_get lk_f_X9_80 dX9_numberLabels_17 (hp_fR_spec hx5) ?_
  refine hv_aload_n 0 dX9_numberLabels_20 rfl rfl ?_
  obtain ⟨x6, hx6, hm⟩ := hp_bd hm
  refine hv_get lk_f_X9_55 dX9_numberLabels_21 (hp_fR_spec hx6) ?_
  obtain ⟨x7, hx7, hm⟩ := hp_bd hm
  refine hv_get lk_f_X9_157 dX9_numberLabels_24 (hp_fI_spec hx7) ?_
  obtain ⟨x8, hx8, hm⟩ := hp_bd hm
  obtain ⟨Vx8, hVx8⟩ := k_X5_size hx8
  refine hv_callV (As := [.int x7]) (rest := []) Z_X5_size I_X5_size lk_m_X9_85 rfl hVx8 (c_X5_size G n x5 x7 h3 sz sl _ hx8) rfl (Nat.le_of_ble_eq_true rfl) ⟨Nat.le_of_ble_eq_true rfl, Nat.le_of_ble_eq_true rfl⟩ ho.1 ho.2 rfl dX9_numberLabels_27 ?_
  refine hv_as [.int x8] h3 rfl rfl ?_
  refine hv_istore_n [(2, .int x8), (0, .ref v0), (1, .ref v1)] dX9_numberLabels_30 rfl (by decide) rfl ?_
  refine hv_iconst (0 : Int32) dX9_numberLabels_31 (by decide) ?_
  refine hv_istore_n [(3, .int (0 : Int32)), (2, .int x8), (0, .ref v0), (1, .ref v1)] dX9_numberLabels_32 rfl (by decide) rfl ?_
  obtain ⟨x9, hx9, hm⟩ := hp_bd hm
  refine hv_sub [2, 3, 1, 0] rfl (l_X9_numberLabels_33 G n v0 v1 x8 sz sl _ ho n _ _ hx9 (fun y10 ey10 => ?_))
  · subst ey10
    refine hv_aload_n 1 dX9_numberLabels_81 rfl rfl ?_
    refine hv_bipush (40 : Int32) dX9_numberLabels_82 (by decide) ?_
    obtain ⟨x11, hx11, hm⟩ := hp_bd hm
    obtain ⟨Vx11, hVx11⟩ := k_X8_put hx11
    refine hv_callV (As := [.int (40 : Int32)]) (rest := []) Z_X8_put I_X8_put lk_m_X9_131 rfl hVx11 (c_X8_put G n v1 (40 : Int32) x9 sz sl _ hx11) rfl (Nat.le_of_ble_eq_true rfl) ⟨Nat.le_of_ble_eq_true rfl, Nat.le_of_ble_eq_true rfl⟩ ho.1 ho.2 rfl dX9_numberLabels_84 ?_
    refine hv_as [] x11 rfl rfl ?_
    refine hv_aload_n 1 dX9_numberLabels_87 rfl rfl ?_
    refine hv_bipush (32 : Int32) dX9_numberLabels_88 (by decide) ?_
    obtain ⟨x12, hx12, hm⟩ := hp_bd hm
    obtain ⟨Vx12, hVx12⟩ := k_X8_put hx12
    refine hv_callV (As := [.int (32 : Int32)]) (rest := []) Z_X8_put I_X8_put lk_m_X9_131 rfl hVx12 (c_X8_put G n v1 (32 : Int32) x11 sz sl _ hx12) rfl (Nat.le_of_ble_eq_true rfl) ⟨Nat.le_of_ble_eq_true rfl, Nat.le_of_ble_eq_true rfl⟩ ho.1 ho.2 rfl dX9_numberLabels_90 ?_
    refine hv_as [] x12 rfl rfl ?_
    refine hv_iconst (0 : Int32) dX9_numberLabels_93 (by decide) ?_
    refine hv_istore_n [(3, .int (0 : Int32)), (0, .ref v0), (1, .ref v1)] dX9_numberLabels_94 rfl (by decide) rfl ?_
    obtain ⟨x13, hx13, hm⟩ := hp_bd hm
    refine hv_sub [1, 2, 0] rfl (l_X9_numberLabels_95 G n v0 v1 sz sl _ ho n _ _ hx13 (fun y14 ey14 => ?_))
    · subst ey14
      refine hv_aload_n 0 dX9_numberLabels_175 rfl rfl ?_
      refine hv_bipush (41 : Int32) dX9_numberLabels_176 (by decide) ?_
      obtain ⟨x15, hx15, hm⟩ := hp_bd hm
      obtain ⟨Vx15, hVx15⟩ := k_X8_put hx15
      refine hv_callV (As := [.int (41 : Int32)]) (rest := []) Z_X8_put I_X8_put lk_m_X9_131 rfl hVx15 (c_X8_put G n v1 (41 : Int32) x13 sz sl _ hx15) rfl (Nat.le_of_ble_eq_true rfl) ⟨Nat.le_of_ble_eq_true rfl, Nat.le_of_ble_eq_true rfl⟩ ho.1 ho.2 rfl dX9_numberLabels_178 ?_
      refine hv_as [] x15 rfl rfl ?_
      refine hv_aload_n 0 dX9_numberLabels_181 rfl rfl ?_
      refine hv_bipush (32 : Int32) dX9_numberLabels_182 (by decide) ?_
      obtain ⟨x16, hx16, hm⟩ := hp_bd hm
      obtain ⟨Vx16, hVx16⟩ := k_X8_put hx16
      refine hv_callV (As := [.int (32 : Int32)]) (rest := []) Z_X8_put I_X8_put lk_m_X9_131 rfl hVx16 (c_X8_put G n v1 (32 : Int32) x15 sz sl _ hx16) rfl (Nat.le_of_ble_eq_true rfl) ⟨Nat.le_of_ble_eq_true rfl, Nat.le_of_ble_eq_true rfl⟩ ho.1 ho.2 rfl dX9_numberLabels_184 ?_
      refine hv_as [] x16 rfl rfl ?_
      obtain rfl := Option.some.inj hm
      exact hv_vret rfl dX9_numberLabels_187
def f_X9_numberLabels (n : Nat) (v0 : Nat) (v1 : Nat) (h : hp_H) : Option (hp_H) := (hp_ck h 9 v0).bind fun _ => f_X9_numberLabels_0 n v0 v1 h
theorem c_X9_numberLabels (G : hp_G) (n : Nat) (v0 : Nat) (v1 : Nat) (h : hp_H) (sz sl : Nat) (res : hp_H) (hm : f_X9_numberLabels n v0 v1 h = some res) : hp_C G m_X9_numberLabels yX9_numberLabels [.ref v0, .ref v1] h sz sl (none, res, sz, sl) := by
  unfold f_X9_numberLabels at hm
  obtain ⟨_, _, hm⟩ := hp_bd hm
  exact hp_C_of (by decide) rfl rfl (Nat.le_of_ble_eq_true rfl) (Nat.le_refl _) (Nat.le_refl _) (hv_sub [0, 1] rfl (q_X9_numberLabels_0 G n v0 v1 h sz sl res hm))
theorem k_X9_numberLabels {n : Nat} {v0 : Nat} {v1 : Nat} {h : hp_H} {res : hp_H} (hm : f_X9_numberLabels n v0 v1 h = some res) : ∃ V, h v0 = some (.inr (.inr (9, V))) := by
  unfold f_X9_numberLabels at hm
  obtain ⟨_, hu, _⟩ := hp_bd hm
  exact hp_ck_spec hu
abbrev m_X9_putNumber : hp_M := (RX9, cX9_putNumber, 6, none, 1, 21, "putNumber")
theorem Z_X9_putNumber : hp_Y yX9_putNumber m_X9_putNumber 2 := Y_X9_putNumber
def f_X9_putNumber_10 (n : Nat) (v0 : Nat) (v1 : Nat) (v2 : Int32) (v3 : Int32) (v4 : Int32) (h : hp_H) : Option ((Int32 × Int32 × hp_H) ⊕ (Int32 × hp_H)) :=
  if v4 ≤ 0 then
    some (.inr (v3, h))
  else
    (hp_fR h 9 v0 16).bind fun x1 =>
    (hp_len h x1).bind fun x2 =>
    if x2 ≤ v3 then
      some (.inr (v3, h))
    else
      (hp_fR h 9 v0 16).bind fun x3 =>
      (hp_sI h 0 x3 v3 ((85 : Int32) + ((v4 - (1 : Int32)) - (v4 - (1 : Int32)) / (5 : Int32) * (5 : Int32)))).bind fun h4 =>
      some (.inl ((v3 + (1 : Int32)), ((v4 - (1 : Int32)) / (5 : Int32)), h4))
set_option maxHeartbeats 1000000 in
set_option maxRecDepth 4000 in
theorem q_X9_putNumber_10 (G : hp_G) (n : Nat) (v0 : Nat) (v1 : Nat) (v2 : Int32) (v3 : Int32) (v4 : Int32) (h : hp_H) (sz sl : Nat) (o : hp_O) (ho : sz ≤ o.2.2.1 ∧ sl ≤ o.2.2.2) (res : (Int32 × Int32 × hp_H) ⊕ (Int32 × hp_H)) (hm : f_X9_putNumber_10 n v0 v1 v2 v3 v4 h = some res) (kI : ∀ y : Int32 × Int32 × hp_H, res = .inl y → hp_V G m_X9_putNumber 10 [(0, .ref v0), (1, .ref v1), (2, .int v2), (3, .int y.1), (4, .int y.2.1)] [] y.2.2 sz sl o) (kX0 : ∀ y : Int32 × hp_H, res = .inr y → hp_V G m_X9_putNumber 53 [(0, .ref v0), (1, .ref v1), (2, .int v2), (3, .int y.1)] [] y.2 sz sl o) : hp_V G m_X9_putNumber 10 [(0, .ref v0), (1, .ref v1), (2, .int v2), (3, .int v3), (4, .int v4)] [] h sz sl o := by
  unfold f_X9_putNumber_10 at hm
  refine hv_iload 4 dX9_putNumber_10 rfl ?_
  refine hv_if_le (tgt := 53) dX9_putNumber_12 (by decide) (fun c6 => ?_) (fun c6 => ?_)
  · rw [if_pos c6] at hm
    exact hv_sub [0, 1, 2, 3] rfl (kX0 (v3, h) (Option.some.inj hm).symm)
  · rw [if_neg c6] at hm
    refine hv_iload_n 3 dX9_putNumber_15 rfl rfl ?_
    refine hv_aload_n 0 dX9_putNumber_16 rfl rfl ?_
    obtain ⟨x1, hx1, hm⟩ := hp_bd hm
    refine hv_get lk_f_X9_48 dX9_putNumber_17 (hp_fR_spec hx1) ?_
    obtain ⟨x2, hx2, hm⟩ := hp_bd hm
    refine hv_alen dX9_putNumber_20 hx2 ?_
    refine hv_icmp_ge (tgt := 53) dX9_putNumber_21 (by decide) (fun c5 => ?_) (fun c5 => ?_)
    · rw [if_pos c5] at hm
      exact hv_sub [0, 1, 2, 3] rfl (kX0 (v3, h) (Option.some.inj hm).symm)
    · rw [if_neg c5] at hm
      refine hv_aload_n 0 dX9_putNumber_24 rfl rfl ?_
      obtain ⟨x3, hx3, hm⟩ := hp_bd hm
      refine hv_get lk_f_X9_48 dX9_putNumber_25 (hp_fR_spec hx3) ?_
      refine hv_iload_n 3 dX9_putNumber_28 rfl rfl ?_
      refine hv_bipush (85 : Int32) dX9_putNumber_29 (by decide) ?_
      refine hv_iload 4 dX9_putNumber_31 rfl ?_
      refine hv_iconst (1 : Int32) dX9_putNumber_33 (by decide) ?_
      refine hv_isub dX9_putNumber_34 ?_
      refine hv_iconst (5 : Int32) dX9_putNumber_35 (by decide) ?_
      refine hv_irem dX9_putNumber_36 (by decide) ?_
      refine hv_iadd dX9_putNumber_37 ?_
      obtain ⟨h4, hh4, hm⟩ := hp_bd hm
      refine hv_iast dX9_putNumber_38 hh4 ?_
      refine hv_iinc (v3 + (1 : Int32)) 3 [(3, .int (v3 + (1 : Int32))), (0, .ref v0), (1, .ref v1), (2, .int v2), (4, .int v4)] dX9_putNumber_39 rfl rfl (by decide) rfl ?_
      refine hv_iload 4 dX9_putNumber_42 rfl ?_
      refine hv_iconst (1 : Int32) dX9_putNumber_44 (by decide) ?_
      refine hv_isub dX9_putNumber_45 ?_
      refine hv_iconst (5 : Int32) dX9_putNumber_46 (by decide) ?_
      refine hv_idiv dX9_putNumber_47 (by decide) ?_
      refine hv_istore [(4, .int ((v4 - (1 : Int32)) / (5 : Int32))), (3, .int (v3 + (1 : Int32))), (0, .ref v0), (1, .ref v1), (2, .int v2)] dX9_putNumber_48 (by decide) rfl ?_
      refine hv_goto (tgt := 10) dX9_putNumber_50 (by decide) ?_
      exact hv_sub [2, 3, 4, 1, 0] rfl (kI ((v3 + (1 : Int32)), ((v4 - (1 : Int32)) / (5 : Int32)), h4) (Option.some.inj hm).symm)
def fL_X9_putNumber_10 (n : Nat) (v0 : Nat) (v1 : Nat) (v2 : Int32) (s : Int32 × Int32 × hp_H) : Option ((Int32 × Int32 × hp_H) ⊕ (Int32 × hp_H)) := f_X9_putNumber_10 n v0 v1 v2 s.1 s.2.1 s.2.2
theorem l_X9_putNumber_10 (G : hp_G) (n : Nat) (v0 : Nat) (v1 : Nat) (v2 : Int32) (sz sl : Nat) (o : hp_O) (ho : sz ≤ o.2.2.1 ∧ sl ≤ o.2.2.2) : ∀ (k : Nat) (s : Int32 × Int32 × hp_H) (x : Int32 × hp_H), hp_lp (fL_X9_putNumber_10 n v0 v1 v2) k s = some x → (∀ y : Int32 × hp_H, x = y → hp_V G m_X9_putNumber 53 [(0, .ref v0), (1, .ref v1), (2, .int v2), (3, .int y.1)] [] y.2 sz sl o) → hp_V G m_X9_putNumber 10 [(0, .ref v0), (1, .ref v1), (2, .int v2), (3, .int s.1), (4, .int s.2.1)] [] s.2.2 sz sl o := by
  intro k
  induction k with
  | zero => intro s x hx; exact (hp_lp_0 hx).elim
  | succ k ih =>
    intro s x hx k0
    obtain ⟨r, hr, hc⟩ := hp_lp_1 hx
    refine q_X9_putNumber_10 G n v0 v1 v2 s.1 s.2.1 s.2.2 sz sl o ho r hr (fun s2 e => ?_) (fun y e => ?_)
    · rcases hc with ⟨s3, e3, hx3⟩ | e3
      · have e4 := Sum.inl.inj (e.symm.trans e3)
        subst e4
        exact ih _ _ hx3 k0
      · cases (e.symm.trans e3)
    · rcases hc with ⟨s3, e3, hx3⟩ | e3
      · cases (e.symm.trans e3)
      · exact k0 y (Sum.inr.inj (e3.symm.trans e))
def f_X9_putNumber_58 (n : Nat) (v0 : Nat) (v1 : Nat) (v2 : Int32) (v5 : Int32) (h : hp_H) : Option ((Int32 × hp_H) ⊕ (hp_H)) :=
  if v5 < 0 then
    some (.inr h)
  else
    (hp_fR h 9 v0 16).bind fun x1 =>
    (hp_aI h 0 x1 v5).bind fun x2 =>
    (f_X8_put n v1 x2 h).bind fun x3 =>
    some (.inl ((v5 + (-1 : Int32)), x3))
set_option maxHeartbeats 1000000 in
set_option maxRecDepth 4000 in
theorem q_X9_putNumber_58 (G : hp_G) (n : Nat) (v0 : Nat) (v1 : Nat) (v2 : Int32) (v5 : Int32) (h : hp_H) (sz sl : Nat) (o : hp_O) (ho : sz ≤ o.2.2.1 ∧ sl ≤ o.2.2.2) (res : (Int32 × hp_H) ⊕ (hp_H)) (hm : f_X9_putNumber_58 n v0 v1 v2 v5 h = some res) (kI : ∀ y : Int32 × hp_H, res = .inl y → hp_V G m_X9_putNumber 58 [(0, .ref v0), (1, .ref v1), (2, .int v2), (5, .int y.1)] [] y.2 sz sl o) (kX0 : ∀ y : hp_H, res = .inr y → hp_V G m_X9_putNumber 80 [(1, .ref v1), (2, .int v2)] [] y sz sl o) : hp_V G m_X9_putNumber 58 [(0, .ref v0), (1, .ref v1), (2, .int v2), (5, .int v5)] [] h sz sl o := by
  unfold f_X9_putNumber_58 at hm
  refine hv_iload 3 dX9_putNumber_58 rfl ?_
  refine hv_if_lt (tgt := 80) dX9_putNumber_60 (by decide) (fun c4 => ?_) (fun c4 => ?_)
  · rw [if_pos c4] at hm
    exact hv_sub [1, 2] rfl (kX0 h (Option.some.inj hm).symm)
  · rw [if_neg c4] at hm
    refine hv_aload_n 1 dX9_putNumber_63 rfl rfl ?_
    refine hv_aload_n 0 dX9_putNumber_64 rfl rfl ?_
    obtain ⟨x1, hx1, hm⟩ := hp_bd hm
    refine hv_get lk_f_X9_48 dX9_putNumber_65 (hp_fR_spec hx1) ?_
    refine hv_iload 3 dX9_putNumber_68 rfl ?_
    obtain ⟨x2, hx2, hm⟩ := hp_bd hm
    refine hv_iald dX9_putNumber_70 hx2 ?_
    obtain ⟨x3, hx3, hm⟩ := hp_bd hm
    obtain ⟨Vx3, hVx3⟩ := k_X8_put hx3
    refine hv_callV (As := [.int x2]) (rest := []) Z_X8_put I_X8_put lk_m_X9_131 rfl hVx3 (c_X8_put G n v1 x2 h sz sl _ hx3) rfl (Nat.le_of_ble_eq_true rfl) ⟨Nat.le_of_ble_eq_true rfl, Nat.le_of_ble_eq_true rfl⟩ ho.1 ho.2 rfl dX9_putNumber_71 ?_
    refine hv_as [] x3 rfl rfl ?_
    refine hv_iinc (v5 + (-1 : Int32)) 3 [(5, .int (v5 + (-1 : Int32))), (0, .ref v0), (1, .ref v1), (2, .int v2)] dX9_putNumber_74 rfl rfl (by decide) rfl ?_
    refine hv_goto (tgt := 58) dX9_putNumber_77 (by decide) ?_
    exact hv_sub [1, 2, 3, 0] rfl (kI ((v5 + (-1 : Int32)), x3) (Option.some.inj hm).symm)
def fL_X9_putNumber_58 (n : Nat) (v0 : Nat) (v1 : Nat) (v2 : Int32) (s : Int32 × hp_H) : Option ((Int32 × hp_H) ⊕ (hp_H)) := f_X9_putNumber_58 n v0 v1 v2 s.1 s.2
theorem l_X9_putNumber_58 (G : hp_G) (n : Nat) (v0 : Nat) (v1 : Nat) (v2 : Int32) (sz sl : Nat) (o : hp_O) (ho : sz ≤ o.2.2.1 ∧ sl ≤ o.2.2.2) : ∀ (k : Nat) (s : Int32 × hp_H) (x : hp_H), hp_lp (fL_X9_putNumber_58 n v0 v1 v2) k s = some x → (∀ y : hp_H, x = y → hp_V G m_X9_putNumber 80 [(1, .ref v1), (2, .int v2)] [] y sz sl o) → hp_V G m_X9_putNumber 58 [(0, .ref v0), (1, .ref v1), (2, .int v2), (5, .int s.1)] [] s.2 sz sl o := by
  intro k
  induction k with
  | zero => intro s x hx; exact (hp_lp_0 hx).elim
  | succ k ih =>
    intro s x hx k0
    obtain ⟨r, hr, hc⟩ := hp_lp_1 hx
    refine q_X9_putNumber_58 G n v0 v1 v2 s.1 s.2 sz sl o ho r hr (fun s2 e => ?_) (fun y e => ?_)
    · rcases hc with ⟨s3, e3, hx3⟩ | e3
      · have e4 := Sum.inl.inj (e.symm.trans e3)
        subst e4
        exact ih _ _ hx3 k0
      · cases (e.symm.trans e3)
    · rcases hc with ⟨s3, e3, hx3⟩ | e3
      · cases (e.symm.trans e3)
      · exact k0 y (Sum.inr.inj (e3.symm.trans e))
def f_X9_putNumber_53 (n : Nat) (v0 : Nat) (v1 : Nat) (v2 : Int32) (v3 : Int32) (h : hp_H) : Option (hp_H) :=
  (hp_lp (fL_X9_putNumber_58 n v0 v1 v2) n ((v3 - (1 : Int32)), h)).bind fun x1 =>
  (f_X8_put n v1 ((65 : Int32) + ((v2 - (1 : Int32)) - (v2 - (1 : Int32)) / (20 : Int32) * (20 : Int32))) x1).bind fun x3 =>
  some x3
set_option maxHeartbeats 1000000 in
set_option maxRecDepth 4000 in
theorem q_X9_putNumber_53 (G : hp_G) (n : Nat) (v0 : Nat) (v1 : Nat) (v2 : Int32) (v3 : Int32) (h : hp_H) (sz sl : Nat) (res : hp_H) (hm : f_X9_putNumber_53 n v0 v1 v2 v3 h = some res) : hp_V G m_X9_putNumber 53 [(0, .ref v0), (1, .ref v1), (2, .int v2), (3, .int v3)] [] h sz sl (none, res, sz, sl) := by
  have ho : sz ≤ sz ∧ sl ≤ sl := ⟨Nat.le_refl _, Nat.le_refl _⟩
  unfold f_X9_putNumber_53 at hm
  refine hv_iload_n 3 dX9_putNumber_53 rfl rfl ?_
  refine hv_iconst (1 : Int32) dX9_putNumber_54 (by decide) ?_
  refine hv_isub dX9_putNumber_55 ?_
  refine hv_istore [(5, .int (v3 - (1 : Int32))), (0, .ref v0), (1, .ref v1), (2, .int v2), (3, .int v3)] dX9_putNumber_56 (by decide) rfl ?_
  obtain ⟨x1, hx1, hm⟩ := hp_bd hm
  refine hv_sub [1, 2, 3, 0] rfl (l_X9_putNumber_58 G n v0 v1 v2 sz sl _ ho n _ _ hx1 (fun y2 ey2 => ?_))
  · subst ey2
    refine hv_aload_n 0 dX9_putNumber_80 rfl rfl ?_
    refine hv_bipush (65 : Int32) dX9_putNumber_81 (by decide) ?_
    refine hv_iload_n 1 dX9_putNumber_83 rfl rfl ?_
    refine hv_iconst (1 : Int32) dX9_putNumber_84 (by decide) ?_
    refine hv_isub dX9_putNumber_85 ?_
    refine hv_bipush (20 : Int32) dX9_putNumber_86 (by decide) ?_
    refine hv_irem dX9_putNumber_88 (by decide) ?_
    refine hv_iadd dX9_putNumber_89 ?_
    obtain ⟨x3, hx3, hm⟩ := hp_bd hm
    obtain ⟨Vx3, hVx3⟩ := k_X8_put hx3
    refine hv_callV (As := [.int ((65 : Int32) + ((v2 - (1 : Int32)) - (v2 - (1 : Int32)) / (20 : Int32) * (20 : Int32)))]) (rest := []) Z_X8_put I_X8_put lk_m_X9_131 rfl hVx3 (c_X8_put G n v1 ((65 : Int32) + ((v2 - (1 : Int32)) - (v2 - (1 : Int32)) / (20 : Int32) * (20 : Int32))) x1 sz sl _ hx3) rfl (Nat.le_of_ble_eq_true rfl) ⟨Nat.le_of_ble_eq_true rfl, Nat.le_of_ble_eq_true rfl⟩ ho.1 ho.2 rfl dX9_putNumber_90 ?_
    refine hv_as [] x3 rfl rfl ?_
    obtain rfl := Option.some.inj hm
    exact hv_vret rfl dX9_putNumber_93
def f_X9_putNumber_0 (n : Nat) (v0 : Nat) (v1 : Nat) (v2 : Int32) (h : hp_H) : Option (hp_H) :=
  (hp_lp (fL_X9_putNumber_10 n v0 v1 v2) n ((0 : Int32), ((v2 - (1 : Int32)) / (20 : Int32)), h)).bind fun x1 =>
  f_X9_putNumber_53 n v0 v1 v2 x1.1 x1.2
set_option maxHeartbeats 1000000 in
set_option maxRecDepth 4000 in
theorem q_X9_putNumber_0 (G : hp_G) (n : Nat) (v0 : Nat) (v1 : Nat) (v2 : Int32) (h : hp_H) (sz sl : Nat) (res : hp_H) (hm : f_X9_putNumber_0 n v0 v1 v2 h = some res) : hp_V G m_X9_putNumber 0 [(0, .ref v0), (1, .ref v1), (2, .int v2)] [] h sz sl (none, res, sz, sl) := by
  have ho : sz ≤ sz ∧ sl ≤ sl := ⟨Nat.le_refl _, Nat.le_refl _⟩
  unfold f_X9_putNumber_0 at hm
  refine hv_iconst (0 : Int32) dX9_putNumber_0 (by decide) ?_
  refine hv_istore_n [(3, .int (0 : Int32)), (0, .ref v0), (1, .ref v1), (2, .int v2)] dX9_putNumber_1 rfl (by decide) rfl ?_
  refine hv_iload_n 3 dX9_putNumber_2 rfl rfl ?_
  refine hv_iconst (1 : Int32) dX9_putNumber_3 (by decide) ?_
  refine hv_isub dX9_putNumber_4 ?_
  refine hv_bipush (20 : Int32) dX9_putNumber_5 (by decide) ?_
  refine hv_idiv dX9_putNumber_7 (by decide) ?_
  refine hv_istore [(4, .int ((v2 - (1 : Int32)) / (20 : Int32))), (3, .int (0 : Int32)), (0, .ref v0), (1, .ref v1), (2, .int v2)] dX9_putNumber_8 (by decide) rfl ?_
  obtain ⟨x1, hx1, hm⟩ := hp_bd hm
  refine hv_sub [2, 3, 4, 1, 0] rfl (l_X9_putNumber_10 G n v0 v1 v2 sz sl _ ho n _ _ hx1 (fun y2 ey2 => ?_))
  · subst ey2
    exact hv_sub [0, 1, 2, 3] rfl (q_X9_putNumber_53 G n v0 v1 v2 x1.1 x1.2 sz sl _ hm)
def f_X9_putNumber (n : Nat) (v0 : Nat) (v1 : Nat) (v2 : Int32) (h : hp_H) : Option (hp_H) := (hp_ck h 9 v0).bind fun _ => f_X9_putNumber_0 n v0 v1 v2 h
theorem c_X9_putNumber (G : hp_G) (n : Nat) (v0 : Nat) (v1 : Nat) (v2 : Int32) (h : hp_H) (sz sl : Nat) (res : hp_H) (hm : f_X9_putNumber n v0 v1 v2 h = some res) : hp_C G m_X9_putNumber yX9_putNumber [.ref v0, .ref v1, .int v2] h sz sl (none, res, sz, sl) := by
  unfold f_X9_putNumber at hm
  obtain ⟨_, _, hm⟩ := hp_bd hm
  exact hp_C_of (by decide) rfl rfl (Nat.le_of_ble_eq_true rfl) (Nat.le_refl _) (Nat.le_refl _) (hv_sub [0, 1, 2] rfl (q_X9_putNumber_0 G n v0 v1 v2 h sz sl res hm))
theorem k_X9_putNumber {n : Nat} {v0 : Nat} {v1 : Nat} {v2 : Int32} {h : hp_H} {res : hp_H} (hm : f_X9_putNumber n v0 v1 v2 h = some res) : ∃ V, h v0 = some (.inr (.inr (9, V))) := by
  unfold f_X9_putNumber at hm
  obtain ⟨_, hu, _⟩ := hp_bd hm
  exact hp_ck_spec hu
abbrev m_X9_leave : hp_M := (RX9, cX9_leave, 3, none, 2, 46, "leave")
theorem Z_X9_leave : hp_Y yX9_leave m_X9_leave 1 := Y_X9_leave
def f_X9_leave_0 (n : Nat) (v0 : Nat) (v1 : Nat) (h : hp_H) : Option (hp_H) :=
  (hp_fR h 9 v0 10).bind fun x1 =>
  (hp_fI h 9 v0 12).bind fun x2 =>
  (hp_aI h 0 x1 (x2 - (1 : Int32))).bind fun x3 =>
  (hp_fI h 9 v0 12).bind fun x4 =>
  (hp_pF h 9 v0 12 (.int (x4 - (1 : Int32)))).bind fun h5 =>
  (hp_fR h5 9 v0 13).bind fun x6 =>
  (hp_fR h5 9 v0 4).bind fun x7 =>
  (hp_aI h5 0 x7 x3).bind fun x8 =>
  (hp_aI h5 0 x6 x8).bind fun x9 =>
  (f_X9_putNumber n v0 v1 x9 h5).bind fun x10 =>
  (hp_fR x10 9 v0 5).bind fun x11 =>
  (f_X5_size n x11 x3 x10).bind fun x12 =>
  if x12 ≤ 0 then
    some x10
  else
    (hp_fR x10 9 v0 6).bind fun x13 =>
    (hp_aI x10 0 x13 x3).bind fun x14 =>
    if x14 ≤ (1 : Int32) then
      some x10
    else
      (f_X8_put n v1 (90 : Int32) x10).bind fun x15 =>
      (hp_fI x15 9 v0 15).bind fun x16 =>
      (hp_pF x15 9 v0 15 (.int (x16 + (1 : Int32)))).bind fun h17 =>
      (hp_fR h17 9 v0 14).bind fun x18 =>
      (hp_fI h17 9 v0 15).bind fun x19 =>
      (hp_sI h17 0 x18 x3 x19).bind fun h20 =>
      some h20
set_option maxHeartbeats 1000000 in
set_option maxRecDepth 4000 in
theorem q_X9_leave_0 (G : hp_G) (n : Nat) (v0 : Nat) (v1 : Nat) (h : hp_H) (sz sl : Nat) (res : hp_H) (hm : f_X9_leave_0 n v0 v1 h = some res) : hp_V G m_X9_leave 0 [(0, .ref v0), (1, .ref v1)] [] h sz sl (none, res, sz, sl) := by
  have ho : sz ≤ sz ∧ sl ≤ sl := ⟨Nat.le_refl _, Nat.le_refl _⟩
  unfold f_X9_leave_0 at hm
  refine hv_aload_n 0 dX9_leave_0 rfl rfl ?_
  obtain ⟨x1, hx1, hm⟩ := hp_bd hm
  refine hv_get lk_f_X9_36 dX9_leave_1 (hp_fR_spec hx1) ?_
  refine hv_aload_n 0 dX9_leave_4 rfl rfl ?_
  obtain ⟨x2, hx2, hm⟩ := hp_bd hm
  refine hv_get lk_f_X9_121 dX9_leave_5 (hp_fI_spec hx2) ?_
  refine hv_iconst (1 : Int32) dX9_leave_8 (by decide) ?_
  refine hv_isub dX9_leave_9 ?_
  obtain ⟨x3, hx3, hm⟩ := hp_bd hm
  refine hv_iald dX9_leave_10 hx3 ?_
  refine hv_istore_n [(2, .int x3), (0, .ref v0), (1, .ref v1)] dX9_leave_11 rfl (by decide) rfl ?_
  refine hv_aload_n 1 dX9_leave_12 rfl rfl ?_
  refine hv_dup dX9_leave_13 rfl ?_
  obtain ⟨x4, hx4, hm⟩ := hp_bd hm
  refine hv_get lk_f_X9_121 dX9_leave_14 (hp_fI_spec hx4) ?_
  refine hv_iconst (1 : Int32) dX9_leave_17 (by decide) ?_
  refine hv_isub dX9_leave_18 ?_
  obtain ⟨h5, hh5, hm⟩ := hp_bd hm
  refine hv_put lk_f_X9_121 dX9_leave_19 rfl rfl hh5 ?_
  refine hv_aload_n 1 dX9_leave_22 rfl rfl ?_
  refine hv_aload_n 2 dX9_leave_23 rfl rfl ?_
  refine hv_aload_n 1 dX9_leave_24 rfl rfl ?_
  obtain ⟨x6, hx6, hm⟩ := hp_bd hm
  refine hv_get lk_f_X9_42 dX9_leave_25 (hp_fR_spec hx6) ?_
  refine hv_aload_n 1 dX9_leave_28 rfl rfl ?_
  obtain ⟨x7, hx7, hm⟩ := hp_bd hm
  refine hv_get lk_f_X9_9 dX9_leave_29 (hp_fR_spec hx7) ?_
  refine hv_iload_n 0 dX9_leave_32 rfl rfl ?_
  obtain ⟨x8, hx8, hm⟩ := hp_bd hm
  refine hv_iald dX9_leave_33 hx8 ?_
  obtain ⟨x9, hx9, hm⟩ := hp_bd hm
  refine hv_iald dX9_leave_34 hx9 ?_
  obtain ⟨x10, hx10, hm⟩ := hp_bd hm
  obtain ⟨Vx10, hVx10⟩ := k_X9_putNumber hx10
  refine hv_callV (As := [.ref v1, .int x9]) (rest := []) Z_X9_putNumber I_X9_putNumber lk_m_X9_150 rfl hVx10 (c_X9_putNumber G n v0 v1 x9 h5 sz sl _ hx10) rfl (Nat.le_of_ble_eq_true rfl) ⟨Nat.le_of_ble_eq_true rfl, Nat.le_of_ble_eq_true rfl⟩ ho.1 ho.2 rfl dX9_leave_35 ?_
  refine hv_as [] x10 rfl rfl ?_
  refine hv_aload_n 1 dX9_leave_38 rfl rfl ?_
  obtain ⟨x11, hx11, hm⟩ := hp_bd hm
  refine hv_get lk_f_X9_20 dX9_leave_39 (hp_fR_spec hx11) ?_
  refine hv_iload_n 0 dX9_leave_42 rfl rfl ?_
  obtain ⟨x12, hx12, hm⟩ := hp_bd hm
  obtain ⟨Vx12, hVx12⟩ := k_X5_size hx12
  refine hv_callV (As := [.int x3]) (rest := []) Z_X5_size I_X5_size lk_m_X9_85 rfl hVx12 (c_X5_size G n x11 x3 x10 sz sl _ hx12) rfl (Nat.le_of_ble_eq_true rfl) ⟨Nat.le_of_ble_eq_true rfl, Nat.le_of_ble_eq_true rfl⟩ ho.1 ho.2 rfl dX9_leave_43 ?_
  refine hv_as [.int x12] x10 rfl rfl ?_
  refine hv_if_le (tgt := 85) dX9_leave_46 (by decide) (fun c22 => ?_) (fun c22 => ?_)
  · rw [if_pos c22] at hm
    obtain rfl := Option.some.inj hm
    exact hv_vret rfl dX9_leave_85
  · rw [if_neg c22] at hm
    refine hv_aload_n 1 dX9_leave_49 rfl rfl ?_
    obtain ⟨x13, hx13, hm⟩ := hp_bd hm
    refine hv_get lk_f_X9_24 dX9_leave_50 (hp_fR_spec hx13) ?_
    refine hv_iload_n 0 dX9_leave_53 rfl rfl ?_
    obtain ⟨x14, hx14, hm⟩ := hp_bd hm
    refine hv_iald dX9_leave_54 hx14 ?_
    refine hv_iconst (1 : Int32) dX9_leave_55 (by decide) ?_
    refine hv_icmp_le (tgt := 85) dX9_leave_56 (by decide) (fun c21 => ?_) (fun c21 => ?_)
    · rw [if_pos c21] at hm
      obtain rfl := Option.some.inj hm
      exact hv_vret rfl dX9_leave_85
    · rw [if_neg c21] at hm
      refine hv_aload_n 2 dX9_leave_59 rfl rfl ?_
      refine hv_bipush (90 : Int32) dX9_leave_60 (by decide) ?_
      obtain ⟨x15, hx15, hm⟩ := hp_bd hm
      obtain ⟨Vx15, hVx15⟩ := k_X8_put hx15
      refine hv_callV (As := [.int (90 : Int32)]) (rest := []) Z_X8_put I_X8_put lk_m_X9_131 rfl hVx15 (c_X8_put G n v1 (90 : Int32) x10 sz sl _ hx15) rfl (Nat.le_of_ble_eq_true rfl) ⟨Nat.le_of_ble_eq_true rfl, Nat.le_of_ble_eq_true rfl⟩ ho.1 ho.2 rfl dX9_leave_62 ?_
      refine hv_as [] x15 rfl rfl ?_
      refine hv_aload_n 1 dX9_leave_65 rfl rfl ?_
      refine hv_dup dX9_leave_66 rfl ?_
      obtain ⟨x16, hx16, hm⟩ := hp_bd hm
      refine hv_get lk_f_X9_154 dX9_leave_67 (hp_fI_spec hx16) ?_
      refine hv_iconst (1 : Int32) dX9_leave_70 (by decide) ?_
      refine hv_iadd dX9_leave_71 ?_
      obtain ⟨h17, hh17, hm⟩ := hp_bd hm
      refine hv_put lk_f_X9_154 dX9_leave_72 rfl rfl hh17 ?_
      refine hv_aload_n 1 dX9_leave_75 rfl rfl ?_
      obtain ⟨x18, hx18, hm⟩ := hp_bd hm
      refine hv_get lk_f_X9_45 dX9_leave_76 (hp_fR_spec hx18) ?_
      refine hv_iload_n 0 dX9_leave_79 rfl rfl ?_
      refine hv_aload_n 1 dX9_leave_80 rfl rfl ?_
      obtain ⟨x19, hx19, hm⟩ := hp_bd hm
      refine hv_get lk_f_X9_154 dX9_leave_81 (hp_fI_spec hx19) ?_
      obtain ⟨h20, hh20, hm⟩ := hp_bd hm
      refine hv_iast dX9_leave_84 hh20 ?_
      obtain rfl := Option.some.inj hm
      exact hv_vret rfl dX9_leave_85
def f_X9_leave (n : Nat) (v0 : Nat) (v1 : Nat) (h : hp_H) : Option (hp_H) := (hp_ck h 9 v0).bind fun _ => f_X9_leave_0 n v0 v1 h
theorem c_X9_leave (G : hp_G) (n : Nat) (v0 : Nat) (v1 : Nat) (h : hp_H) (sz sl : Nat) (res : hp_H) (hm : f_X9_leave n v0 v1 h = some res) : hp_C G m_X9_leave yX9_leave [.ref v0, .ref v1] h sz sl (none, res, sz, sl) := by
  unfold f_X9_leave at hm
  obtain ⟨_, _, hm⟩ := hp_bd hm
  exact hp_C_of (by decide) rfl rfl (Nat.le_of_ble_eq_true rfl) (Nat.le_refl _) (Nat.le_refl _) (hv_sub [0, 1] rfl (q_X9_leave_0 G n v0 v1 h sz sl res hm))
theorem k_X9_leave {n : Nat} {v0 : Nat} {v1 : Nat} {h : hp_H} {res : hp_H} (hm : f_X9_leave n v0 v1 h = some res) : ∃ V, h v0 = some (.inr (.inr (9, V))) := by
  unfold f_X9_leave at hm
  obtain ⟨_, hu, _⟩ := hp_bd hm
  exact hp_ck_spec hu
abbrev m_X9_compress : hp_M := (RX9, cX9_compress, 4, none, 3, 69, "compress")
theorem Z_X9_compress : hp_Y yX9_compress m_X9_compress 1 := Y_X9_compress
def f_X9_compress_79 (n : Nat) (v0 : Nat) (v1 : Nat) (v2 : Int32) (h : hp_H) : Option ((Int32 × hp_H) ⊕ (hp_H)) :=
  some (.inl ((v2 + (1 : Int32)), h))
set_option maxHeartbeats 1000000 in
set_option maxRecDepth 4000 in
theorem q_X9_compress_79 (G : hp_G) (n : Nat) (v0 : Nat) (v1 : Nat) (v2 : Int32) (h : hp_H) (sz sl : Nat) (o : hp_O) (ho : sz ≤ o.2.2.1 ∧ sl ≤ o.2.2.2) (res : (Int32 × hp_H) ⊕ (hp_H)) (hm : f_X9_compress_79 n v0 v1 v2 h = some res) (kI : ∀ y : Int32 × hp_H, res = .inl y → hp_V G m_X9_compress 19 [(0, .ref v0), (1, .ref v1), (2, .int y.1)] [] y.2 sz sl o) (kR : ∀ y : hp_H, res = .inr y → o = (none, y, sz, sl)) : hp_V G m_X9_compress 79 [(0, .ref v0), (1, .ref v1), (2, .int v2)] [] h sz sl o := by
  unfold f_X9_compress_79 at hm
  refine hv_iinc (v2 + (1 : Int32)) 2 [(2, .int (v2 + (1 : Int32))), (0, .ref v0), (1, .ref v1)] dX9_compress_79 rfl rfl (by decide) rfl ?_
  refine hv_goto (tgt := 19) dX9_compress_82 (by decide) ?_
  exact hv_sub [1, 2, 0] rfl (kI ((v2 + (1 : Int32)), h) (Option.some.inj hm).symm)
def f_X9_compress_19 (n : Nat) (v0 : Nat) (v1 : Nat) (v2 : Int32) (h : hp_H) : Option ((Int32 × hp_H) ⊕ (hp_H)) :=
  if (4000 : Int32) ≤ v2 then
    some (.inr h)
  else
    (hp_fI h 9 v0 12).bind fun x1 =>
    if x1 ≤ 0 then
      some (.inr h)
    else
      (f_X9_nextTaken n v0 h).bind fun x2 =>
      if x2.1 = (-1 : Int32) then
        (f_X9_leave n v0 v1 x2.2).bind fun x10 =>
        f_X9_compress_79 n v0 v1 v2 x10
      else
        (hp_fR x2.2 9 v0 14).bind fun x3 =>
        (hp_aI x2.2 0 x3 x2.1).bind fun x4 =>
        if x4 ≤ 0 then
          (f_X9_enter n v0 x2.1 x2.2).bind fun x5 =>
          f_X9_compress_79 n v0 v1 v2 x5
        else
          (hp_fR x2.2 9 v0 14).bind fun x6 =>
          (hp_aI x2.2 0 x6 x2.1).bind fun x7 =>
          (f_X9_putNumber n v0 v1 x7 x2.2).bind fun x8 =>
          f_X9_compress_79 n v0 v1 v2 x8
set_option maxHeartbeats 1000000 in
set_option maxRecDepth 4000 in
theorem q_X9_compress_19 (G : hp_G) (n : Nat) (v0 : Nat) (v1 : Nat) (v2 : Int32) (h : hp_H) (sz sl : Nat) (o : hp_O) (ho : sz ≤ o.2.2.1 ∧ sl ≤ o.2.2.2) (res : (Int32 × hp_H) ⊕ (hp_H)) (hm : f_X9_compress_19 n v0 v1 v2 h = some res) (kI : ∀ y : Int32 × hp_H, res = .inl y → hp_V G m_X9_compress 19 [(0, .ref v0), (1, .ref v1), (2, .int y.1)] [] y.2 sz sl o) (kR : ∀ y : hp_H, res = .inr y → o = (none, y, sz, sl)) : hp_V G m_X9_compress 19 [(0, .ref v0), (1, .ref v1), (2, .int v2)] [] h sz sl o := by
  unfold f_X9_compress_19 at hm
  refine hv_iload_n 2 dX9_compress_19 rfl rfl ?_
  refine hv_sipush (4000 : Int32) dX9_compress_20 (by decide) ?_
  refine hv_icmp_ge (tgt := 85) dX9_compress_23 (by decide) (fun c13 => ?_) (fun c13 => ?_)
  · rw [if_pos c13] at hm
    obtain rfl := kR _ (Option.some.inj hm).symm
    exact hv_vret rfl dX9_compress_85
  · rw [if_neg c13] at hm
    refine hv_aload_n 0 dX9_compress_26 rfl rfl ?_
    obtain ⟨x1, hx1, hm⟩ := hp_bd hm
    refine hv_get lk_f_X9_121 dX9_compress_27 (hp_fI_spec hx1) ?_
    refine hv_if_le (tgt := 85) dX9_compress_30 (by decide) (fun c12 => ?_) (fun c12 => ?_)
    · rw [if_pos c12] at hm
      obtain rfl := kR _ (Option.some.inj hm).symm
      exact hv_vret rfl dX9_compress_85
    · rw [if_neg c12] at hm
      refine hv_aload_n 0 dX9_compress_33 rfl rfl ?_
      obtain ⟨x2, hx2, hm⟩ := hp_bd hm
      obtain ⟨Vx2, hVx2⟩ := k_X9_nextTaken hx2
      refine hv_callV (As := []) (rest := []) Z_X9_nextTaken I_X9_nextTaken lk_m_X9_124 rfl hVx2 (c_X9_nextTaken G n v0 h sz sl _ hx2) rfl (Nat.le_of_ble_eq_true rfl) ⟨Nat.le_of_ble_eq_true rfl, Nat.le_of_ble_eq_true rfl⟩ ho.1 ho.2 rfl dX9_compress_34 ?_
      refine hv_as [.int x2.1] x2.2 rfl rfl ?_
      refine hv_istore_n [(3, .int x2.1), (0, .ref v0), (1, .ref v1), (2, .int v2)] dX9_compress_37 rfl (by decide) rfl ?_
      refine hv_iload_n 0 dX9_compress_38 rfl rfl ?_
      refine hv_iconst (-1 : Int32) dX9_compress_39 (by decide) ?_
      refine hv_icmp_ne (tgt := 51) dX9_compress_40 (by decide) (fun c11 => ?_) (fun c11 => ?_)
      · rw [if_neg c11] at hm
        refine hv_aload_n 1 dX9_compress_51 rfl rfl ?_
        obtain ⟨x3, hx3, hm⟩ := hp_bd hm
        refine hv_get lk_f_X9_45 dX9_compress_52 (hp_fR_spec hx3) ?_
        refine hv_iload_n 0 dX9_compress_55 rfl rfl ?_
        obtain ⟨x4, hx4, hm⟩ := hp_bd hm
        refine hv_iald dX9_compress_56 hx4 ?_
        refine hv_if_le (tgt := 74) dX9_compress_57 (by decide) (fun c9 => ?_) (fun c9 => ?_)
        · rw [if_pos c9] at hm
          refine hv_aload_n 1 dX9_compress_74 rfl rfl ?_
          refine hv_iload_n 0 dX9_compress_75 rfl rfl ?_
          obtain ⟨x5, hx5, hm⟩ := hp_bd hm
          obtain ⟨Vx5, hVx5⟩ := k_X9_enter hx5
          refine hv_callV (As := [.int x2.1]) (rest := []) Z_X9_enter I_X9_enter lk_m_X9_128 rfl hVx5 (c_X9_enter G n v0 x2.1 x2.2 sz sl _ hx5) rfl (Nat.le_of_ble_eq_true rfl) ⟨Nat.le_of_ble_eq_true rfl, Nat.le_of_ble_eq_true rfl⟩ ho.1 ho.2 rfl dX9_compress_76 ?_
          refine hv_as [] x5 rfl rfl ?_
          exact hv_sub [1, 2, 3] rfl (q_X9_compress_79 G n v0 v1 v2 x5 sz sl o ho _ hm kI kR)
        · rw [if_neg c9] at hm
          refine hv_aload_n 1 dX9_compress_60 rfl rfl ?_
          refine hv_aload_n 2 dX9_compress_61 rfl rfl ?_
          refine hv_aload_n 1 dX9_compress_62 rfl rfl ?_
          obtain ⟨x6, hx6, hm⟩ := hp_bd hm
          refine hv_get lk_f_X9_45 dX9_compress_63 (hp_fR_spec hx6) ?_
          refine hv_iload_n 0 dX9_compress_66 rfl rfl ?_
          obtain ⟨x7, hx7, hm⟩ := hp_bd hm
          refine hv_iald dX9_compress_67 hx7 ?_
          obtain ⟨x8, hx8, hm⟩ := hp_bd hm
          obtain ⟨Vx8, hVx8⟩ := k_X9_putNumber hx8
          refine hv_callV (As := [.ref v1, .int x7]) (rest := []) Z_X9_putNumber I_X9_putNumber lk_m_X9_150 rfl hVx8 (c_X9_putNumber G n v0 v1 x7 x2.2 sz sl _ hx8) rfl (Nat.le_of_ble_eq_true rfl) ⟨Nat.le_of_ble_eq_true rfl, Nat.le_of_ble_eq_true rfl⟩ ho.1 ho.2 rfl dX9_compress_68 ?_
          refine hv_as [] x8 rfl rfl ?_
          refine hv_goto (tgt := 79) dX9_compress_71 (by decide) ?_
          exact hv_sub [1, 2, 3] rfl (q_X9_compress_79 G n v0 v1 v2 x8 sz sl o ho _ hm kI kR)
      · rw [if_pos c11] at hm
        refine hv_aload_n 1 dX9_compress_43 rfl rfl ?_
        refine hv_aload_n 2 dX9_compress_44 rfl rfl ?_
        obtain ⟨x10, hx10, hm⟩ := hp_bd hm
        obtain ⟨Vx10, hVx10⟩ := k_X9_leave hx10
        refine hv_callV (As := [.ref v1]) (rest := []) Z_X9_leave I_X9_leave lk_m_X9_147 rfl hVx10 (c_X9_leave G n v0 v1 x2.2 sz sl _ hx10) rfl (Nat.le_of_ble_eq_true rfl) ⟨Nat.le_of_ble_eq_true rfl, Nat.le_of_ble_eq_true rfl⟩ ho.1 ho.2 rfl dX9_compress_45 ?_
        refine hv_as [] x10 rfl rfl ?_
        refine hv_goto (tgt := 79) dX9_compress_48 (by decide) ?_
        exact hv_sub [1, 2, 3] rfl (q_X9_compress_79 G n v0 v1 v2 x10 sz sl o ho _ hm kI kR)
def fL_X9_compress_19 (n : Nat) (v0 : Nat) (v1 : Nat) (s : Int32 × hp_H) : Option ((Int32 × hp_H) ⊕ (hp_H)) := f_X9_compress_19 n v0 v1 s.1 s.2
theorem l_X9_compress_19 (G : hp_G) (n : Nat) (v0 : Nat) (v1 : Nat) (sz sl : Nat) (o : hp_O) (ho : sz ≤ o.2.2.1 ∧ sl ≤ o.2.2.2) : ∀ (k : Nat) (s : Int32 × hp_H) (x : hp_H), hp_lp (fL_X9_compress_19 n v0 v1) k s = some x → (∀ y : hp_H, x = y → o = (none, y, sz, sl)) → hp_V G m_X9_compress 19 [(0, .ref v0), (1, .ref v1), (2, .int s.1)] [] s.2 sz sl o := by
  intro k
  induction k with
  | zero => intro s x hx; exact (hp_lp_0 hx).elim
  | succ k ih =>
    intro s x hx k0
    obtain ⟨r, hr, hc⟩ := hp_lp_1 hx
    refine q_X9_compress_19 G n v0 v1 s.1 s.2 sz sl o ho r hr (fun s2 e => ?_) (fun y e => ?_)
    · rcases hc with ⟨s3, e3, hx3⟩ | e3
      · have e4 := Sum.inl.inj (e.symm.trans e3)
        subst e4
        exact ih _ _ hx3 k0
      · cases (e.symm.trans e3)
    · rcases hc with ⟨s3, e3, hx3⟩ | e3
      · cases (e.symm.trans e3)
      · exact k0 y (Sum.inr.inj (e3.symm.trans e))
def f_X9_compress_0 (n : Nat) (v0 : Nat) (v1 : Nat) (h : hp_H) : Option (hp_H) :=
  (f_X9_numberLabels n v0 v1 h).bind fun x1 =>
  (hp_fR x1 9 v0 14).bind fun x2 =>
  (f_J7_fill_53178 n x2 (0 : Int32) x1).bind fun x3 =>
  (f_X9_enterRoot n v0 x3).bind fun x4 =>
  (hp_lp (fL_X9_compress_19 n v0 v1) n ((0 : Int32), x4)).bind fun x5 =>
  some x5
set_option maxHeartbeats 1000000 in
set_option maxRecDepth 4000 in
theorem q_X9_compress_0 (G : hp_G) (n : Nat) (v0 : Nat) (v1 : Nat) (h : hp_H) (sz sl : Nat) (res : hp_H) (hm : f_X9_compress_0 n v0 v1 h = some res) : hp_V G m_X9_compress 0 [(0, .ref v0), (1, .ref v1)] [] h sz sl (none, res, sz, sl) := by
  have ho : sz ≤ sz ∧ sl ≤ sl := ⟨Nat.le_refl _, Nat.le_refl _⟩
  unfold f_X9_compress_0 at hm
  refine hv_aload_n 0 dX9_compress_0 rfl rfl ?_
  refine hv_aload_n 1 dX9_compress_1 rfl rfl ?_
  obtain ⟨x1, hx1, hm⟩ := hp_bd hm
  obtain ⟨Vx1, hVx1⟩ := k_X9_numberLabels hx1
  refine hv_callV (As := [.ref v1]) (rest := []) Z_X9_numberLabels I_X9_numberLabels lk_m_X9_143 rfl hVx1 (c_X9_numberLabels G n v0 v1 h sz sl _ hx1) rfl (Nat.le_of_ble_eq_true rfl) ⟨Nat.le_of_ble_eq_true rfl, Nat.le_of_ble_eq_true rfl⟩ ho.1 ho.2 rfl dX9_compress_2 ?_
  refine hv_as [] x1 rfl rfl ?_
  refine hv_aload_n 0 dX9_compress_5 rfl rfl ?_
  obtain ⟨x2, hx2, hm⟩ := hp_bd hm
  refine hv_get lk_f_X9_45 dX9_compress_6 (hp_fR_spec hx2) ?_
  refine hv_iconst (0 : Int32) dX9_compress_9 (by decide) ?_
  obtain ⟨x3, hx3, hm⟩ := hp_bd hm
  refine hv_callS (As := [.ref x2, .int (0 : Int32)]) (rest := []) Z_J7_fill_53178 I_J7_fill_53178 lk_m_X9_66 (c_J7_fill_53178 G n x2 (0 : Int32) x1 sz sl _ hx3) rfl (Nat.le_of_ble_eq_true rfl) ⟨Nat.le_of_ble_eq_true rfl, Nat.le_of_ble_eq_true rfl⟩ ho.1 ho.2 rfl dX9_compress_10 ?_
  refine hv_as [] x3 rfl rfl ?_
  refine hv_aload_n 0 dX9_compress_13 rfl rfl ?_
  obtain ⟨x4, hx4, hm⟩ := hp_bd hm
  obtain ⟨Vx4, hVx4⟩ := k_X9_enterRoot hx4
  refine hv_callV (As := []) (rest := []) Z_X9_enterRoot I_X9_enterRoot lk_m_X9_118 rfl hVx4 (c_X9_enterRoot G n v0 x3 sz sl _ hx4) rfl (Nat.le_of_ble_eq_true rfl) ⟨Nat.le_of_ble_eq_true rfl, Nat.le_of_ble_eq_true rfl⟩ ho.1 ho.2 rfl dX9_compress_14 ?_
  refine hv_as [] x4 rfl rfl ?_
  refine hv_iconst (0 : Int32) dX9_compress_17 (by decide) ?_
  refine hv_istore_n [(2, .int (0 : Int32)), (0, .ref v0), (1, .ref v1)] dX9_compress_18 rfl (by decide) rfl ?_
  obtain ⟨x5, hx5, hm⟩ := hp_bd hm
  refine hv_sub [1, 2, 0] rfl (l_X9_compress_19 G n v0 v1 sz sl _ ho n _ _ hx5 (fun y6 ey6 => ?_))
  · subst ey6
    obtain rfl := Option.some.inj hm
    rfl
def f_X9_compress (n : Nat) (v0 : Nat) (v1 : Nat) (h : hp_H) : Option (hp_H) := (hp_ck h 9 v0).bind fun _ => f_X9_compress_0 n v0 v1 h
theorem c_X9_compress (G : hp_G) (n : Nat) (v0 : Nat) (v1 : Nat) (h : hp_H) (sz sl : Nat) (res : hp_H) (hm : f_X9_compress n v0 v1 h = some res) : hp_C G m_X9_compress yX9_compress [.ref v0, .ref v1] h sz sl (none, res, sz, sl) := by
  unfold f_X9_compress at hm
  obtain ⟨_, _, hm⟩ := hp_bd hm
  exact hp_C_of (by decide) rfl rfl (Nat.le_of_ble_eq_true rfl) (Nat.le_refl _) (Nat.le_refl _) (hv_sub [0, 1] rfl (q_X9_compress_0 G n v0 v1 h sz sl res hm))
theorem k_X9_compress {n : Nat} {v0 : Nat} {v1 : Nat} {h : hp_H} {res : hp_H} (hm : f_X9_compress n v0 v1 h = some res) : ∃ V, h v0 = some (.inr (.inr (9, V))) := by
  unfold f_X9_compress at hm
  obtain ⟨_, hu, _⟩ := hp_bd hm
  exact hp_ck_spec hu
