abbrev m_X8_init : hp_M := (RX8, cX8_init, 1, none, 1, 30, "<init>")
theorem Z_X8_init : hp_Y yX8_init m_X8_init 0 := Y_X8_init
def f_X8_init_10 (n : Nat)  (s0 : Nat) (s1 : Nat) (h : hp_H) (sz sl : Nat) : Option (hp_H × Nat × Nat) :=
  (hp_pF h 8 s1 0 (.ref s0)).bind fun h1 =>
  some (h1, sz, sl)
set_option maxHeartbeats 1000000 in
set_option maxRecDepth 4000 in
theorem mo_X8_init_10 {n : Nat}  {s0 : Nat} {s1 : Nat} {h : hp_H} {sz sl : Nat} {res : hp_H × Nat × Nat} (hm : f_X8_init_10 n s0 s1 h sz sl = some res) : sz ≤ res.2.1 ∧ sl ≤ res.2.2 := by
  unfold f_X8_init_10 at hm
  obtain ⟨h1, hh1, hm⟩ := hp_bd hm
  obtain rfl := Option.some.inj hm
  exact ⟨Nat.le_refl _, Nat.le_refl _⟩
set_option maxHeartbeats 1000000 in
set_option maxRecDepth 4000 in
theorem q_X8_init_10 (G : hp_G) (n : Nat)  (s0 : Nat) (s1 : Nat) (h : hp_H) (sz sl : Nat) (res : hp_H × Nat × Nat) (hm : f_X8_init_10 n s0 s1 h sz sl = some res) : hp_V G m_X8_init 10 [] [.ref s0, .ref s1] h sz sl (none, res.1, res.2.1, res.2.2) := by
  have ho := mo_X8_init_10 hm
  unfold f_X8_init_10 at hm
  obtain ⟨h1, hh1, hm⟩ := hp_bd hm
  refine hv_putF lk_f_X8_9 (by intro C T N e; cases e; rfl) rfl dX8_init_10 rfl rfl hh1 ?_
  obtain rfl := Option.some.inj hm
  exact hv_vret rfl dX8_init_13
def f_X8_init_0 (n : Nat) (v0 : Nat) (h : hp_H) (sz sl : Nat) : Option (hp_H × Nat × Nat) :=
  f_X8_init_10 n sz v0 (hp_na h sz 1 6000) (sz + 1) (sl + 6000)
set_option maxHeartbeats 1000000 in
set_option maxRecDepth 4000 in
theorem mo_X8_init_0 {n : Nat} {v0 : Nat} {h : hp_H} {sz sl : Nat} {res : hp_H × Nat × Nat} (hm : f_X8_init_0 n v0 h sz sl = some res) : sz ≤ res.2.1 ∧ sl ≤ res.2.2 := by
  unfold f_X8_init_0 at hm
  exact hp_tr ⟨Nat.le_add_right _ _, Nat.le_add_right _ _⟩ (mo_X8_init_10 hm)
set_option maxHeartbeats 1000000 in
set_option maxRecDepth 4000 in
theorem q_X8_init_0 (G : hp_G) (n : Nat) (v0 : Nat) (h : hp_H) (sz sl : Nat) (res : hp_H × Nat × Nat) (hm : f_X8_init_0 n v0 h sz sl = some res) : hp_V G m_X8_init 0 [(0, .ref v0)] [] h sz sl (none, res.1, res.2.1, res.2.2) := by
  have ho := mo_X8_init_0 hm
  unfold f_X8_init_0 at hm
  refine hv_aload_n 0 dX8_init_0 rfl rfl ?_
  refine hv_objInit lk_o_X8_3 ⟨Nat.le_of_ble_eq_true rfl, Nat.le_of_ble_eq_true rfl⟩ dX8_init_1 ?_
  refine hv_aload_n 0 dX8_init_4 rfl rfl ?_
  refine hv_sipush (6000 : Int32) dX8_init_5 (by decide) ?_
  have hq := mo_X8_init_10 hm
  refine hv_newB (N := 6000) ac_byte (by decide) (by decide) dX8_init_8 hq.1 hq.2 ?_
  exact hv_sub [] rfl (q_X8_init_10 G n sz v0 (hp_na h sz 1 6000) (sz + 1) (sl + 6000) _ hm)
def f_X8_init (n : Nat) (v0 : Nat) (h : hp_H) (sz sl : Nat) : Option (hp_H × Nat × Nat) := (hp_ck h 8 v0).bind fun _ => f_X8_init_0 n v0 h sz sl
theorem c_X8_init (G : hp_G) (n : Nat) (v0 : Nat) (h : hp_H) (sz sl : Nat) (res : hp_H × Nat × Nat) (hm : f_X8_init n v0 h sz sl = some res) : hp_C G m_X8_init yX8_init [.ref v0] h sz sl (none, res.1, res.2.1, res.2.2) := by
  unfold f_X8_init at hm
  obtain ⟨_, _, hm⟩ := hp_bd hm
  exact hp_C_of (by decide) rfl rfl (Nat.le_of_ble_eq_true rfl) (mo_X8_init_0 hm).1 (mo_X8_init_0 hm).2 (hv_sub [0] rfl (q_X8_init_0 G n v0 h sz sl res hm))
theorem k_X8_init {n : Nat} {v0 : Nat} {h : hp_H} {sz sl : Nat} {res : hp_H × Nat × Nat} (hm : f_X8_init n v0 h sz sl = some res) : ∃ V, h v0 = some (.inr (.inr (8, V))) := by
  unfold f_X8_init at hm
  obtain ⟨_, hu, _⟩ := hp_bd hm
  exact hp_ck_spec hu
theorem mx_X8_init {n : Nat} {v0 : Nat} {h : hp_H} {sz sl : Nat} {res : hp_H × Nat × Nat} (hm : f_X8_init n v0 h sz sl = some res) : sz ≤ res.2.1 ∧ sl ≤ res.2.2 := by
  unfold f_X8_init at hm
  obtain ⟨_, _, hm⟩ := hp_bd hm
  exact mo_X8_init_0 hm
abbrev m_X8_clear : hp_M := (RX8, cX8_clear, 1, none, 0, 0, "clear")
theorem Z_X8_clear : hp_Y yX8_clear m_X8_clear 0 := Y_X8_clear
def f_X8_clear_0 (n : Nat) (v0 : Nat) (h : hp_H) : Option (hp_H) :=
  (hp_pF h 8 v0 1 (.int (0 : Int32))).bind fun h1 =>
  (hp_pF h1 8 v0 2 (.int (0 : Int32))).bind fun h2 =>
  some h2
set_option maxHeartbeats 1000000 in
set_option maxRecDepth 4000 in
theorem q_X8_clear_0 (G : hp_G) (n : Nat) (v0 : Nat) (h : hp_H) (sz sl : Nat) (res : hp_H) (hm : f_X8_clear_0 n v0 h = some res) : hp_V G m_X8_clear 0 [(0, .ref v0)] [] h sz sl (none, res, sz, sl) := by
  have ho : sz ≤ sz ∧ sl ≤ sl := ⟨Nat.le_refl _, Nat.le_refl _⟩
  unfold f_X8_clear_0 at hm
  refine hv_aload_n 0 dX8_clear_0 rfl rfl ?_
  refine hv_iconst (0 : Int32) dX8_clear_1 (by decide) ?_
  obtain ⟨h1, hh1, hm⟩ := hp_bd hm
  refine hv_put lk_f_X8_15 dX8_clear_2 rfl rfl hh1 ?_
  refine hv_aload_n 0 dX8_clear_5 rfl rfl ?_
  refine hv_iconst (0 : Int32) dX8_clear_6 (by decide) ?_
  obtain ⟨h2, hh2, hm⟩ := hp_bd hm
  refine hv_put lk_f_X8_19 dX8_clear_7 rfl rfl hh2 ?_
  obtain rfl := Option.some.inj hm
  exact hv_vret rfl dX8_clear_10
def f_X8_clear (n : Nat) (v0 : Nat) (h : hp_H) : Option (hp_H) := (hp_ck h 8 v0).bind fun _ => f_X8_clear_0 n v0 h
theorem c_X8_clear (G : hp_G) (n : Nat) (v0 : Nat) (h : hp_H) (sz sl : Nat) (res : hp_H) (hm : f_X8_clear n v0 h = some res) : hp_C G m_X8_clear yX8_clear [.ref v0] h sz sl (none, res, sz, sl) := by
  unfold f_X8_clear at hm
  obtain ⟨_, _, hm⟩ := hp_bd hm
  exact hp_C_of (by decide) rfl rfl (Nat.le_of_ble_eq_true rfl) (Nat.le_refl _) (Nat.le_refl _) (hv_sub [0] rfl (q_X8_clear_0 G n v0 h sz sl res hm))
theorem k_X8_clear {n : Nat} {v0 : Nat} {h : hp_H} {res : hp_H} (hm : f_X8_clear n v0 h = some res) : ∃ V, h v0 = some (.inr (.inr (8, V))) := by
  unfold f_X8_clear at hm
  obtain ⟨_, hu, _⟩ := hp_bd hm
  exact hp_ck_spec hu
abbrev m_X8_put : hp_M := (RX8, cX8_put, 2, none, 0, 0, "put")
theorem Z_X8_put : hp_Y yX8_put m_X8_put 1 := Y_X8_put
def f_X8_put_0 (n : Nat) (v0 : Nat) (v1 : Int32) (h : hp_H) : Option (hp_H) :=
  (hp_fI h 8 v0 1).bind fun x1 =>
  if x1 = (6000 : Int32) then
    (hp_pF h 8 v0 2 (.int (1 : Int32))).bind fun h7 =>
    some h7
  else
    (hp_fR h 8 v0 0).bind fun x2 =>
    (hp_fI h 8 v0 1).bind fun x3 =>
    (hp_sI h 1 x2 x3 ((Int32.toInt8 v1).toInt32)).bind fun h4 =>
    (hp_fI h4 8 v0 1).bind fun x5 =>
    (hp_pF h4 8 v0 1 (.int (x5 + (1 : Int32)))).bind fun h6 =>
    some h6
set_option maxHeartbeats 1000000 in
set_option maxRecDepth 4000 in
theorem q_X8_put_0 (G : hp_G) (n : Nat) (v0 : Nat) (v1 : Int32) (h : hp_H) (sz sl : Nat) (res : hp_H) (hm : f_X8_put_0 n v0 v1 h = some res) : hp_V G m_X8_put 0 [(0, .ref v0), (1, .int v1)] [] h sz sl (none, res, sz, sl) := by
  have ho : sz ≤ sz ∧ sl ≤ sl := ⟨Nat.le_refl _, Nat.le_refl _⟩
  unfold f_X8_put_0 at hm
  refine hv_aload_n 0 dX8_put_0 rfl rfl ?_
  obtain ⟨x1, hx1, hm⟩ := hp_bd hm
  refine hv_get lk_f_X8_15 dX8_put_1 (hp_fI_spec hx1) ?_
  refine hv_sipush (6000 : Int32) dX8_put_4 (by decide) ?_
  refine hv_icmp_ne (tgt := 16) dX8_put_7 (by decide) (fun c8 => ?_) (fun c8 => ?_)
  · rw [if_neg c8] at hm
    refine hv_aload_n 0 dX8_put_16 rfl rfl ?_
    obtain ⟨x2, hx2, hm⟩ := hp_bd hm
    refine hv_get lk_f_X8_9 dX8_put_17 (hp_fR_spec hx2) ?_
    refine hv_aload_n 0 dX8_put_20 rfl rfl ?_
    obtain ⟨x3, hx3, hm⟩ := hp_bd hm
    refine hv_get lk_f_X8_15 dX8_put_21 (hp_fI_spec hx3) ?_
    refine hv_iload_n 1 dX8_put_24 rfl rfl ?_
    refine hv_i2b dX8_put_25 ?_
    obtain ⟨h4, hh4, hm⟩ := hp_bd hm
    refine hv_bast dX8_put_26 hh4 ?_
    refine hv_aload_n 0 dX8_put_27 rfl rfl ?_
    refine hv_dup dX8_put_28 rfl ?_
    obtain ⟨x5, hx5, hm⟩ := hp_bd hm
    refine hv_get lk_f_X8_15 dX8_put_29 (hp_fI_spec hx5) ?_
    refine hv_iconst (1 : Int32) dX8_put_32 (by decide) ?_
    refine hv_iadd dX8_put_33 ?_
    obtain ⟨h6, hh6, hm⟩ := hp_bd hm
    refine hv_put lk_f_X8_15 dX8_put_34 rfl rfl hh6 ?_
    obtain rfl := Option.some.inj hm
    exact hv_vret rfl dX8_put_37
  · rw [if_pos c8] at hm
    refine hv_aload_n 0 dX8_put_10 rfl rfl ?_
    refine hv_iconst (1 : Int32) dX8_put_11 (by decide) ?_
    obtain ⟨h7, hh7, hm⟩ := hp_bd hm
    refine hv_put lk_f_X8_19 dX8_put_12 rfl rfl hh7 ?_
    obtain rfl := Option.some.inj hm
    exact hv_vret rfl dX8_put_15
def f_X8_put (n : Nat) (v0 : Nat) (v1 : Int32) (h : hp_H) : Option (hp_H) := (hp_ck h 8 v0).bind fun _ => f_X8_put_0 n v0 v1 h
theorem c_X8_put (G : hp_G) (n : Nat) (v0 : Nat) (v1 : Int32) (h : hp_H) (sz sl : Nat) (res : hp_H) (hm : f_X8_put n v0 v1 h = some res) : hp_C G m_X8_put yX8_put [.ref v0, .int v1] h sz sl (none, res, sz, sl) := by
  unfold f_X8_put at hm
  obtain ⟨_, _, hm⟩ := hp_bd hm
  exact hp_C_of (by decide) rfl rfl (Nat.le_of_ble_eq_true rfl) (Nat.le_refl _) (Nat.le_refl _) (hv_sub [0, 1] rfl (q_X8_put_0 G n v0 v1 h sz sl res hm))
theorem k_X8_put {n : Nat} {v0 : Nat} {v1 : Int32} {h : hp_H} {res : hp_H} (hm : f_X8_put n v0 v1 h = some res) : ∃ V, h v0 = some (.inr (.inr (8, V))) := by
  unfold f_X8_put at hm
  obtain ⟨_, hu, _⟩ := hp_bd hm
  exact hp_ck_spec hu
abbrev m_X8_putName : hp_M := (RX8, cX8_putName, 5, none, 1, 22, "putName")
theorem Z_X8_putName : hp_Y yX8_putName m_X8_putName 2 := Y_X8_putName
def f_X8_putName_9 (n : Nat) (v0 : Nat) (v1 : Nat) (v2 : Int32) (v3 : Int32) (v4 : Int32) (h : hp_H) : Option ((Int32 × hp_H) ⊕ (hp_H)) :=
  if v3 ≤ v4 then
    some (.inr h)
  else
    (f_X2_byteOf n v1 v2 v4 h).bind fun x1 =>
    (f_X8_put n v0 x1 h).bind fun x2 =>
    some (.inl ((v4 + (1 : Int32)), x2))
set_option maxHeartbeats 1000000 in
set_option maxRecDepth 4000 in
theorem q_X8_putName_9 (G : hp_G) (n : Nat) (v0 : Nat) (v1 : Nat) (v2 : Int32) (v3 : Int32) (v4 : Int32) (h : hp_H) (sz sl : Nat) (o : hp_O) (ho : sz ≤ o.2.2.1 ∧ sl ≤ o.2.2.2) (res : (Int32 × hp_H) ⊕ (hp_H)) (hm : f_X8_putName_9 n v0 v1 v2 v3 v4 h = some res) (kI : ∀ y : Int32 × hp_H, res = .inl y → hp_V G m_X8_putName 9 [(0, .ref v0), (1, .ref v1), (2, .int v2), (3, .int v3), (4, .int y.1)] [] y.2 sz sl o) (kR : ∀ y : hp_H, res = .inr y → o = (none, y, sz, sl)) : hp_V G m_X8_putName 9 [(0, .ref v0), (1, .ref v1), (2, .int v2), (3, .int v3), (4, .int v4)] [] h sz sl o := by
  unfold f_X8_putName_9 at hm
  refine hv_iload 4 dX8_putName_9 rfl ?_
  refine hv_iload_n 3 dX8_putName_11 rfl rfl ?_
  refine hv_icmp_ge (tgt := 32) dX8_putName_12 (by decide) (fun c3 => ?_) (fun c3 => ?_)
  · rw [if_pos c3] at hm
    obtain rfl := kR _ (Option.some.inj hm).symm
    exact hv_vret rfl dX8_putName_32
  · rw [if_neg c3] at hm
    refine hv_aload_n 0 dX8_putName_15 rfl rfl ?_
    refine hv_aload_n 1 dX8_putName_16 rfl rfl ?_
    refine hv_iload_n 2 dX8_putName_17 rfl rfl ?_
    refine hv_iload 4 dX8_putName_18 rfl ?_
    obtain ⟨x1, hx1, hm⟩ := hp_bd hm
    obtain ⟨Vx1, hVx1⟩ := k_X2_byteOf hx1
    refine hv_callV (As := [.int v2, .int v4]) (rest := [.ref v0]) Z_X2_byteOf I_X2_byteOf lk_m_X8_29 rfl hVx1 (c_X2_byteOf G n v1 v2 v4 h sz sl _ hx1) rfl (Nat.le_of_ble_eq_true rfl) ⟨Nat.le_of_ble_eq_true rfl, Nat.le_of_ble_eq_true rfl⟩ ho.1 ho.2 rfl dX8_putName_20 ?_
    refine hv_as [.int x1, .ref v0] h rfl rfl ?_
    obtain ⟨x2, hx2, hm⟩ := hp_bd hm
    obtain ⟨Vx2, hVx2⟩ := k_X8_put hx2
    refine hv_callV (As := [.int x1]) (rest := []) Z_X8_put I_X8_put lk_m_X8_33 rfl hVx2 (c_X8_put G n v0 x1 h sz sl _ hx2) rfl (Nat.le_of_ble_eq_true rfl) ⟨Nat.le_of_ble_eq_true rfl, Nat.le_of_ble_eq_true rfl⟩ ho.1 ho.2 rfl dX8_putName_23 ?_
    refine hv_as [] x2 rfl rfl ?_
    refine hv_iinc (v4 + (1 : Int32)) 4 [(4, .int (v4 + (1 : Int32))), (0, .ref v0), (1, .ref v1), (2, .int v2), (3, .int v3)] dX8_putName_26 rfl rfl (by decide) rfl ?_
    refine hv_goto (tgt := 9) dX8_putName_29 (by decide) ?_
    exact hv_sub [1, 2, 3, 4, 0] rfl (kI ((v4 + (1 : Int32)), x2) (Option.some.inj hm).symm)
def fL_X8_putName_9 (n : Nat) (v0 : Nat) (v1 : Nat) (v2 : Int32) (v3 : Int32) (s : Int32 × hp_H) : Option ((Int32 × hp_H) ⊕ (hp_H)) := f_X8_putName_9 n v0 v1 v2 v3 s.1 s.2
theorem l_X8_putName_9 (G : hp_G) (n : Nat) (v0 : Nat) (v1 : Nat) (v2 : Int32) (v3 : Int32) (sz sl : Nat) (o : hp_O) (ho : sz ≤ o.2.2.1 ∧ sl ≤ o.2.2.2) : ∀ (k : Nat) (s : Int32 × hp_H) (x : hp_H), hp_lp (fL_X8_putName_9 n v0 v1 v2 v3) k s = some x → (∀ y : hp_H, x = y → o = (none, y, sz, sl)) → hp_V G m_X8_putName 9 [(0, .ref v0), (1, .ref v1), (2, .int v2), (3, .int v3), (4, .int s.1)] [] s.2 sz sl o := by
  intro k
  induction k with
  | zero => intro s x hx; exact (hp_lp_0 hx).elim
  | succ k ih =>
    intro s x hx k0
    obtain ⟨r, hr, hc⟩ := hp_lp_1 hx
    refine q_X8_putName_9 G n v0 v1 v2 v3 s.1 s.2 sz sl o ho r hr (fun s2 e => ?_) (fun y e => ?_)
    · rcases hc with ⟨s3, e3, hx3⟩ | e3
      · have e4 := Sum.inl.inj (e.symm.trans e3)
        subst e4
        exact ih _ _ hx3 k0
      · cases (e.symm.trans e3)
    · rcases hc with ⟨s3, e3, hx3⟩ | e3
      · cases (e.symm.trans e3)
      · exact k0 y (Sum.inr.inj (e3.symm.trans e))
def f_X8_putName_0 (n : Nat) (v0 : Nat) (v1 : Nat) (v2 : Int32) (h : hp_H) : Option (hp_H) :=
  (f_X2_lengthOf n v1 v2 h).bind fun x1 =>
  (hp_lp (fL_X8_putName_9 n v0 v1 v2 x1) n ((0 : Int32), h)).bind fun x2 =>
  some x2
set_option maxHeartbeats 1000000 in
set_option maxRecDepth 4000 in
theorem q_X8_putName_0 (G : hp_G) (n : Nat) (v0 : Nat) (v1 : Nat) (v2 : Int32) (h : hp_H) (sz sl : Nat) (res : hp_H) (hm : f_X8_putName_0 n v0 v1 v2 h = some res) : hp_V G m_X8_putName 0 [(0, .ref v0), (1, .ref v1), (2, .int v2)] [] h sz sl (none, res, sz, sl) := by
  have ho : sz ≤ sz ∧ sl ≤ sl := ⟨Nat.le_refl _, Nat.le_refl _⟩
  unfold f_X8_putName_0 at hm
  refine hv_aload_n 1 dX8_putName_0 rfl rfl ?_
  refine hv_iload_n 2 dX8_putName_1 rfl rfl ?_
  obtain ⟨x1, hx1, hm⟩ := hp_bd hm
  obtain ⟨Vx1, hVx1⟩ := k_X2_lengthOf hx1
  refine hv_callV (As := [.int v2]) (rest := []) Z_X2_lengthOf I_X2_lengthOf lk_m_X8_23 rfl hVx1 (c_X2_lengthOf G n v1 v2 h sz sl _ hx1) rfl (Nat.le_of_ble_eq_true rfl) ⟨Nat.le_of_ble_eq_true rfl, Nat.le_of_ble_eq_true rfl⟩ ho.1 ho.2 rfl dX8_putName_2 ?_
  refine hv_as [.int x1] h rfl rfl ?_
  refine hv_istore_n [(3, .int x1), (0, .ref v0), (1, .ref v1), (2, .int v2)] dX8_putName_5 rfl (by decide) rfl ?_
  refine hv_iconst (0 : Int32) dX8_putName_6 (by decide) ?_
  refine hv_istore [(4, .int (0 : Int32)), (3, .int x1), (0, .ref v0), (1, .ref v1), (2, .int v2)] dX8_putName_7 (by decide) rfl ?_
  obtain ⟨x2, hx2, hm⟩ := hp_bd hm
  refine hv_sub [2, 3, 4, 1, 0] rfl (l_X8_putName_9 G n v0 v1 v2 x1 sz sl _ ho n _ _ hx2 (fun y3 ey3 => ?_))
  · skip
    subst ey3
    obtain rfl := Option.some.inj hm
    rfl
def f_X8_putName (n : Nat) (v0 : Nat) (v1 : Nat) (v2 : Int32) (h : hp_H) : Option (hp_H) := (hp_ck h 8 v0).bind fun _ => f_X8_putName_0 n v0 v1 v2 h
theorem c_X8_putName (G : hp_G) (n : Nat) (v0 : Nat) (v1 : Nat) (v2 : Int32) (h : hp_H) (sz sl : Nat) (res : hp_H) (hm : f_X8_putName n v0 v1 v2 h = some res) : hp_C G m_X8_putName yX8_putName [.ref v0, .ref v1, .int v2] h sz sl (none, res, sz, sl) := by
  unfold f_X8_putName at hm
  obtain ⟨_, _, hm⟩ := hp_bd hm
  exact hp_C_of (by decide) rfl rfl (Nat.le_of_ble_eq_true rfl) (Nat.le_refl _) (Nat.le_refl _) (hv_sub [0, 1, 2] rfl (q_X8_putName_0 G n v0 v1 v2 h sz sl res hm))
theorem k_X8_putName {n : Nat} {v0 : Nat} {v1 : Nat} {v2 : Int32} {h : hp_H} {res : hp_H} (hm : f_X8_putName n v0 v1 v2 h = some res) : ∃ V, h v0 = some (.inr (.inr (8, V))) := by
  unfold f_X8_putName at hm
  obtain ⟨_, hu, _⟩ := hp_bd hm
  exact hp_ck_spec hu
