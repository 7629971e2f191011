abbrev m_X4_init : hp_M := (RX4, cX4_init, 2, none, 2, 51, "<init>")
theorem Z_X4_init : hp_Y yX4_init m_X4_init 1 := Y_X4_init
def f_X4_init_32 (n : Nat) (v1 : Nat) (s0 : Nat) (s1 : Nat) (h : hp_H) (sz sl : Nat) : Option (hp_H × Nat × Nat) :=
  (hp_fR h 0 v1 1).bind fun x1 =>
  (f_X6_init n s0 x1 h).bind fun x2 =>
  (hp_pF x2 4 s1 2 (.ref s0)).bind fun h3 =>
  some (h3, sz, sl)
set_option maxHeartbeats 1000000 in
set_option maxRecDepth 4000 in
theorem mo_X4_init_32 {n : Nat} {v1 : Nat} {s0 : Nat} {s1 : Nat} {h : hp_H} {sz sl : Nat} {res : hp_H × Nat × Nat} (hm : f_X4_init_32 n v1 s0 s1 h sz sl = some res) : sz ≤ res.2.1 ∧ sl ≤ res.2.2 := by
  unfold f_X4_init_32 at hm
  obtain ⟨x1, hx1, hm⟩ := hp_bd hm
  obtain ⟨x2, hx2, hm⟩ := hp_bd hm
  obtain ⟨h3, hh3, hm⟩ := hp_bd hm
  obtain rfl := Option.some.inj hm
  exact ⟨Nat.le_refl _, Nat.le_refl _⟩
set_option maxHeartbeats 1000000 in
set_option maxRecDepth 4000 in
theorem q_X4_init_32 (G : hp_G) (n : Nat) (v1 : Nat) (s0 : Nat) (s1 : Nat) (h : hp_H) (sz sl : Nat) (res : hp_H × Nat × Nat) (hm : f_X4_init_32 n v1 s0 s1 h sz sl = some res) : hp_V G m_X4_init 32 [(1, .ref v1)] [.ref s0, .ref s1] h sz sl (none, res.1, res.2.1, res.2.2) := by
  have ho := mo_X4_init_32 hm
  unfold f_X4_init_32 at hm
  refine hv_dup dX4_init_32 rfl ?_
  refine hv_aload_n 0 dX4_init_33 rfl rfl ?_
  obtain ⟨x1, hx1, hm⟩ := hp_bd hm
  refine hv_get lk_f_X4_28 dX4_init_34 (hp_fR_spec hx1) ?_
  obtain ⟨x2, hx2, hm⟩ := hp_bd hm
  refine hv_callI (As := [.ref x1]) (rest := [.ref s0, .ref s1]) Z_X6_init rfl I_X6_init lk_m_X4_34 (c_X6_init G n s0 x1 h sz sl _ hx2) rfl (Nat.le_of_ble_eq_true rfl) ⟨Nat.le_of_ble_eq_true rfl, Nat.le_of_ble_eq_true rfl⟩ ho.1 ho.2 rfl dX4_init_37 ?_
  refine hv_as [.ref s0, .ref s1] x2 rfl rfl ?_
  obtain ⟨h3, hh3, hm⟩ := hp_bd hm
  refine hv_putF lk_f_X4_37 (by intro C T N e; cases e; rfl) rfl dX4_init_40 rfl rfl hh3 ?_
  obtain rfl := Option.some.inj hm
  exact hv_vret rfl dX4_init_43
def f_X4_init_20 (n : Nat) (v0 : Nat) (v1 : Nat) (s0 : Nat) (s1 : Nat) (h : hp_H) (sz sl : Nat) : Option (hp_H × Nat × Nat) :=
  (hp_pF h 4 s1 10 (.ref s0)).bind fun h1 =>
  (hp_pF h1 4 v0 1 (.ref v1)).bind fun h2 =>
  f_X4_init_32 n v1 sz v0 (hp_nw h2 sz 6 tyX6) (sz + 1) (sl + 5)
set_option maxHeartbeats 1000000 in
set_option maxRecDepth 4000 in
theorem mo_X4_init_20 {n : Nat} {v0 : Nat} {v1 : Nat} {s0 : Nat} {s1 : Nat} {h : hp_H} {sz sl : Nat} {res : hp_H × Nat × Nat} (hm : f_X4_init_20 n v0 v1 s0 s1 h sz sl = some res) : sz ≤ res.2.1 ∧ sl ≤ res.2.2 := by
  unfold f_X4_init_20 at hm
  obtain ⟨h1, hh1, hm⟩ := hp_bd hm
  obtain ⟨h2, hh2, hm⟩ := hp_bd hm
  exact hp_tr ⟨Nat.le_add_right _ _, Nat.le_add_right _ _⟩ (mo_X4_init_32 hm)
set_option maxHeartbeats 1000000 in
set_option maxRecDepth 4000 in
theorem q_X4_init_20 (G : hp_G) (n : Nat) (v0 : Nat) (v1 : Nat) (s0 : Nat) (s1 : Nat) (h : hp_H) (sz sl : Nat) (res : hp_H × Nat × Nat) (hm : f_X4_init_20 n v0 v1 s0 s1 h sz sl = some res) : hp_V G m_X4_init 20 [(0, .ref v0), (1, .ref v1)] [.ref s0, .ref s1] h sz sl (none, res.1, res.2.1, res.2.2) := by
  have ho := mo_X4_init_20 hm
  unfold f_X4_init_20 at hm
  obtain ⟨h1, hh1, hm⟩ := hp_bd hm
  refine hv_putF lk_f_X4_18 (by intro C T N e; cases e; rfl) rfl dX4_init_20 rfl rfl hh1 ?_
  refine hv_aload_n 0 dX4_init_23 rfl rfl ?_
  refine hv_aload_n 1 dX4_init_24 rfl rfl ?_
  obtain ⟨h2, hh2, hm⟩ := hp_bd hm
  refine hv_put lk_f_X4_22 dX4_init_25 rfl rfl hh2 ?_
  refine hv_aload_n 0 dX4_init_28 rfl rfl ?_
  have hq := mo_X4_init_32 hm
  refine hv_new CL6 lk_k_X4_26 dX4_init_29 hq.1 hq.2 ?_
  exact hv_sub [1] rfl (q_X4_init_32 G n v1 sz v0 (hp_nw h2 sz 6 tyX6) (sz + 1) (sl + 5) _ hm)
def f_X4_init_12 (n : Nat) (v0 : Nat) (v1 : Nat) (s0 : Nat) (s1 : Nat) (h : hp_H) (sz sl : Nat) : Option (hp_H × Nat × Nat) :=
  (hp_pF h 4 s1 3 (.ref s0)).bind fun h1 =>
  f_X4_init_20 n v0 v1 sz v0 (hp_na h1 sz 0 8) (sz + 1) (sl + 8)
set_option maxHeartbeats 1000000 in
set_option maxRecDepth 4000 in
theorem mo_X4_init_12 {n : Nat} {v0 : Nat} {v1 : Nat} {s0 : Nat} {s1 : Nat} {h : hp_H} {sz sl : Nat} {res : hp_H × Nat × Nat} (hm : f_X4_init_12 n v0 v1 s0 s1 h sz sl = some res) : sz ≤ res.2.1 ∧ sl ≤ res.2.2 := by
  unfold f_X4_init_12 at hm
  obtain ⟨h1, hh1, hm⟩ := hp_bd hm
  exact hp_tr ⟨Nat.le_add_right _ _, Nat.le_add_right _ _⟩ (mo_X4_init_20 hm)
set_option maxHeartbeats 1000000 in
set_option maxRecDepth 4000 in
theorem q_X4_init_12 (G : hp_G) (n : Nat) (v0 : Nat) (v1 : Nat) (s0 : Nat) (s1 : Nat) (h : hp_H) (sz sl : Nat) (res : hp_H × Nat × Nat) (hm : f_X4_init_12 n v0 v1 s0 s1 h sz sl = some res) : hp_V G m_X4_init 12 [(0, .ref v0), (1, .ref v1)] [.ref s0, .ref s1] h sz sl (none, res.1, res.2.1, res.2.2) := by
  have ho := mo_X4_init_12 hm
  unfold f_X4_init_12 at hm
  obtain ⟨h1, hh1, hm⟩ := hp_bd hm
  refine hv_putF lk_f_X4_12 (by intro C T N e; cases e; rfl) rfl dX4_init_12 rfl rfl hh1 ?_
  refine hv_aload_n 0 dX4_init_15 rfl rfl ?_
  refine hv_bipush (8 : Int32) dX4_init_16 (by decide) ?_
  have hq := mo_X4_init_20 hm
  refine hv_newI (N := 8) ac_int (by decide) (by decide) dX4_init_18 hq.1 hq.2 ?_
  exact hv_sub [0, 1] rfl (q_X4_init_20 G n v0 v1 sz v0 (hp_na h1 sz 0 8) (sz + 1) (sl + 8) _ hm)
def f_X4_init_8 (n : Nat) (v0 : Nat) (v1 : Nat) (s0 : Nat) (s1 : Nat) (h : hp_H) (sz sl : Nat) : Option (hp_H × Nat × Nat) :=
  (f_X7_init n s0 h sz sl).bind fun x1 =>
  f_X4_init_12 n v0 v1 s0 s1 x1.1 x1.2.1 x1.2.2
set_option maxHeartbeats 1000000 in
set_option maxRecDepth 4000 in
theorem mo_X4_init_8 {n : Nat} {v0 : Nat} {v1 : Nat} {s0 : Nat} {s1 : Nat} {h : hp_H} {sz sl : Nat} {res : hp_H × Nat × Nat} (hm : f_X4_init_8 n v0 v1 s0 s1 h sz sl = some res) : sz ≤ res.2.1 ∧ sl ≤ res.2.2 := by
  unfold f_X4_init_8 at hm
  obtain ⟨x1, hx1, hm⟩ := hp_bd hm
  exact hp_tr (mx_X7_init hx1) (mo_X4_init_12 hm)
set_option maxHeartbeats 1000000 in
set_option maxRecDepth 4000 in
theorem q_X4_init_8 (G : hp_G) (n : Nat) (v0 : Nat) (v1 : Nat) (s0 : Nat) (s1 : Nat) (h : hp_H) (sz sl : Nat) (res : hp_H × Nat × Nat) (hm : f_X4_init_8 n v0 v1 s0 s1 h sz sl = some res) : hp_V G m_X4_init 8 [(0, .ref v0), (1, .ref v1)] [.ref s0, .ref s1] h sz sl (none, res.1, res.2.1, res.2.2) := by
  have ho := mo_X4_init_8 hm
  unfold f_X4_init_8 at hm
  refine hv_dup dX4_init_8 rfl ?_
  obtain ⟨x1, hx1, hm⟩ := hp_bd hm
  have hq := mo_X4_init_12 hm
  refine hv_callIN (As := []) (rest := [.ref s0, .ref s1]) Z_X7_init rfl I_X7_init lk_m_X4_11 (c_X7_init G n s0 h sz sl _ hx1) rfl (Nat.le_of_ble_eq_true rfl) ⟨Nat.le_of_ble_eq_true rfl, Nat.le_of_ble_eq_true rfl⟩ hq.1 hq.2 rfl dX4_init_9 ?_
  refine hv_as2 [.ref s0, .ref s1] x1.1 x1.2.1 x1.2.2 rfl rfl rfl rfl ?_
  exact hv_sub [0, 1] rfl (q_X4_init_12 G n v0 v1 s0 s1 x1.1 x1.2.1 x1.2.2 _ hm)
def f_X4_init_0 (n : Nat) (v0 : Nat) (v1 : Nat) (h : hp_H) (sz sl : Nat) : Option (hp_H × Nat × Nat) :=
  f_X4_init_8 n v0 v1 sz v0 (hp_nw h sz 7 tyX7) (sz + 1) (sl + 13)
set_option maxHeartbeats 1000000 in
set_option maxRecDepth 4000 in
theorem mo_X4_init_0 {n : Nat} {v0 : Nat} {v1 : Nat} {h : hp_H} {sz sl : Nat} {res : hp_H × Nat × Nat} (hm : f_X4_init_0 n v0 v1 h sz sl = some res) : sz ≤ res.2.1 ∧ sl ≤ res.2.2 := by
  unfold f_X4_init_0 at hm
  exact hp_tr ⟨Nat.le_add_right _ _, Nat.le_add_right _ _⟩ (mo_X4_init_8 hm)
set_option maxHeartbeats 1000000 in
set_option maxRecDepth 4000 in
theorem q_X4_init_0 (G : hp_G) (n : Nat) (v0 : Nat) (v1 : Nat) (h : hp_H) (sz sl : Nat) (res : hp_H × Nat × Nat) (hm : f_X4_init_0 n v0 v1 h sz sl = some res) : hp_V G m_X4_init 0 [(0, .ref v0), (1, .ref v1)] [] h sz sl (none, res.1, res.2.1, res.2.2) := by
  have ho := mo_X4_init_0 hm
  unfold f_X4_init_0 at hm
  refine hv_aload_n 0 dX4_init_0 rfl rfl ?_
  refine hv_objInit lk_o_X4_3 ⟨Nat.le_of_ble_eq_true rfl, Nat.le_of_ble_eq_true rfl⟩ dX4_init_1 ?_
  refine hv_aload_n 0 dX4_init_4 rfl rfl ?_
  have hq := mo_X4_init_8 hm
  refine hv_new CL7 lk_k_X4_9 dX4_init_5 hq.1 hq.2 ?_
  exact hv_sub [0, 1] rfl (q_X4_init_8 G n v0 v1 sz v0 (hp_nw h sz 7 tyX7) (sz + 1) (sl + 13) _ hm)
def f_X4_init (n : Nat) (v0 : Nat) (v1 : Nat) (h : hp_H) (sz sl : Nat) : Option (hp_H × Nat × Nat) := (hp_ck h 4 v0).bind fun _ => f_X4_init_0 n v0 v1 h sz sl
theorem c_X4_init (G : hp_G) (n : Nat) (v0 : Nat) (v1 : Nat) (h : hp_H) (sz sl : Nat) (res : hp_H × Nat × Nat) (hm : f_X4_init n v0 v1 h sz sl = some res) : hp_C G m_X4_init yX4_init [.ref v0, .ref v1] h sz sl (none, res.1, res.2.1, res.2.2) := by
  unfold f_X4_init at hm
  obtain ⟨_, _, hm⟩ := hp_bd hm
  exact hp_C_of (by decide) rfl rfl (Nat.le_of_ble_eq_true rfl) (mo_X4_init_0 hm).1 (mo_X4_init_0 hm).2 (hv_sub [0, 1] rfl (q_X4_init_0 G n v0 v1 h sz sl res hm))
theorem k_X4_init {n : Nat} {v0 : Nat} {v1 : Nat} {h : hp_H} {sz sl : Nat} {res : hp_H × Nat × Nat} (hm : f_X4_init n v0 v1 h sz sl = some res) : ∃ V, h v0 = some (.inr (.inr (4, V))) := by
  unfold f_X4_init at hm
  obtain ⟨_, hu, _⟩ := hp_bd hm
  exact hp_ck_spec hu
theorem mx_X4_init {n : Nat} {v0 : Nat} {v1 : Nat} {h : hp_H} {sz sl : Nat} {res : hp_H × Nat × Nat} (hm : f_X4_init n v0 v1 h sz sl = some res) : sz ≤ res.2.1 ∧ sl ≤ res.2.2 := by
  unfold f_X4_init at hm
  obtain ⟨_, _, hm⟩ := hp_bd hm
  exact mo_X4_init_0 hm
abbrev m_X4_namedByToken : hp_M := (RX4, cX4_namedByToken, 1, some .int, 2, 49, "namedByToken")
theorem Z_X4_namedByToken : hp_Y yX4_namedByToken m_X4_namedByToken 0 := Y_X4_namedByToken
def f_X4_namedByToken_0 (n : Nat) (v0 : Nat) (h : hp_H) : Option (Int32) :=
  (hp_fR h 4 v0 1).bind fun x1 =>
  (hp_fR h 0 x1 0).bind fun x2 =>
  (hp_fR h 4 v0 1).bind fun x3 =>
  (hp_fR h 0 x3 1).bind fun x4 =>
  (hp_fR h 4 v0 2).bind fun x5 =>
  (hp_fI h 6 x5 0).bind fun x6 =>
  (hp_fR h 4 v0 2).bind fun x7 =>
  (hp_fI h 6 x7 1).bind fun x8 =>
  (hp_fR h 4 v0 2).bind fun x9 =>
  (hp_fI h 6 x9 0).bind fun x10 =>
  (f_X2_lookUp n x2 x4 x6 (x8 - x10) h).bind fun x11 =>
  some x11
set_option maxHeartbeats 1000000 in
set_option maxRecDepth 4000 in
theorem q_X4_namedByToken_0 (G : hp_G) (n : Nat) (v0 : Nat) (h : hp_H) (sz sl : Nat) (res : Int32) (hm : f_X4_namedByToken_0 n v0 h = some res) : hp_V G m_X4_namedByToken 0 [(0, .ref v0)] [] h sz sl (some (.int res), h, sz, sl) := by
  have ho : sz ≤ sz ∧ sl ≤ sl := ⟨Nat.le_refl _, Nat.le_refl _⟩
  unfold f_X4_namedByToken_0 at hm
  refine hv_aload_n 0 dX4_namedByToken_0 rfl rfl ?_
  obtain ⟨x1, hx1, hm⟩ := hp_bd hm
  refine hv_get lk_f_X4_22 dX4_namedByToken_1 (hp_fR_spec hx1) ?_
  obtain ⟨x2, hx2, hm⟩ := hp_bd hm
  refine hv_get lk_f_X4_122 dX4_namedByToken_4 (hp_fR_spec hx2) ?_
  refine hv_aload_n 0 dX4_namedByToken_7 rfl rfl ?_
  obtain ⟨x3, hx3, hm⟩ := hp_bd hm
  refine hv_get lk_f_X4_22 dX4_namedByToken_8 (hp_fR_spec hx3) ?_
  obtain ⟨x4, hx4, hm⟩ := hp_bd hm
  refine hv_get lk_f_X4_28 dX4_namedByToken_11 (hp_fR_spec hx4) ?_
  refine hv_aload_n 0 dX4_namedByToken_14 rfl rfl ?_
  obtain ⟨x5, hx5, hm⟩ := hp_bd hm
  refine hv_get lk_f_X4_37 dX4_namedByToken_15 (hp_fR_spec hx5) ?_
  obtain ⟨x6, hx6, hm⟩ := hp_bd hm
  refine hv_get lk_f_X4_92 dX4_namedByToken_18 (hp_fI_spec hx6) ?_
  refine hv_aload_n 0 dX4_namedByToken_21 rfl rfl ?_
  obtain ⟨x7, hx7, hm⟩ := hp_bd hm
  refine hv_get lk_f_X4_37 dX4_namedByToken_22 (hp_fR_spec hx7) ?_
  obtain ⟨x8, hx8, hm⟩ := hp_bd hm
  refine hv_get lk_f_X4_116 dX4_namedByToken_25 (hp_fI_spec hx8) ?_
  refine hv_aload_n 0 dX4_namedByToken_28 rfl rfl ?_
  obtain ⟨x9, hx9, hm⟩ := hp_bd hm
  refine hv_get lk_f_X4_37 dX4_namedByToken_29 (hp_fR_spec hx9) ?_
  obtain ⟨x10, hx10, hm⟩ := hp_bd hm
  refine hv_get lk_f_X4_92 dX4_namedByToken_32 (hp_fI_spec hx10) ?_
  refine hv_isub dX4_namedByToken_35 ?_
  obtain ⟨x11, hx11, hm⟩ := hp_bd hm
  obtain ⟨Vx11, hVx11⟩ := k_X2_lookUp hx11
  refine hv_callV (As := [.ref x4, .int x6, .int (x8 - x10)]) (rest := []) Z_X2_lookUp I_X2_lookUp lk_m_X4_126 rfl hVx11 (c_X2_lookUp G n x2 x4 x6 (x8 - x10) h sz sl _ hx11) rfl (Nat.le_of_ble_eq_true rfl) ⟨Nat.le_of_ble_eq_true rfl, Nat.le_of_ble_eq_true rfl⟩ ho.1 ho.2 rfl dX4_namedByToken_36 ?_
  refine hv_as [.int x11] h rfl rfl ?_
  obtain rfl := Option.some.inj hm
  exact hv_iret rfl dX4_namedByToken_39
def f_X4_namedByToken (n : Nat) (v0 : Nat) (h : hp_H) : Option (Int32) := (hp_ck h 4 v0).bind fun _ => f_X4_namedByToken_0 n v0 h
theorem c_X4_namedByToken (G : hp_G) (n : Nat) (v0 : Nat) (h : hp_H) (sz sl : Nat) (res : Int32) (hm : f_X4_namedByToken n v0 h = some res) : hp_C G m_X4_namedByToken yX4_namedByToken [.ref v0] h sz sl (some (.int res), h, sz, sl) := by
  unfold f_X4_namedByToken at hm
  obtain ⟨_, _, hm⟩ := hp_bd hm
  exact hp_C_of (by decide) rfl rfl (Nat.le_of_ble_eq_true rfl) (Nat.le_refl _) (Nat.le_refl _) (hv_sub [0] rfl (q_X4_namedByToken_0 G n v0 h sz sl res hm))
theorem k_X4_namedByToken {n : Nat} {v0 : Nat} {h : hp_H} {res : Int32} (hm : f_X4_namedByToken n v0 h = some res) : ∃ V, h v0 = some (.inr (.inr (4, V))) := by
  unfold f_X4_namedByToken at hm
  obtain ⟨_, hu, _⟩ := hp_bd hm
  exact hp_ck_spec hu
abbrev m_X4_takeLabel : hp_M := (RX4, cX4_takeLabel, 1, some .int, 3, 69, "takeLabel")
theorem Z_X4_takeLabel : hp_Y yX4_takeLabel m_X4_takeLabel 0 := Y_X4_takeLabel
def f_X4_takeLabel_0 (n : Nat) (v0 : Nat) (h : hp_H) : Option (Int32 × hp_H) :=
  (hp_fR h 4 v0 1).bind fun x1 =>
  (hp_fI h 0 x1 5).bind fun x2 =>
  if x2 = (200 : Int32) then
    some ((7 : Int32), h)
  else
    (hp_fR h 4 v0 2).bind fun x3 =>
    (f_X6_isLabel n x3 h).bind fun x4 =>
    if x4 = 0 then
      some ((4 : Int32), h)
    else
      (f_X4_namedByToken n v0 h).bind fun x5 =>
      if x5 = (-1 : Int32) then
        (hp_fR h 4 v0 2).bind fun x6 =>
        (hp_fI h 6 x6 0).bind fun x7 =>
        (hp_pF h 4 v0 7 (.int x7)).bind fun h8 =>
        (hp_fR h8 4 v0 2).bind fun x9 =>
        (hp_fI h8 6 x9 1).bind fun x10 =>
        (hp_fR h8 4 v0 2).bind fun x11 =>
        (hp_fI h8 6 x11 0).bind fun x12 =>
        (hp_pF h8 4 v0 8 (.int (x10 - x12))).bind fun h13 =>
        (hp_pF h13 4 v0 4 (.int (1 : Int32))).bind fun h14 =>
        some ((0 : Int32), h14)
      else
        some ((4 : Int32), h)
set_option maxHeartbeats 1000000 in
set_option maxRecDepth 4000 in
theorem q_X4_takeLabel_0 (G : hp_G) (n : Nat) (v0 : Nat) (h : hp_H) (sz sl : Nat) (res : Int32 × hp_H) (hm : f_X4_takeLabel_0 n v0 h = some res) : hp_V G m_X4_takeLabel 0 [(0, .ref v0)] [] h sz sl (some (.int res.1), res.2, sz, sl) := by
  have ho : sz ≤ sz ∧ sl ≤ sl := ⟨Nat.le_refl _, Nat.le_refl _⟩
  unfold f_X4_takeLabel_0 at hm
  refine hv_aload_n 0 dX4_takeLabel_0 rfl rfl ?_
  obtain ⟨x1, hx1, hm⟩ := hp_bd hm
  refine hv_get lk_f_X4_22 dX4_takeLabel_1 (hp_fR_spec hx1) ?_
  obtain ⟨x2, hx2, hm⟩ := hp_bd hm
  refine hv_get lk_f_X4_104 dX4_takeLabel_4 (hp_fI_spec hx2) ?_
  refine hv_sipush (200 : Int32) dX4_takeLabel_7 (by decide) ?_
  refine hv_icmp_ne (tgt := 16) dX4_takeLabel_10 (by decide) (fun c17 => ?_) (fun c17 => ?_)
  · rw [if_neg c17] at hm
    refine hv_aload_n 0 dX4_takeLabel_16 rfl rfl ?_
    obtain ⟨x3, hx3, hm⟩ := hp_bd hm
    refine hv_get lk_f_X4_37 dX4_takeLabel_17 (hp_fR_spec hx3) ?_
    obtain ⟨x4, hx4, hm⟩ := hp_bd hm
    obtain ⟨Vx4, hVx4⟩ := k_X6_isLabel hx4
    refine hv_callV (As := []) (rest := []) Z_X6_isLabel I_X6_isLabel lk_m_X4_107 rfl hVx4 (c_X6_isLabel G n x3 h sz sl _ hx4) rfl (Nat.le_of_ble_eq_true rfl) ⟨Nat.le_of_ble_eq_true rfl, Nat.le_of_ble_eq_true rfl⟩ ho.1 ho.2 rfl dX4_takeLabel_20 ?_
    refine hv_as [.int x4] h rfl rfl ?_
    refine hv_if_eq (tgt := 34) dX4_takeLabel_23 (by decide) (fun c16 => ?_) (fun c16 => ?_)
    · rw [if_pos c16] at hm
      refine hv_iconst (4 : Int32) dX4_takeLabel_34 (by decide) ?_
      obtain rfl := Option.some.inj hm
      exact hv_iret rfl dX4_takeLabel_35
    · rw [if_neg c16] at hm
      refine hv_aload_n 0 dX4_takeLabel_26 rfl rfl ?_
      obtain ⟨x5, hx5, hm⟩ := hp_bd hm
      obtain ⟨Vx5, hVx5⟩ := k_X4_namedByToken hx5
      refine hv_callV (As := []) (rest := []) Z_X4_namedByToken I_X4_namedByToken lk_m_X4_110 rfl hVx5 (c_X4_namedByToken G n v0 h sz sl _ hx5) rfl (Nat.le_of_ble_eq_true rfl) ⟨Nat.le_of_ble_eq_true rfl, Nat.le_of_ble_eq_true rfl⟩ ho.1 ho.2 rfl dX4_takeLabel_27 ?_
      refine hv_as [.int x5] h rfl rfl ?_
      refine hv_iconst (-1 : Int32) dX4_takeLabel_30 (by decide) ?_
      refine hv_icmp_eq (tgt := 36) dX4_takeLabel_31 (by decide) (fun c15 => ?_) (fun c15 => ?_)
      · rw [if_pos c15] at hm
        refine hv_aload_n 0 dX4_takeLabel_36 rfl rfl ?_
        refine hv_aload_n 0 dX4_takeLabel_37 rfl rfl ?_
        obtain ⟨x6, hx6, hm⟩ := hp_bd hm
        refine hv_get lk_f_X4_37 dX4_takeLabel_38 (hp_fR_spec hx6) ?_
        obtain ⟨x7, hx7, hm⟩ := hp_bd hm
        refine hv_get lk_f_X4_92 dX4_takeLabel_41 (hp_fI_spec hx7) ?_
        obtain ⟨h8, hh8, hm⟩ := hp_bd hm
        refine hv_put lk_f_X4_113 dX4_takeLabel_44 rfl rfl hh8 ?_
        refine hv_aload_n 0 dX4_takeLabel_47 rfl rfl ?_
        refine hv_aload_n 0 dX4_takeLabel_48 rfl rfl ?_
        obtain ⟨x9, hx9, hm⟩ := hp_bd hm
        refine hv_get lk_f_X4_37 dX4_takeLabel_49 (hp_fR_spec hx9) ?_
        obtain ⟨x10, hx10, hm⟩ := hp_bd hm
        refine hv_get lk_f_X4_116 dX4_takeLabel_52 (hp_fI_spec hx10) ?_
        refine hv_aload_n 0 dX4_takeLabel_55 rfl rfl ?_
        obtain ⟨x11, hx11, hm⟩ := hp_bd hm
        refine hv_get lk_f_X4_37 dX4_takeLabel_56 (hp_fR_spec hx11) ?_
        obtain ⟨x12, hx12, hm⟩ := hp_bd hm
        refine hv_get lk_f_X4_92 dX4_takeLabel_59 (hp_fI_spec hx12) ?_
        refine hv_isub dX4_takeLabel_62 ?_
        obtain ⟨h13, hh13, hm⟩ := hp_bd hm
        refine hv_put lk_f_X4_119 dX4_takeLabel_63 rfl rfl hh13 ?_
        refine hv_aload_n 0 dX4_takeLabel_66 rfl rfl ?_
        refine hv_iconst (1 : Int32) dX4_takeLabel_67 (by decide) ?_
        obtain ⟨h14, hh14, hm⟩ := hp_bd hm
        refine hv_put lk_f_X4_53 dX4_takeLabel_68 rfl rfl hh14 ?_
        refine hv_iconst (0 : Int32) dX4_takeLabel_71 (by decide) ?_
        obtain rfl := Option.some.inj hm
        exact hv_iret rfl dX4_takeLabel_72
      · rw [if_neg c15] at hm
        refine hv_iconst (4 : Int32) dX4_takeLabel_34 (by decide) ?_
        obtain rfl := Option.some.inj hm
        exact hv_iret rfl dX4_takeLabel_35
  · rw [if_pos c17] at hm
    refine hv_bipush (7 : Int32) dX4_takeLabel_13 (by decide) ?_
    obtain rfl := Option.some.inj hm
    exact hv_iret rfl dX4_takeLabel_15
def f_X4_takeLabel (n : Nat) (v0 : Nat) (h : hp_H) : Option (Int32 × hp_H) := (hp_ck h 4 v0).bind fun _ => f_X4_takeLabel_0 n v0 h
theorem c_X4_takeLabel (G : hp_G) (n : Nat) (v0 : Nat) (h : hp_H) (sz sl : Nat) (res : Int32 × hp_H) (hm : f_X4_takeLabel n v0 h = some res) : hp_C G m_X4_takeLabel yX4_takeLabel [.ref v0] h sz sl (some (.int res.1), res.2, sz, sl) := by
  unfold f_X4_takeLabel at hm
  obtain ⟨_, _, hm⟩ := hp_bd hm
  exact hp_C_of (by decide) rfl rfl (Nat.le_of_ble_eq_true rfl) (Nat.le_refl _) (Nat.le_refl _) (hv_sub [0] rfl (q_X4_takeLabel_0 G n v0 h sz sl res hm))
theorem k_X4_takeLabel {n : Nat} {v0 : Nat} {h : hp_H} {res : Int32 × hp_H} (hm : f_X4_takeLabel n v0 h = some res) : ∃ V, h v0 = some (.inr (.inr (4, V))) := by
  unfold f_X4_takeLabel at hm
  obtain ⟨_, hu, _⟩ := hp_bd hm
  exact hp_ck_spec hu
abbrev m_X4_begin : hp_M := (RX4, cX4_begin, 2, some .int, 0, 0, "begin")
theorem Z_X4_begin : hp_Y yX4_begin m_X4_begin 1 := Y_X4_begin
def f_X4_begin_0 (n : Nat) (v0 : Nat) (v1 : Int32) (h : hp_H) : Option (Int32 × hp_H) :=
  (hp_pF h 4 v0 4 (.int v1)).bind fun h1 =>
  (hp_pF h1 4 v0 9 (.int (0 : Int32))).bind fun h2 =>
  some ((0 : Int32), h2)
set_option maxHeartbeats 1000000 in
set_option maxRecDepth 4000 in
theorem q_X4_begin_0 (G : hp_G) (n : Nat) (v0 : Nat) (v1 : Int32) (h : hp_H) (sz sl : Nat) (res : Int32 × hp_H) (hm : f_X4_begin_0 n v0 v1 h = some res) : hp_V G m_X4_begin 0 [(0, .ref v0), (1, .int v1)] [] h sz sl (some (.int res.1), res.2, sz, sl) := by
  have ho : sz ≤ sz ∧ sl ≤ sl := ⟨Nat.le_refl _, Nat.le_refl _⟩
  unfold f_X4_begin_0 at hm
  refine hv_aload_n 0 dX4_begin_0 rfl rfl ?_
  refine hv_iload_n 1 dX4_begin_1 rfl rfl ?_
  obtain ⟨h1, hh1, hm⟩ := hp_bd hm
  refine hv_put lk_f_X4_53 dX4_begin_2 rfl rfl hh1 ?_
  refine hv_aload_n 0 dX4_begin_5 rfl rfl ?_
  refine hv_iconst (0 : Int32) dX4_begin_6 (by decide) ?_
  obtain ⟨h2, hh2, hm⟩ := hp_bd hm
  refine hv_put lk_f_X4_146 dX4_begin_7 rfl rfl hh2 ?_
  refine hv_iconst (0 : Int32) dX4_begin_10 (by decide) ?_
  obtain rfl := Option.some.inj hm
  exact hv_iret rfl dX4_begin_11
def f_X4_begin (n : Nat) (v0 : Nat) (v1 : Int32) (h : hp_H) : Option (Int32 × hp_H) := (hp_ck h 4 v0).bind fun _ => f_X4_begin_0 n v0 v1 h
theorem c_X4_begin (G : hp_G) (n : Nat) (v0 : Nat) (v1 : Int32) (h : hp_H) (sz sl : Nat) (res : Int32 × hp_H) (hm : f_X4_begin n v0 v1 h = some res) : hp_C G m_X4_begin yX4_begin [.ref v0, .int v1] h sz sl (some (.int res.1), res.2, sz, sl) := by
  unfold f_X4_begin at hm
  obtain ⟨_, _, hm⟩ := hp_bd hm
  exact hp_C_of (by decide) rfl rfl (Nat.le_of_ble_eq_true rfl) (Nat.le_refl _) (Nat.le_refl _) (hv_sub [0, 1] rfl (q_X4_begin_0 G n v0 v1 h sz sl res hm))
theorem k_X4_begin {n : Nat} {v0 : Nat} {v1 : Int32} {h : hp_H} {res : Int32 × hp_H} (hm : f_X4_begin n v0 v1 h = some res) : ∃ V, h v0 = some (.inr (.inr (4, V))) := by
  unfold f_X4_begin at hm
  obtain ⟨_, hu, _⟩ := hp_bd hm
  exact hp_ck_spec hu
abbrev m_X4_takeOutside : hp_M := (RX4, cX4_takeOutside, 2, some .int, 4, 91, "takeOutside")
theorem Z_X4_takeOutside : hp_Y yX4_takeOutside m_X4_takeOutside 1 := Y_X4_takeOutside
def f_X4_takeOutside_84 (n : Nat) (v0 : Nat) (h : hp_H) : Option (Int32 × hp_H) :=
  (f_X4_begin n v0 (2 : Int32) h).bind fun x1 =>
  some (x1.1, x1.2)
set_option maxHeartbeats 1000000 in
set_option maxRecDepth 4000 in
theorem q_X4_takeOutside_84 (G : hp_G) (n : Nat) (v0 : Nat) (h : hp_H) (sz sl : Nat) (res : Int32 × hp_H) (hm : f_X4_takeOutside_84 n v0 h = some res) : hp_V G m_X4_takeOutside 84 [(0, .ref v0)] [] h sz sl (some (.int res.1), res.2, sz, sl) := by
  have ho : sz ≤ sz ∧ sl ≤ sl := ⟨Nat.le_refl _, Nat.le_refl _⟩
  unfold f_X4_takeOutside_84 at hm
  refine hv_aload_n 0 dX4_takeOutside_84 rfl rfl ?_
  refine hv_iconst (2 : Int32) dX4_takeOutside_85 (by decide) ?_
  obtain ⟨x1, hx1, hm⟩ := hp_bd hm
  obtain ⟨Vx1, hVx1⟩ := k_X4_begin hx1
  refine hv_callV (As := [.int (2 : Int32)]) (rest := []) Z_X4_begin I_X4_begin lk_m_X4_136 rfl hVx1 (c_X4_begin G n v0 (2 : Int32) h sz sl _ hx1) rfl (Nat.le_of_ble_eq_true rfl) ⟨Nat.le_of_ble_eq_true rfl, Nat.le_of_ble_eq_true rfl⟩ ho.1 ho.2 rfl dX4_takeOutside_86 ?_
  refine hv_as [.int x1.1] x1.2 rfl rfl ?_
  refine hv_goto (tgt := 93) dX4_takeOutside_89 (by decide) ?_
  obtain rfl := Option.some.inj hm
  exact hv_iret rfl dX4_takeOutside_93
def f_X4_takeOutside_64 (n : Nat) (v0 : Nat) (s0 : Int32) (s1 : Nat) (h : hp_H) : Option (Int32 × hp_H) :=
  (hp_bz s0).bind fun _ =>
  (hp_pF h 4 s1 5 (.int s0)).bind fun h1 =>
  (hp_fI h1 4 v0 5).bind fun x3 =>
  if x3 = 0 then
    (hp_fR h1 4 v0 3).bind fun x4 =>
    (hp_fI h1 7 x4 0).bind fun x5 =>
    if x5 = 0 then
      f_X4_takeOutside_84 n v0 h1
    else
      some ((3 : Int32), h1)
  else
    f_X4_takeOutside_84 n v0 h1
set_option maxHeartbeats 1000000 in
set_option maxRecDepth 4000 in
theorem q_X4_takeOutside_64 (G : hp_G) (n : Nat) (v0 : Nat) (s0 : Int32) (s1 : Nat) (h : hp_H) (sz sl : Nat) (res : Int32 × hp_H) (hm : f_X4_takeOutside_64 n v0 s0 s1 h = some res) : hp_V G m_X4_takeOutside 64 [(0, .ref v0)] [.int s0, .ref s1] h sz sl (some (.int res.1), res.2, sz, sl) := by
  have ho : sz ≤ sz ∧ sl ≤ sl := ⟨Nat.le_refl _, Nat.le_refl _⟩
  unfold f_X4_takeOutside_64 at hm
  obtain ⟨_, hu2, hm⟩ := hp_bd hm
  obtain ⟨h1, hh1, hm⟩ := hp_bd hm
  refine hv_put lk_f_X4_132 dX4_takeOutside_64 (hp_bz_nar (hp_bz_spec hu2)) (hp_bz_fit (hp_bz_spec hu2)) hh1 ?_
  refine hv_aload_n 0 dX4_takeOutside_67 rfl rfl ?_
  obtain ⟨x3, hx3, hm⟩ := hp_bd hm
  refine hv_get lk_f_X4_132 dX4_takeOutside_68 (hp_fI_spec hx3) ?_
  refine hv_if_ne (tgt := 84) dX4_takeOutside_71 (by decide) (fun c7 => ?_) (fun c7 => ?_)
  · rw [if_neg c7] at hm
    exact hv_sub [0] rfl (q_X4_takeOutside_84 G n v0 h1 sz sl _ hm)
  · rw [if_pos c7] at hm
    refine hv_aload_n 0 dX4_takeOutside_74 rfl rfl ?_
    obtain ⟨x4, hx4, hm⟩ := hp_bd hm
    refine hv_get lk_f_X4_12 dX4_takeOutside_75 (hp_fR_spec hx4) ?_
    obtain ⟨x5, hx5, hm⟩ := hp_bd hm
    refine hv_get lk_f_X4_101 dX4_takeOutside_78 (hp_fI_spec hx5) ?_
    refine hv_if_ne (tgt := 92) dX4_takeOutside_81 (by decide) (fun c6 => ?_) (fun c6 => ?_)
    · rw [if_neg c6] at hm
      refine hv_iconst (3 : Int32) dX4_takeOutside_92 (by decide) ?_
      obtain rfl := Option.some.inj hm
      exact hv_iret rfl dX4_takeOutside_93
    · rw [if_pos c6] at hm
      exact hv_sub [0] rfl (q_X4_takeOutside_84 G n v0 h1 sz sl _ hm)
def f_X4_takeOutside_52 (n : Nat) (v0 : Nat) (v1 : Int32) (h : hp_H) : Option (Int32 × hp_H) :=
  if v1 = (118 : Int32) then
    f_X4_takeOutside_64 n v0 (1 : Int32) v0 h
  else
    f_X4_takeOutside_64 n v0 (0 : Int32) v0 h
set_option maxHeartbeats 1000000 in
set_option maxRecDepth 4000 in
theorem q_X4_takeOutside_52 (G : hp_G) (n : Nat) (v0 : Nat) (v1 : Int32) (h : hp_H) (sz sl : Nat) (res : Int32 × hp_H) (hm : f_X4_takeOutside_52 n v0 v1 h = some res) : hp_V G m_X4_takeOutside 52 [(0, .ref v0), (1, .int v1)] [] h sz sl (some (.int res.1), res.2, sz, sl) := by
  have ho : sz ≤ sz ∧ sl ≤ sl := ⟨Nat.le_refl _, Nat.le_refl _⟩
  unfold f_X4_takeOutside_52 at hm
  refine hv_aload_n 0 dX4_takeOutside_52 rfl rfl ?_
  refine hv_iload_n 1 dX4_takeOutside_53 rfl rfl ?_
  refine hv_bipush (118 : Int32) dX4_takeOutside_54 (by decide) ?_
  refine hv_icmp_ne (tgt := 63) dX4_takeOutside_56 (by decide) (fun c1 => ?_) (fun c1 => ?_)
  · rw [if_neg c1] at hm
    refine hv_iconst (0 : Int32) dX4_takeOutside_63 (by decide) ?_
    exact hv_sub [0] rfl (q_X4_takeOutside_64 G n v0 (0 : Int32) v0 h sz sl _ hm)
  · rw [if_pos c1] at hm
    refine hv_iconst (1 : Int32) dX4_takeOutside_59 (by decide) ?_
    refine hv_goto (tgt := 64) dX4_takeOutside_60 (by decide) ?_
    exact hv_sub [0] rfl (q_X4_takeOutside_64 G n v0 (1 : Int32) v0 h sz sl _ hm)
def f_X4_takeOutside_0 (n : Nat) (v0 : Nat) (v1 : Int32) (h : hp_H) : Option (Int32 × hp_H) :=
  if v1 = (99 : Int32) then
    f_X4_takeOutside_52 n v0 v1 h
  else if v1 = (100 : Int32) then
    (f_X4_begin n v0 (3 : Int32) h).bind fun x3 =>
    some (x3.1, x3.2)
  else if v1 = (118 : Int32) then
    f_X4_takeOutside_52 n v0 v1 h
  else if v1 = (123 : Int32) then
    (hp_fR h 4 v0 3).bind fun x6 =>
    (f_X7_openBlock n x6 h).bind fun x7 =>
    if x7.1 = 0 then
      some ((7 : Int32), x7.2)
    else
      some ((0 : Int32), x7.2)
  else if v1 = (125 : Int32) then
    (hp_fR h 4 v0 3).bind fun x10 =>
    (hp_fI h 7 x10 0).bind fun x11 =>
    if x11 = 0 then
      some ((3 : Int32), h)
    else
      (hp_fR h 4 v0 3).bind fun x12 =>
      (hp_fR h 4 v0 1).bind fun x13 =>
      (f_X7_closeBlock n x12 x13 h).bind fun x14 =>
      some ((0 : Int32), x14)
  else 
    some ((3 : Int32), h)
set_option maxHeartbeats 1000000 in
set_option maxRecDepth 4000 in
theorem q_X4_takeOutside_0 (G : hp_G) (n : Nat) (v0 : Nat) (v1 : Int32) (h : hp_H) (sz sl : Nat) (res : Int32 × hp_H) (hm : f_X4_takeOutside_0 n v0 v1 h = some res) : hp_V G m_X4_takeOutside 0 [(0, .ref v0), (1, .int v1)] [] h sz sl (some (.int res.1), res.2, sz, sl) := by
  have ho : sz ≤ sz ∧ sl ≤ sl := ⟨Nat.le_refl _, Nat.le_refl _⟩
  unfold f_X4_takeOutside_0 at hm
  refine hv_iload_n 1 dX4_takeOutside_0 rfl rfl ?_
  by_cases c1 : v1 = (99 : Int32)
  · rw [if_pos c1] at hm
    refine hv_lookup (off := 51) (tgt := 52) dX4_takeOutside_1 (by decide) (by rw [c1]; rfl) (by decide) ?_
    exact hv_sub [0, 1] rfl (q_X4_takeOutside_52 G n v0 v1 h sz sl _ hm)
  rw [if_neg c1] at hm
  by_cases c2 : v1 = (100 : Int32)
  · rw [if_pos c2] at hm
    refine hv_lookup (off := 93) (tgt := 94) dX4_takeOutside_1 (by decide) (by rw [c2]; rfl) (by decide) ?_
    refine hv_aload_n 0 dX4_takeOutside_94 rfl rfl ?_
    refine hv_iconst (3 : Int32) dX4_takeOutside_95 (by decide) ?_
    obtain ⟨x3, hx3, hm⟩ := hp_bd hm
    obtain ⟨Vx3, hVx3⟩ := k_X4_begin hx3
    refine hv_callV (As := [.int (3 : Int32)]) (rest := []) Z_X4_begin I_X4_begin lk_m_X4_136 rfl hVx3 (c_X4_begin G n v0 (3 : Int32) h sz sl _ hx3) rfl (Nat.le_of_ble_eq_true rfl) ⟨Nat.le_of_ble_eq_true rfl, Nat.le_of_ble_eq_true rfl⟩ ho.1 ho.2 rfl dX4_takeOutside_96 ?_
    refine hv_as [.int x3.1] x3.2 rfl rfl ?_
    obtain rfl := Option.some.inj hm
    exact hv_iret rfl dX4_takeOutside_99
  rw [if_neg c2] at hm
  by_cases c4 : v1 = (118 : Int32)
  · rw [if_pos c4] at hm
    refine hv_lookup (off := 51) (tgt := 52) dX4_takeOutside_1 (by decide) (by rw [c4]; rfl) (by decide) ?_
    exact hv_sub [0, 1] rfl (q_X4_takeOutside_52 G n v0 v1 h sz sl _ hm)
  rw [if_neg c4] at hm
  by_cases c5 : v1 = (123 : Int32)
  · rw [if_pos c5] at hm
    refine hv_lookup (off := 99) (tgt := 100) dX4_takeOutside_1 (by decide) (by rw [c5]; rfl) (by decide) ?_
    refine hv_aload_n 0 dX4_takeOutside_100 rfl rfl ?_
    obtain ⟨x6, hx6, hm⟩ := hp_bd hm
    refine hv_get lk_f_X4_12 dX4_takeOutside_101 (hp_fR_spec hx6) ?_
    obtain ⟨x7, hx7, hm⟩ := hp_bd hm
    obtain ⟨Vx7, hVx7⟩ := k_X7_openBlock hx7
    refine hv_callV (As := []) (rest := []) Z_X7_openBlock I_X7_openBlock lk_m_X4_139 rfl hVx7 (c_X7_openBlock G n x6 h sz sl _ hx7) rfl (Nat.le_of_ble_eq_true rfl) ⟨Nat.le_of_ble_eq_true rfl, Nat.le_of_ble_eq_true rfl⟩ ho.1 ho.2 rfl dX4_takeOutside_104 ?_
    refine hv_as [.int x7.1] x7.2 rfl rfl ?_
    refine hv_if_eq (tgt := 114) dX4_takeOutside_107 (by decide) (fun c8 => ?_) (fun c8 => ?_)
    · rw [if_pos c8] at hm
      refine hv_bipush (7 : Int32) dX4_takeOutside_114 (by decide) ?_
      obtain rfl := Option.some.inj hm
      exact hv_iret rfl dX4_takeOutside_116
    · rw [if_neg c8] at hm
      refine hv_iconst (0 : Int32) dX4_takeOutside_110 (by decide) ?_
      refine hv_goto (tgt := 116) dX4_takeOutside_111 (by decide) ?_
      obtain rfl := Option.some.inj hm
      exact hv_iret rfl dX4_takeOutside_116
  rw [if_neg c5] at hm
  by_cases c9 : v1 = (125 : Int32)
  · rw [if_pos c9] at hm
    refine hv_lookup (off := 116) (tgt := 117) dX4_takeOutside_1 (by decide) (by rw [c9]; rfl) (by decide) ?_
    refine hv_aload_n 0 dX4_takeOutside_117 rfl rfl ?_
    obtain ⟨x10, hx10, hm⟩ := hp_bd hm
    refine hv_get lk_f_X4_12 dX4_takeOutside_118 (hp_fR_spec hx10) ?_
    obtain ⟨x11, hx11, hm⟩ := hp_bd hm
    refine hv_get lk_f_X4_101 dX4_takeOutside_121 (hp_fI_spec hx11) ?_
    refine hv_if_ne (tgt := 129) dX4_takeOutside_124 (by decide) (fun c15 => ?_) (fun c15 => ?_)
    · rw [if_neg c15] at hm
      refine hv_aload_n 0 dX4_takeOutside_129 rfl rfl ?_
      obtain ⟨x12, hx12, hm⟩ := hp_bd hm
      refine hv_get lk_f_X4_12 dX4_takeOutside_130 (hp_fR_spec hx12) ?_
      refine hv_aload_n 0 dX4_takeOutside_133 rfl rfl ?_
      obtain ⟨x13, hx13, hm⟩ := hp_bd hm
      refine hv_get lk_f_X4_22 dX4_takeOutside_134 (hp_fR_spec hx13) ?_
      obtain ⟨x14, hx14, hm⟩ := hp_bd hm
      obtain ⟨Vx14, hVx14⟩ := k_X7_closeBlock hx14
      refine hv_callV (As := [.ref x13]) (rest := []) Z_X7_closeBlock I_X7_closeBlock lk_m_X4_142 rfl hVx14 (c_X7_closeBlock G n x12 x13 h sz sl _ hx14) rfl (Nat.le_of_ble_eq_true rfl) ⟨Nat.le_of_ble_eq_true rfl, Nat.le_of_ble_eq_true rfl⟩ ho.1 ho.2 rfl dX4_takeOutside_137 ?_
      refine hv_as [] x14 rfl rfl ?_
      refine hv_iconst (0 : Int32) dX4_takeOutside_140 (by decide) ?_
      obtain rfl := Option.some.inj hm
      exact hv_iret rfl dX4_takeOutside_141
    · rw [if_pos c15] at hm
      refine hv_iconst (3 : Int32) dX4_takeOutside_127 (by decide) ?_
      obtain rfl := Option.some.inj hm
      exact hv_iret rfl dX4_takeOutside_128
  rw [if_neg c9] at hm
  refine hv_lookup (off := 141) (tgt := 142) dX4_takeOutside_1 (by decide) (by show Op.lookupswitch.offset [(99, 51), (100, 93), (118, 51), (123, 99), (125, 116)] 141 _ = _; rw [lv_osw c1 (show (99 : Int32).toInt = 99 by decide), lv_osw c2 (show (100 : Int32).toInt = 100 by decide), lv_osw c4 (show (118 : Int32).toInt = 118 by decide), lv_osw c5 (show (123 : Int32).toInt = 123 by decide), lv_osw c9 (show (125 : Int32).toInt = 125 by decide)]; rfl) (by decide) ?_
  refine hv_iconst (3 : Int32) dX4_takeOutside_142 (by decide) ?_
  obtain rfl := Option.some.inj hm
  exact hv_iret rfl dX4_takeOutside_143
def f_X4_takeOutside (n : Nat) (v0 : Nat) (v1 : Int32) (h : hp_H) : Option (Int32 × hp_H) := (hp_ck h 4 v0).bind fun _ => f_X4_takeOutside_0 n v0 v1 h
theorem c_X4_takeOutside (G : hp_G) (n : Nat) (v0 : Nat) (v1 : Int32) (h : hp_H) (sz sl : Nat) (res : Int32 × hp_H) (hm : f_X4_takeOutside n v0 v1 h = some res) : hp_C G m_X4_takeOutside yX4_takeOutside [.ref v0, .int v1] h sz sl (some (.int res.1), res.2, sz, sl) := by
  unfold f_X4_takeOutside at hm
  obtain ⟨_, _, hm⟩ := hp_bd hm
  exact hp_C_of (by decide) rfl rfl (Nat.le_of_ble_eq_true rfl) (Nat.le_refl _) (Nat.le_refl _) (hv_sub [0, 1] rfl (q_X4_takeOutside_0 G n v0 v1 h sz sl res hm))
theorem k_X4_takeOutside {n : Nat} {v0 : Nat} {v1 : Int32} {h : hp_H} {res : Int32 × hp_H} (hm : f_X4_takeOutside n v0 v1 h = some res) : ∃ V, h v0 = some (.inr (.inr (4, V))) := by
  unfold f_X4_takeOutside at hm
  obtain ⟨_, hu, _⟩ := hp_bd hm
  exact hp_ck_spec hu
abbrev m_X4_takeKind : hp_M := (RX4, cX4_takeKind, 2, some .int, 1, 21, "takeKind")
theorem Z_X4_takeKind : hp_Y yX4_takeKind m_X4_takeKind 1 := Y_X4_takeKind
def f_X4_takeKind_0 (n : Nat) (v0 : Nat) (v1 : Int32) (h : hp_H) : Option (Int32 × hp_H) :=
  if v1 = (97 : Int32) then
    (hp_pF h 4 v0 6 (.int (2 : Int32))).bind fun h2 =>
    (f_X4_begin n v0 (4 : Int32) h2).bind fun x3 =>
    some (x3.1, x3.2)
  else if v1 = (101 : Int32) then
    (hp_pF h 4 v0 6 (.int (1 : Int32))).bind fun h5 =>
    (f_X4_begin n v0 (4 : Int32) h5).bind fun x6 =>
    some (x6.1, x6.2)
  else if v1 = (102 : Int32) then
    (hp_pF h 4 v0 6 (.int (0 : Int32))).bind fun h8 =>
    (f_X4_begin n v0 (4 : Int32) h8).bind fun x9 =>
    some (x9.1, x9.2)
  else if v1 = (112 : Int32) then
    (hp_pF h 4 v0 6 (.int (3 : Int32))).bind fun h11 =>
    (f_X4_begin n v0 (4 : Int32) h11).bind fun x12 =>
    some (x12.1, x12.2)
  else 
    some ((3 : Int32), h)
set_option maxHeartbeats 1000000 in
set_option maxRecDepth 4000 in
theorem q_X4_takeKind_0 (G : hp_G) (n : Nat) (v0 : Nat) (v1 : Int32) (h : hp_H) (sz sl : Nat) (res : Int32 × hp_H) (hm : f_X4_takeKind_0 n v0 v1 h = some res) : hp_V G m_X4_takeKind 0 [(0, .ref v0), (1, .int v1)] [] h sz sl (some (.int res.1), res.2, sz, sl) := by
  have ho : sz ≤ sz ∧ sl ≤ sl := ⟨Nat.le_refl _, Nat.le_refl _⟩
  unfold f_X4_takeKind_0 at hm
  refine hv_iload_n 1 dX4_takeKind_0 rfl rfl ?_
  by_cases c1 : v1 = (97 : Int32)
  · rw [if_pos c1] at hm
    refine hv_lookup (off := 65) (tgt := 66) dX4_takeKind_1 (by decide) (by rw [c1]; rfl) (by decide) ?_
    refine hv_aload_n 0 dX4_takeKind_66 rfl rfl ?_
    refine hv_iconst (2 : Int32) dX4_takeKind_67 (by decide) ?_
    obtain ⟨h2, hh2, hm⟩ := hp_bd hm
    refine hv_put lk_f_X4_149 dX4_takeKind_68 rfl rfl hh2 ?_
    refine hv_aload_n 0 dX4_takeKind_71 rfl rfl ?_
    refine hv_iconst (4 : Int32) dX4_takeKind_72 (by decide) ?_
    obtain ⟨x3, hx3, hm⟩ := hp_bd hm
    obtain ⟨Vx3, hVx3⟩ := k_X4_begin hx3
    refine hv_callV (As := [.int (4 : Int32)]) (rest := []) Z_X4_begin I_X4_begin lk_m_X4_136 rfl hVx3 (c_X4_begin G n v0 (4 : Int32) h2 sz sl _ hx3) rfl (Nat.le_of_ble_eq_true rfl) ⟨Nat.le_of_ble_eq_true rfl, Nat.le_of_ble_eq_true rfl⟩ ho.1 ho.2 rfl dX4_takeKind_73 ?_
    refine hv_as [.int x3.1] x3.2 rfl rfl ?_
    obtain rfl := Option.some.inj hm
    exact hv_iret rfl dX4_takeKind_76
  rw [if_neg c1] at hm
  by_cases c4 : v1 = (101 : Int32)
  · rw [if_pos c4] at hm
    refine hv_lookup (off := 54) (tgt := 55) dX4_takeKind_1 (by decide) (by rw [c4]; rfl) (by decide) ?_
    refine hv_aload_n 0 dX4_takeKind_55 rfl rfl ?_
    refine hv_iconst (1 : Int32) dX4_takeKind_56 (by decide) ?_
    obtain ⟨h5, hh5, hm⟩ := hp_bd hm
    refine hv_put lk_f_X4_149 dX4_takeKind_57 rfl rfl hh5 ?_
    refine hv_aload_n 0 dX4_takeKind_60 rfl rfl ?_
    refine hv_iconst (4 : Int32) dX4_takeKind_61 (by decide) ?_
    obtain ⟨x6, hx6, hm⟩ := hp_bd hm
    obtain ⟨Vx6, hVx6⟩ := k_X4_begin hx6
    refine hv_callV (As := [.int (4 : Int32)]) (rest := []) Z_X4_begin I_X4_begin lk_m_X4_136 rfl hVx6 (c_X4_begin G n v0 (4 : Int32) h5 sz sl _ hx6) rfl (Nat.le_of_ble_eq_true rfl) ⟨Nat.le_of_ble_eq_true rfl, Nat.le_of_ble_eq_true rfl⟩ ho.1 ho.2 rfl dX4_takeKind_62 ?_
    refine hv_as [.int x6.1] x6.2 rfl rfl ?_
    obtain rfl := Option.some.inj hm
    exact hv_iret rfl dX4_takeKind_65
  rw [if_neg c4] at hm
  by_cases c7 : v1 = (102 : Int32)
  · rw [if_pos c7] at hm
    refine hv_lookup (off := 43) (tgt := 44) dX4_takeKind_1 (by decide) (by rw [c7]; rfl) (by decide) ?_
    refine hv_aload_n 0 dX4_takeKind_44 rfl rfl ?_
    refine hv_iconst (0 : Int32) dX4_takeKind_45 (by decide) ?_
    obtain ⟨h8, hh8, hm⟩ := hp_bd hm
    refine hv_put lk_f_X4_149 dX4_takeKind_46 rfl rfl hh8 ?_
    refine hv_aload_n 0 dX4_takeKind_49 rfl rfl ?_
    refine hv_iconst (4 : Int32) dX4_takeKind_50 (by decide) ?_
    obtain ⟨x9, hx9, hm⟩ := hp_bd hm
    obtain ⟨Vx9, hVx9⟩ := k_X4_begin hx9
    refine hv_callV (As := [.int (4 : Int32)]) (rest := []) Z_X4_begin I_X4_begin lk_m_X4_136 rfl hVx9 (c_X4_begin G n v0 (4 : Int32) h8 sz sl _ hx9) rfl (Nat.le_of_ble_eq_true rfl) ⟨Nat.le_of_ble_eq_true rfl, Nat.le_of_ble_eq_true rfl⟩ ho.1 ho.2 rfl dX4_takeKind_51 ?_
    refine hv_as [.int x9.1] x9.2 rfl rfl ?_
    obtain rfl := Option.some.inj hm
    exact hv_iret rfl dX4_takeKind_54
  rw [if_neg c7] at hm
  by_cases c10 : v1 = (112 : Int32)
  · rw [if_pos c10] at hm
    refine hv_lookup (off := 76) (tgt := 77) dX4_takeKind_1 (by decide) (by rw [c10]; rfl) (by decide) ?_
    refine hv_aload_n 0 dX4_takeKind_77 rfl rfl ?_
    refine hv_iconst (3 : Int32) dX4_takeKind_78 (by decide) ?_
    obtain ⟨h11, hh11, hm⟩ := hp_bd hm
    refine hv_put lk_f_X4_149 dX4_takeKind_79 rfl rfl hh11 ?_
    refine hv_aload_n 0 dX4_takeKind_82 rfl rfl ?_
    refine hv_iconst (4 : Int32) dX4_takeKind_83 (by decide) ?_
    obtain ⟨x12, hx12, hm⟩ := hp_bd hm
    obtain ⟨Vx12, hVx12⟩ := k_X4_begin hx12
    refine hv_callV (As := [.int (4 : Int32)]) (rest := []) Z_X4_begin I_X4_begin lk_m_X4_136 rfl hVx12 (c_X4_begin G n v0 (4 : Int32) h11 sz sl _ hx12) rfl (Nat.le_of_ble_eq_true rfl) ⟨Nat.le_of_ble_eq_true rfl, Nat.le_of_ble_eq_true rfl⟩ ho.1 ho.2 rfl dX4_takeKind_84 ?_
    refine hv_as [.int x12.1] x12.2 rfl rfl ?_
    obtain rfl := Option.some.inj hm
    exact hv_iret rfl dX4_takeKind_87
  rw [if_neg c10] at hm
  refine hv_lookup (off := 87) (tgt := 88) dX4_takeKind_1 (by decide) (by show Op.lookupswitch.offset [(97, 65), (101, 54), (102, 43), (112, 76)] 87 _ = _; rw [lv_osw c1 (show (97 : Int32).toInt = 97 by decide), lv_osw c4 (show (101 : Int32).toInt = 101 by decide), lv_osw c7 (show (102 : Int32).toInt = 102 by decide), lv_osw c10 (show (112 : Int32).toInt = 112 by decide)]; rfl) (by decide) ?_
  refine hv_iconst (3 : Int32) dX4_takeKind_88 (by decide) ?_
  obtain rfl := Option.some.inj hm
  exact hv_iret rfl dX4_takeKind_89
def f_X4_takeKind (n : Nat) (v0 : Nat) (v1 : Int32) (h : hp_H) : Option (Int32 × hp_H) := (hp_ck h 4 v0).bind fun _ => f_X4_takeKind_0 n v0 v1 h
theorem c_X4_takeKind (G : hp_G) (n : Nat) (v0 : Nat) (v1 : Int32) (h : hp_H) (sz sl : Nat) (res : Int32 × hp_H) (hm : f_X4_takeKind n v0 v1 h = some res) : hp_C G m_X4_takeKind yX4_takeKind [.ref v0, .int v1] h sz sl (some (.int res.1), res.2, sz, sl) := by
  unfold f_X4_takeKind at hm
  obtain ⟨_, _, hm⟩ := hp_bd hm
  exact hp_C_of (by decide) rfl rfl (Nat.le_of_ble_eq_true rfl) (Nat.le_refl _) (Nat.le_refl _) (hv_sub [0, 1] rfl (q_X4_takeKind_0 G n v0 v1 h sz sl res hm))
theorem k_X4_takeKind {n : Nat} {v0 : Nat} {v1 : Int32} {h : hp_H} {res : Int32 × hp_H} (hm : f_X4_takeKind n v0 v1 h = some res) : ∃ V, h v0 = some (.inr (.inr (4, V))) := by
  unfold f_X4_takeKind at hm
  obtain ⟨_, hu, _⟩ := hp_bd hm
  exact hp_ck_spec hu
abbrev m_X4_takeDeclared : hp_M := (RX4, cX4_takeDeclared, 5, some .int, 3, 72, "takeDeclared")
theorem Z_X4_takeDeclared : hp_Y yX4_takeDeclared m_X4_takeDeclared 1 := Y_X4_takeDeclared
def f_X4_takeDeclared_170 (n : Nat) (v0 : Nat) (h : hp_H) : Option (Int32 × hp_H) :=
  (hp_fI h 4 v0 9).bind fun x1 =>
  (hp_pF h 4 v0 9 (.int (x1 + (1 : Int32)))).bind fun h2 =>
  some ((0 : Int32), h2)
set_option maxHeartbeats 1000000 in
set_option maxRecDepth 4000 in
theorem q_X4_takeDeclared_170 (G : hp_G) (n : Nat) (v0 : Nat) (h : hp_H) (sz sl : Nat) (res : Int32 × hp_H) (hm : f_X4_takeDeclared_170 n v0 h = some res) : hp_V G m_X4_takeDeclared 170 [(0, .ref v0)] [] h sz sl (some (.int res.1), res.2, sz, sl) := by
  have ho : sz ≤ sz ∧ sl ≤ sl := ⟨Nat.le_refl _, Nat.le_refl _⟩
  unfold f_X4_takeDeclared_170 at hm
  refine hv_aload_n 0 dX4_takeDeclared_170 rfl rfl ?_
  refine hv_dup dX4_takeDeclared_171 rfl ?_
  obtain ⟨x1, hx1, hm⟩ := hp_bd hm
  refine hv_get lk_f_X4_146 dX4_takeDeclared_172 (hp_fI_spec hx1) ?_
  refine hv_iconst (1 : Int32) dX4_takeDeclared_175 (by decide) ?_
  refine hv_iadd dX4_takeDeclared_176 ?_
  obtain ⟨h2, hh2, hm⟩ := hp_bd hm
  refine hv_put lk_f_X4_146 dX4_takeDeclared_177 rfl rfl hh2 ?_
  refine hv_iconst (0 : Int32) dX4_takeDeclared_180 (by decide) ?_
  obtain rfl := Option.some.inj hm
  exact hv_iret rfl dX4_takeDeclared_181
def f_X4_takeDeclared_155 (n : Nat) (v0 : Nat) (v2 : Int32) (h : hp_H) : Option (Int32 × hp_H) :=
  (hp_fI h 4 v0 5).bind fun x1 =>
  if x1 = 0 then
    f_X4_takeDeclared_170 n v0 h
  else
    (hp_fR h 4 v0 3).bind fun x2 =>
    (f_X7_activate n x2 v2 h).bind fun x3 =>
    f_X4_takeDeclared_170 n v0 x3
set_option maxHeartbeats 1000000 in
set_option maxRecDepth 4000 in
theorem q_X4_takeDeclared_155 (G : hp_G) (n : Nat) (v0 : Nat) (v2 : Int32) (h : hp_H) (sz sl : Nat) (res : Int32 × hp_H) (hm : f_X4_takeDeclared_155 n v0 v2 h = some res) : hp_V G m_X4_takeDeclared 155 [(0, .ref v0), (2, .int v2)] [] h sz sl (some (.int res.1), res.2, sz, sl) := by
  have ho : sz ≤ sz ∧ sl ≤ sl := ⟨Nat.le_refl _, Nat.le_refl _⟩
  unfold f_X4_takeDeclared_155 at hm
  refine hv_aload_n 0 dX4_takeDeclared_155 rfl rfl ?_
  obtain ⟨x1, hx1, hm⟩ := hp_bd hm
  refine hv_get lk_f_X4_132 dX4_takeDeclared_156 (hp_fI_spec hx1) ?_
  refine hv_if_eq (tgt := 170) dX4_takeDeclared_159 (by decide) (fun c4 => ?_) (fun c4 => ?_)
  · rw [if_pos c4] at hm
    exact hv_sub [0] rfl (q_X4_takeDeclared_170 G n v0 h sz sl _ hm)
  · rw [if_neg c4] at hm
    refine hv_aload_n 0 dX4_takeDeclared_162 rfl rfl ?_
    obtain ⟨x2, hx2, hm⟩ := hp_bd hm
    refine hv_get lk_f_X4_12 dX4_takeDeclared_163 (hp_fR_spec hx2) ?_
    refine hv_iload_n 1 dX4_takeDeclared_166 rfl rfl ?_
    obtain ⟨x3, hx3, hm⟩ := hp_bd hm
    obtain ⟨Vx3, hVx3⟩ := k_X7_activate hx3
    refine hv_callV (As := [.int v2]) (rest := []) Z_X7_activate I_X7_activate lk_m_X4_166 rfl hVx3 (c_X7_activate G n x2 v2 h sz sl _ hx3) rfl (Nat.le_of_ble_eq_true rfl) ⟨Nat.le_of_ble_eq_true rfl, Nat.le_of_ble_eq_true rfl⟩ ho.1 ho.2 rfl dX4_takeDeclared_167 ?_
    refine hv_as [] x3 rfl rfl ?_
    exact hv_sub [0] rfl (q_X4_takeDeclared_170 G n v0 x3 sz sl _ hm)
def f_X4_takeDeclared_116 (n : Nat) (v0 : Nat) (v2 : Int32) (v4 : Int32) (h : hp_H) : Option (Int32 × hp_H) :=
  if v4 = 0 then
    (hp_fR h 4 v0 1).bind fun x1 =>
    (hp_fI h 4 v0 5).bind fun x2 =>
    (hp_fR h 4 v0 2).bind fun x3 =>
    (hp_fI h 6 x3 0).bind fun x4 =>
    (hp_fR h 4 v0 2).bind fun x5 =>
    (hp_fI h 6 x5 1).bind fun x6 =>
    (hp_fR h 4 v0 2).bind fun x7 =>
    (hp_fI h 6 x7 0).bind fun x8 =>
    (f_X0_addSymbol n x1 x2 x4 (x6 - x8) h).bind fun x9 =>
    f_X4_takeDeclared_155 n v0 x9.1 x9.2
  else
    f_X4_takeDeclared_155 n v0 v2 h
set_option maxHeartbeats 1000000 in
set_option maxRecDepth 4000 in
theorem q_X4_takeDeclared_116 (G : hp_G) (n : Nat) (v0 : Nat) (v2 : Int32) (v4 : Int32) (h : hp_H) (sz sl : Nat) (res : Int32 × hp_H) (hm : f_X4_takeDeclared_116 n v0 v2 v4 h = some res) : hp_V G m_X4_takeDeclared 116 [(0, .ref v0), (2, .int v2), (4, .int v4)] [] h sz sl (some (.int res.1), res.2, sz, sl) := by
  have ho : sz ≤ sz ∧ sl ≤ sl := ⟨Nat.le_refl _, Nat.le_refl _⟩
  unfold f_X4_takeDeclared_116 at hm
  refine hv_iload 2 dX4_takeDeclared_116 rfl ?_
  refine hv_if_ne (tgt := 155) dX4_takeDeclared_118 (by decide) (fun c10 => ?_) (fun c10 => ?_)
  · rw [if_neg c10] at hm
    exact hv_sub [0, 1] rfl (q_X4_takeDeclared_155 G n v0 v2 h sz sl _ hm)
  · rw [if_pos c10] at hm
    refine hv_aload_n 0 dX4_takeDeclared_121 rfl rfl ?_
    obtain ⟨x1, hx1, hm⟩ := hp_bd hm
    refine hv_get lk_f_X4_22 dX4_takeDeclared_122 (hp_fR_spec hx1) ?_
    refine hv_aload_n 0 dX4_takeDeclared_125 rfl rfl ?_
    obtain ⟨x2, hx2, hm⟩ := hp_bd hm
    refine hv_get lk_f_X4_132 dX4_takeDeclared_126 (hp_fI_spec hx2) ?_
    refine hv_aload_n 0 dX4_takeDeclared_129 rfl rfl ?_
    obtain ⟨x3, hx3, hm⟩ := hp_bd hm
    refine hv_get lk_f_X4_37 dX4_takeDeclared_130 (hp_fR_spec hx3) ?_
    obtain ⟨x4, hx4, hm⟩ := hp_bd hm
    refine hv_get lk_f_X4_92 dX4_takeDeclared_133 (hp_fI_spec hx4) ?_
    refine hv_aload_n 0 dX4_takeDeclared_136 rfl rfl ?_
    obtain ⟨x5, hx5, hm⟩ := hp_bd hm
    refine hv_get lk_f_X4_37 dX4_takeDeclared_137 (hp_fR_spec hx5) ?_
    obtain ⟨x6, hx6, hm⟩ := hp_bd hm
    refine hv_get lk_f_X4_116 dX4_takeDeclared_140 (hp_fI_spec hx6) ?_
    refine hv_aload_n 0 dX4_takeDeclared_143 rfl rfl ?_
    obtain ⟨x7, hx7, hm⟩ := hp_bd hm
    refine hv_get lk_f_X4_37 dX4_takeDeclared_144 (hp_fR_spec hx7) ?_
    obtain ⟨x8, hx8, hm⟩ := hp_bd hm
    refine hv_get lk_f_X4_92 dX4_takeDeclared_147 (hp_fI_spec hx8) ?_
    refine hv_isub dX4_takeDeclared_150 ?_
    obtain ⟨x9, hx9, hm⟩ := hp_bd hm
    obtain ⟨Vx9, hVx9⟩ := k_X0_addSymbol hx9
    refine hv_callV (As := [.int x2, .int x4, .int (x6 - x8)]) (rest := []) Z_X0_addSymbol I_X0_addSymbol lk_m_X4_162 rfl hVx9 (c_X0_addSymbol G n x1 x2 x4 (x6 - x8) h sz sl _ hx9) rfl (Nat.le_of_ble_eq_true rfl) ⟨Nat.le_of_ble_eq_true rfl, Nat.le_of_ble_eq_true rfl⟩ ho.1 ho.2 rfl dX4_takeDeclared_151 ?_
    refine hv_as [.int x9.1] x9.2 rfl rfl ?_
    refine hv_istore_n [(2, .int x9.1), (0, .ref v0), (4, .int v4)] dX4_takeDeclared_154 rfl (by decide) rfl ?_
    exact hv_sub [1, 0] rfl (q_X4_takeDeclared_155 G n v0 x9.1 x9.2 sz sl _ hm)
def f_X4_takeDeclared_102 (n : Nat) (v0 : Nat) (v2 : Int32) (s0 : Int32) (h : hp_H) : Option (Int32 × hp_H) :=
  if v2 = (-1 : Int32) then
    f_X4_takeDeclared_116 n v0 v2 s0 h
  else
    if s0 = 0 then
      some ((5 : Int32), h)
    else
      f_X4_takeDeclared_116 n v0 v2 s0 h
set_option maxHeartbeats 1000000 in
set_option maxRecDepth 4000 in
theorem q_X4_takeDeclared_102 (G : hp_G) (n : Nat) (v0 : Nat) (v2 : Int32) (s0 : Int32) (h : hp_H) (sz sl : Nat) (res : Int32 × hp_H) (hm : f_X4_takeDeclared_102 n v0 v2 s0 h = some res) : hp_V G m_X4_takeDeclared 102 [(0, .ref v0), (2, .int v2)] [.int s0] h sz sl (some (.int res.1), res.2, sz, sl) := by
  have ho : sz ≤ sz ∧ sl ≤ sl := ⟨Nat.le_refl _, Nat.le_refl _⟩
  unfold f_X4_takeDeclared_102 at hm
  refine hv_istore [(4, .int s0), (0, .ref v0), (2, .int v2)] dX4_takeDeclared_102 (by decide) rfl ?_
  refine hv_iload_n 2 dX4_takeDeclared_104 rfl rfl ?_
  refine hv_iconst (-1 : Int32) dX4_takeDeclared_105 (by decide) ?_
  refine hv_icmp_eq (tgt := 116) dX4_takeDeclared_106 (by decide) (fun c2 => ?_) (fun c2 => ?_)
  · rw [if_pos c2] at hm
    exact hv_sub [1, 2, 0] rfl (q_X4_takeDeclared_116 G n v0 v2 s0 h sz sl _ hm)
  · rw [if_neg c2] at hm
    refine hv_iload 0 dX4_takeDeclared_109 rfl ?_
    refine hv_if_ne (tgt := 116) dX4_takeDeclared_111 (by decide) (fun c1 => ?_) (fun c1 => ?_)
    · rw [if_neg c1] at hm
      exact hv_sub [1, 2, 0] rfl (q_X4_takeDeclared_116 G n v0 v2 s0 h sz sl _ hm)
    · rw [if_pos c1] at hm
      refine hv_iconst (5 : Int32) dX4_takeDeclared_114 (by decide) ?_
      obtain rfl := Option.some.inj hm
      exact hv_iret rfl dX4_takeDeclared_115
def f_X4_takeDeclared_101 (n : Nat) (v0 : Nat) (v2 : Int32) (h : hp_H) : Option (Int32 × hp_H) :=
  f_X4_takeDeclared_102 n v0 v2 (0 : Int32) h
set_option maxHeartbeats 1000000 in
set_option maxRecDepth 4000 in
theorem q_X4_takeDeclared_101 (G : hp_G) (n : Nat) (v0 : Nat) (v2 : Int32) (h : hp_H) (sz sl : Nat) (res : Int32 × hp_H) (hm : f_X4_takeDeclared_101 n v0 v2 h = some res) : hp_V G m_X4_takeDeclared 101 [(0, .ref v0), (2, .int v2)] [] h sz sl (some (.int res.1), res.2, sz, sl) := by
  have ho : sz ≤ sz ∧ sl ≤ sl := ⟨Nat.le_refl _, Nat.le_refl _⟩
  unfold f_X4_takeDeclared_101 at hm
  refine hv_iconst (0 : Int32) dX4_takeDeclared_101 (by decide) ?_
  exact hv_sub [0, 1] rfl (q_X4_takeDeclared_102 G n v0 v2 (0 : Int32) h sz sl _ hm)
def f_X4_takeDeclared_68 (n : Nat) (v0 : Nat) (v2 : Int32) (h : hp_H) : Option (Int32 × hp_H) :=
  (hp_fI h 4 v0 5).bind fun x1 =>
  if x1 = 0 then
    f_X4_takeDeclared_101 n v0 v2 h
  else
    (hp_fR h 4 v0 1).bind fun x2 =>
    (f_X0_isVariable n x2 v2 h).bind fun x3 =>
    if x3 = 0 then
      f_X4_takeDeclared_101 n v0 v2 h
    else
      (hp_fR h 4 v0 3).bind fun x4 =>
      (f_X7_isActive n x4 v2 h).bind fun x5 =>
      if x5 = 0 then
        f_X4_takeDeclared_102 n v0 v2 (1 : Int32) h
      else
        f_X4_takeDeclared_101 n v0 v2 h
set_option maxHeartbeats 1000000 in
set_option maxRecDepth 4000 in
theorem q_X4_takeDeclared_68 (G : hp_G) (n : Nat) (v0 : Nat) (v2 : Int32) (h : hp_H) (sz sl : Nat) (res : Int32 × hp_H) (hm : f_X4_takeDeclared_68 n v0 v2 h = some res) : hp_V G m_X4_takeDeclared 68 [(0, .ref v0), (2, .int v2)] [] h sz sl (some (.int res.1), res.2, sz, sl) := by
  have ho : sz ≤ sz ∧ sl ≤ sl := ⟨Nat.le_refl _, Nat.le_refl _⟩
  unfold f_X4_takeDeclared_68 at hm
  refine hv_aload_n 0 dX4_takeDeclared_68 rfl rfl ?_
  obtain ⟨x1, hx1, hm⟩ := hp_bd hm
  refine hv_get lk_f_X4_132 dX4_takeDeclared_69 (hp_fI_spec hx1) ?_
  refine hv_if_eq (tgt := 101) dX4_takeDeclared_72 (by decide) (fun c8 => ?_) (fun c8 => ?_)
  · rw [if_pos c8] at hm
    exact hv_sub [0, 1] rfl (q_X4_takeDeclared_101 G n v0 v2 h sz sl _ hm)
  · rw [if_neg c8] at hm
    refine hv_aload_n 0 dX4_takeDeclared_75 rfl rfl ?_
    obtain ⟨x2, hx2, hm⟩ := hp_bd hm
    refine hv_get lk_f_X4_22 dX4_takeDeclared_76 (hp_fR_spec hx2) ?_
    refine hv_iload_n 1 dX4_takeDeclared_79 rfl rfl ?_
    obtain ⟨x3, hx3, hm⟩ := hp_bd hm
    obtain ⟨Vx3, hVx3⟩ := k_X0_isVariable hx3
    refine hv_callV (As := [.int v2]) (rest := []) Z_X0_isVariable I_X0_isVariable lk_m_X4_155 rfl hVx3 (c_X0_isVariable G n x2 v2 h sz sl _ hx3) rfl (Nat.le_of_ble_eq_true rfl) ⟨Nat.le_of_ble_eq_true rfl, Nat.le_of_ble_eq_true rfl⟩ ho.1 ho.2 rfl dX4_takeDeclared_80 ?_
    refine hv_as [.int x3] h rfl rfl ?_
    refine hv_if_eq (tgt := 101) dX4_takeDeclared_83 (by decide) (fun c7 => ?_) (fun c7 => ?_)
    · rw [if_pos c7] at hm
      exact hv_sub [0, 1] rfl (q_X4_takeDeclared_101 G n v0 v2 h sz sl _ hm)
    · rw [if_neg c7] at hm
      refine hv_aload_n 0 dX4_takeDeclared_86 rfl rfl ?_
      obtain ⟨x4, hx4, hm⟩ := hp_bd hm
      refine hv_get lk_f_X4_12 dX4_takeDeclared_87 (hp_fR_spec hx4) ?_
      refine hv_iload_n 1 dX4_takeDeclared_90 rfl rfl ?_
      obtain ⟨x5, hx5, hm⟩ := hp_bd hm
      obtain ⟨Vx5, hVx5⟩ := k_X7_isActive hx5
      refine hv_callV (As := [.int v2]) (rest := []) Z_X7_isActive I_X7_isActive lk_m_X4_159 rfl hVx5 (c_X7_isActive G n x4 v2 h sz sl _ hx5) rfl (Nat.le_of_ble_eq_true rfl) ⟨Nat.le_of_ble_eq_true rfl, Nat.le_of_ble_eq_true rfl⟩ ho.1 ho.2 rfl dX4_takeDeclared_91 ?_
      refine hv_as [.int x5] h rfl rfl ?_
      refine hv_if_ne (tgt := 101) dX4_takeDeclared_94 (by decide) (fun c6 => ?_) (fun c6 => ?_)
      · rw [if_neg c6] at hm
        exact hv_sub [0, 1] rfl (q_X4_takeDeclared_101 G n v0 v2 h sz sl _ hm)
      · rw [if_pos c6] at hm
        refine hv_iconst (1 : Int32) dX4_takeDeclared_97 (by decide) ?_
        refine hv_goto (tgt := 102) dX4_takeDeclared_98 (by decide) ?_
        exact hv_sub [0, 1] rfl (q_X4_takeDeclared_102 G n v0 v2 (1 : Int32) h sz sl _ hm)
def f_X4_takeDeclared_47 (n : Nat) (v0 : Nat) (v2 : Int32) (s0 : Int32) (h : hp_H) : Option (Int32 × hp_H) :=
  if s0 = 0 then
    (hp_fR h 4 v0 1).bind fun x1 =>
    (hp_fI h 0 x1 3).bind fun x2 =>
    if x2 = (300 : Int32) then
      some ((7 : Int32), h)
    else
      f_X4_takeDeclared_68 n v0 v2 h
  else
    f_X4_takeDeclared_68 n v0 v2 h
set_option maxHeartbeats 1000000 in
set_option maxRecDepth 4000 in
theorem q_X4_takeDeclared_47 (G : hp_G) (n : Nat) (v0 : Nat) (v2 : Int32) (s0 : Int32) (h : hp_H) (sz sl : Nat) (res : Int32 × hp_H) (hm : f_X4_takeDeclared_47 n v0 v2 s0 h = some res) : hp_V G m_X4_takeDeclared 47 [(0, .ref v0), (2, .int v2)] [.int s0] h sz sl (some (.int res.1), res.2, sz, sl) := by
  have ho : sz ≤ sz ∧ sl ≤ sl := ⟨Nat.le_refl _, Nat.le_refl _⟩
  unfold f_X4_takeDeclared_47 at hm
  refine hv_istore_n [(3, .int s0), (0, .ref v0), (2, .int v2)] dX4_takeDeclared_47 rfl (by decide) rfl ?_
  refine hv_iload_n 0 dX4_takeDeclared_48 rfl rfl ?_
  refine hv_if_ne (tgt := 68) dX4_takeDeclared_49 (by decide) (fun c4 => ?_) (fun c4 => ?_)
  · rw [if_neg c4] at hm
    exact hv_sub [1, 2] rfl (q_X4_takeDeclared_68 G n v0 v2 h sz sl _ hm)
  · rw [if_pos c4] at hm
    refine hv_aload_n 1 dX4_takeDeclared_52 rfl rfl ?_
    obtain ⟨x1, hx1, hm⟩ := hp_bd hm
    refine hv_get lk_f_X4_22 dX4_takeDeclared_53 (hp_fR_spec hx1) ?_
    obtain ⟨x2, hx2, hm⟩ := hp_bd hm
    refine hv_get lk_f_X4_152 dX4_takeDeclared_56 (hp_fI_spec hx2) ?_
    refine hv_sipush (300 : Int32) dX4_takeDeclared_59 (by decide) ?_
    refine hv_icmp_ne (tgt := 68) dX4_takeDeclared_62 (by decide) (fun c3 => ?_) (fun c3 => ?_)
    · rw [if_neg c3] at hm
      exact hv_sub [1, 2] rfl (q_X4_takeDeclared_68 G n v0 v2 h sz sl _ hm)
    · rw [if_pos c3] at hm
      refine hv_bipush (7 : Int32) dX4_takeDeclared_65 (by decide) ?_
      obtain rfl := Option.some.inj hm
      exact hv_iret rfl dX4_takeDeclared_67
def f_X4_takeDeclared_46 (n : Nat) (v0 : Nat) (v2 : Int32) (h : hp_H) : Option (Int32 × hp_H) :=
  f_X4_takeDeclared_47 n v0 v2 (0 : Int32) h
set_option maxHeartbeats 1000000 in
set_option maxRecDepth 4000 in
theorem q_X4_takeDeclared_46 (G : hp_G) (n : Nat) (v0 : Nat) (v2 : Int32) (h : hp_H) (sz sl : Nat) (res : Int32 × hp_H) (hm : f_X4_takeDeclared_46 n v0 v2 h = some res) : hp_V G m_X4_takeDeclared 46 [(0, .ref v0), (2, .int v2)] [] h sz sl (some (.int res.1), res.2, sz, sl) := by
  have ho : sz ≤ sz ∧ sl ≤ sl := ⟨Nat.le_refl _, Nat.le_refl _⟩
  unfold f_X4_takeDeclared_46 at hm
  refine hv_iconst (0 : Int32) dX4_takeDeclared_46 (by decide) ?_
  exact hv_sub [0, 1] rfl (q_X4_takeDeclared_47 G n v0 v2 (0 : Int32) h sz sl _ hm)
def f_X4_takeDeclared_19 (n : Nat) (v0 : Nat) (v1 : Int32) (h : hp_H) : Option (Int32 × hp_H) :=
  if v1 = 0 then
    (f_X4_namedByToken n v0 h).bind fun x1 =>
    if x1 = (-1 : Int32) then
      f_X4_takeDeclared_46 n v0 x1 h
    else
      if (300 : Int32) ≤ x1 then
        f_X4_takeDeclared_46 n v0 x1 h
      else
        f_X4_takeDeclared_47 n v0 x1 (1 : Int32) h
  else
    some ((3 : Int32), h)
set_option maxHeartbeats 1000000 in
set_option maxRecDepth 4000 in
theorem q_X4_takeDeclared_19 (G : hp_G) (n : Nat) (v0 : Nat) (v1 : Int32) (h : hp_H) (sz sl : Nat) (res : Int32 × hp_H) (hm : f_X4_takeDeclared_19 n v0 v1 h = some res) : hp_V G m_X4_takeDeclared 19 [(0, .ref v0), (1, .int v1)] [] h sz sl (some (.int res.1), res.2, sz, sl) := by
  have ho : sz ≤ sz ∧ sl ≤ sl := ⟨Nat.le_refl _, Nat.le_refl _⟩
  unfold f_X4_takeDeclared_19 at hm
  refine hv_iload_n 1 dX4_takeDeclared_19 rfl rfl ?_
  refine hv_if_eq (tgt := 25) dX4_takeDeclared_20 (by decide) (fun c4 => ?_) (fun c4 => ?_)
  · rw [if_pos c4] at hm
    refine hv_aload_n 0 dX4_takeDeclared_25 rfl rfl ?_
    obtain ⟨x1, hx1, hm⟩ := hp_bd hm
    obtain ⟨Vx1, hVx1⟩ := k_X4_namedByToken hx1
    refine hv_callV (As := []) (rest := []) Z_X4_namedByToken I_X4_namedByToken lk_m_X4_110 rfl hVx1 (c_X4_namedByToken G n v0 h sz sl _ hx1) rfl (Nat.le_of_ble_eq_true rfl) ⟨Nat.le_of_ble_eq_true rfl, Nat.le_of_ble_eq_true rfl⟩ ho.1 ho.2 rfl dX4_takeDeclared_26 ?_
    refine hv_as [.int x1] h rfl rfl ?_
    refine hv_istore_n [(2, .int x1), (0, .ref v0), (1, .int v1)] dX4_takeDeclared_29 rfl (by decide) rfl ?_
    refine hv_iload_n 0 dX4_takeDeclared_30 rfl rfl ?_
    refine hv_iconst (-1 : Int32) dX4_takeDeclared_31 (by decide) ?_
    refine hv_icmp_eq (tgt := 46) dX4_takeDeclared_32 (by decide) (fun c3 => ?_) (fun c3 => ?_)
    · rw [if_pos c3] at hm
      exact hv_sub [1, 0] rfl (q_X4_takeDeclared_46 G n v0 x1 h sz sl _ hm)
    · rw [if_neg c3] at hm
      refine hv_iload_n 0 dX4_takeDeclared_35 rfl rfl ?_
      refine hv_sipush (300 : Int32) dX4_takeDeclared_36 (by decide) ?_
      refine hv_icmp_ge (tgt := 46) dX4_takeDeclared_39 (by decide) (fun c2 => ?_) (fun c2 => ?_)
      · rw [if_pos c2] at hm
        exact hv_sub [1, 0] rfl (q_X4_takeDeclared_46 G n v0 x1 h sz sl _ hm)
      · rw [if_neg c2] at hm
        refine hv_iconst (1 : Int32) dX4_takeDeclared_42 (by decide) ?_
        refine hv_goto (tgt := 47) dX4_takeDeclared_43 (by decide) ?_
        exact hv_sub [1, 0] rfl (q_X4_takeDeclared_47 G n v0 x1 (1 : Int32) h sz sl _ hm)
  · rw [if_neg c4] at hm
    refine hv_iconst (3 : Int32) dX4_takeDeclared_23 (by decide) ?_
    obtain rfl := Option.some.inj hm
    exact hv_iret rfl dX4_takeDeclared_24
def f_X4_takeDeclared_0 (n : Nat) (v0 : Nat) (v1 : Int32) (h : hp_H) : Option (Int32 × hp_H) :=
  if v1 = (46 : Int32) then
    (hp_fI h 4 v0 9).bind fun x1 =>
    if x1 ≤ 0 then
      f_X4_takeDeclared_19 n v0 v1 h
    else
      (f_X4_begin n v0 (0 : Int32) h).bind fun x2 =>
      some (x2.1, x2.2)
  else
    f_X4_takeDeclared_19 n v0 v1 h
set_option maxHeartbeats 1000000 in
set_option maxRecDepth 4000 in
theorem q_X4_takeDeclared_0 (G : hp_G) (n : Nat) (v0 : Nat) (v1 : Int32) (h : hp_H) (sz sl : Nat) (res : Int32 × hp_H) (hm : f_X4_takeDeclared_0 n v0 v1 h = some res) : hp_V G m_X4_takeDeclared 0 [(0, .ref v0), (1, .int v1)] [] h sz sl (some (.int res.1), res.2, sz, sl) := by
  have ho : sz ≤ sz ∧ sl ≤ sl := ⟨Nat.le_refl _, Nat.le_refl _⟩
  unfold f_X4_takeDeclared_0 at hm
  refine hv_iload_n 1 dX4_takeDeclared_0 rfl rfl ?_
  refine hv_bipush (46 : Int32) dX4_takeDeclared_1 (by decide) ?_
  refine hv_icmp_ne (tgt := 19) dX4_takeDeclared_3 (by decide) (fun c4 => ?_) (fun c4 => ?_)
  · rw [if_neg c4] at hm
    exact hv_sub [0, 1] rfl (q_X4_takeDeclared_19 G n v0 v1 h sz sl _ hm)
  · rw [if_pos c4] at hm
    refine hv_aload_n 0 dX4_takeDeclared_6 rfl rfl ?_
    obtain ⟨x1, hx1, hm⟩ := hp_bd hm
    refine hv_get lk_f_X4_146 dX4_takeDeclared_7 (hp_fI_spec hx1) ?_
    refine hv_if_le (tgt := 19) dX4_takeDeclared_10 (by decide) (fun c3 => ?_) (fun c3 => ?_)
    · rw [if_pos c3] at hm
      exact hv_sub [0, 1] rfl (q_X4_takeDeclared_19 G n v0 v1 h sz sl _ hm)
    · rw [if_neg c3] at hm
      refine hv_aload_n 0 dX4_takeDeclared_13 rfl rfl ?_
      refine hv_iconst (0 : Int32) dX4_takeDeclared_14 (by decide) ?_
      obtain ⟨x2, hx2, hm⟩ := hp_bd hm
      obtain ⟨Vx2, hVx2⟩ := k_X4_begin hx2
      refine hv_callV (As := [.int (0 : Int32)]) (rest := []) Z_X4_begin I_X4_begin lk_m_X4_136 rfl hVx2 (c_X4_begin G n v0 (0 : Int32) h sz sl _ hx2) rfl (Nat.le_of_ble_eq_true rfl) ⟨Nat.le_of_ble_eq_true rfl, Nat.le_of_ble_eq_true rfl⟩ ho.1 ho.2 rfl dX4_takeDeclared_15 ?_
      refine hv_as [.int x2.1] x2.2 rfl rfl ?_
      obtain rfl := Option.some.inj hm
      exact hv_iret rfl dX4_takeDeclared_18
def f_X4_takeDeclared (n : Nat) (v0 : Nat) (v1 : Int32) (h : hp_H) : Option (Int32 × hp_H) := (hp_ck h 4 v0).bind fun _ => f_X4_takeDeclared_0 n v0 v1 h
theorem c_X4_takeDeclared (G : hp_G) (n : Nat) (v0 : Nat) (v1 : Int32) (h : hp_H) (sz sl : Nat) (res : Int32 × hp_H) (hm : f_X4_takeDeclared n v0 v1 h = some res) : hp_C G m_X4_takeDeclared yX4_takeDeclared [.ref v0, .int v1] h sz sl (some (.int res.1), res.2, sz, sl) := by
  unfold f_X4_takeDeclared at hm
  obtain ⟨_, _, hm⟩ := hp_bd hm
  exact hp_C_of (by decide) rfl rfl (Nat.le_of_ble_eq_true rfl) (Nat.le_refl _) (Nat.le_refl _) (hv_sub [0, 1] rfl (q_X4_takeDeclared_0 G n v0 v1 h sz sl res hm))
theorem k_X4_takeDeclared {n : Nat} {v0 : Nat} {v1 : Int32} {h : hp_H} {res : Int32 × hp_H} (hm : f_X4_takeDeclared n v0 v1 h = some res) : ∃ V, h v0 = some (.inr (.inr (4, V))) := by
  unfold f_X4_takeDeclared at hm
  obtain ⟨_, hu, _⟩ := hp_bd hm
  exact hp_ck_spec hu
abbrev m_X4_takeSeparated : hp_M := (RX4, cX4_takeSeparated, 4, some .int, 3, 69, "takeSeparated")
theorem Z_X4_takeSeparated : hp_Y yX4_takeSeparated m_X4_takeSeparated 1 := Y_X4_takeSeparated
def f_X4_takeSeparated_59 (n : Nat) (v0 : Nat) (v2 : Int32) (v3 : Int32) (h : hp_H) : Option ((Int32) ⊕ ((Unit) ⊕ (Int32))) :=
  (hp_fI h 4 v0 9).bind fun x1 =>
  if x1 ≤ v3 then
    some (.inr (.inl ()))
  else
    (hp_fR h 4 v0 10).bind fun x2 =>
    (hp_aI h 0 x2 v3).bind fun x3 =>
    if x3 = v2 then
      some (.inr (.inr (6 : Int32)))
    else
      some (.inl (v3 + (1 : Int32)))
set_option maxHeartbeats 1000000 in
set_option maxRecDepth 4000 in
theorem q_X4_takeSeparated_59 (G : hp_G) (n : Nat) (v0 : Nat) (v2 : Int32) (v3 : Int32) (h : hp_H) (sz sl : Nat) (o : hp_O) (ho : sz ≤ o.2.2.1 ∧ sl ≤ o.2.2.2) (res : (Int32) ⊕ ((Unit) ⊕ (Int32))) (hm : f_X4_takeSeparated_59 n v0 v2 v3 h = some res) (kI : ∀ y : Int32, res = .inl y → hp_V G m_X4_takeSeparated 59 [(0, .ref v0), (2, .int v2), (3, .int y)] [] h sz sl o) (kX0 : ∀ y : Unit, res = .inr (.inl y) → hp_V G m_X4_takeSeparated 86 [(0, .ref v0), (2, .int v2)] [] h sz sl o) (kR : ∀ y : Int32, res = .inr (.inr y) → o = (some (.int y), h, sz, sl)) : hp_V G m_X4_takeSeparated 59 [(0, .ref v0), (2, .int v2), (3, .int v3)] [] h sz sl o := by
  unfold f_X4_takeSeparated_59 at hm
  refine hv_iload_n 2 dX4_takeSeparated_59 rfl rfl ?_
  refine hv_aload_n 0 dX4_takeSeparated_60 rfl rfl ?_
  obtain ⟨x1, hx1, hm⟩ := hp_bd hm
  refine hv_get lk_f_X4_146 dX4_takeSeparated_61 (hp_fI_spec hx1) ?_
  refine hv_icmp_ge (tgt := 86) dX4_takeSeparated_64 (by decide) (fun c5 => ?_) (fun c5 => ?_)
  · rw [if_pos c5] at hm
    exact hv_sub [0, 1] rfl (kX0 () (Option.some.inj hm).symm)
  · rw [if_neg c5] at hm
    refine hv_aload_n 0 dX4_takeSeparated_67 rfl rfl ?_
    obtain ⟨x2, hx2, hm⟩ := hp_bd hm
    refine hv_get lk_f_X4_18 dX4_takeSeparated_68 (hp_fR_spec hx2) ?_
    refine hv_iload_n 2 dX4_takeSeparated_71 rfl rfl ?_
    obtain ⟨x3, hx3, hm⟩ := hp_bd hm
    refine hv_iald dX4_takeSeparated_72 hx3 ?_
    refine hv_iload_n 1 dX4_takeSeparated_73 rfl rfl ?_
    refine hv_icmp_ne (tgt := 80) dX4_takeSeparated_74 (by decide) (fun c4 => ?_) (fun c4 => ?_)
    · rw [if_neg c4] at hm
      refine hv_iinc (v3 + (1 : Int32)) 2 [(3, .int (v3 + (1 : Int32))), (0, .ref v0), (2, .int v2)] dX4_takeSeparated_80 rfl rfl (by decide) rfl ?_
      refine hv_goto (tgt := 59) dX4_takeSeparated_83 (by decide) ?_
      exact hv_sub [1, 2, 0] rfl (kI (v3 + (1 : Int32)) (Option.some.inj hm).symm)
    · rw [if_pos c4] at hm
      refine hv_bipush (6 : Int32) dX4_takeSeparated_77 (by decide) ?_
      obtain rfl := kR _ (Option.some.inj hm).symm
      exact hv_iret rfl dX4_takeSeparated_79
def fL_X4_takeSeparated_59 (n : Nat) (v0 : Nat) (v2 : Int32) (h : hp_H) (s : Int32) : Option ((Int32) ⊕ ((Unit) ⊕ (Int32))) := f_X4_takeSeparated_59 n v0 v2 s h
theorem l_X4_takeSeparated_59 (G : hp_G) (n : Nat) (v0 : Nat) (v2 : Int32) (h : hp_H) (sz sl : Nat) (o : hp_O) (ho : sz ≤ o.2.2.1 ∧ sl ≤ o.2.2.2) : ∀ (k : Nat) (s : Int32) (x : (Unit) ⊕ (Int32)), hp_lp (fL_X4_takeSeparated_59 n v0 v2 h) k s = some x → (∀ y : Unit, x = (.inl y) → hp_V G m_X4_takeSeparated 86 [(0, .ref v0), (2, .int v2)] [] h sz sl o) → (∀ y : Int32, x = (.inr y) → o = (some (.int y), h, sz, sl)) → hp_V G m_X4_takeSeparated 59 [(0, .ref v0), (2, .int v2), (3, .int s)] [] h sz sl o := by
  intro k
  induction k with
  | zero => intro s x hx; exact (hp_lp_0 hx).elim
  | succ k ih =>
    intro s x hx k0 k1
    obtain ⟨r, hr, hc⟩ := hp_lp_1 hx
    refine q_X4_takeSeparated_59 G n v0 v2 s h sz sl o ho r hr (fun s2 e => ?_) (fun y e => ?_) (fun y e => ?_)
    · rcases hc with ⟨s3, e3, hx3⟩ | e3
      · have e4 := Sum.inl.inj (e.symm.trans e3)
        subst e4
        exact ih _ _ hx3 k0 k1
      · cases (e.symm.trans e3)
    · rcases hc with ⟨s3, e3, hx3⟩ | e3
      · cases (e.symm.trans e3)
      · exact k0 y (Sum.inr.inj (e3.symm.trans e))
    · rcases hc with ⟨s3, e3, hx3⟩ | e3
      · cases (e.symm.trans e3)
      · exact k1 y (Sum.inr.inj (e3.symm.trans e))
def f_X4_takeSeparated_88 (n : Nat) (v0 : Nat) (v2 : Int32) (v3 : Int32) (h : hp_H) : Option ((Int32 × hp_H) ⊕ ((hp_H) ⊕ (Int32 × hp_H))) :=
  (hp_fI h 4 v0 9).bind fun x1 =>
  if x1 ≤ v3 then
    some (.inr (.inl h))
  else
    (hp_fR h 4 v0 3).bind fun x2 =>
    (hp_fR h 4 v0 10).bind fun x3 =>
    (hp_aI h 0 x3 v3).bind fun x4 =>
    (f_X7_addPair n x2 x4 v2 h).bind fun x5 =>
    if x5.1 = 0 then
      some (.inr (.inr ((7 : Int32), x5.2)))
    else
      some (.inl ((v3 + (1 : Int32)), x5.2))
set_option maxHeartbeats 1000000 in
set_option maxRecDepth 4000 in
theorem q_X4_takeSeparated_88 (G : hp_G) (n : Nat) (v0 : Nat) (v2 : Int32) (v3 : Int32) (h : hp_H) (sz sl : Nat) (o : hp_O) (ho : sz ≤ o.2.2.1 ∧ sl ≤ o.2.2.2) (res : (Int32 × hp_H) ⊕ ((hp_H) ⊕ (Int32 × hp_H))) (hm : f_X4_takeSeparated_88 n v0 v2 v3 h = some res) (kI : ∀ y : Int32 × hp_H, res = .inl y → hp_V G m_X4_takeSeparated 88 [(0, .ref v0), (2, .int v2), (3, .int y.1)] [] y.2 sz sl o) (kX0 : ∀ y : hp_H, res = .inr (.inl y) → hp_V G m_X4_takeSeparated 122 [(0, .ref v0), (2, .int v2)] [] y sz sl o) (kR : ∀ y : Int32 × hp_H, res = .inr (.inr y) → o = (some (.int y.1), y.2, sz, sl)) : hp_V G m_X4_takeSeparated 88 [(0, .ref v0), (2, .int v2), (3, .int v3)] [] h sz sl o := by
  unfold f_X4_takeSeparated_88 at hm
  refine hv_iload_n 2 dX4_takeSeparated_88 rfl rfl ?_
  refine hv_aload_n 0 dX4_takeSeparated_89 rfl rfl ?_
  obtain ⟨x1, hx1, hm⟩ := hp_bd hm
  refine hv_get lk_f_X4_146 dX4_takeSeparated_90 (hp_fI_spec hx1) ?_
  refine hv_icmp_ge (tgt := 122) dX4_takeSeparated_93 (by decide) (fun c7 => ?_) (fun c7 => ?_)
  · rw [if_pos c7] at hm
    exact hv_sub [0, 1] rfl (kX0 h (Option.some.inj hm).symm)
  · rw [if_neg c7] at hm
    refine hv_aload_n 0 dX4_takeSeparated_96 rfl rfl ?_
    obtain ⟨x2, hx2, hm⟩ := hp_bd hm
    refine hv_get lk_f_X4_12 dX4_takeSeparated_97 (hp_fR_spec hx2) ?_
    refine hv_aload_n 0 dX4_takeSeparated_100 rfl rfl ?_
    obtain ⟨x3, hx3, hm⟩ := hp_bd hm
    refine hv_get lk_f_X4_18 dX4_takeSeparated_101 (hp_fR_spec hx3) ?_
    refine hv_iload_n 2 dX4_takeSeparated_104 rfl rfl ?_
    obtain ⟨x4, hx4, hm⟩ := hp_bd hm
    refine hv_iald dX4_takeSeparated_105 hx4 ?_
    refine hv_iload_n 1 dX4_takeSeparated_106 rfl rfl ?_
    obtain ⟨x5, hx5, hm⟩ := hp_bd hm
    obtain ⟨Vx5, hVx5⟩ := k_X7_addPair hx5
    refine hv_callV (As := [.int x4, .int v2]) (rest := []) Z_X7_addPair I_X7_addPair lk_m_X4_170 rfl hVx5 (c_X7_addPair G n x2 x4 v2 h sz sl _ hx5) rfl (Nat.le_of_ble_eq_true rfl) ⟨Nat.le_of_ble_eq_true rfl, Nat.le_of_ble_eq_true rfl⟩ ho.1 ho.2 rfl dX4_takeSeparated_107 ?_
    refine hv_as [.int x5.1] x5.2 rfl rfl ?_
    refine hv_if_ne (tgt := 116) dX4_takeSeparated_110 (by decide) (fun c6 => ?_) (fun c6 => ?_)
    · rw [if_neg c6] at hm
      refine hv_iinc (v3 + (1 : Int32)) 2 [(3, .int (v3 + (1 : Int32))), (0, .ref v0), (2, .int v2)] dX4_takeSeparated_116 rfl rfl (by decide) rfl ?_
      refine hv_goto (tgt := 88) dX4_takeSeparated_119 (by decide) ?_
      exact hv_sub [1, 2, 0] rfl (kI ((v3 + (1 : Int32)), x5.2) (Option.some.inj hm).symm)
    · rw [if_pos c6] at hm
      refine hv_bipush (7 : Int32) dX4_takeSeparated_113 (by decide) ?_
      obtain rfl := kR _ (Option.some.inj hm).symm
      exact hv_iret rfl dX4_takeSeparated_115
def fL_X4_takeSeparated_88 (n : Nat) (v0 : Nat) (v2 : Int32) (s : Int32 × hp_H) : Option ((Int32 × hp_H) ⊕ ((hp_H) ⊕ (Int32 × hp_H))) := f_X4_takeSeparated_88 n v0 v2 s.1 s.2
theorem l_X4_takeSeparated_88 (G : hp_G) (n : Nat) (v0 : Nat) (v2 : Int32) (sz sl : Nat) (o : hp_O) (ho : sz ≤ o.2.2.1 ∧ sl ≤ o.2.2.2) : ∀ (k : Nat) (s : Int32 × hp_H) (x : (hp_H) ⊕ (Int32 × hp_H)), hp_lp (fL_X4_takeSeparated_88 n v0 v2) k s = some x → (∀ y : hp_H, x = (.inl y) → hp_V G m_X4_takeSeparated 122 [(0, .ref v0), (2, .int v2)] [] y sz sl o) → (∀ y : Int32 × hp_H, x = (.inr y) → o = (some (.int y.1), y.2, sz, sl)) → hp_V G m_X4_takeSeparated 88 [(0, .ref v0), (2, .int v2), (3, .int s.1)] [] s.2 sz sl o := by
  intro k
  induction k with
  | zero => intro s x hx; exact (hp_lp_0 hx).elim
  | succ k ih =>
    intro s x hx k0 k1
    obtain ⟨r, hr, hc⟩ := hp_lp_1 hx
    refine q_X4_takeSeparated_88 G n v0 v2 s.1 s.2 sz sl o ho r hr (fun s2 e => ?_) (fun y e => ?_) (fun y e => ?_)
    · rcases hc with ⟨s3, e3, hx3⟩ | e3
      · have e4 := Sum.inl.inj (e.symm.trans e3)
        subst e4
        exact ih _ _ hx3 k0 k1
      · cases (e.symm.trans e3)
    · rcases hc with ⟨s3, e3, hx3⟩ | e3
      · cases (e.symm.trans e3)
      · exact k0 y (Sum.inr.inj (e3.symm.trans e))
    · rcases hc with ⟨s3, e3, hx3⟩ | e3
      · cases (e.symm.trans e3)
      · exact k1 y (Sum.inr.inj (e3.symm.trans e))
def f_X4_takeSeparated_20 (n : Nat) (v0 : Nat) (v1 : Int32) (h : hp_H) : Option (Int32 × hp_H) :=
  if v1 = 0 then
    (hp_fI h 4 v0 9).bind fun x1 =>
    if x1 = (8 : Int32) then
      some ((7 : Int32), h)
    else
      (f_X4_namedByToken n v0 h).bind fun x2 =>
      (hp_fR h 4 v0 3).bind fun x3 =>
      (f_X7_isActive n x3 x2 h).bind fun x4 =>
      if x4 = 0 then
        some ((6 : Int32), h)
      else
        (hp_lp (fL_X4_takeSeparated_59 n v0 x2 h) n (0 : Int32)).bind fun x5 =>
        Sum.elim (fun y6 =>
          (hp_lp (fL_X4_takeSeparated_88 n v0 x2) n ((0 : Int32), h)).bind fun x8 =>
          Sum.elim (fun y9 =>
            (hp_fR y9 4 v0 10).bind fun x11 =>
            (hp_fI y9 4 v0 9).bind fun x12 =>
            (hp_sI y9 0 x11 x12 x2).bind fun h13 =>
            (hp_fI h13 4 v0 9).bind fun x14 =>
            (hp_pF h13 4 v0 9 (.int (x14 + (1 : Int32)))).bind fun h15 =>
            some ((0 : Int32), h15)) (fun y10 =>
            some (y10.1, y10.2)) x8) (fun y7 =>
          some (y7, h)) x5
  else
    some ((3 : Int32), h)
set_option maxHeartbeats 1000000 in
set_option maxRecDepth 4000 in
theorem q_X4_takeSeparated_20 (G : hp_G) (n : Nat) (v0 : Nat) (v1 : Int32) (h : hp_H) (sz sl : Nat) (res : Int32 × hp_H) (hm : f_X4_takeSeparated_20 n v0 v1 h = some res) : hp_V G m_X4_takeSeparated 20 [(0, .ref v0), (1, .int v1)] [] h sz sl (some (.int res.1), res.2, sz, sl) := by
  have ho : sz ≤ sz ∧ sl ≤ sl := ⟨Nat.le_refl _, Nat.le_refl _⟩
  unfold f_X4_takeSeparated_20 at hm
  refine hv_iload_n 1 dX4_takeSeparated_20 rfl rfl ?_
  refine hv_if_eq (tgt := 26) dX4_takeSeparated_21 (by decide) (fun c18 => ?_) (fun c18 => ?_)
  · rw [if_pos c18] at hm
    refine hv_aload_n 0 dX4_takeSeparated_26 rfl rfl ?_
    obtain ⟨x1, hx1, hm⟩ := hp_bd hm
    refine hv_get lk_f_X4_146 dX4_takeSeparated_27 (hp_fI_spec hx1) ?_
    refine hv_bipush (8 : Int32) dX4_takeSeparated_30 (by decide) ?_
    refine hv_icmp_ne (tgt := 38) dX4_takeSeparated_32 (by decide) (fun c17 => ?_) (fun c17 => ?_)
    · rw [if_neg c17] at hm
      refine hv_aload_n 0 dX4_takeSeparated_38 rfl rfl ?_
      obtain ⟨x2, hx2, hm⟩ := hp_bd hm
      obtain ⟨Vx2, hVx2⟩ := k_X4_namedByToken hx2
      refine hv_callV (As := []) (rest := []) Z_X4_namedByToken I_X4_namedByToken lk_m_X4_110 rfl hVx2 (c_X4_namedByToken G n v0 h sz sl _ hx2) rfl (Nat.le_of_ble_eq_true rfl) ⟨Nat.le_of_ble_eq_true rfl, Nat.le_of_ble_eq_true rfl⟩ ho.1 ho.2 rfl dX4_takeSeparated_39 ?_
      refine hv_as [.int x2] h rfl rfl ?_
      refine hv_istore_n [(2, .int x2), (0, .ref v0), (1, .int v1)] dX4_takeSeparated_42 rfl (by decide) rfl ?_
      refine hv_aload_n 1 dX4_takeSeparated_43 rfl rfl ?_
      obtain ⟨x3, hx3, hm⟩ := hp_bd hm
      refine hv_get lk_f_X4_12 dX4_takeSeparated_44 (hp_fR_spec hx3) ?_
      refine hv_iload_n 0 dX4_takeSeparated_47 rfl rfl ?_
      obtain ⟨x4, hx4, hm⟩ := hp_bd hm
      obtain ⟨Vx4, hVx4⟩ := k_X7_isActive hx4
      refine hv_callV (As := [.int x2]) (rest := []) Z_X7_isActive I_X7_isActive lk_m_X4_159 rfl hVx4 (c_X7_isActive G n x3 x2 h sz sl _ hx4) rfl (Nat.le_of_ble_eq_true rfl) ⟨Nat.le_of_ble_eq_true rfl, Nat.le_of_ble_eq_true rfl⟩ ho.1 ho.2 rfl dX4_takeSeparated_48 ?_
      refine hv_as [.int x4] h rfl rfl ?_
      refine hv_if_ne (tgt := 57) dX4_takeSeparated_51 (by decide) (fun c16 => ?_) (fun c16 => ?_)
      · rw [if_neg c16] at hm
        refine hv_iconst (0 : Int32) dX4_takeSeparated_57 (by decide) ?_
        refine hv_istore_n [(3, .int (0 : Int32)), (2, .int x2), (0, .ref v0), (1, .int v1)] dX4_takeSeparated_58 rfl (by decide) rfl ?_
        obtain ⟨x5, hx5, hm⟩ := hp_bd hm
        refine hv_sub [2, 1, 0] rfl (l_X4_takeSeparated_59 G n v0 x2 h sz sl _ ho n _ _ hx5 (fun y6 ey6 => ?_) (fun y7 ey7 => ?_))
        · skip
          subst ey6
          simp only [Sum.elim_inl, Sum.elim_inr] at hm
          refine hv_iconst (0 : Int32) dX4_takeSeparated_86 (by decide) ?_
          refine hv_istore_n [(3, .int (0 : Int32)), (0, .ref v0), (2, .int x2)] dX4_takeSeparated_87 rfl (by decide) rfl ?_
          obtain ⟨x8, hx8, hm⟩ := hp_bd hm
          refine hv_sub [1, 2, 0] rfl (l_X4_takeSeparated_88 G n v0 x2 sz sl _ ho n _ _ hx8 (fun y9 ey9 => ?_) (fun y10 ey10 => ?_))
          · skip
            subst ey9
            simp only [Sum.elim_inl, Sum.elim_inr] at hm
            refine hv_aload_n 0 dX4_takeSeparated_122 rfl rfl ?_
            obtain ⟨x11, hx11, hm⟩ := hp_bd hm
            refine hv_get lk_f_X4_18 dX4_takeSeparated_123 (hp_fR_spec hx11) ?_
            refine hv_aload_n 0 dX4_takeSeparated_126 rfl rfl ?_
            obtain ⟨x12, hx12, hm⟩ := hp_bd hm
            refine hv_get lk_f_X4_146 dX4_takeSeparated_127 (hp_fI_spec hx12) ?_
            refine hv_iload_n 1 dX4_takeSeparated_130 rfl rfl ?_
            obtain ⟨h13, hh13, hm⟩ := hp_bd hm
            refine hv_iast dX4_takeSeparated_131 hh13 ?_
            refine hv_aload_n 0 dX4_takeSeparated_132 rfl rfl ?_
            refine hv_dup dX4_takeSeparated_133 rfl ?_
            obtain ⟨x14, hx14, hm⟩ := hp_bd hm
            refine hv_get lk_f_X4_146 dX4_takeSeparated_134 (hp_fI_spec hx14) ?_
            refine hv_iconst (1 : Int32) dX4_takeSeparated_137 (by decide) ?_
            refine hv_iadd dX4_takeSeparated_138 ?_
            obtain ⟨h15, hh15, hm⟩ := hp_bd hm
            refine hv_put lk_f_X4_146 dX4_takeSeparated_139 rfl rfl hh15 ?_
            refine hv_iconst (0 : Int32) dX4_takeSeparated_142 (by decide) ?_
            obtain rfl := Option.some.inj hm
            exact hv_iret rfl dX4_takeSeparated_143
          · skip
            subst ey10
            simp only [Sum.elim_inl, Sum.elim_inr] at hm
            obtain rfl := Option.some.inj hm
            rfl
        · skip
          subst ey7
          simp only [Sum.elim_inl, Sum.elim_inr] at hm
          obtain rfl := Option.some.inj hm
          rfl
      · rw [if_pos c16] at hm
        refine hv_bipush (6 : Int32) dX4_takeSeparated_54 (by decide) ?_
        obtain rfl := Option.some.inj hm
        exact hv_iret rfl dX4_takeSeparated_56
    · rw [if_pos c17] at hm
      refine hv_bipush (7 : Int32) dX4_takeSeparated_35 (by decide) ?_
      obtain rfl := Option.some.inj hm
      exact hv_iret rfl dX4_takeSeparated_37
  · rw [if_neg c18] at hm
    refine hv_iconst (3 : Int32) dX4_takeSeparated_24 (by decide) ?_
    obtain rfl := Option.some.inj hm
    exact hv_iret rfl dX4_takeSeparated_25
def f_X4_takeSeparated_0 (n : Nat) (v0 : Nat) (v1 : Int32) (h : hp_H) : Option (Int32 × hp_H) :=
  if v1 = (46 : Int32) then
    (hp_fI h 4 v0 9).bind fun x1 =>
    if x1 < (2 : Int32) then
      f_X4_takeSeparated_20 n v0 v1 h
    else
      (f_X4_begin n v0 (0 : Int32) h).bind fun x2 =>
      some (x2.1, x2.2)
  else
    f_X4_takeSeparated_20 n v0 v1 h
set_option maxHeartbeats 1000000 in
set_option maxRecDepth 4000 in
theorem q_X4_takeSeparated_0 (G : hp_G) (n : Nat) (v0 : Nat) (v1 : Int32) (h : hp_H) (sz sl : Nat) (res : Int32 × hp_H) (hm : f_X4_takeSeparated_0 n v0 v1 h = some res) : hp_V G m_X4_takeSeparated 0 [(0, .ref v0), (1, .int v1)] [] h sz sl (some (.int res.1), res.2, sz, sl) := by
  have ho : sz ≤ sz ∧ sl ≤ sl := ⟨Nat.le_refl _, Nat.le_refl _⟩
  unfold f_X4_takeSeparated_0 at hm
  refine hv_iload_n 1 dX4_takeSeparated_0 rfl rfl ?_
  refine hv_bipush (46 : Int32) dX4_takeSeparated_1 (by decide) ?_
  refine hv_icmp_ne (tgt := 20) dX4_takeSeparated_3 (by decide) (fun c4 => ?_) (fun c4 => ?_)
  · rw [if_neg c4] at hm
    exact hv_sub [0, 1] rfl (q_X4_takeSeparated_20 G n v0 v1 h sz sl _ hm)
  · rw [if_pos c4] at hm
    refine hv_aload_n 0 dX4_takeSeparated_6 rfl rfl ?_
    obtain ⟨x1, hx1, hm⟩ := hp_bd hm
    refine hv_get lk_f_X4_146 dX4_takeSeparated_7 (hp_fI_spec hx1) ?_
    refine hv_iconst (2 : Int32) dX4_takeSeparated_10 (by decide) ?_
    refine hv_icmp_lt (tgt := 20) dX4_takeSeparated_11 (by decide) (fun c3 => ?_) (fun c3 => ?_)
    · rw [if_pos c3] at hm
      exact hv_sub [0, 1] rfl (q_X4_takeSeparated_20 G n v0 v1 h sz sl _ hm)
    · rw [if_neg c3] at hm
      refine hv_aload_n 0 dX4_takeSeparated_14 rfl rfl ?_
      refine hv_iconst (0 : Int32) dX4_takeSeparated_15 (by decide) ?_
      obtain ⟨x2, hx2, hm⟩ := hp_bd hm
      obtain ⟨Vx2, hVx2⟩ := k_X4_begin hx2
      refine hv_callV (As := [.int (0 : Int32)]) (rest := []) Z_X4_begin I_X4_begin lk_m_X4_136 rfl hVx2 (c_X4_begin G n v0 (0 : Int32) h sz sl _ hx2) rfl (Nat.le_of_ble_eq_true rfl) ⟨Nat.le_of_ble_eq_true rfl, Nat.le_of_ble_eq_true rfl⟩ ho.1 ho.2 rfl dX4_takeSeparated_16 ?_
      refine hv_as [.int x2.1] x2.2 rfl rfl ?_
      obtain rfl := Option.some.inj hm
      exact hv_iret rfl dX4_takeSeparated_19
def f_X4_takeSeparated (n : Nat) (v0 : Nat) (v1 : Int32) (h : hp_H) : Option (Int32 × hp_H) := (hp_ck h 4 v0).bind fun _ => f_X4_takeSeparated_0 n v0 v1 h
theorem c_X4_takeSeparated (G : hp_G) (n : Nat) (v0 : Nat) (v1 : Int32) (h : hp_H) (sz sl : Nat) (res : Int32 × hp_H) (hm : f_X4_takeSeparated n v0 v1 h = some res) : hp_C G m_X4_takeSeparated yX4_takeSeparated [.ref v0, .int v1] h sz sl (some (.int res.1), res.2, sz, sl) := by
  unfold f_X4_takeSeparated at hm
  obtain ⟨_, _, hm⟩ := hp_bd hm
  exact hp_C_of (by decide) rfl rfl (Nat.le_of_ble_eq_true rfl) (Nat.le_refl _) (Nat.le_refl _) (hv_sub [0, 1] rfl (q_X4_takeSeparated_0 G n v0 v1 h sz sl res hm))
theorem k_X4_takeSeparated {n : Nat} {v0 : Nat} {v1 : Int32} {h : hp_H} {res : Int32 × hp_H} (hm : f_X4_takeSeparated n v0 v1 h = some res) : ∃ V, h v0 = some (.inr (.inr (4, V))) := by
  unfold f_X4_takeSeparated at hm
  obtain ⟨_, hu, _⟩ := hp_bd hm
  exact hp_ck_spec hu
abbrev m_X4_mayStand : hp_M := (RX4, cX4_mayStand, 2, some .boolean, 1, 21, "mayStand")
theorem Z_X4_mayStand : hp_Y yX4_mayStand m_X4_mayStand 1 := Y_X4_mayStand
def f_X4_mayStand_73 (n : Nat)  (h : hp_H) : Option (Int32) :=
  some (1 : Int32)
set_option maxHeartbeats 1000000 in
set_option maxRecDepth 4000 in
theorem q_X4_mayStand_73 (G : hp_G) (n : Nat)  (h : hp_H) (sz sl : Nat) (res : Int32) (hm : f_X4_mayStand_73 n h = some res) : hp_V G m_X4_mayStand 73 [] [] h sz sl (some (.int res), h, sz, sl) := by
  have ho : sz ≤ sz ∧ sl ≤ sl := ⟨Nat.le_refl _, Nat.le_refl _⟩
  unfold f_X4_mayStand_73 at hm
  refine hv_iconst (1 : Int32) dX4_mayStand_73 (by decide) ?_
  refine hv_goto (tgt := 78) dX4_mayStand_74 (by decide) ?_
  obtain rfl := Option.some.inj hm
  exact hv_zret rfl (by decide) dX4_mayStand_78
def f_X4_mayStand_0 (n : Nat) (v0 : Nat) (v1 : Int32) (h : hp_H) : Option (Int32) :=
  (hp_fI h 4 v0 9).bind fun x1 =>
  if x1 = 0 then
    (hp_fR h 4 v0 1).bind fun x16 =>
    (f_X0_isConstant n x16 v1 h).bind fun x17 =>
    (hp_bz x17).bind fun _ =>
    some x17
  else
    (hp_fI h 4 v0 6).bind fun x2 =>
    if x2 = 0 then
      (hp_fR h 4 v0 3).bind fun x9 =>
      (f_X7_isActive n x9 v1 h).bind fun x10 =>
      if x10 = 0 then
        some (0 : Int32)
      else
        (hp_fR h 4 v0 3).bind fun x11 =>
        (f_X7_isTyped n x11 v1 h).bind fun x12 =>
        if x12 = 0 then
          some (1 : Int32)
        else
          some (0 : Int32)
    else
      (hp_fR h 4 v0 1).bind fun x3 =>
      (f_X0_isConstant n x3 v1 h).bind fun x4 =>
      if x4 = 0 then
        (hp_fR h 4 v0 3).bind fun x5 =>
        (f_X7_isTyped n x5 v1 h).bind fun x6 =>
        if x6 = 0 then
          some (0 : Int32)
        else
          f_X4_mayStand_73 n  h
      else
        f_X4_mayStand_73 n  h
set_option maxHeartbeats 1000000 in
set_option maxRecDepth 4000 in
theorem q_X4_mayStand_0 (G : hp_G) (n : Nat) (v0 : Nat) (v1 : Int32) (h : hp_H) (sz sl : Nat) (res : Int32) (hm : f_X4_mayStand_0 n v0 v1 h = some res) : hp_V G m_X4_mayStand 0 [(0, .ref v0), (1, .int v1)] [] h sz sl (some (.int res), h, sz, sl) := by
  have ho : sz ≤ sz ∧ sl ≤ sl := ⟨Nat.le_refl _, Nat.le_refl _⟩
  unfold f_X4_mayStand_0 at hm
  refine hv_aload_n 0 dX4_mayStand_0 rfl rfl ?_
  obtain ⟨x1, hx1, hm⟩ := hp_bd hm
  refine hv_get lk_f_X4_146 dX4_mayStand_1 (hp_fI_spec hx1) ?_
  refine hv_if_ne (tgt := 16) dX4_mayStand_4 (by decide) (fun c19 => ?_) (fun c19 => ?_)
  · rw [if_neg c19] at hm
    refine hv_aload_n 0 dX4_mayStand_16 rfl rfl ?_
    obtain ⟨x2, hx2, hm⟩ := hp_bd hm
    refine hv_get lk_f_X4_149 dX4_mayStand_17 (hp_fI_spec hx2) ?_
    refine hv_if_ne (tgt := 51) dX4_mayStand_20 (by decide) (fun c15 => ?_) (fun c15 => ?_)
    · rw [if_neg c15] at hm
      refine hv_aload_n 0 dX4_mayStand_51 rfl rfl ?_
      obtain ⟨x3, hx3, hm⟩ := hp_bd hm
      refine hv_get lk_f_X4_22 dX4_mayStand_52 (hp_fR_spec hx3) ?_
      refine hv_iload_n 1 dX4_mayStand_55 rfl rfl ?_
      obtain ⟨x4, hx4, hm⟩ := hp_bd hm
      obtain ⟨Vx4, hVx4⟩ := k_X0_isConstant hx4
      refine hv_callV (As := [.int v1]) (rest := []) Z_X0_isConstant I_X0_isConstant lk_m_X4_186 rfl hVx4 (c_X0_isConstant G n x3 v1 h sz sl _ hx4) rfl (Nat.le_of_ble_eq_true rfl) ⟨Nat.le_of_ble_eq_true rfl, Nat.le_of_ble_eq_true rfl⟩ ho.1 ho.2 rfl dX4_mayStand_56 ?_
      refine hv_as [.int x4] h rfl rfl ?_
      refine hv_if_ne (tgt := 73) dX4_mayStand_59 (by decide) (fun c8 => ?_) (fun c8 => ?_)
      · rw [if_neg c8] at hm
        exact hv_sub [] rfl (q_X4_mayStand_73 G n  h sz sl _ hm)
      · rw [if_pos c8] at hm
        refine hv_aload_n 0 dX4_mayStand_62 rfl rfl ?_
        obtain ⟨x5, hx5, hm⟩ := hp_bd hm
        refine hv_get lk_f_X4_12 dX4_mayStand_63 (hp_fR_spec hx5) ?_
        refine hv_iload_n 1 dX4_mayStand_66 rfl rfl ?_
        obtain ⟨x6, hx6, hm⟩ := hp_bd hm
        obtain ⟨Vx6, hVx6⟩ := k_X7_isTyped hx6
        refine hv_callV (As := [.int v1]) (rest := []) Z_X7_isTyped I_X7_isTyped lk_m_X4_189 rfl hVx6 (c_X7_isTyped G n x5 v1 h sz sl _ hx6) rfl (Nat.le_of_ble_eq_true rfl) ⟨Nat.le_of_ble_eq_true rfl, Nat.le_of_ble_eq_true rfl⟩ ho.1 ho.2 rfl dX4_mayStand_67 ?_
        refine hv_as [.int x6] h rfl rfl ?_
        refine hv_if_eq (tgt := 77) dX4_mayStand_70 (by decide) (fun c7 => ?_) (fun c7 => ?_)
        · rw [if_pos c7] at hm
          refine hv_iconst (0 : Int32) dX4_mayStand_77 (by decide) ?_
          obtain rfl := Option.some.inj hm
          exact hv_zret rfl (by decide) dX4_mayStand_78
        · rw [if_neg c7] at hm
          exact hv_sub [] rfl (q_X4_mayStand_73 G n  h sz sl _ hm)
    · rw [if_pos c15] at hm
      refine hv_aload_n 0 dX4_mayStand_23 rfl rfl ?_
      obtain ⟨x9, hx9, hm⟩ := hp_bd hm
      refine hv_get lk_f_X4_12 dX4_mayStand_24 (hp_fR_spec hx9) ?_
      refine hv_iload_n 1 dX4_mayStand_27 rfl rfl ?_
      obtain ⟨x10, hx10, hm⟩ := hp_bd hm
      obtain ⟨Vx10, hVx10⟩ := k_X7_isActive hx10
      refine hv_callV (As := [.int v1]) (rest := []) Z_X7_isActive I_X7_isActive lk_m_X4_159 rfl hVx10 (c_X7_isActive G n x9 v1 h sz sl _ hx10) rfl (Nat.le_of_ble_eq_true rfl) ⟨Nat.le_of_ble_eq_true rfl, Nat.le_of_ble_eq_true rfl⟩ ho.1 ho.2 rfl dX4_mayStand_28 ?_
      refine hv_as [.int x10] h rfl rfl ?_
      refine hv_if_eq (tgt := 49) dX4_mayStand_31 (by decide) (fun c14 => ?_) (fun c14 => ?_)
      · rw [if_pos c14] at hm
        refine hv_iconst (0 : Int32) dX4_mayStand_49 (by decide) ?_
        obtain rfl := Option.some.inj hm
        exact hv_zret rfl (by decide) dX4_mayStand_50
      · rw [if_neg c14] at hm
        refine hv_aload_n 0 dX4_mayStand_34 rfl rfl ?_
        obtain ⟨x11, hx11, hm⟩ := hp_bd hm
        refine hv_get lk_f_X4_12 dX4_mayStand_35 (hp_fR_spec hx11) ?_
        refine hv_iload_n 1 dX4_mayStand_38 rfl rfl ?_
        obtain ⟨x12, hx12, hm⟩ := hp_bd hm
        obtain ⟨Vx12, hVx12⟩ := k_X7_isTyped hx12
        refine hv_callV (As := [.int v1]) (rest := []) Z_X7_isTyped I_X7_isTyped lk_m_X4_189 rfl hVx12 (c_X7_isTyped G n x11 v1 h sz sl _ hx12) rfl (Nat.le_of_ble_eq_true rfl) ⟨Nat.le_of_ble_eq_true rfl, Nat.le_of_ble_eq_true rfl⟩ ho.1 ho.2 rfl dX4_mayStand_39 ?_
        refine hv_as [.int x12] h rfl rfl ?_
        refine hv_if_ne (tgt := 49) dX4_mayStand_42 (by decide) (fun c13 => ?_) (fun c13 => ?_)
        · rw [if_neg c13] at hm
          refine hv_iconst (0 : Int32) dX4_mayStand_49 (by decide) ?_
          obtain rfl := Option.some.inj hm
          exact hv_zret rfl (by decide) dX4_mayStand_50
        · rw [if_pos c13] at hm
          refine hv_iconst (1 : Int32) dX4_mayStand_45 (by decide) ?_
          refine hv_goto (tgt := 50) dX4_mayStand_46 (by decide) ?_
          obtain rfl := Option.some.inj hm
          exact hv_zret rfl (by decide) dX4_mayStand_50
  · rw [if_pos c19] at hm
    refine hv_aload_n 0 dX4_mayStand_7 rfl rfl ?_
    obtain ⟨x16, hx16, hm⟩ := hp_bd hm
    refine hv_get lk_f_X4_22 dX4_mayStand_8 (hp_fR_spec hx16) ?_
    refine hv_iload_n 1 dX4_mayStand_11 rfl rfl ?_
    obtain ⟨x17, hx17, hm⟩ := hp_bd hm
    obtain ⟨Vx17, hVx17⟩ := k_X0_isConstant hx17
    refine hv_callV (As := [.int v1]) (rest := []) Z_X0_isConstant I_X0_isConstant lk_m_X4_186 rfl hVx17 (c_X0_isConstant G n x16 v1 h sz sl _ hx17) rfl (Nat.le_of_ble_eq_true rfl) ⟨Nat.le_of_ble_eq_true rfl, Nat.le_of_ble_eq_true rfl⟩ ho.1 ho.2 rfl dX4_mayStand_12 ?_
    refine hv_as [.int x17] h rfl rfl ?_
    obtain ⟨_, hu18, hm⟩ := hp_bd hm
    obtain rfl := Option.some.inj hm
    exact hv_zret rfl (hp_bz_spec hu18) dX4_mayStand_15
def f_X4_mayStand (n : Nat) (v0 : Nat) (v1 : Int32) (h : hp_H) : Option (Int32) := (hp_ck h 4 v0).bind fun _ => f_X4_mayStand_0 n v0 v1 h
theorem c_X4_mayStand (G : hp_G) (n : Nat) (v0 : Nat) (v1 : Int32) (h : hp_H) (sz sl : Nat) (res : Int32) (hm : f_X4_mayStand n v0 v1 h = some res) : hp_C G m_X4_mayStand yX4_mayStand [.ref v0, .int v1] h sz sl (some (.int res), h, sz, sl) := by
  unfold f_X4_mayStand at hm
  obtain ⟨_, _, hm⟩ := hp_bd hm
  exact hp_C_of (by decide) rfl rfl (Nat.le_of_ble_eq_true rfl) (Nat.le_refl _) (Nat.le_refl _) (hv_sub [0, 1] rfl (q_X4_mayStand_0 G n v0 v1 h sz sl res hm))
theorem k_X4_mayStand {n : Nat} {v0 : Nat} {v1 : Int32} {h : hp_H} {res : Int32} (hm : f_X4_mayStand n v0 v1 h = some res) : ∃ V, h v0 = some (.inr (.inr (4, V))) := by
  unfold f_X4_mayStand at hm
  obtain ⟨_, hu, _⟩ := hp_bd hm
  exact hp_ck_spec hu
abbrev m_X4_takeSymbol : hp_M := (RX4, cX4_takeSymbol, 2, some .int, 3, 83, "takeSymbol")
theorem Z_X4_takeSymbol : hp_Y yX4_takeSymbol m_X4_takeSymbol 0 := Y_X4_takeSymbol
def f_X4_takeSymbol_56 (n : Nat) (v0 : Nat) (h : hp_H) (sz sl : Nat) : Option (Int32 × hp_H × Nat × Nat) :=
  (hp_fI h 4 v0 9).bind fun x1 =>
  (hp_pF h 4 v0 9 (.int (x1 + (1 : Int32)))).bind fun h2 =>
  some ((0 : Int32), h2, sz, sl)
set_option maxHeartbeats 1000000 in
set_option maxRecDepth 4000 in
theorem mo_X4_takeSymbol_56 {n : Nat} {v0 : Nat} {h : hp_H} {sz sl : Nat} {res : Int32 × hp_H × Nat × Nat} (hm : f_X4_takeSymbol_56 n v0 h sz sl = some res) : sz ≤ res.2.2.1 ∧ sl ≤ res.2.2.2 := by
  unfold f_X4_takeSymbol_56 at hm
  obtain ⟨x1, hx1, hm⟩ := hp_bd hm
  obtain ⟨h2, hh2, hm⟩ := hp_bd hm
  obtain rfl := Option.some.inj hm
  exact ⟨Nat.le_refl _, Nat.le_refl _⟩
set_option maxHeartbeats 1000000 in
set_option maxRecDepth 4000 in
theorem q_X4_takeSymbol_56 (G : hp_G) (n : Nat) (v0 : Nat) (h : hp_H) (sz sl : Nat) (res : Int32 × hp_H × Nat × Nat) (hm : f_X4_takeSymbol_56 n v0 h sz sl = some res) : hp_V G m_X4_takeSymbol 56 [(0, .ref v0)] [] h sz sl (some (.int res.1), res.2.1, res.2.2.1, res.2.2.2) := by
  have ho := mo_X4_takeSymbol_56 hm
  unfold f_X4_takeSymbol_56 at hm
  refine hv_aload_n 0 dX4_takeSymbol_56 rfl rfl ?_
  refine hv_dup dX4_takeSymbol_57 rfl ?_
  obtain ⟨x1, hx1, hm⟩ := hp_bd hm
  refine hv_get lk_f_X4_146 dX4_takeSymbol_58 (hp_fI_spec hx1) ?_
  refine hv_iconst (1 : Int32) dX4_takeSymbol_61 (by decide) ?_
  refine hv_iadd dX4_takeSymbol_62 ?_
  obtain ⟨h2, hh2, hm⟩ := hp_bd hm
  refine hv_put lk_f_X4_146 dX4_takeSymbol_63 rfl rfl hh2 ?_
  refine hv_iconst (0 : Int32) dX4_takeSymbol_66 (by decide) ?_
  obtain rfl := Option.some.inj hm
  exact hv_iret rfl dX4_takeSymbol_67
def f_X4_takeSymbol_17 (n : Nat) (v0 : Nat) (h : hp_H) (sz sl : Nat) : Option (Int32 × hp_H × Nat × Nat) :=
  (hp_fI h 4 v0 9).bind fun x1 =>
  if x1 = (60 : Int32) then
    some ((7 : Int32), h, sz, sl)
  else
    (f_X4_namedByToken n v0 h).bind fun x2 =>
    (f_X4_mayStand n v0 x2 h).bind fun x3 =>
    if x3 = 0 then
      some ((6 : Int32), h, sz, sl)
    else
      (hp_fR h 4 v0 1).bind fun x4 =>
      (hp_fR h 0 x4 9).bind fun x5 =>
      (f_X5_add n x5 x2 h sz sl).bind fun x6 =>
      f_X4_takeSymbol_56 n v0 x6.1 x6.2.1 x6.2.2
set_option maxHeartbeats 1000000 in
set_option maxRecDepth 4000 in
theorem mo_X4_takeSymbol_17 {n : Nat} {v0 : Nat} {h : hp_H} {sz sl : Nat} {res : Int32 × hp_H × Nat × Nat} (hm : f_X4_takeSymbol_17 n v0 h sz sl = some res) : sz ≤ res.2.2.1 ∧ sl ≤ res.2.2.2 := by
  unfold f_X4_takeSymbol_17 at hm
  obtain ⟨x1, hx1, hm⟩ := hp_bd hm
  rcases (Decidable.em (x1 = (60 : Int32))).symm with c8 | c8
  · rw [if_neg c8] at hm
    obtain ⟨x2, hx2, hm⟩ := hp_bd hm
    obtain ⟨x3, hx3, hm⟩ := hp_bd hm
    rcases (Decidable.em (x3 = 0)).symm with c7 | c7
    · rw [if_neg c7] at hm
      obtain ⟨x4, hx4, hm⟩ := hp_bd hm
      obtain ⟨x5, hx5, hm⟩ := hp_bd hm
      obtain ⟨x6, hx6, hm⟩ := hp_bd hm
      exact hp_tr (mx_X5_add hx6) (mo_X4_takeSymbol_56 hm)
    · rw [if_pos c7] at hm
      obtain rfl := Option.some.inj hm
      exact ⟨Nat.le_refl _, Nat.le_refl _⟩
  · rw [if_pos c8] at hm
    obtain rfl := Option.some.inj hm
    exact ⟨Nat.le_refl _, Nat.le_refl _⟩
set_option maxHeartbeats 1000000 in
set_option maxRecDepth 4000 in
theorem q_X4_takeSymbol_17 (G : hp_G) (n : Nat) (v0 : Nat) (h : hp_H) (sz sl : Nat) (res : Int32 × hp_H × Nat × Nat) (hm : f_X4_takeSymbol_17 n v0 h sz sl = some res) : hp_V G m_X4_takeSymbol 17 [(0, .ref v0)] [] h sz sl (some (.int res.1), res.2.1, res.2.2.1, res.2.2.2) := by
  have ho := mo_X4_takeSymbol_17 hm
  unfold f_X4_takeSymbol_17 at hm
  refine hv_aload_n 0 dX4_takeSymbol_17 rfl rfl ?_
  obtain ⟨x1, hx1, hm⟩ := hp_bd hm
  refine hv_get lk_f_X4_146 dX4_takeSymbol_18 (hp_fI_spec hx1) ?_
  refine hv_bipush (60 : Int32) dX4_takeSymbol_21 (by decide) ?_
  refine hv_icmp_ne (tgt := 29) dX4_takeSymbol_23 (by decide) (fun c8 => ?_) (fun c8 => ?_)
  · rw [if_neg c8] at hm
    refine hv_aload_n 0 dX4_takeSymbol_29 rfl rfl ?_
    obtain ⟨x2, hx2, hm⟩ := hp_bd hm
    obtain ⟨Vx2, hVx2⟩ := k_X4_namedByToken hx2
    refine hv_callV (As := []) (rest := []) Z_X4_namedByToken I_X4_namedByToken lk_m_X4_110 rfl hVx2 (c_X4_namedByToken G n v0 h sz sl _ hx2) rfl (Nat.le_of_ble_eq_true rfl) ⟨Nat.le_of_ble_eq_true rfl, Nat.le_of_ble_eq_true rfl⟩ ho.1 ho.2 rfl dX4_takeSymbol_30 ?_
    refine hv_as [.int x2] h rfl rfl ?_
    refine hv_istore_n [(1, .int x2), (0, .ref v0)] dX4_takeSymbol_33 rfl (by decide) rfl ?_
    refine hv_aload_n 1 dX4_takeSymbol_34 rfl rfl ?_
    refine hv_iload_n 0 dX4_takeSymbol_35 rfl rfl ?_
    obtain ⟨x3, hx3, hm⟩ := hp_bd hm
    obtain ⟨Vx3, hVx3⟩ := k_X4_mayStand hx3
    refine hv_callV (As := [.int x2]) (rest := []) Z_X4_mayStand I_X4_mayStand lk_m_X4_174 rfl hVx3 (c_X4_mayStand G n v0 x2 h sz sl _ hx3) rfl (Nat.le_of_ble_eq_true rfl) ⟨Nat.le_of_ble_eq_true rfl, Nat.le_of_ble_eq_true rfl⟩ ho.1 ho.2 rfl dX4_takeSymbol_36 ?_
    refine hv_as [.int x3] h rfl rfl ?_
    refine hv_if_ne (tgt := 45) dX4_takeSymbol_39 (by decide) (fun c7 => ?_) (fun c7 => ?_)
    · rw [if_neg c7] at hm
      refine hv_aload_n 1 dX4_takeSymbol_45 rfl rfl ?_
      obtain ⟨x4, hx4, hm⟩ := hp_bd hm
      refine hv_get lk_f_X4_22 dX4_takeSymbol_46 (hp_fR_spec hx4) ?_
      obtain ⟨x5, hx5, hm⟩ := hp_bd hm
      refine hv_get lk_f_X4_177 dX4_takeSymbol_49 (hp_fR_spec hx5) ?_
      refine hv_iload_n 0 dX4_takeSymbol_52 rfl rfl ?_
      obtain ⟨x6, hx6, hm⟩ := hp_bd hm
      have hq := mo_X4_takeSymbol_56 hm
      obtain ⟨Vx6, hVx6⟩ := k_X5_add hx6
      refine hv_callV (As := [.int x2]) (rest := []) Z_X5_add I_X5_add lk_m_X4_181 rfl hVx6 (c_X5_add G n x5 x2 h sz sl _ hx6) rfl (Nat.le_of_ble_eq_true rfl) ⟨Nat.le_of_ble_eq_true rfl, Nat.le_of_ble_eq_true rfl⟩ hq.1 hq.2 rfl dX4_takeSymbol_53 ?_
      refine hv_as2 [] x6.1 x6.2.1 x6.2.2 rfl rfl rfl rfl ?_
      exact hv_sub [1] rfl (q_X4_takeSymbol_56 G n v0 x6.1 x6.2.1 x6.2.2 _ hm)
    · rw [if_pos c7] at hm
      refine hv_bipush (6 : Int32) dX4_takeSymbol_42 (by decide) ?_
      obtain rfl := Option.some.inj hm
      exact hv_iret rfl dX4_takeSymbol_44
  · rw [if_pos c8] at hm
    refine hv_bipush (7 : Int32) dX4_takeSymbol_26 (by decide) ?_
    obtain rfl := Option.some.inj hm
    exact hv_iret rfl dX4_takeSymbol_28
def f_X4_takeSymbol_0 (n : Nat) (v0 : Nat) (h : hp_H) (sz sl : Nat) : Option (Int32 × hp_H × Nat × Nat) :=
  (hp_fI h 4 v0 6).bind fun x1 =>
  if x1 = 0 then
    (hp_fI h 4 v0 9).bind fun x2 =>
    if x2 = (2 : Int32) then
      some ((3 : Int32), h, sz, sl)
    else
      f_X4_takeSymbol_17 n v0 h sz sl
  else
    f_X4_takeSymbol_17 n v0 h sz sl
set_option maxHeartbeats 1000000 in
set_option maxRecDepth 4000 in
theorem mo_X4_takeSymbol_0 {n : Nat} {v0 : Nat} {h : hp_H} {sz sl : Nat} {res : Int32 × hp_H × Nat × Nat} (hm : f_X4_takeSymbol_0 n v0 h sz sl = some res) : sz ≤ res.2.2.1 ∧ sl ≤ res.2.2.2 := by
  unfold f_X4_takeSymbol_0 at hm
  obtain ⟨x1, hx1, hm⟩ := hp_bd hm
  rcases (Decidable.em (x1 = 0)).symm with c4 | c4
  · rw [if_neg c4] at hm
    exact mo_X4_takeSymbol_17 hm
  · rw [if_pos c4] at hm
    obtain ⟨x2, hx2, hm⟩ := hp_bd hm
    rcases (Decidable.em (x2 = (2 : Int32))).symm with c3 | c3
    · rw [if_neg c3] at hm
      exact mo_X4_takeSymbol_17 hm
    · rw [if_pos c3] at hm
      obtain rfl := Option.some.inj hm
      exact ⟨Nat.le_refl _, Nat.le_refl _⟩
set_option maxHeartbeats 1000000 in
set_option maxRecDepth 4000 in
theorem q_X4_takeSymbol_0 (G : hp_G) (n : Nat) (v0 : Nat) (h : hp_H) (sz sl : Nat) (res : Int32 × hp_H × Nat × Nat) (hm : f_X4_takeSymbol_0 n v0 h sz sl = some res) : hp_V G m_X4_takeSymbol 0 [(0, .ref v0)] [] h sz sl (some (.int res.1), res.2.1, res.2.2.1, res.2.2.2) := by
  have ho := mo_X4_takeSymbol_0 hm
  unfold f_X4_takeSymbol_0 at hm
  refine hv_aload_n 0 dX4_takeSymbol_0 rfl rfl ?_
  obtain ⟨x1, hx1, hm⟩ := hp_bd hm
  refine hv_get lk_f_X4_149 dX4_takeSymbol_1 (hp_fI_spec hx1) ?_
  refine hv_if_ne (tgt := 17) dX4_takeSymbol_4 (by decide) (fun c4 => ?_) (fun c4 => ?_)
  · rw [if_neg c4] at hm
    exact hv_sub [0] rfl (q_X4_takeSymbol_17 G n v0 h sz sl _ hm)
  · rw [if_pos c4] at hm
    refine hv_aload_n 0 dX4_takeSymbol_7 rfl rfl ?_
    obtain ⟨x2, hx2, hm⟩ := hp_bd hm
    refine hv_get lk_f_X4_146 dX4_takeSymbol_8 (hp_fI_spec hx2) ?_
    refine hv_iconst (2 : Int32) dX4_takeSymbol_11 (by decide) ?_
    refine hv_icmp_ne (tgt := 17) dX4_takeSymbol_12 (by decide) (fun c3 => ?_) (fun c3 => ?_)
    · rw [if_neg c3] at hm
      exact hv_sub [0] rfl (q_X4_takeSymbol_17 G n v0 h sz sl _ hm)
    · rw [if_pos c3] at hm
      refine hv_iconst (3 : Int32) dX4_takeSymbol_15 (by decide) ?_
      obtain rfl := Option.some.inj hm
      exact hv_iret rfl dX4_takeSymbol_16
def f_X4_takeSymbol (n : Nat) (v0 : Nat) (h : hp_H) (sz sl : Nat) : Option (Int32 × hp_H × Nat × Nat) := (hp_ck h 4 v0).bind fun _ => f_X4_takeSymbol_0 n v0 h sz sl
theorem c_X4_takeSymbol (G : hp_G) (n : Nat) (v0 : Nat) (h : hp_H) (sz sl : Nat) (res : Int32 × hp_H × Nat × Nat) (hm : f_X4_takeSymbol n v0 h sz sl = some res) : hp_C G m_X4_takeSymbol yX4_takeSymbol [.ref v0] h sz sl (some (.int res.1), res.2.1, res.2.2.1, res.2.2.2) := by
  unfold f_X4_takeSymbol at hm
  obtain ⟨_, _, hm⟩ := hp_bd hm
  exact hp_C_of (by decide) rfl rfl (Nat.le_of_ble_eq_true rfl) (mo_X4_takeSymbol_0 hm).1 (mo_X4_takeSymbol_0 hm).2 (hv_sub [0] rfl (q_X4_takeSymbol_0 G n v0 h sz sl res hm))
theorem k_X4_takeSymbol {n : Nat} {v0 : Nat} {h : hp_H} {sz sl : Nat} {res : Int32 × hp_H × Nat × Nat} (hm : f_X4_takeSymbol n v0 h sz sl = some res) : ∃ V, h v0 = some (.inr (.inr (4, V))) := by
  unfold f_X4_takeSymbol at hm
  obtain ⟨_, hu, _⟩ := hp_bd hm
  exact hp_ck_spec hu
theorem mx_X4_takeSymbol {n : Nat} {v0 : Nat} {h : hp_H} {sz sl : Nat} {res : Int32 × hp_H × Nat × Nat} (hm : f_X4_takeSymbol n v0 h sz sl = some res) : sz ≤ res.2.2.1 ∧ sl ≤ res.2.2.2 := by
  unfold f_X4_takeSymbol at hm
  obtain ⟨_, _, hm⟩ := hp_bd hm
  exact mo_X4_takeSymbol_0 hm
abbrev m_X4_takeEnd : hp_M := (RX4, cX4_takeEnd, 4, some .int, 1, 21, "takeEnd")
theorem Z_X4_takeEnd : hp_Y yX4_takeEnd m_X4_takeEnd 1 := Y_X4_takeEnd
def f_X4_takeEnd_59 (n : Nat)  (s0 : Int32) (s1 : Nat) (h : hp_H) : Option (Int32 × hp_H) :=
  (f_X4_begin n s1 s0 h).bind fun x1 =>
  some (x1.1, x1.2)
set_option maxHeartbeats 1000000 in
set_option maxRecDepth 4000 in
theorem q_X4_takeEnd_59 (G : hp_G) (n : Nat)  (s0 : Int32) (s1 : Nat) (h : hp_H) (sz sl : Nat) (res : Int32 × hp_H) (hm : f_X4_takeEnd_59 n s0 s1 h = some res) : hp_V G m_X4_takeEnd 59 [] [.int s0, .ref s1] h sz sl (some (.int res.1), res.2, sz, sl) := by
  have ho : sz ≤ sz ∧ sl ≤ sl := ⟨Nat.le_refl _, Nat.le_refl _⟩
  unfold f_X4_takeEnd_59 at hm
  obtain ⟨x1, hx1, hm⟩ := hp_bd hm
  obtain ⟨Vx1, hVx1⟩ := k_X4_begin hx1
  refine hv_callV (As := [.int s0]) (rest := []) Z_X4_begin I_X4_begin lk_m_X4_136 rfl hVx1 (c_X4_begin G n s1 s0 h sz sl _ hx1) rfl (Nat.le_of_ble_eq_true rfl) ⟨Nat.le_of_ble_eq_true rfl, Nat.le_of_ble_eq_true rfl⟩ ho.1 ho.2 rfl dX4_takeEnd_59 ?_
  refine hv_as [.int x1.1] x1.2 rfl rfl ?_
  obtain rfl := Option.some.inj hm
  exact hv_iret rfl dX4_takeEnd_62
def f_X4_takeEnd_28 (n : Nat) (v0 : Nat) (v1 : Int32) (v2 : Int32) (s0 : Int32) (h : hp_H) : Option (Int32 × hp_H) :=
  if v1 = s0 then
    (hp_fI h 4 v0 9).bind fun x1 =>
    if v2 ≤ x1 then
      (hp_fI h 4 v0 6).bind fun x2 =>
      if x2 = (3 : Int32) then
        f_X4_takeEnd_59 n (5 : Int32) v0 h
      else
        f_X4_takeEnd_59 n (6 : Int32) v0 h
    else
      some ((3 : Int32), h)
  else
    some ((3 : Int32), h)
set_option maxHeartbeats 1000000 in
set_option maxRecDepth 4000 in
theorem q_X4_takeEnd_28 (G : hp_G) (n : Nat) (v0 : Nat) (v1 : Int32) (v2 : Int32) (s0 : Int32) (h : hp_H) (sz sl : Nat) (res : Int32 × hp_H) (hm : f_X4_takeEnd_28 n v0 v1 v2 s0 h = some res) : hp_V G m_X4_takeEnd 28 [(0, .ref v0), (1, .int v1), (2, .int v2)] [.int s0] h sz sl (some (.int res.1), res.2, sz, sl) := by
  have ho : sz ≤ sz ∧ sl ≤ sl := ⟨Nat.le_refl _, Nat.le_refl _⟩
  unfold f_X4_takeEnd_28 at hm
  refine hv_istore_n [(3, .int s0), (0, .ref v0), (1, .int v1), (2, .int v2)] dX4_takeEnd_28 rfl (by decide) rfl ?_
  refine hv_iload_n 2 dX4_takeEnd_29 rfl rfl ?_
  refine hv_iload_n 0 dX4_takeEnd_30 rfl rfl ?_
  refine hv_icmp_ne (tgt := 42) dX4_takeEnd_31 (by decide) (fun c5 => ?_) (fun c5 => ?_)
  · rw [if_neg c5] at hm
    refine hv_iconst (3 : Int32) dX4_takeEnd_42 (by decide) ?_
    obtain rfl := Option.some.inj hm
    exact hv_iret rfl dX4_takeEnd_43
  · rw [if_pos c5] at hm
    refine hv_aload_n 1 dX4_takeEnd_34 rfl rfl ?_
    obtain ⟨x1, hx1, hm⟩ := hp_bd hm
    refine hv_get lk_f_X4_146 dX4_takeEnd_35 (hp_fI_spec hx1) ?_
    refine hv_iload_n 3 dX4_takeEnd_38 rfl rfl ?_
    refine hv_icmp_ge (tgt := 44) dX4_takeEnd_39 (by decide) (fun c4 => ?_) (fun c4 => ?_)
    · rw [if_pos c4] at hm
      refine hv_aload_n 1 dX4_takeEnd_44 rfl rfl ?_
      refine hv_aload_n 1 dX4_takeEnd_45 rfl rfl ?_
      obtain ⟨x2, hx2, hm⟩ := hp_bd hm
      refine hv_get lk_f_X4_149 dX4_takeEnd_46 (hp_fI_spec hx2) ?_
      refine hv_iconst (3 : Int32) dX4_takeEnd_49 (by decide) ?_
      refine hv_icmp_ne (tgt := 57) dX4_takeEnd_50 (by decide) (fun c3 => ?_) (fun c3 => ?_)
      · rw [if_neg c3] at hm
        refine hv_bipush (6 : Int32) dX4_takeEnd_57 (by decide) ?_
        exact hv_sub [] rfl (q_X4_takeEnd_59 G n (6 : Int32) v0 h sz sl _ hm)
      · rw [if_pos c3] at hm
        refine hv_iconst (5 : Int32) dX4_takeEnd_53 (by decide) ?_
        refine hv_goto (tgt := 59) dX4_takeEnd_54 (by decide) ?_
        exact hv_sub [] rfl (q_X4_takeEnd_59 G n (5 : Int32) v0 h sz sl _ hm)
    · rw [if_neg c4] at hm
      refine hv_iconst (3 : Int32) dX4_takeEnd_42 (by decide) ?_
      obtain rfl := Option.some.inj hm
      exact hv_iret rfl dX4_takeEnd_43
def f_X4_takeEnd_12 (n : Nat) (v0 : Nat) (v1 : Int32) (s0 : Int32) (h : hp_H) : Option (Int32 × hp_H) :=
  (hp_fI h 4 v0 6).bind fun x1 =>
  if x1 = (3 : Int32) then
    f_X4_takeEnd_28 n v0 v1 s0 (61 : Int32) h
  else
    f_X4_takeEnd_28 n v0 v1 s0 (46 : Int32) h
set_option maxHeartbeats 1000000 in
set_option maxRecDepth 4000 in
theorem q_X4_takeEnd_12 (G : hp_G) (n : Nat) (v0 : Nat) (v1 : Int32) (s0 : Int32) (h : hp_H) (sz sl : Nat) (res : Int32 × hp_H) (hm : f_X4_takeEnd_12 n v0 v1 s0 h = some res) : hp_V G m_X4_takeEnd 12 [(0, .ref v0), (1, .int v1)] [.int s0] h sz sl (some (.int res.1), res.2, sz, sl) := by
  have ho : sz ≤ sz ∧ sl ≤ sl := ⟨Nat.le_refl _, Nat.le_refl _⟩
  unfold f_X4_takeEnd_12 at hm
  refine hv_istore_n [(2, .int s0), (0, .ref v0), (1, .int v1)] dX4_takeEnd_12 rfl (by decide) rfl ?_
  refine hv_aload_n 1 dX4_takeEnd_13 rfl rfl ?_
  obtain ⟨x1, hx1, hm⟩ := hp_bd hm
  refine hv_get lk_f_X4_149 dX4_takeEnd_14 (hp_fI_spec hx1) ?_
  refine hv_iconst (3 : Int32) dX4_takeEnd_17 (by decide) ?_
  refine hv_icmp_ne (tgt := 26) dX4_takeEnd_18 (by decide) (fun c2 => ?_) (fun c2 => ?_)
  · rw [if_neg c2] at hm
    refine hv_bipush (46 : Int32) dX4_takeEnd_26 (by decide) ?_
    exact hv_sub [1, 2, 0] rfl (q_X4_takeEnd_28 G n v0 v1 s0 (46 : Int32) h sz sl _ hm)
  · rw [if_pos c2] at hm
    refine hv_bipush (61 : Int32) dX4_takeEnd_21 (by decide) ?_
    refine hv_goto (tgt := 28) dX4_takeEnd_23 (by decide) ?_
    exact hv_sub [1, 2, 0] rfl (q_X4_takeEnd_28 G n v0 v1 s0 (61 : Int32) h sz sl _ hm)
def f_X4_takeEnd_0 (n : Nat) (v0 : Nat) (v1 : Int32) (h : hp_H) : Option (Int32 × hp_H) :=
  (hp_fI h 4 v0 6).bind fun x1 =>
  if x1 = 0 then
    f_X4_takeEnd_12 n v0 v1 (2 : Int32) h
  else
    f_X4_takeEnd_12 n v0 v1 (1 : Int32) h
set_option maxHeartbeats 1000000 in
set_option maxRecDepth 4000 in
theorem q_X4_takeEnd_0 (G : hp_G) (n : Nat) (v0 : Nat) (v1 : Int32) (h : hp_H) (sz sl : Nat) (res : Int32 × hp_H) (hm : f_X4_takeEnd_0 n v0 v1 h = some res) : hp_V G m_X4_takeEnd 0 [(0, .ref v0), (1, .int v1)] [] h sz sl (some (.int res.1), res.2, sz, sl) := by
  have ho : sz ≤ sz ∧ sl ≤ sl := ⟨Nat.le_refl _, Nat.le_refl _⟩
  unfold f_X4_takeEnd_0 at hm
  refine hv_aload_n 0 dX4_takeEnd_0 rfl rfl ?_
  obtain ⟨x1, hx1, hm⟩ := hp_bd hm
  refine hv_get lk_f_X4_149 dX4_takeEnd_1 (hp_fI_spec hx1) ?_
  refine hv_if_ne (tgt := 11) dX4_takeEnd_4 (by decide) (fun c2 => ?_) (fun c2 => ?_)
  · rw [if_neg c2] at hm
    refine hv_iconst (1 : Int32) dX4_takeEnd_11 (by decide) ?_
    exact hv_sub [0, 1] rfl (q_X4_takeEnd_12 G n v0 v1 (1 : Int32) h sz sl _ hm)
  · rw [if_pos c2] at hm
    refine hv_iconst (2 : Int32) dX4_takeEnd_7 (by decide) ?_
    refine hv_goto (tgt := 12) dX4_takeEnd_8 (by decide) ?_
    exact hv_sub [0, 1] rfl (q_X4_takeEnd_12 G n v0 v1 (2 : Int32) h sz sl _ hm)
def f_X4_takeEnd (n : Nat) (v0 : Nat) (v1 : Int32) (h : hp_H) : Option (Int32 × hp_H) := (hp_ck h 4 v0).bind fun _ => f_X4_takeEnd_0 n v0 v1 h
theorem c_X4_takeEnd (G : hp_G) (n : Nat) (v0 : Nat) (v1 : Int32) (h : hp_H) (sz sl : Nat) (res : Int32 × hp_H) (hm : f_X4_takeEnd n v0 v1 h = some res) : hp_C G m_X4_takeEnd yX4_takeEnd [.ref v0, .int v1] h sz sl (some (.int res.1), res.2, sz, sl) := by
  unfold f_X4_takeEnd at hm
  obtain ⟨_, _, hm⟩ := hp_bd hm
  exact hp_C_of (by decide) rfl rfl (Nat.le_of_ble_eq_true rfl) (Nat.le_refl _) (Nat.le_refl _) (hv_sub [0, 1] rfl (q_X4_takeEnd_0 G n v0 v1 h sz sl res hm))
theorem k_X4_takeEnd {n : Nat} {v0 : Nat} {v1 : Int32} {h : hp_H} {res : Int32 × hp_H} (hm : f_X4_takeEnd n v0 v1 h = some res) : ∃ V, h v0 = some (.inr (.inr (4, V))) := by
  unfold f_X4_takeEnd at hm
  obtain ⟨_, hu, _⟩ := hp_bd hm
  exact hp_ck_spec hu
abbrev m_X4_takeProofToken : hp_M := (RX4, cX4_takeProofToken, 3, some .int, 3, 83, "takeProofToken")
theorem Z_X4_takeProofToken : hp_Y yX4_takeProofToken m_X4_takeProofToken 1 := Y_X4_takeProofToken
def f_X4_takeProofToken_80 (n : Nat) (v0 : Nat) (h : hp_H) (sz sl : Nat) : Option (Int32 × hp_H × Nat × Nat) :=
  (hp_fI h 4 v0 9).bind fun x1 =>
  (hp_pF h 4 v0 9 (.int (x1 + (1 : Int32)))).bind fun h2 =>
  some ((0 : Int32), h2, sz, sl)
set_option maxHeartbeats 1000000 in
set_option maxRecDepth 4000 in
theorem mo_X4_takeProofToken_80 {n : Nat} {v0 : Nat} {h : hp_H} {sz sl : Nat} {res : Int32 × hp_H × Nat × Nat} (hm : f_X4_takeProofToken_80 n v0 h sz sl = some res) : sz ≤ res.2.2.1 ∧ sl ≤ res.2.2.2 := by
  unfold f_X4_takeProofToken_80 at hm
  obtain ⟨x1, hx1, hm⟩ := hp_bd hm
  obtain ⟨h2, hh2, hm⟩ := hp_bd hm
  obtain rfl := Option.some.inj hm
  exact ⟨Nat.le_refl _, Nat.le_refl _⟩
set_option maxHeartbeats 1000000 in
set_option maxRecDepth 4000 in
theorem q_X4_takeProofToken_80 (G : hp_G) (n : Nat) (v0 : Nat) (h : hp_H) (sz sl : Nat) (res : Int32 × hp_H × Nat × Nat) (hm : f_X4_takeProofToken_80 n v0 h sz sl = some res) : hp_V G m_X4_takeProofToken 80 [(0, .ref v0)] [] h sz sl (some (.int res.1), res.2.1, res.2.2.1, res.2.2.2) := by
  have ho := mo_X4_takeProofToken_80 hm
  unfold f_X4_takeProofToken_80 at hm
  refine hv_aload_n 0 dX4_takeProofToken_80 rfl rfl ?_
  refine hv_dup dX4_takeProofToken_81 rfl ?_
  obtain ⟨x1, hx1, hm⟩ := hp_bd hm
  refine hv_get lk_f_X4_146 dX4_takeProofToken_82 (hp_fI_spec hx1) ?_
  refine hv_iconst (1 : Int32) dX4_takeProofToken_85 (by decide) ?_
  refine hv_iadd dX4_takeProofToken_86 ?_
  obtain ⟨h2, hh2, hm⟩ := hp_bd hm
  refine hv_put lk_f_X4_146 dX4_takeProofToken_87 rfl rfl hh2 ?_
  refine hv_iconst (0 : Int32) dX4_takeProofToken_90 (by decide) ?_
  obtain rfl := Option.some.inj hm
  exact hv_iret rfl dX4_takeProofToken_91
def f_X4_takeProofToken_77 (n : Nat) (v0 : Nat) (s0 : Int32) (s1 : Nat) (h : hp_H) (sz sl : Nat) : Option (Int32 × hp_H × Nat × Nat) :=
  (f_X5_add n s1 s0 h sz sl).bind fun x1 =>
  f_X4_takeProofToken_80 n v0 x1.1 x1.2.1 x1.2.2
set_option maxHeartbeats 1000000 in
set_option maxRecDepth 4000 in
theorem mo_X4_takeProofToken_77 {n : Nat} {v0 : Nat} {s0 : Int32} {s1 : Nat} {h : hp_H} {sz sl : Nat} {res : Int32 × hp_H × Nat × Nat} (hm : f_X4_takeProofToken_77 n v0 s0 s1 h sz sl = some res) : sz ≤ res.2.2.1 ∧ sl ≤ res.2.2.2 := by
  unfold f_X4_takeProofToken_77 at hm
  obtain ⟨x1, hx1, hm⟩ := hp_bd hm
  exact hp_tr (mx_X5_add hx1) (mo_X4_takeProofToken_80 hm)
set_option maxHeartbeats 1000000 in
set_option maxRecDepth 4000 in
theorem q_X4_takeProofToken_77 (G : hp_G) (n : Nat) (v0 : Nat) (s0 : Int32) (s1 : Nat) (h : hp_H) (sz sl : Nat) (res : Int32 × hp_H × Nat × Nat) (hm : f_X4_takeProofToken_77 n v0 s0 s1 h sz sl = some res) : hp_V G m_X4_takeProofToken 77 [(0, .ref v0)] [.int s0, .ref s1] h sz sl (some (.int res.1), res.2.1, res.2.2.1, res.2.2.2) := by
  have ho := mo_X4_takeProofToken_77 hm
  unfold f_X4_takeProofToken_77 at hm
  obtain ⟨x1, hx1, hm⟩ := hp_bd hm
  have hq := mo_X4_takeProofToken_80 hm
  obtain ⟨Vx1, hVx1⟩ := k_X5_add hx1
  refine hv_callV (As := [.int s0]) (rest := []) Z_X5_add I_X5_add lk_m_X4_181 rfl hVx1 (c_X5_add G n s1 s0 h sz sl _ hx1) rfl (Nat.le_of_ble_eq_true rfl) ⟨Nat.le_of_ble_eq_true rfl, Nat.le_of_ble_eq_true rfl⟩ hq.1 hq.2 rfl dX4_takeProofToken_77 ?_
  refine hv_as2 [] x1.1 x1.2.1 x1.2.2 rfl rfl rfl rfl ?_
  exact hv_sub [0] rfl (q_X4_takeProofToken_80 G n v0 x1.1 x1.2.1 x1.2.2 _ hm)
def f_X4_takeProofToken_54 (n : Nat) (v0 : Nat) (v2 : Int32) (h : hp_H) (sz sl : Nat) : Option (Int32 × hp_H × Nat × Nat) :=
  (hp_fR h 4 v0 1).bind fun x1 =>
  (hp_fR h 0 x1 11).bind fun x2 =>
  if v2 < (300 : Int32) then
    f_X4_takeProofToken_77 n v0 (-1 : Int32) x2 h sz sl
  else
    f_X4_takeProofToken_77 n v0 (v2 - (300 : Int32)) x2 h sz sl
set_option maxHeartbeats 1000000 in
set_option maxRecDepth 4000 in
theorem mo_X4_takeProofToken_54 {n : Nat} {v0 : Nat} {v2 : Int32} {h : hp_H} {sz sl : Nat} {res : Int32 × hp_H × Nat × Nat} (hm : f_X4_takeProofToken_54 n v0 v2 h sz sl = some res) : sz ≤ res.2.2.1 ∧ sl ≤ res.2.2.2 := by
  unfold f_X4_takeProofToken_54 at hm
  obtain ⟨x1, hx1, hm⟩ := hp_bd hm
  obtain ⟨x2, hx2, hm⟩ := hp_bd hm
  rcases Decidable.em (v2 < (300 : Int32)) with c3 | c3
  · rw [if_pos c3] at hm
    exact mo_X4_takeProofToken_77 hm
  · rw [if_neg c3] at hm
    exact mo_X4_takeProofToken_77 hm
set_option maxHeartbeats 1000000 in
set_option maxRecDepth 4000 in
theorem q_X4_takeProofToken_54 (G : hp_G) (n : Nat) (v0 : Nat) (v2 : Int32) (h : hp_H) (sz sl : Nat) (res : Int32 × hp_H × Nat × Nat) (hm : f_X4_takeProofToken_54 n v0 v2 h sz sl = some res) : hp_V G m_X4_takeProofToken 54 [(0, .ref v0), (2, .int v2)] [] h sz sl (some (.int res.1), res.2.1, res.2.2.1, res.2.2.2) := by
  have ho := mo_X4_takeProofToken_54 hm
  unfold f_X4_takeProofToken_54 at hm
  refine hv_aload_n 0 dX4_takeProofToken_54 rfl rfl ?_
  obtain ⟨x1, hx1, hm⟩ := hp_bd hm
  refine hv_get lk_f_X4_22 dX4_takeProofToken_55 (hp_fR_spec hx1) ?_
  obtain ⟨x2, hx2, hm⟩ := hp_bd hm
  refine hv_get lk_f_X4_195 dX4_takeProofToken_58 (hp_fR_spec hx2) ?_
  refine hv_iload_n 1 dX4_takeProofToken_61 rfl rfl ?_
  refine hv_sipush (300 : Int32) dX4_takeProofToken_62 (by decide) ?_
  refine hv_icmp_lt (tgt := 76) dX4_takeProofToken_65 (by decide) (fun c3 => ?_) (fun c3 => ?_)
  · rw [if_pos c3] at hm
    refine hv_iconst (-1 : Int32) dX4_takeProofToken_76 (by decide) ?_
    exact hv_sub [0] rfl (q_X4_takeProofToken_77 G n v0 (-1 : Int32) x2 h sz sl _ hm)
  · rw [if_neg c3] at hm
    refine hv_iload_n 1 dX4_takeProofToken_68 rfl rfl ?_
    refine hv_sipush (300 : Int32) dX4_takeProofToken_69 (by decide) ?_
    refine hv_isub dX4_takeProofToken_72 ?_
    refine hv_goto (tgt := 77) dX4_takeProofToken_73 (by decide) ?_
    exact hv_sub [0] rfl (q_X4_takeProofToken_77 G n v0 (v2 - (300 : Int32)) x2 h sz sl _ hm)
def f_X4_takeProofToken_0 (n : Nat) (v0 : Nat) (v1 : Int32) (h : hp_H) (sz sl : Nat) : Option (Int32 × hp_H × Nat × Nat) :=
  if v1 = (46 : Int32) then
    (f_X4_begin n v0 (6 : Int32) h).bind fun x10 =>
    some (x10.1, x10.2, sz, sl)
  else
    if v1 = 0 then
      (hp_fI h 4 v0 9).bind fun x1 =>
      if x1 = (400 : Int32) then
        some ((7 : Int32), h, sz, sl)
      else
        (f_X4_namedByToken n v0 h).bind fun x2 =>
        (hp_fR h 4 v0 1).bind fun x3 =>
        (hp_fR h 0 x3 10).bind fun x4 =>
        (hp_fR h 4 v0 2).bind fun x5 =>
        (hp_fI h 6 x5 0).bind fun x6 =>
        (f_X5_add n x4 x6 h sz sl).bind fun x7 =>
        f_X4_takeProofToken_54 n v0 x2 x7.1 x7.2.1 x7.2.2
    else
      some ((3 : Int32), h, sz, sl)
set_option maxHeartbeats 1000000 in
set_option maxRecDepth 4000 in
theorem mo_X4_takeProofToken_0 {n : Nat} {v0 : Nat} {v1 : Int32} {h : hp_H} {sz sl : Nat} {res : Int32 × hp_H × Nat × Nat} (hm : f_X4_takeProofToken_0 n v0 v1 h sz sl = some res) : sz ≤ res.2.2.1 ∧ sl ≤ res.2.2.2 := by
  unfold f_X4_takeProofToken_0 at hm
  rcases (Decidable.em (v1 = (46 : Int32))).symm with c11 | c11
  · rw [if_neg c11] at hm
    rcases Decidable.em (v1 = 0) with c9 | c9
    · rw [if_pos c9] at hm
      obtain ⟨x1, hx1, hm⟩ := hp_bd hm
      rcases (Decidable.em (x1 = (400 : Int32))).symm with c8 | c8
      · rw [if_neg c8] at hm
        obtain ⟨x2, hx2, hm⟩ := hp_bd hm
        obtain ⟨x3, hx3, hm⟩ := hp_bd hm
        obtain ⟨x4, hx4, hm⟩ := hp_bd hm
        obtain ⟨x5, hx5, hm⟩ := hp_bd hm
        obtain ⟨x6, hx6, hm⟩ := hp_bd hm
        obtain ⟨x7, hx7, hm⟩ := hp_bd hm
        exact hp_tr (mx_X5_add hx7) (mo_X4_takeProofToken_54 hm)
      · rw [if_pos c8] at hm
        obtain rfl := Option.some.inj hm
        exact ⟨Nat.le_refl _, Nat.le_refl _⟩
    · rw [if_neg c9] at hm
      obtain rfl := Option.some.inj hm
      exact ⟨Nat.le_refl _, Nat.le_refl _⟩
  · rw [if_pos c11] at hm
    obtain ⟨x10, hx10, hm⟩ := hp_bd hm
    obtain rfl := Option.some.inj hm
    exact ⟨Nat.le_refl _, Nat.le_refl _⟩
set_option maxHeartbeats 1000000 in
set_option maxRecDepth 4000 in
theorem q_X4_takeProofToken_0 (G : hp_G) (n : Nat) (v0 : Nat) (v1 : Int32) (h : hp_H) (sz sl : Nat) (res : Int32 × hp_H × Nat × Nat) (hm : f_X4_takeProofToken_0 n v0 v1 h sz sl = some res) : hp_V G m_X4_takeProofToken 0 [(0, .ref v0), (1, .int v1)] [] h sz sl (some (.int res.1), res.2.1, res.2.2.1, res.2.2.2) := by
  have ho := mo_X4_takeProofToken_0 hm
  unfold f_X4_takeProofToken_0 at hm
  refine hv_iload_n 1 dX4_takeProofToken_0 rfl rfl ?_
  refine hv_bipush (46 : Int32) dX4_takeProofToken_1 (by decide) ?_
  refine hv_icmp_ne (tgt := 13) dX4_takeProofToken_3 (by decide) (fun c11 => ?_) (fun c11 => ?_)
  · rw [if_neg c11] at hm
    refine hv_iload_n 1 dX4_takeProofToken_13 rfl rfl ?_
    refine hv_if_eq (tgt := 19) dX4_takeProofToken_14 (by decide) (fun c9 => ?_) (fun c9 => ?_)
    · rw [if_pos c9] at hm
      refine hv_aload_n 0 dX4_takeProofToken_19 rfl rfl ?_
      obtain ⟨x1, hx1, hm⟩ := hp_bd hm
      refine hv_get lk_f_X4_146 dX4_takeProofToken_20 (hp_fI_spec hx1) ?_
      refine hv_sipush (400 : Int32) dX4_takeProofToken_23 (by decide) ?_
      refine hv_icmp_ne (tgt := 32) dX4_takeProofToken_26 (by decide) (fun c8 => ?_) (fun c8 => ?_)
      · rw [if_neg c8] at hm
        refine hv_aload_n 0 dX4_takeProofToken_32 rfl rfl ?_
        obtain ⟨x2, hx2, hm⟩ := hp_bd hm
        obtain ⟨Vx2, hVx2⟩ := k_X4_namedByToken hx2
        refine hv_callV (As := []) (rest := []) Z_X4_namedByToken I_X4_namedByToken lk_m_X4_110 rfl hVx2 (c_X4_namedByToken G n v0 h sz sl _ hx2) rfl (Nat.le_of_ble_eq_true rfl) ⟨Nat.le_of_ble_eq_true rfl, Nat.le_of_ble_eq_true rfl⟩ ho.1 ho.2 rfl dX4_takeProofToken_33 ?_
        refine hv_as [.int x2] h rfl rfl ?_
        refine hv_istore_n [(2, .int x2), (0, .ref v0), (1, .int v1)] dX4_takeProofToken_36 rfl (by decide) rfl ?_
        refine hv_aload_n 1 dX4_takeProofToken_37 rfl rfl ?_
        obtain ⟨x3, hx3, hm⟩ := hp_bd hm
        refine hv_get lk_f_X4_22 dX4_takeProofToken_38 (hp_fR_spec hx3) ?_
        obtain ⟨x4, hx4, hm⟩ := hp_bd hm
        refine hv_get lk_f_X4_192 dX4_takeProofToken_41 (hp_fR_spec hx4) ?_
        refine hv_aload_n 1 dX4_takeProofToken_44 rfl rfl ?_
        obtain ⟨x5, hx5, hm⟩ := hp_bd hm
        refine hv_get lk_f_X4_37 dX4_takeProofToken_45 (hp_fR_spec hx5) ?_
        obtain ⟨x6, hx6, hm⟩ := hp_bd hm
        refine hv_get lk_f_X4_92 dX4_takeProofToken_48 (hp_fI_spec hx6) ?_
        obtain ⟨x7, hx7, hm⟩ := hp_bd hm
        have hq := mo_X4_takeProofToken_54 hm
        obtain ⟨Vx7, hVx7⟩ := k_X5_add hx7
        refine hv_callV (As := [.int x6]) (rest := []) Z_X5_add I_X5_add lk_m_X4_181 rfl hVx7 (c_X5_add G n x4 x6 h sz sl _ hx7) rfl (Nat.le_of_ble_eq_true rfl) ⟨Nat.le_of_ble_eq_true rfl, Nat.le_of_ble_eq_true rfl⟩ hq.1 hq.2 rfl dX4_takeProofToken_51 ?_
        refine hv_as2 [] x7.1 x7.2.1 x7.2.2 rfl rfl rfl rfl ?_
        exact hv_sub [1, 0] rfl (q_X4_takeProofToken_54 G n v0 x2 x7.1 x7.2.1 x7.2.2 _ hm)
      · rw [if_pos c8] at hm
        refine hv_bipush (7 : Int32) dX4_takeProofToken_29 (by decide) ?_
        obtain rfl := Option.some.inj hm
        exact hv_iret rfl dX4_takeProofToken_31
    · rw [if_neg c9] at hm
      refine hv_iconst (3 : Int32) dX4_takeProofToken_17 (by decide) ?_
      obtain rfl := Option.some.inj hm
      exact hv_iret rfl dX4_takeProofToken_18
  · rw [if_pos c11] at hm
    refine hv_aload_n 0 dX4_takeProofToken_6 rfl rfl ?_
    refine hv_bipush (6 : Int32) dX4_takeProofToken_7 (by decide) ?_
    obtain ⟨x10, hx10, hm⟩ := hp_bd hm
    obtain ⟨Vx10, hVx10⟩ := k_X4_begin hx10
    refine hv_callV (As := [.int (6 : Int32)]) (rest := []) Z_X4_begin I_X4_begin lk_m_X4_136 rfl hVx10 (c_X4_begin G n v0 (6 : Int32) h sz sl _ hx10) rfl (Nat.le_of_ble_eq_true rfl) ⟨Nat.le_of_ble_eq_true rfl, Nat.le_of_ble_eq_true rfl⟩ ho.1 ho.2 rfl dX4_takeProofToken_9 ?_
    refine hv_as [.int x10.1] x10.2 rfl rfl ?_
    obtain rfl := Option.some.inj hm
    exact hv_iret rfl dX4_takeProofToken_12
def f_X4_takeProofToken (n : Nat) (v0 : Nat) (v1 : Int32) (h : hp_H) (sz sl : Nat) : Option (Int32 × hp_H × Nat × Nat) := (hp_ck h 4 v0).bind fun _ => f_X4_takeProofToken_0 n v0 v1 h sz sl
theorem c_X4_takeProofToken (G : hp_G) (n : Nat) (v0 : Nat) (v1 : Int32) (h : hp_H) (sz sl : Nat) (res : Int32 × hp_H × Nat × Nat) (hm : f_X4_takeProofToken n v0 v1 h sz sl = some res) : hp_C G m_X4_takeProofToken yX4_takeProofToken [.ref v0, .int v1] h sz sl (some (.int res.1), res.2.1, res.2.2.1, res.2.2.2) := by
  unfold f_X4_takeProofToken at hm
  obtain ⟨_, _, hm⟩ := hp_bd hm
  exact hp_C_of (by decide) rfl rfl (Nat.le_of_ble_eq_true rfl) (mo_X4_takeProofToken_0 hm).1 (mo_X4_takeProofToken_0 hm).2 (hv_sub [0, 1] rfl (q_X4_takeProofToken_0 G n v0 v1 h sz sl res hm))
theorem k_X4_takeProofToken {n : Nat} {v0 : Nat} {v1 : Int32} {h : hp_H} {sz sl : Nat} {res : Int32 × hp_H × Nat × Nat} (hm : f_X4_takeProofToken n v0 v1 h sz sl = some res) : ∃ V, h v0 = some (.inr (.inr (4, V))) := by
  unfold f_X4_takeProofToken at hm
  obtain ⟨_, hu, _⟩ := hp_bd hm
  exact hp_ck_spec hu
theorem mx_X4_takeProofToken {n : Nat} {v0 : Nat} {v1 : Int32} {h : hp_H} {sz sl : Nat} {res : Int32 × hp_H × Nat × Nat} (hm : f_X4_takeProofToken n v0 v1 h sz sl = some res) : sz ≤ res.2.2.1 ∧ sl ≤ res.2.2.2 := by
  unfold f_X4_takeProofToken at hm
  obtain ⟨_, _, hm⟩ := hp_bd hm
  exact mo_X4_takeProofToken_0 hm
abbrev m_X4_endStatement : hp_M := (RX4, cX4_endStatement, 2, none, 4, 107, "endStatement")
theorem Z_X4_endStatement : hp_Y yX4_endStatement m_X4_endStatement 0 := Y_X4_endStatement
def f_X4_endStatement_179 (n : Nat) (v0 : Nat) (h : hp_H) (sz sl : Nat) : Option (hp_H × Nat × Nat) :=
  (hp_fR h 4 v0 1).bind fun x1 =>
  (hp_fI h 0 x1 5).bind fun x2 =>
  (hp_pF h 0 x1 5 (.int (x2 + (1 : Int32)))).bind fun h3 =>
  (hp_pF h3 4 v0 4 (.int (0 : Int32))).bind fun h4 =>
  some (h4, sz, sl)
set_option maxHeartbeats 1000000 in
set_option maxRecDepth 4000 in
theorem mo_X4_endStatement_179 {n : Nat} {v0 : Nat} {h : hp_H} {sz sl : Nat} {res : hp_H × Nat × Nat} (hm : f_X4_endStatement_179 n v0 h sz sl = some res) : sz ≤ res.2.1 ∧ sl ≤ res.2.2 := by
  unfold f_X4_endStatement_179 at hm
  obtain ⟨x1, hx1, hm⟩ := hp_bd hm
  obtain ⟨x2, hx2, hm⟩ := hp_bd hm
  obtain ⟨h3, hh3, hm⟩ := hp_bd hm
  obtain ⟨h4, hh4, hm⟩ := hp_bd hm
  obtain rfl := Option.some.inj hm
  exact ⟨Nat.le_refl _, Nat.le_refl _⟩
set_option maxHeartbeats 1000000 in
set_option maxRecDepth 4000 in
theorem q_X4_endStatement_179 (G : hp_G) (n : Nat) (v0 : Nat) (h : hp_H) (sz sl : Nat) (res : hp_H × Nat × Nat) (hm : f_X4_endStatement_179 n v0 h sz sl = some res) : hp_V G m_X4_endStatement 179 [(0, .ref v0)] [] h sz sl (none, res.1, res.2.1, res.2.2) := by
  have ho := mo_X4_endStatement_179 hm
  unfold f_X4_endStatement_179 at hm
  refine hv_aload_n 0 dX4_endStatement_179 rfl rfl ?_
  obtain ⟨x1, hx1, hm⟩ := hp_bd hm
  refine hv_get lk_f_X4_22 dX4_endStatement_180 (hp_fR_spec hx1) ?_
  refine hv_dup dX4_endStatement_183 rfl ?_
  obtain ⟨x2, hx2, hm⟩ := hp_bd hm
  refine hv_get lk_f_X4_104 dX4_endStatement_184 (hp_fI_spec hx2) ?_
  refine hv_iconst (1 : Int32) dX4_endStatement_187 (by decide) ?_
  refine hv_iadd dX4_endStatement_188 ?_
  obtain ⟨h3, hh3, hm⟩ := hp_bd hm
  refine hv_put lk_f_X4_104 dX4_endStatement_189 rfl rfl hh3 ?_
  refine hv_aload_n 0 dX4_endStatement_192 rfl rfl ?_
  refine hv_iconst (0 : Int32) dX4_endStatement_193 (by decide) ?_
  obtain ⟨h4, hh4, hm⟩ := hp_bd hm
  refine hv_put lk_f_X4_53 dX4_endStatement_194 rfl rfl hh4 ?_
  obtain rfl := Option.some.inj hm
  exact hv_vret rfl dX4_endStatement_197
def f_X4_endStatement_125 (n : Nat) (v0 : Nat) (v1 : Int32) (h : hp_H) (sz sl : Nat) : Option (hp_H × Nat × Nat) :=
  (hp_fR h 4 v0 1).bind fun x1 =>
  (hp_fR h 0 x1 12).bind fun x2 =>
  (f_X5_endRow n x2 h).bind fun x3 =>
  (hp_fR x3 4 v0 1).bind fun x4 =>
  (hp_fR x3 0 x4 13).bind fun x5 =>
  (f_X5_endRow n x5 x3).bind fun x6 =>
  (hp_fR x6 4 v0 1).bind fun x7 =>
  (hp_fR x6 0 x7 14).bind fun x8 =>
  (f_X5_endRow n x8 x6).bind fun x9 =>
  (hp_fI x9 4 v0 6).bind fun x10 =>
  if x10 = (3 : Int32) then
    (hp_fR x9 4 v0 1).bind fun x11 =>
    (f_X0_noteForm n x11 v1 x9).bind fun x12 =>
    (hp_fR x12 4 v0 1).bind fun x13 =>
    (f_X0_noteAxioms n x13 v1 x12).bind fun x14 =>
    f_X4_endStatement_179 n v0 x14 sz sl
  else
    f_X4_endStatement_179 n v0 x9 sz sl
set_option maxHeartbeats 1000000 in
set_option maxRecDepth 4000 in
theorem mo_X4_endStatement_125 {n : Nat} {v0 : Nat} {v1 : Int32} {h : hp_H} {sz sl : Nat} {res : hp_H × Nat × Nat} (hm : f_X4_endStatement_125 n v0 v1 h sz sl = some res) : sz ≤ res.2.1 ∧ sl ≤ res.2.2 := by
  unfold f_X4_endStatement_125 at hm
  obtain ⟨x1, hx1, hm⟩ := hp_bd hm
  obtain ⟨x2, hx2, hm⟩ := hp_bd hm
  obtain ⟨x3, hx3, hm⟩ := hp_bd hm
  obtain ⟨x4, hx4, hm⟩ := hp_bd hm
  obtain ⟨x5, hx5, hm⟩ := hp_bd hm
  obtain ⟨x6, hx6, hm⟩ := hp_bd hm
  obtain ⟨x7, hx7, hm⟩ := hp_bd hm
  obtain ⟨x8, hx8, hm⟩ := hp_bd hm
  obtain ⟨x9, hx9, hm⟩ := hp_bd hm
  obtain ⟨x10, hx10, hm⟩ := hp_bd hm
  rcases (Decidable.em (x10 = (3 : Int32))).symm with c15 | c15
  · rw [if_neg c15] at hm
    exact mo_X4_endStatement_179 hm
  · rw [if_pos c15] at hm
    obtain ⟨x11, hx11, hm⟩ := hp_bd hm
    obtain ⟨x12, hx12, hm⟩ := hp_bd hm
    obtain ⟨x13, hx13, hm⟩ := hp_bd hm
    obtain ⟨x14, hx14, hm⟩ := hp_bd hm
    exact mo_X4_endStatement_179 hm
set_option maxHeartbeats 1000000 in
set_option maxRecDepth 4000 in
theorem q_X4_endStatement_125 (G : hp_G) (n : Nat) (v0 : Nat) (v1 : Int32) (h : hp_H) (sz sl : Nat) (res : hp_H × Nat × Nat) (hm : f_X4_endStatement_125 n v0 v1 h sz sl = some res) : hp_V G m_X4_endStatement 125 [(0, .ref v0), (1, .int v1)] [] h sz sl (none, res.1, res.2.1, res.2.2) := by
  have ho := mo_X4_endStatement_125 hm
  unfold f_X4_endStatement_125 at hm
  refine hv_aload_n 0 dX4_endStatement_125 rfl rfl ?_
  obtain ⟨x1, hx1, hm⟩ := hp_bd hm
  refine hv_get lk_f_X4_22 dX4_endStatement_126 (hp_fR_spec hx1) ?_
  obtain ⟨x2, hx2, hm⟩ := hp_bd hm
  refine hv_get lk_f_X4_217 dX4_endStatement_129 (hp_fR_spec hx2) ?_
  obtain ⟨x3, hx3, hm⟩ := hp_bd hm
  obtain ⟨Vx3, hVx3⟩ := k_X5_endRow hx3
  refine hv_callV (As := []) (rest := []) Z_X5_endRow I_X5_endRow lk_m_X4_207 rfl hVx3 (c_X5_endRow G n x2 h sz sl _ hx3) rfl (Nat.le_of_ble_eq_true rfl) ⟨Nat.le_of_ble_eq_true rfl, Nat.le_of_ble_eq_true rfl⟩ ho.1 ho.2 rfl dX4_endStatement_132 ?_
  refine hv_as [] x3 rfl rfl ?_
  refine hv_aload_n 0 dX4_endStatement_135 rfl rfl ?_
  obtain ⟨x4, hx4, hm⟩ := hp_bd hm
  refine hv_get lk_f_X4_22 dX4_endStatement_136 (hp_fR_spec hx4) ?_
  obtain ⟨x5, hx5, hm⟩ := hp_bd hm
  refine hv_get lk_f_X4_220 dX4_endStatement_139 (hp_fR_spec hx5) ?_
  obtain ⟨x6, hx6, hm⟩ := hp_bd hm
  obtain ⟨Vx6, hVx6⟩ := k_X5_endRow hx6
  refine hv_callV (As := []) (rest := []) Z_X5_endRow I_X5_endRow lk_m_X4_207 rfl hVx6 (c_X5_endRow G n x5 x3 sz sl _ hx6) rfl (Nat.le_of_ble_eq_true rfl) ⟨Nat.le_of_ble_eq_true rfl, Nat.le_of_ble_eq_true rfl⟩ ho.1 ho.2 rfl dX4_endStatement_142 ?_
  refine hv_as [] x6 rfl rfl ?_
  refine hv_aload_n 0 dX4_endStatement_145 rfl rfl ?_
  obtain ⟨x7, hx7, hm⟩ := hp_bd hm
  refine hv_get lk_f_X4_22 dX4_endStatement_146 (hp_fR_spec hx7) ?_
  obtain ⟨x8, hx8, hm⟩ := hp_bd hm
  refine hv_get lk_f_X4_223 dX4_endStatement_149 (hp_fR_spec hx8) ?_
  obtain ⟨x9, hx9, hm⟩ := hp_bd hm
  obtain ⟨Vx9, hVx9⟩ := k_X5_endRow hx9
  refine hv_callV (As := []) (rest := []) Z_X5_endRow I_X5_endRow lk_m_X4_207 rfl hVx9 (c_X5_endRow G n x8 x6 sz sl _ hx9) rfl (Nat.le_of_ble_eq_true rfl) ⟨Nat.le_of_ble_eq_true rfl, Nat.le_of_ble_eq_true rfl⟩ ho.1 ho.2 rfl dX4_endStatement_152 ?_
  refine hv_as [] x9 rfl rfl ?_
  refine hv_aload_n 0 dX4_endStatement_155 rfl rfl ?_
  obtain ⟨x10, hx10, hm⟩ := hp_bd hm
  refine hv_get lk_f_X4_149 dX4_endStatement_156 (hp_fI_spec hx10) ?_
  refine hv_iconst (3 : Int32) dX4_endStatement_159 (by decide) ?_
  refine hv_icmp_ne (tgt := 179) dX4_endStatement_160 (by decide) (fun c15 => ?_) (fun c15 => ?_)
  · rw [if_neg c15] at hm
    exact hv_sub [0] rfl (q_X4_endStatement_179 G n v0 x9 sz sl _ hm)
  · rw [if_pos c15] at hm
    refine hv_aload_n 0 dX4_endStatement_163 rfl rfl ?_
    obtain ⟨x11, hx11, hm⟩ := hp_bd hm
    refine hv_get lk_f_X4_22 dX4_endStatement_164 (hp_fR_spec hx11) ?_
    refine hv_iload_n 1 dX4_endStatement_167 rfl rfl ?_
    obtain ⟨x12, hx12, hm⟩ := hp_bd hm
    obtain ⟨Vx12, hVx12⟩ := k_X0_noteForm hx12
    refine hv_callV (As := [.int v1]) (rest := []) Z_X0_noteForm I_X0_noteForm lk_m_X4_226 rfl hVx12 (c_X0_noteForm G n x11 v1 x9 sz sl _ hx12) rfl (Nat.le_of_ble_eq_true rfl) ⟨Nat.le_of_ble_eq_true rfl, Nat.le_of_ble_eq_true rfl⟩ ho.1 ho.2 rfl dX4_endStatement_168 ?_
    refine hv_as [] x12 rfl rfl ?_
    refine hv_aload_n 0 dX4_endStatement_171 rfl rfl ?_
    obtain ⟨x13, hx13, hm⟩ := hp_bd hm
    refine hv_get lk_f_X4_22 dX4_endStatement_172 (hp_fR_spec hx13) ?_
    refine hv_iload_n 1 dX4_endStatement_175 rfl rfl ?_
    obtain ⟨x14, hx14, hm⟩ := hp_bd hm
    obtain ⟨Vx14, hVx14⟩ := k_X0_noteAxioms hx14
    refine hv_callV (As := [.int v1]) (rest := []) Z_X0_noteAxioms I_X0_noteAxioms lk_m_X4_229 rfl hVx14 (c_X0_noteAxioms G n x13 v1 x12 sz sl _ hx14) rfl (Nat.le_of_ble_eq_true rfl) ⟨Nat.le_of_ble_eq_true rfl, Nat.le_of_ble_eq_true rfl⟩ ho.1 ho.2 rfl dX4_endStatement_176 ?_
    refine hv_as [] x14 rfl rfl ?_
    exact hv_sub [0] rfl (q_X4_endStatement_179 G n v0 x14 sz sl _ hm)
def f_X4_endStatement_110 (n : Nat) (v0 : Nat) (v1 : Int32) (h : hp_H) (sz sl : Nat) : Option (hp_H × Nat × Nat) :=
  f_X4_endStatement_125 n v0 v1 h sz sl
set_option maxHeartbeats 1000000 in
set_option maxRecDepth 4000 in
theorem mo_X4_endStatement_110 {n : Nat} {v0 : Nat} {v1 : Int32} {h : hp_H} {sz sl : Nat} {res : hp_H × Nat × Nat} (hm : f_X4_endStatement_110 n v0 v1 h sz sl = some res) : sz ≤ res.2.1 ∧ sl ≤ res.2.2 := by
  unfold f_X4_endStatement_110 at hm
  exact mo_X4_endStatement_125 hm
set_option maxHeartbeats 1000000 in
set_option maxRecDepth 4000 in
theorem q_X4_endStatement_110 (G : hp_G) (n : Nat) (v0 : Nat) (v1 : Int32) (h : hp_H) (sz sl : Nat) (res : hp_H × Nat × Nat) (hm : f_X4_endStatement_110 n v0 v1 h sz sl = some res) : hp_V G m_X4_endStatement 110 [(0, .ref v0), (1, .int v1)] [] h sz sl (none, res.1, res.2.1, res.2.2) := by
  have ho := mo_X4_endStatement_110 hm
  unfold f_X4_endStatement_110 at hm
  refine hv_goto (tgt := 125) dX4_endStatement_110 (by decide) ?_
  exact hv_sub [0, 1] rfl (q_X4_endStatement_125 G n v0 v1 h sz sl _ hm)
def f_X4_endStatement_0 (n : Nat) (v0 : Nat) (h : hp_H) (sz sl : Nat) : Option (hp_H × Nat × Nat) :=
  (hp_fR h 4 v0 1).bind fun x1 =>
  (hp_fI h 0 x1 5).bind fun x2 =>
  (hp_fR h 4 v0 1).bind fun x3 =>
  (hp_fR h 0 x3 6).bind fun x4 =>
  (hp_fI h 4 v0 6).bind fun x5 =>
  (hp_sI h 0 x4 x2 x5).bind fun h6 =>
  (hp_fR h6 4 v0 1).bind fun x7 =>
  (hp_fR h6 0 x7 7).bind fun x8 =>
  (hp_fR h6 4 v0 3).bind fun x9 =>
  (hp_fI h6 7 x9 0).bind fun x10 =>
  (hp_sI h6 0 x8 x2 x10).bind fun h11 =>
  (hp_fR h11 4 v0 1).bind fun x12 =>
  (hp_fR h11 0 x12 0).bind fun x13 =>
  (hp_fI h11 4 v0 7).bind fun x14 =>
  (hp_fI h11 4 v0 8).bind fun x15 =>
  (f_X2_add n x13 ((300 : Int32) + x2) x14 x15 h11).bind fun x16 =>
  (hp_fR x16 4 v0 1).bind fun x17 =>
  (hp_fR x16 0 x17 9).bind fun x18 =>
  (f_X5_endRow n x18 x16).bind fun x19 =>
  (hp_fR x19 4 v0 1).bind fun x20 =>
  (hp_fR x19 0 x20 10).bind fun x21 =>
  (f_X5_endRow n x21 x19).bind fun x22 =>
  (hp_fR x22 4 v0 1).bind fun x23 =>
  (hp_fR x22 0 x23 11).bind fun x24 =>
  (f_X5_endRow n x24 x22).bind fun x25 =>
  (hp_fI x25 4 v0 6).bind fun x26 =>
  if x26 < (2 : Int32) then
    (hp_fR x25 4 v0 3).bind fun x27 =>
    (hp_fR x25 4 v0 1).bind fun x28 =>
    (f_X7_addHypothesis n x27 x28 x2 x25).bind fun x29 =>
    f_X4_endStatement_125 n v0 x2 x29 sz sl
  else
    (hp_fR x25 4 v0 3).bind fun x30 =>
    (hp_fR x25 4 v0 1).bind fun x31 =>
    (f_X7_makeFrame n x30 x31 x2 x25 sz sl).bind fun x32 =>
    f_X4_endStatement_110 n v0 x2 x32.1 x32.2.1 x32.2.2
set_option maxHeartbeats 1000000 in
set_option maxRecDepth 4000 in
theorem mo_X4_endStatement_0 {n : Nat} {v0 : Nat} {h : hp_H} {sz sl : Nat} {res : hp_H × Nat × Nat} (hm : f_X4_endStatement_0 n v0 h sz sl = some res) : sz ≤ res.2.1 ∧ sl ≤ res.2.2 := by
  unfold f_X4_endStatement_0 at hm
  obtain ⟨x1, hx1, hm⟩ := hp_bd hm
  obtain ⟨x2, hx2, hm⟩ := hp_bd hm
  obtain ⟨x3, hx3, hm⟩ := hp_bd hm
  obtain ⟨x4, hx4, hm⟩ := hp_bd hm
  obtain ⟨x5, hx5, hm⟩ := hp_bd hm
  obtain ⟨h6, hh6, hm⟩ := hp_bd hm
  obtain ⟨x7, hx7, hm⟩ := hp_bd hm
  obtain ⟨x8, hx8, hm⟩ := hp_bd hm
  obtain ⟨x9, hx9, hm⟩ := hp_bd hm
  obtain ⟨x10, hx10, hm⟩ := hp_bd hm
  obtain ⟨h11, hh11, hm⟩ := hp_bd hm
  obtain ⟨x12, hx12, hm⟩ := hp_bd hm
  obtain ⟨x13, hx13, hm⟩ := hp_bd hm
  obtain ⟨x14, hx14, hm⟩ := hp_bd hm
  obtain ⟨x15, hx15, hm⟩ := hp_bd hm
  obtain ⟨x16, hx16, hm⟩ := hp_bd hm
  obtain ⟨x17, hx17, hm⟩ := hp_bd hm
  obtain ⟨x18, hx18, hm⟩ := hp_bd hm
  obtain ⟨x19, hx19, hm⟩ := hp_bd hm
  obtain ⟨x20, hx20, hm⟩ := hp_bd hm
  obtain ⟨x21, hx21, hm⟩ := hp_bd hm
  obtain ⟨x22, hx22, hm⟩ := hp_bd hm
  obtain ⟨x23, hx23, hm⟩ := hp_bd hm
  obtain ⟨x24, hx24, hm⟩ := hp_bd hm
  obtain ⟨x25, hx25, hm⟩ := hp_bd hm
  obtain ⟨x26, hx26, hm⟩ := hp_bd hm
  rcases Decidable.em (x26 < (2 : Int32)) with c33 | c33
  · rw [if_pos c33] at hm
    obtain ⟨x27, hx27, hm⟩ := hp_bd hm
    obtain ⟨x28, hx28, hm⟩ := hp_bd hm
    obtain ⟨x29, hx29, hm⟩ := hp_bd hm
    exact mo_X4_endStatement_125 hm
  · rw [if_neg c33] at hm
    obtain ⟨x30, hx30, hm⟩ := hp_bd hm
    obtain ⟨x31, hx31, hm⟩ := hp_bd hm
    obtain ⟨x32, hx32, hm⟩ := hp_bd hm
    exact hp_tr (mx_X7_makeFrame hx32) (mo_X4_endStatement_110 hm)
set_option maxHeartbeats 1000000 in
set_option maxRecDepth 4000 in
theorem q_X4_endStatement_0 (G : hp_G) (n : Nat) (v0 : Nat) (h : hp_H) (sz sl : Nat) (res : hp_H × Nat × Nat) (hm : f_X4_endStatement_0 n v0 h sz sl = some res) : hp_V G m_X4_endStatement 0 [(0, .ref v0)] [] h sz sl (none, res.1, res.2.1, res.2.2) := by
  have ho := mo_X4_endStatement_0 hm
  unfold f_X4_endStatement_0 at hm
  refine hv_aload_n 0 dX4_endStatement_0 rfl rfl ?_
  obtain ⟨x1, hx1, hm⟩ := hp_bd hm
  refine hv_get lk_f_X4_22 dX4_endStatement_1 (hp_fR_spec hx1) ?_
  obtain ⟨x2, hx2, hm⟩ := hp_bd hm
  refine hv_get lk_f_X4_104 dX4_endStatement_4 (hp_fI_spec hx2) ?_
  refine hv_istore_n [(1, .int x2), (0, .ref v0)] dX4_endStatement_7 rfl (by decide) rfl ?_
  refine hv_aload_n 1 dX4_endStatement_8 rfl rfl ?_
  obtain ⟨x3, hx3, hm⟩ := hp_bd hm
  refine hv_get lk_f_X4_22 dX4_endStatement_9 (hp_fR_spec hx3) ?_
  obtain ⟨x4, hx4, hm⟩ := hp_bd hm
  refine hv_get lk_f_X4_198 dX4_endStatement_12 (hp_fR_spec hx4) ?_
  refine hv_iload_n 0 dX4_endStatement_15 rfl rfl ?_
  refine hv_aload_n 1 dX4_endStatement_16 rfl rfl ?_
  obtain ⟨x5, hx5, hm⟩ := hp_bd hm
  refine hv_get lk_f_X4_149 dX4_endStatement_17 (hp_fI_spec hx5) ?_
  obtain ⟨h6, hh6, hm⟩ := hp_bd hm
  refine hv_iast dX4_endStatement_20 hh6 ?_
  refine hv_aload_n 1 dX4_endStatement_21 rfl rfl ?_
  obtain ⟨x7, hx7, hm⟩ := hp_bd hm
  refine hv_get lk_f_X4_22 dX4_endStatement_22 (hp_fR_spec hx7) ?_
  obtain ⟨x8, hx8, hm⟩ := hp_bd hm
  refine hv_get lk_f_X4_201 dX4_endStatement_25 (hp_fR_spec hx8) ?_
  refine hv_iload_n 0 dX4_endStatement_28 rfl rfl ?_
  refine hv_aload_n 1 dX4_endStatement_29 rfl rfl ?_
  obtain ⟨x9, hx9, hm⟩ := hp_bd hm
  refine hv_get lk_f_X4_12 dX4_endStatement_30 (hp_fR_spec hx9) ?_
  obtain ⟨x10, hx10, hm⟩ := hp_bd hm
  refine hv_get lk_f_X4_101 dX4_endStatement_33 (hp_fI_spec hx10) ?_
  obtain ⟨h11, hh11, hm⟩ := hp_bd hm
  refine hv_iast dX4_endStatement_36 hh11 ?_
  refine hv_aload_n 1 dX4_endStatement_37 rfl rfl ?_
  obtain ⟨x12, hx12, hm⟩ := hp_bd hm
  refine hv_get lk_f_X4_22 dX4_endStatement_38 (hp_fR_spec hx12) ?_
  obtain ⟨x13, hx13, hm⟩ := hp_bd hm
  refine hv_get lk_f_X4_122 dX4_endStatement_41 (hp_fR_spec hx13) ?_
  refine hv_sipush (300 : Int32) dX4_endStatement_44 (by decide) ?_
  refine hv_iload_n 0 dX4_endStatement_47 rfl rfl ?_
  refine hv_iadd dX4_endStatement_48 ?_
  refine hv_aload_n 1 dX4_endStatement_49 rfl rfl ?_
  obtain ⟨x14, hx14, hm⟩ := hp_bd hm
  refine hv_get lk_f_X4_113 dX4_endStatement_50 (hp_fI_spec hx14) ?_
  refine hv_aload_n 1 dX4_endStatement_53 rfl rfl ?_
  obtain ⟨x15, hx15, hm⟩ := hp_bd hm
  refine hv_get lk_f_X4_119 dX4_endStatement_54 (hp_fI_spec hx15) ?_
  obtain ⟨x16, hx16, hm⟩ := hp_bd hm
  obtain ⟨Vx16, hVx16⟩ := k_X2_add hx16
  refine hv_callV (As := [.int ((300 : Int32) + x2), .int x14, .int x15]) (rest := []) Z_X2_add I_X2_add lk_m_X4_204 rfl hVx16 (c_X2_add G n x13 ((300 : Int32) + x2) x14 x15 h11 sz sl _ hx16) rfl (Nat.le_of_ble_eq_true rfl) ⟨Nat.le_of_ble_eq_true rfl, Nat.le_of_ble_eq_true rfl⟩ ho.1 ho.2 rfl dX4_endStatement_57 ?_
  refine hv_as [] x16 rfl rfl ?_
  refine hv_aload_n 1 dX4_endStatement_60 rfl rfl ?_
  obtain ⟨x17, hx17, hm⟩ := hp_bd hm
  refine hv_get lk_f_X4_22 dX4_endStatement_61 (hp_fR_spec hx17) ?_
  obtain ⟨x18, hx18, hm⟩ := hp_bd hm
  refine hv_get lk_f_X4_177 dX4_endStatement_64 (hp_fR_spec hx18) ?_
  obtain ⟨x19, hx19, hm⟩ := hp_bd hm
  obtain ⟨Vx19, hVx19⟩ := k_X5_endRow hx19
  refine hv_callV (As := []) (rest := []) Z_X5_endRow I_X5_endRow lk_m_X4_207 rfl hVx19 (c_X5_endRow G n x18 x16 sz sl _ hx19) rfl (Nat.le_of_ble_eq_true rfl) ⟨Nat.le_of_ble_eq_true rfl, Nat.le_of_ble_eq_true rfl⟩ ho.1 ho.2 rfl dX4_endStatement_67 ?_
  refine hv_as [] x19 rfl rfl ?_
  refine hv_aload_n 1 dX4_endStatement_70 rfl rfl ?_
  obtain ⟨x20, hx20, hm⟩ := hp_bd hm
  refine hv_get lk_f_X4_22 dX4_endStatement_71 (hp_fR_spec hx20) ?_
  obtain ⟨x21, hx21, hm⟩ := hp_bd hm
  refine hv_get lk_f_X4_192 dX4_endStatement_74 (hp_fR_spec hx21) ?_
  obtain ⟨x22, hx22, hm⟩ := hp_bd hm
  obtain ⟨Vx22, hVx22⟩ := k_X5_endRow hx22
  refine hv_callV (As := []) (rest := []) Z_X5_endRow I_X5_endRow lk_m_X4_207 rfl hVx22 (c_X5_endRow G n x21 x19 sz sl _ hx22) rfl (Nat.le_of_ble_eq_true rfl) ⟨Nat.le_of_ble_eq_true rfl, Nat.le_of_ble_eq_true rfl⟩ ho.1 ho.2 rfl dX4_endStatement_77 ?_
  refine hv_as [] x22 rfl rfl ?_
  refine hv_aload_n 1 dX4_endStatement_80 rfl rfl ?_
  obtain ⟨x23, hx23, hm⟩ := hp_bd hm
  refine hv_get lk_f_X4_22 dX4_endStatement_81 (hp_fR_spec hx23) ?_
  obtain ⟨x24, hx24, hm⟩ := hp_bd hm
  refine hv_get lk_f_X4_195 dX4_endStatement_84 (hp_fR_spec hx24) ?_
  obtain ⟨x25, hx25, hm⟩ := hp_bd hm
  obtain ⟨Vx25, hVx25⟩ := k_X5_endRow hx25
  refine hv_callV (As := []) (rest := []) Z_X5_endRow I_X5_endRow lk_m_X4_207 rfl hVx25 (c_X5_endRow G n x24 x22 sz sl _ hx25) rfl (Nat.le_of_ble_eq_true rfl) ⟨Nat.le_of_ble_eq_true rfl, Nat.le_of_ble_eq_true rfl⟩ ho.1 ho.2 rfl dX4_endStatement_87 ?_
  refine hv_as [] x25 rfl rfl ?_
  refine hv_aload_n 1 dX4_endStatement_90 rfl rfl ?_
  obtain ⟨x26, hx26, hm⟩ := hp_bd hm
  refine hv_get lk_f_X4_149 dX4_endStatement_91 (hp_fI_spec hx26) ?_
  refine hv_iconst (2 : Int32) dX4_endStatement_94 (by decide) ?_
  refine hv_icmp_lt (tgt := 113) dX4_endStatement_95 (by decide) (fun c33 => ?_) (fun c33 => ?_)
  · rw [if_pos c33] at hm
    refine hv_aload_n 1 dX4_endStatement_113 rfl rfl ?_
    obtain ⟨x27, hx27, hm⟩ := hp_bd hm
    refine hv_get lk_f_X4_12 dX4_endStatement_114 (hp_fR_spec hx27) ?_
    refine hv_aload_n 1 dX4_endStatement_117 rfl rfl ?_
    obtain ⟨x28, hx28, hm⟩ := hp_bd hm
    refine hv_get lk_f_X4_22 dX4_endStatement_118 (hp_fR_spec hx28) ?_
    refine hv_iload_n 0 dX4_endStatement_121 rfl rfl ?_
    obtain ⟨x29, hx29, hm⟩ := hp_bd hm
    obtain ⟨Vx29, hVx29⟩ := k_X7_addHypothesis hx29
    refine hv_callV (As := [.ref x28, .int x2]) (rest := []) Z_X7_addHypothesis I_X7_addHypothesis lk_m_X4_214 rfl hVx29 (c_X7_addHypothesis G n x27 x28 x2 x25 sz sl _ hx29) rfl (Nat.le_of_ble_eq_true rfl) ⟨Nat.le_of_ble_eq_true rfl, Nat.le_of_ble_eq_true rfl⟩ ho.1 ho.2 rfl dX4_endStatement_122 ?_
    refine hv_as [] x29 rfl rfl ?_
    exact hv_sub [1, 0] rfl (q_X4_endStatement_125 G n v0 x2 x29 sz sl _ hm)
  · rw [if_neg c33] at hm
    refine hv_aload_n 1 dX4_endStatement_98 rfl rfl ?_
    obtain ⟨x30, hx30, hm⟩ := hp_bd hm
    refine hv_get lk_f_X4_12 dX4_endStatement_99 (hp_fR_spec hx30) ?_
    refine hv_aload_n 1 dX4_endStatement_102 rfl rfl ?_
    obtain ⟨x31, hx31, hm⟩ := hp_bd hm
    refine hv_get lk_f_X4_22 dX4_endStatement_103 (hp_fR_spec hx31) ?_
    refine hv_iload_n 0 dX4_endStatement_106 rfl rfl ?_
    obtain ⟨x32, hx32, hm⟩ := hp_bd hm
    have hq := mo_X4_endStatement_110 hm
    obtain ⟨Vx32, hVx32⟩ := k_X7_makeFrame hx32
    refine hv_callV (As := [.ref x31, .int x2]) (rest := []) Z_X7_makeFrame I_X7_makeFrame lk_m_X4_210 rfl hVx32 (c_X7_makeFrame G n x30 x31 x2 x25 sz sl _ hx32) rfl (Nat.le_of_ble_eq_true rfl) ⟨Nat.le_of_ble_eq_true rfl, Nat.le_of_ble_eq_true rfl⟩ hq.1 hq.2 rfl dX4_endStatement_107 ?_
    refine hv_as2 [] x32.1 x32.2.1 x32.2.2 rfl rfl rfl rfl ?_
    exact hv_sub [1, 0] rfl (q_X4_endStatement_110 G n v0 x2 x32.1 x32.2.1 x32.2.2 _ hm)
def f_X4_endStatement (n : Nat) (v0 : Nat) (h : hp_H) (sz sl : Nat) : Option (hp_H × Nat × Nat) := (hp_ck h 4 v0).bind fun _ => f_X4_endStatement_0 n v0 h sz sl
theorem c_X4_endStatement (G : hp_G) (n : Nat) (v0 : Nat) (h : hp_H) (sz sl : Nat) (res : hp_H × Nat × Nat) (hm : f_X4_endStatement n v0 h sz sl = some res) : hp_C G m_X4_endStatement yX4_endStatement [.ref v0] h sz sl (none, res.1, res.2.1, res.2.2) := by
  unfold f_X4_endStatement at hm
  obtain ⟨_, _, hm⟩ := hp_bd hm
  exact hp_C_of (by decide) rfl rfl (Nat.le_of_ble_eq_true rfl) (mo_X4_endStatement_0 hm).1 (mo_X4_endStatement_0 hm).2 (hv_sub [0] rfl (q_X4_endStatement_0 G n v0 h sz sl res hm))
theorem k_X4_endStatement {n : Nat} {v0 : Nat} {h : hp_H} {sz sl : Nat} {res : hp_H × Nat × Nat} (hm : f_X4_endStatement n v0 h sz sl = some res) : ∃ V, h v0 = some (.inr (.inr (4, V))) := by
  unfold f_X4_endStatement at hm
  obtain ⟨_, hu, _⟩ := hp_bd hm
  exact hp_ck_spec hu
theorem mx_X4_endStatement {n : Nat} {v0 : Nat} {h : hp_H} {sz sl : Nat} {res : hp_H × Nat × Nat} (hm : f_X4_endStatement n v0 h sz sl = some res) : sz ≤ res.2.1 ∧ sl ≤ res.2.2 := by
  unfold f_X4_endStatement at hm
  obtain ⟨_, _, hm⟩ := hp_bd hm
  exact mo_X4_endStatement_0 hm
abbrev m_X4_readBook : hp_M := (RX4, cX4_readBook, 5, some .int, 5, 128, "readBook")
theorem Z_X4_readBook : hp_Y yX4_readBook m_X4_readBook 1 := Y_X4_readBook
abbrev zx_X4_readBook_49 : (Int32 × hp_H × Nat × Nat) → Nat × Nat := (fun y => (y.2.2.1, y.2.2.2))
abbrev zz_X4_readBook_49 : ((Int32 × Int32 × hp_H × Nat × Nat) ⊕ (Int32 × hp_H × Nat × Nat)) → Nat × Nat := Sum.elim (fun y => (y.2.2.2.1, y.2.2.2.2)) zx_X4_readBook_49
def f_X4_readBook_210 (n : Nat) (v0 : Nat) (v2 : Int32) (v3 : Int32) (h : hp_H) (sz sl : Nat) : Option ((Int32 × Int32 × hp_H × Nat × Nat) ⊕ (Int32 × hp_H × Nat × Nat)) :=
  some (.inl (v2, (v3 + (1 : Int32)), h, sz, sl))
set_option maxHeartbeats 1000000 in
set_option maxRecDepth 4000 in
theorem mo_X4_readBook_210 {n : Nat} {v0 : Nat} {v2 : Int32} {v3 : Int32} {h : hp_H} {sz sl : Nat} {res : (Int32 × Int32 × hp_H × Nat × Nat) ⊕ (Int32 × hp_H × Nat × Nat)} (hm : f_X4_readBook_210 n v0 v2 v3 h sz sl = some res) : sz ≤ (zz_X4_readBook_49 res).1 ∧ sl ≤ (zz_X4_readBook_49 res).2 := by
  unfold f_X4_readBook_210 at hm
  obtain rfl := Option.some.inj hm
  exact ⟨Nat.le_refl _, Nat.le_refl _⟩
set_option maxHeartbeats 1000000 in
set_option maxRecDepth 4000 in
theorem q_X4_readBook_210 (G : hp_G) (n : Nat) (v0 : Nat) (v2 : Int32) (v3 : Int32) (h : hp_H) (sz sl : Nat) (o : hp_O) (res : (Int32 × Int32 × hp_H × Nat × Nat) ⊕ (Int32 × hp_H × Nat × Nat)) (hB : (zz_X4_readBook_49 res).1 ≤ o.2.2.1 ∧ (zz_X4_readBook_49 res).2 ≤ o.2.2.2) (hm : f_X4_readBook_210 n v0 v2 v3 h sz sl = some res) (kI : ∀ y : Int32 × Int32 × hp_H × Nat × Nat, res = .inl y → hp_V G m_X4_readBook 49 [(0, .ref v0), (2, .int y.1), (3, .int y.2.1)] [] y.2.2.1 y.2.2.2.1 y.2.2.2.2 o) (kX0 : ∀ y : Int32 × hp_H × Nat × Nat, res = .inr y → hp_V G m_X4_readBook 216 [(0, .ref v0), (2, .int y.1)] [] y.2.1 y.2.2.1 y.2.2.2 o) : hp_V G m_X4_readBook 210 [(0, .ref v0), (2, .int v2), (3, .int v3)] [] h sz sl o := by
  have ho : sz ≤ o.2.2.1 ∧ sl ≤ o.2.2.2 := ⟨Nat.le_trans (mo_X4_readBook_210 hm).1 hB.1, Nat.le_trans (mo_X4_readBook_210 hm).2 hB.2⟩
  unfold f_X4_readBook_210 at hm
  refine hv_iinc (v3 + (1 : Int32)) 2 [(3, .int (v3 + (1 : Int32))), (0, .ref v0), (2, .int v2)] dX4_readBook_210 rfl rfl (by decide) rfl ?_
  refine hv_goto (tgt := 49) dX4_readBook_213 (by decide) ?_
  exact hv_sub [1, 2, 0] rfl (kI (v2, (v3 + (1 : Int32)), h, sz, sl) (Option.some.inj hm).symm)
def f_X4_readBook_197 (n : Nat) (v0 : Nat) (v2 : Int32) (v3 : Int32) (h : hp_H) (sz sl : Nat) : Option ((Int32 × Int32 × hp_H × Nat × Nat) ⊕ (Int32 × hp_H × Nat × Nat)) :=
  (hp_fI h 4 v0 4).bind fun x1 =>
  if x1 = (6 : Int32) then
    (f_X4_endStatement n v0 h sz sl).bind fun x2 =>
    f_X4_readBook_210 n v0 v2 v3 x2.1 x2.2.1 x2.2.2
  else
    f_X4_readBook_210 n v0 v2 v3 h sz sl
set_option maxHeartbeats 1000000 in
set_option maxRecDepth 4000 in
theorem mo_X4_readBook_197 {n : Nat} {v0 : Nat} {v2 : Int32} {v3 : Int32} {h : hp_H} {sz sl : Nat} {res : (Int32 × Int32 × hp_H × Nat × Nat) ⊕ (Int32 × hp_H × Nat × Nat)} (hm : f_X4_readBook_197 n v0 v2 v3 h sz sl = some res) : sz ≤ (zz_X4_readBook_49 res).1 ∧ sl ≤ (zz_X4_readBook_49 res).2 := by
  unfold f_X4_readBook_197 at hm
  obtain ⟨x1, hx1, hm⟩ := hp_bd hm
  rcases (Decidable.em (x1 = (6 : Int32))).symm with c3 | c3
  · rw [if_neg c3] at hm
    exact mo_X4_readBook_210 hm
  · rw [if_pos c3] at hm
    obtain ⟨x2, hx2, hm⟩ := hp_bd hm
    exact hp_tr (mx_X4_endStatement hx2) (mo_X4_readBook_210 hm)
set_option maxHeartbeats 1000000 in
set_option maxRecDepth 4000 in
theorem q_X4_readBook_197 (G : hp_G) (n : Nat) (v0 : Nat) (v2 : Int32) (v3 : Int32) (h : hp_H) (sz sl : Nat) (o : hp_O) (res : (Int32 × Int32 × hp_H × Nat × Nat) ⊕ (Int32 × hp_H × Nat × Nat)) (hB : (zz_X4_readBook_49 res).1 ≤ o.2.2.1 ∧ (zz_X4_readBook_49 res).2 ≤ o.2.2.2) (hm : f_X4_readBook_197 n v0 v2 v3 h sz sl = some res) (kI : ∀ y : Int32 × Int32 × hp_H × Nat × Nat, res = .inl y → hp_V G m_X4_readBook 49 [(0, .ref v0), (2, .int y.1), (3, .int y.2.1)] [] y.2.2.1 y.2.2.2.1 y.2.2.2.2 o) (kX0 : ∀ y : Int32 × hp_H × Nat × Nat, res = .inr y → hp_V G m_X4_readBook 216 [(0, .ref v0), (2, .int y.1)] [] y.2.1 y.2.2.1 y.2.2.2 o) : hp_V G m_X4_readBook 197 [(0, .ref v0), (2, .int v2), (3, .int v3)] [] h sz sl o := by
  have ho : sz ≤ o.2.2.1 ∧ sl ≤ o.2.2.2 := ⟨Nat.le_trans (mo_X4_readBook_197 hm).1 hB.1, Nat.le_trans (mo_X4_readBook_197 hm).2 hB.2⟩
  unfold f_X4_readBook_197 at hm
  refine hv_aload_n 0 dX4_readBook_197 rfl rfl ?_
  obtain ⟨x1, hx1, hm⟩ := hp_bd hm
  refine hv_get lk_f_X4_53 dX4_readBook_198 (hp_fI_spec hx1) ?_
  refine hv_bipush (6 : Int32) dX4_readBook_201 (by decide) ?_
  refine hv_icmp_ne (tgt := 210) dX4_readBook_203 (by decide) (fun c3 => ?_) (fun c3 => ?_)
  · rw [if_neg c3] at hm
    exact hv_sub [0, 1, 2] rfl (q_X4_readBook_210 G n v0 v2 v3 h sz sl o _ hB hm kI kX0)
  · rw [if_pos c3] at hm
    refine hv_aload_n 0 dX4_readBook_206 rfl rfl ?_
    obtain ⟨x2, hx2, hm⟩ := hp_bd hm
    have hq := hp_tr (mo_X4_readBook_210 hm) hB
    obtain ⟨Vx2, hVx2⟩ := k_X4_endStatement hx2
    refine hv_callV (As := []) (rest := []) Z_X4_endStatement I_X4_endStatement lk_m_X4_89 rfl hVx2 (c_X4_endStatement G n v0 h sz sl _ hx2) rfl (Nat.le_of_ble_eq_true rfl) ⟨Nat.le_of_ble_eq_true rfl, Nat.le_of_ble_eq_true rfl⟩ hq.1 hq.2 rfl dX4_readBook_207 ?_
    refine hv_as2 [] x2.1 x2.2.1 x2.2.2 rfl rfl rfl rfl ?_
    exact hv_sub [0, 1, 2] rfl (q_X4_readBook_210 G n v0 v2 v3 x2.1 x2.2.1 x2.2.2 o _ hB hm kI kX0)
def f_X4_readBook_134 (n : Nat) (v0 : Nat) (v3 : Int32) (s0 : Int32) (h : hp_H) (sz sl : Nat) : Option ((Int32 × Int32 × hp_H × Nat × Nat) ⊕ (Int32 × hp_H × Nat × Nat)) :=
  f_X4_readBook_197 n v0 s0 v3 h sz sl
set_option maxHeartbeats 1000000 in
set_option maxRecDepth 4000 in
theorem mo_X4_readBook_134 {n : Nat} {v0 : Nat} {v3 : Int32} {s0 : Int32} {h : hp_H} {sz sl : Nat} {res : (Int32 × Int32 × hp_H × Nat × Nat) ⊕ (Int32 × hp_H × Nat × Nat)} (hm : f_X4_readBook_134 n v0 v3 s0 h sz sl = some res) : sz ≤ (zz_X4_readBook_49 res).1 ∧ sl ≤ (zz_X4_readBook_49 res).2 := by
  unfold f_X4_readBook_134 at hm
  exact mo_X4_readBook_197 hm
set_option maxHeartbeats 1000000 in
set_option maxRecDepth 4000 in
theorem q_X4_readBook_134 (G : hp_G) (n : Nat) (v0 : Nat) (v3 : Int32) (s0 : Int32) (h : hp_H) (sz sl : Nat) (o : hp_O) (res : (Int32 × Int32 × hp_H × Nat × Nat) ⊕ (Int32 × hp_H × Nat × Nat)) (hB : (zz_X4_readBook_49 res).1 ≤ o.2.2.1 ∧ (zz_X4_readBook_49 res).2 ≤ o.2.2.2) (hm : f_X4_readBook_134 n v0 v3 s0 h sz sl = some res) (kI : ∀ y : Int32 × Int32 × hp_H × Nat × Nat, res = .inl y → hp_V G m_X4_readBook 49 [(0, .ref v0), (2, .int y.1), (3, .int y.2.1)] [] y.2.2.1 y.2.2.2.1 y.2.2.2.2 o) (kX0 : ∀ y : Int32 × hp_H × Nat × Nat, res = .inr y → hp_V G m_X4_readBook 216 [(0, .ref v0), (2, .int y.1)] [] y.2.1 y.2.2.1 y.2.2.2 o) : hp_V G m_X4_readBook 134 [(0, .ref v0), (3, .int v3)] [.int s0] h sz sl o := by
  have ho : sz ≤ o.2.2.1 ∧ sl ≤ o.2.2.2 := ⟨Nat.le_trans (mo_X4_readBook_134 hm).1 hB.1, Nat.le_trans (mo_X4_readBook_134 hm).2 hB.2⟩
  unfold f_X4_readBook_134 at hm
  refine hv_istore_n [(2, .int s0), (0, .ref v0), (3, .int v3)] dX4_readBook_134 rfl (by decide) rfl ?_
  refine hv_goto (tgt := 197) dX4_readBook_135 (by decide) ?_
  exact hv_sub [1, 0, 2] rfl (q_X4_readBook_197 G n v0 s0 v3 h sz sl o _ hB hm kI kX0)
def f_X4_readBook_186 (n : Nat) (v0 : Nat) (v3 : Int32) (s0 : Int32) (h : hp_H) (sz sl : Nat) : Option ((Int32 × Int32 × hp_H × Nat × Nat) ⊕ (Int32 × hp_H × Nat × Nat)) :=
  f_X4_readBook_197 n v0 s0 v3 h sz sl
set_option maxHeartbeats 1000000 in
set_option maxRecDepth 4000 in
theorem mo_X4_readBook_186 {n : Nat} {v0 : Nat} {v3 : Int32} {s0 : Int32} {h : hp_H} {sz sl : Nat} {res : (Int32 × Int32 × hp_H × Nat × Nat) ⊕ (Int32 × hp_H × Nat × Nat)} (hm : f_X4_readBook_186 n v0 v3 s0 h sz sl = some res) : sz ≤ (zz_X4_readBook_49 res).1 ∧ sl ≤ (zz_X4_readBook_49 res).2 := by
  unfold f_X4_readBook_186 at hm
  exact mo_X4_readBook_197 hm
set_option maxHeartbeats 1000000 in
set_option maxRecDepth 4000 in
theorem q_X4_readBook_186 (G : hp_G) (n : Nat) (v0 : Nat) (v3 : Int32) (s0 : Int32) (h : hp_H) (sz sl : Nat) (o : hp_O) (res : (Int32 × Int32 × hp_H × Nat × Nat) ⊕ (Int32 × hp_H × Nat × Nat)) (hB : (zz_X4_readBook_49 res).1 ≤ o.2.2.1 ∧ (zz_X4_readBook_49 res).2 ≤ o.2.2.2) (hm : f_X4_readBook_186 n v0 v3 s0 h sz sl = some res) (kI : ∀ y : Int32 × Int32 × hp_H × Nat × Nat, res = .inl y → hp_V G m_X4_readBook 49 [(0, .ref v0), (2, .int y.1), (3, .int y.2.1)] [] y.2.2.1 y.2.2.2.1 y.2.2.2.2 o) (kX0 : ∀ y : Int32 × hp_H × Nat × Nat, res = .inr y → hp_V G m_X4_readBook 216 [(0, .ref v0), (2, .int y.1)] [] y.2.1 y.2.2.1 y.2.2.2 o) : hp_V G m_X4_readBook 186 [(0, .ref v0), (3, .int v3)] [.int s0] h sz sl o := by
  have ho : sz ≤ o.2.2.1 ∧ sl ≤ o.2.2.2 := ⟨Nat.le_trans (mo_X4_readBook_186 hm).1 hB.1, Nat.le_trans (mo_X4_readBook_186 hm).2 hB.2⟩
  unfold f_X4_readBook_186 at hm
  refine hv_istore_n [(2, .int s0), (0, .ref v0), (3, .int v3)] dX4_readBook_186 rfl (by decide) rfl ?_
  refine hv_goto (tgt := 197) dX4_readBook_187 (by decide) ?_
  exact hv_sub [1, 0, 2] rfl (q_X4_readBook_197 G n v0 s0 v3 h sz sl o _ hB hm kI kX0)
def f_X4_readBook_177 (n : Nat) (v0 : Nat) (v3 : Int32) (s0 : Int32) (h : hp_H) (sz sl : Nat) : Option ((Int32 × Int32 × hp_H × Nat × Nat) ⊕ (Int32 × hp_H × Nat × Nat)) :=
  f_X4_readBook_186 n v0 v3 s0 h sz sl
set_option maxHeartbeats 1000000 in
set_option maxRecDepth 4000 in
theorem mo_X4_readBook_177 {n : Nat} {v0 : Nat} {v3 : Int32} {s0 : Int32} {h : hp_H} {sz sl : Nat} {res : (Int32 × Int32 × hp_H × Nat × Nat) ⊕ (Int32 × hp_H × Nat × Nat)} (hm : f_X4_readBook_177 n v0 v3 s0 h sz sl = some res) : sz ≤ (zz_X4_readBook_49 res).1 ∧ sl ≤ (zz_X4_readBook_49 res).2 := by
  unfold f_X4_readBook_177 at hm
  exact mo_X4_readBook_186 hm
set_option maxHeartbeats 1000000 in
set_option maxRecDepth 4000 in
theorem q_X4_readBook_177 (G : hp_G) (n : Nat) (v0 : Nat) (v3 : Int32) (s0 : Int32) (h : hp_H) (sz sl : Nat) (o : hp_O) (res : (Int32 × Int32 × hp_H × Nat × Nat) ⊕ (Int32 × hp_H × Nat × Nat)) (hB : (zz_X4_readBook_49 res).1 ≤ o.2.2.1 ∧ (zz_X4_readBook_49 res).2 ≤ o.2.2.2) (hm : f_X4_readBook_177 n v0 v3 s0 h sz sl = some res) (kI : ∀ y : Int32 × Int32 × hp_H × Nat × Nat, res = .inl y → hp_V G m_X4_readBook 49 [(0, .ref v0), (2, .int y.1), (3, .int y.2.1)] [] y.2.2.1 y.2.2.2.1 y.2.2.2.2 o) (kX0 : ∀ y : Int32 × hp_H × Nat × Nat, res = .inr y → hp_V G m_X4_readBook 216 [(0, .ref v0), (2, .int y.1)] [] y.2.1 y.2.2.1 y.2.2.2 o) : hp_V G m_X4_readBook 177 [(0, .ref v0), (3, .int v3)] [.int s0] h sz sl o := by
  have ho : sz ≤ o.2.2.1 ∧ sl ≤ o.2.2.2 := ⟨Nat.le_trans (mo_X4_readBook_177 hm).1 hB.1, Nat.le_trans (mo_X4_readBook_177 hm).2 hB.2⟩
  unfold f_X4_readBook_177 at hm
  refine hv_goto (tgt := 186) dX4_readBook_177 (by decide) ?_
  exact hv_sub [0, 1] rfl (q_X4_readBook_186 G n v0 v3 s0 h sz sl o _ hB hm kI kX0)
def f_X4_readBook_196 (n : Nat) (v0 : Nat) (v3 : Int32) (s0 : Int32) (h : hp_H) (sz sl : Nat) : Option ((Int32 × Int32 × hp_H × Nat × Nat) ⊕ (Int32 × hp_H × Nat × Nat)) :=
  f_X4_readBook_197 n v0 s0 v3 h sz sl
set_option maxHeartbeats 1000000 in
set_option maxRecDepth 4000 in
theorem mo_X4_readBook_196 {n : Nat} {v0 : Nat} {v3 : Int32} {s0 : Int32} {h : hp_H} {sz sl : Nat} {res : (Int32 × Int32 × hp_H × Nat × Nat) ⊕ (Int32 × hp_H × Nat × Nat)} (hm : f_X4_readBook_196 n v0 v3 s0 h sz sl = some res) : sz ≤ (zz_X4_readBook_49 res).1 ∧ sl ≤ (zz_X4_readBook_49 res).2 := by
  unfold f_X4_readBook_196 at hm
  exact mo_X4_readBook_197 hm
set_option maxHeartbeats 1000000 in
set_option maxRecDepth 4000 in
theorem q_X4_readBook_196 (G : hp_G) (n : Nat) (v0 : Nat) (v3 : Int32) (s0 : Int32) (h : hp_H) (sz sl : Nat) (o : hp_O) (res : (Int32 × Int32 × hp_H × Nat × Nat) ⊕ (Int32 × hp_H × Nat × Nat)) (hB : (zz_X4_readBook_49 res).1 ≤ o.2.2.1 ∧ (zz_X4_readBook_49 res).2 ≤ o.2.2.2) (hm : f_X4_readBook_196 n v0 v3 s0 h sz sl = some res) (kI : ∀ y : Int32 × Int32 × hp_H × Nat × Nat, res = .inl y → hp_V G m_X4_readBook 49 [(0, .ref v0), (2, .int y.1), (3, .int y.2.1)] [] y.2.2.1 y.2.2.2.1 y.2.2.2.2 o) (kX0 : ∀ y : Int32 × hp_H × Nat × Nat, res = .inr y → hp_V G m_X4_readBook 216 [(0, .ref v0), (2, .int y.1)] [] y.2.1 y.2.2.1 y.2.2.2 o) : hp_V G m_X4_readBook 196 [(0, .ref v0), (3, .int v3)] [.int s0] h sz sl o := by
  have ho : sz ≤ o.2.2.1 ∧ sl ≤ o.2.2.2 := ⟨Nat.le_trans (mo_X4_readBook_196 hm).1 hB.1, Nat.le_trans (mo_X4_readBook_196 hm).2 hB.2⟩
  unfold f_X4_readBook_196 at hm
  refine hv_istore_n [(2, .int s0), (0, .ref v0), (3, .int v3)] dX4_readBook_196 rfl (by decide) rfl ?_
  exact hv_sub [1, 0, 2] rfl (q_X4_readBook_197 G n v0 s0 v3 h sz sl o _ hB hm kI kX0)
def f_X4_readBook_49 (n : Nat) (v0 : Nat) (v2 : Int32) (v3 : Int32) (h : hp_H) (sz sl : Nat) : Option ((Int32 × Int32 × hp_H × Nat × Nat) ⊕ (Int32 × hp_H × Nat × Nat)) :=
  if (4096 : Int32) < v3 then
    some (.inr (v2, h, sz, sl))
  else
    if v2 = 0 then
      (hp_fR h 4 v0 2).bind fun x1 =>
      (f_X6_advance n x1 h).bind fun x2 =>
      if x2.1 = 0 then
        some (.inr (v2, x2.2, sz, sl))
      else
        (hp_fR x2.2 4 v0 2).bind fun x3 =>
        (f_X6_word n x3 x2.2).bind fun x4 =>
        (hp_fI x2.2 4 v0 4).bind fun x5 =>
        if x5 = (0 : Int32) then
          if x4 = 0 then
            (f_X4_takeLabel n v0 x2.2).bind fun x8 =>
            f_X4_readBook_134 n v0 v3 x8.1 x8.2 sz sl
          else
            (f_X4_takeOutside n v0 x4 x2.2).bind fun x7 =>
            f_X4_readBook_134 n v0 v3 x7.1 x7.2 sz sl
        else if x5 = (1 : Int32) then
          (f_X4_takeKind n v0 x4 x2.2).bind fun x11 =>
          f_X4_readBook_197 n v0 x11.1 v3 x11.2 sz sl
        else if x5 = (2 : Int32) then
          (f_X4_takeDeclared n v0 x4 x2.2).bind fun x13 =>
          f_X4_readBook_197 n v0 x13.1 v3 x13.2 sz sl
        else if x5 = (3 : Int32) then
          (f_X4_takeSeparated n v0 x4 x2.2).bind fun x15 =>
          f_X4_readBook_197 n v0 x15.1 v3 x15.2 sz sl
        else if x5 = (4 : Int32) then
          if x4 = 0 then
            (f_X4_takeSymbol n v0 x2.2 sz sl).bind fun x18 =>
            f_X4_readBook_177 n v0 v3 x18.1 x18.2.1 x18.2.2.1 x18.2.2.2
          else
            (f_X4_takeEnd n v0 x4 x2.2).bind fun x17 =>
            f_X4_readBook_186 n v0 v3 x17.1 x17.2 sz sl
        else 
          (f_X4_takeProofToken n v0 x4 x2.2 sz sl).bind fun x20 =>
          f_X4_readBook_196 n v0 v3 x20.1 x20.2.1 x20.2.2.1 x20.2.2.2
    else
      some (.inr (v2, h, sz, sl))
set_option maxHeartbeats 1000000 in
set_option maxRecDepth 4000 in
theorem mo_X4_readBook_49 {n : Nat} {v0 : Nat} {v2 : Int32} {v3 : Int32} {h : hp_H} {sz sl : Nat} {res : (Int32 × Int32 × hp_H × Nat × Nat) ⊕ (Int32 × hp_H × Nat × Nat)} (hm : f_X4_readBook_49 n v0 v2 v3 h sz sl = some res) : sz ≤ (zz_X4_readBook_49 res).1 ∧ sl ≤ (zz_X4_readBook_49 res).2 := by
  unfold f_X4_readBook_49 at hm
  rcases Decidable.em ((4096 : Int32) < v3) with c23 | c23
  · rw [if_pos c23] at hm
    obtain rfl := Option.some.inj hm
    exact ⟨Nat.le_refl _, Nat.le_refl _⟩
  · rw [if_neg c23] at hm
    rcases (Decidable.em (v2 = 0)).symm with c22 | c22
    · rw [if_neg c22] at hm
      obtain rfl := Option.some.inj hm
      exact ⟨Nat.le_refl _, Nat.le_refl _⟩
    · rw [if_pos c22] at hm
      obtain ⟨x1, hx1, hm⟩ := hp_bd hm
      obtain ⟨x2, hx2, hm⟩ := hp_bd hm
      rcases Decidable.em (x2.1 = 0) with c21 | c21
      · rw [if_pos c21] at hm
        obtain rfl := Option.some.inj hm
        exact ⟨Nat.le_refl _, Nat.le_refl _⟩
      · rw [if_neg c21] at hm
        obtain ⟨x3, hx3, hm⟩ := hp_bd hm
        obtain ⟨x4, hx4, hm⟩ := hp_bd hm
        obtain ⟨x5, hx5, hm⟩ := hp_bd hm
        by_cases c6 : x5 = (0 : Int32)
        · rw [if_pos c6] at hm
          rcases (Decidable.em (x4 = 0)).symm with c9 | c9
          · rw [if_neg c9] at hm
            obtain ⟨x7, hx7, hm⟩ := hp_bd hm
            exact mo_X4_readBook_134 hm
          · rw [if_pos c9] at hm
            obtain ⟨x8, hx8, hm⟩ := hp_bd hm
            exact mo_X4_readBook_134 hm
        rw [if_neg c6] at hm
        by_cases c10 : x5 = (1 : Int32)
        · rw [if_pos c10] at hm
          obtain ⟨x11, hx11, hm⟩ := hp_bd hm
          exact mo_X4_readBook_197 hm
        rw [if_neg c10] at hm
        by_cases c12 : x5 = (2 : Int32)
        · rw [if_pos c12] at hm
          obtain ⟨x13, hx13, hm⟩ := hp_bd hm
          exact mo_X4_readBook_197 hm
        rw [if_neg c12] at hm
        by_cases c14 : x5 = (3 : Int32)
        · rw [if_pos c14] at hm
          obtain ⟨x15, hx15, hm⟩ := hp_bd hm
          exact mo_X4_readBook_197 hm
        rw [if_neg c14] at hm
        by_cases c16 : x5 = (4 : Int32)
        · rw [if_pos c16] at hm
          rcases (Decidable.em (x4 = 0)).symm with c19 | c19
          · rw [if_neg c19] at hm
            obtain ⟨x17, hx17, hm⟩ := hp_bd hm
            exact mo_X4_readBook_186 hm
          · rw [if_pos c19] at hm
            obtain ⟨x18, hx18, hm⟩ := hp_bd hm
            exact hp_tr (mx_X4_takeSymbol hx18) (mo_X4_readBook_177 hm)
        rw [if_neg c16] at hm
        obtain ⟨x20, hx20, hm⟩ := hp_bd hm
        exact hp_tr (mx_X4_takeProofToken hx20) (mo_X4_readBook_196 hm)
set_option maxHeartbeats 1000000 in
set_option maxRecDepth 4000 in
theorem q_X4_readBook_49 (G : hp_G) (n : Nat) (v0 : Nat) (v2 : Int32) (v3 : Int32) (h : hp_H) (sz sl : Nat) (o : hp_O) (res : (Int32 × Int32 × hp_H × Nat × Nat) ⊕ (Int32 × hp_H × Nat × Nat)) (hB : (zz_X4_readBook_49 res).1 ≤ o.2.2.1 ∧ (zz_X4_readBook_49 res).2 ≤ o.2.2.2) (hm : f_X4_readBook_49 n v0 v2 v3 h sz sl = some res) (kI : ∀ y : Int32 × Int32 × hp_H × Nat × Nat, res = .inl y → hp_V G m_X4_readBook 49 [(0, .ref v0), (2, .int y.1), (3, .int y.2.1)] [] y.2.2.1 y.2.2.2.1 y.2.2.2.2 o) (kX0 : ∀ y : Int32 × hp_H × Nat × Nat, res = .inr y → hp_V G m_X4_readBook 216 [(0, .ref v0), (2, .int y.1)] [] y.2.1 y.2.2.1 y.2.2.2 o) : hp_V G m_X4_readBook 49 [(0, .ref v0), (2, .int v2), (3, .int v3)] [] h sz sl o := by
  have ho : sz ≤ o.2.2.1 ∧ sl ≤ o.2.2.2 := ⟨Nat.le_trans (mo_X4_readBook_49 hm).1 hB.1, Nat.le_trans (mo_X4_readBook_49 hm).2 hB.2⟩
  unfold f_X4_readBook_49 at hm
  refine hv_iload_n 2 dX4_readBook_49 rfl rfl ?_
  refine hv_sipush (4096 : Int32) dX4_readBook_50 (by decide) ?_
  refine hv_icmp_gt (tgt := 216) dX4_readBook_53 (by decide) (fun c23 => ?_) (fun c23 => ?_)
  · rw [if_pos c23] at hm
    exact hv_sub [0, 1] rfl (kX0 (v2, h, sz, sl) (Option.some.inj hm).symm)
  · rw [if_neg c23] at hm
    refine hv_iload_n 1 dX4_readBook_56 rfl rfl ?_
    refine hv_if_ne (tgt := 216) dX4_readBook_57 (by decide) (fun c22 => ?_) (fun c22 => ?_)
    · rw [if_neg c22] at hm
      exact hv_sub [0, 1] rfl (kX0 (v2, h, sz, sl) (Option.some.inj hm).symm)
    · rw [if_pos c22] at hm
      refine hv_aload_n 0 dX4_readBook_60 rfl rfl ?_
      obtain ⟨x1, hx1, hm⟩ := hp_bd hm
      refine hv_get lk_f_X4_37 dX4_readBook_61 (hp_fR_spec hx1) ?_
      obtain ⟨x2, hx2, hm⟩ := hp_bd hm
      obtain ⟨Vx2, hVx2⟩ := k_X6_advance hx2
      refine hv_callV (As := []) (rest := []) Z_X6_advance I_X6_advance lk_m_X4_56 rfl hVx2 (c_X6_advance G n x1 h sz sl _ hx2) rfl (Nat.le_of_ble_eq_true rfl) ⟨Nat.le_of_ble_eq_true rfl, Nat.le_of_ble_eq_true rfl⟩ ho.1 ho.2 rfl dX4_readBook_64 ?_
      refine hv_as [.int x2.1] x2.2 rfl rfl ?_
      refine hv_if_eq (tgt := 216) dX4_readBook_67 (by decide) (fun c21 => ?_) (fun c21 => ?_)
      · rw [if_pos c21] at hm
        exact hv_sub [0, 1] rfl (kX0 (v2, x2.2, sz, sl) (Option.some.inj hm).symm)
      · rw [if_neg c21] at hm
        refine hv_aload_n 0 dX4_readBook_70 rfl rfl ?_
        obtain ⟨x3, hx3, hm⟩ := hp_bd hm
        refine hv_get lk_f_X4_37 dX4_readBook_71 (hp_fR_spec hx3) ?_
        obtain ⟨x4, hx4, hm⟩ := hp_bd hm
        obtain ⟨Vx4, hVx4⟩ := k_X6_word hx4
        refine hv_callV (As := []) (rest := []) Z_X6_word I_X6_word lk_m_X4_60 rfl hVx4 (c_X6_word G n x3 x2.2 sz sl _ hx4) rfl (Nat.le_of_ble_eq_true rfl) ⟨Nat.le_of_ble_eq_true rfl, Nat.le_of_ble_eq_true rfl⟩ ho.1 ho.2 rfl dX4_readBook_74 ?_
        refine hv_as [.int x4] x2.2 rfl rfl ?_
        refine hv_istore [(4, .int x4), (0, .ref v0), (2, .int v2), (3, .int v3)] dX4_readBook_77 (by decide) rfl ?_
        refine hv_aload_n 1 dX4_readBook_79 rfl rfl ?_
        obtain ⟨x5, hx5, hm⟩ := hp_bd hm
        refine hv_get lk_f_X4_53 dX4_readBook_80 (hp_fI_spec hx5) ?_
        by_cases c6 : x5 = (0 : Int32)
        · rw [if_pos c6] at hm
          refine hv_tabIn (off := 33) (tgt := 116) dX4_readBook_83 (by rw [c6]; decide) (by rw [c6]; decide) (by rw [c6]; rfl) (by decide) ?_
          refine hv_iload 0 dX4_readBook_116 rfl ?_
          refine hv_if_ne (tgt := 128) dX4_readBook_118 (by decide) (fun c9 => ?_) (fun c9 => ?_)
          · rw [if_neg c9] at hm
            refine hv_aload_n 1 dX4_readBook_128 rfl rfl ?_
            refine hv_iload 0 dX4_readBook_129 rfl ?_
            obtain ⟨x7, hx7, hm⟩ := hp_bd hm
            obtain ⟨Vx7, hVx7⟩ := k_X4_takeOutside hx7
            refine hv_callV (As := [.int x4]) (rest := []) Z_X4_takeOutside I_X4_takeOutside lk_m_X4_67 rfl hVx7 (c_X4_takeOutside G n v0 x4 x2.2 sz sl _ hx7) rfl (Nat.le_of_ble_eq_true rfl) ⟨Nat.le_of_ble_eq_true rfl, Nat.le_of_ble_eq_true rfl⟩ ho.1 ho.2 rfl dX4_readBook_131 ?_
            refine hv_as [.int x7.1] x7.2 rfl rfl ?_
            exact hv_sub [1, 3] rfl (q_X4_readBook_134 G n v0 v3 x7.1 x7.2 sz sl o _ hB hm kI kX0)
          · rw [if_pos c9] at hm
            refine hv_aload_n 1 dX4_readBook_121 rfl rfl ?_
            obtain ⟨x8, hx8, hm⟩ := hp_bd hm
            obtain ⟨Vx8, hVx8⟩ := k_X4_takeLabel hx8
            refine hv_callV (As := []) (rest := []) Z_X4_takeLabel I_X4_takeLabel lk_m_X4_64 rfl hVx8 (c_X4_takeLabel G n v0 x2.2 sz sl _ hx8) rfl (Nat.le_of_ble_eq_true rfl) ⟨Nat.le_of_ble_eq_true rfl, Nat.le_of_ble_eq_true rfl⟩ ho.1 ho.2 rfl dX4_readBook_122 ?_
            refine hv_as [.int x8.1] x8.2 rfl rfl ?_
            refine hv_goto (tgt := 134) dX4_readBook_125 (by decide) ?_
            exact hv_sub [1, 3] rfl (q_X4_readBook_134 G n v0 v3 x8.1 x8.2 sz sl o _ hB hm kI kX0)
        rw [if_neg c6] at hm
        by_cases c10 : x5 = (1 : Int32)
        · rw [if_pos c10] at hm
          refine hv_tabIn (off := 55) (tgt := 138) dX4_readBook_83 (by rw [c10]; decide) (by rw [c10]; decide) (by rw [c10]; rfl) (by decide) ?_
          refine hv_aload_n 1 dX4_readBook_138 rfl rfl ?_
          refine hv_iload 0 dX4_readBook_139 rfl ?_
          obtain ⟨x11, hx11, hm⟩ := hp_bd hm
          obtain ⟨Vx11, hVx11⟩ := k_X4_takeKind hx11
          refine hv_callV (As := [.int x4]) (rest := []) Z_X4_takeKind I_X4_takeKind lk_m_X4_71 rfl hVx11 (c_X4_takeKind G n v0 x4 x2.2 sz sl _ hx11) rfl (Nat.le_of_ble_eq_true rfl) ⟨Nat.le_of_ble_eq_true rfl, Nat.le_of_ble_eq_true rfl⟩ ho.1 ho.2 rfl dX4_readBook_141 ?_
          refine hv_as [.int x11.1] x11.2 rfl rfl ?_
          refine hv_istore_n [(2, .int x11.1), (4, .int x4), (0, .ref v0), (3, .int v3)] dX4_readBook_144 rfl (by decide) rfl ?_
          refine hv_goto (tgt := 197) dX4_readBook_145 (by decide) ?_
          exact hv_sub [2, 0, 3] rfl (q_X4_readBook_197 G n v0 x11.1 v3 x11.2 sz sl o _ hB hm kI kX0)
        rw [if_neg c10] at hm
        by_cases c12 : x5 = (2 : Int32)
        · rw [if_pos c12] at hm
          refine hv_tabIn (off := 65) (tgt := 148) dX4_readBook_83 (by rw [c12]; decide) (by rw [c12]; decide) (by rw [c12]; rfl) (by decide) ?_
          refine hv_aload_n 1 dX4_readBook_148 rfl rfl ?_
          refine hv_iload 0 dX4_readBook_149 rfl ?_
          obtain ⟨x13, hx13, hm⟩ := hp_bd hm
          obtain ⟨Vx13, hVx13⟩ := k_X4_takeDeclared hx13
          refine hv_callV (As := [.int x4]) (rest := []) Z_X4_takeDeclared I_X4_takeDeclared lk_m_X4_74 rfl hVx13 (c_X4_takeDeclared G n v0 x4 x2.2 sz sl _ hx13) rfl (Nat.le_of_ble_eq_true rfl) ⟨Nat.le_of_ble_eq_true rfl, Nat.le_of_ble_eq_true rfl⟩ ho.1 ho.2 rfl dX4_readBook_151 ?_
          refine hv_as [.int x13.1] x13.2 rfl rfl ?_
          refine hv_istore_n [(2, .int x13.1), (4, .int x4), (0, .ref v0), (3, .int v3)] dX4_readBook_154 rfl (by decide) rfl ?_
          refine hv_goto (tgt := 197) dX4_readBook_155 (by decide) ?_
          exact hv_sub [2, 0, 3] rfl (q_X4_readBook_197 G n v0 x13.1 v3 x13.2 sz sl o _ hB hm kI kX0)
        rw [if_neg c12] at hm
        by_cases c14 : x5 = (3 : Int32)
        · rw [if_pos c14] at hm
          refine hv_tabIn (off := 75) (tgt := 158) dX4_readBook_83 (by rw [c14]; decide) (by rw [c14]; decide) (by rw [c14]; rfl) (by decide) ?_
          refine hv_aload_n 1 dX4_readBook_158 rfl rfl ?_
          refine hv_iload 0 dX4_readBook_159 rfl ?_
          obtain ⟨x15, hx15, hm⟩ := hp_bd hm
          obtain ⟨Vx15, hVx15⟩ := k_X4_takeSeparated hx15
          refine hv_callV (As := [.int x4]) (rest := []) Z_X4_takeSeparated I_X4_takeSeparated lk_m_X4_77 rfl hVx15 (c_X4_takeSeparated G n v0 x4 x2.2 sz sl _ hx15) rfl (Nat.le_of_ble_eq_true rfl) ⟨Nat.le_of_ble_eq_true rfl, Nat.le_of_ble_eq_true rfl⟩ ho.1 ho.2 rfl dX4_readBook_161 ?_
          refine hv_as [.int x15.1] x15.2 rfl rfl ?_
          refine hv_istore_n [(2, .int x15.1), (4, .int x4), (0, .ref v0), (3, .int v3)] dX4_readBook_164 rfl (by decide) rfl ?_
          refine hv_goto (tgt := 197) dX4_readBook_165 (by decide) ?_
          exact hv_sub [2, 0, 3] rfl (q_X4_readBook_197 G n v0 x15.1 v3 x15.2 sz sl o _ hB hm kI kX0)
        rw [if_neg c14] at hm
        by_cases c16 : x5 = (4 : Int32)
        · rw [if_pos c16] at hm
          refine hv_tabIn (off := 85) (tgt := 168) dX4_readBook_83 (by rw [c16]; decide) (by rw [c16]; decide) (by rw [c16]; rfl) (by decide) ?_
          refine hv_iload 0 dX4_readBook_168 rfl ?_
          refine hv_if_ne (tgt := 180) dX4_readBook_170 (by decide) (fun c19 => ?_) (fun c19 => ?_)
          · rw [if_neg c19] at hm
            refine hv_aload_n 1 dX4_readBook_180 rfl rfl ?_
            refine hv_iload 0 dX4_readBook_181 rfl ?_
            obtain ⟨x17, hx17, hm⟩ := hp_bd hm
            obtain ⟨Vx17, hVx17⟩ := k_X4_takeEnd hx17
            refine hv_callV (As := [.int x4]) (rest := []) Z_X4_takeEnd I_X4_takeEnd lk_m_X4_83 rfl hVx17 (c_X4_takeEnd G n v0 x4 x2.2 sz sl _ hx17) rfl (Nat.le_of_ble_eq_true rfl) ⟨Nat.le_of_ble_eq_true rfl, Nat.le_of_ble_eq_true rfl⟩ ho.1 ho.2 rfl dX4_readBook_183 ?_
            refine hv_as [.int x17.1] x17.2 rfl rfl ?_
            exact hv_sub [1, 3] rfl (q_X4_readBook_186 G n v0 v3 x17.1 x17.2 sz sl o _ hB hm kI kX0)
          · rw [if_pos c19] at hm
            refine hv_aload_n 1 dX4_readBook_173 rfl rfl ?_
            obtain ⟨x18, hx18, hm⟩ := hp_bd hm
            have hq := hp_tr (mo_X4_readBook_177 hm) hB
            obtain ⟨Vx18, hVx18⟩ := k_X4_takeSymbol hx18
            refine hv_callV (As := []) (rest := []) Z_X4_takeSymbol I_X4_takeSymbol lk_m_X4_80 rfl hVx18 (c_X4_takeSymbol G n v0 x2.2 sz sl _ hx18) rfl (Nat.le_of_ble_eq_true rfl) ⟨Nat.le_of_ble_eq_true rfl, Nat.le_of_ble_eq_true rfl⟩ hq.1 hq.2 rfl dX4_readBook_174 ?_
            refine hv_as2 [.int x18.1] x18.2.1 x18.2.2.1 x18.2.2.2 rfl rfl rfl rfl ?_
            exact hv_sub [1, 3] rfl (q_X4_readBook_177 G n v0 v3 x18.1 x18.2.1 x18.2.2.1 x18.2.2.2 o _ hB hm kI kX0)
        rw [if_neg c16] at hm
        have nc6 := lv_neT c6 (show (0 : Int32).toInt = 0 by decide)
        have nc10 := lv_neT c10 (show (1 : Int32).toInt = 1 by decide)
        have nc12 := lv_neT c12 (show (2 : Int32).toInt = 2 by decide)
        have nc14 := lv_neT c14 (show (3 : Int32).toInt = 3 by decide)
        have nc16 := lv_neT c16 (show (4 : Int32).toInt = 4 by decide)
        refine hv_tabOut (tgt := 190) dX4_readBook_83 (by omega) (by decide) ?_
        refine hv_aload_n 1 dX4_readBook_190 rfl rfl ?_
        refine hv_iload 0 dX4_readBook_191 rfl ?_
        obtain ⟨x20, hx20, hm⟩ := hp_bd hm
        have hq := hp_tr (mo_X4_readBook_196 hm) hB
        obtain ⟨Vx20, hVx20⟩ := k_X4_takeProofToken hx20
        refine hv_callV (As := [.int x4]) (rest := []) Z_X4_takeProofToken I_X4_takeProofToken lk_m_X4_86 rfl hVx20 (c_X4_takeProofToken G n v0 x4 x2.2 sz sl _ hx20) rfl (Nat.le_of_ble_eq_true rfl) ⟨Nat.le_of_ble_eq_true rfl, Nat.le_of_ble_eq_true rfl⟩ hq.1 hq.2 rfl dX4_readBook_193 ?_
        refine hv_as2 [.int x20.1] x20.2.1 x20.2.2.1 x20.2.2.2 rfl rfl rfl rfl ?_
        exact hv_sub [1, 3] rfl (q_X4_readBook_196 G n v0 v3 x20.1 x20.2.1 x20.2.2.1 x20.2.2.2 o _ hB hm kI kX0)
def fL_X4_readBook_49 (n : Nat) (v0 : Nat) (s : Int32 × Int32 × hp_H × Nat × Nat) : Option ((Int32 × Int32 × hp_H × Nat × Nat) ⊕ (Int32 × hp_H × Nat × Nat)) := f_X4_readBook_49 n v0 s.1 s.2.1 s.2.2.1 s.2.2.2.1 s.2.2.2.2
theorem ml_X4_readBook_49 {n : Nat} {v0 : Nat} : ∀ (k : Nat) (s : Int32 × Int32 × hp_H × Nat × Nat) (x : Int32 × hp_H × Nat × Nat), hp_lp (fL_X4_readBook_49 n v0) k s = some x → s.2.2.2.1 ≤ (zx_X4_readBook_49 x).1 ∧ s.2.2.2.2 ≤ (zx_X4_readBook_49 x).2 := by
  intro k
  induction k with
  | zero => intro s x hx; exact (hp_lp_0 hx).elim
  | succ k ih =>
    intro s x hx
    obtain ⟨r, hr, hc⟩ := hp_lp_1 hx
    have h1 := mo_X4_readBook_49 hr
    rcases hc with ⟨s3, e3, hx3⟩ | e3
    · subst e3
      exact hp_tr h1 (ih _ _ hx3)
    · subst e3
      exact h1
theorem l_X4_readBook_49 (G : hp_G) (n : Nat) (v0 : Nat) (o : hp_O) : ∀ (k : Nat) (s : Int32 × Int32 × hp_H × Nat × Nat) (x : Int32 × hp_H × Nat × Nat), hp_lp (fL_X4_readBook_49 n v0) k s = some x → ((zx_X4_readBook_49 x).1 ≤ o.2.2.1 ∧ (zx_X4_readBook_49 x).2 ≤ o.2.2.2) → (∀ y : Int32 × hp_H × Nat × Nat, x = y → hp_V G m_X4_readBook 216 [(0, .ref v0), (2, .int y.1)] [] y.2.1 y.2.2.1 y.2.2.2 o) → hp_V G m_X4_readBook 49 [(0, .ref v0), (2, .int s.1), (3, .int s.2.1)] [] s.2.2.1 s.2.2.2.1 s.2.2.2.2 o := by
  intro k
  induction k with
  | zero => intro s x hx; exact (hp_lp_0 hx).elim
  | succ k ih =>
    intro s x hx hz k0
    obtain ⟨r, hr, hc⟩ := hp_lp_1 hx
    have hB : (zz_X4_readBook_49 r).1 ≤ o.2.2.1 ∧ (zz_X4_readBook_49 r).2 ≤ o.2.2.2 := by
      rcases hc with ⟨s3, e3, hx3⟩ | e3
      · subst e3
        exact hp_tr (ml_X4_readBook_49 _ _ _ hx3) hz
      · subst e3
        exact hz
    refine q_X4_readBook_49 G n v0 s.1 s.2.1 s.2.2.1 s.2.2.2.1 s.2.2.2.2 o r hB hr (fun s2 e => ?_) (fun y e => ?_)
    · rcases hc with ⟨s3, e3, hx3⟩ | e3
      · have e4 := Sum.inl.inj (e.symm.trans e3)
        subst e4
        exact ih _ _ hx3 hz k0
      · cases (e.symm.trans e3)
    · rcases hc with ⟨s3, e3, hx3⟩ | e3
      · cases (e.symm.trans e3)
      · exact k0 y (Sum.inr.inj (e3.symm.trans e))
def f_X4_readBook_241 (n : Nat) (v0 : Nat) (v2 : Int32) (h : hp_H) (sz sl : Nat) : Option (Int32 × hp_H × Nat × Nat) :=
  if v2 = 0 then
    (hp_fR h 4 v0 2).bind fun x1 =>
    (hp_fI h 6 x1 2).bind fun x2 =>
    some (x2, h, sz, sl)
  else
    some (v2, h, sz, sl)
set_option maxHeartbeats 1000000 in
set_option maxRecDepth 4000 in
theorem mo_X4_readBook_241 {n : Nat} {v0 : Nat} {v2 : Int32} {h : hp_H} {sz sl : Nat} {res : Int32 × hp_H × Nat × Nat} (hm : f_X4_readBook_241 n v0 v2 h sz sl = some res) : sz ≤ res.2.2.1 ∧ sl ≤ res.2.2.2 := by
  unfold f_X4_readBook_241 at hm
  rcases Decidable.em (v2 = 0) with c3 | c3
  · rw [if_pos c3] at hm
    obtain ⟨x1, hx1, hm⟩ := hp_bd hm
    obtain ⟨x2, hx2, hm⟩ := hp_bd hm
    obtain rfl := Option.some.inj hm
    exact ⟨Nat.le_refl _, Nat.le_refl _⟩
  · rw [if_neg c3] at hm
    obtain rfl := Option.some.inj hm
    exact ⟨Nat.le_refl _, Nat.le_refl _⟩
set_option maxHeartbeats 1000000 in
set_option maxRecDepth 4000 in
theorem q_X4_readBook_241 (G : hp_G) (n : Nat) (v0 : Nat) (v2 : Int32) (h : hp_H) (sz sl : Nat) (res : Int32 × hp_H × Nat × Nat) (hm : f_X4_readBook_241 n v0 v2 h sz sl = some res) : hp_V G m_X4_readBook 241 [(0, .ref v0), (2, .int v2)] [] h sz sl (some (.int res.1), res.2.1, res.2.2.1, res.2.2.2) := by
  have ho := mo_X4_readBook_241 hm
  unfold f_X4_readBook_241 at hm
  refine hv_iload_n 1 dX4_readBook_241 rfl rfl ?_
  refine hv_if_eq (tgt := 249) dX4_readBook_242 (by decide) (fun c3 => ?_) (fun c3 => ?_)
  · rw [if_pos c3] at hm
    refine hv_aload_n 0 dX4_readBook_249 rfl rfl ?_
    obtain ⟨x1, hx1, hm⟩ := hp_bd hm
    refine hv_get lk_f_X4_37 dX4_readBook_250 (hp_fR_spec hx1) ?_
    obtain ⟨x2, hx2, hm⟩ := hp_bd hm
    refine hv_get lk_f_X4_98 dX4_readBook_253 (hp_fI_spec hx2) ?_
    obtain rfl := Option.some.inj hm
    exact hv_iret rfl dX4_readBook_256
  · rw [if_neg c3] at hm
    refine hv_iload_n 1 dX4_readBook_245 rfl rfl ?_
    refine hv_goto (tgt := 256) dX4_readBook_246 (by decide) ?_
    obtain rfl := Option.some.inj hm
    exact hv_iret rfl dX4_readBook_256
def f_X4_readBook_274 (n : Nat)  (h : hp_H) (sz sl : Nat) : Option (Int32 × hp_H × Nat × Nat) :=
  some ((2 : Int32), h, sz, sl)
set_option maxHeartbeats 1000000 in
set_option maxRecDepth 4000 in
theorem mo_X4_readBook_274 {n : Nat}  {h : hp_H} {sz sl : Nat} {res : Int32 × hp_H × Nat × Nat} (hm : f_X4_readBook_274 n h sz sl = some res) : sz ≤ res.2.2.1 ∧ sl ≤ res.2.2.2 := by
  unfold f_X4_readBook_274 at hm
  obtain rfl := Option.some.inj hm
  exact ⟨Nat.le_refl _, Nat.le_refl _⟩
set_option maxHeartbeats 1000000 in
set_option maxRecDepth 4000 in
theorem q_X4_readBook_274 (G : hp_G) (n : Nat)  (h : hp_H) (sz sl : Nat) (res : Int32 × hp_H × Nat × Nat) (hm : f_X4_readBook_274 n h sz sl = some res) : hp_V G m_X4_readBook 274 [] [] h sz sl (some (.int res.1), res.2.1, res.2.2.1, res.2.2.2) := by
  have ho := mo_X4_readBook_274 hm
  unfold f_X4_readBook_274 at hm
  refine hv_iconst (2 : Int32) dX4_readBook_274 (by decide) ?_
  refine hv_goto (tgt := 279) dX4_readBook_275 (by decide) ?_
  obtain rfl := Option.some.inj hm
  exact hv_iret rfl dX4_readBook_279
def f_X4_readBook_216 (n : Nat) (v0 : Nat) (v2 : Int32) (h : hp_H) (sz sl : Nat) : Option (Int32 × hp_H × Nat × Nat) :=
  (hp_fR h 4 v0 2).bind fun x1 =>
  (hp_fI h 6 x1 0).bind fun x2 =>
  (hp_pF h 4 v0 0 (.int x2)).bind fun h3 =>
  if v2 = 0 then
    (hp_fR h3 4 v0 2).bind fun x4 =>
    (hp_fI h3 6 x4 2).bind fun x5 =>
    if x5 = 0 then
      (hp_fI h3 4 v0 4).bind fun x6 =>
      if x6 = 0 then
        (hp_fR h3 4 v0 3).bind fun x7 =>
        (hp_fI h3 7 x7 0).bind fun x8 =>
        if x8 ≤ 0 then
          some ((0 : Int32), h3, sz, sl)
        else
          f_X4_readBook_274 n  h3 sz sl
      else
        f_X4_readBook_274 n  h3 sz sl
    else
      f_X4_readBook_241 n v0 v2 h3 sz sl
  else
    f_X4_readBook_241 n v0 v2 h3 sz sl
set_option maxHeartbeats 1000000 in
set_option maxRecDepth 4000 in
theorem mo_X4_readBook_216 {n : Nat} {v0 : Nat} {v2 : Int32} {h : hp_H} {sz sl : Nat} {res : Int32 × hp_H × Nat × Nat} (hm : f_X4_readBook_216 n v0 v2 h sz sl = some res) : sz ≤ res.2.2.1 ∧ sl ≤ res.2.2.2 := by
  unfold f_X4_readBook_216 at hm
  obtain ⟨x1, hx1, hm⟩ := hp_bd hm
  obtain ⟨x2, hx2, hm⟩ := hp_bd hm
  obtain ⟨h3, hh3, hm⟩ := hp_bd hm
  rcases (Decidable.em (v2 = 0)).symm with c12 | c12
  · rw [if_neg c12] at hm
    exact mo_X4_readBook_241 hm
  · rw [if_pos c12] at hm
    obtain ⟨x4, hx4, hm⟩ := hp_bd hm
    obtain ⟨x5, hx5, hm⟩ := hp_bd hm
    rcases Decidable.em (x5 = 0) with c11 | c11
    · rw [if_pos c11] at hm
      obtain ⟨x6, hx6, hm⟩ := hp_bd hm
      rcases (Decidable.em (x6 = 0)).symm with c10 | c10
      · rw [if_neg c10] at hm
        exact mo_X4_readBook_274 hm
      · rw [if_pos c10] at hm
        obtain ⟨x7, hx7, hm⟩ := hp_bd hm
        obtain ⟨x8, hx8, hm⟩ := hp_bd hm
        rcases Decidable.em (x8 ≤ 0) with c9 | c9
        · rw [if_pos c9] at hm
          obtain rfl := Option.some.inj hm
          exact ⟨Nat.le_refl _, Nat.le_refl _⟩
        · rw [if_neg c9] at hm
          exact mo_X4_readBook_274 hm
    · rw [if_neg c11] at hm
      exact mo_X4_readBook_241 hm
set_option maxHeartbeats 1000000 in
set_option maxRecDepth 4000 in
theorem q_X4_readBook_216 (G : hp_G) (n : Nat) (v0 : Nat) (v2 : Int32) (h : hp_H) (sz sl : Nat) (res : Int32 × hp_H × Nat × Nat) (hm : f_X4_readBook_216 n v0 v2 h sz sl = some res) : hp_V G m_X4_readBook 216 [(0, .ref v0), (2, .int v2)] [] h sz sl (some (.int res.1), res.2.1, res.2.2.1, res.2.2.2) := by
  have ho := mo_X4_readBook_216 hm
  unfold f_X4_readBook_216 at hm
  refine hv_aload_n 0 dX4_readBook_216 rfl rfl ?_
  refine hv_aload_n 0 dX4_readBook_217 rfl rfl ?_
  obtain ⟨x1, hx1, hm⟩ := hp_bd hm
  refine hv_get lk_f_X4_37 dX4_readBook_218 (hp_fR_spec hx1) ?_
  obtain ⟨x2, hx2, hm⟩ := hp_bd hm
  refine hv_get lk_f_X4_92 dX4_readBook_221 (hp_fI_spec hx2) ?_
  obtain ⟨h3, hh3, hm⟩ := hp_bd hm
  refine hv_put lk_f_X4_95 dX4_readBook_224 rfl rfl hh3 ?_
  refine hv_iload_n 1 dX4_readBook_227 rfl rfl ?_
  refine hv_if_ne (tgt := 241) dX4_readBook_228 (by decide) (fun c12 => ?_) (fun c12 => ?_)
  · rw [if_neg c12] at hm
    exact hv_sub [0, 1] rfl (q_X4_readBook_241 G n v0 v2 h3 sz sl _ hm)
  · rw [if_pos c12] at hm
    refine hv_aload_n 0 dX4_readBook_231 rfl rfl ?_
    obtain ⟨x4, hx4, hm⟩ := hp_bd hm
    refine hv_get lk_f_X4_37 dX4_readBook_232 (hp_fR_spec hx4) ?_
    obtain ⟨x5, hx5, hm⟩ := hp_bd hm
    refine hv_get lk_f_X4_98 dX4_readBook_235 (hp_fI_spec hx5) ?_
    refine hv_if_eq (tgt := 257) dX4_readBook_238 (by decide) (fun c11 => ?_) (fun c11 => ?_)
    · rw [if_pos c11] at hm
      refine hv_aload_n 0 dX4_readBook_257 rfl rfl ?_
      obtain ⟨x6, hx6, hm⟩ := hp_bd hm
      refine hv_get lk_f_X4_53 dX4_readBook_258 (hp_fI_spec hx6) ?_
      refine hv_if_ne (tgt := 274) dX4_readBook_261 (by decide) (fun c10 => ?_) (fun c10 => ?_)
      · rw [if_neg c10] at hm
        exact hv_sub [] rfl (q_X4_readBook_274 G n  h3 sz sl _ hm)
      · rw [if_pos c10] at hm
        refine hv_aload_n 0 dX4_readBook_264 rfl rfl ?_
        obtain ⟨x7, hx7, hm⟩ := hp_bd hm
        refine hv_get lk_f_X4_12 dX4_readBook_265 (hp_fR_spec hx7) ?_
        obtain ⟨x8, hx8, hm⟩ := hp_bd hm
        refine hv_get lk_f_X4_101 dX4_readBook_268 (hp_fI_spec hx8) ?_
        refine hv_if_le (tgt := 278) dX4_readBook_271 (by decide) (fun c9 => ?_) (fun c9 => ?_)
        · rw [if_pos c9] at hm
          refine hv_iconst (0 : Int32) dX4_readBook_278 (by decide) ?_
          obtain rfl := Option.some.inj hm
          exact hv_iret rfl dX4_readBook_279
        · rw [if_neg c9] at hm
          exact hv_sub [] rfl (q_X4_readBook_274 G n  h3 sz sl _ hm)
    · rw [if_neg c11] at hm
      exact hv_sub [0, 1] rfl (q_X4_readBook_241 G n v0 v2 h3 sz sl _ hm)
def f_X4_readBook_0 (n : Nat) (v0 : Nat) (v1 : Nat) (h : hp_H) (sz sl : Nat) : Option (Int32 × hp_H × Nat × Nat) :=
  (hp_pF h 4 v0 1 (.ref v1)).bind fun h1 =>
  (hp_fR h1 4 v0 1).bind fun x2 =>
  (f_X0_clear n x2 h1).bind fun x3 =>
  (hp_fR x3 4 v0 3).bind fun x4 =>
  (f_X7_clear n x4 x3).bind fun x5 =>
  (hp_fR x5 4 v0 2).bind fun x6 =>
  (hp_fR x5 4 v0 1).bind fun x7 =>
  (hp_fR x5 0 x7 1).bind fun x8 =>
  (hp_fR x5 4 v0 1).bind fun x9 =>
  (hp_fI x5 0 x9 2).bind fun x10 =>
  (f_X6_open n x6 x8 x10 x5).bind fun x11 =>
  (hp_pF x11 4 v0 4 (.int (0 : Int32))).bind fun h12 =>
  (hp_lp (fL_X4_readBook_49 n v0) n ((0 : Int32), (0 : Int32), h12, sz, sl)).bind fun x13 =>
  f_X4_readBook_216 n v0 x13.1 x13.2.1 x13.2.2.1 x13.2.2.2
set_option maxHeartbeats 1000000 in
set_option maxRecDepth 4000 in
theorem mo_X4_readBook_0 {n : Nat} {v0 : Nat} {v1 : Nat} {h : hp_H} {sz sl : Nat} {res : Int32 × hp_H × Nat × Nat} (hm : f_X4_readBook_0 n v0 v1 h sz sl = some res) : sz ≤ res.2.2.1 ∧ sl ≤ res.2.2.2 := by
  unfold f_X4_readBook_0 at hm
  obtain ⟨h1, hh1, hm⟩ := hp_bd hm
  obtain ⟨x2, hx2, hm⟩ := hp_bd hm
  obtain ⟨x3, hx3, hm⟩ := hp_bd hm
  obtain ⟨x4, hx4, hm⟩ := hp_bd hm
  obtain ⟨x5, hx5, hm⟩ := hp_bd hm
  obtain ⟨x6, hx6, hm⟩ := hp_bd hm
  obtain ⟨x7, hx7, hm⟩ := hp_bd hm
  obtain ⟨x8, hx8, hm⟩ := hp_bd hm
  obtain ⟨x9, hx9, hm⟩ := hp_bd hm
  obtain ⟨x10, hx10, hm⟩ := hp_bd hm
  obtain ⟨x11, hx11, hm⟩ := hp_bd hm
  obtain ⟨h12, hh12, hm⟩ := hp_bd hm
  obtain ⟨x13, hx13, hm⟩ := hp_bd hm
  have ml := ml_X4_readBook_49 _ _ _ hx13
  · skip
    exact hp_tr ml (mo_X4_readBook_216 hm)
set_option maxHeartbeats 1000000 in
set_option maxRecDepth 4000 in
theorem q_X4_readBook_0 (G : hp_G) (n : Nat) (v0 : Nat) (v1 : Nat) (h : hp_H) (sz sl : Nat) (res : Int32 × hp_H × Nat × Nat) (hm : f_X4_readBook_0 n v0 v1 h sz sl = some res) : hp_V G m_X4_readBook 0 [(0, .ref v0), (1, .ref v1)] [] h sz sl (some (.int res.1), res.2.1, res.2.2.1, res.2.2.2) := by
  have ho := mo_X4_readBook_0 hm
  unfold f_X4_readBook_0 at hm
  refine hv_aload_n 0 dX4_readBook_0 rfl rfl ?_
  refine hv_aload_n 1 dX4_readBook_1 rfl rfl ?_
  obtain ⟨h1, hh1, hm⟩ := hp_bd hm
  refine hv_put lk_f_X4_22 dX4_readBook_2 rfl rfl hh1 ?_
  refine hv_aload_n 0 dX4_readBook_5 rfl rfl ?_
  obtain ⟨x2, hx2, hm⟩ := hp_bd hm
  refine hv_get lk_f_X4_22 dX4_readBook_6 (hp_fR_spec hx2) ?_
  obtain ⟨x3, hx3, hm⟩ := hp_bd hm
  obtain ⟨Vx3, hVx3⟩ := k_X0_clear hx3
  refine hv_callV (As := []) (rest := []) Z_X0_clear I_X0_clear lk_m_X4_41 rfl hVx3 (c_X0_clear G n x2 h1 sz sl _ hx3) rfl (Nat.le_of_ble_eq_true rfl) ⟨Nat.le_of_ble_eq_true rfl, Nat.le_of_ble_eq_true rfl⟩ ho.1 ho.2 rfl dX4_readBook_9 ?_
  refine hv_as [] x3 rfl rfl ?_
  refine hv_aload_n 0 dX4_readBook_12 rfl rfl ?_
  obtain ⟨x4, hx4, hm⟩ := hp_bd hm
  refine hv_get lk_f_X4_12 dX4_readBook_13 (hp_fR_spec hx4) ?_
  obtain ⟨x5, hx5, hm⟩ := hp_bd hm
  obtain ⟨Vx5, hVx5⟩ := k_X7_clear hx5
  refine hv_callV (As := []) (rest := []) Z_X7_clear I_X7_clear lk_m_X4_44 rfl hVx5 (c_X7_clear G n x4 x3 sz sl _ hx5) rfl (Nat.le_of_ble_eq_true rfl) ⟨Nat.le_of_ble_eq_true rfl, Nat.le_of_ble_eq_true rfl⟩ ho.1 ho.2 rfl dX4_readBook_16 ?_
  refine hv_as [] x5 rfl rfl ?_
  refine hv_aload_n 0 dX4_readBook_19 rfl rfl ?_
  obtain ⟨x6, hx6, hm⟩ := hp_bd hm
  refine hv_get lk_f_X4_37 dX4_readBook_20 (hp_fR_spec hx6) ?_
  refine hv_aload_n 0 dX4_readBook_23 rfl rfl ?_
  obtain ⟨x7, hx7, hm⟩ := hp_bd hm
  refine hv_get lk_f_X4_22 dX4_readBook_24 (hp_fR_spec hx7) ?_
  obtain ⟨x8, hx8, hm⟩ := hp_bd hm
  refine hv_get lk_f_X4_28 dX4_readBook_27 (hp_fR_spec hx8) ?_
  refine hv_aload_n 0 dX4_readBook_30 rfl rfl ?_
  obtain ⟨x9, hx9, hm⟩ := hp_bd hm
  refine hv_get lk_f_X4_22 dX4_readBook_31 (hp_fR_spec hx9) ?_
  obtain ⟨x10, hx10, hm⟩ := hp_bd hm
  refine hv_get lk_f_X4_45 dX4_readBook_34 (hp_fI_spec hx10) ?_
  obtain ⟨x11, hx11, hm⟩ := hp_bd hm
  obtain ⟨Vx11, hVx11⟩ := k_X6_open hx11
  refine hv_callV (As := [.ref x8, .int x10]) (rest := []) Z_X6_open I_X6_open lk_m_X4_49 rfl hVx11 (c_X6_open G n x6 x8 x10 x5 sz sl _ hx11) rfl (Nat.le_of_ble_eq_true rfl) ⟨Nat.le_of_ble_eq_true rfl, Nat.le_of_ble_eq_true rfl⟩ ho.1 ho.2 rfl dX4_readBook_37 ?_
  refine hv_as [] x11 rfl rfl ?_
  refine hv_aload_n 0 dX4_readBook_40 rfl rfl ?_
  refine hv_iconst (0 : Int32) dX4_readBook_41 (by decide) ?_
  obtain ⟨h12, hh12, hm⟩ := hp_bd hm
  refine hv_put lk_f_X4_53 dX4_readBook_42 rfl rfl hh12 ?_
  refine hv_iconst (0 : Int32) dX4_readBook_45 (by decide) ?_
  refine hv_istore_n [(2, .int (0 : Int32)), (0, .ref v0), (1, .ref v1)] dX4_readBook_46 rfl (by decide) rfl ?_
  refine hv_iconst (0 : Int32) dX4_readBook_47 (by decide) ?_
  refine hv_istore_n [(3, .int (0 : Int32)), (2, .int (0 : Int32)), (0, .ref v0), (1, .ref v1)] dX4_readBook_48 rfl (by decide) rfl ?_
  obtain ⟨x13, hx13, hm⟩ := hp_bd hm
  · skip
    have hz : (zx_X4_readBook_49 x13).1 ≤ _ ∧ (zx_X4_readBook_49 x13).2 ≤ _ := mo_X4_readBook_216 hm
    refine hv_sub [2, 1, 0] rfl (l_X4_readBook_49 G n v0  _  n _ _ hx13 hz (fun wy14 ey14 => ?_))
    · cases ey14
      exact hv_sub [0, 1] rfl (q_X4_readBook_216 G n v0 x13.1 x13.2.1 x13.2.2.1 x13.2.2.2 _ hm)
def f_X4_readBook (n : Nat) (v0 : Nat) (v1 : Nat) (h : hp_H) (sz sl : Nat) : Option (Int32 × hp_H × Nat × Nat) := (hp_ck h 4 v0).bind fun _ => f_X4_readBook_0 n v0 v1 h sz sl
theorem c_X4_readBook (G : hp_G) (n : Nat) (v0 : Nat) (v1 : Nat) (h : hp_H) (sz sl : Nat) (res : Int32 × hp_H × Nat × Nat) (hm : f_X4_readBook n v0 v1 h sz sl = some res) : hp_C G m_X4_readBook yX4_readBook [.ref v0, .ref v1] h sz sl (some (.int res.1), res.2.1, res.2.2.1, res.2.2.2) := by
  unfold f_X4_readBook at hm
  obtain ⟨_, _, hm⟩ := hp_bd hm
  exact hp_C_of (by decide) rfl rfl (Nat.le_of_ble_eq_true rfl) (mo_X4_readBook_0 hm).1 (mo_X4_readBook_0 hm).2 (hv_sub [0, 1] rfl (q_X4_readBook_0 G n v0 v1 h sz sl res hm))
theorem k_X4_readBook {n : Nat} {v0 : Nat} {v1 : Nat} {h : hp_H} {sz sl : Nat} {res : Int32 × hp_H × Nat × Nat} (hm : f_X4_readBook n v0 v1 h sz sl = some res) : ∃ V, h v0 = some (.inr (.inr (4, V))) := by
  unfold f_X4_readBook at hm
  obtain ⟨_, hu, _⟩ := hp_bd hm
  exact hp_ck_spec hu
theorem mx_X4_readBook {n : Nat} {v0 : Nat} {v1 : Nat} {h : hp_H} {sz sl : Nat} {res : Int32 × hp_H × Nat × Nat} (hm : f_X4_readBook n v0 v1 h sz sl = some res) : sz ≤ res.2.2.1 ∧ sl ≤ res.2.2.2 := by
  unfold f_X4_readBook at hm
  obtain ⟨_, _, hm⟩ := hp_bd hm
  exact mo_X4_readBook_0 hm
