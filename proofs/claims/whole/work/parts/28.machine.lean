abbrev m_X1_init : hp_M := (RX1, cX1_init, 2, none, 2, 51, "<init>")
theorem Z_X1_init : hp_Y yX1_init m_X1_init 1 := Y_X1_init
def f_X1_init_53 (n : Nat) (v0 : Nat) (v1 : Nat) (s0 : Nat) (s1 : Nat) (h : hp_H) (sz sl : Nat) : Option (hp_H × Nat × Nat) :=
  (hp_pF h 1 s1 5 (.ref s0)).bind fun h1 =>
  (hp_pF h1 1 v0 2 (.ref v1)).bind fun h2 =>
  some (h2, sz, sl)
set_option maxHeartbeats 1000000 in
set_option maxRecDepth 4000 in
theorem mo_X1_init_53 {n : Nat} {v0 : Nat} {v1 : Nat} {s0 : Nat} {s1 : Nat} {h : hp_H} {sz sl : Nat} {res : hp_H × Nat × Nat} (hm : f_X1_init_53 n v0 v1 s0 s1 h sz sl = some res) : sz ≤ res.2.1 ∧ sl ≤ res.2.2 := by
  unfold f_X1_init_53 at hm
  obtain ⟨h1, hh1, hm⟩ := hp_bd hm
  obtain ⟨h2, hh2, hm⟩ := hp_bd hm
  obtain rfl := Option.some.inj hm
  exact ⟨Nat.le_refl _, Nat.le_refl _⟩
set_option maxHeartbeats 1000000 in
set_option maxRecDepth 4000 in
theorem q_X1_init_53 (G : hp_G) (n : Nat) (v0 : Nat) (v1 : Nat) (s0 : Nat) (s1 : Nat) (h : hp_H) (sz sl : Nat) (res : hp_H × Nat × Nat) (hm : f_X1_init_53 n v0 v1 s0 s1 h sz sl = some res) : hp_V G m_X1_init 53 [(0, .ref v0), (1, .ref v1)] [.ref s0, .ref s1] h sz sl (none, res.1, res.2.1, res.2.2) := by
  have ho := mo_X1_init_53 hm
  unfold f_X1_init_53 at hm
  obtain ⟨h1, hh1, hm⟩ := hp_bd hm
  refine hv_putF lk_f_X1_31 (by intro C T N e; cases e; rfl) rfl dX1_init_53 rfl rfl hh1 ?_
  refine hv_aload_n 0 dX1_init_56 rfl rfl ?_
  refine hv_aload_n 1 dX1_init_57 rfl rfl ?_
  obtain ⟨h2, hh2, hm⟩ := hp_bd hm
  refine hv_put lk_f_X1_34 dX1_init_58 rfl rfl hh2 ?_
  obtain rfl := Option.some.inj hm
  exact hv_vret rfl dX1_init_61
def f_X1_init_46 (n : Nat) (v0 : Nat) (v1 : Nat) (s0 : Nat) (s1 : Nat) (h : hp_H) (sz sl : Nat) : Option (hp_H × Nat × Nat) :=
  (hp_pF h 1 s1 4 (.ref s0)).bind fun h1 =>
  f_X1_init_53 n v0 v1 sz v0 (hp_nj h1 sz 5) (sz + 1) (sl + 5)
set_option maxHeartbeats 1000000 in
set_option maxRecDepth 4000 in
theorem mo_X1_init_46 {n : Nat} {v0 : Nat} {v1 : Nat} {s0 : Nat} {s1 : Nat} {h : hp_H} {sz sl : Nat} {res : hp_H × Nat × Nat} (hm : f_X1_init_46 n v0 v1 s0 s1 h sz sl = some res) : sz ≤ res.2.1 ∧ sl ≤ res.2.2 := by
  unfold f_X1_init_46 at hm
  obtain ⟨h1, hh1, hm⟩ := hp_bd hm
  exact hp_tr ⟨Nat.le_add_right _ _, Nat.le_add_right _ _⟩ (mo_X1_init_53 hm)
set_option maxHeartbeats 1000000 in
set_option maxRecDepth 4000 in
theorem q_X1_init_46 (G : hp_G) (n : Nat) (v0 : Nat) (v1 : Nat) (s0 : Nat) (s1 : Nat) (h : hp_H) (sz sl : Nat) (res : hp_H × Nat × Nat) (hm : f_X1_init_46 n v0 v1 s0 s1 h sz sl = some res) : hp_V G m_X1_init 46 [(0, .ref v0), (1, .ref v1)] [.ref s0, .ref s1] h sz sl (none, res.1, res.2.1, res.2.2) := by
  have ho := mo_X1_init_46 hm
  unfold f_X1_init_46 at hm
  obtain ⟨h1, hh1, hm⟩ := hp_bd hm
  refine hv_putF lk_f_X1_27 (by intro C T N e; cases e; rfl) rfl dX1_init_46 rfl rfl hh1 ?_
  refine hv_aload_n 0 dX1_init_49 rfl rfl ?_
  refine hv_iconst (5 : Int32) dX1_init_50 (by decide) ?_
  have hq := mo_X1_init_53 hm
  refine hv_newJ (N := 5) ac_long (by decide) (by decide) dX1_init_51 hq.1 hq.2 ?_
  exact hv_sub [0, 1] rfl (q_X1_init_53 G n v0 v1 sz v0 (hp_nj h1 sz 5) (sz + 1) (sl + 5) _ hm)
def f_X1_init_37 (n : Nat) (v0 : Nat) (v1 : Nat) (s0 : Nat) (s1 : Nat) (h : hp_H) (sz sl : Nat) : Option (hp_H × Nat × Nat) :=
  (hp_pF h 1 s1 3 (.ref s0)).bind fun h1 =>
  f_X1_init_46 n v0 v1 sz v0 (hp_nj h1 sz 1500) (sz + 1) (sl + 1500)
set_option maxHeartbeats 1000000 in
set_option maxRecDepth 4000 in
theorem mo_X1_init_37 {n : Nat} {v0 : Nat} {v1 : Nat} {s0 : Nat} {s1 : Nat} {h : hp_H} {sz sl : Nat} {res : hp_H × Nat × Nat} (hm : f_X1_init_37 n v0 v1 s0 s1 h sz sl = some res) : sz ≤ res.2.1 ∧ sl ≤ res.2.2 := by
  unfold f_X1_init_37 at hm
  obtain ⟨h1, hh1, hm⟩ := hp_bd hm
  exact hp_tr ⟨Nat.le_add_right _ _, Nat.le_add_right _ _⟩ (mo_X1_init_46 hm)
set_option maxHeartbeats 1000000 in
set_option maxRecDepth 4000 in
theorem q_X1_init_37 (G : hp_G) (n : Nat) (v0 : Nat) (v1 : Nat) (s0 : Nat) (s1 : Nat) (h : hp_H) (sz sl : Nat) (res : hp_H × Nat × Nat) (hm : f_X1_init_37 n v0 v1 s0 s1 h sz sl = some res) : hp_V G m_X1_init 37 [(0, .ref v0), (1, .ref v1)] [.ref s0, .ref s1] h sz sl (none, res.1, res.2.1, res.2.2) := by
  have ho := mo_X1_init_37 hm
  unfold f_X1_init_37 at hm
  obtain ⟨h1, hh1, hm⟩ := hp_bd hm
  refine hv_putF lk_f_X1_23 (by intro C T N e; cases e; rfl) rfl dX1_init_37 rfl rfl hh1 ?_
  refine hv_aload_n 0 dX1_init_40 rfl rfl ?_
  refine hv_sipush (1500 : Int32) dX1_init_41 (by decide) ?_
  have hq := mo_X1_init_46 hm
  refine hv_newJ (N := 1500) ac_long (by decide) (by decide) dX1_init_44 hq.1 hq.2 ?_
  exact hv_sub [0, 1] rfl (q_X1_init_46 G n v0 v1 sz v0 (hp_nj h1 sz 1500) (sz + 1) (sl + 1500) _ hm)
def f_X1_init_28 (n : Nat) (v0 : Nat) (v1 : Nat) (s0 : Nat) (s1 : Nat) (h : hp_H) (sz sl : Nat) : Option (hp_H × Nat × Nat) :=
  (hp_pF h 1 s1 1 (.ref s0)).bind fun h1 =>
  f_X1_init_37 n v0 v1 sz v0 (hp_na h1 sz 0 300) (sz + 1) (sl + 300)
set_option maxHeartbeats 1000000 in
set_option maxRecDepth 4000 in
theorem mo_X1_init_28 {n : Nat} {v0 : Nat} {v1 : Nat} {s0 : Nat} {s1 : Nat} {h : hp_H} {sz sl : Nat} {res : hp_H × Nat × Nat} (hm : f_X1_init_28 n v0 v1 s0 s1 h sz sl = some res) : sz ≤ res.2.1 ∧ sl ≤ res.2.2 := by
  unfold f_X1_init_28 at hm
  obtain ⟨h1, hh1, hm⟩ := hp_bd hm
  exact hp_tr ⟨Nat.le_add_right _ _, Nat.le_add_right _ _⟩ (mo_X1_init_37 hm)
set_option maxHeartbeats 1000000 in
set_option maxRecDepth 4000 in
theorem q_X1_init_28 (G : hp_G) (n : Nat) (v0 : Nat) (v1 : Nat) (s0 : Nat) (s1 : Nat) (h : hp_H) (sz sl : Nat) (res : hp_H × Nat × Nat) (hm : f_X1_init_28 n v0 v1 s0 s1 h sz sl = some res) : hp_V G m_X1_init 28 [(0, .ref v0), (1, .ref v1)] [.ref s0, .ref s1] h sz sl (none, res.1, res.2.1, res.2.2) := by
  have ho := mo_X1_init_28 hm
  unfold f_X1_init_28 at hm
  obtain ⟨h1, hh1, hm⟩ := hp_bd hm
  refine hv_putF lk_f_X1_20 (by intro C T N e; cases e; rfl) rfl dX1_init_28 rfl rfl hh1 ?_
  refine hv_aload_n 0 dX1_init_31 rfl rfl ?_
  refine hv_sipush (300 : Int32) dX1_init_32 (by decide) ?_
  have hq := mo_X1_init_37 hm
  refine hv_newI (N := 300) ac_int (by decide) (by decide) dX1_init_35 hq.1 hq.2 ?_
  exact hv_sub [0, 1] rfl (q_X1_init_37 G n v0 v1 sz v0 (hp_na h1 sz 0 300) (sz + 1) (sl + 300) _ hm)
def f_X1_init_21 (n : Nat) (v0 : Nat) (v1 : Nat) (s0 : Nat) (s1 : Nat) (h : hp_H) (sz sl : Nat) : Option (hp_H × Nat × Nat) :=
  (f_X5_init n s0 (200 : Int32) h sz sl).bind fun x1 =>
  f_X1_init_28 n v0 v1 s0 s1 x1.1 x1.2.1 x1.2.2
set_option maxHeartbeats 1000000 in
set_option maxRecDepth 4000 in
theorem mo_X1_init_21 {n : Nat} {v0 : Nat} {v1 : Nat} {s0 : Nat} {s1 : Nat} {h : hp_H} {sz sl : Nat} {res : hp_H × Nat × Nat} (hm : f_X1_init_21 n v0 v1 s0 s1 h sz sl = some res) : sz ≤ res.2.1 ∧ sl ≤ res.2.2 := by
  unfold f_X1_init_21 at hm
  obtain ⟨x1, hx1, hm⟩ := hp_bd hm
  exact hp_tr (mx_X5_init hx1) (mo_X1_init_28 hm)
set_option maxHeartbeats 1000000 in
set_option maxRecDepth 4000 in
theorem q_X1_init_21 (G : hp_G) (n : Nat) (v0 : Nat) (v1 : Nat) (s0 : Nat) (s1 : Nat) (h : hp_H) (sz sl : Nat) (res : hp_H × Nat × Nat) (hm : f_X1_init_21 n v0 v1 s0 s1 h sz sl = some res) : hp_V G m_X1_init 21 [(0, .ref v0), (1, .ref v1)] [.ref s0, .ref s1] h sz sl (none, res.1, res.2.1, res.2.2) := by
  have ho := mo_X1_init_21 hm
  unfold f_X1_init_21 at hm
  refine hv_dup dX1_init_21 rfl ?_
  refine hv_sipush (200 : Int32) dX1_init_22 (by decide) ?_
  obtain ⟨x1, hx1, hm⟩ := hp_bd hm
  have hq := mo_X1_init_28 hm
  refine hv_callI (As := [.int (200 : Int32)]) (rest := [.ref s0, .ref s1]) Z_X5_init rfl I_X5_init lk_m_X1_11 (c_X5_init G n s0 (200 : Int32) h sz sl _ hx1) rfl (Nat.le_of_ble_eq_true rfl) ⟨Nat.le_of_ble_eq_true rfl, Nat.le_of_ble_eq_true rfl⟩ hq.1 hq.2 rfl dX1_init_25 ?_
  refine hv_as2 [.ref s0, .ref s1] x1.1 x1.2.1 x1.2.2 rfl rfl rfl rfl ?_
  exact hv_sub [0, 1] rfl (q_X1_init_28 G n v0 v1 s0 s1 x1.1 x1.2.1 x1.2.2 _ hm)
def f_X1_init_14 (n : Nat) (v0 : Nat) (v1 : Nat) (s0 : Nat) (s1 : Nat) (h : hp_H) (sz sl : Nat) : Option (hp_H × Nat × Nat) :=
  (hp_pF h 1 s1 0 (.ref s0)).bind fun h1 =>
  f_X1_init_21 n v0 v1 sz v0 (hp_nw h1 sz 5 tyX5) (sz + 1) (sl + 4)
set_option maxHeartbeats 1000000 in
set_option maxRecDepth 4000 in
theorem mo_X1_init_14 {n : Nat} {v0 : Nat} {v1 : Nat} {s0 : Nat} {s1 : Nat} {h : hp_H} {sz sl : Nat} {res : hp_H × Nat × Nat} (hm : f_X1_init_14 n v0 v1 s0 s1 h sz sl = some res) : sz ≤ res.2.1 ∧ sl ≤ res.2.2 := by
  unfold f_X1_init_14 at hm
  obtain ⟨h1, hh1, hm⟩ := hp_bd hm
  exact hp_tr ⟨Nat.le_add_right _ _, Nat.le_add_right _ _⟩ (mo_X1_init_21 hm)
set_option maxHeartbeats 1000000 in
set_option maxRecDepth 4000 in
theorem q_X1_init_14 (G : hp_G) (n : Nat) (v0 : Nat) (v1 : Nat) (s0 : Nat) (s1 : Nat) (h : hp_H) (sz sl : Nat) (res : hp_H × Nat × Nat) (hm : f_X1_init_14 n v0 v1 s0 s1 h sz sl = some res) : hp_V G m_X1_init 14 [(0, .ref v0), (1, .ref v1)] [.ref s0, .ref s1] h sz sl (none, res.1, res.2.1, res.2.2) := by
  have ho := mo_X1_init_14 hm
  unfold f_X1_init_14 at hm
  obtain ⟨h1, hh1, hm⟩ := hp_bd hm
  refine hv_putF lk_f_X1_14 (by intro C T N e; cases e; rfl) rfl dX1_init_14 rfl rfl hh1 ?_
  refine hv_aload_n 0 dX1_init_17 rfl rfl ?_
  have hq := mo_X1_init_21 hm
  refine hv_new CL5 lk_k_X1_9 dX1_init_18 hq.1 hq.2 ?_
  exact hv_sub [0, 1] rfl (q_X1_init_21 G n v0 v1 sz v0 (hp_nw h1 sz 5 tyX5) (sz + 1) (sl + 4) _ hm)
def f_X1_init_8 (n : Nat) (v0 : Nat) (v1 : Nat) (s0 : Nat) (s1 : Nat) (h : hp_H) (sz sl : Nat) : Option (hp_H × Nat × Nat) :=
  (f_X5_init n s0 (101 : Int32) h sz sl).bind fun x1 =>
  f_X1_init_14 n v0 v1 s0 s1 x1.1 x1.2.1 x1.2.2
set_option maxHeartbeats 1000000 in
set_option maxRecDepth 4000 in
theorem mo_X1_init_8 {n : Nat} {v0 : Nat} {v1 : Nat} {s0 : Nat} {s1 : Nat} {h : hp_H} {sz sl : Nat} {res : hp_H × Nat × Nat} (hm : f_X1_init_8 n v0 v1 s0 s1 h sz sl = some res) : sz ≤ res.2.1 ∧ sl ≤ res.2.2 := by
  unfold f_X1_init_8 at hm
  obtain ⟨x1, hx1, hm⟩ := hp_bd hm
  exact hp_tr (mx_X5_init hx1) (mo_X1_init_14 hm)
set_option maxHeartbeats 1000000 in
set_option maxRecDepth 4000 in
theorem q_X1_init_8 (G : hp_G) (n : Nat) (v0 : Nat) (v1 : Nat) (s0 : Nat) (s1 : Nat) (h : hp_H) (sz sl : Nat) (res : hp_H × Nat × Nat) (hm : f_X1_init_8 n v0 v1 s0 s1 h sz sl = some res) : hp_V G m_X1_init 8 [(0, .ref v0), (1, .ref v1)] [.ref s0, .ref s1] h sz sl (none, res.1, res.2.1, res.2.2) := by
  have ho := mo_X1_init_8 hm
  unfold f_X1_init_8 at hm
  refine hv_dup dX1_init_8 rfl ?_
  refine hv_bipush (101 : Int32) dX1_init_9 (by decide) ?_
  obtain ⟨x1, hx1, hm⟩ := hp_bd hm
  have hq := mo_X1_init_14 hm
  refine hv_callI (As := [.int (101 : Int32)]) (rest := [.ref s0, .ref s1]) Z_X5_init rfl I_X5_init lk_m_X1_11 (c_X5_init G n s0 (101 : Int32) h sz sl _ hx1) rfl (Nat.le_of_ble_eq_true rfl) ⟨Nat.le_of_ble_eq_true rfl, Nat.le_of_ble_eq_true rfl⟩ hq.1 hq.2 rfl dX1_init_11 ?_
  refine hv_as2 [.ref s0, .ref s1] x1.1 x1.2.1 x1.2.2 rfl rfl rfl rfl ?_
  exact hv_sub [0, 1] rfl (q_X1_init_14 G n v0 v1 s0 s1 x1.1 x1.2.1 x1.2.2 _ hm)
def f_X1_init_0 (n : Nat) (v0 : Nat) (v1 : Nat) (h : hp_H) (sz sl : Nat) : Option (hp_H × Nat × Nat) :=
  f_X1_init_8 n v0 v1 sz v0 (hp_nw h sz 5 tyX5) (sz + 1) (sl + 4)
set_option maxHeartbeats 1000000 in
set_option maxRecDepth 4000 in
theorem mo_X1_init_0 {n : Nat} {v0 : Nat} {v1 : Nat} {h : hp_H} {sz sl : Nat} {res : hp_H × Nat × Nat} (hm : f_X1_init_0 n v0 v1 h sz sl = some res) : sz ≤ res.2.1 ∧ sl ≤ res.2.2 := by
  unfold f_X1_init_0 at hm
  exact hp_tr ⟨Nat.le_add_right _ _, Nat.le_add_right _ _⟩ (mo_X1_init_8 hm)
set_option maxHeartbeats 1000000 in
set_option maxRecDepth 4000 in
theorem q_X1_init_0 (G : hp_G) (n : Nat) (v0 : Nat) (v1 : Nat) (h : hp_H) (sz sl : Nat) (res : hp_H × Nat × Nat) (hm : f_X1_init_0 n v0 v1 h sz sl = some res) : hp_V G m_X1_init 0 [(0, .ref v0), (1, .ref v1)] [] h sz sl (none, res.1, res.2.1, res.2.2) := by
  have ho := mo_X1_init_0 hm
  unfold f_X1_init_0 at hm
  refine hv_aload_n 0 dX1_init_0 rfl rfl ?_
  refine hv_objInit lk_o_X1_3 ⟨Nat.le_of_ble_eq_true rfl, Nat.le_of_ble_eq_true rfl⟩ dX1_init_1 ?_
  refine hv_aload_n 0 dX1_init_4 rfl rfl ?_
  have hq := mo_X1_init_8 hm
  refine hv_new CL5 lk_k_X1_9 dX1_init_5 hq.1 hq.2 ?_
  exact hv_sub [0, 1] rfl (q_X1_init_8 G n v0 v1 sz v0 (hp_nw h sz 5 tyX5) (sz + 1) (sl + 4) _ hm)
def f_X1_init (n : Nat) (v0 : Nat) (v1 : Nat) (h : hp_H) (sz sl : Nat) : Option (hp_H × Nat × Nat) := (hp_ck h 1 v0).bind fun _ => f_X1_init_0 n v0 v1 h sz sl
theorem c_X1_init (G : hp_G) (n : Nat) (v0 : Nat) (v1 : Nat) (h : hp_H) (sz sl : Nat) (res : hp_H × Nat × Nat) (hm : f_X1_init n v0 v1 h sz sl = some res) : hp_C G m_X1_init yX1_init [.ref v0, .ref v1] h sz sl (none, res.1, res.2.1, res.2.2) := by
  unfold f_X1_init at hm
  obtain ⟨_, _, hm⟩ := hp_bd hm
  exact hp_C_of (by decide) rfl rfl (Nat.le_of_ble_eq_true rfl) (mo_X1_init_0 hm).1 (mo_X1_init_0 hm).2 (hv_sub [0, 1] rfl (q_X1_init_0 G n v0 v1 h sz sl res hm))
theorem k_X1_init {n : Nat} {v0 : Nat} {v1 : Nat} {h : hp_H} {sz sl : Nat} {res : hp_H × Nat × Nat} (hm : f_X1_init n v0 v1 h sz sl = some res) : ∃ V, h v0 = some (.inr (.inr (1, V))) := by
  unfold f_X1_init at hm
  obtain ⟨_, hu, _⟩ := hp_bd hm
  exact hp_ck_spec hu
theorem mx_X1_init {n : Nat} {v0 : Nat} {v1 : Nat} {h : hp_H} {sz sl : Nat} {res : hp_H × Nat × Nat} (hm : f_X1_init n v0 v1 h sz sl = some res) : sz ≤ res.2.1 ∧ sl ≤ res.2.2 := by
  unfold f_X1_init at hm
  obtain ⟨_, _, hm⟩ := hp_bd hm
  exact mo_X1_init_0 hm
abbrev m_X1_addPartner : hp_M := (RX1, cX1_addPartner, 3, none, 0, 0, "addPartner")
theorem Z_X1_addPartner : hp_Y yX1_addPartner m_X1_addPartner 2 := Y_X1_addPartner
def f_X1_addPartner_0 (n : Nat) (v0 : Nat) (v1 : Int32) (v2 : Int32) (h : hp_H) : Option (hp_H) :=
  (hp_fR h 1 v0 4).bind fun x1 =>
  (hp_aJ h x1 ((v1 * (5 : Int32)) + (v2 / (64 : Int32)))).bind fun x2 =>
  (hp_sJ h x1 ((v1 * (5 : Int32)) + (v2 / (64 : Int32))) (x2 ||| ((1 : Int64) <<< (Int32.toInt64 (v2 - v2 / (64 : Int32) * (64 : Int32)) &&& 63)))).bind fun h3 =>
  some h3
set_option maxHeartbeats 1000000 in
set_option maxRecDepth 4000 in
theorem q_X1_addPartner_0 (G : hp_G) (n : Nat) (v0 : Nat) (v1 : Int32) (v2 : Int32) (h : hp_H) (sz sl : Nat) (res : hp_H) (hm : f_X1_addPartner_0 n v0 v1 v2 h = some res) : hp_V G m_X1_addPartner 0 [(0, .ref v0), (1, .int v1), (2, .int v2)] [] h sz sl (none, res, sz, sl) := by
  have ho : sz ≤ sz ∧ sl ≤ sl := ⟨Nat.le_refl _, Nat.le_refl _⟩
  unfold f_X1_addPartner_0 at hm
  refine hv_aload_n 0 dX1_addPartner_0 rfl rfl ?_
  obtain ⟨x1, hx1, hm⟩ := hp_bd hm
  refine hv_get lk_f_X1_27 dX1_addPartner_1 (hp_fR_spec hx1) ?_
  refine hv_iload_n 1 dX1_addPartner_4 rfl rfl ?_
  refine hv_iconst (5 : Int32) dX1_addPartner_5 (by decide) ?_
  refine hv_imul dX1_addPartner_6 ?_
  refine hv_iload_n 2 dX1_addPartner_7 rfl rfl ?_
  refine hv_bipush (64 : Int32) dX1_addPartner_8 (by decide) ?_
  refine hv_idiv dX1_addPartner_10 (by decide) ?_
  refine hv_iadd dX1_addPartner_11 ?_
  refine hv_dup2_11 dX1_addPartner_12 rfl rfl ?_
  obtain ⟨x2, hx2, hm⟩ := hp_bd hm
  refine hv_lald dX1_addPartner_13 hx2 ?_
  refine hv_lconst (1 : Int64) dX1_addPartner_14 (by decide) ?_
  refine hv_iload_n 2 dX1_addPartner_15 rfl rfl ?_
  refine hv_bipush (64 : Int32) dX1_addPartner_16 (by decide) ?_
  refine hv_irem dX1_addPartner_18 (by decide) ?_
  refine hv_lshl dX1_addPartner_19 ?_
  refine hv_lor dX1_addPartner_20 ?_
  obtain ⟨h3, hh3, hm⟩ := hp_bd hm
  refine hv_last dX1_addPartner_21 hh3 ?_
  obtain rfl := Option.some.inj hm
  exact hv_vret rfl dX1_addPartner_22
def f_X1_addPartner (n : Nat) (v0 : Nat) (v1 : Int32) (v2 : Int32) (h : hp_H) : Option (hp_H) := (hp_ck h 1 v0).bind fun _ => f_X1_addPartner_0 n v0 v1 v2 h
theorem c_X1_addPartner (G : hp_G) (n : Nat) (v0 : Nat) (v1 : Int32) (v2 : Int32) (h : hp_H) (sz sl : Nat) (res : hp_H) (hm : f_X1_addPartner n v0 v1 v2 h = some res) : hp_C G m_X1_addPartner yX1_addPartner [.ref v0, .int v1, .int v2] h sz sl (none, res, sz, sl) := by
  unfold f_X1_addPartner at hm
  obtain ⟨_, _, hm⟩ := hp_bd hm
  exact hp_C_of (by decide) rfl rfl (Nat.le_of_ble_eq_true rfl) (Nat.le_refl _) (Nat.le_refl _) (hv_sub [0, 1, 2] rfl (q_X1_addPartner_0 G n v0 v1 v2 h sz sl res hm))
theorem k_X1_addPartner {n : Nat} {v0 : Nat} {v1 : Int32} {v2 : Int32} {h : hp_H} {res : hp_H} (hm : f_X1_addPartner n v0 v1 v2 h = some res) : ∃ V, h v0 = some (.inr (.inr (1, V))) := by
  unfold f_X1_addPartner at hm
  obtain ⟨_, hu, _⟩ := hp_bd hm
  exact hp_ck_spec hu
abbrev m_X1_notePartners : hp_M := (RX1, cX1_notePartners, 5, none, 1, 24, "notePartners")
theorem Z_X1_notePartners : hp_Y yX1_notePartners m_X1_notePartners 1 := Y_X1_notePartners
def f_X1_notePartners_22 (n : Nat) (v0 : Nat) (v1 : Int32) (v2 : Int32) (v3 : Int32) (h : hp_H) : Option ((Int32 × hp_H) ⊕ (hp_H)) :=
  if v2 ≤ v3 then
    some (.inr h)
  else
    (hp_fR h 1 v0 2).bind fun x1 =>
    (hp_fR h 0 x1 14).bind fun x2 =>
    (f_X5_get n x2 v1 v3 h).bind fun x3 =>
    (f_X1_addPartner n v0 (x3 / (300 : Int32)) (x3 - x3 / (300 : Int32) * (300 : Int32)) h).bind fun x4 =>
    (f_X1_addPartner n v0 (x3 - x3 / (300 : Int32) * (300 : Int32)) (x3 / (300 : Int32)) x4).bind fun x5 =>
    some (.inl ((v3 + (1 : Int32)), x5))
set_option maxHeartbeats 1000000 in
set_option maxRecDepth 4000 in
theorem q_X1_notePartners_22 (G : hp_G) (n : Nat) (v0 : Nat) (v1 : Int32) (v2 : Int32) (v3 : Int32) (h : hp_H) (sz sl : Nat) (o : hp_O) (ho : sz ≤ o.2.2.1 ∧ sl ≤ o.2.2.2) (res : (Int32 × hp_H) ⊕ (hp_H)) (hm : f_X1_notePartners_22 n v0 v1 v2 v3 h = some res) (kI : ∀ y : Int32 × hp_H, res = .inl y → hp_V G m_X1_notePartners 22 [(0, .ref v0), (1, .int v1), (2, .int v2), (3, .int y.1)] [] y.2 sz sl o) (kR : ∀ y : hp_H, res = .inr y → o = (none, y, sz, sl)) : hp_V G m_X1_notePartners 22 [(0, .ref v0), (1, .int v1), (2, .int v2), (3, .int v3)] [] h sz sl o := by
  unfold f_X1_notePartners_22 at hm
  refine hv_iload_n 3 dX1_notePartners_22 rfl rfl ?_
  refine hv_iload_n 2 dX1_notePartners_23 rfl rfl ?_
  refine hv_icmp_ge (tgt := 79) dX1_notePartners_24 (by decide) (fun c6 => ?_) (fun c6 => ?_)
  · rw [if_pos c6] at hm
    obtain rfl := kR _ (Option.some.inj hm).symm
    exact hv_vret rfl dX1_notePartners_79
  · rw [if_neg c6] at hm
    refine hv_aload_n 0 dX1_notePartners_27 rfl rfl ?_
    obtain ⟨x1, hx1, hm⟩ := hp_bd hm
    refine hv_get lk_f_X1_34 dX1_notePartners_28 (hp_fR_spec hx1) ?_
    obtain ⟨x2, hx2, hm⟩ := hp_bd hm
    refine hv_get lk_f_X1_104 dX1_notePartners_31 (hp_fR_spec hx2) ?_
    refine hv_iload_n 1 dX1_notePartners_34 rfl rfl ?_
    refine hv_iload_n 3 dX1_notePartners_35 rfl rfl ?_
    obtain ⟨x3, hx3, hm⟩ := hp_bd hm
    obtain ⟨Vx3, hVx3⟩ := k_X5_get hx3
    refine hv_callV (As := [.int v1, .int v3]) (rest := []) Z_X5_get I_X5_get lk_m_X1_110 rfl hVx3 (c_X5_get G n x2 v1 v3 h sz sl _ hx3) rfl (Nat.le_of_ble_eq_true rfl) ⟨Nat.le_of_ble_eq_true rfl, Nat.le_of_ble_eq_true rfl⟩ ho.1 ho.2 rfl dX1_notePartners_36 ?_
    refine hv_as [.int x3] h rfl rfl ?_
    refine hv_istore [(4, .int x3), (0, .ref v0), (1, .int v1), (2, .int v2), (3, .int v3)] dX1_notePartners_39 (by decide) rfl ?_
    refine hv_aload_n 1 dX1_notePartners_41 rfl rfl ?_
    refine hv_iload 0 dX1_notePartners_42 rfl ?_
    refine hv_sipush (300 : Int32) dX1_notePartners_44 (by decide) ?_
    refine hv_idiv dX1_notePartners_47 (by decide) ?_
    refine hv_iload 0 dX1_notePartners_48 rfl ?_
    refine hv_sipush (300 : Int32) dX1_notePartners_50 (by decide) ?_
    refine hv_irem dX1_notePartners_53 (by decide) ?_
    obtain ⟨x4, hx4, hm⟩ := hp_bd hm
    obtain ⟨Vx4, hVx4⟩ := k_X1_addPartner hx4
    refine hv_callV (As := [.int (x3 / (300 : Int32)), .int (x3 - x3 / (300 : Int32) * (300 : Int32))]) (rest := []) Z_X1_addPartner I_X1_addPartner lk_m_X1_113 rfl hVx4 (c_X1_addPartner G n v0 (x3 / (300 : Int32)) (x3 - x3 / (300 : Int32) * (300 : Int32)) h sz sl _ hx4) rfl (Nat.le_of_ble_eq_true rfl) ⟨Nat.le_of_ble_eq_true rfl, Nat.le_of_ble_eq_true rfl⟩ ho.1 ho.2 rfl dX1_notePartners_54 ?_
    refine hv_as [] x4 rfl rfl ?_
    refine hv_aload_n 1 dX1_notePartners_57 rfl rfl ?_
    refine hv_iload 0 dX1_notePartners_58 rfl ?_
    refine hv_sipush (300 : Int32) dX1_notePartners_60 (by decide) ?_
    refine hv_irem dX1_notePartners_63 (by decide) ?_
    refine hv_iload 0 dX1_notePartners_64 rfl ?_
    refine hv_sipush (300 : Int32) dX1_notePartners_66 (by decide) ?_
    refine hv_idiv dX1_notePartners_69 (by decide) ?_
    obtain ⟨x5, hx5, hm⟩ := hp_bd hm
    obtain ⟨Vx5, hVx5⟩ := k_X1_addPartner hx5
    refine hv_callV (As := [.int (x3 - x3 / (300 : Int32) * (300 : Int32)), .int (x3 / (300 : Int32))]) (rest := []) Z_X1_addPartner I_X1_addPartner lk_m_X1_113 rfl hVx5 (c_X1_addPartner G n v0 (x3 - x3 / (300 : Int32) * (300 : Int32)) (x3 / (300 : Int32)) x4 sz sl _ hx5) rfl (Nat.le_of_ble_eq_true rfl) ⟨Nat.le_of_ble_eq_true rfl, Nat.le_of_ble_eq_true rfl⟩ ho.1 ho.2 rfl dX1_notePartners_70 ?_
    refine hv_as [] x5 rfl rfl ?_
    refine hv_iinc (v3 + (1 : Int32)) 4 [(3, .int (v3 + (1 : Int32))), (4, .int x3), (0, .ref v0), (1, .int v1), (2, .int v2)] dX1_notePartners_73 rfl rfl (by decide) rfl ?_
    refine hv_goto (tgt := 22) dX1_notePartners_76 (by decide) ?_
    exact hv_sub [2, 3, 4, 0] rfl (kI ((v3 + (1 : Int32)), x5) (Option.some.inj hm).symm)
def fL_X1_notePartners_22 (n : Nat) (v0 : Nat) (v1 : Int32) (v2 : Int32) (s : Int32 × hp_H) : Option ((Int32 × hp_H) ⊕ (hp_H)) := f_X1_notePartners_22 n v0 v1 v2 s.1 s.2
theorem l_X1_notePartners_22 (G : hp_G) (n : Nat) (v0 : Nat) (v1 : Int32) (v2 : Int32) (sz sl : Nat) (o : hp_O) (ho : sz ≤ o.2.2.1 ∧ sl ≤ o.2.2.2) : ∀ (k : Nat) (s : Int32 × hp_H) (x : hp_H), hp_lp (fL_X1_notePartners_22 n v0 v1 v2) k s = some x → (∀ y : hp_H, x = y → o = (none, y, sz, sl)) → hp_V G m_X1_notePartners 22 [(0, .ref v0), (1, .int v1), (2, .int v2), (3, .int s.1)] [] s.2 sz sl o := by
  intro k
  induction k with
  | zero => intro s x hx; exact (hp_lp_0 hx).elim
  | succ k ih =>
    intro s x hx k0
    obtain ⟨r, hr, hc⟩ := hp_lp_1 hx
    refine q_X1_notePartners_22 G n v0 v1 v2 s.1 s.2 sz sl o ho r hr (fun s2 e => ?_) (fun y e => ?_)
    · rcases hc with ⟨s3, e3, hx3⟩ | e3
      · have e4 := Sum.inl.inj (e.symm.trans e3)
        subst e4
        exact ih _ _ hx3 k0
      · cases (e.symm.trans e3)
    · rcases hc with ⟨s3, e3, hx3⟩ | e3
      · cases (e.symm.trans e3)
      · exact k0 y (Sum.inr.inj (e3.symm.trans e))
def f_X1_notePartners_0 (n : Nat) (v0 : Nat) (v1 : Int32) (h : hp_H) : Option (hp_H) :=
  (hp_fR h 1 v0 4).bind fun x1 =>
  (f_J7_fill_d0a16 n x1 (0 : Int64) h).bind fun x2 =>
  (hp_fR x2 1 v0 2).bind fun x3 =>
  (hp_fR x2 0 x3 14).bind fun x4 =>
  (f_X5_size n x4 v1 x2).bind fun x5 =>
  (hp_lp (fL_X1_notePartners_22 n v0 v1 x5) n ((0 : Int32), x2)).bind fun x6 =>
  some x6
set_option maxHeartbeats 1000000 in
set_option maxRecDepth 4000 in
theorem q_X1_notePartners_0 (G : hp_G) (n : Nat) (v0 : Nat) (v1 : Int32) (h : hp_H) (sz sl : Nat) (res : hp_H) (hm : f_X1_notePartners_0 n v0 v1 h = some res) : hp_V G m_X1_notePartners 0 [(0, .ref v0), (1, .int v1)] [] h sz sl (none, res, sz, sl) := by
  have ho : sz ≤ sz ∧ sl ≤ sl := ⟨Nat.le_refl _, Nat.le_refl _⟩
  unfold f_X1_notePartners_0 at hm
  refine hv_aload_n 0 dX1_notePartners_0 rfl rfl ?_
  obtain ⟨x1, hx1, hm⟩ := hp_bd hm
  refine hv_get lk_f_X1_27 dX1_notePartners_1 (hp_fR_spec hx1) ?_
  refine hv_lconst (0 : Int64) dX1_notePartners_4 (by decide) ?_
  obtain ⟨x2, hx2, hm⟩ := hp_bd hm
  refine hv_callS (As := [.ref x1, .long (0 : Int64)]) (rest := []) Z_J7_fill_d0a16 I_J7_fill_d0a16 lk_m_X1_98 (c_J7_fill_d0a16 G n x1 (0 : Int64) h sz sl _ hx2) rfl (Nat.le_of_ble_eq_true rfl) ⟨Nat.le_of_ble_eq_true rfl, Nat.le_of_ble_eq_true rfl⟩ ho.1 ho.2 rfl dX1_notePartners_5 ?_
  refine hv_as [] x2 rfl rfl ?_
  refine hv_aload_n 0 dX1_notePartners_8 rfl rfl ?_
  obtain ⟨x3, hx3, hm⟩ := hp_bd hm
  refine hv_get lk_f_X1_34 dX1_notePartners_9 (hp_fR_spec hx3) ?_
  obtain ⟨x4, hx4, hm⟩ := hp_bd hm
  refine hv_get lk_f_X1_104 dX1_notePartners_12 (hp_fR_spec hx4) ?_
  refine hv_iload_n 1 dX1_notePartners_15 rfl rfl ?_
  obtain ⟨x5, hx5, hm⟩ := hp_bd hm
  obtain ⟨Vx5, hVx5⟩ := k_X5_size hx5
  refine hv_callV (As := [.int v1]) (rest := []) Z_X5_size I_X5_size lk_m_X1_107 rfl hVx5 (c_X5_size G n x4 v1 x2 sz sl _ hx5) rfl (Nat.le_of_ble_eq_true rfl) ⟨Nat.le_of_ble_eq_true rfl, Nat.le_of_ble_eq_true rfl⟩ ho.1 ho.2 rfl dX1_notePartners_16 ?_
  refine hv_as [.int x5] x2 rfl rfl ?_
  refine hv_istore_n [(2, .int x5), (0, .ref v0), (1, .int v1)] dX1_notePartners_19 rfl (by decide) rfl ?_
  refine hv_iconst (0 : Int32) dX1_notePartners_20 (by decide) ?_
  refine hv_istore_n [(3, .int (0 : Int32)), (2, .int x5), (0, .ref v0), (1, .int v1)] dX1_notePartners_21 rfl (by decide) rfl ?_
  obtain ⟨x6, hx6, hm⟩ := hp_bd hm
  refine hv_sub [2, 3, 1, 0] rfl (l_X1_notePartners_22 G n v0 v1 x5 sz sl _ ho n _ _ hx6 (fun y7 ey7 => ?_))
  · skip
    subst ey7
    obtain rfl := Option.some.inj hm
    rfl
def f_X1_notePartners (n : Nat) (v0 : Nat) (v1 : Int32) (h : hp_H) : Option (hp_H) := (hp_ck h 1 v0).bind fun _ => f_X1_notePartners_0 n v0 v1 h
theorem c_X1_notePartners (G : hp_G) (n : Nat) (v0 : Nat) (v1 : Int32) (h : hp_H) (sz sl : Nat) (res : hp_H) (hm : f_X1_notePartners n v0 v1 h = some res) : hp_C G m_X1_notePartners yX1_notePartners [.ref v0, .int v1] h sz sl (none, res, sz, sl) := by
  unfold f_X1_notePartners at hm
  obtain ⟨_, _, hm⟩ := hp_bd hm
  exact hp_C_of (by decide) rfl rfl (Nat.le_of_ble_eq_true rfl) (Nat.le_refl _) (Nat.le_refl _) (hv_sub [0, 1] rfl (q_X1_notePartners_0 G n v0 v1 h sz sl res hm))
theorem k_X1_notePartners {n : Nat} {v0 : Nat} {v1 : Int32} {h : hp_H} {res : hp_H} (hm : f_X1_notePartners n v0 v1 h = some res) : ∃ V, h v0 = some (.inr (.inr (1, V))) := by
  unfold f_X1_notePartners at hm
  obtain ⟨_, hu, _⟩ := hp_bd hm
  exact hp_ck_spec hu
abbrev m_X1_isInstance : hp_M := (RX1, cX1_isInstance, 9, some .boolean, 1, 22, "isInstance")
theorem Z_X1_isInstance : hp_Y yX1_isInstance m_X1_isInstance 2 := Y_X1_isInstance
def f_X1_isInstance_93 (n : Nat) (v0 : Nat) (v1 : Int32) (v2 : Int32) (v3 : Int32) (v4 : Int32) (v5 : Int32) (v6 : Int32) (v7 : Int32) (v8 : Int32) (h : hp_H) : Option ((Int32 × Int32) ⊕ ((Int32) ⊕ (Int32))) :=
  if v7 ≤ v8 then
    some (.inr (.inl v3))
  else
    (hp_fR h 1 v0 0).bind fun x1 =>
    (f_X5_get n x1 v2 v3 h).bind fun x2 =>
    (hp_fR h 1 v0 0).bind fun x3 =>
    (hp_fR h 1 v0 3).bind fun x4 =>
    (hp_aI h 0 x4 v6).bind fun x5 =>
    (f_X5_get n x3 x5 v8 h).bind fun x6 =>
    if x2 = x6 then
      some (.inl ((v3 + (1 : Int32)), (v8 + (1 : Int32))))
    else
      some (.inr (.inr (0 : Int32)))
set_option maxHeartbeats 1000000 in
set_option maxRecDepth 4000 in
theorem q_X1_isInstance_93 (G : hp_G) (n : Nat) (v0 : Nat) (v1 : Int32) (v2 : Int32) (v3 : Int32) (v4 : Int32) (v5 : Int32) (v6 : Int32) (v7 : Int32) (v8 : Int32) (h : hp_H) (sz sl : Nat) (o : hp_O) (ho : sz ≤ o.2.2.1 ∧ sl ≤ o.2.2.2) (res : (Int32 × Int32) ⊕ ((Int32) ⊕ (Int32))) (hm : f_X1_isInstance_93 n v0 v1 v2 v3 v4 v5 v6 v7 v8 h = some res) (kI : ∀ y : Int32 × Int32, res = .inl y → hp_V G m_X1_isInstance 93 [(0, .ref v0), (1, .int v1), (2, .int v2), (3, .int y.1), (4, .int v4), (5, .int v5), (6, .int v6), (7, .int v7), (8, .int y.2)] [] h sz sl o) (kX0 : ∀ y : Int32, res = .inr (.inl y) → hp_V G m_X1_isInstance 139 [(0, .ref v0), (1, .int v1), (2, .int v2), (3, .int y), (4, .int v4), (5, .int v5)] [] h sz sl o) (kR : ∀ y : Int32, res = .inr (.inr y) → o = (some (.int y), h, sz, sl)) : hp_V G m_X1_isInstance 93 [(0, .ref v0), (1, .int v1), (2, .int v2), (3, .int v3), (4, .int v4), (5, .int v5), (6, .int v6), (7, .int v7), (8, .int v8)] [] h sz sl o := by
  unfold f_X1_isInstance_93 at hm
  refine hv_iload 8 dX1_isInstance_93 rfl ?_
  refine hv_iload 7 dX1_isInstance_95 rfl ?_
  refine hv_icmp_ge (tgt := 139) dX1_isInstance_97 (by decide) (fun c8 => ?_) (fun c8 => ?_)
  · rw [if_pos c8] at hm
    exact hv_sub [0, 1, 2, 3, 4, 5] rfl (kX0 v3 (Option.some.inj hm).symm)
  · rw [if_neg c8] at hm
    refine hv_aload_n 0 dX1_isInstance_100 rfl rfl ?_
    obtain ⟨x1, hx1, hm⟩ := hp_bd hm
    refine hv_get lk_f_X1_14 dX1_isInstance_101 (hp_fR_spec hx1) ?_
    refine hv_iload_n 2 dX1_isInstance_104 rfl rfl ?_
    refine hv_iload_n 3 dX1_isInstance_105 rfl rfl ?_
    obtain ⟨x2, hx2, hm⟩ := hp_bd hm
    obtain ⟨Vx2, hVx2⟩ := k_X5_get hx2
    refine hv_callV (As := [.int v2, .int v3]) (rest := []) Z_X5_get I_X5_get lk_m_X1_110 rfl hVx2 (c_X5_get G n x1 v2 v3 h sz sl _ hx2) rfl (Nat.le_of_ble_eq_true rfl) ⟨Nat.le_of_ble_eq_true rfl, Nat.le_of_ble_eq_true rfl⟩ ho.1 ho.2 rfl dX1_isInstance_106 ?_
    refine hv_as [.int x2] h rfl rfl ?_
    refine hv_aload_n 0 dX1_isInstance_109 rfl rfl ?_
    obtain ⟨x3, hx3, hm⟩ := hp_bd hm
    refine hv_get lk_f_X1_14 dX1_isInstance_110 (hp_fR_spec hx3) ?_
    refine hv_aload_n 0 dX1_isInstance_113 rfl rfl ?_
    obtain ⟨x4, hx4, hm⟩ := hp_bd hm
    refine hv_get lk_f_X1_23 dX1_isInstance_114 (hp_fR_spec hx4) ?_
    refine hv_iload 6 dX1_isInstance_117 rfl ?_
    obtain ⟨x5, hx5, hm⟩ := hp_bd hm
    refine hv_iald dX1_isInstance_119 hx5 ?_
    refine hv_iload 8 dX1_isInstance_120 rfl ?_
    obtain ⟨x6, hx6, hm⟩ := hp_bd hm
    obtain ⟨Vx6, hVx6⟩ := k_X5_get hx6
    refine hv_callV (As := [.int x5, .int v8]) (rest := [.int x2]) Z_X5_get I_X5_get lk_m_X1_110 rfl hVx6 (c_X5_get G n x3 x5 v8 h sz sl _ hx6) rfl (Nat.le_of_ble_eq_true rfl) ⟨Nat.le_of_ble_eq_true rfl, Nat.le_of_ble_eq_true rfl⟩ ho.1 ho.2 rfl dX1_isInstance_122 ?_
    refine hv_as [.int x6, .int x2] h rfl rfl ?_
    refine hv_icmp_eq (tgt := 130) dX1_isInstance_125 (by decide) (fun c7 => ?_) (fun c7 => ?_)
    · rw [if_pos c7] at hm
      refine hv_iinc (v3 + (1 : Int32)) 3 [(3, .int (v3 + (1 : Int32))), (0, .ref v0), (1, .int v1), (2, .int v2), (4, .int v4), (5, .int v5), (6, .int v6), (7, .int v7), (8, .int v8)] dX1_isInstance_130 rfl rfl (by decide) rfl ?_
      refine hv_iinc (v8 + (1 : Int32)) 8 [(8, .int (v8 + (1 : Int32))), (3, .int (v3 + (1 : Int32))), (0, .ref v0), (1, .int v1), (2, .int v2), (4, .int v4), (5, .int v5), (6, .int v6), (7, .int v7)] dX1_isInstance_133 rfl rfl (by decide) rfl ?_
      refine hv_goto (tgt := 93) dX1_isInstance_136 (by decide) ?_
      exact hv_sub [2, 3, 4, 1, 5, 6, 7, 8, 0] rfl (kI ((v3 + (1 : Int32)), (v8 + (1 : Int32))) (Option.some.inj hm).symm)
    · rw [if_neg c7] at hm
      refine hv_iconst (0 : Int32) dX1_isInstance_128 (by decide) ?_
      obtain rfl := kR _ (Option.some.inj hm).symm
      exact hv_zret rfl (by decide) dX1_isInstance_129
def fL_X1_isInstance_93 (n : Nat) (v0 : Nat) (v1 : Int32) (v2 : Int32) (v4 : Int32) (v5 : Int32) (v6 : Int32) (v7 : Int32) (h : hp_H) (s : Int32 × Int32) : Option ((Int32 × Int32) ⊕ ((Int32) ⊕ (Int32))) := f_X1_isInstance_93 n v0 v1 v2 s.1 v4 v5 v6 v7 s.2 h
theorem l_X1_isInstance_93 (G : hp_G) (n : Nat) (v0 : Nat) (v1 : Int32) (v2 : Int32) (v4 : Int32) (v5 : Int32) (v6 : Int32) (v7 : Int32) (h : hp_H) (sz sl : Nat) (o : hp_O) (ho : sz ≤ o.2.2.1 ∧ sl ≤ o.2.2.2) : ∀ (k : Nat) (s : Int32 × Int32) (x : (Int32) ⊕ (Int32)), hp_lp (fL_X1_isInstance_93 n v0 v1 v2 v4 v5 v6 v7 h) k s = some x → (∀ y : Int32, x = (.inl y) → hp_V G m_X1_isInstance 139 [(0, .ref v0), (1, .int v1), (2, .int v2), (3, .int y), (4, .int v4), (5, .int v5)] [] h sz sl o) → (∀ y : Int32, x = (.inr y) → o = (some (.int y), h, sz, sl)) → hp_V G m_X1_isInstance 93 [(0, .ref v0), (1, .int v1), (2, .int v2), (3, .int s.1), (4, .int v4), (5, .int v5), (6, .int v6), (7, .int v7), (8, .int s.2)] [] h sz sl o := by
  intro k
  induction k with
  | zero => intro s x hx; exact (hp_lp_0 hx).elim
  | succ k ih =>
    intro s x hx k0 k1
    obtain ⟨r, hr, hc⟩ := hp_lp_1 hx
    refine q_X1_isInstance_93 G n v0 v1 v2 s.1 v4 v5 v6 v7 s.2 h sz sl o ho r hr (fun s2 e => ?_) (fun y e => ?_) (fun y e => ?_)
    · rcases hc with ⟨s3, e3, hx3⟩ | e3
      · have e4 := Sum.inl.inj (e.symm.trans e3)
        subst e4
        exact ih _ _ hx3 k0 k1
      · cases (e.symm.trans e3)
    · rcases hc with ⟨s3, e3, hx3⟩ | e3
      · cases (e.symm.trans e3)
      · exact k0 y (Sum.inr.inj (e3.symm.trans e))
    · rcases hc with ⟨s3, e3, hx3⟩ | e3
      · cases (e.symm.trans e3)
      · exact k1 y (Sum.inr.inj (e3.symm.trans e))
def f_X1_isInstance_139 (n : Nat) (v0 : Nat) (v1 : Int32) (v2 : Int32) (v3 : Int32) (v4 : Int32) (v5 : Int32) (h : hp_H) : Option ((Int32 × Int32) ⊕ ((Int32) ⊕ (Int32))) :=
  some (.inl (v3, (v5 + (1 : Int32))))
set_option maxHeartbeats 1000000 in
set_option maxRecDepth 4000 in
theorem q_X1_isInstance_139 (G : hp_G) (n : Nat) (v0 : Nat) (v1 : Int32) (v2 : Int32) (v3 : Int32) (v4 : Int32) (v5 : Int32) (h : hp_H) (sz sl : Nat) (o : hp_O) (ho : sz ≤ o.2.2.1 ∧ sl ≤ o.2.2.2) (res : (Int32 × Int32) ⊕ ((Int32) ⊕ (Int32))) (hm : f_X1_isInstance_139 n v0 v1 v2 v3 v4 v5 h = some res) (kI : ∀ y : Int32 × Int32, res = .inl y → hp_V G m_X1_isInstance 18 [(0, .ref v0), (1, .int v1), (2, .int v2), (3, .int y.1), (4, .int v4), (5, .int y.2)] [] h sz sl o) (kX0 : ∀ y : Int32, res = .inr (.inl y) → hp_V G m_X1_isInstance 145 [(0, .ref v0), (2, .int v2), (3, .int y)] [] h sz sl o) (kR : ∀ y : Int32, res = .inr (.inr y) → o = (some (.int y), h, sz, sl)) : hp_V G m_X1_isInstance 139 [(0, .ref v0), (1, .int v1), (2, .int v2), (3, .int v3), (4, .int v4), (5, .int v5)] [] h sz sl o := by
  unfold f_X1_isInstance_139 at hm
  refine hv_iinc (v5 + (1 : Int32)) 5 [(5, .int (v5 + (1 : Int32))), (0, .ref v0), (1, .int v1), (2, .int v2), (3, .int v3), (4, .int v4)] dX1_isInstance_139 rfl rfl (by decide) rfl ?_
  refine hv_goto (tgt := 18) dX1_isInstance_142 (by decide) ?_
  exact hv_sub [1, 2, 3, 4, 5, 0] rfl (kI (v3, (v5 + (1 : Int32))) (Option.some.inj hm).symm)
def f_X1_isInstance_18 (n : Nat) (v0 : Nat) (v1 : Int32) (v2 : Int32) (v3 : Int32) (v4 : Int32) (v5 : Int32) (h : hp_H) : Option ((Int32 × Int32) ⊕ ((Int32) ⊕ (Int32))) :=
  if v4 ≤ v5 then
    some (.inr (.inl v3))
  else
    (hp_fR h 1 v0 2).bind fun x1 =>
    (hp_fR h 0 x1 9).bind fun x2 =>
    (f_X5_get n x2 v1 v5 h).bind fun x3 =>
    (hp_fR h 1 v0 2).bind fun x4 =>
    (f_X0_isVariable n x4 x3 h).bind fun x5 =>
    if x5 = 0 then
      (hp_fR h 1 v0 0).bind fun x13 =>
      (f_X5_get n x13 v2 v3 h).bind fun x14 =>
      if x14 = x3 then
        f_X1_isInstance_139 n v0 v1 v2 (v3 + (1 : Int32)) v4 v5 h
      else
        some (.inr (.inr (0 : Int32)))
    else
      (hp_fR h 1 v0 0).bind fun x6 =>
      (hp_fR h 1 v0 3).bind fun x7 =>
      (hp_aI h 0 x7 x3).bind fun x8 =>
      (f_X5_size n x6 x8 h).bind fun x9 =>
      (hp_lp (fL_X1_isInstance_93 n v0 v1 v2 v4 v5 x3 x9 h) n (v3, (1 : Int32))).bind fun x10 =>
      Sum.elim (fun y11 =>
        f_X1_isInstance_139 n v0 v1 v2 y11 v4 v5 h) (fun y12 =>
        some (.inr (.inr y12))) x10
set_option maxHeartbeats 1000000 in
set_option maxRecDepth 4000 in
theorem q_X1_isInstance_18 (G : hp_G) (n : Nat) (v0 : Nat) (v1 : Int32) (v2 : Int32) (v3 : Int32) (v4 : Int32) (v5 : Int32) (h : hp_H) (sz sl : Nat) (o : hp_O) (ho : sz ≤ o.2.2.1 ∧ sl ≤ o.2.2.2) (res : (Int32 × Int32) ⊕ ((Int32) ⊕ (Int32))) (hm : f_X1_isInstance_18 n v0 v1 v2 v3 v4 v5 h = some res) (kI : ∀ y : Int32 × Int32, res = .inl y → hp_V G m_X1_isInstance 18 [(0, .ref v0), (1, .int v1), (2, .int v2), (3, .int y.1), (4, .int v4), (5, .int y.2)] [] h sz sl o) (kX0 : ∀ y : Int32, res = .inr (.inl y) → hp_V G m_X1_isInstance 145 [(0, .ref v0), (2, .int v2), (3, .int y)] [] h sz sl o) (kR : ∀ y : Int32, res = .inr (.inr y) → o = (some (.int y), h, sz, sl)) : hp_V G m_X1_isInstance 18 [(0, .ref v0), (1, .int v1), (2, .int v2), (3, .int v3), (4, .int v4), (5, .int v5)] [] h sz sl o := by
  unfold f_X1_isInstance_18 at hm
  refine hv_iload 5 dX1_isInstance_18 rfl ?_
  refine hv_iload 4 dX1_isInstance_20 rfl ?_
  refine hv_icmp_ge (tgt := 145) dX1_isInstance_22 (by decide) (fun c17 => ?_) (fun c17 => ?_)
  · rw [if_pos c17] at hm
    exact hv_sub [0, 2, 3] rfl (kX0 v3 (Option.some.inj hm).symm)
  · rw [if_neg c17] at hm
    refine hv_aload_n 0 dX1_isInstance_25 rfl rfl ?_
    obtain ⟨x1, hx1, hm⟩ := hp_bd hm
    refine hv_get lk_f_X1_34 dX1_isInstance_26 (hp_fR_spec hx1) ?_
    obtain ⟨x2, hx2, hm⟩ := hp_bd hm
    refine hv_get lk_f_X1_91 dX1_isInstance_29 (hp_fR_spec hx2) ?_
    refine hv_iload_n 1 dX1_isInstance_32 rfl rfl ?_
    refine hv_iload 5 dX1_isInstance_33 rfl ?_
    obtain ⟨x3, hx3, hm⟩ := hp_bd hm
    obtain ⟨Vx3, hVx3⟩ := k_X5_get hx3
    refine hv_callV (As := [.int v1, .int v5]) (rest := []) Z_X5_get I_X5_get lk_m_X1_110 rfl hVx3 (c_X5_get G n x2 v1 v5 h sz sl _ hx3) rfl (Nat.le_of_ble_eq_true rfl) ⟨Nat.le_of_ble_eq_true rfl, Nat.le_of_ble_eq_true rfl⟩ ho.1 ho.2 rfl dX1_isInstance_35 ?_
    refine hv_as [.int x3] h rfl rfl ?_
    refine hv_istore [(6, .int x3), (0, .ref v0), (1, .int v1), (2, .int v2), (3, .int v3), (4, .int v4), (5, .int v5)] dX1_isInstance_38 (by decide) rfl ?_
    refine hv_aload_n 1 dX1_isInstance_40 rfl rfl ?_
    obtain ⟨x4, hx4, hm⟩ := hp_bd hm
    refine hv_get lk_f_X1_34 dX1_isInstance_41 (hp_fR_spec hx4) ?_
    refine hv_iload 0 dX1_isInstance_44 rfl ?_
    obtain ⟨x5, hx5, hm⟩ := hp_bd hm
    obtain ⟨Vx5, hVx5⟩ := k_X0_isVariable hx5
    refine hv_callV (As := [.int x3]) (rest := []) Z_X0_isVariable I_X0_isVariable lk_m_X1_140 rfl hVx5 (c_X0_isVariable G n x4 x3 h sz sl _ hx5) rfl (Nat.le_of_ble_eq_true rfl) ⟨Nat.le_of_ble_eq_true rfl, Nat.le_of_ble_eq_true rfl⟩ ho.1 ho.2 rfl dX1_isInstance_46 ?_
    refine hv_as [.int x5] h rfl rfl ?_
    refine hv_if_ne (tgt := 74) dX1_isInstance_49 (by decide) (fun c16 => ?_) (fun c16 => ?_)
    · rw [if_neg c16] at hm
      refine hv_aload_n 1 dX1_isInstance_74 rfl rfl ?_
      obtain ⟨x6, hx6, hm⟩ := hp_bd hm
      refine hv_get lk_f_X1_14 dX1_isInstance_75 (hp_fR_spec hx6) ?_
      refine hv_aload_n 1 dX1_isInstance_78 rfl rfl ?_
      obtain ⟨x7, hx7, hm⟩ := hp_bd hm
      refine hv_get lk_f_X1_23 dX1_isInstance_79 (hp_fR_spec hx7) ?_
      refine hv_iload 0 dX1_isInstance_82 rfl ?_
      obtain ⟨x8, hx8, hm⟩ := hp_bd hm
      refine hv_iald dX1_isInstance_84 hx8 ?_
      obtain ⟨x9, hx9, hm⟩ := hp_bd hm
      obtain ⟨Vx9, hVx9⟩ := k_X5_size hx9
      refine hv_callV (As := [.int x8]) (rest := []) Z_X5_size I_X5_size lk_m_X1_107 rfl hVx9 (c_X5_size G n x6 x8 h sz sl _ hx9) rfl (Nat.le_of_ble_eq_true rfl) ⟨Nat.le_of_ble_eq_true rfl, Nat.le_of_ble_eq_true rfl⟩ ho.1 ho.2 rfl dX1_isInstance_85 ?_
      refine hv_as [.int x9] h rfl rfl ?_
      refine hv_istore [(7, .int x9), (6, .int x3), (0, .ref v0), (1, .int v1), (2, .int v2), (3, .int v3), (4, .int v4), (5, .int v5)] dX1_isInstance_88 (by decide) rfl ?_
      refine hv_iconst (1 : Int32) dX1_isInstance_90 (by decide) ?_
      refine hv_istore [(8, .int (1 : Int32)), (7, .int x9), (6, .int x3), (0, .ref v0), (1, .int v1), (2, .int v2), (3, .int v3), (4, .int v4), (5, .int v5)] dX1_isInstance_91 (by decide) rfl ?_
      obtain ⟨x10, hx10, hm⟩ := hp_bd hm
      refine hv_sub [3, 4, 5, 6, 7, 8, 2, 1, 0] rfl (l_X1_isInstance_93 G n v0 v1 v2 v4 v5 x3 x9 h sz sl _ ho n _ _ hx10 (fun y11 ey11 => ?_) (fun y12 ey12 => ?_))
      · skip
        subst ey11
        simp only [Sum.elim_inl, Sum.elim_inr] at hm
        exact hv_sub [0, 1, 2, 3, 4, 5] rfl (q_X1_isInstance_139 G n v0 v1 v2 y11 v4 v5 h sz sl o ho _ hm kI kX0 kR)
      · skip
        subst ey12
        simp only [Sum.elim_inl, Sum.elim_inr] at hm
        exact kR _ (Option.some.inj hm).symm
    · rw [if_pos c16] at hm
      refine hv_aload_n 1 dX1_isInstance_52 rfl rfl ?_
      obtain ⟨x13, hx13, hm⟩ := hp_bd hm
      refine hv_get lk_f_X1_14 dX1_isInstance_53 (hp_fR_spec hx13) ?_
      refine hv_iload_n 3 dX1_isInstance_56 rfl rfl ?_
      refine hv_iload_n 4 dX1_isInstance_57 rfl rfl ?_
      obtain ⟨x14, hx14, hm⟩ := hp_bd hm
      obtain ⟨Vx14, hVx14⟩ := k_X5_get hx14
      refine hv_callV (As := [.int v2, .int v3]) (rest := []) Z_X5_get I_X5_get lk_m_X1_110 rfl hVx14 (c_X5_get G n x13 v2 v3 h sz sl _ hx14) rfl (Nat.le_of_ble_eq_true rfl) ⟨Nat.le_of_ble_eq_true rfl, Nat.le_of_ble_eq_true rfl⟩ ho.1 ho.2 rfl dX1_isInstance_58 ?_
      refine hv_as [.int x14] h rfl rfl ?_
      refine hv_iload 0 dX1_isInstance_61 rfl ?_
      refine hv_icmp_eq (tgt := 68) dX1_isInstance_63 (by decide) (fun c15 => ?_) (fun c15 => ?_)
      · rw [if_pos c15] at hm
        refine hv_iinc (v3 + (1 : Int32)) 4 [(3, .int (v3 + (1 : Int32))), (6, .int x3), (0, .ref v0), (1, .int v1), (2, .int v2), (4, .int v4), (5, .int v5)] dX1_isInstance_68 rfl rfl (by decide) rfl ?_
        refine hv_goto (tgt := 139) dX1_isInstance_71 (by decide) ?_
        exact hv_sub [2, 3, 4, 0, 5, 6] rfl (q_X1_isInstance_139 G n v0 v1 v2 (v3 + (1 : Int32)) v4 v5 h sz sl o ho _ hm kI kX0 kR)
      · rw [if_neg c15] at hm
        refine hv_iconst (0 : Int32) dX1_isInstance_66 (by decide) ?_
        obtain rfl := kR _ (Option.some.inj hm).symm
        exact hv_zret rfl (by decide) dX1_isInstance_67
def fL_X1_isInstance_18 (n : Nat) (v0 : Nat) (v1 : Int32) (v2 : Int32) (v4 : Int32) (h : hp_H) (s : Int32 × Int32) : Option ((Int32 × Int32) ⊕ ((Int32) ⊕ (Int32))) := f_X1_isInstance_18 n v0 v1 v2 s.1 v4 s.2 h
theorem l_X1_isInstance_18 (G : hp_G) (n : Nat) (v0 : Nat) (v1 : Int32) (v2 : Int32) (v4 : Int32) (h : hp_H) (sz sl : Nat) (o : hp_O) (ho : sz ≤ o.2.2.1 ∧ sl ≤ o.2.2.2) : ∀ (k : Nat) (s : Int32 × Int32) (x : (Int32) ⊕ (Int32)), hp_lp (fL_X1_isInstance_18 n v0 v1 v2 v4 h) k s = some x → (∀ y : Int32, x = (.inl y) → hp_V G m_X1_isInstance 145 [(0, .ref v0), (2, .int v2), (3, .int y)] [] h sz sl o) → (∀ y : Int32, x = (.inr y) → o = (some (.int y), h, sz, sl)) → hp_V G m_X1_isInstance 18 [(0, .ref v0), (1, .int v1), (2, .int v2), (3, .int s.1), (4, .int v4), (5, .int s.2)] [] h sz sl o := by
  intro k
  induction k with
  | zero => intro s x hx; exact (hp_lp_0 hx).elim
  | succ k ih =>
    intro s x hx k0 k1
    obtain ⟨r, hr, hc⟩ := hp_lp_1 hx
    refine q_X1_isInstance_18 G n v0 v1 v2 s.1 v4 s.2 h sz sl o ho r hr (fun s2 e => ?_) (fun y e => ?_) (fun y e => ?_)
    · rcases hc with ⟨s3, e3, hx3⟩ | e3
      · have e4 := Sum.inl.inj (e.symm.trans e3)
        subst e4
        exact ih _ _ hx3 k0 k1
      · cases (e.symm.trans e3)
    · rcases hc with ⟨s3, e3, hx3⟩ | e3
      · cases (e.symm.trans e3)
      · exact k0 y (Sum.inr.inj (e3.symm.trans e))
    · rcases hc with ⟨s3, e3, hx3⟩ | e3
      · cases (e.symm.trans e3)
      · exact k1 y (Sum.inr.inj (e3.symm.trans e))
def f_X1_isInstance_0 (n : Nat) (v0 : Nat) (v1 : Int32) (v2 : Int32) (h : hp_H) : Option (Int32) :=
  (hp_fR h 1 v0 2).bind fun x1 =>
  (hp_fR h 0 x1 9).bind fun x2 =>
  (f_X5_size n x2 v1 h).bind fun x3 =>
  (hp_lp (fL_X1_isInstance_18 n v0 v1 v2 x3 h) n ((0 : Int32), (0 : Int32))).bind fun x4 =>
  Sum.elim (fun y5 =>
    (hp_fR h 1 v0 0).bind fun x7 =>
    (f_X5_size n x7 v2 h).bind fun x8 =>
    if y5 = x8 then
      some (1 : Int32)
    else
      some (0 : Int32)) (fun y6 =>
    some y6) x4
set_option maxHeartbeats 1000000 in
set_option maxRecDepth 4000 in
theorem q_X1_isInstance_0 (G : hp_G) (n : Nat) (v0 : Nat) (v1 : Int32) (v2 : Int32) (h : hp_H) (sz sl : Nat) (res : Int32) (hm : f_X1_isInstance_0 n v0 v1 v2 h = some res) : hp_V G m_X1_isInstance 0 [(0, .ref v0), (1, .int v1), (2, .int v2)] [] h sz sl (some (.int res), h, sz, sl) := by
  have ho : sz ≤ sz ∧ sl ≤ sl := ⟨Nat.le_refl _, Nat.le_refl _⟩
  unfold f_X1_isInstance_0 at hm
  refine hv_iconst (0 : Int32) dX1_isInstance_0 (by decide) ?_
  refine hv_istore_n [(3, .int (0 : Int32)), (0, .ref v0), (1, .int v1), (2, .int v2)] dX1_isInstance_1 rfl (by decide) rfl ?_
  refine hv_aload_n 1 dX1_isInstance_2 rfl rfl ?_
  obtain ⟨x1, hx1, hm⟩ := hp_bd hm
  refine hv_get lk_f_X1_34 dX1_isInstance_3 (hp_fR_spec hx1) ?_
  obtain ⟨x2, hx2, hm⟩ := hp_bd hm
  refine hv_get lk_f_X1_91 dX1_isInstance_6 (hp_fR_spec hx2) ?_
  refine hv_iload_n 2 dX1_isInstance_9 rfl rfl ?_
  obtain ⟨x3, hx3, hm⟩ := hp_bd hm
  obtain ⟨Vx3, hVx3⟩ := k_X5_size hx3
  refine hv_callV (As := [.int v1]) (rest := []) Z_X5_size I_X5_size lk_m_X1_107 rfl hVx3 (c_X5_size G n x2 v1 h sz sl _ hx3) rfl (Nat.le_of_ble_eq_true rfl) ⟨Nat.le_of_ble_eq_true rfl, Nat.le_of_ble_eq_true rfl⟩ ho.1 ho.2 rfl dX1_isInstance_10 ?_
  refine hv_as [.int x3] h rfl rfl ?_
  refine hv_istore [(4, .int x3), (3, .int (0 : Int32)), (0, .ref v0), (1, .int v1), (2, .int v2)] dX1_isInstance_13 (by decide) rfl ?_
  refine hv_iconst (0 : Int32) dX1_isInstance_15 (by decide) ?_
  refine hv_istore [(5, .int (0 : Int32)), (4, .int x3), (3, .int (0 : Int32)), (0, .ref v0), (1, .int v1), (2, .int v2)] dX1_isInstance_16 (by decide) rfl ?_
  obtain ⟨x4, hx4, hm⟩ := hp_bd hm
  refine hv_sub [3, 4, 5, 2, 1, 0] rfl (l_X1_isInstance_18 G n v0 v1 v2 x3 h sz sl _ ho n _ _ hx4 (fun y5 ey5 => ?_) (fun y6 ey6 => ?_))
  · skip
    subst ey5
    simp only [Sum.elim_inl, Sum.elim_inr] at hm
    refine hv_iload_n 2 dX1_isInstance_145 rfl rfl ?_
    refine hv_aload_n 0 dX1_isInstance_146 rfl rfl ?_
    obtain ⟨x7, hx7, hm⟩ := hp_bd hm
    refine hv_get lk_f_X1_14 dX1_isInstance_147 (hp_fR_spec hx7) ?_
    refine hv_iload_n 1 dX1_isInstance_150 rfl rfl ?_
    obtain ⟨x8, hx8, hm⟩ := hp_bd hm
    obtain ⟨Vx8, hVx8⟩ := k_X5_size hx8
    refine hv_callV (As := [.int v2]) (rest := [.int y5]) Z_X5_size I_X5_size lk_m_X1_107 rfl hVx8 (c_X5_size G n x7 v2 h sz sl _ hx8) rfl (Nat.le_of_ble_eq_true rfl) ⟨Nat.le_of_ble_eq_true rfl, Nat.le_of_ble_eq_true rfl⟩ ho.1 ho.2 rfl dX1_isInstance_151 ?_
    refine hv_as [.int x8, .int y5] h rfl rfl ?_
    refine hv_icmp_ne (tgt := 161) dX1_isInstance_154 (by decide) (fun c9 => ?_) (fun c9 => ?_)
    · rw [if_neg c9] at hm
      refine hv_iconst (0 : Int32) dX1_isInstance_161 (by decide) ?_
      obtain rfl := Option.some.inj hm
      exact hv_zret rfl (by decide) dX1_isInstance_162
    · rw [if_pos c9] at hm
      refine hv_iconst (1 : Int32) dX1_isInstance_157 (by decide) ?_
      refine hv_goto (tgt := 162) dX1_isInstance_158 (by decide) ?_
      obtain rfl := Option.some.inj hm
      exact hv_zret rfl (by decide) dX1_isInstance_162
  · skip
    subst ey6
    simp only [Sum.elim_inl, Sum.elim_inr] at hm
    obtain rfl := Option.some.inj hm
    rfl
def f_X1_isInstance (n : Nat) (v0 : Nat) (v1 : Int32) (v2 : Int32) (h : hp_H) : Option (Int32) := (hp_ck h 1 v0).bind fun _ => f_X1_isInstance_0 n v0 v1 v2 h
theorem c_X1_isInstance (G : hp_G) (n : Nat) (v0 : Nat) (v1 : Int32) (v2 : Int32) (h : hp_H) (sz sl : Nat) (res : Int32) (hm : f_X1_isInstance n v0 v1 v2 h = some res) : hp_C G m_X1_isInstance yX1_isInstance [.ref v0, .int v1, .int v2] h sz sl (some (.int res), h, sz, sl) := by
  unfold f_X1_isInstance at hm
  obtain ⟨_, _, hm⟩ := hp_bd hm
  exact hp_C_of (by decide) rfl rfl (Nat.le_of_ble_eq_true rfl) (Nat.le_refl _) (Nat.le_refl _) (hv_sub [0, 1, 2] rfl (q_X1_isInstance_0 G n v0 v1 v2 h sz sl res hm))
theorem k_X1_isInstance {n : Nat} {v0 : Nat} {v1 : Int32} {v2 : Int32} {h : hp_H} {res : Int32} (hm : f_X1_isInstance n v0 v1 v2 h = some res) : ∃ V, h v0 = some (.inr (.inr (1, V))) := by
  unfold f_X1_isInstance at hm
  obtain ⟨_, hu, _⟩ := hp_bd hm
  exact hp_ck_spec hu
abbrev m_X1_fit : hp_M := (RX1, cX1_fit, 3, some .int, 2, 50, "fit")
theorem Z_X1_fit : hp_Y yX1_fit m_X1_fit 2 := Y_X1_fit
def f_X1_fit_0 (n : Nat) (v0 : Nat) (v1 : Int32) (v2 : Int32) (h : hp_H) : Option (Int32 × hp_H) :=
  (hp_fR h 1 v0 2).bind fun x1 =>
  (hp_fR h 0 x1 6).bind fun x2 =>
  (hp_aI h 0 x2 v1).bind fun x3 =>
  if x3 = (1 : Int32) then
    (f_X1_isInstance n v0 v1 v2 h).bind fun x15 =>
    if x15 = 0 then
      some ((-6 : Int32), h)
    else
      some ((0 : Int32), h)
  else
    (hp_fR h 1 v0 0).bind fun x4 =>
    (f_X5_get n x4 v2 (0 : Int32) h).bind fun x5 =>
    (hp_fR h 1 v0 2).bind fun x6 =>
    (hp_fR h 0 x6 9).bind fun x7 =>
    (f_X5_get n x7 v1 (0 : Int32) h).bind fun x8 =>
    if x5 = x8 then
      (hp_fR h 1 v0 3).bind fun x9 =>
      (hp_fR h 1 v0 2).bind fun x10 =>
      (hp_fR h 0 x10 9).bind fun x11 =>
      (f_X5_get n x11 v1 (1 : Int32) h).bind fun x12 =>
      (hp_sI h 0 x9 x12 v2).bind fun h13 =>
      some ((0 : Int32), h13)
    else
      some ((-5 : Int32), h)
set_option maxHeartbeats 1000000 in
set_option maxRecDepth 4000 in
theorem q_X1_fit_0 (G : hp_G) (n : Nat) (v0 : Nat) (v1 : Int32) (v2 : Int32) (h : hp_H) (sz sl : Nat) (res : Int32 × hp_H) (hm : f_X1_fit_0 n v0 v1 v2 h = some res) : hp_V G m_X1_fit 0 [(0, .ref v0), (1, .int v1), (2, .int v2)] [] h sz sl (some (.int res.1), res.2, sz, sl) := by
  have ho : sz ≤ sz ∧ sl ≤ sl := ⟨Nat.le_refl _, Nat.le_refl _⟩
  unfold f_X1_fit_0 at hm
  refine hv_aload_n 0 dX1_fit_0 rfl rfl ?_
  obtain ⟨x1, hx1, hm⟩ := hp_bd hm
  refine hv_get lk_f_X1_34 dX1_fit_1 (hp_fR_spec hx1) ?_
  obtain ⟨x2, hx2, hm⟩ := hp_bd hm
  refine hv_get lk_f_X1_62 dX1_fit_4 (hp_fR_spec hx2) ?_
  refine hv_iload_n 1 dX1_fit_7 rfl rfl ?_
  obtain ⟨x3, hx3, hm⟩ := hp_bd hm
  refine hv_iald dX1_fit_8 hx3 ?_
  refine hv_iconst (1 : Int32) dX1_fit_9 (by decide) ?_
  refine hv_icmp_ne (tgt := 29) dX1_fit_10 (by decide) (fun c17 => ?_) (fun c17 => ?_)
  · rw [if_neg c17] at hm
    refine hv_aload_n 0 dX1_fit_29 rfl rfl ?_
    obtain ⟨x4, hx4, hm⟩ := hp_bd hm
    refine hv_get lk_f_X1_14 dX1_fit_30 (hp_fR_spec hx4) ?_
    refine hv_iload_n 2 dX1_fit_33 rfl rfl ?_
    refine hv_iconst (0 : Int32) dX1_fit_34 (by decide) ?_
    obtain ⟨x5, hx5, hm⟩ := hp_bd hm
    obtain ⟨Vx5, hVx5⟩ := k_X5_get hx5
    refine hv_callV (As := [.int v2, .int (0 : Int32)]) (rest := []) Z_X5_get I_X5_get lk_m_X1_110 rfl hVx5 (c_X5_get G n x4 v2 (0 : Int32) h sz sl _ hx5) rfl (Nat.le_of_ble_eq_true rfl) ⟨Nat.le_of_ble_eq_true rfl, Nat.le_of_ble_eq_true rfl⟩ ho.1 ho.2 rfl dX1_fit_35 ?_
    refine hv_as [.int x5] h rfl rfl ?_
    refine hv_aload_n 0 dX1_fit_38 rfl rfl ?_
    obtain ⟨x6, hx6, hm⟩ := hp_bd hm
    refine hv_get lk_f_X1_34 dX1_fit_39 (hp_fR_spec hx6) ?_
    obtain ⟨x7, hx7, hm⟩ := hp_bd hm
    refine hv_get lk_f_X1_91 dX1_fit_42 (hp_fR_spec hx7) ?_
    refine hv_iload_n 1 dX1_fit_45 rfl rfl ?_
    refine hv_iconst (0 : Int32) dX1_fit_46 (by decide) ?_
    obtain ⟨x8, hx8, hm⟩ := hp_bd hm
    obtain ⟨Vx8, hVx8⟩ := k_X5_get hx8
    refine hv_callV (As := [.int v1, .int (0 : Int32)]) (rest := [.int x5]) Z_X5_get I_X5_get lk_m_X1_110 rfl hVx8 (c_X5_get G n x7 v1 (0 : Int32) h sz sl _ hx8) rfl (Nat.le_of_ble_eq_true rfl) ⟨Nat.le_of_ble_eq_true rfl, Nat.le_of_ble_eq_true rfl⟩ ho.1 ho.2 rfl dX1_fit_47 ?_
    refine hv_as [.int x8, .int x5] h rfl rfl ?_
    refine hv_icmp_eq (tgt := 56) dX1_fit_50 (by decide) (fun c14 => ?_) (fun c14 => ?_)
    · rw [if_pos c14] at hm
      refine hv_aload_n 0 dX1_fit_56 rfl rfl ?_
      obtain ⟨x9, hx9, hm⟩ := hp_bd hm
      refine hv_get lk_f_X1_23 dX1_fit_57 (hp_fR_spec hx9) ?_
      refine hv_aload_n 0 dX1_fit_60 rfl rfl ?_
      obtain ⟨x10, hx10, hm⟩ := hp_bd hm
      refine hv_get lk_f_X1_34 dX1_fit_61 (hp_fR_spec hx10) ?_
      obtain ⟨x11, hx11, hm⟩ := hp_bd hm
      refine hv_get lk_f_X1_91 dX1_fit_64 (hp_fR_spec hx11) ?_
      refine hv_iload_n 1 dX1_fit_67 rfl rfl ?_
      refine hv_iconst (1 : Int32) dX1_fit_68 (by decide) ?_
      obtain ⟨x12, hx12, hm⟩ := hp_bd hm
      obtain ⟨Vx12, hVx12⟩ := k_X5_get hx12
      refine hv_callV (As := [.int v1, .int (1 : Int32)]) (rest := [.ref x9]) Z_X5_get I_X5_get lk_m_X1_110 rfl hVx12 (c_X5_get G n x11 v1 (1 : Int32) h sz sl _ hx12) rfl (Nat.le_of_ble_eq_true rfl) ⟨Nat.le_of_ble_eq_true rfl, Nat.le_of_ble_eq_true rfl⟩ ho.1 ho.2 rfl dX1_fit_69 ?_
      refine hv_as [.int x12, .ref x9] h rfl rfl ?_
      refine hv_iload_n 2 dX1_fit_72 rfl rfl ?_
      obtain ⟨h13, hh13, hm⟩ := hp_bd hm
      refine hv_iast dX1_fit_73 hh13 ?_
      refine hv_iconst (0 : Int32) dX1_fit_74 (by decide) ?_
      obtain rfl := Option.some.inj hm
      exact hv_iret rfl dX1_fit_75
    · rw [if_neg c14] at hm
      refine hv_bipush (-5 : Int32) dX1_fit_53 (by decide) ?_
      obtain rfl := Option.some.inj hm
      exact hv_iret rfl dX1_fit_55
  · rw [if_pos c17] at hm
    refine hv_aload_n 0 dX1_fit_13 rfl rfl ?_
    refine hv_iload_n 1 dX1_fit_14 rfl rfl ?_
    refine hv_iload_n 2 dX1_fit_15 rfl rfl ?_
    obtain ⟨x15, hx15, hm⟩ := hp_bd hm
    obtain ⟨Vx15, hVx15⟩ := k_X1_isInstance hx15
    refine hv_callV (As := [.int v1, .int v2]) (rest := []) Z_X1_isInstance I_X1_isInstance lk_m_X1_136 rfl hVx15 (c_X1_isInstance G n v0 v1 v2 h sz sl _ hx15) rfl (Nat.le_of_ble_eq_true rfl) ⟨Nat.le_of_ble_eq_true rfl, Nat.le_of_ble_eq_true rfl⟩ ho.1 ho.2 rfl dX1_fit_16 ?_
    refine hv_as [.int x15] h rfl rfl ?_
    refine hv_if_eq (tgt := 26) dX1_fit_19 (by decide) (fun c16 => ?_) (fun c16 => ?_)
    · rw [if_pos c16] at hm
      refine hv_bipush (-6 : Int32) dX1_fit_26 (by decide) ?_
      obtain rfl := Option.some.inj hm
      exact hv_iret rfl dX1_fit_28
    · rw [if_neg c16] at hm
      refine hv_iconst (0 : Int32) dX1_fit_22 (by decide) ?_
      refine hv_goto (tgt := 28) dX1_fit_23 (by decide) ?_
      obtain rfl := Option.some.inj hm
      exact hv_iret rfl dX1_fit_28
def f_X1_fit (n : Nat) (v0 : Nat) (v1 : Int32) (v2 : Int32) (h : hp_H) : Option (Int32 × hp_H) := (hp_ck h 1 v0).bind fun _ => f_X1_fit_0 n v0 v1 v2 h
theorem c_X1_fit (G : hp_G) (n : Nat) (v0 : Nat) (v1 : Int32) (v2 : Int32) (h : hp_H) (sz sl : Nat) (res : Int32 × hp_H) (hm : f_X1_fit n v0 v1 v2 h = some res) : hp_C G m_X1_fit yX1_fit [.ref v0, .int v1, .int v2] h sz sl (some (.int res.1), res.2, sz, sl) := by
  unfold f_X1_fit at hm
  obtain ⟨_, _, hm⟩ := hp_bd hm
  exact hp_C_of (by decide) rfl rfl (Nat.le_of_ble_eq_true rfl) (Nat.le_refl _) (Nat.le_refl _) (hv_sub [0, 1, 2] rfl (q_X1_fit_0 G n v0 v1 v2 h sz sl res hm))
theorem k_X1_fit {n : Nat} {v0 : Nat} {v1 : Int32} {v2 : Int32} {h : hp_H} {res : Int32 × hp_H} (hm : f_X1_fit n v0 v1 v2 h = some res) : ∃ V, h v0 = some (.inr (.inr (1, V))) := by
  unfold f_X1_fit at hm
  obtain ⟨_, hu, _⟩ := hp_bd hm
  exact hp_ck_spec hu
abbrev m_X1_isPartnerOfOthers : hp_M := (RX1, cX1_isPartnerOfOthers, 3, some .boolean, 0, 0, "isPartnerOfOthers")
theorem Z_X1_isPartnerOfOthers : hp_Y yX1_isPartnerOfOthers m_X1_isPartnerOfOthers 1 := Y_X1_isPartnerOfOthers
def f_X1_isPartnerOfOthers_2 (n : Nat) (v0 : Nat) (v1 : Int32) (v2 : Int32) (h : hp_H) : Option ((Int32) ⊕ (Int32)) :=
  if (5 : Int32) ≤ v2 then
    some (.inr (1 : Int32))
  else
    (hp_fR h 1 v0 5).bind fun x1 =>
    (hp_aJ h x1 v2).bind fun x2 =>
    (hp_fR h 1 v0 4).bind fun x3 =>
    (hp_aJ h x3 ((v1 * (5 : Int32)) + v2)).bind fun x4 =>
    if (lg_cmp (x2 &&& (x4 ^^^ (-1 : Int64))) (0 : Int64)) = 0 then
      some (.inl (v2 + (1 : Int32)))
    else
      some (.inr (0 : Int32))
set_option maxHeartbeats 1000000 in
set_option maxRecDepth 4000 in
theorem q_X1_isPartnerOfOthers_2 (G : hp_G) (n : Nat) (v0 : Nat) (v1 : Int32) (v2 : Int32) (h : hp_H) (sz sl : Nat) (o : hp_O) (ho : sz ≤ o.2.2.1 ∧ sl ≤ o.2.2.2) (res : (Int32) ⊕ (Int32)) (hm : f_X1_isPartnerOfOthers_2 n v0 v1 v2 h = some res) (kI : ∀ y : Int32, res = .inl y → hp_V G m_X1_isPartnerOfOthers 2 [(0, .ref v0), (1, .int v1), (2, .int y)] [] h sz sl o) (kR : ∀ y : Int32, res = .inr y → o = (some (.int y), h, sz, sl)) : hp_V G m_X1_isPartnerOfOthers 2 [(0, .ref v0), (1, .int v1), (2, .int v2)] [] h sz sl o := by
  unfold f_X1_isPartnerOfOthers_2 at hm
  refine hv_iload_n 2 dX1_isPartnerOfOthers_2 rfl rfl ?_
  refine hv_iconst (5 : Int32) dX1_isPartnerOfOthers_3 (by decide) ?_
  refine hv_icmp_ge (tgt := 41) dX1_isPartnerOfOthers_4 (by decide) (fun c6 => ?_) (fun c6 => ?_)
  · rw [if_pos c6] at hm
    refine hv_iconst (1 : Int32) dX1_isPartnerOfOthers_41 (by decide) ?_
    obtain rfl := kR _ (Option.some.inj hm).symm
    exact hv_zret rfl (by decide) dX1_isPartnerOfOthers_42
  · rw [if_neg c6] at hm
    refine hv_aload_n 0 dX1_isPartnerOfOthers_7 rfl rfl ?_
    obtain ⟨x1, hx1, hm⟩ := hp_bd hm
    refine hv_get lk_f_X1_31 dX1_isPartnerOfOthers_8 (hp_fR_spec hx1) ?_
    refine hv_iload_n 2 dX1_isPartnerOfOthers_11 rfl rfl ?_
    obtain ⟨x2, hx2, hm⟩ := hp_bd hm
    refine hv_lald dX1_isPartnerOfOthers_12 hx2 ?_
    refine hv_aload_n 0 dX1_isPartnerOfOthers_13 rfl rfl ?_
    obtain ⟨x3, hx3, hm⟩ := hp_bd hm
    refine hv_get lk_f_X1_27 dX1_isPartnerOfOthers_14 (hp_fR_spec hx3) ?_
    refine hv_iload_n 1 dX1_isPartnerOfOthers_17 rfl rfl ?_
    refine hv_iconst (5 : Int32) dX1_isPartnerOfOthers_18 (by decide) ?_
    refine hv_imul dX1_isPartnerOfOthers_19 ?_
    refine hv_iload_n 2 dX1_isPartnerOfOthers_20 rfl rfl ?_
    refine hv_iadd dX1_isPartnerOfOthers_21 ?_
    obtain ⟨x4, hx4, hm⟩ := hp_bd hm
    refine hv_lald dX1_isPartnerOfOthers_22 hx4 ?_
    refine hv_ldc2 (-1 : Int64) dX1_isPartnerOfOthers_23 lk_c_X1_152 ?_
    refine hv_lxor dX1_isPartnerOfOthers_26 ?_
    refine hv_land dX1_isPartnerOfOthers_27 ?_
    refine hv_lconst (0 : Int64) dX1_isPartnerOfOthers_28 (by decide) ?_
    refine hv_lcmp dX1_isPartnerOfOthers_29 ?_
    refine hv_if_eq (tgt := 35) dX1_isPartnerOfOthers_30 (by decide) (fun c5 => ?_) (fun c5 => ?_)
    · rw [if_pos c5] at hm
      refine hv_iinc (v2 + (1 : Int32)) 2 [(2, .int (v2 + (1 : Int32))), (0, .ref v0), (1, .int v1)] dX1_isPartnerOfOthers_35 rfl rfl (by decide) rfl ?_
      refine hv_goto (tgt := 2) dX1_isPartnerOfOthers_38 (by decide) ?_
      exact hv_sub [1, 2, 0] rfl (kI (v2 + (1 : Int32)) (Option.some.inj hm).symm)
    · rw [if_neg c5] at hm
      refine hv_iconst (0 : Int32) dX1_isPartnerOfOthers_33 (by decide) ?_
      obtain rfl := kR _ (Option.some.inj hm).symm
      exact hv_zret rfl (by decide) dX1_isPartnerOfOthers_34
def fL_X1_isPartnerOfOthers_2 (n : Nat) (v0 : Nat) (v1 : Int32) (h : hp_H) (s : Int32) : Option ((Int32) ⊕ (Int32)) := f_X1_isPartnerOfOthers_2 n v0 v1 s h
theorem l_X1_isPartnerOfOthers_2 (G : hp_G) (n : Nat) (v0 : Nat) (v1 : Int32) (h : hp_H) (sz sl : Nat) (o : hp_O) (ho : sz ≤ o.2.2.1 ∧ sl ≤ o.2.2.2) : ∀ (k : Nat) (s : Int32) (x : Int32), hp_lp (fL_X1_isPartnerOfOthers_2 n v0 v1 h) k s = some x → (∀ y : Int32, x = y → o = (some (.int y), h, sz, sl)) → hp_V G m_X1_isPartnerOfOthers 2 [(0, .ref v0), (1, .int v1), (2, .int s)] [] h sz sl o := by
  intro k
  induction k with
  | zero => intro s x hx; exact (hp_lp_0 hx).elim
  | succ k ih =>
    intro s x hx k0
    obtain ⟨r, hr, hc⟩ := hp_lp_1 hx
    refine q_X1_isPartnerOfOthers_2 G n v0 v1 s h sz sl o ho r hr (fun s2 e => ?_) (fun y e => ?_)
    · rcases hc with ⟨s3, e3, hx3⟩ | e3
      · have e4 := Sum.inl.inj (e.symm.trans e3)
        subst e4
        exact ih _ _ hx3 k0
      · cases (e.symm.trans e3)
    · rcases hc with ⟨s3, e3, hx3⟩ | e3
      · cases (e.symm.trans e3)
      · exact k0 y (Sum.inr.inj (e3.symm.trans e))
def f_X1_isPartnerOfOthers_0 (n : Nat) (v0 : Nat) (v1 : Int32) (h : hp_H) : Option (Int32) :=
  (hp_lp (fL_X1_isPartnerOfOthers_2 n v0 v1 h) n (0 : Int32)).bind fun x1 =>
  some x1
set_option maxHeartbeats 1000000 in
set_option maxRecDepth 4000 in
theorem q_X1_isPartnerOfOthers_0 (G : hp_G) (n : Nat) (v0 : Nat) (v1 : Int32) (h : hp_H) (sz sl : Nat) (res : Int32) (hm : f_X1_isPartnerOfOthers_0 n v0 v1 h = some res) : hp_V G m_X1_isPartnerOfOthers 0 [(0, .ref v0), (1, .int v1)] [] h sz sl (some (.int res), h, sz, sl) := by
  have ho : sz ≤ sz ∧ sl ≤ sl := ⟨Nat.le_refl _, Nat.le_refl _⟩
  unfold f_X1_isPartnerOfOthers_0 at hm
  refine hv_iconst (0 : Int32) dX1_isPartnerOfOthers_0 (by decide) ?_
  refine hv_istore_n [(2, .int (0 : Int32)), (0, .ref v0), (1, .int v1)] dX1_isPartnerOfOthers_1 rfl (by decide) rfl ?_
  obtain ⟨x1, hx1, hm⟩ := hp_bd hm
  refine hv_sub [1, 2, 0] rfl (l_X1_isPartnerOfOthers_2 G n v0 v1 h sz sl _ ho n _ _ hx1 (fun y2 ey2 => ?_))
  · skip
    subst ey2
    obtain rfl := Option.some.inj hm
    rfl
def f_X1_isPartnerOfOthers (n : Nat) (v0 : Nat) (v1 : Int32) (h : hp_H) : Option (Int32) := (hp_ck h 1 v0).bind fun _ => f_X1_isPartnerOfOthers_0 n v0 v1 h
theorem c_X1_isPartnerOfOthers (G : hp_G) (n : Nat) (v0 : Nat) (v1 : Int32) (h : hp_H) (sz sl : Nat) (res : Int32) (hm : f_X1_isPartnerOfOthers n v0 v1 h = some res) : hp_C G m_X1_isPartnerOfOthers yX1_isPartnerOfOthers [.ref v0, .int v1] h sz sl (some (.int res), h, sz, sl) := by
  unfold f_X1_isPartnerOfOthers at hm
  obtain ⟨_, _, hm⟩ := hp_bd hm
  exact hp_C_of (by decide) rfl rfl (Nat.le_of_ble_eq_true rfl) (Nat.le_refl _) (Nat.le_refl _) (hv_sub [0, 1] rfl (q_X1_isPartnerOfOthers_0 G n v0 v1 h sz sl res hm))
theorem k_X1_isPartnerOfOthers {n : Nat} {v0 : Nat} {v1 : Int32} {h : hp_H} {res : Int32} (hm : f_X1_isPartnerOfOthers n v0 v1 h = some res) : ∃ V, h v0 = some (.inr (.inr (1, V))) := by
  unfold f_X1_isPartnerOfOthers at hm
  obtain ⟨_, hu, _⟩ := hp_bd hm
  exact hp_ck_spec hu
abbrev m_X1_areApart : hp_M := (RX1, cX1_areApart, 6, some .boolean, 1, 24, "areApart")
theorem Z_X1_areApart : hp_Y yX1_areApart m_X1_areApart 2 := Y_X1_areApart
def f_X1_areApart_70 (n : Nat) (v0 : Nat) (v1 : Int32) (v2 : Int32) (v3 : Int32) (v4 : Int32) (h : hp_H) : Option ((Int32 × hp_H) ⊕ (hp_H)) :=
  some (.inl ((v4 + (1 : Int32)), h))
set_option maxHeartbeats 1000000 in
set_option maxRecDepth 4000 in
theorem q_X1_areApart_70 (G : hp_G) (n : Nat) (v0 : Nat) (v1 : Int32) (v2 : Int32) (v3 : Int32) (v4 : Int32) (h : hp_H) (sz sl : Nat) (o : hp_O) (ho : sz ≤ o.2.2.1 ∧ sl ≤ o.2.2.2) (res : (Int32 × hp_H) ⊕ (hp_H)) (hm : f_X1_areApart_70 n v0 v1 v2 v3 v4 h = some res) (kI : ∀ y : Int32 × hp_H, res = .inl y → hp_V G m_X1_areApart 20 [(0, .ref v0), (1, .int v1), (2, .int v2), (3, .int v3), (4, .int y.1)] [] y.2 sz sl o) (kX0 : ∀ y : hp_H, res = .inr y → hp_V G m_X1_areApart 76 [(0, .ref v0), (1, .int v1)] [] y sz sl o) : hp_V G m_X1_areApart 70 [(0, .ref v0), (1, .int v1), (2, .int v2), (3, .int v3), (4, .int v4)] [] h sz sl o := by
  unfold f_X1_areApart_70 at hm
  refine hv_iinc (v4 + (1 : Int32)) 4 [(4, .int (v4 + (1 : Int32))), (0, .ref v0), (1, .int v1), (2, .int v2), (3, .int v3)] dX1_areApart_70 rfl rfl (by decide) rfl ?_
  refine hv_goto (tgt := 20) dX1_areApart_73 (by decide) ?_
  exact hv_sub [1, 2, 3, 4, 0] rfl (kI ((v4 + (1 : Int32)), h) (Option.some.inj hm).symm)
def f_X1_areApart_20 (n : Nat) (v0 : Nat) (v1 : Int32) (v2 : Int32) (v3 : Int32) (v4 : Int32) (h : hp_H) : Option ((Int32 × hp_H) ⊕ (hp_H)) :=
  if v3 ≤ v4 then
    some (.inr h)
  else
    (hp_fR h 1 v0 0).bind fun x1 =>
    (f_X5_get n x1 v2 v4 h).bind fun x2 =>
    (hp_fR h 1 v0 2).bind fun x3 =>
    (f_X0_isVariable n x3 x2 h).bind fun x4 =>
    if x4 = 0 then
      f_X1_areApart_70 n v0 v1 v2 v3 v4 h
    else
      (hp_fR h 1 v0 5).bind fun x5 =>
      (hp_aJ h x5 (x2 / (64 : Int32))).bind fun x6 =>
      (hp_sJ h x5 (x2 / (64 : Int32)) (x6 ||| ((1 : Int64) <<< (Int32.toInt64 (x2 - x2 / (64 : Int32) * (64 : Int32)) &&& 63)))).bind fun h7 =>
      f_X1_areApart_70 n v0 v1 v2 v3 v4 h7
set_option maxHeartbeats 1000000 in
set_option maxRecDepth 4000 in
theorem q_X1_areApart_20 (G : hp_G) (n : Nat) (v0 : Nat) (v1 : Int32) (v2 : Int32) (v3 : Int32) (v4 : Int32) (h : hp_H) (sz sl : Nat) (o : hp_O) (ho : sz ≤ o.2.2.1 ∧ sl ≤ o.2.2.2) (res : (Int32 × hp_H) ⊕ (hp_H)) (hm : f_X1_areApart_20 n v0 v1 v2 v3 v4 h = some res) (kI : ∀ y : Int32 × hp_H, res = .inl y → hp_V G m_X1_areApart 20 [(0, .ref v0), (1, .int v1), (2, .int v2), (3, .int v3), (4, .int y.1)] [] y.2 sz sl o) (kX0 : ∀ y : hp_H, res = .inr y → hp_V G m_X1_areApart 76 [(0, .ref v0), (1, .int v1)] [] y sz sl o) : hp_V G m_X1_areApart 20 [(0, .ref v0), (1, .int v1), (2, .int v2), (3, .int v3), (4, .int v4)] [] h sz sl o := by
  unfold f_X1_areApart_20 at hm
  refine hv_iload 4 dX1_areApart_20 rfl ?_
  refine hv_iload_n 3 dX1_areApart_22 rfl rfl ?_
  refine hv_icmp_ge (tgt := 76) dX1_areApart_23 (by decide) (fun c9 => ?_) (fun c9 => ?_)
  · rw [if_pos c9] at hm
    exact hv_sub [0, 1] rfl (kX0 h (Option.some.inj hm).symm)
  · rw [if_neg c9] at hm
    refine hv_aload_n 0 dX1_areApart_26 rfl rfl ?_
    obtain ⟨x1, hx1, hm⟩ := hp_bd hm
    refine hv_get lk_f_X1_14 dX1_areApart_27 (hp_fR_spec hx1) ?_
    refine hv_iload_n 2 dX1_areApart_30 rfl rfl ?_
    refine hv_iload 4 dX1_areApart_31 rfl ?_
    obtain ⟨x2, hx2, hm⟩ := hp_bd hm
    obtain ⟨Vx2, hVx2⟩ := k_X5_get hx2
    refine hv_callV (As := [.int v2, .int v4]) (rest := []) Z_X5_get I_X5_get lk_m_X1_110 rfl hVx2 (c_X5_get G n x1 v2 v4 h sz sl _ hx2) rfl (Nat.le_of_ble_eq_true rfl) ⟨Nat.le_of_ble_eq_true rfl, Nat.le_of_ble_eq_true rfl⟩ ho.1 ho.2 rfl dX1_areApart_33 ?_
    refine hv_as [.int x2] h rfl rfl ?_
    refine hv_istore [(5, .int x2), (0, .ref v0), (1, .int v1), (2, .int v2), (3, .int v3), (4, .int v4)] dX1_areApart_36 (by decide) rfl ?_
    refine hv_aload_n 1 dX1_areApart_38 rfl rfl ?_
    obtain ⟨x3, hx3, hm⟩ := hp_bd hm
    refine hv_get lk_f_X1_34 dX1_areApart_39 (hp_fR_spec hx3) ?_
    refine hv_iload 0 dX1_areApart_42 rfl ?_
    obtain ⟨x4, hx4, hm⟩ := hp_bd hm
    obtain ⟨Vx4, hVx4⟩ := k_X0_isVariable hx4
    refine hv_callV (As := [.int x2]) (rest := []) Z_X0_isVariable I_X0_isVariable lk_m_X1_140 rfl hVx4 (c_X0_isVariable G n x3 x2 h sz sl _ hx4) rfl (Nat.le_of_ble_eq_true rfl) ⟨Nat.le_of_ble_eq_true rfl, Nat.le_of_ble_eq_true rfl⟩ ho.1 ho.2 rfl dX1_areApart_44 ?_
    refine hv_as [.int x4] h rfl rfl ?_
    refine hv_if_eq (tgt := 70) dX1_areApart_47 (by decide) (fun c8 => ?_) (fun c8 => ?_)
    · rw [if_pos c8] at hm
      exact hv_sub [1, 2, 3, 4, 5] rfl (q_X1_areApart_70 G n v0 v1 v2 v3 v4 h sz sl o ho _ hm kI kX0)
    · rw [if_neg c8] at hm
      refine hv_aload_n 1 dX1_areApart_50 rfl rfl ?_
      obtain ⟨x5, hx5, hm⟩ := hp_bd hm
      refine hv_get lk_f_X1_31 dX1_areApart_51 (hp_fR_spec hx5) ?_
      refine hv_iload 0 dX1_areApart_54 rfl ?_
      refine hv_bipush (64 : Int32) dX1_areApart_56 (by decide) ?_
      refine hv_idiv dX1_areApart_58 (by decide) ?_
      refine hv_dup2_11 dX1_areApart_59 rfl rfl ?_
      obtain ⟨x6, hx6, hm⟩ := hp_bd hm
      refine hv_lald dX1_areApart_60 hx6 ?_
      refine hv_lconst (1 : Int64) dX1_areApart_61 (by decide) ?_
      refine hv_iload 0 dX1_areApart_62 rfl ?_
      refine hv_bipush (64 : Int32) dX1_areApart_64 (by decide) ?_
      refine hv_irem dX1_areApart_66 (by decide) ?_
      refine hv_lshl dX1_areApart_67 ?_
      refine hv_lor dX1_areApart_68 ?_
      obtain ⟨h7, hh7, hm⟩ := hp_bd hm
      refine hv_last dX1_areApart_69 hh7 ?_
      exact hv_sub [1, 2, 3, 4, 5] rfl (q_X1_areApart_70 G n v0 v1 v2 v3 v4 h7 sz sl o ho _ hm kI kX0)
def fL_X1_areApart_20 (n : Nat) (v0 : Nat) (v1 : Int32) (v2 : Int32) (v3 : Int32) (s : Int32 × hp_H) : Option ((Int32 × hp_H) ⊕ (hp_H)) := f_X1_areApart_20 n v0 v1 v2 v3 s.1 s.2
theorem l_X1_areApart_20 (G : hp_G) (n : Nat) (v0 : Nat) (v1 : Int32) (v2 : Int32) (v3 : Int32) (sz sl : Nat) (o : hp_O) (ho : sz ≤ o.2.2.1 ∧ sl ≤ o.2.2.2) : ∀ (k : Nat) (s : Int32 × hp_H) (x : hp_H), hp_lp (fL_X1_areApart_20 n v0 v1 v2 v3) k s = some x → (∀ y : hp_H, x = y → hp_V G m_X1_areApart 76 [(0, .ref v0), (1, .int v1)] [] y sz sl o) → hp_V G m_X1_areApart 20 [(0, .ref v0), (1, .int v1), (2, .int v2), (3, .int v3), (4, .int s.1)] [] s.2 sz sl o := by
  intro k
  induction k with
  | zero => intro s x hx; exact (hp_lp_0 hx).elim
  | succ k ih =>
    intro s x hx k0
    obtain ⟨r, hr, hc⟩ := hp_lp_1 hx
    refine q_X1_areApart_20 G n v0 v1 v2 v3 s.1 s.2 sz sl o ho r hr (fun s2 e => ?_) (fun y e => ?_)
    · rcases hc with ⟨s3, e3, hx3⟩ | e3
      · have e4 := Sum.inl.inj (e.symm.trans e3)
        subst e4
        exact ih _ _ hx3 k0
      · cases (e.symm.trans e3)
    · rcases hc with ⟨s3, e3, hx3⟩ | e3
      · cases (e.symm.trans e3)
      · exact k0 y (Sum.inr.inj (e3.symm.trans e))
def f_X1_areApart_129 (n : Nat) (v0 : Nat) (v1 : Int32) (v3 : Int32) (v4 : Int32) (h : hp_H) : Option ((Int32) ⊕ (Int32)) :=
  some (.inl (v4 + (1 : Int32)))
set_option maxHeartbeats 1000000 in
set_option maxRecDepth 4000 in
theorem q_X1_areApart_129 (G : hp_G) (n : Nat) (v0 : Nat) (v1 : Int32) (v3 : Int32) (v4 : Int32) (h : hp_H) (sz sl : Nat) (o : hp_O) (ho : sz ≤ o.2.2.1 ∧ sl ≤ o.2.2.2) (res : (Int32) ⊕ (Int32)) (hm : f_X1_areApart_129 n v0 v1 v3 v4 h = some res) (kI : ∀ y : Int32, res = .inl y → hp_V G m_X1_areApart 88 [(0, .ref v0), (1, .int v1), (3, .int v3), (4, .int y)] [] h sz sl o) (kR : ∀ y : Int32, res = .inr y → o = (some (.int y), h, sz, sl)) : hp_V G m_X1_areApart 129 [(0, .ref v0), (1, .int v1), (3, .int v3), (4, .int v4)] [] h sz sl o := by
  unfold f_X1_areApart_129 at hm
  refine hv_iinc (v4 + (1 : Int32)) 3 [(4, .int (v4 + (1 : Int32))), (0, .ref v0), (1, .int v1), (3, .int v3)] dX1_areApart_129 rfl rfl (by decide) rfl ?_
  refine hv_goto (tgt := 88) dX1_areApart_132 (by decide) ?_
  exact hv_sub [1, 2, 3, 0] rfl (kI (v4 + (1 : Int32)) (Option.some.inj hm).symm)
def f_X1_areApart_88 (n : Nat) (v0 : Nat) (v1 : Int32) (v3 : Int32) (v4 : Int32) (h : hp_H) : Option ((Int32) ⊕ (Int32)) :=
  if v3 ≤ v4 then
    some (.inr (1 : Int32))
  else
    (hp_fR h 1 v0 0).bind fun x1 =>
    (f_X5_get n x1 v1 v4 h).bind fun x2 =>
    (hp_fR h 1 v0 2).bind fun x3 =>
    (f_X0_isVariable n x3 x2 h).bind fun x4 =>
    if x4 = 0 then
      f_X1_areApart_129 n v0 v1 v3 v4 h
    else
      (f_X1_isPartnerOfOthers n v0 x2 h).bind fun x5 =>
      if x5 = 0 then
        some (.inr (0 : Int32))
      else
        f_X1_areApart_129 n v0 v1 v3 v4 h
set_option maxHeartbeats 1000000 in
set_option maxRecDepth 4000 in
theorem q_X1_areApart_88 (G : hp_G) (n : Nat) (v0 : Nat) (v1 : Int32) (v3 : Int32) (v4 : Int32) (h : hp_H) (sz sl : Nat) (o : hp_O) (ho : sz ≤ o.2.2.1 ∧ sl ≤ o.2.2.2) (res : (Int32) ⊕ (Int32)) (hm : f_X1_areApart_88 n v0 v1 v3 v4 h = some res) (kI : ∀ y : Int32, res = .inl y → hp_V G m_X1_areApart 88 [(0, .ref v0), (1, .int v1), (3, .int v3), (4, .int y)] [] h sz sl o) (kR : ∀ y : Int32, res = .inr y → o = (some (.int y), h, sz, sl)) : hp_V G m_X1_areApart 88 [(0, .ref v0), (1, .int v1), (3, .int v3), (4, .int v4)] [] h sz sl o := by
  unfold f_X1_areApart_88 at hm
  refine hv_iload 3 dX1_areApart_88 rfl ?_
  refine hv_iload_n 2 dX1_areApart_90 rfl rfl ?_
  refine hv_icmp_ge (tgt := 135) dX1_areApart_91 (by decide) (fun c8 => ?_) (fun c8 => ?_)
  · rw [if_pos c8] at hm
    refine hv_iconst (1 : Int32) dX1_areApart_135 (by decide) ?_
    obtain rfl := kR _ (Option.some.inj hm).symm
    exact hv_zret rfl (by decide) dX1_areApart_136
  · rw [if_neg c8] at hm
    refine hv_aload_n 0 dX1_areApart_94 rfl rfl ?_
    obtain ⟨x1, hx1, hm⟩ := hp_bd hm
    refine hv_get lk_f_X1_14 dX1_areApart_95 (hp_fR_spec hx1) ?_
    refine hv_iload_n 1 dX1_areApart_98 rfl rfl ?_
    refine hv_iload 3 dX1_areApart_99 rfl ?_
    obtain ⟨x2, hx2, hm⟩ := hp_bd hm
    obtain ⟨Vx2, hVx2⟩ := k_X5_get hx2
    refine hv_callV (As := [.int v1, .int v4]) (rest := []) Z_X5_get I_X5_get lk_m_X1_110 rfl hVx2 (c_X5_get G n x1 v1 v4 h sz sl _ hx2) rfl (Nat.le_of_ble_eq_true rfl) ⟨Nat.le_of_ble_eq_true rfl, Nat.le_of_ble_eq_true rfl⟩ ho.1 ho.2 rfl dX1_areApart_101 ?_
    refine hv_as [.int x2] h rfl rfl ?_
    refine hv_istore [(5, .int x2), (0, .ref v0), (1, .int v1), (3, .int v3), (4, .int v4)] dX1_areApart_104 (by decide) rfl ?_
    refine hv_aload_n 1 dX1_areApart_106 rfl rfl ?_
    obtain ⟨x3, hx3, hm⟩ := hp_bd hm
    refine hv_get lk_f_X1_34 dX1_areApart_107 (hp_fR_spec hx3) ?_
    refine hv_iload 0 dX1_areApart_110 rfl ?_
    obtain ⟨x4, hx4, hm⟩ := hp_bd hm
    obtain ⟨Vx4, hVx4⟩ := k_X0_isVariable hx4
    refine hv_callV (As := [.int x2]) (rest := []) Z_X0_isVariable I_X0_isVariable lk_m_X1_140 rfl hVx4 (c_X0_isVariable G n x3 x2 h sz sl _ hx4) rfl (Nat.le_of_ble_eq_true rfl) ⟨Nat.le_of_ble_eq_true rfl, Nat.le_of_ble_eq_true rfl⟩ ho.1 ho.2 rfl dX1_areApart_112 ?_
    refine hv_as [.int x4] h rfl rfl ?_
    refine hv_if_eq (tgt := 129) dX1_areApart_115 (by decide) (fun c7 => ?_) (fun c7 => ?_)
    · rw [if_pos c7] at hm
      exact hv_sub [1, 2, 3, 4] rfl (q_X1_areApart_129 G n v0 v1 v3 v4 h sz sl o ho _ hm kI kR)
    · rw [if_neg c7] at hm
      refine hv_aload_n 1 dX1_areApart_118 rfl rfl ?_
      refine hv_iload 0 dX1_areApart_119 rfl ?_
      obtain ⟨x5, hx5, hm⟩ := hp_bd hm
      obtain ⟨Vx5, hVx5⟩ := k_X1_isPartnerOfOthers hx5
      refine hv_callV (As := [.int x2]) (rest := []) Z_X1_isPartnerOfOthers I_X1_isPartnerOfOthers lk_m_X1_149 rfl hVx5 (c_X1_isPartnerOfOthers G n v0 x2 h sz sl _ hx5) rfl (Nat.le_of_ble_eq_true rfl) ⟨Nat.le_of_ble_eq_true rfl, Nat.le_of_ble_eq_true rfl⟩ ho.1 ho.2 rfl dX1_areApart_121 ?_
      refine hv_as [.int x5] h rfl rfl ?_
      refine hv_if_ne (tgt := 129) dX1_areApart_124 (by decide) (fun c6 => ?_) (fun c6 => ?_)
      · rw [if_neg c6] at hm
        exact hv_sub [1, 2, 3, 4] rfl (q_X1_areApart_129 G n v0 v1 v3 v4 h sz sl o ho _ hm kI kR)
      · rw [if_pos c6] at hm
        refine hv_iconst (0 : Int32) dX1_areApart_127 (by decide) ?_
        obtain rfl := kR _ (Option.some.inj hm).symm
        exact hv_zret rfl (by decide) dX1_areApart_128
def fL_X1_areApart_88 (n : Nat) (v0 : Nat) (v1 : Int32) (v3 : Int32) (h : hp_H) (s : Int32) : Option ((Int32) ⊕ (Int32)) := f_X1_areApart_88 n v0 v1 v3 s h
theorem l_X1_areApart_88 (G : hp_G) (n : Nat) (v0 : Nat) (v1 : Int32) (v3 : Int32) (h : hp_H) (sz sl : Nat) (o : hp_O) (ho : sz ≤ o.2.2.1 ∧ sl ≤ o.2.2.2) : ∀ (k : Nat) (s : Int32) (x : Int32), hp_lp (fL_X1_areApart_88 n v0 v1 v3 h) k s = some x → (∀ y : Int32, x = y → o = (some (.int y), h, sz, sl)) → hp_V G m_X1_areApart 88 [(0, .ref v0), (1, .int v1), (3, .int v3), (4, .int s)] [] h sz sl o := by
  intro k
  induction k with
  | zero => intro s x hx; exact (hp_lp_0 hx).elim
  | succ k ih =>
    intro s x hx k0
    obtain ⟨r, hr, hc⟩ := hp_lp_1 hx
    refine q_X1_areApart_88 G n v0 v1 v3 s h sz sl o ho r hr (fun s2 e => ?_) (fun y e => ?_)
    · rcases hc with ⟨s3, e3, hx3⟩ | e3
      · have e4 := Sum.inl.inj (e.symm.trans e3)
        subst e4
        exact ih _ _ hx3 k0
      · cases (e.symm.trans e3)
    · rcases hc with ⟨s3, e3, hx3⟩ | e3
      · cases (e.symm.trans e3)
      · exact k0 y (Sum.inr.inj (e3.symm.trans e))
def f_X1_areApart_0 (n : Nat) (v0 : Nat) (v1 : Int32) (v2 : Int32) (h : hp_H) : Option (Int32 × hp_H) :=
  (hp_fR h 1 v0 5).bind fun x1 =>
  (f_J7_fill_d0a16 n x1 (0 : Int64) h).bind fun x2 =>
  (hp_fR x2 1 v0 0).bind fun x3 =>
  (f_X5_size n x3 v2 x2).bind fun x4 =>
  (hp_lp (fL_X1_areApart_20 n v0 v1 v2 x4) n ((1 : Int32), x2)).bind fun x5 =>
  (hp_fR x5 1 v0 0).bind fun x7 =>
  (f_X5_size n x7 v1 x5).bind fun x8 =>
  (hp_lp (fL_X1_areApart_88 n v0 v1 x8 x5) n (1 : Int32)).bind fun x9 =>
  some (x9, x5)
set_option maxHeartbeats 1000000 in
set_option maxRecDepth 4000 in
theorem q_X1_areApart_0 (G : hp_G) (n : Nat) (v0 : Nat) (v1 : Int32) (v2 : Int32) (h : hp_H) (sz sl : Nat) (res : Int32 × hp_H) (hm : f_X1_areApart_0 n v0 v1 v2 h = some res) : hp_V G m_X1_areApart 0 [(0, .ref v0), (1, .int v1), (2, .int v2)] [] h sz sl (some (.int res.1), res.2, sz, sl) := by
  have ho : sz ≤ sz ∧ sl ≤ sl := ⟨Nat.le_refl _, Nat.le_refl _⟩
  unfold f_X1_areApart_0 at hm
  refine hv_aload_n 0 dX1_areApart_0 rfl rfl ?_
  obtain ⟨x1, hx1, hm⟩ := hp_bd hm
  refine hv_get lk_f_X1_31 dX1_areApart_1 (hp_fR_spec hx1) ?_
  refine hv_lconst (0 : Int64) dX1_areApart_4 (by decide) ?_
  obtain ⟨x2, hx2, hm⟩ := hp_bd hm
  refine hv_callS (As := [.ref x1, .long (0 : Int64)]) (rest := []) Z_J7_fill_d0a16 I_J7_fill_d0a16 lk_m_X1_98 (c_J7_fill_d0a16 G n x1 (0 : Int64) h sz sl _ hx2) rfl (Nat.le_of_ble_eq_true rfl) ⟨Nat.le_of_ble_eq_true rfl, Nat.le_of_ble_eq_true rfl⟩ ho.1 ho.2 rfl dX1_areApart_5 ?_
  refine hv_as [] x2 rfl rfl ?_
  refine hv_aload_n 0 dX1_areApart_8 rfl rfl ?_
  obtain ⟨x3, hx3, hm⟩ := hp_bd hm
  refine hv_get lk_f_X1_14 dX1_areApart_9 (hp_fR_spec hx3) ?_
  refine hv_iload_n 2 dX1_areApart_12 rfl rfl ?_
  obtain ⟨x4, hx4, hm⟩ := hp_bd hm
  obtain ⟨Vx4, hVx4⟩ := k_X5_size hx4
  refine hv_callV (As := [.int v2]) (rest := []) Z_X5_size I_X5_size lk_m_X1_107 rfl hVx4 (c_X5_size G n x3 v2 x2 sz sl _ hx4) rfl (Nat.le_of_ble_eq_true rfl) ⟨Nat.le_of_ble_eq_true rfl, Nat.le_of_ble_eq_true rfl⟩ ho.1 ho.2 rfl dX1_areApart_13 ?_
  refine hv_as [.int x4] x2 rfl rfl ?_
  refine hv_istore_n [(3, .int x4), (0, .ref v0), (1, .int v1), (2, .int v2)] dX1_areApart_16 rfl (by decide) rfl ?_
  refine hv_iconst (1 : Int32) dX1_areApart_17 (by decide) ?_
  refine hv_istore [(4, .int (1 : Int32)), (3, .int x4), (0, .ref v0), (1, .int v1), (2, .int v2)] dX1_areApart_18 (by decide) rfl ?_
  obtain ⟨x5, hx5, hm⟩ := hp_bd hm
  refine hv_sub [2, 3, 4, 1, 0] rfl (l_X1_areApart_20 G n v0 v1 v2 x4 sz sl _ ho n _ _ hx5 (fun y6 ey6 => ?_))
  · skip
    subst ey6
    refine hv_aload_n 0 dX1_areApart_76 rfl rfl ?_
    obtain ⟨x7, hx7, hm⟩ := hp_bd hm
    refine hv_get lk_f_X1_14 dX1_areApart_77 (hp_fR_spec hx7) ?_
    refine hv_iload_n 1 dX1_areApart_80 rfl rfl ?_
    obtain ⟨x8, hx8, hm⟩ := hp_bd hm
    obtain ⟨Vx8, hVx8⟩ := k_X5_size hx8
    refine hv_callV (As := [.int v1]) (rest := []) Z_X5_size I_X5_size lk_m_X1_107 rfl hVx8 (c_X5_size G n x7 v1 x5 sz sl _ hx8) rfl (Nat.le_of_ble_eq_true rfl) ⟨Nat.le_of_ble_eq_true rfl, Nat.le_of_ble_eq_true rfl⟩ ho.1 ho.2 rfl dX1_areApart_81 ?_
    refine hv_as [.int x8] x5 rfl rfl ?_
    refine hv_istore_n [(3, .int x8), (0, .ref v0), (1, .int v1)] dX1_areApart_84 rfl (by decide) rfl ?_
    refine hv_iconst (1 : Int32) dX1_areApart_85 (by decide) ?_
    refine hv_istore [(4, .int (1 : Int32)), (3, .int x8), (0, .ref v0), (1, .int v1)] dX1_areApart_86 (by decide) rfl ?_
    obtain ⟨x9, hx9, hm⟩ := hp_bd hm
    refine hv_sub [2, 3, 1, 0] rfl (l_X1_areApart_88 G n v0 v1 x8 x5 sz sl _ ho n _ _ hx9 (fun y10 ey10 => ?_))
    · skip
      subst ey10
      obtain rfl := Option.some.inj hm
      rfl
def f_X1_areApart (n : Nat) (v0 : Nat) (v1 : Int32) (v2 : Int32) (h : hp_H) : Option (Int32 × hp_H) := (hp_ck h 1 v0).bind fun _ => f_X1_areApart_0 n v0 v1 v2 h
theorem c_X1_areApart (G : hp_G) (n : Nat) (v0 : Nat) (v1 : Int32) (v2 : Int32) (h : hp_H) (sz sl : Nat) (res : Int32 × hp_H) (hm : f_X1_areApart n v0 v1 v2 h = some res) : hp_C G m_X1_areApart yX1_areApart [.ref v0, .int v1, .int v2] h sz sl (some (.int res.1), res.2, sz, sl) := by
  unfold f_X1_areApart at hm
  obtain ⟨_, _, hm⟩ := hp_bd hm
  exact hp_C_of (by decide) rfl rfl (Nat.le_of_ble_eq_true rfl) (Nat.le_refl _) (Nat.le_refl _) (hv_sub [0, 1, 2] rfl (q_X1_areApart_0 G n v0 v1 v2 h sz sl res hm))
theorem k_X1_areApart {n : Nat} {v0 : Nat} {v1 : Int32} {v2 : Int32} {h : hp_H} {res : Int32 × hp_H} (hm : f_X1_areApart n v0 v1 v2 h = some res) : ∃ V, h v0 = some (.inr (.inr (1, V))) := by
  unfold f_X1_areApart at hm
  obtain ⟨_, hu, _⟩ := hp_bd hm
  exact hp_ck_spec hu
abbrev m_X1_keepsApart : hp_M := (RX1, cX1_keepsApart, 5, some .boolean, 2, 49, "keepsApart")
theorem Z_X1_keepsApart : hp_Y yX1_keepsApart m_X1_keepsApart 1 := Y_X1_keepsApart
def f_X1_keepsApart_14 (n : Nat) (v0 : Nat) (v1 : Int32) (v2 : Int32) (v3 : Int32) (h : hp_H) : Option ((Int32 × hp_H) ⊕ (Int32 × hp_H)) :=
  if v2 ≤ v3 then
    some (.inr ((1 : Int32), h))
  else
    (hp_fR h 1 v0 2).bind fun x1 =>
    (hp_fR h 0 x1 13).bind fun x2 =>
    (f_X5_get n x2 v1 v3 h).bind fun x3 =>
    (hp_fR h 1 v0 3).bind fun x4 =>
    (hp_aI h 0 x4 (x3 / (300 : Int32))).bind fun x5 =>
    (hp_fR h 1 v0 3).bind fun x6 =>
    (hp_aI h 0 x6 (x3 - x3 / (300 : Int32) * (300 : Int32))).bind fun x7 =>
    (f_X1_areApart n v0 x5 x7 h).bind fun x8 =>
    if x8.1 = 0 then
      some (.inr ((0 : Int32), x8.2))
    else
      some (.inl ((v3 + (1 : Int32)), x8.2))
set_option maxHeartbeats 1000000 in
set_option maxRecDepth 4000 in
theorem q_X1_keepsApart_14 (G : hp_G) (n : Nat) (v0 : Nat) (v1 : Int32) (v2 : Int32) (v3 : Int32) (h : hp_H) (sz sl : Nat) (o : hp_O) (ho : sz ≤ o.2.2.1 ∧ sl ≤ o.2.2.2) (res : (Int32 × hp_H) ⊕ (Int32 × hp_H)) (hm : f_X1_keepsApart_14 n v0 v1 v2 v3 h = some res) (kI : ∀ y : Int32 × hp_H, res = .inl y → hp_V G m_X1_keepsApart 14 [(0, .ref v0), (1, .int v1), (2, .int v2), (3, .int y.1)] [] y.2 sz sl o) (kR : ∀ y : Int32 × hp_H, res = .inr y → o = (some (.int y.1), y.2, sz, sl)) : hp_V G m_X1_keepsApart 14 [(0, .ref v0), (1, .int v1), (2, .int v2), (3, .int v3)] [] h sz sl o := by
  unfold f_X1_keepsApart_14 at hm
  refine hv_iload_n 3 dX1_keepsApart_14 rfl rfl ?_
  refine hv_iload_n 2 dX1_keepsApart_15 rfl rfl ?_
  refine hv_icmp_ge (tgt := 70) dX1_keepsApart_16 (by decide) (fun c10 => ?_) (fun c10 => ?_)
  · rw [if_pos c10] at hm
    refine hv_iconst (1 : Int32) dX1_keepsApart_70 (by decide) ?_
    obtain rfl := kR _ (Option.some.inj hm).symm
    exact hv_zret rfl (by decide) dX1_keepsApart_71
  · rw [if_neg c10] at hm
    refine hv_aload_n 0 dX1_keepsApart_19 rfl rfl ?_
    obtain ⟨x1, hx1, hm⟩ := hp_bd hm
    refine hv_get lk_f_X1_34 dX1_keepsApart_20 (hp_fR_spec hx1) ?_
    obtain ⟨x2, hx2, hm⟩ := hp_bd hm
    refine hv_get lk_f_X1_143 dX1_keepsApart_23 (hp_fR_spec hx2) ?_
    refine hv_iload_n 1 dX1_keepsApart_26 rfl rfl ?_
    refine hv_iload_n 3 dX1_keepsApart_27 rfl rfl ?_
    obtain ⟨x3, hx3, hm⟩ := hp_bd hm
    obtain ⟨Vx3, hVx3⟩ := k_X5_get hx3
    refine hv_callV (As := [.int v1, .int v3]) (rest := []) Z_X5_get I_X5_get lk_m_X1_110 rfl hVx3 (c_X5_get G n x2 v1 v3 h sz sl _ hx3) rfl (Nat.le_of_ble_eq_true rfl) ⟨Nat.le_of_ble_eq_true rfl, Nat.le_of_ble_eq_true rfl⟩ ho.1 ho.2 rfl dX1_keepsApart_28 ?_
    refine hv_as [.int x3] h rfl rfl ?_
    refine hv_istore [(4, .int x3), (0, .ref v0), (1, .int v1), (2, .int v2), (3, .int v3)] dX1_keepsApart_31 (by decide) rfl ?_
    refine hv_aload_n 1 dX1_keepsApart_33 rfl rfl ?_
    refine hv_aload_n 1 dX1_keepsApart_34 rfl rfl ?_
    obtain ⟨x4, hx4, hm⟩ := hp_bd hm
    refine hv_get lk_f_X1_23 dX1_keepsApart_35 (hp_fR_spec hx4) ?_
    refine hv_iload 0 dX1_keepsApart_38 rfl ?_
    refine hv_sipush (300 : Int32) dX1_keepsApart_40 (by decide) ?_
    refine hv_idiv dX1_keepsApart_43 (by decide) ?_
    obtain ⟨x5, hx5, hm⟩ := hp_bd hm
    refine hv_iald dX1_keepsApart_44 hx5 ?_
    refine hv_aload_n 1 dX1_keepsApart_45 rfl rfl ?_
    obtain ⟨x6, hx6, hm⟩ := hp_bd hm
    refine hv_get lk_f_X1_23 dX1_keepsApart_46 (hp_fR_spec hx6) ?_
    refine hv_iload 0 dX1_keepsApart_49 rfl ?_
    refine hv_sipush (300 : Int32) dX1_keepsApart_51 (by decide) ?_
    refine hv_irem dX1_keepsApart_54 (by decide) ?_
    obtain ⟨x7, hx7, hm⟩ := hp_bd hm
    refine hv_iald dX1_keepsApart_55 hx7 ?_
    obtain ⟨x8, hx8, hm⟩ := hp_bd hm
    obtain ⟨Vx8, hVx8⟩ := k_X1_areApart hx8
    refine hv_callV (As := [.int x5, .int x7]) (rest := []) Z_X1_areApart I_X1_areApart lk_m_X1_146 rfl hVx8 (c_X1_areApart G n v0 x5 x7 h sz sl _ hx8) rfl (Nat.le_of_ble_eq_true rfl) ⟨Nat.le_of_ble_eq_true rfl, Nat.le_of_ble_eq_true rfl⟩ ho.1 ho.2 rfl dX1_keepsApart_56 ?_
    refine hv_as [.int x8.1] x8.2 rfl rfl ?_
    refine hv_if_ne (tgt := 64) dX1_keepsApart_59 (by decide) (fun c9 => ?_) (fun c9 => ?_)
    · rw [if_neg c9] at hm
      refine hv_iinc (v3 + (1 : Int32)) 4 [(3, .int (v3 + (1 : Int32))), (4, .int x3), (0, .ref v0), (1, .int v1), (2, .int v2)] dX1_keepsApart_64 rfl rfl (by decide) rfl ?_
      refine hv_goto (tgt := 14) dX1_keepsApart_67 (by decide) ?_
      exact hv_sub [2, 3, 4, 0] rfl (kI ((v3 + (1 : Int32)), x8.2) (Option.some.inj hm).symm)
    · rw [if_pos c9] at hm
      refine hv_iconst (0 : Int32) dX1_keepsApart_62 (by decide) ?_
      obtain rfl := kR _ (Option.some.inj hm).symm
      exact hv_zret rfl (by decide) dX1_keepsApart_63
def fL_X1_keepsApart_14 (n : Nat) (v0 : Nat) (v1 : Int32) (v2 : Int32) (s : Int32 × hp_H) : Option ((Int32 × hp_H) ⊕ (Int32 × hp_H)) := f_X1_keepsApart_14 n v0 v1 v2 s.1 s.2
theorem l_X1_keepsApart_14 (G : hp_G) (n : Nat) (v0 : Nat) (v1 : Int32) (v2 : Int32) (sz sl : Nat) (o : hp_O) (ho : sz ≤ o.2.2.1 ∧ sl ≤ o.2.2.2) : ∀ (k : Nat) (s : Int32 × hp_H) (x : Int32 × hp_H), hp_lp (fL_X1_keepsApart_14 n v0 v1 v2) k s = some x → (∀ y : Int32 × hp_H, x = y → o = (some (.int y.1), y.2, sz, sl)) → hp_V G m_X1_keepsApart 14 [(0, .ref v0), (1, .int v1), (2, .int v2), (3, .int s.1)] [] s.2 sz sl o := by
  intro k
  induction k with
  | zero => intro s x hx; exact (hp_lp_0 hx).elim
  | succ k ih =>
    intro s x hx k0
    obtain ⟨r, hr, hc⟩ := hp_lp_1 hx
    refine q_X1_keepsApart_14 G n v0 v1 v2 s.1 s.2 sz sl o ho r hr (fun s2 e => ?_) (fun y e => ?_)
    · rcases hc with ⟨s3, e3, hx3⟩ | e3
      · have e4 := Sum.inl.inj (e.symm.trans e3)
        subst e4
        exact ih _ _ hx3 k0
      · cases (e.symm.trans e3)
    · rcases hc with ⟨s3, e3, hx3⟩ | e3
      · cases (e.symm.trans e3)
      · exact k0 y (Sum.inr.inj (e3.symm.trans e))
def f_X1_keepsApart_0 (n : Nat) (v0 : Nat) (v1 : Int32) (h : hp_H) : Option (Int32 × hp_H) :=
  (hp_fR h 1 v0 2).bind fun x1 =>
  (hp_fR h 0 x1 13).bind fun x2 =>
  (f_X5_size n x2 v1 h).bind fun x3 =>
  (hp_lp (fL_X1_keepsApart_14 n v0 v1 x3) n ((0 : Int32), h)).bind fun x4 =>
  some (x4.1, x4.2)
set_option maxHeartbeats 1000000 in
set_option maxRecDepth 4000 in
theorem q_X1_keepsApart_0 (G : hp_G) (n : Nat) (v0 : Nat) (v1 : Int32) (h : hp_H) (sz sl : Nat) (res : Int32 × hp_H) (hm : f_X1_keepsApart_0 n v0 v1 h = some res) : hp_V G m_X1_keepsApart 0 [(0, .ref v0), (1, .int v1)] [] h sz sl (some (.int res.1), res.2, sz, sl) := by
  have ho : sz ≤ sz ∧ sl ≤ sl := ⟨Nat.le_refl _, Nat.le_refl _⟩
  unfold f_X1_keepsApart_0 at hm
  refine hv_aload_n 0 dX1_keepsApart_0 rfl rfl ?_
  obtain ⟨x1, hx1, hm⟩ := hp_bd hm
  refine hv_get lk_f_X1_34 dX1_keepsApart_1 (hp_fR_spec hx1) ?_
  obtain ⟨x2, hx2, hm⟩ := hp_bd hm
  refine hv_get lk_f_X1_143 dX1_keepsApart_4 (hp_fR_spec hx2) ?_
  refine hv_iload_n 1 dX1_keepsApart_7 rfl rfl ?_
  obtain ⟨x3, hx3, hm⟩ := hp_bd hm
  obtain ⟨Vx3, hVx3⟩ := k_X5_size hx3
  refine hv_callV (As := [.int v1]) (rest := []) Z_X5_size I_X5_size lk_m_X1_107 rfl hVx3 (c_X5_size G n x2 v1 h sz sl _ hx3) rfl (Nat.le_of_ble_eq_true rfl) ⟨Nat.le_of_ble_eq_true rfl, Nat.le_of_ble_eq_true rfl⟩ ho.1 ho.2 rfl dX1_keepsApart_8 ?_
  refine hv_as [.int x3] h rfl rfl ?_
  refine hv_istore_n [(2, .int x3), (0, .ref v0), (1, .int v1)] dX1_keepsApart_11 rfl (by decide) rfl ?_
  refine hv_iconst (0 : Int32) dX1_keepsApart_12 (by decide) ?_
  refine hv_istore_n [(3, .int (0 : Int32)), (2, .int x3), (0, .ref v0), (1, .int v1)] dX1_keepsApart_13 rfl (by decide) rfl ?_
  obtain ⟨x4, hx4, hm⟩ := hp_bd hm
  refine hv_sub [2, 3, 1, 0] rfl (l_X1_keepsApart_14 G n v0 v1 x3 sz sl _ ho n _ _ hx4 (fun y5 ey5 => ?_))
  · skip
    subst ey5
    obtain rfl := Option.some.inj hm
    rfl
def f_X1_keepsApart (n : Nat) (v0 : Nat) (v1 : Int32) (h : hp_H) : Option (Int32 × hp_H) := (hp_ck h 1 v0).bind fun _ => f_X1_keepsApart_0 n v0 v1 h
theorem c_X1_keepsApart (G : hp_G) (n : Nat) (v0 : Nat) (v1 : Int32) (h : hp_H) (sz sl : Nat) (res : Int32 × hp_H) (hm : f_X1_keepsApart n v0 v1 h = some res) : hp_C G m_X1_keepsApart yX1_keepsApart [.ref v0, .int v1] h sz sl (some (.int res.1), res.2, sz, sl) := by
  unfold f_X1_keepsApart at hm
  obtain ⟨_, _, hm⟩ := hp_bd hm
  exact hp_C_of (by decide) rfl rfl (Nat.le_of_ble_eq_true rfl) (Nat.le_refl _) (Nat.le_refl _) (hv_sub [0, 1] rfl (q_X1_keepsApart_0 G n v0 v1 h sz sl res hm))
theorem k_X1_keepsApart {n : Nat} {v0 : Nat} {v1 : Int32} {h : hp_H} {res : Int32 × hp_H} (hm : f_X1_keepsApart n v0 v1 h = some res) : ∃ V, h v0 = some (.inr (.inr (1, V))) := by
  unfold f_X1_keepsApart at hm
  obtain ⟨_, hu, _⟩ := hp_bd hm
  exact hp_ck_spec hu
abbrev m_X1_sizeOf : hp_M := (RX1, cX1_sizeOf, 6, some .int, 1, 22, "sizeOf")
theorem Z_X1_sizeOf : hp_Y yX1_sizeOf m_X1_sizeOf 1 := Y_X1_sizeOf
def f_X1_sizeOf_71 (n : Nat) (v0 : Nat) (v1 : Int32) (v3 : Int32) (v4 : Int32) (s0 : Int32) (s1 : Int32) (h : hp_H) : Option ((Int32 × Int32) ⊕ (Int32)) :=
  some (.inl ((s1 + s0), (v4 + (1 : Int32))))
set_option maxHeartbeats 1000000 in
set_option maxRecDepth 4000 in
theorem q_X1_sizeOf_71 (G : hp_G) (n : Nat) (v0 : Nat) (v1 : Int32) (v3 : Int32) (v4 : Int32) (s0 : Int32) (s1 : Int32) (h : hp_H) (sz sl : Nat) (o : hp_O) (ho : sz ≤ o.2.2.1 ∧ sl ≤ o.2.2.2) (res : (Int32 × Int32) ⊕ (Int32)) (hm : f_X1_sizeOf_71 n v0 v1 v3 v4 s0 s1 h = some res) (kI : ∀ y : Int32 × Int32, res = .inl y → hp_V G m_X1_sizeOf 17 [(0, .ref v0), (1, .int v1), (2, .int y.1), (3, .int v3), (4, .int y.2)] [] h sz sl o) (kR : ∀ y : Int32, res = .inr y → o = (some (.int y), h, sz, sl)) : hp_V G m_X1_sizeOf 71 [(0, .ref v0), (1, .int v1), (3, .int v3), (4, .int v4)] [.int s0, .int s1] h sz sl o := by
  unfold f_X1_sizeOf_71 at hm
  refine hv_iadd dX1_sizeOf_71 ?_
  refine hv_istore_n [(2, .int (s1 + s0)), (0, .ref v0), (1, .int v1), (3, .int v3), (4, .int v4)] dX1_sizeOf_72 rfl (by decide) rfl ?_
  refine hv_iinc (v4 + (1 : Int32)) 4 [(4, .int (v4 + (1 : Int32))), (2, .int (s1 + s0)), (0, .ref v0), (1, .int v1), (3, .int v3)] dX1_sizeOf_73 rfl rfl (by decide) rfl ?_
  refine hv_goto (tgt := 17) dX1_sizeOf_76 (by decide) ?_
  exact hv_sub [2, 3, 1, 4, 0] rfl (kI ((s1 + s0), (v4 + (1 : Int32))) (Option.some.inj hm).symm)
def f_X1_sizeOf_17 (n : Nat) (v0 : Nat) (v1 : Int32) (v2 : Int32) (v3 : Int32) (v4 : Int32) (h : hp_H) : Option ((Int32 × Int32) ⊕ (Int32)) :=
  if v3 ≤ v4 then
    some (.inr v2)
  else
    (hp_fR h 1 v0 2).bind fun x1 =>
    (hp_fR h 0 x1 9).bind fun x2 =>
    (f_X5_get n x2 v1 v4 h).bind fun x3 =>
    (hp_fR h 1 v0 2).bind fun x4 =>
    (f_X0_isVariable n x4 x3 h).bind fun x5 =>
    if x5 = 0 then
      f_X1_sizeOf_71 n v0 v1 v3 v4 (1 : Int32) v2 h
    else
      (hp_fR h 1 v0 0).bind fun x6 =>
      (hp_fR h 1 v0 3).bind fun x7 =>
      (hp_aI h 0 x7 x3).bind fun x8 =>
      (f_X5_size n x6 x8 h).bind fun x9 =>
      f_X1_sizeOf_71 n v0 v1 v3 v4 (x9 - (1 : Int32)) v2 h
set_option maxHeartbeats 1000000 in
set_option maxRecDepth 4000 in
theorem q_X1_sizeOf_17 (G : hp_G) (n : Nat) (v0 : Nat) (v1 : Int32) (v2 : Int32) (v3 : Int32) (v4 : Int32) (h : hp_H) (sz sl : Nat) (o : hp_O) (ho : sz ≤ o.2.2.1 ∧ sl ≤ o.2.2.2) (res : (Int32 × Int32) ⊕ (Int32)) (hm : f_X1_sizeOf_17 n v0 v1 v2 v3 v4 h = some res) (kI : ∀ y : Int32 × Int32, res = .inl y → hp_V G m_X1_sizeOf 17 [(0, .ref v0), (1, .int v1), (2, .int y.1), (3, .int v3), (4, .int y.2)] [] h sz sl o) (kR : ∀ y : Int32, res = .inr y → o = (some (.int y), h, sz, sl)) : hp_V G m_X1_sizeOf 17 [(0, .ref v0), (1, .int v1), (2, .int v2), (3, .int v3), (4, .int v4)] [] h sz sl o := by
  unfold f_X1_sizeOf_17 at hm
  refine hv_iload 4 dX1_sizeOf_17 rfl ?_
  refine hv_iload_n 3 dX1_sizeOf_19 rfl rfl ?_
  refine hv_icmp_ge (tgt := 79) dX1_sizeOf_20 (by decide) (fun c11 => ?_) (fun c11 => ?_)
  · rw [if_pos c11] at hm
    refine hv_iload_n 2 dX1_sizeOf_79 rfl rfl ?_
    obtain rfl := kR _ (Option.some.inj hm).symm
    exact hv_iret rfl dX1_sizeOf_80
  · rw [if_neg c11] at hm
    refine hv_aload_n 0 dX1_sizeOf_23 rfl rfl ?_
    obtain ⟨x1, hx1, hm⟩ := hp_bd hm
    refine hv_get lk_f_X1_34 dX1_sizeOf_24 (hp_fR_spec hx1) ?_
    obtain ⟨x2, hx2, hm⟩ := hp_bd hm
    refine hv_get lk_f_X1_91 dX1_sizeOf_27 (hp_fR_spec hx2) ?_
    refine hv_iload_n 1 dX1_sizeOf_30 rfl rfl ?_
    refine hv_iload 4 dX1_sizeOf_31 rfl ?_
    obtain ⟨x3, hx3, hm⟩ := hp_bd hm
    obtain ⟨Vx3, hVx3⟩ := k_X5_get hx3
    refine hv_callV (As := [.int v1, .int v4]) (rest := []) Z_X5_get I_X5_get lk_m_X1_110 rfl hVx3 (c_X5_get G n x2 v1 v4 h sz sl _ hx3) rfl (Nat.le_of_ble_eq_true rfl) ⟨Nat.le_of_ble_eq_true rfl, Nat.le_of_ble_eq_true rfl⟩ ho.1 ho.2 rfl dX1_sizeOf_33 ?_
    refine hv_as [.int x3] h rfl rfl ?_
    refine hv_istore [(5, .int x3), (0, .ref v0), (1, .int v1), (2, .int v2), (3, .int v3), (4, .int v4)] dX1_sizeOf_36 (by decide) rfl ?_
    refine hv_iload_n 3 dX1_sizeOf_38 rfl rfl ?_
    refine hv_aload_n 1 dX1_sizeOf_39 rfl rfl ?_
    obtain ⟨x4, hx4, hm⟩ := hp_bd hm
    refine hv_get lk_f_X1_34 dX1_sizeOf_40 (hp_fR_spec hx4) ?_
    refine hv_iload 0 dX1_sizeOf_43 rfl ?_
    obtain ⟨x5, hx5, hm⟩ := hp_bd hm
    obtain ⟨Vx5, hVx5⟩ := k_X0_isVariable hx5
    refine hv_callV (As := [.int x3]) (rest := [.int v2]) Z_X0_isVariable I_X0_isVariable lk_m_X1_140 rfl hVx5 (c_X0_isVariable G n x4 x3 h sz sl _ hx5) rfl (Nat.le_of_ble_eq_true rfl) ⟨Nat.le_of_ble_eq_true rfl, Nat.le_of_ble_eq_true rfl⟩ ho.1 ho.2 rfl dX1_sizeOf_45 ?_
    refine hv_as [.int x5, .int v2] h rfl rfl ?_
    refine hv_if_eq (tgt := 70) dX1_sizeOf_48 (by decide) (fun c10 => ?_) (fun c10 => ?_)
    · rw [if_pos c10] at hm
      refine hv_iconst (1 : Int32) dX1_sizeOf_70 (by decide) ?_
      exact hv_sub [1, 2, 4, 5] rfl (q_X1_sizeOf_71 G n v0 v1 v3 v4 (1 : Int32) v2 h sz sl o ho _ hm kI kR)
    · rw [if_neg c10] at hm
      refine hv_aload_n 1 dX1_sizeOf_51 rfl rfl ?_
      obtain ⟨x6, hx6, hm⟩ := hp_bd hm
      refine hv_get lk_f_X1_14 dX1_sizeOf_52 (hp_fR_spec hx6) ?_
      refine hv_aload_n 1 dX1_sizeOf_55 rfl rfl ?_
      obtain ⟨x7, hx7, hm⟩ := hp_bd hm
      refine hv_get lk_f_X1_23 dX1_sizeOf_56 (hp_fR_spec hx7) ?_
      refine hv_iload 0 dX1_sizeOf_59 rfl ?_
      obtain ⟨x8, hx8, hm⟩ := hp_bd hm
      refine hv_iald dX1_sizeOf_61 hx8 ?_
      obtain ⟨x9, hx9, hm⟩ := hp_bd hm
      obtain ⟨Vx9, hVx9⟩ := k_X5_size hx9
      refine hv_callV (As := [.int x8]) (rest := [.int v2]) Z_X5_size I_X5_size lk_m_X1_107 rfl hVx9 (c_X5_size G n x6 x8 h sz sl _ hx9) rfl (Nat.le_of_ble_eq_true rfl) ⟨Nat.le_of_ble_eq_true rfl, Nat.le_of_ble_eq_true rfl⟩ ho.1 ho.2 rfl dX1_sizeOf_62 ?_
      refine hv_as [.int x9, .int v2] h rfl rfl ?_
      refine hv_iconst (1 : Int32) dX1_sizeOf_65 (by decide) ?_
      refine hv_isub dX1_sizeOf_66 ?_
      refine hv_goto (tgt := 71) dX1_sizeOf_67 (by decide) ?_
      exact hv_sub [1, 2, 4, 5] rfl (q_X1_sizeOf_71 G n v0 v1 v3 v4 (x9 - (1 : Int32)) v2 h sz sl o ho _ hm kI kR)
def fL_X1_sizeOf_17 (n : Nat) (v0 : Nat) (v1 : Int32) (v3 : Int32) (h : hp_H) (s : Int32 × Int32) : Option ((Int32 × Int32) ⊕ (Int32)) := f_X1_sizeOf_17 n v0 v1 s.1 v3 s.2 h
theorem l_X1_sizeOf_17 (G : hp_G) (n : Nat) (v0 : Nat) (v1 : Int32) (v3 : Int32) (h : hp_H) (sz sl : Nat) (o : hp_O) (ho : sz ≤ o.2.2.1 ∧ sl ≤ o.2.2.2) : ∀ (k : Nat) (s : Int32 × Int32) (x : Int32), hp_lp (fL_X1_sizeOf_17 n v0 v1 v3 h) k s = some x → (∀ y : Int32, x = y → o = (some (.int y), h, sz, sl)) → hp_V G m_X1_sizeOf 17 [(0, .ref v0), (1, .int v1), (2, .int s.1), (3, .int v3), (4, .int s.2)] [] h sz sl o := by
  intro k
  induction k with
  | zero => intro s x hx; exact (hp_lp_0 hx).elim
  | succ k ih =>
    intro s x hx k0
    obtain ⟨r, hr, hc⟩ := hp_lp_1 hx
    refine q_X1_sizeOf_17 G n v0 v1 s.1 v3 s.2 h sz sl o ho r hr (fun s2 e => ?_) (fun y e => ?_)
    · rcases hc with ⟨s3, e3, hx3⟩ | e3
      · have e4 := Sum.inl.inj (e.symm.trans e3)
        subst e4
        exact ih _ _ hx3 k0
      · cases (e.symm.trans e3)
    · rcases hc with ⟨s3, e3, hx3⟩ | e3
      · cases (e.symm.trans e3)
      · exact k0 y (Sum.inr.inj (e3.symm.trans e))
def f_X1_sizeOf_0 (n : Nat) (v0 : Nat) (v1 : Int32) (h : hp_H) : Option (Int32) :=
  (hp_fR h 1 v0 2).bind fun x1 =>
  (hp_fR h 0 x1 9).bind fun x2 =>
  (f_X5_size n x2 v1 h).bind fun x3 =>
  (hp_lp (fL_X1_sizeOf_17 n v0 v1 x3 h) n ((0 : Int32), (0 : Int32))).bind fun x4 =>
  some x4
set_option maxHeartbeats 1000000 in
set_option maxRecDepth 4000 in
theorem q_X1_sizeOf_0 (G : hp_G) (n : Nat) (v0 : Nat) (v1 : Int32) (h : hp_H) (sz sl : Nat) (res : Int32) (hm : f_X1_sizeOf_0 n v0 v1 h = some res) : hp_V G m_X1_sizeOf 0 [(0, .ref v0), (1, .int v1)] [] h sz sl (some (.int res), h, sz, sl) := by
  have ho : sz ≤ sz ∧ sl ≤ sl := ⟨Nat.le_refl _, Nat.le_refl _⟩
  unfold f_X1_sizeOf_0 at hm
  refine hv_iconst (0 : Int32) dX1_sizeOf_0 (by decide) ?_
  refine hv_istore_n [(2, .int (0 : Int32)), (0, .ref v0), (1, .int v1)] dX1_sizeOf_1 rfl (by decide) rfl ?_
  refine hv_aload_n 1 dX1_sizeOf_2 rfl rfl ?_
  obtain ⟨x1, hx1, hm⟩ := hp_bd hm
  refine hv_get lk_f_X1_34 dX1_sizeOf_3 (hp_fR_spec hx1) ?_
  obtain ⟨x2, hx2, hm⟩ := hp_bd hm
  refine hv_get lk_f_X1_91 dX1_sizeOf_6 (hp_fR_spec hx2) ?_
  refine hv_iload_n 2 dX1_sizeOf_9 rfl rfl ?_
  obtain ⟨x3, hx3, hm⟩ := hp_bd hm
  obtain ⟨Vx3, hVx3⟩ := k_X5_size hx3
  refine hv_callV (As := [.int v1]) (rest := []) Z_X5_size I_X5_size lk_m_X1_107 rfl hVx3 (c_X5_size G n x2 v1 h sz sl _ hx3) rfl (Nat.le_of_ble_eq_true rfl) ⟨Nat.le_of_ble_eq_true rfl, Nat.le_of_ble_eq_true rfl⟩ ho.1 ho.2 rfl dX1_sizeOf_10 ?_
  refine hv_as [.int x3] h rfl rfl ?_
  refine hv_istore_n [(3, .int x3), (2, .int (0 : Int32)), (0, .ref v0), (1, .int v1)] dX1_sizeOf_13 rfl (by decide) rfl ?_
  refine hv_iconst (0 : Int32) dX1_sizeOf_14 (by decide) ?_
  refine hv_istore [(4, .int (0 : Int32)), (3, .int x3), (2, .int (0 : Int32)), (0, .ref v0), (1, .int v1)] dX1_sizeOf_15 (by decide) rfl ?_
  obtain ⟨x4, hx4, hm⟩ := hp_bd hm
  refine hv_sub [3, 4, 2, 1, 0] rfl (l_X1_sizeOf_17 G n v0 v1 x3 h sz sl _ ho n _ _ hx4 (fun y5 ey5 => ?_))
  · skip
    subst ey5
    obtain rfl := Option.some.inj hm
    rfl
def f_X1_sizeOf (n : Nat) (v0 : Nat) (v1 : Int32) (h : hp_H) : Option (Int32) := (hp_ck h 1 v0).bind fun _ => f_X1_sizeOf_0 n v0 v1 h
theorem c_X1_sizeOf (G : hp_G) (n : Nat) (v0 : Nat) (v1 : Int32) (h : hp_H) (sz sl : Nat) (res : Int32) (hm : f_X1_sizeOf n v0 v1 h = some res) : hp_C G m_X1_sizeOf yX1_sizeOf [.ref v0, .int v1] h sz sl (some (.int res), h, sz, sl) := by
  unfold f_X1_sizeOf at hm
  obtain ⟨_, _, hm⟩ := hp_bd hm
  exact hp_C_of (by decide) rfl rfl (Nat.le_of_ble_eq_true rfl) (Nat.le_refl _) (Nat.le_refl _) (hv_sub [0, 1] rfl (q_X1_sizeOf_0 G n v0 v1 h sz sl res hm))
theorem k_X1_sizeOf {n : Nat} {v0 : Nat} {v1 : Int32} {h : hp_H} {res : Int32} (hm : f_X1_sizeOf n v0 v1 h = some res) : ∃ V, h v0 = some (.inr (.inr (1, V))) := by
  unfold f_X1_sizeOf at hm
  obtain ⟨_, hu, _⟩ := hp_bd hm
  exact hp_ck_spec hu
abbrev m_X1_pushInstance : hp_M := (RX1, cX1_pushInstance, 5, none, 4, 108, "pushInstance")
theorem Z_X1_pushInstance : hp_Y yX1_pushInstance m_X1_pushInstance 1 := Y_X1_pushInstance
abbrev zx_X1_pushInstance_14 : (hp_H × Nat × Nat) → Nat × Nat := (fun y => (y.2.1, y.2.2))
abbrev zz_X1_pushInstance_14 : ((Int32 × hp_H × Nat × Nat) ⊕ (hp_H × Nat × Nat)) → Nat × Nat := Sum.elim (fun y => (y.2.2.1, y.2.2.2)) zx_X1_pushInstance_14
def f_X1_pushInstance_76 (n : Nat) (v0 : Nat) (v1 : Int32) (v2 : Int32) (v3 : Int32) (h : hp_H) (sz sl : Nat) : Option ((Int32 × hp_H × Nat × Nat) ⊕ (hp_H × Nat × Nat)) :=
  some (.inl ((v3 + (1 : Int32)), h, sz, sl))
set_option maxHeartbeats 1000000 in
set_option maxRecDepth 4000 in
theorem mo_X1_pushInstance_76 {n : Nat} {v0 : Nat} {v1 : Int32} {v2 : Int32} {v3 : Int32} {h : hp_H} {sz sl : Nat} {res : (Int32 × hp_H × Nat × Nat) ⊕ (hp_H × Nat × Nat)} (hm : f_X1_pushInstance_76 n v0 v1 v2 v3 h sz sl = some res) : sz ≤ (zz_X1_pushInstance_14 res).1 ∧ sl ≤ (zz_X1_pushInstance_14 res).2 := by
  unfold f_X1_pushInstance_76 at hm
  obtain rfl := Option.some.inj hm
  exact ⟨Nat.le_refl _, Nat.le_refl _⟩
set_option maxHeartbeats 1000000 in
set_option maxRecDepth 4000 in
theorem q_X1_pushInstance_76 (G : hp_G) (n : Nat) (v0 : Nat) (v1 : Int32) (v2 : Int32) (v3 : Int32) (h : hp_H) (sz sl : Nat) (o : hp_O) (res : (Int32 × hp_H × Nat × Nat) ⊕ (hp_H × Nat × Nat)) (hB : (zz_X1_pushInstance_14 res).1 ≤ o.2.2.1 ∧ (zz_X1_pushInstance_14 res).2 ≤ o.2.2.2) (hm : f_X1_pushInstance_76 n v0 v1 v2 v3 h sz sl = some res) (kI : ∀ y : Int32 × hp_H × Nat × Nat, res = .inl y → hp_V G m_X1_pushInstance 14 [(0, .ref v0), (1, .int v1), (2, .int v2), (3, .int y.1)] [] y.2.1 y.2.2.1 y.2.2.2 o) (kX0 : ∀ y : hp_H × Nat × Nat, res = .inr y → hp_V G m_X1_pushInstance 82 [(0, .ref v0)] [] y.1 y.2.1 y.2.2 o) : hp_V G m_X1_pushInstance 76 [(0, .ref v0), (1, .int v1), (2, .int v2), (3, .int v3)] [] h sz sl o := by
  have ho : sz ≤ o.2.2.1 ∧ sl ≤ o.2.2.2 := ⟨Nat.le_trans (mo_X1_pushInstance_76 hm).1 hB.1, Nat.le_trans (mo_X1_pushInstance_76 hm).2 hB.2⟩
  unfold f_X1_pushInstance_76 at hm
  refine hv_iinc (v3 + (1 : Int32)) 3 [(3, .int (v3 + (1 : Int32))), (0, .ref v0), (1, .int v1), (2, .int v2)] dX1_pushInstance_76 rfl rfl (by decide) rfl ?_
  refine hv_goto (tgt := 14) dX1_pushInstance_79 (by decide) ?_
  exact hv_sub [1, 2, 3, 0] rfl (kI ((v3 + (1 : Int32)), h, sz, sl) (Option.some.inj hm).symm)
def f_X1_pushInstance_64 (n : Nat) (v0 : Nat) (v1 : Int32) (v2 : Int32) (v3 : Int32) (h : hp_H) (sz sl : Nat) : Option ((Int32 × hp_H × Nat × Nat) ⊕ (hp_H × Nat × Nat)) :=
  f_X1_pushInstance_76 n v0 v1 v2 v3 h sz sl
set_option maxHeartbeats 1000000 in
set_option maxRecDepth 4000 in
theorem mo_X1_pushInstance_64 {n : Nat} {v0 : Nat} {v1 : Int32} {v2 : Int32} {v3 : Int32} {h : hp_H} {sz sl : Nat} {res : (Int32 × hp_H × Nat × Nat) ⊕ (hp_H × Nat × Nat)} (hm : f_X1_pushInstance_64 n v0 v1 v2 v3 h sz sl = some res) : sz ≤ (zz_X1_pushInstance_14 res).1 ∧ sl ≤ (zz_X1_pushInstance_14 res).2 := by
  unfold f_X1_pushInstance_64 at hm
  exact mo_X1_pushInstance_76 hm
set_option maxHeartbeats 1000000 in
set_option maxRecDepth 4000 in
theorem q_X1_pushInstance_64 (G : hp_G) (n : Nat) (v0 : Nat) (v1 : Int32) (v2 : Int32) (v3 : Int32) (h : hp_H) (sz sl : Nat) (o : hp_O) (res : (Int32 × hp_H × Nat × Nat) ⊕ (hp_H × Nat × Nat)) (hB : (zz_X1_pushInstance_14 res).1 ≤ o.2.2.1 ∧ (zz_X1_pushInstance_14 res).2 ≤ o.2.2.2) (hm : f_X1_pushInstance_64 n v0 v1 v2 v3 h sz sl = some res) (kI : ∀ y : Int32 × hp_H × Nat × Nat, res = .inl y → hp_V G m_X1_pushInstance 14 [(0, .ref v0), (1, .int v1), (2, .int v2), (3, .int y.1)] [] y.2.1 y.2.2.1 y.2.2.2 o) (kX0 : ∀ y : hp_H × Nat × Nat, res = .inr y → hp_V G m_X1_pushInstance 82 [(0, .ref v0)] [] y.1 y.2.1 y.2.2 o) : hp_V G m_X1_pushInstance 64 [(0, .ref v0), (1, .int v1), (2, .int v2), (3, .int v3)] [] h sz sl o := by
  have ho : sz ≤ o.2.2.1 ∧ sl ≤ o.2.2.2 := ⟨Nat.le_trans (mo_X1_pushInstance_64 hm).1 hB.1, Nat.le_trans (mo_X1_pushInstance_64 hm).2 hB.2⟩
  unfold f_X1_pushInstance_64 at hm
  refine hv_goto (tgt := 76) dX1_pushInstance_64 (by decide) ?_
  exact hv_sub [0, 1, 2, 3] rfl (q_X1_pushInstance_76 G n v0 v1 v2 v3 h sz sl o _ hB hm kI kX0)
def f_X1_pushInstance_14 (n : Nat) (v0 : Nat) (v1 : Int32) (v2 : Int32) (v3 : Int32) (h : hp_H) (sz sl : Nat) : Option ((Int32 × hp_H × Nat × Nat) ⊕ (hp_H × Nat × Nat)) :=
  if v2 ≤ v3 then
    some (.inr (h, sz, sl))
  else
    (hp_fR h 1 v0 2).bind fun x1 =>
    (hp_fR h 0 x1 9).bind fun x2 =>
    (f_X5_get n x2 v1 v3 h).bind fun x3 =>
    (hp_fR h 1 v0 2).bind fun x4 =>
    (f_X0_isVariable n x4 x3 h).bind fun x5 =>
    if x5 = 0 then
      (hp_fR h 1 v0 0).bind fun x6 =>
      (f_X5_add n x6 x3 h sz sl).bind fun x7 =>
      f_X1_pushInstance_76 n v0 v1 v2 v3 x7.1 x7.2.1 x7.2.2
    else
      (hp_fR h 1 v0 0).bind fun x8 =>
      (hp_fR h 1 v0 0).bind fun x9 =>
      (hp_fR h 1 v0 3).bind fun x10 =>
      (hp_aI h 0 x10 x3).bind fun x11 =>
      (f_X5_addFrom n x8 x9 x11 (1 : Int32) h sz sl).bind fun x12 =>
      f_X1_pushInstance_64 n v0 v1 v2 v3 x12.1 x12.2.1 x12.2.2
set_option maxHeartbeats 1000000 in
set_option maxRecDepth 4000 in
theorem mo_X1_pushInstance_14 {n : Nat} {v0 : Nat} {v1 : Int32} {v2 : Int32} {v3 : Int32} {h : hp_H} {sz sl : Nat} {res : (Int32 × hp_H × Nat × Nat) ⊕ (hp_H × Nat × Nat)} (hm : f_X1_pushInstance_14 n v0 v1 v2 v3 h sz sl = some res) : sz ≤ (zz_X1_pushInstance_14 res).1 ∧ sl ≤ (zz_X1_pushInstance_14 res).2 := by
  unfold f_X1_pushInstance_14 at hm
  rcases Decidable.em (v2 ≤ v3) with c14 | c14
  · rw [if_pos c14] at hm
    obtain rfl := Option.some.inj hm
    exact ⟨Nat.le_refl _, Nat.le_refl _⟩
  · rw [if_neg c14] at hm
    obtain ⟨x1, hx1, hm⟩ := hp_bd hm
    obtain ⟨x2, hx2, hm⟩ := hp_bd hm
    obtain ⟨x3, hx3, hm⟩ := hp_bd hm
    obtain ⟨x4, hx4, hm⟩ := hp_bd hm
    obtain ⟨x5, hx5, hm⟩ := hp_bd hm
    rcases Decidable.em (x5 = 0) with c13 | c13
    · rw [if_pos c13] at hm
      obtain ⟨x6, hx6, hm⟩ := hp_bd hm
      obtain ⟨x7, hx7, hm⟩ := hp_bd hm
      exact hp_tr (mx_X5_add hx7) (mo_X1_pushInstance_76 hm)
    · rw [if_neg c13] at hm
      obtain ⟨x8, hx8, hm⟩ := hp_bd hm
      obtain ⟨x9, hx9, hm⟩ := hp_bd hm
      obtain ⟨x10, hx10, hm⟩ := hp_bd hm
      obtain ⟨x11, hx11, hm⟩ := hp_bd hm
      obtain ⟨x12, hx12, hm⟩ := hp_bd hm
      exact hp_tr (mx_X5_addFrom hx12) (mo_X1_pushInstance_64 hm)
set_option maxHeartbeats 1000000 in
set_option maxRecDepth 4000 in
theorem q_X1_pushInstance_14 (G : hp_G) (n : Nat) (v0 : Nat) (v1 : Int32) (v2 : Int32) (v3 : Int32) (h : hp_H) (sz sl : Nat) (o : hp_O) (res : (Int32 × hp_H × Nat × Nat) ⊕ (hp_H × Nat × Nat)) (hB : (zz_X1_pushInstance_14 res).1 ≤ o.2.2.1 ∧ (zz_X1_pushInstance_14 res).2 ≤ o.2.2.2) (hm : f_X1_pushInstance_14 n v0 v1 v2 v3 h sz sl = some res) (kI : ∀ y : Int32 × hp_H × Nat × Nat, res = .inl y → hp_V G m_X1_pushInstance 14 [(0, .ref v0), (1, .int v1), (2, .int v2), (3, .int y.1)] [] y.2.1 y.2.2.1 y.2.2.2 o) (kX0 : ∀ y : hp_H × Nat × Nat, res = .inr y → hp_V G m_X1_pushInstance 82 [(0, .ref v0)] [] y.1 y.2.1 y.2.2 o) : hp_V G m_X1_pushInstance 14 [(0, .ref v0), (1, .int v1), (2, .int v2), (3, .int v3)] [] h sz sl o := by
  have ho : sz ≤ o.2.2.1 ∧ sl ≤ o.2.2.2 := ⟨Nat.le_trans (mo_X1_pushInstance_14 hm).1 hB.1, Nat.le_trans (mo_X1_pushInstance_14 hm).2 hB.2⟩
  unfold f_X1_pushInstance_14 at hm
  refine hv_iload_n 3 dX1_pushInstance_14 rfl rfl ?_
  refine hv_iload_n 2 dX1_pushInstance_15 rfl rfl ?_
  refine hv_icmp_ge (tgt := 82) dX1_pushInstance_16 (by decide) (fun c14 => ?_) (fun c14 => ?_)
  · rw [if_pos c14] at hm
    exact hv_sub [0] rfl (kX0 (h, sz, sl) (Option.some.inj hm).symm)
  · rw [if_neg c14] at hm
    refine hv_aload_n 0 dX1_pushInstance_19 rfl rfl ?_
    obtain ⟨x1, hx1, hm⟩ := hp_bd hm
    refine hv_get lk_f_X1_34 dX1_pushInstance_20 (hp_fR_spec hx1) ?_
    obtain ⟨x2, hx2, hm⟩ := hp_bd hm
    refine hv_get lk_f_X1_91 dX1_pushInstance_23 (hp_fR_spec hx2) ?_
    refine hv_iload_n 1 dX1_pushInstance_26 rfl rfl ?_
    refine hv_iload_n 3 dX1_pushInstance_27 rfl rfl ?_
    obtain ⟨x3, hx3, hm⟩ := hp_bd hm
    obtain ⟨Vx3, hVx3⟩ := k_X5_get hx3
    refine hv_callV (As := [.int v1, .int v3]) (rest := []) Z_X5_get I_X5_get lk_m_X1_110 rfl hVx3 (c_X5_get G n x2 v1 v3 h sz sl _ hx3) rfl (Nat.le_of_ble_eq_true rfl) ⟨Nat.le_of_ble_eq_true rfl, Nat.le_of_ble_eq_true rfl⟩ ho.1 ho.2 rfl dX1_pushInstance_28 ?_
    refine hv_as [.int x3] h rfl rfl ?_
    refine hv_istore [(4, .int x3), (0, .ref v0), (1, .int v1), (2, .int v2), (3, .int v3)] dX1_pushInstance_31 (by decide) rfl ?_
    refine hv_aload_n 1 dX1_pushInstance_33 rfl rfl ?_
    obtain ⟨x4, hx4, hm⟩ := hp_bd hm
    refine hv_get lk_f_X1_34 dX1_pushInstance_34 (hp_fR_spec hx4) ?_
    refine hv_iload 0 dX1_pushInstance_37 rfl ?_
    obtain ⟨x5, hx5, hm⟩ := hp_bd hm
    obtain ⟨Vx5, hVx5⟩ := k_X0_isVariable hx5
    refine hv_callV (As := [.int x3]) (rest := []) Z_X0_isVariable I_X0_isVariable lk_m_X1_140 rfl hVx5 (c_X0_isVariable G n x4 x3 h sz sl _ hx5) rfl (Nat.le_of_ble_eq_true rfl) ⟨Nat.le_of_ble_eq_true rfl, Nat.le_of_ble_eq_true rfl⟩ ho.1 ho.2 rfl dX1_pushInstance_39 ?_
    refine hv_as [.int x5] h rfl rfl ?_
    refine hv_if_eq (tgt := 67) dX1_pushInstance_42 (by decide) (fun c13 => ?_) (fun c13 => ?_)
    · rw [if_pos c13] at hm
      refine hv_aload_n 1 dX1_pushInstance_67 rfl rfl ?_
      obtain ⟨x6, hx6, hm⟩ := hp_bd hm
      refine hv_get lk_f_X1_14 dX1_pushInstance_68 (hp_fR_spec hx6) ?_
      refine hv_iload 0 dX1_pushInstance_71 rfl ?_
      obtain ⟨x7, hx7, hm⟩ := hp_bd hm
      have hq := hp_tr (mo_X1_pushInstance_76 hm) hB
      obtain ⟨Vx7, hVx7⟩ := k_X5_add hx7
      refine hv_callV (As := [.int x3]) (rest := []) Z_X5_add I_X5_add lk_m_X1_154 rfl hVx7 (c_X5_add G n x6 x3 h sz sl _ hx7) rfl (Nat.le_of_ble_eq_true rfl) ⟨Nat.le_of_ble_eq_true rfl, Nat.le_of_ble_eq_true rfl⟩ hq.1 hq.2 rfl dX1_pushInstance_73 ?_
      refine hv_as2 [] x7.1 x7.2.1 x7.2.2 rfl rfl rfl rfl ?_
      exact hv_sub [1, 2, 3, 4] rfl (q_X1_pushInstance_76 G n v0 v1 v2 v3 x7.1 x7.2.1 x7.2.2 o _ hB hm kI kX0)
    · rw [if_neg c13] at hm
      refine hv_aload_n 1 dX1_pushInstance_45 rfl rfl ?_
      obtain ⟨x8, hx8, hm⟩ := hp_bd hm
      refine hv_get lk_f_X1_14 dX1_pushInstance_46 (hp_fR_spec hx8) ?_
      refine hv_aload_n 1 dX1_pushInstance_49 rfl rfl ?_
      obtain ⟨x9, hx9, hm⟩ := hp_bd hm
      refine hv_get lk_f_X1_14 dX1_pushInstance_50 (hp_fR_spec hx9) ?_
      refine hv_aload_n 1 dX1_pushInstance_53 rfl rfl ?_
      obtain ⟨x10, hx10, hm⟩ := hp_bd hm
      refine hv_get lk_f_X1_23 dX1_pushInstance_54 (hp_fR_spec hx10) ?_
      refine hv_iload 0 dX1_pushInstance_57 rfl ?_
      obtain ⟨x11, hx11, hm⟩ := hp_bd hm
      refine hv_iald dX1_pushInstance_59 hx11 ?_
      refine hv_iconst (1 : Int32) dX1_pushInstance_60 (by decide) ?_
      obtain ⟨x12, hx12, hm⟩ := hp_bd hm
      have hq := hp_tr (mo_X1_pushInstance_64 hm) hB
      obtain ⟨Vx12, hVx12⟩ := k_X5_addFrom hx12
      refine hv_callV (As := [.ref x9, .int x11, .int (1 : Int32)]) (rest := []) Z_X5_addFrom I_X5_addFrom lk_m_X1_84 rfl hVx12 (c_X5_addFrom G n x8 x9 x11 (1 : Int32) h sz sl _ hx12) rfl (Nat.le_of_ble_eq_true rfl) ⟨Nat.le_of_ble_eq_true rfl, Nat.le_of_ble_eq_true rfl⟩ hq.1 hq.2 rfl dX1_pushInstance_61 ?_
      refine hv_as2 [] x12.1 x12.2.1 x12.2.2 rfl rfl rfl rfl ?_
      exact hv_sub [1, 2, 3, 4] rfl (q_X1_pushInstance_64 G n v0 v1 v2 v3 x12.1 x12.2.1 x12.2.2 o _ hB hm kI kX0)
def fL_X1_pushInstance_14 (n : Nat) (v0 : Nat) (v1 : Int32) (v2 : Int32) (s : Int32 × hp_H × Nat × Nat) : Option ((Int32 × hp_H × Nat × Nat) ⊕ (hp_H × Nat × Nat)) := f_X1_pushInstance_14 n v0 v1 v2 s.1 s.2.1 s.2.2.1 s.2.2.2
theorem ml_X1_pushInstance_14 {n : Nat} {v0 : Nat} {v1 : Int32} {v2 : Int32} : ∀ (k : Nat) (s : Int32 × hp_H × Nat × Nat) (x : hp_H × Nat × Nat), hp_lp (fL_X1_pushInstance_14 n v0 v1 v2) k s = some x → s.2.2.1 ≤ (zx_X1_pushInstance_14 x).1 ∧ s.2.2.2 ≤ (zx_X1_pushInstance_14 x).2 := by
  intro k
  induction k with
  | zero => intro s x hx; exact (hp_lp_0 hx).elim
  | succ k ih =>
    intro s x hx
    obtain ⟨r, hr, hc⟩ := hp_lp_1 hx
    have h1 := mo_X1_pushInstance_14 hr
    rcases hc with ⟨s3, e3, hx3⟩ | e3
    · subst e3
      exact hp_tr h1 (ih _ _ hx3)
    · subst e3
      exact h1
theorem l_X1_pushInstance_14 (G : hp_G) (n : Nat) (v0 : Nat) (v1 : Int32) (v2 : Int32) (o : hp_O) : ∀ (k : Nat) (s : Int32 × hp_H × Nat × Nat) (x : hp_H × Nat × Nat), hp_lp (fL_X1_pushInstance_14 n v0 v1 v2) k s = some x → ((zx_X1_pushInstance_14 x).1 ≤ o.2.2.1 ∧ (zx_X1_pushInstance_14 x).2 ≤ o.2.2.2) → (∀ y : hp_H × Nat × Nat, x = y → hp_V G m_X1_pushInstance 82 [(0, .ref v0)] [] y.1 y.2.1 y.2.2 o) → hp_V G m_X1_pushInstance 14 [(0, .ref v0), (1, .int v1), (2, .int v2), (3, .int s.1)] [] s.2.1 s.2.2.1 s.2.2.2 o := by
  intro k
  induction k with
  | zero => intro s x hx; exact (hp_lp_0 hx).elim
  | succ k ih =>
    intro s x hx hz k0
    obtain ⟨r, hr, hc⟩ := hp_lp_1 hx
    have hB : (zz_X1_pushInstance_14 r).1 ≤ o.2.2.1 ∧ (zz_X1_pushInstance_14 r).2 ≤ o.2.2.2 := by
      rcases hc with ⟨s3, e3, hx3⟩ | e3
      · subst e3
        exact hp_tr (ml_X1_pushInstance_14 _ _ _ hx3) hz
      · subst e3
        exact hz
    refine q_X1_pushInstance_14 G n v0 v1 v2 s.1 s.2.1 s.2.2.1 s.2.2.2 o r hB hr (fun s2 e => ?_) (fun y e => ?_)
    · rcases hc with ⟨s3, e3, hx3⟩ | e3
      · have e4 := Sum.inl.inj (e.symm.trans e3)
        subst e4
        exact ih _ _ hx3 hz k0
      · cases (e.symm.trans e3)
    · rcases hc with ⟨s3, e3, hx3⟩ | e3
      · cases (e.symm.trans e3)
      · exact k0 y (Sum.inr.inj (e3.symm.trans e))
def f_X1_pushInstance_82 (n : Nat) (v0 : Nat) (h : hp_H) (sz sl : Nat) : Option (hp_H × Nat × Nat) :=
  (hp_fR h 1 v0 0).bind fun x1 =>
  (f_X5_endRow n x1 h).bind fun x2 =>
  some (x2, sz, sl)
set_option maxHeartbeats 1000000 in
set_option maxRecDepth 4000 in
theorem mo_X1_pushInstance_82 {n : Nat} {v0 : Nat} {h : hp_H} {sz sl : Nat} {res : hp_H × Nat × Nat} (hm : f_X1_pushInstance_82 n v0 h sz sl = some res) : sz ≤ res.2.1 ∧ sl ≤ res.2.2 := by
  unfold f_X1_pushInstance_82 at hm
  obtain ⟨x1, hx1, hm⟩ := hp_bd hm
  obtain ⟨x2, hx2, hm⟩ := hp_bd hm
  obtain rfl := Option.some.inj hm
  exact ⟨Nat.le_refl _, Nat.le_refl _⟩
set_option maxHeartbeats 1000000 in
set_option maxRecDepth 4000 in
theorem q_X1_pushInstance_82 (G : hp_G) (n : Nat) (v0 : Nat) (h : hp_H) (sz sl : Nat) (res : hp_H × Nat × Nat) (hm : f_X1_pushInstance_82 n v0 h sz sl = some res) : hp_V G m_X1_pushInstance 82 [(0, .ref v0)] [] h sz sl (none, res.1, res.2.1, res.2.2) := by
  have ho := mo_X1_pushInstance_82 hm
  unfold f_X1_pushInstance_82 at hm
  refine hv_aload_n 0 dX1_pushInstance_82 rfl rfl ?_
  obtain ⟨x1, hx1, hm⟩ := hp_bd hm
  refine hv_get lk_f_X1_14 dX1_pushInstance_83 (hp_fR_spec hx1) ?_
  obtain ⟨x2, hx2, hm⟩ := hp_bd hm
  obtain ⟨Vx2, hVx2⟩ := k_X5_endRow hx2
  refine hv_callV (As := []) (rest := []) Z_X5_endRow I_X5_endRow lk_m_X1_88 rfl hVx2 (c_X5_endRow G n x1 h sz sl _ hx2) rfl (Nat.le_of_ble_eq_true rfl) ⟨Nat.le_of_ble_eq_true rfl, Nat.le_of_ble_eq_true rfl⟩ ho.1 ho.2 rfl dX1_pushInstance_86 ?_
  refine hv_as [] x2 rfl rfl ?_
  obtain rfl := Option.some.inj hm
  exact hv_vret rfl dX1_pushInstance_89
def f_X1_pushInstance_0 (n : Nat) (v0 : Nat) (v1 : Int32) (h : hp_H) (sz sl : Nat) : Option (hp_H × Nat × Nat) :=
  (hp_fR h 1 v0 2).bind fun x1 =>
  (hp_fR h 0 x1 9).bind fun x2 =>
  (f_X5_size n x2 v1 h).bind fun x3 =>
  (hp_lp (fL_X1_pushInstance_14 n v0 v1 x3) n ((0 : Int32), h, sz, sl)).bind fun x4 =>
  f_X1_pushInstance_82 n v0 x4.1 x4.2.1 x4.2.2
set_option maxHeartbeats 1000000 in
set_option maxRecDepth 4000 in
theorem mo_X1_pushInstance_0 {n : Nat} {v0 : Nat} {v1 : Int32} {h : hp_H} {sz sl : Nat} {res : hp_H × Nat × Nat} (hm : f_X1_pushInstance_0 n v0 v1 h sz sl = some res) : sz ≤ res.2.1 ∧ sl ≤ res.2.2 := by
  unfold f_X1_pushInstance_0 at hm
  obtain ⟨x1, hx1, hm⟩ := hp_bd hm
  obtain ⟨x2, hx2, hm⟩ := hp_bd hm
  obtain ⟨x3, hx3, hm⟩ := hp_bd hm
  obtain ⟨x4, hx4, hm⟩ := hp_bd hm
  have ml := ml_X1_pushInstance_14 _ _ _ hx4
  · skip
    exact hp_tr ml (mo_X1_pushInstance_82 hm)
set_option maxHeartbeats 1000000 in
set_option maxRecDepth 4000 in
theorem q_X1_pushInstance_0 (G : hp_G) (n : Nat) (v0 : Nat) (v1 : Int32) (h : hp_H) (sz sl : Nat) (res : hp_H × Nat × Nat) (hm : f_X1_pushInstance_0 n v0 v1 h sz sl = some res) : hp_V G m_X1_pushInstance 0 [(0, .ref v0), (1, .int v1)] [] h sz sl (none, res.1, res.2.1, res.2.2) := by
  have ho := mo_X1_pushInstance_0 hm
  unfold f_X1_pushInstance_0 at hm
  refine hv_aload_n 0 dX1_pushInstance_0 rfl rfl ?_
  obtain ⟨x1, hx1, hm⟩ := hp_bd hm
  refine hv_get lk_f_X1_34 dX1_pushInstance_1 (hp_fR_spec hx1) ?_
  obtain ⟨x2, hx2, hm⟩ := hp_bd hm
  refine hv_get lk_f_X1_91 dX1_pushInstance_4 (hp_fR_spec hx2) ?_
  refine hv_iload_n 1 dX1_pushInstance_7 rfl rfl ?_
  obtain ⟨x3, hx3, hm⟩ := hp_bd hm
  obtain ⟨Vx3, hVx3⟩ := k_X5_size hx3
  refine hv_callV (As := [.int v1]) (rest := []) Z_X5_size I_X5_size lk_m_X1_107 rfl hVx3 (c_X5_size G n x2 v1 h sz sl _ hx3) rfl (Nat.le_of_ble_eq_true rfl) ⟨Nat.le_of_ble_eq_true rfl, Nat.le_of_ble_eq_true rfl⟩ ho.1 ho.2 rfl dX1_pushInstance_8 ?_
  refine hv_as [.int x3] h rfl rfl ?_
  refine hv_istore_n [(2, .int x3), (0, .ref v0), (1, .int v1)] dX1_pushInstance_11 rfl (by decide) rfl ?_
  refine hv_iconst (0 : Int32) dX1_pushInstance_12 (by decide) ?_
  refine hv_istore_n [(3, .int (0 : Int32)), (2, .int x3), (0, .ref v0), (1, .int v1)] dX1_pushInstance_13 rfl (by decide) rfl ?_
  obtain ⟨x4, hx4, hm⟩ := hp_bd hm
  · skip
    have hz : (zx_X1_pushInstance_14 x4).1 ≤ _ ∧ (zx_X1_pushInstance_14 x4).2 ≤ _ := mo_X1_pushInstance_82 hm
    refine hv_sub [2, 3, 1, 0] rfl (l_X1_pushInstance_14 G n v0 v1 x3  _  n _ _ hx4 hz (fun wy5 ey5 => ?_))
    · cases ey5
      exact hv_sub [0] rfl (q_X1_pushInstance_82 G n v0 x4.1 x4.2.1 x4.2.2 _ hm)
def f_X1_pushInstance (n : Nat) (v0 : Nat) (v1 : Int32) (h : hp_H) (sz sl : Nat) : Option (hp_H × Nat × Nat) := (hp_ck h 1 v0).bind fun _ => f_X1_pushInstance_0 n v0 v1 h sz sl
theorem c_X1_pushInstance (G : hp_G) (n : Nat) (v0 : Nat) (v1 : Int32) (h : hp_H) (sz sl : Nat) (res : hp_H × Nat × Nat) (hm : f_X1_pushInstance n v0 v1 h sz sl = some res) : hp_C G m_X1_pushInstance yX1_pushInstance [.ref v0, .int v1] h sz sl (none, res.1, res.2.1, res.2.2) := by
  unfold f_X1_pushInstance at hm
  obtain ⟨_, _, hm⟩ := hp_bd hm
  exact hp_C_of (by decide) rfl rfl (Nat.le_of_ble_eq_true rfl) (mo_X1_pushInstance_0 hm).1 (mo_X1_pushInstance_0 hm).2 (hv_sub [0, 1] rfl (q_X1_pushInstance_0 G n v0 v1 h sz sl res hm))
theorem k_X1_pushInstance {n : Nat} {v0 : Nat} {v1 : Int32} {h : hp_H} {sz sl : Nat} {res : hp_H × Nat × Nat} (hm : f_X1_pushInstance n v0 v1 h sz sl = some res) : ∃ V, h v0 = some (.inr (.inr (1, V))) := by
  unfold f_X1_pushInstance at hm
  obtain ⟨_, hu, _⟩ := hp_bd hm
  exact hp_ck_spec hu
theorem mx_X1_pushInstance {n : Nat} {v0 : Nat} {v1 : Int32} {h : hp_H} {sz sl : Nat} {res : hp_H × Nat × Nat} (hm : f_X1_pushInstance n v0 v1 h sz sl = some res) : sz ≤ res.2.1 ∧ sl ≤ res.2.2 := by
  unfold f_X1_pushInstance at hm
  obtain ⟨_, _, hm⟩ := hp_bd hm
  exact mo_X1_pushInstance_0 hm
abbrev m_X1_apply : hp_M := (RX1, cX1_apply, 6, some .int, 5, 132, "apply")
theorem Z_X1_apply : hp_Y yX1_apply m_X1_apply 1 := Y_X1_apply
def f_X1_apply_32 (n : Nat) (v0 : Nat) (v1 : Int32) (v2 : Int32) (v3 : Int32) (v4 : Int32) (h : hp_H) : Option ((Int32 × hp_H) ⊕ ((hp_H) ⊕ (Int32 × hp_H))) :=
  if v2 ≤ v4 then
    some (.inr (.inl h))
  else
    (hp_fR h 1 v0 2).bind fun x1 =>
    (hp_fR h 0 x1 12).bind fun x2 =>
    (f_X5_get n x2 v1 v4 h).bind fun x3 =>
    (f_X1_fit n v0 x3 (v3 + v4) h).bind fun x4 =>
    if x4.1 = 0 then
      some (.inl ((v4 + (1 : Int32)), x4.2))
    else
      some (.inr (.inr (x4.1, x4.2)))
set_option maxHeartbeats 1000000 in
set_option maxRecDepth 4000 in
theorem q_X1_apply_32 (G : hp_G) (n : Nat) (v0 : Nat) (v1 : Int32) (v2 : Int32) (v3 : Int32) (v4 : Int32) (h : hp_H) (sz sl : Nat) (o : hp_O) (ho : sz ≤ o.2.2.1 ∧ sl ≤ o.2.2.2) (res : (Int32 × hp_H) ⊕ ((hp_H) ⊕ (Int32 × hp_H))) (hm : f_X1_apply_32 n v0 v1 v2 v3 v4 h = some res) (kI : ∀ y : Int32 × hp_H, res = .inl y → hp_V G m_X1_apply 32 [(0, .ref v0), (1, .int v1), (2, .int v2), (3, .int v3), (4, .int y.1)] [] y.2 sz sl o) (kX0 : ∀ y : hp_H, res = .inr (.inl y) → hp_V G m_X1_apply 75 [(0, .ref v0), (1, .int v1), (2, .int v2), (3, .int v3)] [] y sz sl o) (kR : ∀ y : Int32 × hp_H, res = .inr (.inr y) → o = (some (.int y.1), y.2, sz, sl)) : hp_V G m_X1_apply 32 [(0, .ref v0), (1, .int v1), (2, .int v2), (3, .int v3), (4, .int v4)] [] h sz sl o := by
  unfold f_X1_apply_32 at hm
  refine hv_iload 4 dX1_apply_32 rfl ?_
  refine hv_iload_n 2 dX1_apply_34 rfl rfl ?_
  refine hv_icmp_ge (tgt := 75) dX1_apply_35 (by decide) (fun c6 => ?_) (fun c6 => ?_)
  · rw [if_pos c6] at hm
    exact hv_sub [0, 1, 2, 3] rfl (kX0 h (Option.some.inj hm).symm)
  · rw [if_neg c6] at hm
    refine hv_aload_n 0 dX1_apply_38 rfl rfl ?_
    refine hv_aload_n 0 dX1_apply_39 rfl rfl ?_
    obtain ⟨x1, hx1, hm⟩ := hp_bd hm
    refine hv_get lk_f_X1_34 dX1_apply_40 (hp_fR_spec hx1) ?_
    obtain ⟨x2, hx2, hm⟩ := hp_bd hm
    refine hv_get lk_f_X1_117 dX1_apply_43 (hp_fR_spec hx2) ?_
    refine hv_iload_n 1 dX1_apply_46 rfl rfl ?_
    refine hv_iload 4 dX1_apply_47 rfl ?_
    obtain ⟨x3, hx3, hm⟩ := hp_bd hm
    obtain ⟨Vx3, hVx3⟩ := k_X5_get hx3
    refine hv_callV (As := [.int v1, .int v4]) (rest := [.ref v0]) Z_X5_get I_X5_get lk_m_X1_110 rfl hVx3 (c_X5_get G n x2 v1 v4 h sz sl _ hx3) rfl (Nat.le_of_ble_eq_true rfl) ⟨Nat.le_of_ble_eq_true rfl, Nat.le_of_ble_eq_true rfl⟩ ho.1 ho.2 rfl dX1_apply_49 ?_
    refine hv_as [.int x3, .ref v0] h rfl rfl ?_
    refine hv_iload_n 3 dX1_apply_52 rfl rfl ?_
    refine hv_iload 4 dX1_apply_53 rfl ?_
    refine hv_iadd dX1_apply_55 ?_
    obtain ⟨x4, hx4, hm⟩ := hp_bd hm
    obtain ⟨Vx4, hVx4⟩ := k_X1_fit hx4
    refine hv_callV (As := [.int x3, .int (v3 + v4)]) (rest := []) Z_X1_fit I_X1_fit lk_m_X1_120 rfl hVx4 (c_X1_fit G n v0 x3 (v3 + v4) h sz sl _ hx4) rfl (Nat.le_of_ble_eq_true rfl) ⟨Nat.le_of_ble_eq_true rfl, Nat.le_of_ble_eq_true rfl⟩ ho.1 ho.2 rfl dX1_apply_56 ?_
    refine hv_as [.int x4.1] x4.2 rfl rfl ?_
    refine hv_istore [(5, .int x4.1), (0, .ref v0), (1, .int v1), (2, .int v2), (3, .int v3), (4, .int v4)] dX1_apply_59 (by decide) rfl ?_
    refine hv_iload 0 dX1_apply_61 rfl ?_
    refine hv_if_eq (tgt := 69) dX1_apply_63 (by decide) (fun c5 => ?_) (fun c5 => ?_)
    · rw [if_pos c5] at hm
      refine hv_iinc (v4 + (1 : Int32)) 5 [(4, .int (v4 + (1 : Int32))), (5, .int x4.1), (0, .ref v0), (1, .int v1), (2, .int v2), (3, .int v3)] dX1_apply_69 rfl rfl (by decide) rfl ?_
      refine hv_goto (tgt := 32) dX1_apply_72 (by decide) ?_
      exact hv_sub [2, 3, 4, 5, 0] rfl (kI ((v4 + (1 : Int32)), x4.2) (Option.some.inj hm).symm)
    · rw [if_neg c5] at hm
      refine hv_iload 0 dX1_apply_66 rfl ?_
      obtain rfl := kR _ (Option.some.inj hm).symm
      exact hv_iret rfl dX1_apply_68
def fL_X1_apply_32 (n : Nat) (v0 : Nat) (v1 : Int32) (v2 : Int32) (v3 : Int32) (s : Int32 × hp_H) : Option ((Int32 × hp_H) ⊕ ((hp_H) ⊕ (Int32 × hp_H))) := f_X1_apply_32 n v0 v1 v2 v3 s.1 s.2
theorem l_X1_apply_32 (G : hp_G) (n : Nat) (v0 : Nat) (v1 : Int32) (v2 : Int32) (v3 : Int32) (sz sl : Nat) (o : hp_O) (ho : sz ≤ o.2.2.1 ∧ sl ≤ o.2.2.2) : ∀ (k : Nat) (s : Int32 × hp_H) (x : (hp_H) ⊕ (Int32 × hp_H)), hp_lp (fL_X1_apply_32 n v0 v1 v2 v3) k s = some x → (∀ y : hp_H, x = (.inl y) → hp_V G m_X1_apply 75 [(0, .ref v0), (1, .int v1), (2, .int v2), (3, .int v3)] [] y sz sl o) → (∀ y : Int32 × hp_H, x = (.inr y) → o = (some (.int y.1), y.2, sz, sl)) → hp_V G m_X1_apply 32 [(0, .ref v0), (1, .int v1), (2, .int v2), (3, .int v3), (4, .int s.1)] [] s.2 sz sl o := by
  intro k
  induction k with
  | zero => intro s x hx; exact (hp_lp_0 hx).elim
  | succ k ih =>
    intro s x hx k0 k1
    obtain ⟨r, hr, hc⟩ := hp_lp_1 hx
    refine q_X1_apply_32 G n v0 v1 v2 v3 s.1 s.2 sz sl o ho r hr (fun s2 e => ?_) (fun y e => ?_) (fun y e => ?_)
    · rcases hc with ⟨s3, e3, hx3⟩ | e3
      · have e4 := Sum.inl.inj (e.symm.trans e3)
        subst e4
        exact ih _ _ hx3 k0 k1
      · cases (e.symm.trans e3)
    · rcases hc with ⟨s3, e3, hx3⟩ | e3
      · cases (e.symm.trans e3)
      · exact k0 y (Sum.inr.inj (e3.symm.trans e))
    · rcases hc with ⟨s3, e3, hx3⟩ | e3
      · cases (e.symm.trans e3)
      · exact k1 y (Sum.inr.inj (e3.symm.trans e))
def f_X1_apply_111 (n : Nat) (v0 : Nat) (v2 : Int32) (h : hp_H) (sz sl : Nat) : Option (Int32 × hp_H × Nat × Nat) :=
  (hp_fR h 1 v0 0).bind fun x1 =>
  (f_X5_dropUnderLast n x1 v2 h).bind fun x2 =>
  some ((0 : Int32), x2, sz, sl)
set_option maxHeartbeats 1000000 in
set_option maxRecDepth 4000 in
theorem mo_X1_apply_111 {n : Nat} {v0 : Nat} {v2 : Int32} {h : hp_H} {sz sl : Nat} {res : Int32 × hp_H × Nat × Nat} (hm : f_X1_apply_111 n v0 v2 h sz sl = some res) : sz ≤ res.2.2.1 ∧ sl ≤ res.2.2.2 := by
  unfold f_X1_apply_111 at hm
  obtain ⟨x1, hx1, hm⟩ := hp_bd hm
  obtain ⟨x2, hx2, hm⟩ := hp_bd hm
  obtain rfl := Option.some.inj hm
  exact ⟨Nat.le_refl _, Nat.le_refl _⟩
set_option maxHeartbeats 1000000 in
set_option maxRecDepth 4000 in
theorem q_X1_apply_111 (G : hp_G) (n : Nat) (v0 : Nat) (v2 : Int32) (h : hp_H) (sz sl : Nat) (res : Int32 × hp_H × Nat × Nat) (hm : f_X1_apply_111 n v0 v2 h sz sl = some res) : hp_V G m_X1_apply 111 [(0, .ref v0), (2, .int v2)] [] h sz sl (some (.int res.1), res.2.1, res.2.2.1, res.2.2.2) := by
  have ho := mo_X1_apply_111 hm
  unfold f_X1_apply_111 at hm
  refine hv_aload_n 0 dX1_apply_111 rfl rfl ?_
  obtain ⟨x1, hx1, hm⟩ := hp_bd hm
  refine hv_get lk_f_X1_14 dX1_apply_112 (hp_fR_spec hx1) ?_
  refine hv_iload_n 1 dX1_apply_115 rfl rfl ?_
  obtain ⟨x2, hx2, hm⟩ := hp_bd hm
  obtain ⟨Vx2, hVx2⟩ := k_X5_dropUnderLast hx2
  refine hv_callV (As := [.int v2]) (rest := []) Z_X5_dropUnderLast I_X5_dropUnderLast lk_m_X1_133 rfl hVx2 (c_X5_dropUnderLast G n x1 v2 h sz sl _ hx2) rfl (Nat.le_of_ble_eq_true rfl) ⟨Nat.le_of_ble_eq_true rfl, Nat.le_of_ble_eq_true rfl⟩ ho.1 ho.2 rfl dX1_apply_116 ?_
  refine hv_as [] x2 rfl rfl ?_
  refine hv_iconst (0 : Int32) dX1_apply_119 (by decide) ?_
  obtain rfl := Option.some.inj hm
  exact hv_iret rfl dX1_apply_120
def f_X1_apply_0 (n : Nat) (v0 : Nat) (v1 : Int32) (h : hp_H) (sz sl : Nat) : Option (Int32 × hp_H × Nat × Nat) :=
  (hp_fR h 1 v0 2).bind fun x1 =>
  (hp_fR h 0 x1 12).bind fun x2 =>
  (f_X5_size n x2 v1 h).bind fun x3 =>
  (hp_fR h 1 v0 0).bind fun x4 =>
  (hp_fI h 5 x4 3).bind fun x5 =>
  if 0 ≤ (x5 - x3) then
    (hp_lp (fL_X1_apply_32 n v0 v1 x3 (x5 - x3)) n ((0 : Int32), h)).bind fun x6 =>
    Sum.elim (fun y7 =>
      (f_X1_keepsApart n v0 v1 y7).bind fun x9 =>
      if x9.1 = 0 then
        some ((-7 : Int32), x9.2, sz, sl)
      else
        if (x5 - x3) = (100 : Int32) then
          some ((-10 : Int32), x9.2, sz, sl)
        else
          (f_X1_sizeOf n v0 v1 x9.2).bind fun x10 =>
          if x10 ≤ (200 : Int32) then
            (f_X1_pushInstance n v0 v1 x9.2 sz sl).bind fun x11 =>
            f_X1_apply_111 n v0 x3 x11.1 x11.2.1 x11.2.2
          else
            some ((-10 : Int32), x9.2, sz, sl)) (fun y8 =>
      some (y8.1, y8.2, sz, sl)) x6
  else
    some ((-4 : Int32), h, sz, sl)
set_option maxHeartbeats 1000000 in
set_option maxRecDepth 4000 in
theorem mo_X1_apply_0 {n : Nat} {v0 : Nat} {v1 : Int32} {h : hp_H} {sz sl : Nat} {res : Int32 × hp_H × Nat × Nat} (hm : f_X1_apply_0 n v0 v1 h sz sl = some res) : sz ≤ res.2.2.1 ∧ sl ≤ res.2.2.2 := by
  unfold f_X1_apply_0 at hm
  obtain ⟨x1, hx1, hm⟩ := hp_bd hm
  obtain ⟨x2, hx2, hm⟩ := hp_bd hm
  obtain ⟨x3, hx3, hm⟩ := hp_bd hm
  obtain ⟨x4, hx4, hm⟩ := hp_bd hm
  obtain ⟨x5, hx5, hm⟩ := hp_bd hm
  rcases Decidable.em (0 ≤ (x5 - x3)) with c15 | c15
  · rw [if_pos c15] at hm
    obtain ⟨x6, hx6, hm⟩ := hp_bd hm
    rcases x6 with y7 | y8
    · skip
      simp only [Sum.elim_inl, Sum.elim_inr] at hm
      obtain ⟨x9, hx9, hm⟩ := hp_bd hm
      rcases (Decidable.em (x9.1 = 0)).symm with c14 | c14
      · rw [if_neg c14] at hm
        rcases Decidable.em ((x5 - x3) = (100 : Int32)) with c13 | c13
        · rw [if_pos c13] at hm
          obtain rfl := Option.some.inj hm
          exact ⟨Nat.le_refl _, Nat.le_refl _⟩
        · rw [if_neg c13] at hm
          obtain ⟨x10, hx10, hm⟩ := hp_bd hm
          rcases Decidable.em (x10 ≤ (200 : Int32)) with c12 | c12
          · rw [if_pos c12] at hm
            obtain ⟨x11, hx11, hm⟩ := hp_bd hm
            exact hp_tr (mx_X1_pushInstance hx11) (mo_X1_apply_111 hm)
          · rw [if_neg c12] at hm
            obtain rfl := Option.some.inj hm
            exact ⟨Nat.le_refl _, Nat.le_refl _⟩
      · rw [if_pos c14] at hm
        obtain rfl := Option.some.inj hm
        exact ⟨Nat.le_refl _, Nat.le_refl _⟩
    · skip
      simp only [Sum.elim_inl, Sum.elim_inr] at hm
      obtain rfl := Option.some.inj hm
      exact ⟨Nat.le_refl _, Nat.le_refl _⟩
  · rw [if_neg c15] at hm
    obtain rfl := Option.some.inj hm
    exact ⟨Nat.le_refl _, Nat.le_refl _⟩
set_option maxHeartbeats 1000000 in
set_option maxRecDepth 4000 in
theorem q_X1_apply_0 (G : hp_G) (n : Nat) (v0 : Nat) (v1 : Int32) (h : hp_H) (sz sl : Nat) (res : Int32 × hp_H × Nat × Nat) (hm : f_X1_apply_0 n v0 v1 h sz sl = some res) : hp_V G m_X1_apply 0 [(0, .ref v0), (1, .int v1)] [] h sz sl (some (.int res.1), res.2.1, res.2.2.1, res.2.2.2) := by
  have ho := mo_X1_apply_0 hm
  unfold f_X1_apply_0 at hm
  refine hv_aload_n 0 dX1_apply_0 rfl rfl ?_
  obtain ⟨x1, hx1, hm⟩ := hp_bd hm
  refine hv_get lk_f_X1_34 dX1_apply_1 (hp_fR_spec hx1) ?_
  obtain ⟨x2, hx2, hm⟩ := hp_bd hm
  refine hv_get lk_f_X1_117 dX1_apply_4 (hp_fR_spec hx2) ?_
  refine hv_iload_n 1 dX1_apply_7 rfl rfl ?_
  obtain ⟨x3, hx3, hm⟩ := hp_bd hm
  obtain ⟨Vx3, hVx3⟩ := k_X5_size hx3
  refine hv_callV (As := [.int v1]) (rest := []) Z_X5_size I_X5_size lk_m_X1_107 rfl hVx3 (c_X5_size G n x2 v1 h sz sl _ hx3) rfl (Nat.le_of_ble_eq_true rfl) ⟨Nat.le_of_ble_eq_true rfl, Nat.le_of_ble_eq_true rfl⟩ ho.1 ho.2 rfl dX1_apply_8 ?_
  refine hv_as [.int x3] h rfl rfl ?_
  refine hv_istore_n [(2, .int x3), (0, .ref v0), (1, .int v1)] dX1_apply_11 rfl (by decide) rfl ?_
  refine hv_aload_n 1 dX1_apply_12 rfl rfl ?_
  obtain ⟨x4, hx4, hm⟩ := hp_bd hm
  refine hv_get lk_f_X1_14 dX1_apply_13 (hp_fR_spec hx4) ?_
  obtain ⟨x5, hx5, hm⟩ := hp_bd hm
  refine hv_get lk_f_X1_81 dX1_apply_16 (hp_fI_spec hx5) ?_
  refine hv_iload_n 0 dX1_apply_19 rfl rfl ?_
  refine hv_isub dX1_apply_20 ?_
  refine hv_istore_n [(3, .int (x5 - x3)), (2, .int x3), (0, .ref v0), (1, .int v1)] dX1_apply_21 rfl (by decide) rfl ?_
  refine hv_iload_n 0 dX1_apply_22 rfl rfl ?_
  refine hv_if_ge (tgt := 29) dX1_apply_23 (by decide) (fun c15 => ?_) (fun c15 => ?_)
  · rw [if_pos c15] at hm
    refine hv_iconst (0 : Int32) dX1_apply_29 (by decide) ?_
    refine hv_istore [(4, .int (0 : Int32)), (3, .int (x5 - x3)), (2, .int x3), (0, .ref v0), (1, .int v1)] dX1_apply_30 (by decide) rfl ?_
    obtain ⟨x6, hx6, hm⟩ := hp_bd hm
    refine hv_sub [3, 4, 2, 1, 0] rfl (l_X1_apply_32 G n v0 v1 x3 (x5 - x3) sz sl _ ho n _ _ hx6 (fun y7 ey7 => ?_) (fun y8 ey8 => ?_))
    · skip
      subst ey7
      simp only [Sum.elim_inl, Sum.elim_inr] at hm
      refine hv_aload_n 0 dX1_apply_75 rfl rfl ?_
      refine hv_iload_n 1 dX1_apply_76 rfl rfl ?_
      obtain ⟨x9, hx9, hm⟩ := hp_bd hm
      obtain ⟨Vx9, hVx9⟩ := k_X1_keepsApart hx9
      refine hv_callV (As := [.int v1]) (rest := []) Z_X1_keepsApart I_X1_keepsApart lk_m_X1_123 rfl hVx9 (c_X1_keepsApart G n v0 v1 y7 sz sl _ hx9) rfl (Nat.le_of_ble_eq_true rfl) ⟨Nat.le_of_ble_eq_true rfl, Nat.le_of_ble_eq_true rfl⟩ ho.1 ho.2 rfl dX1_apply_77 ?_
      refine hv_as [.int x9.1] x9.2 rfl rfl ?_
      refine hv_if_ne (tgt := 86) dX1_apply_80 (by decide) (fun c14 => ?_) (fun c14 => ?_)
      · rw [if_neg c14] at hm
        refine hv_iload_n 3 dX1_apply_86 rfl rfl ?_
        refine hv_bipush (100 : Int32) dX1_apply_87 (by decide) ?_
        refine hv_icmp_eq (tgt := 103) dX1_apply_89 (by decide) (fun c13 => ?_) (fun c13 => ?_)
        · rw [if_pos c13] at hm
          refine hv_bipush (-10 : Int32) dX1_apply_103 (by decide) ?_
          obtain rfl := Option.some.inj hm
          exact hv_iret rfl dX1_apply_105
        · rw [if_neg c13] at hm
          refine hv_aload_n 0 dX1_apply_92 rfl rfl ?_
          refine hv_iload_n 1 dX1_apply_93 rfl rfl ?_
          obtain ⟨x10, hx10, hm⟩ := hp_bd hm
          obtain ⟨Vx10, hVx10⟩ := k_X1_sizeOf hx10
          refine hv_callV (As := [.int v1]) (rest := []) Z_X1_sizeOf I_X1_sizeOf lk_m_X1_127 rfl hVx10 (c_X1_sizeOf G n v0 v1 x9.2 sz sl _ hx10) rfl (Nat.le_of_ble_eq_true rfl) ⟨Nat.le_of_ble_eq_true rfl, Nat.le_of_ble_eq_true rfl⟩ ho.1 ho.2 rfl dX1_apply_94 ?_
          refine hv_as [.int x10] x9.2 rfl rfl ?_
          refine hv_sipush (200 : Int32) dX1_apply_97 (by decide) ?_
          refine hv_icmp_le (tgt := 106) dX1_apply_100 (by decide) (fun c12 => ?_) (fun c12 => ?_)
          · rw [if_pos c12] at hm
            refine hv_aload_n 0 dX1_apply_106 rfl rfl ?_
            refine hv_iload_n 1 dX1_apply_107 rfl rfl ?_
            obtain ⟨x11, hx11, hm⟩ := hp_bd hm
            have hq := mo_X1_apply_111 hm
            obtain ⟨Vx11, hVx11⟩ := k_X1_pushInstance hx11
            refine hv_callV (As := [.int v1]) (rest := []) Z_X1_pushInstance I_X1_pushInstance lk_m_X1_130 rfl hVx11 (c_X1_pushInstance G n v0 v1 x9.2 sz sl _ hx11) rfl (Nat.le_of_ble_eq_true rfl) ⟨Nat.le_of_ble_eq_true rfl, Nat.le_of_ble_eq_true rfl⟩ hq.1 hq.2 rfl dX1_apply_108 ?_
            refine hv_as2 [] x11.1 x11.2.1 x11.2.2 rfl rfl rfl rfl ?_
            exact hv_sub [0, 2] rfl (q_X1_apply_111 G n v0 x3 x11.1 x11.2.1 x11.2.2 _ hm)
          · rw [if_neg c12] at hm
            refine hv_bipush (-10 : Int32) dX1_apply_103 (by decide) ?_
            obtain rfl := Option.some.inj hm
            exact hv_iret rfl dX1_apply_105
      · rw [if_pos c14] at hm
        refine hv_bipush (-7 : Int32) dX1_apply_83 (by decide) ?_
        obtain rfl := Option.some.inj hm
        exact hv_iret rfl dX1_apply_85
    · skip
      subst ey8
      simp only [Sum.elim_inl, Sum.elim_inr] at hm
      obtain rfl := Option.some.inj hm
      rfl
  · rw [if_neg c15] at hm
    refine hv_bipush (-4 : Int32) dX1_apply_26 (by decide) ?_
    obtain rfl := Option.some.inj hm
    exact hv_iret rfl dX1_apply_28
def f_X1_apply (n : Nat) (v0 : Nat) (v1 : Int32) (h : hp_H) (sz sl : Nat) : Option (Int32 × hp_H × Nat × Nat) := (hp_ck h 1 v0).bind fun _ => f_X1_apply_0 n v0 v1 h sz sl
theorem c_X1_apply (G : hp_G) (n : Nat) (v0 : Nat) (v1 : Int32) (h : hp_H) (sz sl : Nat) (res : Int32 × hp_H × Nat × Nat) (hm : f_X1_apply n v0 v1 h sz sl = some res) : hp_C G m_X1_apply yX1_apply [.ref v0, .int v1] h sz sl (some (.int res.1), res.2.1, res.2.2.1, res.2.2.2) := by
  unfold f_X1_apply at hm
  obtain ⟨_, _, hm⟩ := hp_bd hm
  exact hp_C_of (by decide) rfl rfl (Nat.le_of_ble_eq_true rfl) (mo_X1_apply_0 hm).1 (mo_X1_apply_0 hm).2 (hv_sub [0, 1] rfl (q_X1_apply_0 G n v0 v1 h sz sl res hm))
theorem k_X1_apply {n : Nat} {v0 : Nat} {v1 : Int32} {h : hp_H} {sz sl : Nat} {res : Int32 × hp_H × Nat × Nat} (hm : f_X1_apply n v0 v1 h sz sl = some res) : ∃ V, h v0 = some (.inr (.inr (1, V))) := by
  unfold f_X1_apply at hm
  obtain ⟨_, hu, _⟩ := hp_bd hm
  exact hp_ck_spec hu
theorem mx_X1_apply {n : Nat} {v0 : Nat} {v1 : Int32} {h : hp_H} {sz sl : Nat} {res : Int32 × hp_H × Nat × Nat} (hm : f_X1_apply n v0 v1 h sz sl = some res) : sz ≤ res.2.2.1 ∧ sl ≤ res.2.2.2 := by
  unfold f_X1_apply at hm
  obtain ⟨_, _, hm⟩ := hp_bd hm
  exact mo_X1_apply_0 hm
abbrev m_X1_push : hp_M := (RX1, cX1_push, 2, some .int, 4, 108, "push")
theorem Z_X1_push : hp_Y yX1_push m_X1_push 1 := Y_X1_push
def f_X1_push_53 (n : Nat) (v0 : Nat) (h : hp_H) (sz sl : Nat) : Option (Int32 × hp_H × Nat × Nat) :=
  (hp_fR h 1 v0 0).bind fun x1 =>
  (f_X5_endRow n x1 h).bind fun x2 =>
  some ((0 : Int32), x2, sz, sl)
set_option maxHeartbeats 1000000 in
set_option maxRecDepth 4000 in
theorem mo_X1_push_53 {n : Nat} {v0 : Nat} {h : hp_H} {sz sl : Nat} {res : Int32 × hp_H × Nat × Nat} (hm : f_X1_push_53 n v0 h sz sl = some res) : sz ≤ res.2.2.1 ∧ sl ≤ res.2.2.2 := by
  unfold f_X1_push_53 at hm
  obtain ⟨x1, hx1, hm⟩ := hp_bd hm
  obtain ⟨x2, hx2, hm⟩ := hp_bd hm
  obtain rfl := Option.some.inj hm
  exact ⟨Nat.le_refl _, Nat.le_refl _⟩
set_option maxHeartbeats 1000000 in
set_option maxRecDepth 4000 in
theorem q_X1_push_53 (G : hp_G) (n : Nat) (v0 : Nat) (h : hp_H) (sz sl : Nat) (res : Int32 × hp_H × Nat × Nat) (hm : f_X1_push_53 n v0 h sz sl = some res) : hp_V G m_X1_push 53 [(0, .ref v0)] [] h sz sl (some (.int res.1), res.2.1, res.2.2.1, res.2.2.2) := by
  have ho := mo_X1_push_53 hm
  unfold f_X1_push_53 at hm
  refine hv_aload_n 0 dX1_push_53 rfl rfl ?_
  obtain ⟨x1, hx1, hm⟩ := hp_bd hm
  refine hv_get lk_f_X1_14 dX1_push_54 (hp_fR_spec hx1) ?_
  obtain ⟨x2, hx2, hm⟩ := hp_bd hm
  obtain ⟨Vx2, hVx2⟩ := k_X5_endRow hx2
  refine hv_callV (As := []) (rest := []) Z_X5_endRow I_X5_endRow lk_m_X1_88 rfl hVx2 (c_X5_endRow G n x1 h sz sl _ hx2) rfl (Nat.le_of_ble_eq_true rfl) ⟨Nat.le_of_ble_eq_true rfl, Nat.le_of_ble_eq_true rfl⟩ ho.1 ho.2 rfl dX1_push_57 ?_
  refine hv_as [] x2 rfl rfl ?_
  refine hv_iconst (0 : Int32) dX1_push_60 (by decide) ?_
  obtain rfl := Option.some.inj hm
  exact hv_iret rfl dX1_push_61
def f_X1_push_34 (n : Nat) (v0 : Nat) (h : hp_H) (sz sl : Nat) : Option (Int32 × hp_H × Nat × Nat) :=
  f_X1_push_53 n v0 h sz sl
set_option maxHeartbeats 1000000 in
set_option maxRecDepth 4000 in
theorem mo_X1_push_34 {n : Nat} {v0 : Nat} {h : hp_H} {sz sl : Nat} {res : Int32 × hp_H × Nat × Nat} (hm : f_X1_push_34 n v0 h sz sl = some res) : sz ≤ res.2.2.1 ∧ sl ≤ res.2.2.2 := by
  unfold f_X1_push_34 at hm
  exact mo_X1_push_53 hm
set_option maxHeartbeats 1000000 in
set_option maxRecDepth 4000 in
theorem q_X1_push_34 (G : hp_G) (n : Nat) (v0 : Nat) (h : hp_H) (sz sl : Nat) (res : Int32 × hp_H × Nat × Nat) (hm : f_X1_push_34 n v0 h sz sl = some res) : hp_V G m_X1_push 34 [(0, .ref v0)] [] h sz sl (some (.int res.1), res.2.1, res.2.2.1, res.2.2.2) := by
  have ho := mo_X1_push_34 hm
  unfold f_X1_push_34 at hm
  refine hv_goto (tgt := 53) dX1_push_34 (by decide) ?_
  exact hv_sub [0] rfl (q_X1_push_53 G n v0 h sz sl _ hm)
def f_X1_push_0 (n : Nat) (v0 : Nat) (v1 : Int32) (h : hp_H) (sz sl : Nat) : Option (Int32 × hp_H × Nat × Nat) :=
  (hp_fR h 1 v0 0).bind fun x1 =>
  (hp_fI h 5 x1 3).bind fun x2 =>
  if x2 = (100 : Int32) then
    some ((-10 : Int32), h, sz, sl)
  else
    if 0 ≤ v1 then
      (hp_fR h 1 v0 0).bind fun x3 =>
      (hp_fR h 1 v0 2).bind fun x4 =>
      (hp_fR h 0 x4 9).bind fun x5 =>
      (f_X5_addFrom n x3 x5 v1 (0 : Int32) h sz sl).bind fun x6 =>
      f_X1_push_53 n v0 x6.1 x6.2.1 x6.2.2
    else
      (hp_fR h 1 v0 0).bind fun x7 =>
      (hp_fR h 1 v0 1).bind fun x8 =>
      (f_X5_addFrom n x7 x8 ((-1 : Int32) - v1) (0 : Int32) h sz sl).bind fun x9 =>
      f_X1_push_34 n v0 x9.1 x9.2.1 x9.2.2
set_option maxHeartbeats 1000000 in
set_option maxRecDepth 4000 in
theorem mo_X1_push_0 {n : Nat} {v0 : Nat} {v1 : Int32} {h : hp_H} {sz sl : Nat} {res : Int32 × hp_H × Nat × Nat} (hm : f_X1_push_0 n v0 v1 h sz sl = some res) : sz ≤ res.2.2.1 ∧ sl ≤ res.2.2.2 := by
  unfold f_X1_push_0 at hm
  obtain ⟨x1, hx1, hm⟩ := hp_bd hm
  obtain ⟨x2, hx2, hm⟩ := hp_bd hm
  rcases (Decidable.em (x2 = (100 : Int32))).symm with c11 | c11
  · rw [if_neg c11] at hm
    rcases Decidable.em (0 ≤ v1) with c10 | c10
    · rw [if_pos c10] at hm
      obtain ⟨x3, hx3, hm⟩ := hp_bd hm
      obtain ⟨x4, hx4, hm⟩ := hp_bd hm
      obtain ⟨x5, hx5, hm⟩ := hp_bd hm
      obtain ⟨x6, hx6, hm⟩ := hp_bd hm
      exact hp_tr (mx_X5_addFrom hx6) (mo_X1_push_53 hm)
    · rw [if_neg c10] at hm
      obtain ⟨x7, hx7, hm⟩ := hp_bd hm
      obtain ⟨x8, hx8, hm⟩ := hp_bd hm
      obtain ⟨x9, hx9, hm⟩ := hp_bd hm
      exact hp_tr (mx_X5_addFrom hx9) (mo_X1_push_34 hm)
  · rw [if_pos c11] at hm
    obtain rfl := Option.some.inj hm
    exact ⟨Nat.le_refl _, Nat.le_refl _⟩
set_option maxHeartbeats 1000000 in
set_option maxRecDepth 4000 in
theorem q_X1_push_0 (G : hp_G) (n : Nat) (v0 : Nat) (v1 : Int32) (h : hp_H) (sz sl : Nat) (res : Int32 × hp_H × Nat × Nat) (hm : f_X1_push_0 n v0 v1 h sz sl = some res) : hp_V G m_X1_push 0 [(0, .ref v0), (1, .int v1)] [] h sz sl (some (.int res.1), res.2.1, res.2.2.1, res.2.2.2) := by
  have ho := mo_X1_push_0 hm
  unfold f_X1_push_0 at hm
  refine hv_aload_n 0 dX1_push_0 rfl rfl ?_
  obtain ⟨x1, hx1, hm⟩ := hp_bd hm
  refine hv_get lk_f_X1_14 dX1_push_1 (hp_fR_spec hx1) ?_
  obtain ⟨x2, hx2, hm⟩ := hp_bd hm
  refine hv_get lk_f_X1_81 dX1_push_4 (hp_fI_spec hx2) ?_
  refine hv_bipush (100 : Int32) dX1_push_7 (by decide) ?_
  refine hv_icmp_ne (tgt := 15) dX1_push_9 (by decide) (fun c11 => ?_) (fun c11 => ?_)
  · rw [if_neg c11] at hm
    refine hv_iload_n 1 dX1_push_15 rfl rfl ?_
    refine hv_if_ge (tgt := 37) dX1_push_16 (by decide) (fun c10 => ?_) (fun c10 => ?_)
    · rw [if_pos c10] at hm
      refine hv_aload_n 0 dX1_push_37 rfl rfl ?_
      obtain ⟨x3, hx3, hm⟩ := hp_bd hm
      refine hv_get lk_f_X1_14 dX1_push_38 (hp_fR_spec hx3) ?_
      refine hv_aload_n 0 dX1_push_41 rfl rfl ?_
      obtain ⟨x4, hx4, hm⟩ := hp_bd hm
      refine hv_get lk_f_X1_34 dX1_push_42 (hp_fR_spec hx4) ?_
      obtain ⟨x5, hx5, hm⟩ := hp_bd hm
      refine hv_get lk_f_X1_91 dX1_push_45 (hp_fR_spec hx5) ?_
      refine hv_iload_n 1 dX1_push_48 rfl rfl ?_
      refine hv_iconst (0 : Int32) dX1_push_49 (by decide) ?_
      obtain ⟨x6, hx6, hm⟩ := hp_bd hm
      have hq := mo_X1_push_53 hm
      obtain ⟨Vx6, hVx6⟩ := k_X5_addFrom hx6
      refine hv_callV (As := [.ref x5, .int v1, .int (0 : Int32)]) (rest := []) Z_X5_addFrom I_X5_addFrom lk_m_X1_84 rfl hVx6 (c_X5_addFrom G n x3 x5 v1 (0 : Int32) h sz sl _ hx6) rfl (Nat.le_of_ble_eq_true rfl) ⟨Nat.le_of_ble_eq_true rfl, Nat.le_of_ble_eq_true rfl⟩ hq.1 hq.2 rfl dX1_push_50 ?_
      refine hv_as2 [] x6.1 x6.2.1 x6.2.2 rfl rfl rfl rfl ?_
      exact hv_sub [0] rfl (q_X1_push_53 G n v0 x6.1 x6.2.1 x6.2.2 _ hm)
    · rw [if_neg c10] at hm
      refine hv_aload_n 0 dX1_push_19 rfl rfl ?_
      obtain ⟨x7, hx7, hm⟩ := hp_bd hm
      refine hv_get lk_f_X1_14 dX1_push_20 (hp_fR_spec hx7) ?_
      refine hv_aload_n 0 dX1_push_23 rfl rfl ?_
      obtain ⟨x8, hx8, hm⟩ := hp_bd hm
      refine hv_get lk_f_X1_20 dX1_push_24 (hp_fR_spec hx8) ?_
      refine hv_iconst (-1 : Int32) dX1_push_27 (by decide) ?_
      refine hv_iload_n 1 dX1_push_28 rfl rfl ?_
      refine hv_isub dX1_push_29 ?_
      refine hv_iconst (0 : Int32) dX1_push_30 (by decide) ?_
      obtain ⟨x9, hx9, hm⟩ := hp_bd hm
      have hq := mo_X1_push_34 hm
      obtain ⟨Vx9, hVx9⟩ := k_X5_addFrom hx9
      refine hv_callV (As := [.ref x8, .int ((-1 : Int32) - v1), .int (0 : Int32)]) (rest := []) Z_X5_addFrom I_X5_addFrom lk_m_X1_84 rfl hVx9 (c_X5_addFrom G n x7 x8 ((-1 : Int32) - v1) (0 : Int32) h sz sl _ hx9) rfl (Nat.le_of_ble_eq_true rfl) ⟨Nat.le_of_ble_eq_true rfl, Nat.le_of_ble_eq_true rfl⟩ hq.1 hq.2 rfl dX1_push_31 ?_
      refine hv_as2 [] x9.1 x9.2.1 x9.2.2 rfl rfl rfl rfl ?_
      exact hv_sub [0] rfl (q_X1_push_34 G n v0 x9.1 x9.2.1 x9.2.2 _ hm)
  · rw [if_pos c11] at hm
    refine hv_bipush (-10 : Int32) dX1_push_12 (by decide) ?_
    obtain rfl := Option.some.inj hm
    exact hv_iret rfl dX1_push_14
def f_X1_push (n : Nat) (v0 : Nat) (v1 : Int32) (h : hp_H) (sz sl : Nat) : Option (Int32 × hp_H × Nat × Nat) := (hp_ck h 1 v0).bind fun _ => f_X1_push_0 n v0 v1 h sz sl
theorem c_X1_push (G : hp_G) (n : Nat) (v0 : Nat) (v1 : Int32) (h : hp_H) (sz sl : Nat) (res : Int32 × hp_H × Nat × Nat) (hm : f_X1_push n v0 v1 h sz sl = some res) : hp_C G m_X1_push yX1_push [.ref v0, .int v1] h sz sl (some (.int res.1), res.2.1, res.2.2.1, res.2.2.2) := by
  unfold f_X1_push at hm
  obtain ⟨_, _, hm⟩ := hp_bd hm
  exact hp_C_of (by decide) rfl rfl (Nat.le_of_ble_eq_true rfl) (mo_X1_push_0 hm).1 (mo_X1_push_0 hm).2 (hv_sub [0, 1] rfl (q_X1_push_0 G n v0 v1 h sz sl res hm))
theorem k_X1_push {n : Nat} {v0 : Nat} {v1 : Int32} {h : hp_H} {sz sl : Nat} {res : Int32 × hp_H × Nat × Nat} (hm : f_X1_push n v0 v1 h sz sl = some res) : ∃ V, h v0 = some (.inr (.inr (1, V))) := by
  unfold f_X1_push at hm
  obtain ⟨_, hu, _⟩ := hp_bd hm
  exact hp_ck_spec hu
theorem mx_X1_push {n : Nat} {v0 : Nat} {v1 : Int32} {h : hp_H} {sz sl : Nat} {res : Int32 × hp_H × Nat × Nat} (hm : f_X1_push n v0 v1 h sz sl = some res) : sz ≤ res.2.2.1 ∧ sl ≤ res.2.2.2 := by
  unfold f_X1_push at hm
  obtain ⟨_, _, hm⟩ := hp_bd hm
  exact mo_X1_push_0 hm
abbrev m_X1_run : hp_M := (RX1, cX1_run, 9, some .int, 6, 157, "run")
theorem Z_X1_run : hp_Y yX1_run m_X1_run 3 := Y_X1_run
abbrev zx_X1_run_40 : ((Int32 × Int32 × hp_H × Nat × Nat) ⊕ (Int32 × hp_H × Nat × Nat)) → Nat × Nat := (Sum.elim (fun y => (y.2.2.2.1, y.2.2.2.2)) (fun y => (y.2.2.1, y.2.2.2)))
abbrev zz_X1_run_40 : ((Int32 × hp_H × Nat × Nat) ⊕ ((Int32 × Int32 × hp_H × Nat × Nat) ⊕ (Int32 × hp_H × Nat × Nat))) → Nat × Nat := Sum.elim (fun y => (y.2.2.1, y.2.2.2)) zx_X1_run_40
def f_X1_run_156 (n : Nat) (v0 : Nat) (v2 : Nat) (v4 : Int32) (v5 : Int32) (h : hp_H) (sz sl : Nat) : Option ((Int32 × hp_H × Nat × Nat) ⊕ ((Int32 × Int32 × hp_H × Nat × Nat) ⊕ (Int32 × hp_H × Nat × Nat))) :=
  some (.inl ((v5 + (1 : Int32)), h, sz, sl))
set_option maxHeartbeats 1000000 in
set_option maxRecDepth 4000 in
theorem mo_X1_run_156 {n : Nat} {v0 : Nat} {v2 : Nat} {v4 : Int32} {v5 : Int32} {h : hp_H} {sz sl : Nat} {res : (Int32 × hp_H × Nat × Nat) ⊕ ((Int32 × Int32 × hp_H × Nat × Nat) ⊕ (Int32 × hp_H × Nat × Nat))} (hm : f_X1_run_156 n v0 v2 v4 v5 h sz sl = some res) : sz ≤ (zz_X1_run_40 res).1 ∧ sl ≤ (zz_X1_run_40 res).2 := by
  unfold f_X1_run_156 at hm
  obtain rfl := Option.some.inj hm
  exact ⟨Nat.le_refl _, Nat.le_refl _⟩
set_option maxHeartbeats 1000000 in
set_option maxRecDepth 4000 in
theorem q_X1_run_156 (G : hp_G) (n : Nat) (v0 : Nat) (v2 : Nat) (v4 : Int32) (v5 : Int32) (h : hp_H) (sz sl : Nat) (o : hp_O) (res : (Int32 × hp_H × Nat × Nat) ⊕ ((Int32 × Int32 × hp_H × Nat × Nat) ⊕ (Int32 × hp_H × Nat × Nat))) (hB : (zz_X1_run_40 res).1 ≤ o.2.2.1 ∧ (zz_X1_run_40 res).2 ≤ o.2.2.2) (hm : f_X1_run_156 n v0 v2 v4 v5 h sz sl = some res) (kI : ∀ y : Int32 × hp_H × Nat × Nat, res = .inl y → hp_V G m_X1_run 40 [(0, .ref v0), (2, .ref v2), (4, .int v4), (5, .int y.1)] [] y.2.1 y.2.2.1 y.2.2.2 o) (kX0 : ∀ y : Int32 × Int32 × hp_H × Nat × Nat, res = .inr (.inl y) → hp_V G m_X1_run 109 [(2, .ref v2), (5, .int y.1), (8, .int y.2.1)] [] y.2.2.1 y.2.2.2.1 y.2.2.2.2 o) (kR : ∀ y : Int32 × hp_H × Nat × Nat, res = .inr (.inr y) → o = (some (.int y.1), y.2.1, y.2.2.1, y.2.2.2)) : hp_V G m_X1_run 156 [(0, .ref v0), (2, .ref v2), (4, .int v4), (5, .int v5)] [] h sz sl o := by
  have ho : sz ≤ o.2.2.1 ∧ sl ≤ o.2.2.2 := ⟨Nat.le_trans (mo_X1_run_156 hm).1 hB.1, Nat.le_trans (mo_X1_run_156 hm).2 hB.2⟩
  unfold f_X1_run_156 at hm
  refine hv_iinc (v5 + (1 : Int32)) 3 [(5, .int (v5 + (1 : Int32))), (0, .ref v0), (2, .ref v2), (4, .int v4)] dX1_run_156 rfl rfl (by decide) rfl ?_
  refine hv_goto (tgt := 40) dX1_run_159 (by decide) ?_
  exact hv_sub [1, 2, 3, 0] rfl (kI ((v5 + (1 : Int32)), h, sz, sl) (Option.some.inj hm).symm)
def f_X1_run_149 (n : Nat) (v0 : Nat) (v2 : Nat) (v4 : Int32) (v5 : Int32) (h : hp_H) (sz sl : Nat) : Option ((Int32 × hp_H × Nat × Nat) ⊕ ((Int32 × Int32 × hp_H × Nat × Nat) ⊕ (Int32 × hp_H × Nat × Nat))) :=
  (hp_fR h 1 v0 1).bind fun x1 =>
  (f_X5_endRow n x1 h).bind fun x2 =>
  f_X1_run_156 n v0 v2 v4 v5 x2 sz sl
set_option maxHeartbeats 1000000 in
set_option maxRecDepth 4000 in
theorem mo_X1_run_149 {n : Nat} {v0 : Nat} {v2 : Nat} {v4 : Int32} {v5 : Int32} {h : hp_H} {sz sl : Nat} {res : (Int32 × hp_H × Nat × Nat) ⊕ ((Int32 × Int32 × hp_H × Nat × Nat) ⊕ (Int32 × hp_H × Nat × Nat))} (hm : f_X1_run_149 n v0 v2 v4 v5 h sz sl = some res) : sz ≤ (zz_X1_run_40 res).1 ∧ sl ≤ (zz_X1_run_40 res).2 := by
  unfold f_X1_run_149 at hm
  obtain ⟨x1, hx1, hm⟩ := hp_bd hm
  obtain ⟨x2, hx2, hm⟩ := hp_bd hm
  exact mo_X1_run_156 hm
set_option maxHeartbeats 1000000 in
set_option maxRecDepth 4000 in
theorem q_X1_run_149 (G : hp_G) (n : Nat) (v0 : Nat) (v2 : Nat) (v4 : Int32) (v5 : Int32) (h : hp_H) (sz sl : Nat) (o : hp_O) (res : (Int32 × hp_H × Nat × Nat) ⊕ ((Int32 × Int32 × hp_H × Nat × Nat) ⊕ (Int32 × hp_H × Nat × Nat))) (hB : (zz_X1_run_40 res).1 ≤ o.2.2.1 ∧ (zz_X1_run_40 res).2 ≤ o.2.2.2) (hm : f_X1_run_149 n v0 v2 v4 v5 h sz sl = some res) (kI : ∀ y : Int32 × hp_H × Nat × Nat, res = .inl y → hp_V G m_X1_run 40 [(0, .ref v0), (2, .ref v2), (4, .int v4), (5, .int y.1)] [] y.2.1 y.2.2.1 y.2.2.2 o) (kX0 : ∀ y : Int32 × Int32 × hp_H × Nat × Nat, res = .inr (.inl y) → hp_V G m_X1_run 109 [(2, .ref v2), (5, .int y.1), (8, .int y.2.1)] [] y.2.2.1 y.2.2.2.1 y.2.2.2.2 o) (kR : ∀ y : Int32 × hp_H × Nat × Nat, res = .inr (.inr y) → o = (some (.int y.1), y.2.1, y.2.2.1, y.2.2.2)) : hp_V G m_X1_run 149 [(0, .ref v0), (2, .ref v2), (4, .int v4), (5, .int v5)] [] h sz sl o := by
  have ho : sz ≤ o.2.2.1 ∧ sl ≤ o.2.2.2 := ⟨Nat.le_trans (mo_X1_run_149 hm).1 hB.1, Nat.le_trans (mo_X1_run_149 hm).2 hB.2⟩
  unfold f_X1_run_149 at hm
  refine hv_aload_n 0 dX1_run_149 rfl rfl ?_
  obtain ⟨x1, hx1, hm⟩ := hp_bd hm
  refine hv_get lk_f_X1_20 dX1_run_150 (hp_fR_spec hx1) ?_
  obtain ⟨x2, hx2, hm⟩ := hp_bd hm
  obtain ⟨Vx2, hVx2⟩ := k_X5_endRow hx2
  refine hv_callV (As := []) (rest := []) Z_X5_endRow I_X5_endRow lk_m_X1_88 rfl hVx2 (c_X5_endRow G n x1 h sz sl _ hx2) rfl (Nat.le_of_ble_eq_true rfl) ⟨Nat.le_of_ble_eq_true rfl, Nat.le_of_ble_eq_true rfl⟩ ho.1 ho.2 rfl dX1_run_153 ?_
  refine hv_as [] x2 rfl rfl ?_
  exact hv_sub [0, 1, 2, 3] rfl (q_X1_run_156 G n v0 v2 v4 v5 x2 sz sl o _ hB hm kI kX0 kR)
def f_X1_run_102 (n : Nat) (v0 : Nat) (v2 : Nat) (v4 : Int32) (v5 : Int32) (s0 : Int32) (h : hp_H) (sz sl : Nat) : Option ((Int32 × hp_H × Nat × Nat) ⊕ ((Int32 × Int32 × hp_H × Nat × Nat) ⊕ (Int32 × hp_H × Nat × Nat))) :=
  if s0 = 0 then
    (hp_fR h 3 v2 4).bind fun x1 =>
    (hp_aI h 1 x1 v5).bind fun x2 =>
    if x2 = 0 then
      f_X1_run_156 n v0 v2 v4 v5 h sz sl
    else
      (hp_fR h 1 v0 1).bind fun x3 =>
      (hp_fR h 1 v0 0).bind fun x4 =>
      (hp_fR h 1 v0 0).bind fun x5 =>
      (hp_fI h 5 x5 3).bind fun x6 =>
      (f_X5_addFrom n x3 x4 (x6 - (1 : Int32)) (0 : Int32) h sz sl).bind fun x7 =>
      f_X1_run_149 n v0 v2 v4 v5 x7.1 x7.2.1 x7.2.2
  else
    some (.inr (.inl (v5, s0, h, sz, sl)))
set_option maxHeartbeats 1000000 in
set_option maxRecDepth 4000 in
theorem mo_X1_run_102 {n : Nat} {v0 : Nat} {v2 : Nat} {v4 : Int32} {v5 : Int32} {s0 : Int32} {h : hp_H} {sz sl : Nat} {res : (Int32 × hp_H × Nat × Nat) ⊕ ((Int32 × Int32 × hp_H × Nat × Nat) ⊕ (Int32 × hp_H × Nat × Nat))} (hm : f_X1_run_102 n v0 v2 v4 v5 s0 h sz sl = some res) : sz ≤ (zz_X1_run_40 res).1 ∧ sl ≤ (zz_X1_run_40 res).2 := by
  unfold f_X1_run_102 at hm
  rcases Decidable.em (s0 = 0) with c9 | c9
  · rw [if_pos c9] at hm
    obtain ⟨x1, hx1, hm⟩ := hp_bd hm
    obtain ⟨x2, hx2, hm⟩ := hp_bd hm
    rcases Decidable.em (x2 = 0) with c8 | c8
    · rw [if_pos c8] at hm
      exact mo_X1_run_156 hm
    · rw [if_neg c8] at hm
      obtain ⟨x3, hx3, hm⟩ := hp_bd hm
      obtain ⟨x4, hx4, hm⟩ := hp_bd hm
      obtain ⟨x5, hx5, hm⟩ := hp_bd hm
      obtain ⟨x6, hx6, hm⟩ := hp_bd hm
      obtain ⟨x7, hx7, hm⟩ := hp_bd hm
      exact hp_tr (mx_X5_addFrom hx7) (mo_X1_run_149 hm)
  · rw [if_neg c9] at hm
    obtain rfl := Option.some.inj hm
    exact ⟨Nat.le_refl _, Nat.le_refl _⟩
set_option maxHeartbeats 1000000 in
set_option maxRecDepth 4000 in
theorem q_X1_run_102 (G : hp_G) (n : Nat) (v0 : Nat) (v2 : Nat) (v4 : Int32) (v5 : Int32) (s0 : Int32) (h : hp_H) (sz sl : Nat) (o : hp_O) (res : (Int32 × hp_H × Nat × Nat) ⊕ ((Int32 × Int32 × hp_H × Nat × Nat) ⊕ (Int32 × hp_H × Nat × Nat))) (hB : (zz_X1_run_40 res).1 ≤ o.2.2.1 ∧ (zz_X1_run_40 res).2 ≤ o.2.2.2) (hm : f_X1_run_102 n v0 v2 v4 v5 s0 h sz sl = some res) (kI : ∀ y : Int32 × hp_H × Nat × Nat, res = .inl y → hp_V G m_X1_run 40 [(0, .ref v0), (2, .ref v2), (4, .int v4), (5, .int y.1)] [] y.2.1 y.2.2.1 y.2.2.2 o) (kX0 : ∀ y : Int32 × Int32 × hp_H × Nat × Nat, res = .inr (.inl y) → hp_V G m_X1_run 109 [(2, .ref v2), (5, .int y.1), (8, .int y.2.1)] [] y.2.2.1 y.2.2.2.1 y.2.2.2.2 o) (kR : ∀ y : Int32 × hp_H × Nat × Nat, res = .inr (.inr y) → o = (some (.int y.1), y.2.1, y.2.2.1, y.2.2.2)) : hp_V G m_X1_run 102 [(0, .ref v0), (2, .ref v2), (4, .int v4), (5, .int v5)] [.int s0] h sz sl o := by
  have ho : sz ≤ o.2.2.1 ∧ sl ≤ o.2.2.2 := ⟨Nat.le_trans (mo_X1_run_102 hm).1 hB.1, Nat.le_trans (mo_X1_run_102 hm).2 hB.2⟩
  unfold f_X1_run_102 at hm
  refine hv_istore [(8, .int s0), (0, .ref v0), (2, .ref v2), (4, .int v4), (5, .int v5)] dX1_run_102 (by decide) rfl ?_
  refine hv_iload 0 dX1_run_104 rfl ?_
  refine hv_if_eq (tgt := 118) dX1_run_106 (by decide) (fun c9 => ?_) (fun c9 => ?_)
  · rw [if_pos c9] at hm
    refine hv_aload_n 2 dX1_run_118 rfl rfl ?_
    obtain ⟨x1, hx1, hm⟩ := hp_bd hm
    refine hv_get lk_f_X1_77 dX1_run_119 (hp_fR_spec hx1) ?_
    refine hv_iload 4 dX1_run_122 rfl ?_
    obtain ⟨x2, hx2, hm⟩ := hp_bd hm
    refine hv_bald dX1_run_124 hx2 ?_
    refine hv_if_eq (tgt := 156) dX1_run_125 (by decide) (fun c8 => ?_) (fun c8 => ?_)
    · rw [if_pos c8] at hm
      exact hv_sub [1, 2, 3, 4] rfl (q_X1_run_156 G n v0 v2 v4 v5 h sz sl o _ hB hm kI kX0 kR)
    · rw [if_neg c8] at hm
      refine hv_aload_n 1 dX1_run_128 rfl rfl ?_
      obtain ⟨x3, hx3, hm⟩ := hp_bd hm
      refine hv_get lk_f_X1_20 dX1_run_129 (hp_fR_spec hx3) ?_
      refine hv_aload_n 1 dX1_run_132 rfl rfl ?_
      obtain ⟨x4, hx4, hm⟩ := hp_bd hm
      refine hv_get lk_f_X1_14 dX1_run_133 (hp_fR_spec hx4) ?_
      refine hv_aload_n 1 dX1_run_136 rfl rfl ?_
      obtain ⟨x5, hx5, hm⟩ := hp_bd hm
      refine hv_get lk_f_X1_14 dX1_run_137 (hp_fR_spec hx5) ?_
      obtain ⟨x6, hx6, hm⟩ := hp_bd hm
      refine hv_get lk_f_X1_81 dX1_run_140 (hp_fI_spec hx6) ?_
      refine hv_iconst (1 : Int32) dX1_run_143 (by decide) ?_
      refine hv_isub dX1_run_144 ?_
      refine hv_iconst (0 : Int32) dX1_run_145 (by decide) ?_
      obtain ⟨x7, hx7, hm⟩ := hp_bd hm
      have hq := hp_tr (mo_X1_run_149 hm) hB
      obtain ⟨Vx7, hVx7⟩ := k_X5_addFrom hx7
      refine hv_callV (As := [.ref x4, .int (x6 - (1 : Int32)), .int (0 : Int32)]) (rest := []) Z_X5_addFrom I_X5_addFrom lk_m_X1_84 rfl hVx7 (c_X5_addFrom G n x3 x4 (x6 - (1 : Int32)) (0 : Int32) h sz sl _ hx7) rfl (Nat.le_of_ble_eq_true rfl) ⟨Nat.le_of_ble_eq_true rfl, Nat.le_of_ble_eq_true rfl⟩ hq.1 hq.2 rfl dX1_run_146 ?_
      refine hv_as2 [] x7.1 x7.2.1 x7.2.2 rfl rfl rfl rfl ?_
      exact hv_sub [1, 2, 3, 4] rfl (q_X1_run_149 G n v0 v2 v4 v5 x7.1 x7.2.1 x7.2.2 o _ hB hm kI kX0 kR)
  · rw [if_neg c9] at hm
    exact hv_sub [2, 4, 0] rfl (kX0 (v5, s0, h, sz, sl) (Option.some.inj hm).symm)
def f_X1_run_93 (n : Nat) (v0 : Nat) (v2 : Nat) (v4 : Int32) (v5 : Int32) (s0 : Int32) (h : hp_H) (sz sl : Nat) : Option ((Int32 × hp_H × Nat × Nat) ⊕ ((Int32 × Int32 × hp_H × Nat × Nat) ⊕ (Int32 × hp_H × Nat × Nat))) :=
  f_X1_run_102 n v0 v2 v4 v5 s0 h sz sl
set_option maxHeartbeats 1000000 in
set_option maxRecDepth 4000 in
theorem mo_X1_run_93 {n : Nat} {v0 : Nat} {v2 : Nat} {v4 : Int32} {v5 : Int32} {s0 : Int32} {h : hp_H} {sz sl : Nat} {res : (Int32 × hp_H × Nat × Nat) ⊕ ((Int32 × Int32 × hp_H × Nat × Nat) ⊕ (Int32 × hp_H × Nat × Nat))} (hm : f_X1_run_93 n v0 v2 v4 v5 s0 h sz sl = some res) : sz ≤ (zz_X1_run_40 res).1 ∧ sl ≤ (zz_X1_run_40 res).2 := by
  unfold f_X1_run_93 at hm
  exact mo_X1_run_102 hm
set_option maxHeartbeats 1000000 in
set_option maxRecDepth 4000 in
theorem q_X1_run_93 (G : hp_G) (n : Nat) (v0 : Nat) (v2 : Nat) (v4 : Int32) (v5 : Int32) (s0 : Int32) (h : hp_H) (sz sl : Nat) (o : hp_O) (res : (Int32 × hp_H × Nat × Nat) ⊕ ((Int32 × Int32 × hp_H × Nat × Nat) ⊕ (Int32 × hp_H × Nat × Nat))) (hB : (zz_X1_run_40 res).1 ≤ o.2.2.1 ∧ (zz_X1_run_40 res).2 ≤ o.2.2.2) (hm : f_X1_run_93 n v0 v2 v4 v5 s0 h sz sl = some res) (kI : ∀ y : Int32 × hp_H × Nat × Nat, res = .inl y → hp_V G m_X1_run 40 [(0, .ref v0), (2, .ref v2), (4, .int v4), (5, .int y.1)] [] y.2.1 y.2.2.1 y.2.2.2 o) (kX0 : ∀ y : Int32 × Int32 × hp_H × Nat × Nat, res = .inr (.inl y) → hp_V G m_X1_run 109 [(2, .ref v2), (5, .int y.1), (8, .int y.2.1)] [] y.2.2.1 y.2.2.2.1 y.2.2.2.2 o) (kR : ∀ y : Int32 × hp_H × Nat × Nat, res = .inr (.inr y) → o = (some (.int y.1), y.2.1, y.2.2.1, y.2.2.2)) : hp_V G m_X1_run 93 [(0, .ref v0), (2, .ref v2), (4, .int v4), (5, .int v5)] [.int s0] h sz sl o := by
  have ho : sz ≤ o.2.2.1 ∧ sl ≤ o.2.2.2 := ⟨Nat.le_trans (mo_X1_run_93 hm).1 hB.1, Nat.le_trans (mo_X1_run_93 hm).2 hB.2⟩
  unfold f_X1_run_93 at hm
  refine hv_goto (tgt := 102) dX1_run_93 (by decide) ?_
  exact hv_sub [0, 1, 2, 3] rfl (q_X1_run_102 G n v0 v2 v4 v5 s0 h sz sl o _ hB hm kI kX0 kR)
def f_X1_run_80 (n : Nat) (v0 : Nat) (v2 : Nat) (v4 : Int32) (v5 : Int32) (v6 : Int32) (s0 : Int32) (h : hp_H) (sz sl : Nat) : Option ((Int32 × hp_H × Nat × Nat) ⊕ ((Int32 × Int32 × hp_H × Nat × Nat) ⊕ (Int32 × hp_H × Nat × Nat))) :=
  if s0 = 0 then
    (f_X1_push n v0 v6 h sz sl).bind fun x1 =>
    f_X1_run_102 n v0 v2 v4 v5 x1.1 x1.2.1 x1.2.2.1 x1.2.2.2
  else
    (f_X1_apply n v0 v6 h sz sl).bind fun x2 =>
    f_X1_run_93 n v0 v2 v4 v5 x2.1 x2.2.1 x2.2.2.1 x2.2.2.2
set_option maxHeartbeats 1000000 in
set_option maxRecDepth 4000 in
theorem mo_X1_run_80 {n : Nat} {v0 : Nat} {v2 : Nat} {v4 : Int32} {v5 : Int32} {v6 : Int32} {s0 : Int32} {h : hp_H} {sz sl : Nat} {res : (Int32 × hp_H × Nat × Nat) ⊕ ((Int32 × Int32 × hp_H × Nat × Nat) ⊕ (Int32 × hp_H × Nat × Nat))} (hm : f_X1_run_80 n v0 v2 v4 v5 v6 s0 h sz sl = some res) : sz ≤ (zz_X1_run_40 res).1 ∧ sl ≤ (zz_X1_run_40 res).2 := by
  unfold f_X1_run_80 at hm
  rcases Decidable.em (s0 = 0) with c3 | c3
  · rw [if_pos c3] at hm
    obtain ⟨x1, hx1, hm⟩ := hp_bd hm
    exact hp_tr (mx_X1_push hx1) (mo_X1_run_102 hm)
  · rw [if_neg c3] at hm
    obtain ⟨x2, hx2, hm⟩ := hp_bd hm
    exact hp_tr (mx_X1_apply hx2) (mo_X1_run_93 hm)
set_option maxHeartbeats 1000000 in
set_option maxRecDepth 4000 in
theorem q_X1_run_80 (G : hp_G) (n : Nat) (v0 : Nat) (v2 : Nat) (v4 : Int32) (v5 : Int32) (v6 : Int32) (s0 : Int32) (h : hp_H) (sz sl : Nat) (o : hp_O) (res : (Int32 × hp_H × Nat × Nat) ⊕ ((Int32 × Int32 × hp_H × Nat × Nat) ⊕ (Int32 × hp_H × Nat × Nat))) (hB : (zz_X1_run_40 res).1 ≤ o.2.2.1 ∧ (zz_X1_run_40 res).2 ≤ o.2.2.2) (hm : f_X1_run_80 n v0 v2 v4 v5 v6 s0 h sz sl = some res) (kI : ∀ y : Int32 × hp_H × Nat × Nat, res = .inl y → hp_V G m_X1_run 40 [(0, .ref v0), (2, .ref v2), (4, .int v4), (5, .int y.1)] [] y.2.1 y.2.2.1 y.2.2.2 o) (kX0 : ∀ y : Int32 × Int32 × hp_H × Nat × Nat, res = .inr (.inl y) → hp_V G m_X1_run 109 [(2, .ref v2), (5, .int y.1), (8, .int y.2.1)] [] y.2.2.1 y.2.2.2.1 y.2.2.2.2 o) (kR : ∀ y : Int32 × hp_H × Nat × Nat, res = .inr (.inr y) → o = (some (.int y.1), y.2.1, y.2.2.1, y.2.2.2)) : hp_V G m_X1_run 80 [(0, .ref v0), (2, .ref v2), (4, .int v4), (5, .int v5), (6, .int v6)] [.int s0] h sz sl o := by
  have ho : sz ≤ o.2.2.1 ∧ sl ≤ o.2.2.2 := ⟨Nat.le_trans (mo_X1_run_80 hm).1 hB.1, Nat.le_trans (mo_X1_run_80 hm).2 hB.2⟩
  unfold f_X1_run_80 at hm
  refine hv_istore [(7, .int s0), (0, .ref v0), (2, .ref v2), (4, .int v4), (5, .int v5), (6, .int v6)] dX1_run_80 (by decide) rfl ?_
  refine hv_iload 0 dX1_run_82 rfl ?_
  refine hv_if_eq (tgt := 96) dX1_run_84 (by decide) (fun c3 => ?_) (fun c3 => ?_)
  · rw [if_pos c3] at hm
    refine hv_aload_n 1 dX1_run_96 rfl rfl ?_
    refine hv_iload 5 dX1_run_97 rfl ?_
    obtain ⟨x1, hx1, hm⟩ := hp_bd hm
    have hq := hp_tr (mo_X1_run_102 hm) hB
    obtain ⟨Vx1, hVx1⟩ := k_X1_push hx1
    refine hv_callV (As := [.int v6]) (rest := []) Z_X1_push I_X1_push lk_m_X1_71 rfl hVx1 (c_X1_push G n v0 v6 h sz sl _ hx1) rfl (Nat.le_of_ble_eq_true rfl) ⟨Nat.le_of_ble_eq_true rfl, Nat.le_of_ble_eq_true rfl⟩ hq.1 hq.2 rfl dX1_run_99 ?_
    refine hv_as2 [.int x1.1] x1.2.1 x1.2.2.1 x1.2.2.2 rfl rfl rfl rfl ?_
    exact hv_sub [1, 2, 3, 4] rfl (q_X1_run_102 G n v0 v2 v4 v5 x1.1 x1.2.1 x1.2.2.1 x1.2.2.2 o _ hB hm kI kX0 kR)
  · rw [if_neg c3] at hm
    refine hv_aload_n 1 dX1_run_87 rfl rfl ?_
    refine hv_iload 5 dX1_run_88 rfl ?_
    obtain ⟨x2, hx2, hm⟩ := hp_bd hm
    have hq := hp_tr (mo_X1_run_93 hm) hB
    obtain ⟨Vx2, hVx2⟩ := k_X1_apply hx2
    refine hv_callV (As := [.int v6]) (rest := []) Z_X1_apply I_X1_apply lk_m_X1_67 rfl hVx2 (c_X1_apply G n v0 v6 h sz sl _ hx2) rfl (Nat.le_of_ble_eq_true rfl) ⟨Nat.le_of_ble_eq_true rfl, Nat.le_of_ble_eq_true rfl⟩ hq.1 hq.2 rfl dX1_run_90 ?_
    refine hv_as2 [.int x2.1] x2.2.1 x2.2.2.1 x2.2.2.2 rfl rfl rfl rfl ?_
    exact hv_sub [1, 2, 3, 4] rfl (q_X1_run_93 G n v0 v2 v4 v5 x2.1 x2.2.1 x2.2.2.1 x2.2.2.2 o _ hB hm kI kX0 kR)
def f_X1_run_79 (n : Nat) (v0 : Nat) (v2 : Nat) (v4 : Int32) (v5 : Int32) (v6 : Int32) (h : hp_H) (sz sl : Nat) : Option ((Int32 × hp_H × Nat × Nat) ⊕ ((Int32 × Int32 × hp_H × Nat × Nat) ⊕ (Int32 × hp_H × Nat × Nat))) :=
  f_X1_run_80 n v0 v2 v4 v5 v6 (0 : Int32) h sz sl
set_option maxHeartbeats 1000000 in
set_option maxRecDepth 4000 in
theorem mo_X1_run_79 {n : Nat} {v0 : Nat} {v2 : Nat} {v4 : Int32} {v5 : Int32} {v6 : Int32} {h : hp_H} {sz sl : Nat} {res : (Int32 × hp_H × Nat × Nat) ⊕ ((Int32 × Int32 × hp_H × Nat × Nat) ⊕ (Int32 × hp_H × Nat × Nat))} (hm : f_X1_run_79 n v0 v2 v4 v5 v6 h sz sl = some res) : sz ≤ (zz_X1_run_40 res).1 ∧ sl ≤ (zz_X1_run_40 res).2 := by
  unfold f_X1_run_79 at hm
  exact mo_X1_run_80 hm
set_option maxHeartbeats 1000000 in
set_option maxRecDepth 4000 in
theorem q_X1_run_79 (G : hp_G) (n : Nat) (v0 : Nat) (v2 : Nat) (v4 : Int32) (v5 : Int32) (v6 : Int32) (h : hp_H) (sz sl : Nat) (o : hp_O) (res : (Int32 × hp_H × Nat × Nat) ⊕ ((Int32 × Int32 × hp_H × Nat × Nat) ⊕ (Int32 × hp_H × Nat × Nat))) (hB : (zz_X1_run_40 res).1 ≤ o.2.2.1 ∧ (zz_X1_run_40 res).2 ≤ o.2.2.2) (hm : f_X1_run_79 n v0 v2 v4 v5 v6 h sz sl = some res) (kI : ∀ y : Int32 × hp_H × Nat × Nat, res = .inl y → hp_V G m_X1_run 40 [(0, .ref v0), (2, .ref v2), (4, .int v4), (5, .int y.1)] [] y.2.1 y.2.2.1 y.2.2.2 o) (kX0 : ∀ y : Int32 × Int32 × hp_H × Nat × Nat, res = .inr (.inl y) → hp_V G m_X1_run 109 [(2, .ref v2), (5, .int y.1), (8, .int y.2.1)] [] y.2.2.1 y.2.2.2.1 y.2.2.2.2 o) (kR : ∀ y : Int32 × hp_H × Nat × Nat, res = .inr (.inr y) → o = (some (.int y.1), y.2.1, y.2.2.1, y.2.2.2)) : hp_V G m_X1_run 79 [(0, .ref v0), (2, .ref v2), (4, .int v4), (5, .int v5), (6, .int v6)] [] h sz sl o := by
  have ho : sz ≤ o.2.2.1 ∧ sl ≤ o.2.2.2 := ⟨Nat.le_trans (mo_X1_run_79 hm).1 hB.1, Nat.le_trans (mo_X1_run_79 hm).2 hB.2⟩
  unfold f_X1_run_79 at hm
  refine hv_iconst (0 : Int32) dX1_run_79 (by decide) ?_
  exact hv_sub [0, 1, 2, 3, 4] rfl (q_X1_run_80 G n v0 v2 v4 v5 v6 (0 : Int32) h sz sl o _ hB hm kI kX0 kR)
def f_X1_run_40 (n : Nat) (v0 : Nat) (v2 : Nat) (v4 : Int32) (v5 : Int32) (h : hp_H) (sz sl : Nat) : Option ((Int32 × hp_H × Nat × Nat) ⊕ ((Int32 × Int32 × hp_H × Nat × Nat) ⊕ (Int32 × hp_H × Nat × Nat))) :=
  if v4 ≤ v5 then
    some (.inr (.inr ((0 : Int32), h, sz, sl)))
  else
    (hp_fR h 3 v2 3).bind fun x1 =>
    (hp_aI h 0 x1 v5).bind fun x2 =>
    if x2 < 0 then
      f_X1_run_79 n v0 v2 v4 v5 x2 h sz sl
    else
      (hp_fR h 1 v0 2).bind fun x3 =>
      (hp_fR h 0 x3 6).bind fun x4 =>
      (hp_aI h 0 x4 x2).bind fun x5 =>
      if x5 < (2 : Int32) then
        f_X1_run_79 n v0 v2 v4 v5 x2 h sz sl
      else
        f_X1_run_80 n v0 v2 v4 v5 x2 (1 : Int32) h sz sl
set_option maxHeartbeats 1000000 in
set_option maxRecDepth 4000 in
theorem mo_X1_run_40 {n : Nat} {v0 : Nat} {v2 : Nat} {v4 : Int32} {v5 : Int32} {h : hp_H} {sz sl : Nat} {res : (Int32 × hp_H × Nat × Nat) ⊕ ((Int32 × Int32 × hp_H × Nat × Nat) ⊕ (Int32 × hp_H × Nat × Nat))} (hm : f_X1_run_40 n v0 v2 v4 v5 h sz sl = some res) : sz ≤ (zz_X1_run_40 res).1 ∧ sl ≤ (zz_X1_run_40 res).2 := by
  unfold f_X1_run_40 at hm
  rcases Decidable.em (v4 ≤ v5) with c8 | c8
  · rw [if_pos c8] at hm
    obtain rfl := Option.some.inj hm
    exact ⟨Nat.le_refl _, Nat.le_refl _⟩
  · rw [if_neg c8] at hm
    obtain ⟨x1, hx1, hm⟩ := hp_bd hm
    obtain ⟨x2, hx2, hm⟩ := hp_bd hm
    rcases Decidable.em (x2 < 0) with c7 | c7
    · rw [if_pos c7] at hm
      exact mo_X1_run_79 hm
    · rw [if_neg c7] at hm
      obtain ⟨x3, hx3, hm⟩ := hp_bd hm
      obtain ⟨x4, hx4, hm⟩ := hp_bd hm
      obtain ⟨x5, hx5, hm⟩ := hp_bd hm
      rcases Decidable.em (x5 < (2 : Int32)) with c6 | c6
      · rw [if_pos c6] at hm
        exact mo_X1_run_79 hm
      · rw [if_neg c6] at hm
        exact mo_X1_run_80 hm
set_option maxHeartbeats 1000000 in
set_option maxRecDepth 4000 in
theorem q_X1_run_40 (G : hp_G) (n : Nat) (v0 : Nat) (v2 : Nat) (v4 : Int32) (v5 : Int32) (h : hp_H) (sz sl : Nat) (o : hp_O) (res : (Int32 × hp_H × Nat × Nat) ⊕ ((Int32 × Int32 × hp_H × Nat × Nat) ⊕ (Int32 × hp_H × Nat × Nat))) (hB : (zz_X1_run_40 res).1 ≤ o.2.2.1 ∧ (zz_X1_run_40 res).2 ≤ o.2.2.2) (hm : f_X1_run_40 n v0 v2 v4 v5 h sz sl = some res) (kI : ∀ y : Int32 × hp_H × Nat × Nat, res = .inl y → hp_V G m_X1_run 40 [(0, .ref v0), (2, .ref v2), (4, .int v4), (5, .int y.1)] [] y.2.1 y.2.2.1 y.2.2.2 o) (kX0 : ∀ y : Int32 × Int32 × hp_H × Nat × Nat, res = .inr (.inl y) → hp_V G m_X1_run 109 [(2, .ref v2), (5, .int y.1), (8, .int y.2.1)] [] y.2.2.1 y.2.2.2.1 y.2.2.2.2 o) (kR : ∀ y : Int32 × hp_H × Nat × Nat, res = .inr (.inr y) → o = (some (.int y.1), y.2.1, y.2.2.1, y.2.2.2)) : hp_V G m_X1_run 40 [(0, .ref v0), (2, .ref v2), (4, .int v4), (5, .int v5)] [] h sz sl o := by
  have ho : sz ≤ o.2.2.1 ∧ sl ≤ o.2.2.2 := ⟨Nat.le_trans (mo_X1_run_40 hm).1 hB.1, Nat.le_trans (mo_X1_run_40 hm).2 hB.2⟩
  unfold f_X1_run_40 at hm
  refine hv_iload 3 dX1_run_40 rfl ?_
  refine hv_iload 2 dX1_run_42 rfl ?_
  refine hv_icmp_ge (tgt := 162) dX1_run_44 (by decide) (fun c8 => ?_) (fun c8 => ?_)
  · rw [if_pos c8] at hm
    refine hv_iconst (0 : Int32) dX1_run_162 (by decide) ?_
    obtain rfl := kR _ (Option.some.inj hm).symm
    exact hv_iret rfl dX1_run_163
  · rw [if_neg c8] at hm
    refine hv_aload_n 1 dX1_run_47 rfl rfl ?_
    obtain ⟨x1, hx1, hm⟩ := hp_bd hm
    refine hv_get lk_f_X1_59 dX1_run_48 (hp_fR_spec hx1) ?_
    refine hv_iload 3 dX1_run_51 rfl ?_
    obtain ⟨x2, hx2, hm⟩ := hp_bd hm
    refine hv_iald dX1_run_53 hx2 ?_
    refine hv_istore [(6, .int x2), (0, .ref v0), (2, .ref v2), (4, .int v4), (5, .int v5)] dX1_run_54 (by decide) rfl ?_
    refine hv_iload 0 dX1_run_56 rfl ?_
    refine hv_if_lt (tgt := 79) dX1_run_58 (by decide) (fun c7 => ?_) (fun c7 => ?_)
    · rw [if_pos c7] at hm
      exact hv_sub [1, 2, 3, 4, 0] rfl (q_X1_run_79 G n v0 v2 v4 v5 x2 h sz sl o _ hB hm kI kX0 kR)
    · rw [if_neg c7] at hm
      refine hv_aload_n 1 dX1_run_61 rfl rfl ?_
      obtain ⟨x3, hx3, hm⟩ := hp_bd hm
      refine hv_get lk_f_X1_34 dX1_run_62 (hp_fR_spec hx3) ?_
      obtain ⟨x4, hx4, hm⟩ := hp_bd hm
      refine hv_get lk_f_X1_62 dX1_run_65 (hp_fR_spec hx4) ?_
      refine hv_iload 0 dX1_run_68 rfl ?_
      obtain ⟨x5, hx5, hm⟩ := hp_bd hm
      refine hv_iald dX1_run_70 hx5 ?_
      refine hv_iconst (2 : Int32) dX1_run_71 (by decide) ?_
      refine hv_icmp_lt (tgt := 79) dX1_run_72 (by decide) (fun c6 => ?_) (fun c6 => ?_)
      · rw [if_pos c6] at hm
        exact hv_sub [1, 2, 3, 4, 0] rfl (q_X1_run_79 G n v0 v2 v4 v5 x2 h sz sl o _ hB hm kI kX0 kR)
      · rw [if_neg c6] at hm
        refine hv_iconst (1 : Int32) dX1_run_75 (by decide) ?_
        refine hv_goto (tgt := 80) dX1_run_76 (by decide) ?_
        exact hv_sub [1, 2, 3, 4, 0] rfl (q_X1_run_80 G n v0 v2 v4 v5 x2 (1 : Int32) h sz sl o _ hB hm kI kX0 kR)
def fL_X1_run_40 (n : Nat) (v0 : Nat) (v2 : Nat) (v4 : Int32) (s : Int32 × hp_H × Nat × Nat) : Option ((Int32 × hp_H × Nat × Nat) ⊕ ((Int32 × Int32 × hp_H × Nat × Nat) ⊕ (Int32 × hp_H × Nat × Nat))) := f_X1_run_40 n v0 v2 v4 s.1 s.2.1 s.2.2.1 s.2.2.2
theorem ml_X1_run_40 {n : Nat} {v0 : Nat} {v2 : Nat} {v4 : Int32} : ∀ (k : Nat) (s : Int32 × hp_H × Nat × Nat) (x : (Int32 × Int32 × hp_H × Nat × Nat) ⊕ (Int32 × hp_H × Nat × Nat)), hp_lp (fL_X1_run_40 n v0 v2 v4) k s = some x → s.2.2.1 ≤ (zx_X1_run_40 x).1 ∧ s.2.2.2 ≤ (zx_X1_run_40 x).2 := by
  intro k
  induction k with
  | zero => intro s x hx; exact (hp_lp_0 hx).elim
  | succ k ih =>
    intro s x hx
    obtain ⟨r, hr, hc⟩ := hp_lp_1 hx
    have h1 := mo_X1_run_40 hr
    rcases hc with ⟨s3, e3, hx3⟩ | e3
    · subst e3
      exact hp_tr h1 (ih _ _ hx3)
    · subst e3
      exact h1
theorem l_X1_run_40 (G : hp_G) (n : Nat) (v0 : Nat) (v2 : Nat) (v4 : Int32) (o : hp_O) : ∀ (k : Nat) (s : Int32 × hp_H × Nat × Nat) (x : (Int32 × Int32 × hp_H × Nat × Nat) ⊕ (Int32 × hp_H × Nat × Nat)), hp_lp (fL_X1_run_40 n v0 v2 v4) k s = some x → ((zx_X1_run_40 x).1 ≤ o.2.2.1 ∧ (zx_X1_run_40 x).2 ≤ o.2.2.2) → (∀ y : Int32 × Int32 × hp_H × Nat × Nat, x = (.inl y) → hp_V G m_X1_run 109 [(2, .ref v2), (5, .int y.1), (8, .int y.2.1)] [] y.2.2.1 y.2.2.2.1 y.2.2.2.2 o) → (∀ y : Int32 × hp_H × Nat × Nat, x = (.inr y) → o = (some (.int y.1), y.2.1, y.2.2.1, y.2.2.2)) → hp_V G m_X1_run 40 [(0, .ref v0), (2, .ref v2), (4, .int v4), (5, .int s.1)] [] s.2.1 s.2.2.1 s.2.2.2 o := by
  intro k
  induction k with
  | zero => intro s x hx; exact (hp_lp_0 hx).elim
  | succ k ih =>
    intro s x hx hz k0 k1
    obtain ⟨r, hr, hc⟩ := hp_lp_1 hx
    have hB : (zz_X1_run_40 r).1 ≤ o.2.2.1 ∧ (zz_X1_run_40 r).2 ≤ o.2.2.2 := by
      rcases hc with ⟨s3, e3, hx3⟩ | e3
      · subst e3
        exact hp_tr (ml_X1_run_40 _ _ _ hx3) hz
      · subst e3
        exact hz
    refine q_X1_run_40 G n v0 v2 v4 s.1 s.2.1 s.2.2.1 s.2.2.2 o r hB hr (fun s2 e => ?_) (fun y e => ?_) (fun y e => ?_)
    · rcases hc with ⟨s3, e3, hx3⟩ | e3
      · have e4 := Sum.inl.inj (e.symm.trans e3)
        subst e4
        exact ih _ _ hx3 hz k0 k1
      · cases (e.symm.trans e3)
    · rcases hc with ⟨s3, e3, hx3⟩ | e3
      · cases (e.symm.trans e3)
      · exact k0 y (Sum.inr.inj (e3.symm.trans e))
    · rcases hc with ⟨s3, e3, hx3⟩ | e3
      · cases (e.symm.trans e3)
      · exact k1 y (Sum.inr.inj (e3.symm.trans e))
def f_X1_run_109 (n : Nat) (v2 : Nat) (v5 : Int32) (v8 : Int32) (h : hp_H) (sz sl : Nat) : Option (Int32 × hp_H × Nat × Nat) :=
  (hp_pF h 3 v2 2 (.int v5)).bind fun h1 =>
  some (v8, h1, sz, sl)
set_option maxHeartbeats 1000000 in
set_option maxRecDepth 4000 in
theorem mo_X1_run_109 {n : Nat} {v2 : Nat} {v5 : Int32} {v8 : Int32} {h : hp_H} {sz sl : Nat} {res : Int32 × hp_H × Nat × Nat} (hm : f_X1_run_109 n v2 v5 v8 h sz sl = some res) : sz ≤ res.2.2.1 ∧ sl ≤ res.2.2.2 := by
  unfold f_X1_run_109 at hm
  obtain ⟨h1, hh1, hm⟩ := hp_bd hm
  obtain rfl := Option.some.inj hm
  exact ⟨Nat.le_refl _, Nat.le_refl _⟩
set_option maxHeartbeats 1000000 in
set_option maxRecDepth 4000 in
theorem q_X1_run_109 (G : hp_G) (n : Nat) (v2 : Nat) (v5 : Int32) (v8 : Int32) (h : hp_H) (sz sl : Nat) (res : Int32 × hp_H × Nat × Nat) (hm : f_X1_run_109 n v2 v5 v8 h sz sl = some res) : hp_V G m_X1_run 109 [(2, .ref v2), (5, .int v5), (8, .int v8)] [] h sz sl (some (.int res.1), res.2.1, res.2.2.1, res.2.2.2) := by
  have ho := mo_X1_run_109 hm
  unfold f_X1_run_109 at hm
  refine hv_aload_n 0 dX1_run_109 rfl rfl ?_
  refine hv_iload 1 dX1_run_110 rfl ?_
  obtain ⟨h1, hh1, hm⟩ := hp_bd hm
  refine hv_put lk_f_X1_74 dX1_run_112 rfl rfl hh1 ?_
  refine hv_iload 2 dX1_run_115 rfl ?_
  obtain rfl := Option.some.inj hm
  exact hv_iret rfl dX1_run_117
def f_X1_run_0 (n : Nat) (v0 : Nat) (v1 : Nat) (v2 : Nat) (v3 : Int32) (h : hp_H) (sz sl : Nat) : Option (Int32 × hp_H × Nat × Nat) :=
  (hp_pF h 1 v0 2 (.ref v1)).bind fun h1 =>
  (hp_fR h1 1 v0 0).bind fun x2 =>
  (f_X5_clear n x2 h1).bind fun x3 =>
  (hp_fR x3 1 v0 1).bind fun x4 =>
  (f_X5_clear n x4 x3).bind fun x5 =>
  (hp_fI x5 3 v2 0).bind fun x6 =>
  (f_X1_notePartners n v0 x6 x5).bind fun x7 =>
  (hp_fI x7 3 v2 1).bind fun x8 =>
  (hp_lp (fL_X1_run_40 n v0 v2 (hp_mn v3 x8)) n ((0 : Int32), x7, sz, sl)).bind fun x9 =>
  Sum.elim (fun y10 =>
    f_X1_run_109 n v2 y10.1 y10.2.1 y10.2.2.1 y10.2.2.2.1 y10.2.2.2.2) (fun y11 =>
    some (y11.1, y11.2.1, y11.2.2.1, y11.2.2.2)) x9
set_option maxHeartbeats 1000000 in
set_option maxRecDepth 4000 in
theorem mo_X1_run_0 {n : Nat} {v0 : Nat} {v1 : Nat} {v2 : Nat} {v3 : Int32} {h : hp_H} {sz sl : Nat} {res : Int32 × hp_H × Nat × Nat} (hm : f_X1_run_0 n v0 v1 v2 v3 h sz sl = some res) : sz ≤ res.2.2.1 ∧ sl ≤ res.2.2.2 := by
  unfold f_X1_run_0 at hm
  obtain ⟨h1, hh1, hm⟩ := hp_bd hm
  obtain ⟨x2, hx2, hm⟩ := hp_bd hm
  obtain ⟨x3, hx3, hm⟩ := hp_bd hm
  obtain ⟨x4, hx4, hm⟩ := hp_bd hm
  obtain ⟨x5, hx5, hm⟩ := hp_bd hm
  obtain ⟨x6, hx6, hm⟩ := hp_bd hm
  obtain ⟨x7, hx7, hm⟩ := hp_bd hm
  obtain ⟨x8, hx8, hm⟩ := hp_bd hm
  obtain ⟨x9, hx9, hm⟩ := hp_bd hm
  have ml := ml_X1_run_40 _ _ _ hx9
  rcases x9 with y10 | y11
  · skip
    simp only [Sum.elim_inl, Sum.elim_inr] at hm
    exact hp_tr ml (mo_X1_run_109 hm)
  · skip
    simp only [Sum.elim_inl, Sum.elim_inr] at hm
    obtain rfl := Option.some.inj hm
    exact ml
set_option maxHeartbeats 1000000 in
set_option maxRecDepth 4000 in
theorem q_X1_run_0 (G : hp_G) (n : Nat) (v0 : Nat) (v1 : Nat) (v2 : Nat) (v3 : Int32) (h : hp_H) (sz sl : Nat) (res : Int32 × hp_H × Nat × Nat) (hm : f_X1_run_0 n v0 v1 v2 v3 h sz sl = some res) : hp_V G m_X1_run 0 [(0, .ref v0), (1, .ref v1), (2, .ref v2), (3, .int v3)] [] h sz sl (some (.int res.1), res.2.1, res.2.2.1, res.2.2.2) := by
  have ho := mo_X1_run_0 hm
  unfold f_X1_run_0 at hm
  refine hv_aload_n 0 dX1_run_0 rfl rfl ?_
  refine hv_aload_n 1 dX1_run_1 rfl rfl ?_
  obtain ⟨h1, hh1, hm⟩ := hp_bd hm
  refine hv_put lk_f_X1_34 dX1_run_2 rfl rfl hh1 ?_
  refine hv_aload_n 0 dX1_run_5 rfl rfl ?_
  obtain ⟨x2, hx2, hm⟩ := hp_bd hm
  refine hv_get lk_f_X1_14 dX1_run_6 (hp_fR_spec hx2) ?_
  obtain ⟨x3, hx3, hm⟩ := hp_bd hm
  obtain ⟨Vx3, hVx3⟩ := k_X5_clear hx3
  refine hv_callV (As := []) (rest := []) Z_X5_clear I_X5_clear lk_m_X1_38 rfl hVx3 (c_X5_clear G n x2 h1 sz sl _ hx3) rfl (Nat.le_of_ble_eq_true rfl) ⟨Nat.le_of_ble_eq_true rfl, Nat.le_of_ble_eq_true rfl⟩ ho.1 ho.2 rfl dX1_run_9 ?_
  refine hv_as [] x3 rfl rfl ?_
  refine hv_aload_n 0 dX1_run_12 rfl rfl ?_
  obtain ⟨x4, hx4, hm⟩ := hp_bd hm
  refine hv_get lk_f_X1_20 dX1_run_13 (hp_fR_spec hx4) ?_
  obtain ⟨x5, hx5, hm⟩ := hp_bd hm
  obtain ⟨Vx5, hVx5⟩ := k_X5_clear hx5
  refine hv_callV (As := []) (rest := []) Z_X5_clear I_X5_clear lk_m_X1_38 rfl hVx5 (c_X5_clear G n x4 x3 sz sl _ hx5) rfl (Nat.le_of_ble_eq_true rfl) ⟨Nat.le_of_ble_eq_true rfl, Nat.le_of_ble_eq_true rfl⟩ ho.1 ho.2 rfl dX1_run_16 ?_
  refine hv_as [] x5 rfl rfl ?_
  refine hv_aload_n 0 dX1_run_19 rfl rfl ?_
  refine hv_aload_n 2 dX1_run_20 rfl rfl ?_
  obtain ⟨x6, hx6, hm⟩ := hp_bd hm
  refine hv_get lk_f_X1_41 dX1_run_21 (hp_fI_spec hx6) ?_
  obtain ⟨x7, hx7, hm⟩ := hp_bd hm
  obtain ⟨Vx7, hVx7⟩ := k_X1_notePartners hx7
  refine hv_callV (As := [.int x6]) (rest := []) Z_X1_notePartners I_X1_notePartners lk_m_X1_47 rfl hVx7 (c_X1_notePartners G n v0 x6 x5 sz sl _ hx7) rfl (Nat.le_of_ble_eq_true rfl) ⟨Nat.le_of_ble_eq_true rfl, Nat.le_of_ble_eq_true rfl⟩ ho.1 ho.2 rfl dX1_run_24 ?_
  refine hv_as [] x7 rfl rfl ?_
  refine hv_iload_n 3 dX1_run_27 rfl rfl ?_
  refine hv_aload_n 2 dX1_run_28 rfl rfl ?_
  obtain ⟨x8, hx8, hm⟩ := hp_bd hm
  refine hv_get lk_f_X1_50 dX1_run_29 (hp_fI_spec hx8) ?_
  refine hv_mmin lk_x_X1_53 ⟨Nat.le_of_ble_eq_true rfl, Nat.le_of_ble_eq_true rfl⟩ (Nat.le_of_ble_eq_true rfl) ho dX1_run_32 ?_
  refine hv_istore [(4, .int (hp_mn v3 x8)), (0, .ref v0), (1, .ref v1), (2, .ref v2), (3, .int v3)] dX1_run_35 (by decide) rfl ?_
  refine hv_iconst (0 : Int32) dX1_run_37 (by decide) ?_
  refine hv_istore [(5, .int (0 : Int32)), (4, .int (hp_mn v3 x8)), (0, .ref v0), (1, .ref v1), (2, .ref v2), (3, .int v3)] dX1_run_38 (by decide) rfl ?_
  obtain ⟨x9, hx9, hm⟩ := hp_bd hm
  rcases x9 with y10 | y11
  · skip
    simp only [Sum.elim_inl, Sum.elim_inr] at hm
    have hz : (zx_X1_run_40 (.inl y10)).1 ≤ _ ∧ (zx_X1_run_40 (.inl y10)).2 ≤ _ := mo_X1_run_109 hm
    refine hv_sub [2, 4, 1, 0] rfl (l_X1_run_40 G n v0 v2 (hp_mn v3 x8)  _  n _ _ hx9 hz (fun wy10 ey10 => ?_) (fun wy11 ey11 => ?_))
    · cases ey10
      exact hv_sub [0, 1, 2] rfl (q_X1_run_109 G n v2 y10.1 y10.2.1 y10.2.2.1 y10.2.2.2.1 y10.2.2.2.2 _ hm)
    · cases ey11
  · skip
    simp only [Sum.elim_inl, Sum.elim_inr] at hm
    have hz : (zx_X1_run_40 (.inr y11)).1 ≤ res.2.2.1 ∧ (zx_X1_run_40 (.inr y11)).2 ≤ res.2.2.2 := by
      have q := Option.some.inj hm
      subst q
      exact ⟨Nat.le_refl _, Nat.le_refl _⟩
    refine hv_sub [2, 4, 1, 0] rfl (l_X1_run_40 G n v0 v2 (hp_mn v3 x8)  _  n _ _ hx9 hz (fun wy10 ey10 => ?_) (fun wy11 ey11 => ?_))
    · cases ey10
    · cases ey11
      obtain rfl := Option.some.inj hm
      rfl
def f_X1_run (n : Nat) (v0 : Nat) (v1 : Nat) (v2 : Nat) (v3 : Int32) (h : hp_H) (sz sl : Nat) : Option (Int32 × hp_H × Nat × Nat) := (hp_ck h 1 v0).bind fun _ => f_X1_run_0 n v0 v1 v2 v3 h sz sl
theorem c_X1_run (G : hp_G) (n : Nat) (v0 : Nat) (v1 : Nat) (v2 : Nat) (v3 : Int32) (h : hp_H) (sz sl : Nat) (res : Int32 × hp_H × Nat × Nat) (hm : f_X1_run n v0 v1 v2 v3 h sz sl = some res) : hp_C G m_X1_run yX1_run [.ref v0, .ref v1, .ref v2, .int v3] h sz sl (some (.int res.1), res.2.1, res.2.2.1, res.2.2.2) := by
  unfold f_X1_run at hm
  obtain ⟨_, _, hm⟩ := hp_bd hm
  exact hp_C_of (by decide) rfl rfl (Nat.le_of_ble_eq_true rfl) (mo_X1_run_0 hm).1 (mo_X1_run_0 hm).2 (hv_sub [0, 1, 2, 3] rfl (q_X1_run_0 G n v0 v1 v2 v3 h sz sl res hm))
theorem k_X1_run {n : Nat} {v0 : Nat} {v1 : Nat} {v2 : Nat} {v3 : Int32} {h : hp_H} {sz sl : Nat} {res : Int32 × hp_H × Nat × Nat} (hm : f_X1_run n v0 v1 v2 v3 h sz sl = some res) : ∃ V, h v0 = some (.inr (.inr (1, V))) := by
  unfold f_X1_run at hm
  obtain ⟨_, hu, _⟩ := hp_bd hm
  exact hp_ck_spec hu
theorem mx_X1_run {n : Nat} {v0 : Nat} {v1 : Nat} {v2 : Nat} {v3 : Int32} {h : hp_H} {sz sl : Nat} {res : Int32 × hp_H × Nat × Nat} (hm : f_X1_run n v0 v1 v2 v3 h sz sl = some res) : sz ≤ res.2.2.1 ∧ sl ≤ res.2.2.2 := by
  unfold f_X1_run at hm
  obtain ⟨_, _, hm⟩ := hp_bd hm
  exact mo_X1_run_0 hm
abbrev m_X1_verdict : hp_M := (RX1, cX1_verdict, 3, some .int, 2, 47, "verdict")
theorem Z_X1_verdict : hp_Y yX1_verdict m_X1_verdict 2 := Y_X1_verdict
def f_X1_verdict_0 (n : Nat) (v0 : Nat) (v1 : Nat) (v2 : Nat) (h : hp_H) : Option (Int32) :=
  (hp_fR h 1 v0 0).bind fun x1 =>
  (hp_fI h 5 x1 3).bind fun x2 =>
  if x2 = (1 : Int32) then
    (hp_fR h 1 v0 0).bind fun x3 =>
    (hp_fR h 0 v1 9).bind fun x4 =>
    (hp_fI h 3 v2 0).bind fun x5 =>
    (f_X5_hasRow n x3 (0 : Int32) x4 x5 h).bind fun x6 =>
    if x6 = 0 then
      some (-9 : Int32)
    else
      some (0 : Int32)
  else
    some (-8 : Int32)
set_option maxHeartbeats 1000000 in
set_option maxRecDepth 4000 in
theorem q_X1_verdict_0 (G : hp_G) (n : Nat) (v0 : Nat) (v1 : Nat) (v2 : Nat) (h : hp_H) (sz sl : Nat) (res : Int32) (hm : f_X1_verdict_0 n v0 v1 v2 h = some res) : hp_V G m_X1_verdict 0 [(0, .ref v0), (1, .ref v1), (2, .ref v2)] [] h sz sl (some (.int res), h, sz, sl) := by
  have ho : sz ≤ sz ∧ sl ≤ sl := ⟨Nat.le_refl _, Nat.le_refl _⟩
  unfold f_X1_verdict_0 at hm
  refine hv_aload_n 0 dX1_verdict_0 rfl rfl ?_
  obtain ⟨x1, hx1, hm⟩ := hp_bd hm
  refine hv_get lk_f_X1_14 dX1_verdict_1 (hp_fR_spec hx1) ?_
  obtain ⟨x2, hx2, hm⟩ := hp_bd hm
  refine hv_get lk_f_X1_81 dX1_verdict_4 (hp_fI_spec hx2) ?_
  refine hv_iconst (1 : Int32) dX1_verdict_7 (by decide) ?_
  refine hv_icmp_eq (tgt := 14) dX1_verdict_8 (by decide) (fun c8 => ?_) (fun c8 => ?_)
  · rw [if_pos c8] at hm
    refine hv_aload_n 0 dX1_verdict_14 rfl rfl ?_
    obtain ⟨x3, hx3, hm⟩ := hp_bd hm
    refine hv_get lk_f_X1_14 dX1_verdict_15 (hp_fR_spec hx3) ?_
    refine hv_iconst (0 : Int32) dX1_verdict_18 (by decide) ?_
    refine hv_aload_n 1 dX1_verdict_19 rfl rfl ?_
    obtain ⟨x4, hx4, hm⟩ := hp_bd hm
    refine hv_get lk_f_X1_91 dX1_verdict_20 (hp_fR_spec hx4) ?_
    refine hv_aload_n 2 dX1_verdict_23 rfl rfl ?_
    obtain ⟨x5, hx5, hm⟩ := hp_bd hm
    refine hv_get lk_f_X1_41 dX1_verdict_24 (hp_fI_spec hx5) ?_
    obtain ⟨x6, hx6, hm⟩ := hp_bd hm
    obtain ⟨Vx6, hVx6⟩ := k_X5_hasRow hx6
    refine hv_callV (As := [.int (0 : Int32), .ref x4, .int x5]) (rest := []) Z_X5_hasRow I_X5_hasRow lk_m_X1_94 rfl hVx6 (c_X5_hasRow G n x3 (0 : Int32) x4 x5 h sz sl _ hx6) rfl (Nat.le_of_ble_eq_true rfl) ⟨Nat.le_of_ble_eq_true rfl, Nat.le_of_ble_eq_true rfl⟩ ho.1 ho.2 rfl dX1_verdict_27 ?_
    refine hv_as [.int x6] h rfl rfl ?_
    refine hv_if_eq (tgt := 37) dX1_verdict_30 (by decide) (fun c7 => ?_) (fun c7 => ?_)
    · rw [if_pos c7] at hm
      refine hv_bipush (-9 : Int32) dX1_verdict_37 (by decide) ?_
      obtain rfl := Option.some.inj hm
      exact hv_iret rfl dX1_verdict_39
    · rw [if_neg c7] at hm
      refine hv_iconst (0 : Int32) dX1_verdict_33 (by decide) ?_
      refine hv_goto (tgt := 39) dX1_verdict_34 (by decide) ?_
      obtain rfl := Option.some.inj hm
      exact hv_iret rfl dX1_verdict_39
  · rw [if_neg c8] at hm
    refine hv_bipush (-8 : Int32) dX1_verdict_11 (by decide) ?_
    obtain rfl := Option.some.inj hm
    exact hv_iret rfl dX1_verdict_13
def f_X1_verdict (n : Nat) (v0 : Nat) (v1 : Nat) (v2 : Nat) (h : hp_H) : Option (Int32) := (hp_ck h 1 v0).bind fun _ => f_X1_verdict_0 n v0 v1 v2 h
theorem c_X1_verdict (G : hp_G) (n : Nat) (v0 : Nat) (v1 : Nat) (v2 : Nat) (h : hp_H) (sz sl : Nat) (res : Int32) (hm : f_X1_verdict n v0 v1 v2 h = some res) : hp_C G m_X1_verdict yX1_verdict [.ref v0, .ref v1, .ref v2] h sz sl (some (.int res), h, sz, sl) := by
  unfold f_X1_verdict at hm
  obtain ⟨_, _, hm⟩ := hp_bd hm
  exact hp_C_of (by decide) rfl rfl (Nat.le_of_ble_eq_true rfl) (Nat.le_refl _) (Nat.le_refl _) (hv_sub [0, 1, 2] rfl (q_X1_verdict_0 G n v0 v1 v2 h sz sl res hm))
theorem k_X1_verdict {n : Nat} {v0 : Nat} {v1 : Nat} {v2 : Nat} {h : hp_H} {res : Int32} (hm : f_X1_verdict n v0 v1 v2 h = some res) : ∃ V, h v0 = some (.inr (.inr (1, V))) := by
  unfold f_X1_verdict at hm
  obtain ⟨_, hu, _⟩ := hp_bd hm
  exact hp_ck_spec hu
