abbrev m_X7_init : hp_M := (RX7, cX7_init, 1, none, 1, 30, "<init>")
theorem Z_X7_init : hp_Y yX7_init m_X7_init 0 := Y_X7_init
def f_X7_init_80 (n : Nat)  (s0 : Nat) (s1 : Nat) (h : hp_H) (sz sl : Nat) : Option (hp_H × Nat × Nat) :=
  (hp_pF h 7 s1 11 (.ref s0)).bind fun h1 =>
  some (h1, sz, sl)
set_option maxHeartbeats 1000000 in
set_option maxRecDepth 4000 in
theorem mo_X7_init_80 {n : Nat}  {s0 : Nat} {s1 : Nat} {h : hp_H} {sz sl : Nat} {res : hp_H × Nat × Nat} (hm : f_X7_init_80 n s0 s1 h sz sl = some res) : sz ≤ res.2.1 ∧ sl ≤ res.2.2 := by
  unfold f_X7_init_80 at hm
  obtain ⟨h1, hh1, hm⟩ := hp_bd hm
  obtain rfl := Option.some.inj hm
  exact ⟨Nat.le_refl _, Nat.le_refl _⟩
set_option maxHeartbeats 1000000 in
set_option maxRecDepth 4000 in
theorem q_X7_init_80 (G : hp_G) (n : Nat)  (s0 : Nat) (s1 : Nat) (h : hp_H) (sz sl : Nat) (res : hp_H × Nat × Nat) (hm : f_X7_init_80 n s0 s1 h sz sl = some res) : hp_V G m_X7_init 80 [] [.ref s0, .ref s1] h sz sl (none, res.1, res.2.1, res.2.2) := by
  have ho := mo_X7_init_80 hm
  unfold f_X7_init_80 at hm
  obtain ⟨h1, hh1, hm⟩ := hp_bd hm
  refine hv_putF lk_f_X7_37 (by intro C T N e; cases e; rfl) rfl dX7_init_80 rfl rfl hh1 ?_
  obtain rfl := Option.some.inj hm
  exact hv_vret rfl dX7_init_83
def f_X7_init_71 (n : Nat) (v0 : Nat) (s0 : Nat) (s1 : Nat) (h : hp_H) (sz sl : Nat) : Option (hp_H × Nat × Nat) :=
  (hp_pF h 7 s1 10 (.ref s0)).bind fun h1 =>
  f_X7_init_80 n sz v0 (hp_na h1 sz 0 200) (sz + 1) (sl + 200)
set_option maxHeartbeats 1000000 in
set_option maxRecDepth 4000 in
theorem mo_X7_init_71 {n : Nat} {v0 : Nat} {s0 : Nat} {s1 : Nat} {h : hp_H} {sz sl : Nat} {res : hp_H × Nat × Nat} (hm : f_X7_init_71 n v0 s0 s1 h sz sl = some res) : sz ≤ res.2.1 ∧ sl ≤ res.2.2 := by
  unfold f_X7_init_71 at hm
  obtain ⟨h1, hh1, hm⟩ := hp_bd hm
  exact hp_tr ⟨Nat.le_add_right _ _, Nat.le_add_right _ _⟩ (mo_X7_init_80 hm)
set_option maxHeartbeats 1000000 in
set_option maxRecDepth 4000 in
theorem q_X7_init_71 (G : hp_G) (n : Nat) (v0 : Nat) (s0 : Nat) (s1 : Nat) (h : hp_H) (sz sl : Nat) (res : hp_H × Nat × Nat) (hm : f_X7_init_71 n v0 s0 s1 h sz sl = some res) : hp_V G m_X7_init 71 [(0, .ref v0)] [.ref s0, .ref s1] h sz sl (none, res.1, res.2.1, res.2.2) := by
  have ho := mo_X7_init_71 hm
  unfold f_X7_init_71 at hm
  obtain ⟨h1, hh1, hm⟩ := hp_bd hm
  refine hv_putF lk_f_X7_34 (by intro C T N e; cases e; rfl) rfl dX7_init_71 rfl rfl hh1 ?_
  refine hv_aload_n 0 dX7_init_74 rfl rfl ?_
  refine hv_sipush (200 : Int32) dX7_init_75 (by decide) ?_
  have hq := mo_X7_init_80 hm
  refine hv_newI (N := 200) ac_int (by decide) (by decide) dX7_init_78 hq.1 hq.2 ?_
  exact hv_sub [] rfl (q_X7_init_80 G n sz v0 (hp_na h1 sz 0 200) (sz + 1) (sl + 200) _ hm)
def f_X7_init_62 (n : Nat) (v0 : Nat) (s0 : Nat) (s1 : Nat) (h : hp_H) (sz sl : Nat) : Option (hp_H × Nat × Nat) :=
  (hp_pF h 7 s1 8 (.ref s0)).bind fun h1 =>
  f_X7_init_71 n v0 sz v0 (hp_na h1 sz 0 200) (sz + 1) (sl + 200)
set_option maxHeartbeats 1000000 in
set_option maxRecDepth 4000 in
theorem mo_X7_init_62 {n : Nat} {v0 : Nat} {s0 : Nat} {s1 : Nat} {h : hp_H} {sz sl : Nat} {res : hp_H × Nat × Nat} (hm : f_X7_init_62 n v0 s0 s1 h sz sl = some res) : sz ≤ res.2.1 ∧ sl ≤ res.2.2 := by
  unfold f_X7_init_62 at hm
  obtain ⟨h1, hh1, hm⟩ := hp_bd hm
  exact hp_tr ⟨Nat.le_add_right _ _, Nat.le_add_right _ _⟩ (mo_X7_init_71 hm)
set_option maxHeartbeats 1000000 in
set_option maxRecDepth 4000 in
theorem q_X7_init_62 (G : hp_G) (n : Nat) (v0 : Nat) (s0 : Nat) (s1 : Nat) (h : hp_H) (sz sl : Nat) (res : hp_H × Nat × Nat) (hm : f_X7_init_62 n v0 s0 s1 h sz sl = some res) : hp_V G m_X7_init 62 [(0, .ref v0)] [.ref s0, .ref s1] h sz sl (none, res.1, res.2.1, res.2.2) := by
  have ho := mo_X7_init_62 hm
  unfold f_X7_init_62 at hm
  obtain ⟨h1, hh1, hm⟩ := hp_bd hm
  refine hv_putF lk_f_X7_31 (by intro C T N e; cases e; rfl) rfl dX7_init_62 rfl rfl hh1 ?_
  refine hv_aload_n 0 dX7_init_65 rfl rfl ?_
  refine hv_sipush (200 : Int32) dX7_init_66 (by decide) ?_
  have hq := mo_X7_init_71 hm
  refine hv_newI (N := 200) ac_int (by decide) (by decide) dX7_init_69 hq.1 hq.2 ?_
  exact hv_sub [0] rfl (q_X7_init_71 G n v0 sz v0 (hp_na h1 sz 0 200) (sz + 1) (sl + 200) _ hm)
def f_X7_init_53 (n : Nat) (v0 : Nat) (s0 : Nat) (s1 : Nat) (h : hp_H) (sz sl : Nat) : Option (hp_H × Nat × Nat) :=
  (hp_pF h 7 s1 7 (.ref s0)).bind fun h1 =>
  f_X7_init_62 n v0 sz v0 (hp_na h1 sz 0 200) (sz + 1) (sl + 200)
set_option maxHeartbeats 1000000 in
set_option maxRecDepth 4000 in
theorem mo_X7_init_53 {n : Nat} {v0 : Nat} {s0 : Nat} {s1 : Nat} {h : hp_H} {sz sl : Nat} {res : hp_H × Nat × Nat} (hm : f_X7_init_53 n v0 s0 s1 h sz sl = some res) : sz ≤ res.2.1 ∧ sl ≤ res.2.2 := by
  unfold f_X7_init_53 at hm
  obtain ⟨h1, hh1, hm⟩ := hp_bd hm
  exact hp_tr ⟨Nat.le_add_right _ _, Nat.le_add_right _ _⟩ (mo_X7_init_62 hm)
set_option maxHeartbeats 1000000 in
set_option maxRecDepth 4000 in
theorem q_X7_init_53 (G : hp_G) (n : Nat) (v0 : Nat) (s0 : Nat) (s1 : Nat) (h : hp_H) (sz sl : Nat) (res : hp_H × Nat × Nat) (hm : f_X7_init_53 n v0 s0 s1 h sz sl = some res) : hp_V G m_X7_init 53 [(0, .ref v0)] [.ref s0, .ref s1] h sz sl (none, res.1, res.2.1, res.2.2) := by
  have ho := mo_X7_init_53 hm
  unfold f_X7_init_53 at hm
  obtain ⟨h1, hh1, hm⟩ := hp_bd hm
  refine hv_putF lk_f_X7_28 (by intro C T N e; cases e; rfl) rfl dX7_init_53 rfl rfl hh1 ?_
  refine hv_aload_n 0 dX7_init_56 rfl rfl ?_
  refine hv_sipush (200 : Int32) dX7_init_57 (by decide) ?_
  have hq := mo_X7_init_62 hm
  refine hv_newI (N := 200) ac_int (by decide) (by decide) dX7_init_60 hq.1 hq.2 ?_
  exact hv_sub [0] rfl (q_X7_init_62 G n v0 sz v0 (hp_na h1 sz 0 200) (sz + 1) (sl + 200) _ hm)
def f_X7_init_44 (n : Nat) (v0 : Nat) (s0 : Nat) (s1 : Nat) (h : hp_H) (sz sl : Nat) : Option (hp_H × Nat × Nat) :=
  (hp_pF h 7 s1 6 (.ref s0)).bind fun h1 =>
  f_X7_init_53 n v0 sz v0 (hp_na h1 sz 0 300) (sz + 1) (sl + 300)
set_option maxHeartbeats 1000000 in
set_option maxRecDepth 4000 in
theorem mo_X7_init_44 {n : Nat} {v0 : Nat} {s0 : Nat} {s1 : Nat} {h : hp_H} {sz sl : Nat} {res : hp_H × Nat × Nat} (hm : f_X7_init_44 n v0 s0 s1 h sz sl = some res) : sz ≤ res.2.1 ∧ sl ≤ res.2.2 := by
  unfold f_X7_init_44 at hm
  obtain ⟨h1, hh1, hm⟩ := hp_bd hm
  exact hp_tr ⟨Nat.le_add_right _ _, Nat.le_add_right _ _⟩ (mo_X7_init_53 hm)
set_option maxHeartbeats 1000000 in
set_option maxRecDepth 4000 in
theorem q_X7_init_44 (G : hp_G) (n : Nat) (v0 : Nat) (s0 : Nat) (s1 : Nat) (h : hp_H) (sz sl : Nat) (res : hp_H × Nat × Nat) (hm : f_X7_init_44 n v0 s0 s1 h sz sl = some res) : hp_V G m_X7_init 44 [(0, .ref v0)] [.ref s0, .ref s1] h sz sl (none, res.1, res.2.1, res.2.2) := by
  have ho := mo_X7_init_44 hm
  unfold f_X7_init_44 at hm
  obtain ⟨h1, hh1, hm⟩ := hp_bd hm
  refine hv_putF lk_f_X7_25 (by intro C T N e; cases e; rfl) rfl dX7_init_44 rfl rfl hh1 ?_
  refine hv_aload_n 0 dX7_init_47 rfl rfl ?_
  refine hv_sipush (300 : Int32) dX7_init_48 (by decide) ?_
  have hq := mo_X7_init_53 hm
  refine hv_newI (N := 300) ac_int (by decide) (by decide) dX7_init_51 hq.1 hq.2 ?_
  exact hv_sub [0] rfl (q_X7_init_53 G n v0 sz v0 (hp_na h1 sz 0 300) (sz + 1) (sl + 300) _ hm)
def f_X7_init_35 (n : Nat) (v0 : Nat) (s0 : Nat) (s1 : Nat) (h : hp_H) (sz sl : Nat) : Option (hp_H × Nat × Nat) :=
  (hp_pF h 7 s1 5 (.ref s0)).bind fun h1 =>
  f_X7_init_44 n v0 sz v0 (hp_na h1 sz 1 300) (sz + 1) (sl + 300)
set_option maxHeartbeats 1000000 in
set_option maxRecDepth 4000 in
theorem mo_X7_init_35 {n : Nat} {v0 : Nat} {s0 : Nat} {s1 : Nat} {h : hp_H} {sz sl : Nat} {res : hp_H × Nat × Nat} (hm : f_X7_init_35 n v0 s0 s1 h sz sl = some res) : sz ≤ res.2.1 ∧ sl ≤ res.2.2 := by
  unfold f_X7_init_35 at hm
  obtain ⟨h1, hh1, hm⟩ := hp_bd hm
  exact hp_tr ⟨Nat.le_add_right _ _, Nat.le_add_right _ _⟩ (mo_X7_init_44 hm)
set_option maxHeartbeats 1000000 in
set_option maxRecDepth 4000 in
theorem q_X7_init_35 (G : hp_G) (n : Nat) (v0 : Nat) (s0 : Nat) (s1 : Nat) (h : hp_H) (sz sl : Nat) (res : hp_H × Nat × Nat) (hm : f_X7_init_35 n v0 s0 s1 h sz sl = some res) : hp_V G m_X7_init 35 [(0, .ref v0)] [.ref s0, .ref s1] h sz sl (none, res.1, res.2.1, res.2.2) := by
  have ho := mo_X7_init_35 hm
  unfold f_X7_init_35 at hm
  obtain ⟨h1, hh1, hm⟩ := hp_bd hm
  refine hv_putF lk_f_X7_21 (by intro C T N e; cases e; rfl) rfl dX7_init_35 rfl rfl hh1 ?_
  refine hv_aload_n 0 dX7_init_38 rfl rfl ?_
  refine hv_sipush (300 : Int32) dX7_init_39 (by decide) ?_
  have hq := mo_X7_init_44 hm
  refine hv_newB (N := 300) ac_byte (by decide) (by decide) dX7_init_42 hq.1 hq.2 ?_
  exact hv_sub [0] rfl (q_X7_init_44 G n v0 sz v0 (hp_na h1 sz 1 300) (sz + 1) (sl + 300) _ hm)
def f_X7_init_26 (n : Nat) (v0 : Nat) (s0 : Nat) (s1 : Nat) (h : hp_H) (sz sl : Nat) : Option (hp_H × Nat × Nat) :=
  (hp_pF h 7 s1 3 (.ref s0)).bind fun h1 =>
  f_X7_init_35 n v0 sz v0 (hp_na h1 sz 1 300) (sz + 1) (sl + 300)
set_option maxHeartbeats 1000000 in
set_option maxRecDepth 4000 in
theorem mo_X7_init_26 {n : Nat} {v0 : Nat} {s0 : Nat} {s1 : Nat} {h : hp_H} {sz sl : Nat} {res : hp_H × Nat × Nat} (hm : f_X7_init_26 n v0 s0 s1 h sz sl = some res) : sz ≤ res.2.1 ∧ sl ≤ res.2.2 := by
  unfold f_X7_init_26 at hm
  obtain ⟨h1, hh1, hm⟩ := hp_bd hm
  exact hp_tr ⟨Nat.le_add_right _ _, Nat.le_add_right _ _⟩ (mo_X7_init_35 hm)
set_option maxHeartbeats 1000000 in
set_option maxRecDepth 4000 in
theorem q_X7_init_26 (G : hp_G) (n : Nat) (v0 : Nat) (s0 : Nat) (s1 : Nat) (h : hp_H) (sz sl : Nat) (res : hp_H × Nat × Nat) (hm : f_X7_init_26 n v0 s0 s1 h sz sl = some res) : hp_V G m_X7_init 26 [(0, .ref v0)] [.ref s0, .ref s1] h sz sl (none, res.1, res.2.1, res.2.2) := by
  have ho := mo_X7_init_26 hm
  unfold f_X7_init_26 at hm
  obtain ⟨h1, hh1, hm⟩ := hp_bd hm
  refine hv_putF lk_f_X7_18 (by intro C T N e; cases e; rfl) rfl dX7_init_26 rfl rfl hh1 ?_
  refine hv_aload_n 0 dX7_init_29 rfl rfl ?_
  refine hv_sipush (300 : Int32) dX7_init_30 (by decide) ?_
  have hq := mo_X7_init_35 hm
  refine hv_newB (N := 300) ac_byte (by decide) (by decide) dX7_init_33 hq.1 hq.2 ?_
  exact hv_sub [0] rfl (q_X7_init_35 G n v0 sz v0 (hp_na h1 sz 1 300) (sz + 1) (sl + 300) _ hm)
def f_X7_init_17 (n : Nat) (v0 : Nat) (s0 : Nat) (s1 : Nat) (h : hp_H) (sz sl : Nat) : Option (hp_H × Nat × Nat) :=
  (hp_pF h 7 s1 2 (.ref s0)).bind fun h1 =>
  f_X7_init_26 n v0 sz v0 (hp_na h1 sz 0 300) (sz + 1) (sl + 300)
set_option maxHeartbeats 1000000 in
set_option maxRecDepth 4000 in
theorem mo_X7_init_17 {n : Nat} {v0 : Nat} {s0 : Nat} {s1 : Nat} {h : hp_H} {sz sl : Nat} {res : hp_H × Nat × Nat} (hm : f_X7_init_17 n v0 s0 s1 h sz sl = some res) : sz ≤ res.2.1 ∧ sl ≤ res.2.2 := by
  unfold f_X7_init_17 at hm
  obtain ⟨h1, hh1, hm⟩ := hp_bd hm
  exact hp_tr ⟨Nat.le_add_right _ _, Nat.le_add_right _ _⟩ (mo_X7_init_26 hm)
set_option maxHeartbeats 1000000 in
set_option maxRecDepth 4000 in
theorem q_X7_init_17 (G : hp_G) (n : Nat) (v0 : Nat) (s0 : Nat) (s1 : Nat) (h : hp_H) (sz sl : Nat) (res : hp_H × Nat × Nat) (hm : f_X7_init_17 n v0 s0 s1 h sz sl = some res) : hp_V G m_X7_init 17 [(0, .ref v0)] [.ref s0, .ref s1] h sz sl (none, res.1, res.2.1, res.2.2) := by
  have ho := mo_X7_init_17 hm
  unfold f_X7_init_17 at hm
  obtain ⟨h1, hh1, hm⟩ := hp_bd hm
  refine hv_putF lk_f_X7_15 (by intro C T N e; cases e; rfl) rfl dX7_init_17 rfl rfl hh1 ?_
  refine hv_aload_n 0 dX7_init_20 rfl rfl ?_
  refine hv_sipush (300 : Int32) dX7_init_21 (by decide) ?_
  have hq := mo_X7_init_26 hm
  refine hv_newI (N := 300) ac_int (by decide) (by decide) dX7_init_24 hq.1 hq.2 ?_
  exact hv_sub [0] rfl (q_X7_init_26 G n v0 sz v0 (hp_na h1 sz 0 300) (sz + 1) (sl + 300) _ hm)
def f_X7_init_9 (n : Nat) (v0 : Nat) (s0 : Nat) (s1 : Nat) (h : hp_H) (sz sl : Nat) : Option (hp_H × Nat × Nat) :=
  (hp_pF h 7 s1 1 (.ref s0)).bind fun h1 =>
  f_X7_init_17 n v0 sz v0 (hp_na h1 sz 0 16) (sz + 1) (sl + 16)
set_option maxHeartbeats 1000000 in
set_option maxRecDepth 4000 in
theorem mo_X7_init_9 {n : Nat} {v0 : Nat} {s0 : Nat} {s1 : Nat} {h : hp_H} {sz sl : Nat} {res : hp_H × Nat × Nat} (hm : f_X7_init_9 n v0 s0 s1 h sz sl = some res) : sz ≤ res.2.1 ∧ sl ≤ res.2.2 := by
  unfold f_X7_init_9 at hm
  obtain ⟨h1, hh1, hm⟩ := hp_bd hm
  exact hp_tr ⟨Nat.le_add_right _ _, Nat.le_add_right _ _⟩ (mo_X7_init_17 hm)
set_option maxHeartbeats 1000000 in
set_option maxRecDepth 4000 in
theorem q_X7_init_9 (G : hp_G) (n : Nat) (v0 : Nat) (s0 : Nat) (s1 : Nat) (h : hp_H) (sz sl : Nat) (res : hp_H × Nat × Nat) (hm : f_X7_init_9 n v0 s0 s1 h sz sl = some res) : hp_V G m_X7_init 9 [(0, .ref v0)] [.ref s0, .ref s1] h sz sl (none, res.1, res.2.1, res.2.2) := by
  have ho := mo_X7_init_9 hm
  unfold f_X7_init_9 at hm
  obtain ⟨h1, hh1, hm⟩ := hp_bd hm
  refine hv_putF lk_f_X7_9 (by intro C T N e; cases e; rfl) rfl dX7_init_9 rfl rfl hh1 ?_
  refine hv_aload_n 0 dX7_init_12 rfl rfl ?_
  refine hv_bipush (16 : Int32) dX7_init_13 (by decide) ?_
  have hq := mo_X7_init_17 hm
  refine hv_newI (N := 16) ac_int (by decide) (by decide) dX7_init_15 hq.1 hq.2 ?_
  exact hv_sub [0] rfl (q_X7_init_17 G n v0 sz v0 (hp_na h1 sz 0 16) (sz + 1) (sl + 16) _ hm)
def f_X7_init_0 (n : Nat) (v0 : Nat) (h : hp_H) (sz sl : Nat) : Option (hp_H × Nat × Nat) :=
  f_X7_init_9 n v0 sz v0 (hp_na h sz 0 16) (sz + 1) (sl + 16)
set_option maxHeartbeats 1000000 in
set_option maxRecDepth 4000 in
theorem mo_X7_init_0 {n : Nat} {v0 : Nat} {h : hp_H} {sz sl : Nat} {res : hp_H × Nat × Nat} (hm : f_X7_init_0 n v0 h sz sl = some res) : sz ≤ res.2.1 ∧ sl ≤ res.2.2 := by
  unfold f_X7_init_0 at hm
  exact hp_tr ⟨Nat.le_add_right _ _, Nat.le_add_right _ _⟩ (mo_X7_init_9 hm)
set_option maxHeartbeats 1000000 in
set_option maxRecDepth 4000 in
theorem q_X7_init_0 (G : hp_G) (n : Nat) (v0 : Nat) (h : hp_H) (sz sl : Nat) (res : hp_H × Nat × Nat) (hm : f_X7_init_0 n v0 h sz sl = some res) : hp_V G m_X7_init 0 [(0, .ref v0)] [] h sz sl (none, res.1, res.2.1, res.2.2) := by
  have ho := mo_X7_init_0 hm
  unfold f_X7_init_0 at hm
  refine hv_aload_n 0 dX7_init_0 rfl rfl ?_
  refine hv_objInit lk_o_X7_3 ⟨Nat.le_of_ble_eq_true rfl, Nat.le_of_ble_eq_true rfl⟩ dX7_init_1 ?_
  refine hv_aload_n 0 dX7_init_4 rfl rfl ?_
  refine hv_bipush (16 : Int32) dX7_init_5 (by decide) ?_
  have hq := mo_X7_init_9 hm
  refine hv_newI (N := 16) ac_int (by decide) (by decide) dX7_init_7 hq.1 hq.2 ?_
  exact hv_sub [0] rfl (q_X7_init_9 G n v0 sz v0 (hp_na h sz 0 16) (sz + 1) (sl + 16) _ hm)
def f_X7_init (n : Nat) (v0 : Nat) (h : hp_H) (sz sl : Nat) : Option (hp_H × Nat × Nat) := (hp_ck h 7 v0).bind fun _ => f_X7_init_0 n v0 h sz sl
theorem c_X7_init (G : hp_G) (n : Nat) (v0 : Nat) (h : hp_H) (sz sl : Nat) (res : hp_H × Nat × Nat) (hm : f_X7_init n v0 h sz sl = some res) : hp_C G m_X7_init yX7_init [.ref v0] h sz sl (none, res.1, res.2.1, res.2.2) := by
  unfold f_X7_init at hm
  obtain ⟨_, _, hm⟩ := hp_bd hm
  exact hp_C_of (by decide) rfl rfl (Nat.le_of_ble_eq_true rfl) (mo_X7_init_0 hm).1 (mo_X7_init_0 hm).2 (hv_sub [0] rfl (q_X7_init_0 G n v0 h sz sl res hm))
theorem k_X7_init {n : Nat} {v0 : Nat} {h : hp_H} {sz sl : Nat} {res : hp_H × Nat × Nat} (hm : f_X7_init n v0 h sz sl = some res) : ∃ V, h v0 = some (.inr (.inr (7, V))) := by
  unfold f_X7_init at hm
  obtain ⟨_, hu, _⟩ := hp_bd hm
  exact hp_ck_spec hu
theorem mx_X7_init {n : Nat} {v0 : Nat} {h : hp_H} {sz sl : Nat} {res : hp_H × Nat × Nat} (hm : f_X7_init n v0 h sz sl = some res) : sz ≤ res.2.1 ∧ sl ≤ res.2.2 := by
  unfold f_X7_init at hm
  obtain ⟨_, _, hm⟩ := hp_bd hm
  exact mo_X7_init_0 hm
abbrev m_X7_clear : hp_M := (RX7, cX7_clear, 1, none, 1, 23, "clear")
theorem Z_X7_clear : hp_Y yX7_clear m_X7_clear 0 := Y_X7_clear
def f_X7_clear_0 (n : Nat) (v0 : Nat) (h : hp_H) : Option (hp_H) :=
  (hp_pF h 7 v0 0 (.int (0 : Int32))).bind fun h1 =>
  (hp_pF h1 7 v0 4 (.int (0 : Int32))).bind fun h2 =>
  (hp_pF h2 7 v0 9 (.int (0 : Int32))).bind fun h3 =>
  (hp_pF h3 7 v0 12 (.int (0 : Int32))).bind fun h4 =>
  (hp_fR h4 7 v0 5).bind fun x5 =>
  (f_J7_fill_031fb n x5 (0 : Int32) h4).bind fun x6 =>
  (hp_fR x6 7 v0 6).bind fun x7 =>
  (f_J7_fill_031fb n x7 (0 : Int32) x6).bind fun x8 =>
  (hp_fR x8 7 v0 7).bind fun x9 =>
  (f_J7_fill_53178 n x9 (0 : Int32) x8).bind fun x10 =>
  some x10
set_option maxHeartbeats 1000000 in
set_option maxRecDepth 4000 in
theorem q_X7_clear_0 (G : hp_G) (n : Nat) (v0 : Nat) (h : hp_H) (sz sl : Nat) (res : hp_H) (hm : f_X7_clear_0 n v0 h = some res) : hp_V G m_X7_clear 0 [(0, .ref v0)] [] h sz sl (none, res, sz, sl) := by
  have ho : sz ≤ sz ∧ sl ≤ sl := ⟨Nat.le_refl _, Nat.le_refl _⟩
  unfold f_X7_clear_0 at hm
  refine hv_aload_n 0 dX7_clear_0 rfl rfl ?_
  refine hv_iconst (0 : Int32) dX7_clear_1 (by decide) ?_
  obtain ⟨h1, hh1, hm⟩ := hp_bd hm
  refine hv_put lk_f_X7_40 dX7_clear_2 rfl rfl hh1 ?_
  refine hv_aload_n 0 dX7_clear_5 rfl rfl ?_
  refine hv_iconst (0 : Int32) dX7_clear_6 (by decide) ?_
  obtain ⟨h2, hh2, hm⟩ := hp_bd hm
  refine hv_put lk_f_X7_44 dX7_clear_7 rfl rfl hh2 ?_
  refine hv_aload_n 0 dX7_clear_10 rfl rfl ?_
  refine hv_iconst (0 : Int32) dX7_clear_11 (by decide) ?_
  obtain ⟨h3, hh3, hm⟩ := hp_bd hm
  refine hv_put lk_f_X7_47 dX7_clear_12 rfl rfl hh3 ?_
  refine hv_aload_n 0 dX7_clear_15 rfl rfl ?_
  refine hv_iconst (0 : Int32) dX7_clear_16 (by decide) ?_
  obtain ⟨h4, hh4, hm⟩ := hp_bd hm
  refine hv_put lk_f_X7_50 dX7_clear_17 rfl rfl hh4 ?_
  refine hv_aload_n 0 dX7_clear_20 rfl rfl ?_
  obtain ⟨x5, hx5, hm⟩ := hp_bd hm
  refine hv_get lk_f_X7_21 dX7_clear_21 (hp_fR_spec hx5) ?_
  refine hv_iconst (0 : Int32) dX7_clear_24 (by decide) ?_
  obtain ⟨x6, hx6, hm⟩ := hp_bd hm
  refine hv_callS (As := [.ref x5, .int (0 : Int32)]) (rest := []) Z_J7_fill_031fb I_J7_fill_031fb lk_m_X7_53 (c_J7_fill_031fb G n x5 (0 : Int32) h4 sz sl _ hx6) rfl (Nat.le_of_ble_eq_true rfl) ⟨Nat.le_of_ble_eq_true rfl, Nat.le_of_ble_eq_true rfl⟩ ho.1 ho.2 rfl dX7_clear_25 ?_
  refine hv_as [] x6 rfl rfl ?_
  refine hv_aload_n 0 dX7_clear_28 rfl rfl ?_
  obtain ⟨x7, hx7, hm⟩ := hp_bd hm
  refine hv_get lk_f_X7_25 dX7_clear_29 (hp_fR_spec hx7) ?_
  refine hv_iconst (0 : Int32) dX7_clear_32 (by decide) ?_
  obtain ⟨x8, hx8, hm⟩ := hp_bd hm
  refine hv_callS (As := [.ref x7, .int (0 : Int32)]) (rest := []) Z_J7_fill_031fb I_J7_fill_031fb lk_m_X7_53 (c_J7_fill_031fb G n x7 (0 : Int32) x6 sz sl _ hx8) rfl (Nat.le_of_ble_eq_true rfl) ⟨Nat.le_of_ble_eq_true rfl, Nat.le_of_ble_eq_true rfl⟩ ho.1 ho.2 rfl dX7_clear_33 ?_
  refine hv_as [] x8 rfl rfl ?_
  refine hv_aload_n 0 dX7_clear_36 rfl rfl ?_
  obtain ⟨x9, hx9, hm⟩ := hp_bd hm
  refine hv_get lk_f_X7_28 dX7_clear_37 (hp_fR_spec hx9) ?_
  refine hv_iconst (0 : Int32) dX7_clear_40 (by decide) ?_
  obtain ⟨x10, hx10, hm⟩ := hp_bd hm
  refine hv_callS (As := [.ref x9, .int (0 : Int32)]) (rest := []) Z_J7_fill_53178 I_J7_fill_53178 lk_m_X7_59 (c_J7_fill_53178 G n x9 (0 : Int32) x8 sz sl _ hx10) rfl (Nat.le_of_ble_eq_true rfl) ⟨Nat.le_of_ble_eq_true rfl, Nat.le_of_ble_eq_true rfl⟩ ho.1 ho.2 rfl dX7_clear_41 ?_
  refine hv_as [] x10 rfl rfl ?_
  obtain rfl := Option.some.inj hm
  exact hv_vret rfl dX7_clear_44
def f_X7_clear (n : Nat) (v0 : Nat) (h : hp_H) : Option (hp_H) := (hp_ck h 7 v0).bind fun _ => f_X7_clear_0 n v0 h
theorem c_X7_clear (G : hp_G) (n : Nat) (v0 : Nat) (h : hp_H) (sz sl : Nat) (res : hp_H) (hm : f_X7_clear n v0 h = some res) : hp_C G m_X7_clear yX7_clear [.ref v0] h sz sl (none, res, sz, sl) := by
  unfold f_X7_clear at hm
  obtain ⟨_, _, hm⟩ := hp_bd hm
  exact hp_C_of (by decide) rfl rfl (Nat.le_of_ble_eq_true rfl) (Nat.le_refl _) (Nat.le_refl _) (hv_sub [0] rfl (q_X7_clear_0 G n v0 h sz sl res hm))
theorem k_X7_clear {n : Nat} {v0 : Nat} {h : hp_H} {res : hp_H} (hm : f_X7_clear n v0 h = some res) : ∃ V, h v0 = some (.inr (.inr (7, V))) := by
  unfold f_X7_clear at hm
  obtain ⟨_, hu, _⟩ := hp_bd hm
  exact hp_ck_spec hu
abbrev m_X7_openBlock : hp_M := (RX7, cX7_openBlock, 1, some .boolean, 0, 0, "openBlock")
theorem Z_X7_openBlock : hp_Y yX7_openBlock m_X7_openBlock 0 := Y_X7_openBlock
def f_X7_openBlock_0 (n : Nat) (v0 : Nat) (h : hp_H) : Option (Int32 × hp_H) :=
  (hp_fI h 7 v0 0).bind fun x1 =>
  if x1 = (16 : Int32) then
    some ((0 : Int32), h)
  else
    (hp_fR h 7 v0 1).bind fun x2 =>
    (hp_fI h 7 v0 0).bind fun x3 =>
    (hp_fI h 7 v0 4).bind fun x4 =>
    (hp_sI h 0 x2 x3 x4).bind fun h5 =>
    (hp_fR h5 7 v0 2).bind fun x6 =>
    (hp_fI h5 7 v0 0).bind fun x7 =>
    (hp_fI h5 7 v0 9).bind fun x8 =>
    (hp_sI h5 0 x6 x7 x8).bind fun h9 =>
    (hp_fI h9 7 v0 0).bind fun x10 =>
    (hp_pF h9 7 v0 0 (.int (x10 + (1 : Int32)))).bind fun h11 =>
    some ((1 : Int32), h11)
set_option maxHeartbeats 1000000 in
set_option maxRecDepth 4000 in
theorem q_X7_openBlock_0 (G : hp_G) (n : Nat) (v0 : Nat) (h : hp_H) (sz sl : Nat) (res : Int32 × hp_H) (hm : f_X7_openBlock_0 n v0 h = some res) : hp_V G m_X7_openBlock 0 [(0, .ref v0)] [] h sz sl (some (.int res.1), res.2, sz, sl) := by
  have ho : sz ≤ sz ∧ sl ≤ sl := ⟨Nat.le_refl _, Nat.le_refl _⟩
  unfold f_X7_openBlock_0 at hm
  refine hv_aload_n 0 dX7_openBlock_0 rfl rfl ?_
  obtain ⟨x1, hx1, hm⟩ := hp_bd hm
  refine hv_get lk_f_X7_40 dX7_openBlock_1 (hp_fI_spec hx1) ?_
  refine hv_bipush (16 : Int32) dX7_openBlock_4 (by decide) ?_
  refine hv_icmp_ne (tgt := 11) dX7_openBlock_6 (by decide) (fun c12 => ?_) (fun c12 => ?_)
  · rw [if_neg c12] at hm
    refine hv_aload_n 0 dX7_openBlock_11 rfl rfl ?_
    obtain ⟨x2, hx2, hm⟩ := hp_bd hm
    refine hv_get lk_f_X7_9 dX7_openBlock_12 (hp_fR_spec hx2) ?_
    refine hv_aload_n 0 dX7_openBlock_15 rfl rfl ?_
    obtain ⟨x3, hx3, hm⟩ := hp_bd hm
    refine hv_get lk_f_X7_40 dX7_openBlock_16 (hp_fI_spec hx3) ?_
    refine hv_aload_n 0 dX7_openBlock_19 rfl rfl ?_
    obtain ⟨x4, hx4, hm⟩ := hp_bd hm
    refine hv_get lk_f_X7_44 dX7_openBlock_20 (hp_fI_spec hx4) ?_
    obtain ⟨h5, hh5, hm⟩ := hp_bd hm
    refine hv_iast dX7_openBlock_23 hh5 ?_
    refine hv_aload_n 0 dX7_openBlock_24 rfl rfl ?_
    obtain ⟨x6, hx6, hm⟩ := hp_bd hm
    refine hv_get lk_f_X7_15 dX7_openBlock_25 (hp_fR_spec hx6) ?_
    refine hv_aload_n 0 dX7_openBlock_28 rfl rfl ?_
    obtain ⟨x7, hx7, hm⟩ := hp_bd hm
    refine hv_get lk_f_X7_40 dX7_openBlock_29 (hp_fI_spec hx7) ?_
    refine hv_aload_n 0 dX7_openBlock_32 rfl rfl ?_
    obtain ⟨x8, hx8, hm⟩ := hp_bd hm
    refine hv_get lk_f_X7_47 dX7_openBlock_33 (hp_fI_spec hx8) ?_
    obtain ⟨h9, hh9, hm⟩ := hp_bd hm
    refine hv_iast dX7_openBlock_36 hh9 ?_
    refine hv_aload_n 0 dX7_openBlock_37 rfl rfl ?_
    refine hv_dup dX7_openBlock_38 rfl ?_
    obtain ⟨x10, hx10, hm⟩ := hp_bd hm
    refine hv_get lk_f_X7_40 dX7_openBlock_39 (hp_fI_spec hx10) ?_
    refine hv_iconst (1 : Int32) dX7_openBlock_42 (by decide) ?_
    refine hv_iadd dX7_openBlock_43 ?_
    obtain ⟨h11, hh11, hm⟩ := hp_bd hm
    refine hv_put lk_f_X7_40 dX7_openBlock_44 rfl rfl hh11 ?_
    refine hv_iconst (1 : Int32) dX7_openBlock_47 (by decide) ?_
    obtain rfl := Option.some.inj hm
    exact hv_zret rfl (by decide) dX7_openBlock_48
  · rw [if_pos c12] at hm
    refine hv_iconst (0 : Int32) dX7_openBlock_9 (by decide) ?_
    obtain rfl := Option.some.inj hm
    exact hv_zret rfl (by decide) dX7_openBlock_10
def f_X7_openBlock (n : Nat) (v0 : Nat) (h : hp_H) : Option (Int32 × hp_H) := (hp_ck h 7 v0).bind fun _ => f_X7_openBlock_0 n v0 h
theorem c_X7_openBlock (G : hp_G) (n : Nat) (v0 : Nat) (h : hp_H) (sz sl : Nat) (res : Int32 × hp_H) (hm : f_X7_openBlock n v0 h = some res) : hp_C G m_X7_openBlock yX7_openBlock [.ref v0] h sz sl (some (.int res.1), res.2, sz, sl) := by
  unfold f_X7_openBlock at hm
  obtain ⟨_, _, hm⟩ := hp_bd hm
  exact hp_C_of (by decide) rfl rfl (Nat.le_of_ble_eq_true rfl) (Nat.le_refl _) (Nat.le_refl _) (hv_sub [0] rfl (q_X7_openBlock_0 G n v0 h sz sl res hm))
theorem k_X7_openBlock {n : Nat} {v0 : Nat} {h : hp_H} {res : Int32 × hp_H} (hm : f_X7_openBlock n v0 h = some res) : ∃ V, h v0 = some (.inr (.inr (7, V))) := by
  unfold f_X7_openBlock at hm
  obtain ⟨_, hu, _⟩ := hp_bd hm
  exact hp_ck_spec hu
abbrev m_X7_dropPairs : hp_M := (RX7, cX7_dropPairs, 3, none, 0, 0, "dropPairs")
theorem Z_X7_dropPairs : hp_Y yX7_dropPairs m_X7_dropPairs 0 := Y_X7_dropPairs
def f_X7_dropPairs_52 (n : Nat) (v0 : Nat) (v1 : Int32) (v2 : Int32) (h : hp_H) : Option ((Int32 × Int32 × hp_H) ⊕ (Int32 × hp_H)) :=
  some (.inl (v1, (v2 + (1 : Int32)), h))
set_option maxHeartbeats 1000000 in
set_option maxRecDepth 4000 in
theorem q_X7_dropPairs_52 (G : hp_G) (n : Nat) (v0 : Nat) (v1 : Int32) (v2 : Int32) (h : hp_H) (sz sl : Nat) (o : hp_O) (ho : sz ≤ o.2.2.1 ∧ sl ≤ o.2.2.2) (res : (Int32 × Int32 × hp_H) ⊕ (Int32 × hp_H)) (hm : f_X7_dropPairs_52 n v0 v1 v2 h = some res) (kI : ∀ y : Int32 × Int32 × hp_H, res = .inl y → hp_V G m_X7_dropPairs 4 [(0, .ref v0), (1, .int y.1), (2, .int y.2.1)] [] y.2.2 sz sl o) (kX0 : ∀ y : Int32 × hp_H, res = .inr y → hp_V G m_X7_dropPairs 58 [(0, .ref v0), (1, .int y.1)] [] y.2 sz sl o) : hp_V G m_X7_dropPairs 52 [(0, .ref v0), (1, .int v1), (2, .int v2)] [] h sz sl o := by
  unfold f_X7_dropPairs_52 at hm
  refine hv_iinc (v2 + (1 : Int32)) 2 [(2, .int (v2 + (1 : Int32))), (0, .ref v0), (1, .int v1)] dX7_dropPairs_52 rfl rfl (by decide) rfl ?_
  refine hv_goto (tgt := 4) dX7_dropPairs_55 (by decide) ?_
  exact hv_sub [1, 2, 0] rfl (kI (v1, (v2 + (1 : Int32)), h) (Option.some.inj hm).symm)
def f_X7_dropPairs_4 (n : Nat) (v0 : Nat) (v1 : Int32) (v2 : Int32) (h : hp_H) : Option ((Int32 × Int32 × hp_H) ⊕ (Int32 × hp_H)) :=
  (hp_fI h 7 v0 12).bind fun x1 =>
  if x1 ≤ v2 then
    some (.inr (v1, h))
  else
    (hp_fR h 7 v0 11).bind fun x2 =>
    (hp_aI h 0 x2 v2).bind fun x3 =>
    (hp_fI h 7 v0 0).bind fun x4 =>
    if x4 ≤ x3 then
      f_X7_dropPairs_52 n v0 v1 v2 h
    else
      (hp_fR h 7 v0 10).bind fun x5 =>
      (hp_fR h 7 v0 10).bind fun x6 =>
      (hp_aI h 0 x6 v2).bind fun x7 =>
      (hp_sI h 0 x5 v1 x7).bind fun h8 =>
      (hp_fR h8 7 v0 11).bind fun x9 =>
      (hp_fR h8 7 v0 11).bind fun x10 =>
      (hp_aI h8 0 x10 v2).bind fun x11 =>
      (hp_sI h8 0 x9 v1 x11).bind fun h12 =>
      f_X7_dropPairs_52 n v0 (v1 + (1 : Int32)) v2 h12
set_option maxHeartbeats 1000000 in
set_option maxRecDepth 4000 in
theorem q_X7_dropPairs_4 (G : hp_G) (n : Nat) (v0 : Nat) (v1 : Int32) (v2 : Int32) (h : hp_H) (sz sl : Nat) (o : hp_O) (ho : sz ≤ o.2.2.1 ∧ sl ≤ o.2.2.2) (res : (Int32 × Int32 × hp_H) ⊕ (Int32 × hp_H)) (hm : f_X7_dropPairs_4 n v0 v1 v2 h = some res) (kI : ∀ y : Int32 × Int32 × hp_H, res = .inl y → hp_V G m_X7_dropPairs 4 [(0, .ref v0), (1, .int y.1), (2, .int y.2.1)] [] y.2.2 sz sl o) (kX0 : ∀ y : Int32 × hp_H, res = .inr y → hp_V G m_X7_dropPairs 58 [(0, .ref v0), (1, .int y.1)] [] y.2 sz sl o) : hp_V G m_X7_dropPairs 4 [(0, .ref v0), (1, .int v1), (2, .int v2)] [] h sz sl o := by
  unfold f_X7_dropPairs_4 at hm
  refine hv_iload_n 2 dX7_dropPairs_4 rfl rfl ?_
  refine hv_aload_n 0 dX7_dropPairs_5 rfl rfl ?_
  obtain ⟨x1, hx1, hm⟩ := hp_bd hm
  refine hv_get lk_f_X7_50 dX7_dropPairs_6 (hp_fI_spec hx1) ?_
  refine hv_icmp_ge (tgt := 58) dX7_dropPairs_9 (by decide) (fun c14 => ?_) (fun c14 => ?_)
  · rw [if_pos c14] at hm
    exact hv_sub [0, 1] rfl (kX0 (v1, h) (Option.some.inj hm).symm)
  · rw [if_neg c14] at hm
    refine hv_aload_n 0 dX7_dropPairs_12 rfl rfl ?_
    obtain ⟨x2, hx2, hm⟩ := hp_bd hm
    refine hv_get lk_f_X7_37 dX7_dropPairs_13 (hp_fR_spec hx2) ?_
    refine hv_iload_n 2 dX7_dropPairs_16 rfl rfl ?_
    obtain ⟨x3, hx3, hm⟩ := hp_bd hm
    refine hv_iald dX7_dropPairs_17 hx3 ?_
    refine hv_aload_n 0 dX7_dropPairs_18 rfl rfl ?_
    obtain ⟨x4, hx4, hm⟩ := hp_bd hm
    refine hv_get lk_f_X7_40 dX7_dropPairs_19 (hp_fI_spec hx4) ?_
    refine hv_icmp_ge (tgt := 52) dX7_dropPairs_22 (by decide) (fun c13 => ?_) (fun c13 => ?_)
    · rw [if_pos c13] at hm
      exact hv_sub [0, 1, 2] rfl (q_X7_dropPairs_52 G n v0 v1 v2 h sz sl o ho _ hm kI kX0)
    · rw [if_neg c13] at hm
      refine hv_aload_n 0 dX7_dropPairs_25 rfl rfl ?_
      obtain ⟨x5, hx5, hm⟩ := hp_bd hm
      refine hv_get lk_f_X7_34 dX7_dropPairs_26 (hp_fR_spec hx5) ?_
      refine hv_iload_n 1 dX7_dropPairs_29 rfl rfl ?_
      refine hv_aload_n 0 dX7_dropPairs_30 rfl rfl ?_
      obtain ⟨x6, hx6, hm⟩ := hp_bd hm
      refine hv_get lk_f_X7_34 dX7_dropPairs_31 (hp_fR_spec hx6) ?_
      refine hv_iload_n 2 dX7_dropPairs_34 rfl rfl ?_
      obtain ⟨x7, hx7, hm⟩ := hp_bd hm
      refine hv_iald dX7_dropPairs_35 hx7 ?_
      obtain ⟨h8, hh8, hm⟩ := hp_bd hm
      refine hv_iast dX7_dropPairs_36 hh8 ?_
      refine hv_aload_n 0 dX7_dropPairs_37 rfl rfl ?_
      obtain ⟨x9, hx9, hm⟩ := hp_bd hm
      refine hv_get lk_f_X7_37 dX7_dropPairs_38 (hp_fR_spec hx9) ?_
      refine hv_iload_n 1 dX7_dropPairs_41 rfl rfl ?_
      refine hv_aload_n 0 dX7_dropPairs_42 rfl rfl ?_
      obtain ⟨x10, hx10, hm⟩ := hp_bd hm
      refine hv_get lk_f_X7_37 dX7_dropPairs_43 (hp_fR_spec hx10) ?_
      refine hv_iload_n 2 dX7_dropPairs_46 rfl rfl ?_
      obtain ⟨x11, hx11, hm⟩ := hp_bd hm
      refine hv_iald dX7_dropPairs_47 hx11 ?_
      obtain ⟨h12, hh12, hm⟩ := hp_bd hm
      refine hv_iast dX7_dropPairs_48 hh12 ?_
      refine hv_iinc (v1 + (1 : Int32)) 1 [(1, .int (v1 + (1 : Int32))), (0, .ref v0), (2, .int v2)] dX7_dropPairs_49 rfl rfl (by decide) rfl ?_
      exact hv_sub [1, 0, 2] rfl (q_X7_dropPairs_52 G n v0 (v1 + (1 : Int32)) v2 h12 sz sl o ho _ hm kI kX0)
def fL_X7_dropPairs_4 (n : Nat) (v0 : Nat) (s : Int32 × Int32 × hp_H) : Option ((Int32 × Int32 × hp_H) ⊕ (Int32 × hp_H)) := f_X7_dropPairs_4 n v0 s.1 s.2.1 s.2.2
theorem l_X7_dropPairs_4 (G : hp_G) (n : Nat) (v0 : Nat) (sz sl : Nat) (o : hp_O) (ho : sz ≤ o.2.2.1 ∧ sl ≤ o.2.2.2) : ∀ (k : Nat) (s : Int32 × Int32 × hp_H) (x : Int32 × hp_H), hp_lp (fL_X7_dropPairs_4 n v0) k s = some x → (∀ y : Int32 × hp_H, x = y → hp_V G m_X7_dropPairs 58 [(0, .ref v0), (1, .int y.1)] [] y.2 sz sl o) → hp_V G m_X7_dropPairs 4 [(0, .ref v0), (1, .int s.1), (2, .int s.2.1)] [] s.2.2 sz sl o := by
  intro k
  induction k with
  | zero => intro s x hx; exact (hp_lp_0 hx).elim
  | succ k ih =>
    intro s x hx k0
    obtain ⟨r, hr, hc⟩ := hp_lp_1 hx
    refine q_X7_dropPairs_4 G n v0 s.1 s.2.1 s.2.2 sz sl o ho r hr (fun s2 e => ?_) (fun y e => ?_)
    · rcases hc with ⟨s3, e3, hx3⟩ | e3
      · have e4 := Sum.inl.inj (e.symm.trans e3)
        subst e4
        exact ih _ _ hx3 k0
      · cases (e.symm.trans e3)
    · rcases hc with ⟨s3, e3, hx3⟩ | e3
      · cases (e.symm.trans e3)
      · exact k0 y (Sum.inr.inj (e3.symm.trans e))
def f_X7_dropPairs_0 (n : Nat) (v0 : Nat) (h : hp_H) : Option (hp_H) :=
  (hp_lp (fL_X7_dropPairs_4 n v0) n ((0 : Int32), (0 : Int32), h)).bind fun x1 =>
  (hp_pF x1.2 7 v0 12 (.int x1.1)).bind fun h3 =>
  some h3
set_option maxHeartbeats 1000000 in
set_option maxRecDepth 4000 in
theorem q_X7_dropPairs_0 (G : hp_G) (n : Nat) (v0 : Nat) (h : hp_H) (sz sl : Nat) (res : hp_H) (hm : f_X7_dropPairs_0 n v0 h = some res) : hp_V G m_X7_dropPairs 0 [(0, .ref v0)] [] h sz sl (none, res, sz, sl) := by
  have ho : sz ≤ sz ∧ sl ≤ sl := ⟨Nat.le_refl _, Nat.le_refl _⟩
  unfold f_X7_dropPairs_0 at hm
  refine hv_iconst (0 : Int32) dX7_dropPairs_0 (by decide) ?_
  refine hv_istore_n [(1, .int (0 : Int32)), (0, .ref v0)] dX7_dropPairs_1 rfl (by decide) rfl ?_
  refine hv_iconst (0 : Int32) dX7_dropPairs_2 (by decide) ?_
  refine hv_istore_n [(2, .int (0 : Int32)), (1, .int (0 : Int32)), (0, .ref v0)] dX7_dropPairs_3 rfl (by decide) rfl ?_
  obtain ⟨x1, hx1, hm⟩ := hp_bd hm
  refine hv_sub [2, 1, 0] rfl (l_X7_dropPairs_4 G n v0 sz sl _ ho n _ _ hx1 (fun y2 ey2 => ?_))
  · skip
    subst ey2
    refine hv_aload_n 0 dX7_dropPairs_58 rfl rfl ?_
    refine hv_iload_n 1 dX7_dropPairs_59 rfl rfl ?_
    obtain ⟨h3, hh3, hm⟩ := hp_bd hm
    refine hv_put lk_f_X7_50 dX7_dropPairs_60 rfl rfl hh3 ?_
    obtain rfl := Option.some.inj hm
    exact hv_vret rfl dX7_dropPairs_63
def f_X7_dropPairs (n : Nat) (v0 : Nat) (h : hp_H) : Option (hp_H) := (hp_ck h 7 v0).bind fun _ => f_X7_dropPairs_0 n v0 h
theorem c_X7_dropPairs (G : hp_G) (n : Nat) (v0 : Nat) (h : hp_H) (sz sl : Nat) (res : hp_H) (hm : f_X7_dropPairs n v0 h = some res) : hp_C G m_X7_dropPairs yX7_dropPairs [.ref v0] h sz sl (none, res, sz, sl) := by
  unfold f_X7_dropPairs at hm
  obtain ⟨_, _, hm⟩ := hp_bd hm
  exact hp_C_of (by decide) rfl rfl (Nat.le_of_ble_eq_true rfl) (Nat.le_refl _) (Nat.le_refl _) (hv_sub [0] rfl (q_X7_dropPairs_0 G n v0 h sz sl res hm))
theorem k_X7_dropPairs {n : Nat} {v0 : Nat} {h : hp_H} {res : hp_H} (hm : f_X7_dropPairs n v0 h = some res) : ∃ V, h v0 = some (.inr (.inr (7, V))) := by
  unfold f_X7_dropPairs at hm
  obtain ⟨_, hu, _⟩ := hp_bd hm
  exact hp_ck_spec hu
abbrev m_X7_addNeeds : hp_M := (RX7, cX7_addNeeds, 6, none, 1, 22, "addNeeds")
theorem Z_X7_addNeeds : hp_Y yX7_addNeeds m_X7_addNeeds 3 := Y_X7_addNeeds
def f_X7_addNeeds_13 (n : Nat) (v0 : Nat) (v1 : Nat) (v2 : Int32) (v3 : Int32) (v4 : Int32) (v5 : Int32) (h : hp_H) : Option ((Int32 × hp_H) ⊕ (hp_H)) :=
  if v4 ≤ v5 then
    some (.inr h)
  else
    (hp_fR h 7 v0 7).bind fun x1 =>
    (hp_fR h 0 v1 9).bind fun x2 =>
    (f_X5_get n x2 v2 v5 h).bind fun x3 =>
    (hp_aI h 0 x1 x3).bind fun x4 =>
    (hp_sI h 0 x1 x3 (x4 + v3)).bind fun h5 =>
    some (.inl ((v5 + (1 : Int32)), h5))
set_option maxHeartbeats 1000000 in
set_option maxRecDepth 4000 in
theorem q_X7_addNeeds_13 (G : hp_G) (n : Nat) (v0 : Nat) (v1 : Nat) (v2 : Int32) (v3 : Int32) (v4 : Int32) (v5 : Int32) (h : hp_H) (sz sl : Nat) (o : hp_O) (ho : sz ≤ o.2.2.1 ∧ sl ≤ o.2.2.2) (res : (Int32 × hp_H) ⊕ (hp_H)) (hm : f_X7_addNeeds_13 n v0 v1 v2 v3 v4 v5 h = some res) (kI : ∀ y : Int32 × hp_H, res = .inl y → hp_V G m_X7_addNeeds 13 [(0, .ref v0), (1, .ref v1), (2, .int v2), (3, .int v3), (4, .int v4), (5, .int y.1)] [] y.2 sz sl o) (kR : ∀ y : hp_H, res = .inr y → o = (none, y, sz, sl)) : hp_V G m_X7_addNeeds 13 [(0, .ref v0), (1, .ref v1), (2, .int v2), (3, .int v3), (4, .int v4), (5, .int v5)] [] h sz sl o := by
  unfold f_X7_addNeeds_13 at hm
  refine hv_iload 5 dX7_addNeeds_13 rfl ?_
  refine hv_iload 4 dX7_addNeeds_15 rfl ?_
  refine hv_icmp_ge (tgt := 45) dX7_addNeeds_17 (by decide) (fun c6 => ?_) (fun c6 => ?_)
  · rw [if_pos c6] at hm
    obtain rfl := kR _ (Option.some.inj hm).symm
    exact hv_vret rfl dX7_addNeeds_45
  · rw [if_neg c6] at hm
    refine hv_aload_n 0 dX7_addNeeds_20 rfl rfl ?_
    obtain ⟨x1, hx1, hm⟩ := hp_bd hm
    refine hv_get lk_f_X7_28 dX7_addNeeds_21 (hp_fR_spec hx1) ?_
    refine hv_aload_n 1 dX7_addNeeds_24 rfl rfl ?_
    obtain ⟨x2, hx2, hm⟩ := hp_bd hm
    refine hv_get lk_f_X7_80 dX7_addNeeds_25 (hp_fR_spec hx2) ?_
    refine hv_iload_n 2 dX7_addNeeds_28 rfl rfl ?_
    refine hv_iload 5 dX7_addNeeds_29 rfl ?_
    obtain ⟨x3, hx3, hm⟩ := hp_bd hm
    obtain ⟨Vx3, hVx3⟩ := k_X5_get hx3
    refine hv_callV (As := [.int v2, .int v5]) (rest := [.ref x1]) Z_X5_get I_X5_get lk_m_X7_84 rfl hVx3 (c_X5_get G n x2 v2 v5 h sz sl _ hx3) rfl (Nat.le_of_ble_eq_true rfl) ⟨Nat.le_of_ble_eq_true rfl, Nat.le_of_ble_eq_true rfl⟩ ho.1 ho.2 rfl dX7_addNeeds_31 ?_
    refine hv_as [.int x3, .ref x1] h rfl rfl ?_
    refine hv_dup2_11 dX7_addNeeds_34 rfl rfl ?_
    obtain ⟨x4, hx4, hm⟩ := hp_bd hm
    refine hv_iald dX7_addNeeds_35 hx4 ?_
    refine hv_iload_n 3 dX7_addNeeds_36 rfl rfl ?_
    refine hv_iadd dX7_addNeeds_37 ?_
    obtain ⟨h5, hh5, hm⟩ := hp_bd hm
    refine hv_iast dX7_addNeeds_38 hh5 ?_
    refine hv_iinc (v5 + (1 : Int32)) 5 [(5, .int (v5 + (1 : Int32))), (0, .ref v0), (1, .ref v1), (2, .int v2), (3, .int v3), (4, .int v4)] dX7_addNeeds_39 rfl rfl (by decide) rfl ?_
    refine hv_goto (tgt := 13) dX7_addNeeds_42 (by decide) ?_
    exact hv_sub [1, 2, 3, 4, 5, 0] rfl (kI ((v5 + (1 : Int32)), h5) (Option.some.inj hm).symm)
def fL_X7_addNeeds_13 (n : Nat) (v0 : Nat) (v1 : Nat) (v2 : Int32) (v3 : Int32) (v4 : Int32) (s : Int32 × hp_H) : Option ((Int32 × hp_H) ⊕ (hp_H)) := f_X7_addNeeds_13 n v0 v1 v2 v3 v4 s.1 s.2
theorem l_X7_addNeeds_13 (G : hp_G) (n : Nat) (v0 : Nat) (v1 : Nat) (v2 : Int32) (v3 : Int32) (v4 : Int32) (sz sl : Nat) (o : hp_O) (ho : sz ≤ o.2.2.1 ∧ sl ≤ o.2.2.2) : ∀ (k : Nat) (s : Int32 × hp_H) (x : hp_H), hp_lp (fL_X7_addNeeds_13 n v0 v1 v2 v3 v4) k s = some x → (∀ y : hp_H, x = y → o = (none, y, sz, sl)) → hp_V G m_X7_addNeeds 13 [(0, .ref v0), (1, .ref v1), (2, .int v2), (3, .int v3), (4, .int v4), (5, .int s.1)] [] s.2 sz sl o := by
  intro k
  induction k with
  | zero => intro s x hx; exact (hp_lp_0 hx).elim
  | succ k ih =>
    intro s x hx k0
    obtain ⟨r, hr, hc⟩ := hp_lp_1 hx
    refine q_X7_addNeeds_13 G n v0 v1 v2 v3 v4 s.1 s.2 sz sl o ho r hr (fun s2 e => ?_) (fun y e => ?_)
    · rcases hc with ⟨s3, e3, hx3⟩ | e3
      · have e4 := Sum.inl.inj (e.symm.trans e3)
        subst e4
        exact ih _ _ hx3 k0
      · cases (e.symm.trans e3)
    · rcases hc with ⟨s3, e3, hx3⟩ | e3
      · cases (e.symm.trans e3)
      · exact k0 y (Sum.inr.inj (e3.symm.trans e))
def f_X7_addNeeds_0 (n : Nat) (v0 : Nat) (v1 : Nat) (v2 : Int32) (v3 : Int32) (h : hp_H) : Option (hp_H) :=
  (hp_fR h 0 v1 9).bind fun x1 =>
  (f_X5_size n x1 v2 h).bind fun x2 =>
  (hp_lp (fL_X7_addNeeds_13 n v0 v1 v2 v3 x2) n ((0 : Int32), h)).bind fun x3 =>
  some x3
set_option maxHeartbeats 1000000 in
set_option maxRecDepth 4000 in
theorem q_X7_addNeeds_0 (G : hp_G) (n : Nat) (v0 : Nat) (v1 : Nat) (v2 : Int32) (v3 : Int32) (h : hp_H) (sz sl : Nat) (res : hp_H) (hm : f_X7_addNeeds_0 n v0 v1 v2 v3 h = some res) : hp_V G m_X7_addNeeds 0 [(0, .ref v0), (1, .ref v1), (2, .int v2), (3, .int v3)] [] h sz sl (none, res, sz, sl) := by
  have ho : sz ≤ sz ∧ sl ≤ sl := ⟨Nat.le_refl _, Nat.le_refl _⟩
  unfold f_X7_addNeeds_0 at hm
  refine hv_aload_n 1 dX7_addNeeds_0 rfl rfl ?_
  obtain ⟨x1, hx1, hm⟩ := hp_bd hm
  refine hv_get lk_f_X7_80 dX7_addNeeds_1 (hp_fR_spec hx1) ?_
  refine hv_iload_n 2 dX7_addNeeds_4 rfl rfl ?_
  obtain ⟨x2, hx2, hm⟩ := hp_bd hm
  obtain ⟨Vx2, hVx2⟩ := k_X5_size hx2
  refine hv_callV (As := [.int v2]) (rest := []) Z_X5_size I_X5_size lk_m_X7_94 rfl hVx2 (c_X5_size G n x1 v2 h sz sl _ hx2) rfl (Nat.le_of_ble_eq_true rfl) ⟨Nat.le_of_ble_eq_true rfl, Nat.le_of_ble_eq_true rfl⟩ ho.1 ho.2 rfl dX7_addNeeds_5 ?_
  refine hv_as [.int x2] h rfl rfl ?_
  refine hv_istore [(4, .int x2), (0, .ref v0), (1, .ref v1), (2, .int v2), (3, .int v3)] dX7_addNeeds_8 (by decide) rfl ?_
  refine hv_iconst (0 : Int32) dX7_addNeeds_10 (by decide) ?_
  refine hv_istore [(5, .int (0 : Int32)), (4, .int x2), (0, .ref v0), (1, .ref v1), (2, .int v2), (3, .int v3)] dX7_addNeeds_11 (by decide) rfl ?_
  obtain ⟨x3, hx3, hm⟩ := hp_bd hm
  refine hv_sub [2, 3, 4, 5, 1, 0] rfl (l_X7_addNeeds_13 G n v0 v1 v2 v3 x2 sz sl _ ho n _ _ hx3 (fun y4 ey4 => ?_))
  · skip
    subst ey4
    obtain rfl := Option.some.inj hm
    rfl
def f_X7_addNeeds (n : Nat) (v0 : Nat) (v1 : Nat) (v2 : Int32) (v3 : Int32) (h : hp_H) : Option (hp_H) := (hp_ck h 7 v0).bind fun _ => f_X7_addNeeds_0 n v0 v1 v2 v3 h
theorem c_X7_addNeeds (G : hp_G) (n : Nat) (v0 : Nat) (v1 : Nat) (v2 : Int32) (v3 : Int32) (h : hp_H) (sz sl : Nat) (res : hp_H) (hm : f_X7_addNeeds n v0 v1 v2 v3 h = some res) : hp_C G m_X7_addNeeds yX7_addNeeds [.ref v0, .ref v1, .int v2, .int v3] h sz sl (none, res, sz, sl) := by
  unfold f_X7_addNeeds at hm
  obtain ⟨_, _, hm⟩ := hp_bd hm
  exact hp_C_of (by decide) rfl rfl (Nat.le_of_ble_eq_true rfl) (Nat.le_refl _) (Nat.le_refl _) (hv_sub [0, 1, 2, 3] rfl (q_X7_addNeeds_0 G n v0 v1 v2 v3 h sz sl res hm))
theorem k_X7_addNeeds {n : Nat} {v0 : Nat} {v1 : Nat} {v2 : Int32} {v3 : Int32} {h : hp_H} {res : hp_H} (hm : f_X7_addNeeds n v0 v1 v2 v3 h = some res) : ∃ V, h v0 = some (.inr (.inr (7, V))) := by
  unfold f_X7_addNeeds at hm
  obtain ⟨_, hu, _⟩ := hp_bd hm
  exact hp_ck_spec hu
abbrev m_X7_dropHypothesis : hp_M := (RX7, cX7_dropHypothesis, 3, none, 2, 47, "dropHypothesis")
theorem Z_X7_dropHypothesis : hp_Y yX7_dropHypothesis m_X7_dropHypothesis 2 := Y_X7_dropHypothesis
def f_X7_dropHypothesis_0 (n : Nat) (v0 : Nat) (v1 : Nat) (v2 : Int32) (h : hp_H) : Option (hp_H) :=
  (hp_fR h 0 v1 8).bind fun x1 =>
  (hp_fI h 0 v1 5).bind fun x2 =>
  (hp_sI h 0 x1 v2 x2).bind fun h3 =>
  (hp_fR h3 0 v1 6).bind fun x4 =>
  (hp_aI h3 0 x4 v2).bind fun x5 =>
  if x5 = 0 then
    (hp_fR h3 7 v0 6).bind fun x7 =>
    (hp_fR h3 0 v1 9).bind fun x8 =>
    (f_X5_get n x8 v2 (1 : Int32) h3).bind fun x9 =>
    (hp_sI h3 1 x7 x9 (0 : Int32)).bind fun h10 =>
    some h10
  else
    (f_X7_addNeeds n v0 v1 v2 (-1 : Int32) h3).bind fun x6 =>
    some x6
set_option maxHeartbeats 1000000 in
set_option maxRecDepth 4000 in
theorem q_X7_dropHypothesis_0 (G : hp_G) (n : Nat) (v0 : Nat) (v1 : Nat) (v2 : Int32) (h : hp_H) (sz sl : Nat) (res : hp_H) (hm : f_X7_dropHypothesis_0 n v0 v1 v2 h = some res) : hp_V G m_X7_dropHypothesis 0 [(0, .ref v0), (1, .ref v1), (2, .int v2)] [] h sz sl (none, res, sz, sl) := by
  have ho : sz ≤ sz ∧ sl ≤ sl := ⟨Nat.le_refl _, Nat.le_refl _⟩
  unfold f_X7_dropHypothesis_0 at hm
  refine hv_aload_n 1 dX7_dropHypothesis_0 rfl rfl ?_
  obtain ⟨x1, hx1, hm⟩ := hp_bd hm
  refine hv_get lk_f_X7_69 dX7_dropHypothesis_1 (hp_fR_spec hx1) ?_
  refine hv_iload_n 2 dX7_dropHypothesis_4 rfl rfl ?_
  refine hv_aload_n 1 dX7_dropHypothesis_5 rfl rfl ?_
  obtain ⟨x2, hx2, hm⟩ := hp_bd hm
  refine hv_get lk_f_X7_74 dX7_dropHypothesis_6 (hp_fI_spec hx2) ?_
  obtain ⟨h3, hh3, hm⟩ := hp_bd hm
  refine hv_iast dX7_dropHypothesis_9 hh3 ?_
  refine hv_aload_n 1 dX7_dropHypothesis_10 rfl rfl ?_
  obtain ⟨x4, hx4, hm⟩ := hp_bd hm
  refine hv_get lk_f_X7_77 dX7_dropHypothesis_11 (hp_fR_spec hx4) ?_
  refine hv_iload_n 2 dX7_dropHypothesis_14 rfl rfl ?_
  obtain ⟨x5, hx5, hm⟩ := hp_bd hm
  refine hv_iald dX7_dropHypothesis_15 hx5 ?_
  refine hv_if_ne (tgt := 37) dX7_dropHypothesis_16 (by decide) (fun c11 => ?_) (fun c11 => ?_)
  · rw [if_neg c11] at hm
    refine hv_aload_n 0 dX7_dropHypothesis_37 rfl rfl ?_
    refine hv_aload_n 1 dX7_dropHypothesis_38 rfl rfl ?_
    refine hv_iload_n 2 dX7_dropHypothesis_39 rfl rfl ?_
    refine hv_iconst (-1 : Int32) dX7_dropHypothesis_40 (by decide) ?_
    obtain ⟨x6, hx6, hm⟩ := hp_bd hm
    obtain ⟨Vx6, hVx6⟩ := k_X7_addNeeds hx6
    refine hv_callV (As := [.ref v1, .int v2, .int (-1 : Int32)]) (rest := []) Z_X7_addNeeds I_X7_addNeeds lk_m_X7_90 rfl hVx6 (c_X7_addNeeds G n v0 v1 v2 (-1 : Int32) h3 sz sl _ hx6) rfl (Nat.le_of_ble_eq_true rfl) ⟨Nat.le_of_ble_eq_true rfl, Nat.le_of_ble_eq_true rfl⟩ ho.1 ho.2 rfl dX7_dropHypothesis_41 ?_
    refine hv_as [] x6 rfl rfl ?_
    obtain rfl := Option.some.inj hm
    exact hv_vret rfl dX7_dropHypothesis_44
  · rw [if_pos c11] at hm
    refine hv_aload_n 0 dX7_dropHypothesis_19 rfl rfl ?_
    obtain ⟨x7, hx7, hm⟩ := hp_bd hm
    refine hv_get lk_f_X7_25 dX7_dropHypothesis_20 (hp_fR_spec hx7) ?_
    refine hv_aload_n 1 dX7_dropHypothesis_23 rfl rfl ?_
    obtain ⟨x8, hx8, hm⟩ := hp_bd hm
    refine hv_get lk_f_X7_80 dX7_dropHypothesis_24 (hp_fR_spec hx8) ?_
    refine hv_iload_n 2 dX7_dropHypothesis_27 rfl rfl ?_
    refine hv_iconst (1 : Int32) dX7_dropHypothesis_28 (by decide) ?_
    obtain ⟨x9, hx9, hm⟩ := hp_bd hm
    obtain ⟨Vx9, hVx9⟩ := k_X5_get hx9
    refine hv_callV (As := [.int v2, .int (1 : Int32)]) (rest := [.ref x7]) Z_X5_get I_X5_get lk_m_X7_84 rfl hVx9 (c_X5_get G n x8 v2 (1 : Int32) h3 sz sl _ hx9) rfl (Nat.le_of_ble_eq_true rfl) ⟨Nat.le_of_ble_eq_true rfl, Nat.le_of_ble_eq_true rfl⟩ ho.1 ho.2 rfl dX7_dropHypothesis_29 ?_
    refine hv_as [.int x9, .ref x7] h3 rfl rfl ?_
    refine hv_iconst (0 : Int32) dX7_dropHypothesis_32 (by decide) ?_
    obtain ⟨h10, hh10, hm⟩ := hp_bd hm
    refine hv_bast dX7_dropHypothesis_33 hh10 ?_
    refine hv_goto (tgt := 44) dX7_dropHypothesis_34 (by decide) ?_
    obtain rfl := Option.some.inj hm
    exact hv_vret rfl dX7_dropHypothesis_44
def f_X7_dropHypothesis (n : Nat) (v0 : Nat) (v1 : Nat) (v2 : Int32) (h : hp_H) : Option (hp_H) := (hp_ck h 7 v0).bind fun _ => f_X7_dropHypothesis_0 n v0 v1 v2 h
theorem c_X7_dropHypothesis (G : hp_G) (n : Nat) (v0 : Nat) (v1 : Nat) (v2 : Int32) (h : hp_H) (sz sl : Nat) (res : hp_H) (hm : f_X7_dropHypothesis n v0 v1 v2 h = some res) : hp_C G m_X7_dropHypothesis yX7_dropHypothesis [.ref v0, .ref v1, .int v2] h sz sl (none, res, sz, sl) := by
  unfold f_X7_dropHypothesis at hm
  obtain ⟨_, _, hm⟩ := hp_bd hm
  exact hp_C_of (by decide) rfl rfl (Nat.le_of_ble_eq_true rfl) (Nat.le_refl _) (Nat.le_refl _) (hv_sub [0, 1, 2] rfl (q_X7_dropHypothesis_0 G n v0 v1 v2 h sz sl res hm))
theorem k_X7_dropHypothesis {n : Nat} {v0 : Nat} {v1 : Nat} {v2 : Int32} {h : hp_H} {res : hp_H} (hm : f_X7_dropHypothesis n v0 v1 v2 h = some res) : ∃ V, h v0 = some (.inr (.inr (7, V))) := by
  unfold f_X7_dropHypothesis at hm
  obtain ⟨_, hu, _⟩ := hp_bd hm
  exact hp_ck_spec hu
abbrev m_X7_closeBlock : hp_M := (RX7, cX7_closeBlock, 3, none, 3, 69, "closeBlock")
theorem Z_X7_closeBlock : hp_Y yX7_closeBlock m_X7_closeBlock 1 := Y_X7_closeBlock
def f_X7_closeBlock_24 (n : Nat) (v0 : Nat) (v1 : Nat) (v2 : Int32) (h : hp_H) : Option ((Int32 × hp_H) ⊕ (hp_H)) :=
  (hp_fI h 7 v0 9).bind fun x1 =>
  if x1 ≤ v2 then
    some (.inr h)
  else
    (hp_fR h 7 v0 8).bind fun x2 =>
    (hp_aI h 0 x2 v2).bind fun x3 =>
    (f_X7_dropHypothesis n v0 v1 x3 h).bind fun x4 =>
    some (.inl ((v2 + (1 : Int32)), x4))
set_option maxHeartbeats 1000000 in
set_option maxRecDepth 4000 in
theorem q_X7_closeBlock_24 (G : hp_G) (n : Nat) (v0 : Nat) (v1 : Nat) (v2 : Int32) (h : hp_H) (sz sl : Nat) (o : hp_O) (ho : sz ≤ o.2.2.1 ∧ sl ≤ o.2.2.2) (res : (Int32 × hp_H) ⊕ (hp_H)) (hm : f_X7_closeBlock_24 n v0 v1 v2 h = some res) (kI : ∀ y : Int32 × hp_H, res = .inl y → hp_V G m_X7_closeBlock 24 [(0, .ref v0), (1, .ref v1), (2, .int y.1)] [] y.2 sz sl o) (kX0 : ∀ y : hp_H, res = .inr y → hp_V G m_X7_closeBlock 49 [(0, .ref v0)] [] y sz sl o) : hp_V G m_X7_closeBlock 24 [(0, .ref v0), (1, .ref v1), (2, .int v2)] [] h sz sl o := by
  unfold f_X7_closeBlock_24 at hm
  refine hv_iload_n 2 dX7_closeBlock_24 rfl rfl ?_
  refine hv_aload_n 0 dX7_closeBlock_25 rfl rfl ?_
  obtain ⟨x1, hx1, hm⟩ := hp_bd hm
  refine hv_get lk_f_X7_47 dX7_closeBlock_26 (hp_fI_spec hx1) ?_
  refine hv_icmp_ge (tgt := 49) dX7_closeBlock_29 (by decide) (fun c5 => ?_) (fun c5 => ?_)
  · rw [if_pos c5] at hm
    exact hv_sub [0] rfl (kX0 h (Option.some.inj hm).symm)
  · rw [if_neg c5] at hm
    refine hv_aload_n 0 dX7_closeBlock_32 rfl rfl ?_
    refine hv_aload_n 1 dX7_closeBlock_33 rfl rfl ?_
    refine hv_aload_n 0 dX7_closeBlock_34 rfl rfl ?_
    obtain ⟨x2, hx2, hm⟩ := hp_bd hm
    refine hv_get lk_f_X7_31 dX7_closeBlock_35 (hp_fR_spec hx2) ?_
    refine hv_iload_n 2 dX7_closeBlock_38 rfl rfl ?_
    obtain ⟨x3, hx3, hm⟩ := hp_bd hm
    refine hv_iald dX7_closeBlock_39 hx3 ?_
    obtain ⟨x4, hx4, hm⟩ := hp_bd hm
    obtain ⟨Vx4, hVx4⟩ := k_X7_dropHypothesis hx4
    refine hv_callV (As := [.ref v1, .int x3]) (rest := []) Z_X7_dropHypothesis I_X7_dropHypothesis lk_m_X7_65 rfl hVx4 (c_X7_dropHypothesis G n v0 v1 x3 h sz sl _ hx4) rfl (Nat.le_of_ble_eq_true rfl) ⟨Nat.le_of_ble_eq_true rfl, Nat.le_of_ble_eq_true rfl⟩ ho.1 ho.2 rfl dX7_closeBlock_40 ?_
    refine hv_as [] x4 rfl rfl ?_
    refine hv_iinc (v2 + (1 : Int32)) 2 [(2, .int (v2 + (1 : Int32))), (0, .ref v0), (1, .ref v1)] dX7_closeBlock_43 rfl rfl (by decide) rfl ?_
    refine hv_goto (tgt := 24) dX7_closeBlock_46 (by decide) ?_
    exact hv_sub [1, 2, 0] rfl (kI ((v2 + (1 : Int32)), x4) (Option.some.inj hm).symm)
def fL_X7_closeBlock_24 (n : Nat) (v0 : Nat) (v1 : Nat) (s : Int32 × hp_H) : Option ((Int32 × hp_H) ⊕ (hp_H)) := f_X7_closeBlock_24 n v0 v1 s.1 s.2
theorem l_X7_closeBlock_24 (G : hp_G) (n : Nat) (v0 : Nat) (v1 : Nat) (sz sl : Nat) (o : hp_O) (ho : sz ≤ o.2.2.1 ∧ sl ≤ o.2.2.2) : ∀ (k : Nat) (s : Int32 × hp_H) (x : hp_H), hp_lp (fL_X7_closeBlock_24 n v0 v1) k s = some x → (∀ y : hp_H, x = y → hp_V G m_X7_closeBlock 49 [(0, .ref v0)] [] y sz sl o) → hp_V G m_X7_closeBlock 24 [(0, .ref v0), (1, .ref v1), (2, .int s.1)] [] s.2 sz sl o := by
  intro k
  induction k with
  | zero => intro s x hx; exact (hp_lp_0 hx).elim
  | succ k ih =>
    intro s x hx k0
    obtain ⟨r, hr, hc⟩ := hp_lp_1 hx
    refine q_X7_closeBlock_24 G n v0 v1 s.1 s.2 sz sl o ho r hr (fun s2 e => ?_) (fun y e => ?_)
    · rcases hc with ⟨s3, e3, hx3⟩ | e3
      · have e4 := Sum.inl.inj (e.symm.trans e3)
        subst e4
        exact ih _ _ hx3 k0
      · cases (e.symm.trans e3)
    · rcases hc with ⟨s3, e3, hx3⟩ | e3
      · cases (e.symm.trans e3)
      · exact k0 y (Sum.inr.inj (e3.symm.trans e))
def f_X7_closeBlock_72 (n : Nat) (v0 : Nat) (v2 : Int32) (h : hp_H) : Option ((Int32 × hp_H) ⊕ (hp_H)) :=
  (hp_fI h 7 v0 4).bind fun x1 =>
  if x1 ≤ v2 then
    some (.inr h)
  else
    (hp_fR h 7 v0 5).bind fun x2 =>
    (hp_fR h 7 v0 3).bind fun x3 =>
    (hp_aI h 0 x3 v2).bind fun x4 =>
    (hp_sI h 1 x2 x4 (0 : Int32)).bind fun h5 =>
    some (.inl ((v2 + (1 : Int32)), h5))
set_option maxHeartbeats 1000000 in
set_option maxRecDepth 4000 in
theorem q_X7_closeBlock_72 (G : hp_G) (n : Nat) (v0 : Nat) (v2 : Int32) (h : hp_H) (sz sl : Nat) (o : hp_O) (ho : sz ≤ o.2.2.1 ∧ sl ≤ o.2.2.2) (res : (Int32 × hp_H) ⊕ (hp_H)) (hm : f_X7_closeBlock_72 n v0 v2 h = some res) (kI : ∀ y : Int32 × hp_H, res = .inl y → hp_V G m_X7_closeBlock 72 [(0, .ref v0), (2, .int y.1)] [] y.2 sz sl o) (kX0 : ∀ y : hp_H, res = .inr y → hp_V G m_X7_closeBlock 98 [(0, .ref v0)] [] y sz sl o) : hp_V G m_X7_closeBlock 72 [(0, .ref v0), (2, .int v2)] [] h sz sl o := by
  unfold f_X7_closeBlock_72 at hm
  refine hv_iload_n 1 dX7_closeBlock_72 rfl rfl ?_
  refine hv_aload_n 0 dX7_closeBlock_73 rfl rfl ?_
  obtain ⟨x1, hx1, hm⟩ := hp_bd hm
  refine hv_get lk_f_X7_44 dX7_closeBlock_74 (hp_fI_spec hx1) ?_
  refine hv_icmp_ge (tgt := 98) dX7_closeBlock_77 (by decide) (fun c6 => ?_) (fun c6 => ?_)
  · rw [if_pos c6] at hm
    exact hv_sub [0] rfl (kX0 h (Option.some.inj hm).symm)
  · rw [if_neg c6] at hm
    refine hv_aload_n 0 dX7_closeBlock_80 rfl rfl ?_
    obtain ⟨x2, hx2, hm⟩ := hp_bd hm
    refine hv_get lk_f_X7_21 dX7_closeBlock_81 (hp_fR_spec hx2) ?_
    refine hv_aload_n 0 dX7_closeBlock_84 rfl rfl ?_
    obtain ⟨x3, hx3, hm⟩ := hp_bd hm
    refine hv_get lk_f_X7_18 dX7_closeBlock_85 (hp_fR_spec hx3) ?_
    refine hv_iload_n 1 dX7_closeBlock_88 rfl rfl ?_
    obtain ⟨x4, hx4, hm⟩ := hp_bd hm
    refine hv_iald dX7_closeBlock_89 hx4 ?_
    refine hv_iconst (0 : Int32) dX7_closeBlock_90 (by decide) ?_
    obtain ⟨h5, hh5, hm⟩ := hp_bd hm
    refine hv_bast dX7_closeBlock_91 hh5 ?_
    refine hv_iinc (v2 + (1 : Int32)) 1 [(2, .int (v2 + (1 : Int32))), (0, .ref v0)] dX7_closeBlock_92 rfl rfl (by decide) rfl ?_
    refine hv_goto (tgt := 72) dX7_closeBlock_95 (by decide) ?_
    exact hv_sub [1, 0] rfl (kI ((v2 + (1 : Int32)), h5) (Option.some.inj hm).symm)
def fL_X7_closeBlock_72 (n : Nat) (v0 : Nat) (s : Int32 × hp_H) : Option ((Int32 × hp_H) ⊕ (hp_H)) := f_X7_closeBlock_72 n v0 s.1 s.2
theorem l_X7_closeBlock_72 (G : hp_G) (n : Nat) (v0 : Nat) (sz sl : Nat) (o : hp_O) (ho : sz ≤ o.2.2.1 ∧ sl ≤ o.2.2.2) : ∀ (k : Nat) (s : Int32 × hp_H) (x : hp_H), hp_lp (fL_X7_closeBlock_72 n v0) k s = some x → (∀ y : hp_H, x = y → hp_V G m_X7_closeBlock 98 [(0, .ref v0)] [] y sz sl o) → hp_V G m_X7_closeBlock 72 [(0, .ref v0), (2, .int s.1)] [] s.2 sz sl o := by
  intro k
  induction k with
  | zero => intro s x hx; exact (hp_lp_0 hx).elim
  | succ k ih =>
    intro s x hx k0
    obtain ⟨r, hr, hc⟩ := hp_lp_1 hx
    refine q_X7_closeBlock_72 G n v0 s.1 s.2 sz sl o ho r hr (fun s2 e => ?_) (fun y e => ?_)
    · rcases hc with ⟨s3, e3, hx3⟩ | e3
      · have e4 := Sum.inl.inj (e.symm.trans e3)
        subst e4
        exact ih _ _ hx3 k0
      · cases (e.symm.trans e3)
    · rcases hc with ⟨s3, e3, hx3⟩ | e3
      · cases (e.symm.trans e3)
      · exact k0 y (Sum.inr.inj (e3.symm.trans e))
def f_X7_closeBlock_0 (n : Nat) (v0 : Nat) (v1 : Nat) (h : hp_H) : Option (hp_H) :=
  (f_X7_dropPairs n v0 h).bind fun x1 =>
  (hp_fI x1 7 v0 0).bind fun x2 =>
  (hp_pF x1 7 v0 0 (.int (x2 - (1 : Int32)))).bind fun h3 =>
  (hp_fR h3 7 v0 2).bind fun x4 =>
  (hp_fI h3 7 v0 0).bind fun x5 =>
  (hp_aI h3 0 x4 x5).bind fun x6 =>
  (hp_lp (fL_X7_closeBlock_24 n v0 v1) n (x6, h3)).bind fun x7 =>
  (hp_fR x7 7 v0 2).bind fun x9 =>
  (hp_fI x7 7 v0 0).bind fun x10 =>
  (hp_aI x7 0 x9 x10).bind fun x11 =>
  (hp_pF x7 7 v0 9 (.int x11)).bind fun h12 =>
  (hp_fR h12 7 v0 1).bind fun x13 =>
  (hp_fI h12 7 v0 0).bind fun x14 =>
  (hp_aI h12 0 x13 x14).bind fun x15 =>
  (hp_lp (fL_X7_closeBlock_72 n v0) n (x15, h12)).bind fun x16 =>
  (hp_fR x16 7 v0 1).bind fun x18 =>
  (hp_fI x16 7 v0 0).bind fun x19 =>
  (hp_aI x16 0 x18 x19).bind fun x20 =>
  (hp_pF x16 7 v0 4 (.int x20)).bind fun h21 =>
  some h21
set_option maxHeartbeats 1000000 in
set_option maxRecDepth 4000 in
theorem q_X7_closeBlock_0 (G : hp_G) (n : Nat) (v0 : Nat) (v1 : Nat) (h : hp_H) (sz sl : Nat) (res : hp_H) (hm : f_X7_closeBlock_0 n v0 v1 h = some res) : hp_V G m_X7_closeBlock 0 [(0, .ref v0), (1, .ref v1)] [] h sz sl (none, res, sz, sl) := by
  have ho : sz ≤ sz ∧ sl ≤ sl := ⟨Nat.le_refl _, Nat.le_refl _⟩
  unfold f_X7_closeBlock_0 at hm
  refine hv_aload_n 0 dX7_closeBlock_0 rfl rfl ?_
  obtain ⟨x1, hx1, hm⟩ := hp_bd hm
  obtain ⟨Vx1, hVx1⟩ := k_X7_dropPairs hx1
  refine hv_callV (As := []) (rest := []) Z_X7_dropPairs I_X7_dropPairs lk_m_X7_62 rfl hVx1 (c_X7_dropPairs G n v0 h sz sl _ hx1) rfl (Nat.le_of_ble_eq_true rfl) ⟨Nat.le_of_ble_eq_true rfl, Nat.le_of_ble_eq_true rfl⟩ ho.1 ho.2 rfl dX7_closeBlock_1 ?_
  refine hv_as [] x1 rfl rfl ?_
  refine hv_aload_n 0 dX7_closeBlock_4 rfl rfl ?_
  refine hv_dup dX7_closeBlock_5 rfl ?_
  obtain ⟨x2, hx2, hm⟩ := hp_bd hm
  refine hv_get lk_f_X7_40 dX7_closeBlock_6 (hp_fI_spec hx2) ?_
  refine hv_iconst (1 : Int32) dX7_closeBlock_9 (by decide) ?_
  refine hv_isub dX7_closeBlock_10 ?_
  obtain ⟨h3, hh3, hm⟩ := hp_bd hm
  refine hv_put lk_f_X7_40 dX7_closeBlock_11 rfl rfl hh3 ?_
  refine hv_aload_n 0 dX7_closeBlock_14 rfl rfl ?_
  obtain ⟨x4, hx4, hm⟩ := hp_bd hm
  refine hv_get lk_f_X7_15 dX7_closeBlock_15 (hp_fR_spec hx4) ?_
  refine hv_aload_n 0 dX7_closeBlock_18 rfl rfl ?_
  obtain ⟨x5, hx5, hm⟩ := hp_bd hm
  refine hv_get lk_f_X7_40 dX7_closeBlock_19 (hp_fI_spec hx5) ?_
  obtain ⟨x6, hx6, hm⟩ := hp_bd hm
  refine hv_iald dX7_closeBlock_22 hx6 ?_
  refine hv_istore_n [(2, .int x6), (0, .ref v0), (1, .ref v1)] dX7_closeBlock_23 rfl (by decide) rfl ?_
  obtain ⟨x7, hx7, hm⟩ := hp_bd hm
  refine hv_sub [1, 2, 0] rfl (l_X7_closeBlock_24 G n v0 v1 sz sl _ ho n _ _ hx7 (fun y8 ey8 => ?_))
  · skip
    subst ey8
    refine hv_aload_n 0 dX7_closeBlock_49 rfl rfl ?_
    refine hv_aload_n 0 dX7_closeBlock_50 rfl rfl ?_
    obtain ⟨x9, hx9, hm⟩ := hp_bd hm
    refine hv_get lk_f_X7_15 dX7_closeBlock_51 (hp_fR_spec hx9) ?_
    refine hv_aload_n 0 dX7_closeBlock_54 rfl rfl ?_
    obtain ⟨x10, hx10, hm⟩ := hp_bd hm
    refine hv_get lk_f_X7_40 dX7_closeBlock_55 (hp_fI_spec hx10) ?_
    obtain ⟨x11, hx11, hm⟩ := hp_bd hm
    refine hv_iald dX7_closeBlock_58 hx11 ?_
    obtain ⟨h12, hh12, hm⟩ := hp_bd hm
    refine hv_put lk_f_X7_47 dX7_closeBlock_59 rfl rfl hh12 ?_
    refine hv_aload_n 0 dX7_closeBlock_62 rfl rfl ?_
    obtain ⟨x13, hx13, hm⟩ := hp_bd hm
    refine hv_get lk_f_X7_9 dX7_closeBlock_63 (hp_fR_spec hx13) ?_
    refine hv_aload_n 0 dX7_closeBlock_66 rfl rfl ?_
    obtain ⟨x14, hx14, hm⟩ := hp_bd hm
    refine hv_get lk_f_X7_40 dX7_closeBlock_67 (hp_fI_spec hx14) ?_
    obtain ⟨x15, hx15, hm⟩ := hp_bd hm
    refine hv_iald dX7_closeBlock_70 hx15 ?_
    refine hv_istore_n [(2, .int x15), (0, .ref v0)] dX7_closeBlock_71 rfl (by decide) rfl ?_
    obtain ⟨x16, hx16, hm⟩ := hp_bd hm
    refine hv_sub [1, 0] rfl (l_X7_closeBlock_72 G n v0 sz sl _ ho n _ _ hx16 (fun y17 ey17 => ?_))
    · skip
      subst ey17
      refine hv_aload_n 0 dX7_closeBlock_98 rfl rfl ?_
      refine hv_aload_n 0 dX7_closeBlock_99 rfl rfl ?_
      obtain ⟨x18, hx18, hm⟩ := hp_bd hm
      refine hv_get lk_f_X7_9 dX7_closeBlock_100 (hp_fR_spec hx18) ?_
      refine hv_aload_n 0 dX7_closeBlock_103 rfl rfl ?_
      obtain ⟨x19, hx19, hm⟩ := hp_bd hm
      refine hv_get lk_f_X7_40 dX7_closeBlock_104 (hp_fI_spec hx19) ?_
      obtain ⟨x20, hx20, hm⟩ := hp_bd hm
      refine hv_iald dX7_closeBlock_107 hx20 ?_
      obtain ⟨h21, hh21, hm⟩ := hp_bd hm
      refine hv_put lk_f_X7_44 dX7_closeBlock_108 rfl rfl hh21 ?_
      obtain rfl := Option.some.inj hm
      exact hv_vret rfl dX7_closeBlock_111
def f_X7_closeBlock (n : Nat) (v0 : Nat) (v1 : Nat) (h : hp_H) : Option (hp_H) := (hp_ck h 7 v0).bind fun _ => f_X7_closeBlock_0 n v0 v1 h
theorem c_X7_closeBlock (G : hp_G) (n : Nat) (v0 : Nat) (v1 : Nat) (h : hp_H) (sz sl : Nat) (res : hp_H) (hm : f_X7_closeBlock n v0 v1 h = some res) : hp_C G m_X7_closeBlock yX7_closeBlock [.ref v0, .ref v1] h sz sl (none, res, sz, sl) := by
  unfold f_X7_closeBlock at hm
  obtain ⟨_, _, hm⟩ := hp_bd hm
  exact hp_C_of (by decide) rfl rfl (Nat.le_of_ble_eq_true rfl) (Nat.le_refl _) (Nat.le_refl _) (hv_sub [0, 1] rfl (q_X7_closeBlock_0 G n v0 v1 h sz sl res hm))
theorem k_X7_closeBlock {n : Nat} {v0 : Nat} {v1 : Nat} {h : hp_H} {res : hp_H} (hm : f_X7_closeBlock n v0 v1 h = some res) : ∃ V, h v0 = some (.inr (.inr (7, V))) := by
  unfold f_X7_closeBlock at hm
  obtain ⟨_, hu, _⟩ := hp_bd hm
  exact hp_ck_spec hu
abbrev m_X7_isActive : hp_M := (RX7, cX7_isActive, 2, some .boolean, 0, 0, "isActive")
theorem Z_X7_isActive : hp_Y yX7_isActive m_X7_isActive 1 := Y_X7_isActive
def f_X7_isActive_0 (n : Nat) (v0 : Nat) (v1 : Int32) (h : hp_H) : Option (Int32) :=
  if v1 < 0 then
    some (0 : Int32)
  else
    if (300 : Int32) ≤ v1 then
      some (0 : Int32)
    else
      (hp_fR h 7 v0 5).bind fun x1 =>
      (hp_aI h 1 x1 v1).bind fun x2 =>
      if x2 = 0 then
        some (0 : Int32)
      else
        some (1 : Int32)
set_option maxHeartbeats 1000000 in
set_option maxRecDepth 4000 in
theorem q_X7_isActive_0 (G : hp_G) (n : Nat) (v0 : Nat) (v1 : Int32) (h : hp_H) (sz sl : Nat) (res : Int32) (hm : f_X7_isActive_0 n v0 v1 h = some res) : hp_V G m_X7_isActive 0 [(0, .ref v0), (1, .int v1)] [] h sz sl (some (.int res), h, sz, sl) := by
  have ho : sz ≤ sz ∧ sl ≤ sl := ⟨Nat.le_refl _, Nat.le_refl _⟩
  unfold f_X7_isActive_0 at hm
  refine hv_iload_n 1 dX7_isActive_0 rfl rfl ?_
  refine hv_if_lt (tgt := 24) dX7_isActive_1 (by decide) (fun c5 => ?_) (fun c5 => ?_)
  · rw [if_pos c5] at hm
    refine hv_iconst (0 : Int32) dX7_isActive_24 (by decide) ?_
    obtain rfl := Option.some.inj hm
    exact hv_zret rfl (by decide) dX7_isActive_25
  · rw [if_neg c5] at hm
    refine hv_iload_n 1 dX7_isActive_4 rfl rfl ?_
    refine hv_sipush (300 : Int32) dX7_isActive_5 (by decide) ?_
    refine hv_icmp_ge (tgt := 24) dX7_isActive_8 (by decide) (fun c4 => ?_) (fun c4 => ?_)
    · rw [if_pos c4] at hm
      refine hv_iconst (0 : Int32) dX7_isActive_24 (by decide) ?_
      obtain rfl := Option.some.inj hm
      exact hv_zret rfl (by decide) dX7_isActive_25
    · rw [if_neg c4] at hm
      refine hv_aload_n 0 dX7_isActive_11 rfl rfl ?_
      obtain ⟨x1, hx1, hm⟩ := hp_bd hm
      refine hv_get lk_f_X7_21 dX7_isActive_12 (hp_fR_spec hx1) ?_
      refine hv_iload_n 1 dX7_isActive_15 rfl rfl ?_
      obtain ⟨x2, hx2, hm⟩ := hp_bd hm
      refine hv_bald dX7_isActive_16 hx2 ?_
      refine hv_if_eq (tgt := 24) dX7_isActive_17 (by decide) (fun c3 => ?_) (fun c3 => ?_)
      · rw [if_pos c3] at hm
        refine hv_iconst (0 : Int32) dX7_isActive_24 (by decide) ?_
        obtain rfl := Option.some.inj hm
        exact hv_zret rfl (by decide) dX7_isActive_25
      · rw [if_neg c3] at hm
        refine hv_iconst (1 : Int32) dX7_isActive_20 (by decide) ?_
        refine hv_goto (tgt := 25) dX7_isActive_21 (by decide) ?_
        obtain rfl := Option.some.inj hm
        exact hv_zret rfl (by decide) dX7_isActive_25
def f_X7_isActive (n : Nat) (v0 : Nat) (v1 : Int32) (h : hp_H) : Option (Int32) := (hp_ck h 7 v0).bind fun _ => f_X7_isActive_0 n v0 v1 h
theorem c_X7_isActive (G : hp_G) (n : Nat) (v0 : Nat) (v1 : Int32) (h : hp_H) (sz sl : Nat) (res : Int32) (hm : f_X7_isActive n v0 v1 h = some res) : hp_C G m_X7_isActive yX7_isActive [.ref v0, .int v1] h sz sl (some (.int res), h, sz, sl) := by
  unfold f_X7_isActive at hm
  obtain ⟨_, _, hm⟩ := hp_bd hm
  exact hp_C_of (by decide) rfl rfl (Nat.le_of_ble_eq_true rfl) (Nat.le_refl _) (Nat.le_refl _) (hv_sub [0, 1] rfl (q_X7_isActive_0 G n v0 v1 h sz sl res hm))
theorem k_X7_isActive {n : Nat} {v0 : Nat} {v1 : Int32} {h : hp_H} {res : Int32} (hm : f_X7_isActive n v0 v1 h = some res) : ∃ V, h v0 = some (.inr (.inr (7, V))) := by
  unfold f_X7_isActive at hm
  obtain ⟨_, hu, _⟩ := hp_bd hm
  exact hp_ck_spec hu
abbrev m_X7_activate : hp_M := (RX7, cX7_activate, 2, none, 0, 0, "activate")
theorem Z_X7_activate : hp_Y yX7_activate m_X7_activate 1 := Y_X7_activate
def f_X7_activate_0 (n : Nat) (v0 : Nat) (v1 : Int32) (h : hp_H) : Option (hp_H) :=
  (hp_fR h 7 v0 5).bind fun x1 =>
  (hp_sI h 1 x1 v1 (1 : Int32)).bind fun h2 =>
  (hp_fR h2 7 v0 3).bind fun x3 =>
  (hp_fI h2 7 v0 4).bind fun x4 =>
  (hp_sI h2 0 x3 x4 v1).bind fun h5 =>
  (hp_fI h5 7 v0 4).bind fun x6 =>
  (hp_pF h5 7 v0 4 (.int (x6 + (1 : Int32)))).bind fun h7 =>
  some h7
set_option maxHeartbeats 1000000 in
set_option maxRecDepth 4000 in
theorem q_X7_activate_0 (G : hp_G) (n : Nat) (v0 : Nat) (v1 : Int32) (h : hp_H) (sz sl : Nat) (res : hp_H) (hm : f_X7_activate_0 n v0 v1 h = some res) : hp_V G m_X7_activate 0 [(0, .ref v0), (1, .int v1)] [] h sz sl (none, res, sz, sl) := by
  have ho : sz ≤ sz ∧ sl ≤ sl := ⟨Nat.le_refl _, Nat.le_refl _⟩
  unfold f_X7_activate_0 at hm
  refine hv_aload_n 0 dX7_activate_0 rfl rfl ?_
  obtain ⟨x1, hx1, hm⟩ := hp_bd hm
  refine hv_get lk_f_X7_21 dX7_activate_1 (hp_fR_spec hx1) ?_
  refine hv_iload_n 1 dX7_activate_4 rfl rfl ?_
  refine hv_iconst (1 : Int32) dX7_activate_5 (by decide) ?_
  obtain ⟨h2, hh2, hm⟩ := hp_bd hm
  refine hv_bast dX7_activate_6 hh2 ?_
  refine hv_aload_n 0 dX7_activate_7 rfl rfl ?_
  obtain ⟨x3, hx3, hm⟩ := hp_bd hm
  refine hv_get lk_f_X7_18 dX7_activate_8 (hp_fR_spec hx3) ?_
  refine hv_aload_n 0 dX7_activate_11 rfl rfl ?_
  obtain ⟨x4, hx4, hm⟩ := hp_bd hm
  refine hv_get lk_f_X7_44 dX7_activate_12 (hp_fI_spec hx4) ?_
  refine hv_iload_n 1 dX7_activate_15 rfl rfl ?_
  obtain ⟨h5, hh5, hm⟩ := hp_bd hm
  refine hv_iast dX7_activate_16 hh5 ?_
  refine hv_aload_n 0 dX7_activate_17 rfl rfl ?_
  refine hv_dup dX7_activate_18 rfl ?_
  obtain ⟨x6, hx6, hm⟩ := hp_bd hm
  refine hv_get lk_f_X7_44 dX7_activate_19 (hp_fI_spec hx6) ?_
  refine hv_iconst (1 : Int32) dX7_activate_22 (by decide) ?_
  refine hv_iadd dX7_activate_23 ?_
  obtain ⟨h7, hh7, hm⟩ := hp_bd hm
  refine hv_put lk_f_X7_44 dX7_activate_24 rfl rfl hh7 ?_
  obtain rfl := Option.some.inj hm
  exact hv_vret rfl dX7_activate_27
def f_X7_activate (n : Nat) (v0 : Nat) (v1 : Int32) (h : hp_H) : Option (hp_H) := (hp_ck h 7 v0).bind fun _ => f_X7_activate_0 n v0 v1 h
theorem c_X7_activate (G : hp_G) (n : Nat) (v0 : Nat) (v1 : Int32) (h : hp_H) (sz sl : Nat) (res : hp_H) (hm : f_X7_activate n v0 v1 h = some res) : hp_C G m_X7_activate yX7_activate [.ref v0, .int v1] h sz sl (none, res, sz, sl) := by
  unfold f_X7_activate at hm
  obtain ⟨_, _, hm⟩ := hp_bd hm
  exact hp_C_of (by decide) rfl rfl (Nat.le_of_ble_eq_true rfl) (Nat.le_refl _) (Nat.le_refl _) (hv_sub [0, 1] rfl (q_X7_activate_0 G n v0 v1 h sz sl res hm))
theorem k_X7_activate {n : Nat} {v0 : Nat} {v1 : Int32} {h : hp_H} {res : hp_H} (hm : f_X7_activate n v0 v1 h = some res) : ∃ V, h v0 = some (.inr (.inr (7, V))) := by
  unfold f_X7_activate at hm
  obtain ⟨_, hu, _⟩ := hp_bd hm
  exact hp_ck_spec hu
abbrev m_X7_addPair : hp_M := (RX7, cX7_addPair, 5, some .boolean, 1, 40, "addPair")
theorem Z_X7_addPair : hp_Y yX7_addPair m_X7_addPair 2 := Y_X7_addPair
def f_X7_addPair_19 (n : Nat) (v0 : Nat) (v3 : Int32) (v4 : Int32) (h : hp_H) : Option ((Int32) ⊕ (Int32)) :=
  (hp_fI h 7 v0 12).bind fun x1 =>
  if x1 ≤ v4 then
    some (.inr v4)
  else
    (hp_fR h 7 v0 10).bind fun x2 =>
    (hp_aI h 0 x2 v4).bind fun x3 =>
    if v3 ≤ x3 then
      some (.inr v4)
    else
      some (.inl (v4 + (1 : Int32)))
set_option maxHeartbeats 1000000 in
set_option maxRecDepth 4000 in
theorem q_X7_addPair_19 (G : hp_G) (n : Nat) (v0 : Nat) (v3 : Int32) (v4 : Int32) (h : hp_H) (sz sl : Nat) (o : hp_O) (ho : sz ≤ o.2.2.1 ∧ sl ≤ o.2.2.2) (res : (Int32) ⊕ (Int32)) (hm : f_X7_addPair_19 n v0 v3 v4 h = some res) (kI : ∀ y : Int32, res = .inl y → hp_V G m_X7_addPair 19 [(0, .ref v0), (3, .int v3), (4, .int y)] [] h sz sl o) (kX0 : ∀ y : Int32, res = .inr y → hp_V G m_X7_addPair 45 [(0, .ref v0), (3, .int v3), (4, .int y)] [] h sz sl o) : hp_V G m_X7_addPair 19 [(0, .ref v0), (3, .int v3), (4, .int v4)] [] h sz sl o := by
  unfold f_X7_addPair_19 at hm
  refine hv_iload 2 dX7_addPair_19 rfl ?_
  refine hv_aload_n 0 dX7_addPair_21 rfl rfl ?_
  obtain ⟨x1, hx1, hm⟩ := hp_bd hm
  refine hv_get lk_f_X7_50 dX7_addPair_22 (hp_fI_spec hx1) ?_
  refine hv_icmp_ge (tgt := 45) dX7_addPair_25 (by decide) (fun c5 => ?_) (fun c5 => ?_)
  · rw [if_pos c5] at hm
    exact hv_sub [0, 1, 2] rfl (kX0 v4 (Option.some.inj hm).symm)
  · rw [if_neg c5] at hm
    refine hv_aload_n 0 dX7_addPair_28 rfl rfl ?_
    obtain ⟨x2, hx2, hm⟩ := hp_bd hm
    refine hv_get lk_f_X7_34 dX7_addPair_29 (hp_fR_spec hx2) ?_
    refine hv_iload 2 dX7_addPair_32 rfl ?_
    obtain ⟨x3, hx3, hm⟩ := hp_bd hm
    refine hv_iald dX7_addPair_34 hx3 ?_
    refine hv_iload_n 1 dX7_addPair_35 rfl rfl ?_
    refine hv_icmp_ge (tgt := 45) dX7_addPair_36 (by decide) (fun c4 => ?_) (fun c4 => ?_)
    · rw [if_pos c4] at hm
      exact hv_sub [0, 1, 2] rfl (kX0 v4 (Option.some.inj hm).symm)
    · rw [if_neg c4] at hm
      refine hv_iinc (v4 + (1 : Int32)) 2 [(4, .int (v4 + (1 : Int32))), (0, .ref v0), (3, .int v3)] dX7_addPair_39 rfl rfl (by decide) rfl ?_
      refine hv_goto (tgt := 19) dX7_addPair_42 (by decide) ?_
      exact hv_sub [1, 2, 0] rfl (kI (v4 + (1 : Int32)) (Option.some.inj hm).symm)
def fL_X7_addPair_19 (n : Nat) (v0 : Nat) (v3 : Int32) (h : hp_H) (s : Int32) : Option ((Int32) ⊕ (Int32)) := f_X7_addPair_19 n v0 v3 s h
theorem l_X7_addPair_19 (G : hp_G) (n : Nat) (v0 : Nat) (v3 : Int32) (h : hp_H) (sz sl : Nat) (o : hp_O) (ho : sz ≤ o.2.2.1 ∧ sl ≤ o.2.2.2) : ∀ (k : Nat) (s : Int32) (x : Int32), hp_lp (fL_X7_addPair_19 n v0 v3 h) k s = some x → (∀ y : Int32, x = y → hp_V G m_X7_addPair 45 [(0, .ref v0), (3, .int v3), (4, .int y)] [] h sz sl o) → hp_V G m_X7_addPair 19 [(0, .ref v0), (3, .int v3), (4, .int s)] [] h sz sl o := by
  intro k
  induction k with
  | zero => intro s x hx; exact (hp_lp_0 hx).elim
  | succ k ih =>
    intro s x hx k0
    obtain ⟨r, hr, hc⟩ := hp_lp_1 hx
    refine q_X7_addPair_19 G n v0 v3 s h sz sl o ho r hr (fun s2 e => ?_) (fun y e => ?_)
    · rcases hc with ⟨s3, e3, hx3⟩ | e3
      · have e4 := Sum.inl.inj (e.symm.trans e3)
        subst e4
        exact ih _ _ hx3 k0
      · cases (e.symm.trans e3)
    · rcases hc with ⟨s3, e3, hx3⟩ | e3
      · cases (e.symm.trans e3)
      · exact k0 y (Sum.inr.inj (e3.symm.trans e))
def f_X7_addPair_67 (n : Nat) (v0 : Nat) (v3 : Int32) (v4 : Int32) (h : hp_H) : Option (Int32 × hp_H) :=
  (hp_fI h 7 v0 12).bind fun x1 =>
  if x1 = (200 : Int32) then
    some ((0 : Int32), h)
  else
    (hp_fR h 7 v0 10).bind fun x2 =>
    (hp_fR h 7 v0 10).bind fun x3 =>
    (hp_fI h 7 v0 12).bind fun x4 =>
    (hp_cp h x2 v4 x3 (v4 + (1 : Int32)) (x4 - v4)).bind fun h5 =>
    (hp_fR h5 7 v0 11).bind fun x6 =>
    (hp_fR h5 7 v0 11).bind fun x7 =>
    (hp_fI h5 7 v0 12).bind fun x8 =>
    (hp_cp h5 x6 v4 x7 (v4 + (1 : Int32)) (x8 - v4)).bind fun h9 =>
    (hp_fR h9 7 v0 10).bind fun x10 =>
    (hp_sI h9 0 x10 v4 v3).bind fun h11 =>
    (hp_fR h11 7 v0 11).bind fun x12 =>
    (hp_fI h11 7 v0 0).bind fun x13 =>
    (hp_sI h11 0 x12 v4 x13).bind fun h14 =>
    (hp_fI h14 7 v0 12).bind fun x15 =>
    (hp_pF h14 7 v0 12 (.int (x15 + (1 : Int32)))).bind fun h16 =>
    some ((1 : Int32), h16)
set_option maxHeartbeats 1000000 in
set_option maxRecDepth 4000 in
theorem q_X7_addPair_67 (G : hp_G) (n : Nat) (v0 : Nat) (v3 : Int32) (v4 : Int32) (h : hp_H) (sz sl : Nat) (res : Int32 × hp_H) (hm : f_X7_addPair_67 n v0 v3 v4 h = some res) : hp_V G m_X7_addPair 67 [(0, .ref v0), (3, .int v3), (4, .int v4)] [] h sz sl (some (.int res.1), res.2, sz, sl) := by
  have ho : sz ≤ sz ∧ sl ≤ sl := ⟨Nat.le_refl _, Nat.le_refl _⟩
  unfold f_X7_addPair_67 at hm
  refine hv_aload_n 0 dX7_addPair_67 rfl rfl ?_
  obtain ⟨x1, hx1, hm⟩ := hp_bd hm
  refine hv_get lk_f_X7_50 dX7_addPair_68 (hp_fI_spec hx1) ?_
  refine hv_sipush (200 : Int32) dX7_addPair_71 (by decide) ?_
  refine hv_icmp_ne (tgt := 79) dX7_addPair_74 (by decide) (fun c17 => ?_) (fun c17 => ?_)
  · rw [if_neg c17] at hm
    refine hv_aload_n 0 dX7_addPair_79 rfl rfl ?_
    obtain ⟨x2, hx2, hm⟩ := hp_bd hm
    refine hv_get lk_f_X7_34 dX7_addPair_80 (hp_fR_spec hx2) ?_
    refine hv_iload 2 dX7_addPair_83 rfl ?_
    refine hv_aload_n 0 dX7_addPair_85 rfl rfl ?_
    obtain ⟨x3, hx3, hm⟩ := hp_bd hm
    refine hv_get lk_f_X7_34 dX7_addPair_86 (hp_fR_spec hx3) ?_
    refine hv_iload 2 dX7_addPair_89 rfl ?_
    refine hv_iconst (1 : Int32) dX7_addPair_91 (by decide) ?_
    refine hv_iadd dX7_addPair_92 ?_
    refine hv_aload_n 0 dX7_addPair_93 rfl rfl ?_
    obtain ⟨x4, hx4, hm⟩ := hp_bd hm
    refine hv_get lk_f_X7_50 dX7_addPair_94 (hp_fI_spec hx4) ?_
    refine hv_iload 2 dX7_addPair_97 rfl ?_
    refine hv_isub dX7_addPair_99 ?_
    obtain ⟨h5, hh5, hm⟩ := hp_bd hm
    refine hv_copy lk_a_X7_106 ⟨Nat.le_of_ble_eq_true rfl, by decide⟩ dX7_addPair_100 hh5 ?_
    refine hv_aload_n 0 dX7_addPair_103 rfl rfl ?_
    obtain ⟨x6, hx6, hm⟩ := hp_bd hm
    refine hv_get lk_f_X7_37 dX7_addPair_104 (hp_fR_spec hx6) ?_
    refine hv_iload 2 dX7_addPair_107 rfl ?_
    refine hv_aload_n 0 dX7_addPair_109 rfl rfl ?_
    obtain ⟨x7, hx7, hm⟩ := hp_bd hm
    refine hv_get lk_f_X7_37 dX7_addPair_110 (hp_fR_spec hx7) ?_
    refine hv_iload 2 dX7_addPair_113 rfl ?_
    refine hv_iconst (1 : Int32) dX7_addPair_115 (by decide) ?_
    refine hv_iadd dX7_addPair_116 ?_
    refine hv_aload_n 0 dX7_addPair_117 rfl rfl ?_
    obtain ⟨x8, hx8, hm⟩ := hp_bd hm
    refine hv_get lk_f_X7_50 dX7_addPair_118 (hp_fI_spec hx8) ?_
    refine hv_iload 2 dX7_addPair_121 rfl ?_
    refine hv_isub dX7_addPair_123 ?_
    obtain ⟨h9, hh9, hm⟩ := hp_bd hm
    refine hv_copy lk_a_X7_106 ⟨Nat.le_of_ble_eq_true rfl, by decide⟩ dX7_addPair_124 hh9 ?_
    refine hv_aload_n 0 dX7_addPair_127 rfl rfl ?_
    obtain ⟨x10, hx10, hm⟩ := hp_bd hm
    refine hv_get lk_f_X7_34 dX7_addPair_128 (hp_fR_spec hx10) ?_
    refine hv_iload 2 dX7_addPair_131 rfl ?_
    refine hv_iload_n 1 dX7_addPair_133 rfl rfl ?_
    obtain ⟨h11, hh11, hm⟩ := hp_bd hm
    refine hv_iast dX7_addPair_134 hh11 ?_
    refine hv_aload_n 0 dX7_addPair_135 rfl rfl ?_
    obtain ⟨x12, hx12, hm⟩ := hp_bd hm
    refine hv_get lk_f_X7_37 dX7_addPair_136 (hp_fR_spec hx12) ?_
    refine hv_iload 2 dX7_addPair_139 rfl ?_
    refine hv_aload_n 0 dX7_addPair_141 rfl rfl ?_
    obtain ⟨x13, hx13, hm⟩ := hp_bd hm
    refine hv_get lk_f_X7_40 dX7_addPair_142 (hp_fI_spec hx13) ?_
    obtain ⟨h14, hh14, hm⟩ := hp_bd hm
    refine hv_iast dX7_addPair_145 hh14 ?_
    refine hv_aload_n 0 dX7_addPair_146 rfl rfl ?_
    refine hv_dup dX7_addPair_147 rfl ?_
    obtain ⟨x15, hx15, hm⟩ := hp_bd hm
    refine hv_get lk_f_X7_50 dX7_addPair_148 (hp_fI_spec hx15) ?_
    refine hv_iconst (1 : Int32) dX7_addPair_151 (by decide) ?_
    refine hv_iadd dX7_addPair_152 ?_
    obtain ⟨h16, hh16, hm⟩ := hp_bd hm
    refine hv_put lk_f_X7_50 dX7_addPair_153 rfl rfl hh16 ?_
    refine hv_iconst (1 : Int32) dX7_addPair_156 (by decide) ?_
    obtain rfl := Option.some.inj hm
    exact hv_zret rfl (by decide) dX7_addPair_157
  · rw [if_pos c17] at hm
    refine hv_iconst (0 : Int32) dX7_addPair_77 (by decide) ?_
    obtain rfl := Option.some.inj hm
    exact hv_zret rfl (by decide) dX7_addPair_78
def f_X7_addPair_45 (n : Nat) (v0 : Nat) (v3 : Int32) (v4 : Int32) (h : hp_H) : Option (Int32 × hp_H) :=
  (hp_fI h 7 v0 12).bind fun x1 =>
  if x1 ≤ v4 then
    f_X7_addPair_67 n v0 v3 v4 h
  else
    (hp_fR h 7 v0 10).bind fun x2 =>
    (hp_aI h 0 x2 v4).bind fun x3 =>
    if x3 = v3 then
      some ((1 : Int32), h)
    else
      f_X7_addPair_67 n v0 v3 v4 h
set_option maxHeartbeats 1000000 in
set_option maxRecDepth 4000 in
theorem q_X7_addPair_45 (G : hp_G) (n : Nat) (v0 : Nat) (v3 : Int32) (v4 : Int32) (h : hp_H) (sz sl : Nat) (res : Int32 × hp_H) (hm : f_X7_addPair_45 n v0 v3 v4 h = some res) : hp_V G m_X7_addPair 45 [(0, .ref v0), (3, .int v3), (4, .int v4)] [] h sz sl (some (.int res.1), res.2, sz, sl) := by
  have ho : sz ≤ sz ∧ sl ≤ sl := ⟨Nat.le_refl _, Nat.le_refl _⟩
  unfold f_X7_addPair_45 at hm
  refine hv_iload 2 dX7_addPair_45 rfl ?_
  refine hv_aload_n 0 dX7_addPair_47 rfl rfl ?_
  obtain ⟨x1, hx1, hm⟩ := hp_bd hm
  refine hv_get lk_f_X7_50 dX7_addPair_48 (hp_fI_spec hx1) ?_
  refine hv_icmp_ge (tgt := 67) dX7_addPair_51 (by decide) (fun c5 => ?_) (fun c5 => ?_)
  · rw [if_pos c5] at hm
    exact hv_sub [0, 1, 2] rfl (q_X7_addPair_67 G n v0 v3 v4 h sz sl _ hm)
  · rw [if_neg c5] at hm
    refine hv_aload_n 0 dX7_addPair_54 rfl rfl ?_
    obtain ⟨x2, hx2, hm⟩ := hp_bd hm
    refine hv_get lk_f_X7_34 dX7_addPair_55 (hp_fR_spec hx2) ?_
    refine hv_iload 2 dX7_addPair_58 rfl ?_
    obtain ⟨x3, hx3, hm⟩ := hp_bd hm
    refine hv_iald dX7_addPair_60 hx3 ?_
    refine hv_iload_n 1 dX7_addPair_61 rfl rfl ?_
    refine hv_icmp_ne (tgt := 67) dX7_addPair_62 (by decide) (fun c4 => ?_) (fun c4 => ?_)
    · rw [if_neg c4] at hm
      exact hv_sub [0, 1, 2] rfl (q_X7_addPair_67 G n v0 v3 v4 h sz sl _ hm)
    · rw [if_pos c4] at hm
      refine hv_iconst (1 : Int32) dX7_addPair_65 (by decide) ?_
      obtain rfl := Option.some.inj hm
      exact hv_zret rfl (by decide) dX7_addPair_66
def f_X7_addPair_0 (n : Nat) (v0 : Nat) (v1 : Int32) (v2 : Int32) (h : hp_H) : Option (Int32 × hp_H) :=
  (hp_lp (fL_X7_addPair_19 n v0 (((hp_mn v1 v2) * (300 : Int32)) + (hp_mx v1 v2)) h) n (0 : Int32)).bind fun x1 =>
  f_X7_addPair_45 n v0 (((hp_mn v1 v2) * (300 : Int32)) + (hp_mx v1 v2)) x1 h
set_option maxHeartbeats 1000000 in
set_option maxRecDepth 4000 in
theorem q_X7_addPair_0 (G : hp_G) (n : Nat) (v0 : Nat) (v1 : Int32) (v2 : Int32) (h : hp_H) (sz sl : Nat) (res : Int32 × hp_H) (hm : f_X7_addPair_0 n v0 v1 v2 h = some res) : hp_V G m_X7_addPair 0 [(0, .ref v0), (1, .int v1), (2, .int v2)] [] h sz sl (some (.int res.1), res.2, sz, sl) := by
  have ho : sz ≤ sz ∧ sl ≤ sl := ⟨Nat.le_refl _, Nat.le_refl _⟩
  unfold f_X7_addPair_0 at hm
  refine hv_iload_n 1 dX7_addPair_0 rfl rfl ?_
  refine hv_iload_n 2 dX7_addPair_1 rfl rfl ?_
  refine hv_mmin lk_x_X7_98 ⟨Nat.le_of_ble_eq_true rfl, Nat.le_of_ble_eq_true rfl⟩ (Nat.le_of_ble_eq_true rfl) ho dX7_addPair_2 ?_
  refine hv_sipush (300 : Int32) dX7_addPair_5 (by decide) ?_
  refine hv_imul dX7_addPair_8 ?_
  refine hv_iload_n 1 dX7_addPair_9 rfl rfl ?_
  refine hv_iload_n 2 dX7_addPair_10 rfl rfl ?_
  refine hv_mmax lk_x_X7_103 ⟨Nat.le_of_ble_eq_true rfl, Nat.le_of_ble_eq_true rfl⟩ (Nat.le_of_ble_eq_true rfl) ho dX7_addPair_11 ?_
  refine hv_iadd dX7_addPair_14 ?_
  refine hv_istore_n [(3, .int (((hp_mn v1 v2) * (300 : Int32)) + (hp_mx v1 v2))), (0, .ref v0), (1, .int v1), (2, .int v2)] dX7_addPair_15 rfl (by decide) rfl ?_
  refine hv_iconst (0 : Int32) dX7_addPair_16 (by decide) ?_
  refine hv_istore [(4, .int (0 : Int32)), (3, .int (((hp_mn v1 v2) * (300 : Int32)) + (hp_mx v1 v2))), (0, .ref v0), (1, .int v1), (2, .int v2)] dX7_addPair_17 (by decide) rfl ?_
  obtain ⟨x1, hx1, hm⟩ := hp_bd hm
  refine hv_sub [2, 1, 0] rfl (l_X7_addPair_19 G n v0 (((hp_mn v1 v2) * (300 : Int32)) + (hp_mx v1 v2)) h sz sl _ ho n _ _ hx1 (fun y2 ey2 => ?_))
  · skip
    subst ey2
    exact hv_sub [0, 1, 2] rfl (q_X7_addPair_45 G n v0 (((hp_mn v1 v2) * (300 : Int32)) + (hp_mx v1 v2)) x1 h sz sl _ hm)
def f_X7_addPair (n : Nat) (v0 : Nat) (v1 : Int32) (v2 : Int32) (h : hp_H) : Option (Int32 × hp_H) := (hp_ck h 7 v0).bind fun _ => f_X7_addPair_0 n v0 v1 v2 h
theorem c_X7_addPair (G : hp_G) (n : Nat) (v0 : Nat) (v1 : Int32) (v2 : Int32) (h : hp_H) (sz sl : Nat) (res : Int32 × hp_H) (hm : f_X7_addPair n v0 v1 v2 h = some res) : hp_C G m_X7_addPair yX7_addPair [.ref v0, .int v1, .int v2] h sz sl (some (.int res.1), res.2, sz, sl) := by
  unfold f_X7_addPair at hm
  obtain ⟨_, _, hm⟩ := hp_bd hm
  exact hp_C_of (by decide) rfl rfl (Nat.le_of_ble_eq_true rfl) (Nat.le_refl _) (Nat.le_refl _) (hv_sub [0, 1, 2] rfl (q_X7_addPair_0 G n v0 v1 v2 h sz sl res hm))
theorem k_X7_addPair {n : Nat} {v0 : Nat} {v1 : Int32} {v2 : Int32} {h : hp_H} {res : Int32 × hp_H} (hm : f_X7_addPair n v0 v1 v2 h = some res) : ∃ V, h v0 = some (.inr (.inr (7, V))) := by
  unfold f_X7_addPair at hm
  obtain ⟨_, hu, _⟩ := hp_bd hm
  exact hp_ck_spec hu
abbrev m_X7_isTyped : hp_M := (RX7, cX7_isTyped, 2, some .boolean, 0, 0, "isTyped")
theorem Z_X7_isTyped : hp_Y yX7_isTyped m_X7_isTyped 1 := Y_X7_isTyped
def f_X7_isTyped_0 (n : Nat) (v0 : Nat) (v1 : Int32) (h : hp_H) : Option (Int32) :=
  if v1 < 0 then
    some (0 : Int32)
  else
    if (300 : Int32) ≤ v1 then
      some (0 : Int32)
    else
      (hp_fR h 7 v0 6).bind fun x1 =>
      (hp_aI h 1 x1 v1).bind fun x2 =>
      if x2 = 0 then
        some (0 : Int32)
      else
        some (1 : Int32)
set_option maxHeartbeats 1000000 in
set_option maxRecDepth 4000 in
theorem q_X7_isTyped_0 (G : hp_G) (n : Nat) (v0 : Nat) (v1 : Int32) (h : hp_H) (sz sl : Nat) (res : Int32) (hm : f_X7_isTyped_0 n v0 v1 h = some res) : hp_V G m_X7_isTyped 0 [(0, .ref v0), (1, .int v1)] [] h sz sl (some (.int res), h, sz, sl) := by
  have ho : sz ≤ sz ∧ sl ≤ sl := ⟨Nat.le_refl _, Nat.le_refl _⟩
  unfold f_X7_isTyped_0 at hm
  refine hv_iload_n 1 dX7_isTyped_0 rfl rfl ?_
  refine hv_if_lt (tgt := 24) dX7_isTyped_1 (by decide) (fun c5 => ?_) (fun c5 => ?_)
  · rw [if_pos c5] at hm
    refine hv_iconst (0 : Int32) dX7_isTyped_24 (by decide) ?_
    obtain rfl := Option.some.inj hm
    exact hv_zret rfl (by decide) dX7_isTyped_25
  · rw [if_neg c5] at hm
    refine hv_iload_n 1 dX7_isTyped_4 rfl rfl ?_
    refine hv_sipush (300 : Int32) dX7_isTyped_5 (by decide) ?_
    refine hv_icmp_ge (tgt := 24) dX7_isTyped_8 (by decide) (fun c4 => ?_) (fun c4 => ?_)
    · rw [if_pos c4] at hm
      refine hv_iconst (0 : Int32) dX7_isTyped_24 (by decide) ?_
      obtain rfl := Option.some.inj hm
      exact hv_zret rfl (by decide) dX7_isTyped_25
    · rw [if_neg c4] at hm
      refine hv_aload_n 0 dX7_isTyped_11 rfl rfl ?_
      obtain ⟨x1, hx1, hm⟩ := hp_bd hm
      refine hv_get lk_f_X7_25 dX7_isTyped_12 (hp_fR_spec hx1) ?_
      refine hv_iload_n 1 dX7_isTyped_15 rfl rfl ?_
      obtain ⟨x2, hx2, hm⟩ := hp_bd hm
      refine hv_bald dX7_isTyped_16 hx2 ?_
      refine hv_if_eq (tgt := 24) dX7_isTyped_17 (by decide) (fun c3 => ?_) (fun c3 => ?_)
      · rw [if_pos c3] at hm
        refine hv_iconst (0 : Int32) dX7_isTyped_24 (by decide) ?_
        obtain rfl := Option.some.inj hm
        exact hv_zret rfl (by decide) dX7_isTyped_25
      · rw [if_neg c3] at hm
        refine hv_iconst (1 : Int32) dX7_isTyped_20 (by decide) ?_
        refine hv_goto (tgt := 25) dX7_isTyped_21 (by decide) ?_
        obtain rfl := Option.some.inj hm
        exact hv_zret rfl (by decide) dX7_isTyped_25
def f_X7_isTyped (n : Nat) (v0 : Nat) (v1 : Int32) (h : hp_H) : Option (Int32) := (hp_ck h 7 v0).bind fun _ => f_X7_isTyped_0 n v0 v1 h
theorem c_X7_isTyped (G : hp_G) (n : Nat) (v0 : Nat) (v1 : Int32) (h : hp_H) (sz sl : Nat) (res : Int32) (hm : f_X7_isTyped n v0 v1 h = some res) : hp_C G m_X7_isTyped yX7_isTyped [.ref v0, .int v1] h sz sl (some (.int res), h, sz, sl) := by
  unfold f_X7_isTyped at hm
  obtain ⟨_, _, hm⟩ := hp_bd hm
  exact hp_C_of (by decide) rfl rfl (Nat.le_of_ble_eq_true rfl) (Nat.le_refl _) (Nat.le_refl _) (hv_sub [0, 1] rfl (q_X7_isTyped_0 G n v0 v1 h sz sl res hm))
theorem k_X7_isTyped {n : Nat} {v0 : Nat} {v1 : Int32} {h : hp_H} {res : Int32} (hm : f_X7_isTyped n v0 v1 h = some res) : ∃ V, h v0 = some (.inr (.inr (7, V))) := by
  unfold f_X7_isTyped at hm
  obtain ⟨_, hu, _⟩ := hp_bd hm
  exact hp_ck_spec hu
abbrev m_X7_makeFrame : hp_M := (RX7, cX7_makeFrame, 5, none, 3, 83, "makeFrame")
theorem Z_X7_makeFrame : hp_Y yX7_makeFrame m_X7_makeFrame 2 := Y_X7_makeFrame
abbrev zx_X7_makeFrame_9 : (hp_H × Nat × Nat) → Nat × Nat := (fun y => (y.2.1, y.2.2))
abbrev zz_X7_makeFrame_9 : ((Int32 × hp_H × Nat × Nat) ⊕ (hp_H × Nat × Nat)) → Nat × Nat := Sum.elim (fun y => (y.2.2.1, y.2.2.2)) zx_X7_makeFrame_9
def f_X7_makeFrame_63 (n : Nat) (v0 : Nat) (v1 : Nat) (v2 : Int32) (v3 : Int32) (h : hp_H) (sz sl : Nat) : Option ((Int32 × hp_H × Nat × Nat) ⊕ (hp_H × Nat × Nat)) :=
  some (.inl ((v3 + (1 : Int32)), h, sz, sl))
set_option maxHeartbeats 1000000 in
set_option maxRecDepth 4000 in
theorem mo_X7_makeFrame_63 {n : Nat} {v0 : Nat} {v1 : Nat} {v2 : Int32} {v3 : Int32} {h : hp_H} {sz sl : Nat} {res : (Int32 × hp_H × Nat × Nat) ⊕ (hp_H × Nat × Nat)} (hm : f_X7_makeFrame_63 n v0 v1 v2 v3 h sz sl = some res) : sz ≤ (zz_X7_makeFrame_9 res).1 ∧ sl ≤ (zz_X7_makeFrame_9 res).2 := by
  unfold f_X7_makeFrame_63 at hm
  obtain rfl := Option.some.inj hm
  exact ⟨Nat.le_refl _, Nat.le_refl _⟩
set_option maxHeartbeats 1000000 in
set_option maxRecDepth 4000 in
theorem q_X7_makeFrame_63 (G : hp_G) (n : Nat) (v0 : Nat) (v1 : Nat) (v2 : Int32) (v3 : Int32) (h : hp_H) (sz sl : Nat) (o : hp_O) (res : (Int32 × hp_H × Nat × Nat) ⊕ (hp_H × Nat × Nat)) (hB : (zz_X7_makeFrame_9 res).1 ≤ o.2.2.1 ∧ (zz_X7_makeFrame_9 res).2 ≤ o.2.2.2) (hm : f_X7_makeFrame_63 n v0 v1 v2 v3 h sz sl = some res) (kI : ∀ y : Int32 × hp_H × Nat × Nat, res = .inl y → hp_V G m_X7_makeFrame 9 [(0, .ref v0), (1, .ref v1), (2, .int v2), (3, .int y.1)] [] y.2.1 y.2.2.1 y.2.2.2 o) (kX0 : ∀ y : hp_H × Nat × Nat, res = .inr y → hp_V G m_X7_makeFrame 69 [(0, .ref v0), (1, .ref v1), (2, .int v2)] [] y.1 y.2.1 y.2.2 o) : hp_V G m_X7_makeFrame 63 [(0, .ref v0), (1, .ref v1), (2, .int v2), (3, .int v3)] [] h sz sl o := by
  have ho : sz ≤ o.2.2.1 ∧ sl ≤ o.2.2.2 := ⟨Nat.le_trans (mo_X7_makeFrame_63 hm).1 hB.1, Nat.le_trans (mo_X7_makeFrame_63 hm).2 hB.2⟩
  unfold f_X7_makeFrame_63 at hm
  refine hv_iinc (v3 + (1 : Int32)) 3 [(3, .int (v3 + (1 : Int32))), (0, .ref v0), (1, .ref v1), (2, .int v2)] dX7_makeFrame_63 rfl rfl (by decide) rfl ?_
  refine hv_goto (tgt := 9) dX7_makeFrame_66 (by decide) ?_
  exact hv_sub [1, 2, 3, 0] rfl (kI ((v3 + (1 : Int32)), h, sz, sl) (Option.some.inj hm).symm)
def f_X7_makeFrame_54 (n : Nat) (v0 : Nat) (v1 : Nat) (v2 : Int32) (v3 : Int32) (v4 : Int32) (h : hp_H) (sz sl : Nat) : Option ((Int32 × hp_H × Nat × Nat) ⊕ (hp_H × Nat × Nat)) :=
  (hp_fR h 0 v1 12).bind fun x1 =>
  (f_X5_add n x1 v4 h sz sl).bind fun x2 =>
  f_X7_makeFrame_63 n v0 v1 v2 v3 x2.1 x2.2.1 x2.2.2
set_option maxHeartbeats 1000000 in
set_option maxRecDepth 4000 in
theorem mo_X7_makeFrame_54 {n : Nat} {v0 : Nat} {v1 : Nat} {v2 : Int32} {v3 : Int32} {v4 : Int32} {h : hp_H} {sz sl : Nat} {res : (Int32 × hp_H × Nat × Nat) ⊕ (hp_H × Nat × Nat)} (hm : f_X7_makeFrame_54 n v0 v1 v2 v3 v4 h sz sl = some res) : sz ≤ (zz_X7_makeFrame_9 res).1 ∧ sl ≤ (zz_X7_makeFrame_9 res).2 := by
  unfold f_X7_makeFrame_54 at hm
  obtain ⟨x1, hx1, hm⟩ := hp_bd hm
  obtain ⟨x2, hx2, hm⟩ := hp_bd hm
  exact hp_tr (mx_X5_add hx2) (mo_X7_makeFrame_63 hm)
set_option maxHeartbeats 1000000 in
set_option maxRecDepth 4000 in
theorem q_X7_makeFrame_54 (G : hp_G) (n : Nat) (v0 : Nat) (v1 : Nat) (v2 : Int32) (v3 : Int32) (v4 : Int32) (h : hp_H) (sz sl : Nat) (o : hp_O) (res : (Int32 × hp_H × Nat × Nat) ⊕ (hp_H × Nat × Nat)) (hB : (zz_X7_makeFrame_9 res).1 ≤ o.2.2.1 ∧ (zz_X7_makeFrame_9 res).2 ≤ o.2.2.2) (hm : f_X7_makeFrame_54 n v0 v1 v2 v3 v4 h sz sl = some res) (kI : ∀ y : Int32 × hp_H × Nat × Nat, res = .inl y → hp_V G m_X7_makeFrame 9 [(0, .ref v0), (1, .ref v1), (2, .int v2), (3, .int y.1)] [] y.2.1 y.2.2.1 y.2.2.2 o) (kX0 : ∀ y : hp_H × Nat × Nat, res = .inr y → hp_V G m_X7_makeFrame 69 [(0, .ref v0), (1, .ref v1), (2, .int v2)] [] y.1 y.2.1 y.2.2 o) : hp_V G m_X7_makeFrame 54 [(0, .ref v0), (1, .ref v1), (2, .int v2), (3, .int v3), (4, .int v4)] [] h sz sl o := by
  have ho : sz ≤ o.2.2.1 ∧ sl ≤ o.2.2.2 := ⟨Nat.le_trans (mo_X7_makeFrame_54 hm).1 hB.1, Nat.le_trans (mo_X7_makeFrame_54 hm).2 hB.2⟩
  unfold f_X7_makeFrame_54 at hm
  refine hv_aload_n 1 dX7_makeFrame_54 rfl rfl ?_
  obtain ⟨x1, hx1, hm⟩ := hp_bd hm
  refine hv_get lk_f_X7_112 dX7_makeFrame_55 (hp_fR_spec hx1) ?_
  refine hv_iload 4 dX7_makeFrame_58 rfl ?_
  obtain ⟨x2, hx2, hm⟩ := hp_bd hm
  have hq := hp_tr (mo_X7_makeFrame_63 hm) hB
  obtain ⟨Vx2, hVx2⟩ := k_X5_add hx2
  refine hv_callV (As := [.int v4]) (rest := []) Z_X5_add I_X5_add lk_m_X7_114 rfl hVx2 (c_X5_add G n x1 v4 h sz sl _ hx2) rfl (Nat.le_of_ble_eq_true rfl) ⟨Nat.le_of_ble_eq_true rfl, Nat.le_of_ble_eq_true rfl⟩ hq.1 hq.2 rfl dX7_makeFrame_60 ?_
  refine hv_as2 [] x2.1 x2.2.1 x2.2.2 rfl rfl rfl rfl ?_
  exact hv_sub [0, 1, 2, 3] rfl (q_X7_makeFrame_63 G n v0 v1 v2 v3 x2.1 x2.2.1 x2.2.2 o _ hB hm kI kX0)
def f_X7_makeFrame_9 (n : Nat) (v0 : Nat) (v1 : Nat) (v2 : Int32) (v3 : Int32) (h : hp_H) (sz sl : Nat) : Option ((Int32 × hp_H × Nat × Nat) ⊕ (hp_H × Nat × Nat)) :=
  (hp_fI h 7 v0 9).bind fun x1 =>
  if x1 ≤ v3 then
    some (.inr (h, sz, sl))
  else
    (hp_fR h 7 v0 8).bind fun x2 =>
    (hp_aI h 0 x2 v3).bind fun x3 =>
    (hp_fR h 0 v1 6).bind fun x4 =>
    (hp_aI h 0 x4 x3).bind fun x5 =>
    if x5 = (1 : Int32) then
      f_X7_makeFrame_54 n v0 v1 v2 v3 x3 h sz sl
    else
      (hp_fR h 7 v0 7).bind fun x6 =>
      (hp_fR h 0 v1 9).bind fun x7 =>
      (f_X5_get n x7 x3 (1 : Int32) h).bind fun x8 =>
      (hp_aI h 0 x6 x8).bind fun x9 =>
      if x9 ≤ 0 then
        f_X7_makeFrame_63 n v0 v1 v2 v3 h sz sl
      else
        f_X7_makeFrame_54 n v0 v1 v2 v3 x3 h sz sl
set_option maxHeartbeats 1000000 in
set_option maxRecDepth 4000 in
theorem mo_X7_makeFrame_9 {n : Nat} {v0 : Nat} {v1 : Nat} {v2 : Int32} {v3 : Int32} {h : hp_H} {sz sl : Nat} {res : (Int32 × hp_H × Nat × Nat) ⊕ (hp_H × Nat × Nat)} (hm : f_X7_makeFrame_9 n v0 v1 v2 v3 h sz sl = some res) : sz ≤ (zz_X7_makeFrame_9 res).1 ∧ sl ≤ (zz_X7_makeFrame_9 res).2 := by
  unfold f_X7_makeFrame_9 at hm
  obtain ⟨x1, hx1, hm⟩ := hp_bd hm
  rcases Decidable.em (x1 ≤ v3) with c12 | c12
  · rw [if_pos c12] at hm
    obtain rfl := Option.some.inj hm
    exact ⟨Nat.le_refl _, Nat.le_refl _⟩
  · rw [if_neg c12] at hm
    obtain ⟨x2, hx2, hm⟩ := hp_bd hm
    obtain ⟨x3, hx3, hm⟩ := hp_bd hm
    obtain ⟨x4, hx4, hm⟩ := hp_bd hm
    obtain ⟨x5, hx5, hm⟩ := hp_bd hm
    rcases Decidable.em (x5 = (1 : Int32)) with c11 | c11
    · rw [if_pos c11] at hm
      exact mo_X7_makeFrame_54 hm
    · rw [if_neg c11] at hm
      obtain ⟨x6, hx6, hm⟩ := hp_bd hm
      obtain ⟨x7, hx7, hm⟩ := hp_bd hm
      obtain ⟨x8, hx8, hm⟩ := hp_bd hm
      obtain ⟨x9, hx9, hm⟩ := hp_bd hm
      rcases Decidable.em (x9 ≤ 0) with c10 | c10
      · rw [if_pos c10] at hm
        exact mo_X7_makeFrame_63 hm
      · rw [if_neg c10] at hm
        exact mo_X7_makeFrame_54 hm
set_option maxHeartbeats 1000000 in
set_option maxRecDepth 4000 in
theorem q_X7_makeFrame_9 (G : hp_G) (n : Nat) (v0 : Nat) (v1 : Nat) (v2 : Int32) (v3 : Int32) (h : hp_H) (sz sl : Nat) (o : hp_O) (res : (Int32 × hp_H × Nat × Nat) ⊕ (hp_H × Nat × Nat)) (hB : (zz_X7_makeFrame_9 res).1 ≤ o.2.2.1 ∧ (zz_X7_makeFrame_9 res).2 ≤ o.2.2.2) (hm : f_X7_makeFrame_9 n v0 v1 v2 v3 h sz sl = some res) (kI : ∀ y : Int32 × hp_H × Nat × Nat, res = .inl y → hp_V G m_X7_makeFrame 9 [(0, .ref v0), (1, .ref v1), (2, .int v2), (3, .int y.1)] [] y.2.1 y.2.2.1 y.2.2.2 o) (kX0 : ∀ y : hp_H × Nat × Nat, res = .inr y → hp_V G m_X7_makeFrame 69 [(0, .ref v0), (1, .ref v1), (2, .int v2)] [] y.1 y.2.1 y.2.2 o) : hp_V G m_X7_makeFrame 9 [(0, .ref v0), (1, .ref v1), (2, .int v2), (3, .int v3)] [] h sz sl o := by
  have ho : sz ≤ o.2.2.1 ∧ sl ≤ o.2.2.2 := ⟨Nat.le_trans (mo_X7_makeFrame_9 hm).1 hB.1, Nat.le_trans (mo_X7_makeFrame_9 hm).2 hB.2⟩
  unfold f_X7_makeFrame_9 at hm
  refine hv_iload_n 3 dX7_makeFrame_9 rfl rfl ?_
  refine hv_aload_n 0 dX7_makeFrame_10 rfl rfl ?_
  obtain ⟨x1, hx1, hm⟩ := hp_bd hm
  refine hv_get lk_f_X7_47 dX7_makeFrame_11 (hp_fI_spec hx1) ?_
  refine hv_icmp_ge (tgt := 69) dX7_makeFrame_14 (by decide) (fun c12 => ?_) (fun c12 => ?_)
  · rw [if_pos c12] at hm
    exact hv_sub [0, 1, 2] rfl (kX0 (h, sz, sl) (Option.some.inj hm).symm)
  · rw [if_neg c12] at hm
    refine hv_aload_n 0 dX7_makeFrame_17 rfl rfl ?_
    obtain ⟨x2, hx2, hm⟩ := hp_bd hm
    refine hv_get lk_f_X7_31 dX7_makeFrame_18 (hp_fR_spec hx2) ?_
    refine hv_iload_n 3 dX7_makeFrame_21 rfl rfl ?_
    obtain ⟨x3, hx3, hm⟩ := hp_bd hm
    refine hv_iald dX7_makeFrame_22 hx3 ?_
    refine hv_istore [(4, .int x3), (0, .ref v0), (1, .ref v1), (2, .int v2), (3, .int v3)] dX7_makeFrame_23 (by decide) rfl ?_
    refine hv_aload_n 2 dX7_makeFrame_25 rfl rfl ?_
    obtain ⟨x4, hx4, hm⟩ := hp_bd hm
    refine hv_get lk_f_X7_77 dX7_makeFrame_26 (hp_fR_spec hx4) ?_
    refine hv_iload 0 dX7_makeFrame_29 rfl ?_
    obtain ⟨x5, hx5, hm⟩ := hp_bd hm
    refine hv_iald dX7_makeFrame_31 hx5 ?_
    refine hv_iconst (1 : Int32) dX7_makeFrame_32 (by decide) ?_
    refine hv_icmp_eq (tgt := 54) dX7_makeFrame_33 (by decide) (fun c11 => ?_) (fun c11 => ?_)
    · rw [if_pos c11] at hm
      exact hv_sub [1, 2, 3, 4, 0] rfl (q_X7_makeFrame_54 G n v0 v1 v2 v3 x3 h sz sl o _ hB hm kI kX0)
    · rw [if_neg c11] at hm
      refine hv_aload_n 1 dX7_makeFrame_36 rfl rfl ?_
      obtain ⟨x6, hx6, hm⟩ := hp_bd hm
      refine hv_get lk_f_X7_28 dX7_makeFrame_37 (hp_fR_spec hx6) ?_
      refine hv_aload_n 2 dX7_makeFrame_40 rfl rfl ?_
      obtain ⟨x7, hx7, hm⟩ := hp_bd hm
      refine hv_get lk_f_X7_80 dX7_makeFrame_41 (hp_fR_spec hx7) ?_
      refine hv_iload 0 dX7_makeFrame_44 rfl ?_
      refine hv_iconst (1 : Int32) dX7_makeFrame_46 (by decide) ?_
      obtain ⟨x8, hx8, hm⟩ := hp_bd hm
      obtain ⟨Vx8, hVx8⟩ := k_X5_get hx8
      refine hv_callV (As := [.int x3, .int (1 : Int32)]) (rest := [.ref x6]) Z_X5_get I_X5_get lk_m_X7_84 rfl hVx8 (c_X5_get G n x7 x3 (1 : Int32) h sz sl _ hx8) rfl (Nat.le_of_ble_eq_true rfl) ⟨Nat.le_of_ble_eq_true rfl, Nat.le_of_ble_eq_true rfl⟩ ho.1 ho.2 rfl dX7_makeFrame_47 ?_
      refine hv_as [.int x8, .ref x6] h rfl rfl ?_
      obtain ⟨x9, hx9, hm⟩ := hp_bd hm
      refine hv_iald dX7_makeFrame_50 hx9 ?_
      refine hv_if_le (tgt := 63) dX7_makeFrame_51 (by decide) (fun c10 => ?_) (fun c10 => ?_)
      · rw [if_pos c10] at hm
        exact hv_sub [1, 2, 3, 4] rfl (q_X7_makeFrame_63 G n v0 v1 v2 v3 h sz sl o _ hB hm kI kX0)
      · rw [if_neg c10] at hm
        exact hv_sub [1, 2, 3, 4, 0] rfl (q_X7_makeFrame_54 G n v0 v1 v2 v3 x3 h sz sl o _ hB hm kI kX0)
def fL_X7_makeFrame_9 (n : Nat) (v0 : Nat) (v1 : Nat) (v2 : Int32) (s : Int32 × hp_H × Nat × Nat) : Option ((Int32 × hp_H × Nat × Nat) ⊕ (hp_H × Nat × Nat)) := f_X7_makeFrame_9 n v0 v1 v2 s.1 s.2.1 s.2.2.1 s.2.2.2
theorem ml_X7_makeFrame_9 {n : Nat} {v0 : Nat} {v1 : Nat} {v2 : Int32} : ∀ (k : Nat) (s : Int32 × hp_H × Nat × Nat) (x : hp_H × Nat × Nat), hp_lp (fL_X7_makeFrame_9 n v0 v1 v2) k s = some x → s.2.2.1 ≤ (zx_X7_makeFrame_9 x).1 ∧ s.2.2.2 ≤ (zx_X7_makeFrame_9 x).2 := by
  intro k
  induction k with
  | zero => intro s x hx; exact (hp_lp_0 hx).elim
  | succ k ih =>
    intro s x hx
    obtain ⟨r, hr, hc⟩ := hp_lp_1 hx
    have h1 := mo_X7_makeFrame_9 hr
    rcases hc with ⟨s3, e3, hx3⟩ | e3
    · subst e3
      exact hp_tr h1 (ih _ _ hx3)
    · subst e3
      exact h1
theorem l_X7_makeFrame_9 (G : hp_G) (n : Nat) (v0 : Nat) (v1 : Nat) (v2 : Int32) (o : hp_O) : ∀ (k : Nat) (s : Int32 × hp_H × Nat × Nat) (x : hp_H × Nat × Nat), hp_lp (fL_X7_makeFrame_9 n v0 v1 v2) k s = some x → ((zx_X7_makeFrame_9 x).1 ≤ o.2.2.1 ∧ (zx_X7_makeFrame_9 x).2 ≤ o.2.2.2) → (∀ y : hp_H × Nat × Nat, x = y → hp_V G m_X7_makeFrame 69 [(0, .ref v0), (1, .ref v1), (2, .int v2)] [] y.1 y.2.1 y.2.2 o) → hp_V G m_X7_makeFrame 9 [(0, .ref v0), (1, .ref v1), (2, .int v2), (3, .int s.1)] [] s.2.1 s.2.2.1 s.2.2.2 o := by
  intro k
  induction k with
  | zero => intro s x hx; exact (hp_lp_0 hx).elim
  | succ k ih =>
    intro s x hx hz k0
    obtain ⟨r, hr, hc⟩ := hp_lp_1 hx
    have hB : (zz_X7_makeFrame_9 r).1 ≤ o.2.2.1 ∧ (zz_X7_makeFrame_9 r).2 ≤ o.2.2.2 := by
      rcases hc with ⟨s3, e3, hx3⟩ | e3
      · subst e3
        exact hp_tr (ml_X7_makeFrame_9 _ _ _ hx3) hz
      · subst e3
        exact hz
    refine q_X7_makeFrame_9 G n v0 v1 v2 s.1 s.2.1 s.2.2.1 s.2.2.2 o r hB hr (fun s2 e => ?_) (fun y e => ?_)
    · rcases hc with ⟨s3, e3, hx3⟩ | e3
      · have e4 := Sum.inl.inj (e.symm.trans e3)
        subst e4
        exact ih _ _ hx3 hz k0
      · cases (e.symm.trans e3)
    · rcases hc with ⟨s3, e3, hx3⟩ | e3
      · cases (e.symm.trans e3)
      · exact k0 y (Sum.inr.inj (e3.symm.trans e))
abbrev zx_X7_makeFrame_88 : (hp_H × Nat × Nat) → Nat × Nat := (fun y => (y.2.1, y.2.2))
abbrev zz_X7_makeFrame_88 : ((Int32 × hp_H × Nat × Nat) ⊕ (hp_H × Nat × Nat)) → Nat × Nat := Sum.elim (fun y => (y.2.2.1, y.2.2.2)) zx_X7_makeFrame_88
def f_X7_makeFrame_167 (n : Nat) (v0 : Nat) (v1 : Nat) (v2 : Int32) (v3 : Int32) (v4 : Int32) (h : hp_H) (sz sl : Nat) : Option ((Int32 × hp_H × Nat × Nat) ⊕ (hp_H × Nat × Nat)) :=
  some (.inl ((v4 + (1 : Int32)), h, sz, sl))
set_option maxHeartbeats 1000000 in
set_option maxRecDepth 4000 in
theorem mo_X7_makeFrame_167 {n : Nat} {v0 : Nat} {v1 : Nat} {v2 : Int32} {v3 : Int32} {v4 : Int32} {h : hp_H} {sz sl : Nat} {res : (Int32 × hp_H × Nat × Nat) ⊕ (hp_H × Nat × Nat)} (hm : f_X7_makeFrame_167 n v0 v1 v2 v3 v4 h sz sl = some res) : sz ≤ (zz_X7_makeFrame_88 res).1 ∧ sl ≤ (zz_X7_makeFrame_88 res).2 := by
  unfold f_X7_makeFrame_167 at hm
  obtain rfl := Option.some.inj hm
  exact ⟨Nat.le_refl _, Nat.le_refl _⟩
set_option maxHeartbeats 1000000 in
set_option maxRecDepth 4000 in
theorem q_X7_makeFrame_167 (G : hp_G) (n : Nat) (v0 : Nat) (v1 : Nat) (v2 : Int32) (v3 : Int32) (v4 : Int32) (h : hp_H) (sz sl : Nat) (o : hp_O) (res : (Int32 × hp_H × Nat × Nat) ⊕ (hp_H × Nat × Nat)) (hB : (zz_X7_makeFrame_88 res).1 ≤ o.2.2.1 ∧ (zz_X7_makeFrame_88 res).2 ≤ o.2.2.2) (hm : f_X7_makeFrame_167 n v0 v1 v2 v3 v4 h sz sl = some res) (kI : ∀ y : Int32 × hp_H × Nat × Nat, res = .inl y → hp_V G m_X7_makeFrame 88 [(0, .ref v0), (1, .ref v1), (2, .int v2), (3, .int v3), (4, .int y.1)] [] y.2.1 y.2.2.1 y.2.2.2 o) (kX0 : ∀ y : hp_H × Nat × Nat, res = .inr y → hp_V G m_X7_makeFrame 173 [(0, .ref v0), (1, .ref v1), (2, .int v2)] [] y.1 y.2.1 y.2.2 o) : hp_V G m_X7_makeFrame 167 [(0, .ref v0), (1, .ref v1), (2, .int v2), (3, .int v3), (4, .int v4)] [] h sz sl o := by
  have ho : sz ≤ o.2.2.1 ∧ sl ≤ o.2.2.2 := ⟨Nat.le_trans (mo_X7_makeFrame_167 hm).1 hB.1, Nat.le_trans (mo_X7_makeFrame_167 hm).2 hB.2⟩
  unfold f_X7_makeFrame_167 at hm
  refine hv_iinc (v4 + (1 : Int32)) 4 [(4, .int (v4 + (1 : Int32))), (0, .ref v0), (1, .ref v1), (2, .int v2), (3, .int v3)] dX7_makeFrame_167 rfl rfl (by decide) rfl ?_
  refine hv_goto (tgt := 88) dX7_makeFrame_170 (by decide) ?_
  exact hv_sub [1, 2, 3, 4, 0] rfl (kI ((v4 + (1 : Int32)), h, sz, sl) (Option.some.inj hm).symm)
def f_X7_makeFrame_149 (n : Nat) (v0 : Nat) (v1 : Nat) (v2 : Int32) (v3 : Int32) (v4 : Int32) (h : hp_H) (sz sl : Nat) : Option ((Int32 × hp_H × Nat × Nat) ⊕ (hp_H × Nat × Nat)) :=
  if v3 = 0 then
    f_X7_makeFrame_167 n v0 v1 v2 v3 v4 h sz sl
  else
    (hp_fR h 0 v1 14).bind fun x1 =>
    (hp_fR h 7 v0 10).bind fun x2 =>
    (hp_aI h 0 x2 v4).bind fun x3 =>
    (f_X5_add n x1 x3 h sz sl).bind fun x4 =>
    f_X7_makeFrame_167 n v0 v1 v2 v3 v4 x4.1 x4.2.1 x4.2.2
set_option maxHeartbeats 1000000 in
set_option maxRecDepth 4000 in
theorem mo_X7_makeFrame_149 {n : Nat} {v0 : Nat} {v1 : Nat} {v2 : Int32} {v3 : Int32} {v4 : Int32} {h : hp_H} {sz sl : Nat} {res : (Int32 × hp_H × Nat × Nat) ⊕ (hp_H × Nat × Nat)} (hm : f_X7_makeFrame_149 n v0 v1 v2 v3 v4 h sz sl = some res) : sz ≤ (zz_X7_makeFrame_88 res).1 ∧ sl ≤ (zz_X7_makeFrame_88 res).2 := by
  unfold f_X7_makeFrame_149 at hm
  rcases Decidable.em (v3 = 0) with c5 | c5
  · rw [if_pos c5] at hm
    exact mo_X7_makeFrame_167 hm
  · rw [if_neg c5] at hm
    obtain ⟨x1, hx1, hm⟩ := hp_bd hm
    obtain ⟨x2, hx2, hm⟩ := hp_bd hm
    obtain ⟨x3, hx3, hm⟩ := hp_bd hm
    obtain ⟨x4, hx4, hm⟩ := hp_bd hm
    exact hp_tr (mx_X5_add hx4) (mo_X7_makeFrame_167 hm)
set_option maxHeartbeats 1000000 in
set_option maxRecDepth 4000 in
theorem q_X7_makeFrame_149 (G : hp_G) (n : Nat) (v0 : Nat) (v1 : Nat) (v2 : Int32) (v3 : Int32) (v4 : Int32) (h : hp_H) (sz sl : Nat) (o : hp_O) (res : (Int32 × hp_H × Nat × Nat) ⊕ (hp_H × Nat × Nat)) (hB : (zz_X7_makeFrame_88 res).1 ≤ o.2.2.1 ∧ (zz_X7_makeFrame_88 res).2 ≤ o.2.2.2) (hm : f_X7_makeFrame_149 n v0 v1 v2 v3 v4 h sz sl = some res) (kI : ∀ y : Int32 × hp_H × Nat × Nat, res = .inl y → hp_V G m_X7_makeFrame 88 [(0, .ref v0), (1, .ref v1), (2, .int v2), (3, .int v3), (4, .int y.1)] [] y.2.1 y.2.2.1 y.2.2.2 o) (kX0 : ∀ y : hp_H × Nat × Nat, res = .inr y → hp_V G m_X7_makeFrame 173 [(0, .ref v0), (1, .ref v1), (2, .int v2)] [] y.1 y.2.1 y.2.2 o) : hp_V G m_X7_makeFrame 149 [(0, .ref v0), (1, .ref v1), (2, .int v2), (3, .int v3), (4, .int v4)] [] h sz sl o := by
  have ho : sz ≤ o.2.2.1 ∧ sl ≤ o.2.2.2 := ⟨Nat.le_trans (mo_X7_makeFrame_149 hm).1 hB.1, Nat.le_trans (mo_X7_makeFrame_149 hm).2 hB.2⟩
  unfold f_X7_makeFrame_149 at hm
  refine hv_iload_n 3 dX7_makeFrame_149 rfl rfl ?_
  refine hv_if_eq (tgt := 167) dX7_makeFrame_150 (by decide) (fun c5 => ?_) (fun c5 => ?_)
  · rw [if_pos c5] at hm
    exact hv_sub [0, 1, 2, 3, 4] rfl (q_X7_makeFrame_167 G n v0 v1 v2 v3 v4 h sz sl o _ hB hm kI kX0)
  · rw [if_neg c5] at hm
    refine hv_aload_n 1 dX7_makeFrame_153 rfl rfl ?_
    obtain ⟨x1, hx1, hm⟩ := hp_bd hm
    refine hv_get lk_f_X7_121 dX7_makeFrame_154 (hp_fR_spec hx1) ?_
    refine hv_aload_n 0 dX7_makeFrame_157 rfl rfl ?_
    obtain ⟨x2, hx2, hm⟩ := hp_bd hm
    refine hv_get lk_f_X7_34 dX7_makeFrame_158 (hp_fR_spec hx2) ?_
    refine hv_iload 4 dX7_makeFrame_161 rfl ?_
    obtain ⟨x3, hx3, hm⟩ := hp_bd hm
    refine hv_iald dX7_makeFrame_163 hx3 ?_
    obtain ⟨x4, hx4, hm⟩ := hp_bd hm
    have hq := hp_tr (mo_X7_makeFrame_167 hm) hB
    obtain ⟨Vx4, hVx4⟩ := k_X5_add hx4
    refine hv_callV (As := [.int x3]) (rest := []) Z_X5_add I_X5_add lk_m_X7_114 rfl hVx4 (c_X5_add G n x1 x3 h sz sl _ hx4) rfl (Nat.le_of_ble_eq_true rfl) ⟨Nat.le_of_ble_eq_true rfl, Nat.le_of_ble_eq_true rfl⟩ hq.1 hq.2 rfl dX7_makeFrame_164 ?_
    refine hv_as2 [] x4.1 x4.2.1 x4.2.2 rfl rfl rfl rfl ?_
    exact hv_sub [0, 1, 2, 3, 4] rfl (q_X7_makeFrame_167 G n v0 v1 v2 v3 v4 x4.1 x4.2.1 x4.2.2 o _ hB hm kI kX0)
def f_X7_makeFrame_88 (n : Nat) (v0 : Nat) (v1 : Nat) (v2 : Int32) (v3 : Int32) (v4 : Int32) (h : hp_H) (sz sl : Nat) : Option ((Int32 × hp_H × Nat × Nat) ⊕ (hp_H × Nat × Nat)) :=
  (hp_fI h 7 v0 12).bind fun x1 =>
  if x1 ≤ v4 then
    some (.inr (h, sz, sl))
  else
    (hp_fR h 7 v0 7).bind fun x2 =>
    (hp_fR h 7 v0 10).bind fun x3 =>
    (hp_aI h 0 x3 v4).bind fun x4 =>
    (hp_aI h 0 x2 (x4 / (300 : Int32))).bind fun x5 =>
    if x5 ≤ 0 then
      f_X7_makeFrame_149 n v0 v1 v2 v3 v4 h sz sl
    else
      (hp_fR h 7 v0 7).bind fun x6 =>
      (hp_fR h 7 v0 10).bind fun x7 =>
      (hp_aI h 0 x7 v4).bind fun x8 =>
      (hp_aI h 0 x6 (x8 - x8 / (300 : Int32) * (300 : Int32))).bind fun x9 =>
      if x9 ≤ 0 then
        f_X7_makeFrame_149 n v0 v1 v2 v3 v4 h sz sl
      else
        (hp_fR h 0 v1 13).bind fun x10 =>
        (hp_fR h 7 v0 10).bind fun x11 =>
        (hp_aI h 0 x11 v4).bind fun x12 =>
        (f_X5_add n x10 x12 h sz sl).bind fun x13 =>
        f_X7_makeFrame_149 n v0 v1 v2 v3 v4 x13.1 x13.2.1 x13.2.2
set_option maxHeartbeats 1000000 in
set_option maxRecDepth 4000 in
theorem mo_X7_makeFrame_88 {n : Nat} {v0 : Nat} {v1 : Nat} {v2 : Int32} {v3 : Int32} {v4 : Int32} {h : hp_H} {sz sl : Nat} {res : (Int32 × hp_H × Nat × Nat) ⊕ (hp_H × Nat × Nat)} (hm : f_X7_makeFrame_88 n v0 v1 v2 v3 v4 h sz sl = some res) : sz ≤ (zz_X7_makeFrame_88 res).1 ∧ sl ≤ (zz_X7_makeFrame_88 res).2 := by
  unfold f_X7_makeFrame_88 at hm
  obtain ⟨x1, hx1, hm⟩ := hp_bd hm
  rcases Decidable.em (x1 ≤ v4) with c16 | c16
  · rw [if_pos c16] at hm
    obtain rfl := Option.some.inj hm
    exact ⟨Nat.le_refl _, Nat.le_refl _⟩
  · rw [if_neg c16] at hm
    obtain ⟨x2, hx2, hm⟩ := hp_bd hm
    obtain ⟨x3, hx3, hm⟩ := hp_bd hm
    obtain ⟨x4, hx4, hm⟩ := hp_bd hm
    obtain ⟨x5, hx5, hm⟩ := hp_bd hm
    rcases Decidable.em (x5 ≤ 0) with c15 | c15
    · rw [if_pos c15] at hm
      exact mo_X7_makeFrame_149 hm
    · rw [if_neg c15] at hm
      obtain ⟨x6, hx6, hm⟩ := hp_bd hm
      obtain ⟨x7, hx7, hm⟩ := hp_bd hm
      obtain ⟨x8, hx8, hm⟩ := hp_bd hm
      obtain ⟨x9, hx9, hm⟩ := hp_bd hm
      rcases Decidable.em (x9 ≤ 0) with c14 | c14
      · rw [if_pos c14] at hm
        exact mo_X7_makeFrame_149 hm
      · rw [if_neg c14] at hm
        obtain ⟨x10, hx10, hm⟩ := hp_bd hm
        obtain ⟨x11, hx11, hm⟩ := hp_bd hm
        obtain ⟨x12, hx12, hm⟩ := hp_bd hm
        obtain ⟨x13, hx13, hm⟩ := hp_bd hm
        exact hp_tr (mx_X5_add hx13) (mo_X7_makeFrame_149 hm)
set_option maxHeartbeats 1000000 in
set_option maxRecDepth 4000 in
theorem q_X7_makeFrame_88 (G : hp_G) (n : Nat) (v0 : Nat) (v1 : Nat) (v2 : Int32) (v3 : Int32) (v4 : Int32) (h : hp_H) (sz sl : Nat) (o : hp_O) (res : (Int32 × hp_H × Nat × Nat) ⊕ (hp_H × Nat × Nat)) (hB : (zz_X7_makeFrame_88 res).1 ≤ o.2.2.1 ∧ (zz_X7_makeFrame_88 res).2 ≤ o.2.2.2) (hm : f_X7_makeFrame_88 n v0 v1 v2 v3 v4 h sz sl = some res) (kI : ∀ y : Int32 × hp_H × Nat × Nat, res = .inl y → hp_V G m_X7_makeFrame 88 [(0, .ref v0), (1, .ref v1), (2, .int v2), (3, .int v3), (4, .int y.1)] [] y.2.1 y.2.2.1 y.2.2.2 o) (kX0 : ∀ y : hp_H × Nat × Nat, res = .inr y → hp_V G m_X7_makeFrame 173 [(0, .ref v0), (1, .ref v1), (2, .int v2)] [] y.1 y.2.1 y.2.2 o) : hp_V G m_X7_makeFrame 88 [(0, .ref v0), (1, .ref v1), (2, .int v2), (3, .int v3), (4, .int v4)] [] h sz sl o := by
  have ho : sz ≤ o.2.2.1 ∧ sl ≤ o.2.2.2 := ⟨Nat.le_trans (mo_X7_makeFrame_88 hm).1 hB.1, Nat.le_trans (mo_X7_makeFrame_88 hm).2 hB.2⟩
  unfold f_X7_makeFrame_88 at hm
  refine hv_iload 4 dX7_makeFrame_88 rfl ?_
  refine hv_aload_n 0 dX7_makeFrame_90 rfl rfl ?_
  obtain ⟨x1, hx1, hm⟩ := hp_bd hm
  refine hv_get lk_f_X7_50 dX7_makeFrame_91 (hp_fI_spec hx1) ?_
  refine hv_icmp_ge (tgt := 173) dX7_makeFrame_94 (by decide) (fun c16 => ?_) (fun c16 => ?_)
  · rw [if_pos c16] at hm
    exact hv_sub [0, 1, 2] rfl (kX0 (h, sz, sl) (Option.some.inj hm).symm)
  · rw [if_neg c16] at hm
    refine hv_aload_n 0 dX7_makeFrame_97 rfl rfl ?_
    obtain ⟨x2, hx2, hm⟩ := hp_bd hm
    refine hv_get lk_f_X7_28 dX7_makeFrame_98 (hp_fR_spec hx2) ?_
    refine hv_aload_n 0 dX7_makeFrame_101 rfl rfl ?_
    obtain ⟨x3, hx3, hm⟩ := hp_bd hm
    refine hv_get lk_f_X7_34 dX7_makeFrame_102 (hp_fR_spec hx3) ?_
    refine hv_iload 4 dX7_makeFrame_105 rfl ?_
    obtain ⟨x4, hx4, hm⟩ := hp_bd hm
    refine hv_iald dX7_makeFrame_107 hx4 ?_
    refine hv_sipush (300 : Int32) dX7_makeFrame_108 (by decide) ?_
    refine hv_idiv dX7_makeFrame_111 (by decide) ?_
    obtain ⟨x5, hx5, hm⟩ := hp_bd hm
    refine hv_iald dX7_makeFrame_112 hx5 ?_
    refine hv_if_le (tgt := 149) dX7_makeFrame_113 (by decide) (fun c15 => ?_) (fun c15 => ?_)
    · rw [if_pos c15] at hm
      exact hv_sub [0, 1, 2, 3, 4] rfl (q_X7_makeFrame_149 G n v0 v1 v2 v3 v4 h sz sl o _ hB hm kI kX0)
    · rw [if_neg c15] at hm
      refine hv_aload_n 0 dX7_makeFrame_116 rfl rfl ?_
      obtain ⟨x6, hx6, hm⟩ := hp_bd hm
      refine hv_get lk_f_X7_28 dX7_makeFrame_117 (hp_fR_spec hx6) ?_
      refine hv_aload_n 0 dX7_makeFrame_120 rfl rfl ?_
      obtain ⟨x7, hx7, hm⟩ := hp_bd hm
      refine hv_get lk_f_X7_34 dX7_makeFrame_121 (hp_fR_spec hx7) ?_
      refine hv_iload 4 dX7_makeFrame_124 rfl ?_
      obtain ⟨x8, hx8, hm⟩ := hp_bd hm
      refine hv_iald dX7_makeFrame_126 hx8 ?_
      refine hv_sipush (300 : Int32) dX7_makeFrame_127 (by decide) ?_
      refine hv_irem dX7_makeFrame_130 (by decide) ?_
      obtain ⟨x9, hx9, hm⟩ := hp_bd hm
      refine hv_iald dX7_makeFrame_131 hx9 ?_
      refine hv_if_le (tgt := 149) dX7_makeFrame_132 (by decide) (fun c14 => ?_) (fun c14 => ?_)
      · rw [if_pos c14] at hm
        exact hv_sub [0, 1, 2, 3, 4] rfl (q_X7_makeFrame_149 G n v0 v1 v2 v3 v4 h sz sl o _ hB hm kI kX0)
      · rw [if_neg c14] at hm
        refine hv_aload_n 1 dX7_makeFrame_135 rfl rfl ?_
        obtain ⟨x10, hx10, hm⟩ := hp_bd hm
        refine hv_get lk_f_X7_118 dX7_makeFrame_136 (hp_fR_spec hx10) ?_
        refine hv_aload_n 0 dX7_makeFrame_139 rfl rfl ?_
        obtain ⟨x11, hx11, hm⟩ := hp_bd hm
        refine hv_get lk_f_X7_34 dX7_makeFrame_140 (hp_fR_spec hx11) ?_
        refine hv_iload 4 dX7_makeFrame_143 rfl ?_
        obtain ⟨x12, hx12, hm⟩ := hp_bd hm
        refine hv_iald dX7_makeFrame_145 hx12 ?_
        obtain ⟨x13, hx13, hm⟩ := hp_bd hm
        have hq := hp_tr (mo_X7_makeFrame_149 hm) hB
        obtain ⟨Vx13, hVx13⟩ := k_X5_add hx13
        refine hv_callV (As := [.int x12]) (rest := []) Z_X5_add I_X5_add lk_m_X7_114 rfl hVx13 (c_X5_add G n x10 x12 h sz sl _ hx13) rfl (Nat.le_of_ble_eq_true rfl) ⟨Nat.le_of_ble_eq_true rfl, Nat.le_of_ble_eq_true rfl⟩ hq.1 hq.2 rfl dX7_makeFrame_146 ?_
        refine hv_as2 [] x13.1 x13.2.1 x13.2.2 rfl rfl rfl rfl ?_
        exact hv_sub [0, 1, 2, 3, 4] rfl (q_X7_makeFrame_149 G n v0 v1 v2 v3 v4 x13.1 x13.2.1 x13.2.2 o _ hB hm kI kX0)
def fL_X7_makeFrame_88 (n : Nat) (v0 : Nat) (v1 : Nat) (v2 : Int32) (v3 : Int32) (s : Int32 × hp_H × Nat × Nat) : Option ((Int32 × hp_H × Nat × Nat) ⊕ (hp_H × Nat × Nat)) := f_X7_makeFrame_88 n v0 v1 v2 v3 s.1 s.2.1 s.2.2.1 s.2.2.2
theorem ml_X7_makeFrame_88 {n : Nat} {v0 : Nat} {v1 : Nat} {v2 : Int32} {v3 : Int32} : ∀ (k : Nat) (s : Int32 × hp_H × Nat × Nat) (x : hp_H × Nat × Nat), hp_lp (fL_X7_makeFrame_88 n v0 v1 v2 v3) k s = some x → s.2.2.1 ≤ (zx_X7_makeFrame_88 x).1 ∧ s.2.2.2 ≤ (zx_X7_makeFrame_88 x).2 := by
  intro k
  induction k with
  | zero => intro s x hx; exact (hp_lp_0 hx).elim
  | succ k ih =>
    intro s x hx
    obtain ⟨r, hr, hc⟩ := hp_lp_1 hx
    have h1 := mo_X7_makeFrame_88 hr
    rcases hc with ⟨s3, e3, hx3⟩ | e3
    · subst e3
      exact hp_tr h1 (ih _ _ hx3)
    · subst e3
      exact h1
theorem l_X7_makeFrame_88 (G : hp_G) (n : Nat) (v0 : Nat) (v1 : Nat) (v2 : Int32) (v3 : Int32) (o : hp_O) : ∀ (k : Nat) (s : Int32 × hp_H × Nat × Nat) (x : hp_H × Nat × Nat), hp_lp (fL_X7_makeFrame_88 n v0 v1 v2 v3) k s = some x → ((zx_X7_makeFrame_88 x).1 ≤ o.2.2.1 ∧ (zx_X7_makeFrame_88 x).2 ≤ o.2.2.2) → (∀ y : hp_H × Nat × Nat, x = y → hp_V G m_X7_makeFrame 173 [(0, .ref v0), (1, .ref v1), (2, .int v2)] [] y.1 y.2.1 y.2.2 o) → hp_V G m_X7_makeFrame 88 [(0, .ref v0), (1, .ref v1), (2, .int v2), (3, .int v3), (4, .int s.1)] [] s.2.1 s.2.2.1 s.2.2.2 o := by
  intro k
  induction k with
  | zero => intro s x hx; exact (hp_lp_0 hx).elim
  | succ k ih =>
    intro s x hx hz k0
    obtain ⟨r, hr, hc⟩ := hp_lp_1 hx
    have hB : (zz_X7_makeFrame_88 r).1 ≤ o.2.2.1 ∧ (zz_X7_makeFrame_88 r).2 ≤ o.2.2.2 := by
      rcases hc with ⟨s3, e3, hx3⟩ | e3
      · subst e3
        exact hp_tr (ml_X7_makeFrame_88 _ _ _ hx3) hz
      · subst e3
        exact hz
    refine q_X7_makeFrame_88 G n v0 v1 v2 v3 s.1 s.2.1 s.2.2.1 s.2.2.2 o r hB hr (fun s2 e => ?_) (fun y e => ?_)
    · rcases hc with ⟨s3, e3, hx3⟩ | e3
      · have e4 := Sum.inl.inj (e.symm.trans e3)
        subst e4
        exact ih _ _ hx3 hz k0
      · cases (e.symm.trans e3)
    · rcases hc with ⟨s3, e3, hx3⟩ | e3
      · cases (e.symm.trans e3)
      · exact k0 y (Sum.inr.inj (e3.symm.trans e))
def f_X7_makeFrame_173 (n : Nat) (v0 : Nat) (v1 : Nat) (v2 : Int32) (h : hp_H) (sz sl : Nat) : Option (hp_H × Nat × Nat) :=
  (f_X7_addNeeds n v0 v1 v2 (-1 : Int32) h).bind fun x1 =>
  some (x1, sz, sl)
set_option maxHeartbeats 1000000 in
set_option maxRecDepth 4000 in
theorem mo_X7_makeFrame_173 {n : Nat} {v0 : Nat} {v1 : Nat} {v2 : Int32} {h : hp_H} {sz sl : Nat} {res : hp_H × Nat × Nat} (hm : f_X7_makeFrame_173 n v0 v1 v2 h sz sl = some res) : sz ≤ res.2.1 ∧ sl ≤ res.2.2 := by
  unfold f_X7_makeFrame_173 at hm
  obtain ⟨x1, hx1, hm⟩ := hp_bd hm
  obtain rfl := Option.some.inj hm
  exact ⟨Nat.le_refl _, Nat.le_refl _⟩
set_option maxHeartbeats 1000000 in
set_option maxRecDepth 4000 in
theorem q_X7_makeFrame_173 (G : hp_G) (n : Nat) (v0 : Nat) (v1 : Nat) (v2 : Int32) (h : hp_H) (sz sl : Nat) (res : hp_H × Nat × Nat) (hm : f_X7_makeFrame_173 n v0 v1 v2 h sz sl = some res) : hp_V G m_X7_makeFrame 173 [(0, .ref v0), (1, .ref v1), (2, .int v2)] [] h sz sl (none, res.1, res.2.1, res.2.2) := by
  have ho := mo_X7_makeFrame_173 hm
  unfold f_X7_makeFrame_173 at hm
  refine hv_aload_n 0 dX7_makeFrame_173 rfl rfl ?_
  refine hv_aload_n 1 dX7_makeFrame_174 rfl rfl ?_
  refine hv_iload_n 2 dX7_makeFrame_175 rfl rfl ?_
  refine hv_iconst (-1 : Int32) dX7_makeFrame_176 (by decide) ?_
  obtain ⟨x1, hx1, hm⟩ := hp_bd hm
  obtain ⟨Vx1, hVx1⟩ := k_X7_addNeeds hx1
  refine hv_callV (As := [.ref v1, .int v2, .int (-1 : Int32)]) (rest := []) Z_X7_addNeeds I_X7_addNeeds lk_m_X7_90 rfl hVx1 (c_X7_addNeeds G n v0 v1 v2 (-1 : Int32) h sz sl _ hx1) rfl (Nat.le_of_ble_eq_true rfl) ⟨Nat.le_of_ble_eq_true rfl, Nat.le_of_ble_eq_true rfl⟩ ho.1 ho.2 rfl dX7_makeFrame_177 ?_
  refine hv_as [] x1 rfl rfl ?_
  obtain rfl := Option.some.inj hm
  exact hv_vret rfl dX7_makeFrame_180
def f_X7_makeFrame_84 (n : Nat) (v0 : Nat) (v1 : Nat) (v2 : Int32) (s0 : Int32) (h : hp_H) (sz sl : Nat) : Option (hp_H × Nat × Nat) :=
  (hp_lp (fL_X7_makeFrame_88 n v0 v1 v2 s0) n ((0 : Int32), h, sz, sl)).bind fun x1 =>
  f_X7_makeFrame_173 n v0 v1 v2 x1.1 x1.2.1 x1.2.2
set_option maxHeartbeats 1000000 in
set_option maxRecDepth 4000 in
theorem mo_X7_makeFrame_84 {n : Nat} {v0 : Nat} {v1 : Nat} {v2 : Int32} {s0 : Int32} {h : hp_H} {sz sl : Nat} {res : hp_H × Nat × Nat} (hm : f_X7_makeFrame_84 n v0 v1 v2 s0 h sz sl = some res) : sz ≤ res.2.1 ∧ sl ≤ res.2.2 := by
  unfold f_X7_makeFrame_84 at hm
  obtain ⟨x1, hx1, hm⟩ := hp_bd hm
  have ml := ml_X7_makeFrame_88 _ _ _ hx1
  · skip
    exact hp_tr ml (mo_X7_makeFrame_173 hm)
set_option maxHeartbeats 1000000 in
set_option maxRecDepth 4000 in
theorem q_X7_makeFrame_84 (G : hp_G) (n : Nat) (v0 : Nat) (v1 : Nat) (v2 : Int32) (s0 : Int32) (h : hp_H) (sz sl : Nat) (res : hp_H × Nat × Nat) (hm : f_X7_makeFrame_84 n v0 v1 v2 s0 h sz sl = some res) : hp_V G m_X7_makeFrame 84 [(0, .ref v0), (1, .ref v1), (2, .int v2)] [.int s0] h sz sl (none, res.1, res.2.1, res.2.2) := by
  have ho := mo_X7_makeFrame_84 hm
  unfold f_X7_makeFrame_84 at hm
  refine hv_istore_n [(3, .int s0), (0, .ref v0), (1, .ref v1), (2, .int v2)] dX7_makeFrame_84 rfl (by decide) rfl ?_
  refine hv_iconst (0 : Int32) dX7_makeFrame_85 (by decide) ?_
  refine hv_istore [(4, .int (0 : Int32)), (3, .int s0), (0, .ref v0), (1, .ref v1), (2, .int v2)] dX7_makeFrame_86 (by decide) rfl ?_
  obtain ⟨x1, hx1, hm⟩ := hp_bd hm
  · skip
    have hz : (zx_X7_makeFrame_88 x1).1 ≤ _ ∧ (zx_X7_makeFrame_88 x1).2 ≤ _ := mo_X7_makeFrame_173 hm
    refine hv_sub [2, 3, 4, 1, 0] rfl (l_X7_makeFrame_88 G n v0 v1 v2 s0  _  n _ _ hx1 hz (fun wy2 ey2 => ?_))
    · cases ey2
      exact hv_sub [0, 1, 2] rfl (q_X7_makeFrame_173 G n v0 v1 v2 x1.1 x1.2.1 x1.2.2 _ hm)
def f_X7_makeFrame_69 (n : Nat) (v0 : Nat) (v1 : Nat) (v2 : Int32) (h : hp_H) (sz sl : Nat) : Option (hp_H × Nat × Nat) :=
  (hp_fR h 0 v1 6).bind fun x1 =>
  (hp_aI h 0 x1 v2).bind fun x2 =>
  if x2 = (3 : Int32) then
    f_X7_makeFrame_84 n v0 v1 v2 (1 : Int32) h sz sl
  else
    f_X7_makeFrame_84 n v0 v1 v2 (0 : Int32) h sz sl
set_option maxHeartbeats 1000000 in
set_option maxRecDepth 4000 in
theorem mo_X7_makeFrame_69 {n : Nat} {v0 : Nat} {v1 : Nat} {v2 : Int32} {h : hp_H} {sz sl : Nat} {res : hp_H × Nat × Nat} (hm : f_X7_makeFrame_69 n v0 v1 v2 h sz sl = some res) : sz ≤ res.2.1 ∧ sl ≤ res.2.2 := by
  unfold f_X7_makeFrame_69 at hm
  obtain ⟨x1, hx1, hm⟩ := hp_bd hm
  obtain ⟨x2, hx2, hm⟩ := hp_bd hm
  rcases (Decidable.em (x2 = (3 : Int32))).symm with c3 | c3
  · rw [if_neg c3] at hm
    exact mo_X7_makeFrame_84 hm
  · rw [if_pos c3] at hm
    exact mo_X7_makeFrame_84 hm
set_option maxHeartbeats 1000000 in
set_option maxRecDepth 4000 in
theorem q_X7_makeFrame_69 (G : hp_G) (n : Nat) (v0 : Nat) (v1 : Nat) (v2 : Int32) (h : hp_H) (sz sl : Nat) (res : hp_H × Nat × Nat) (hm : f_X7_makeFrame_69 n v0 v1 v2 h sz sl = some res) : hp_V G m_X7_makeFrame 69 [(0, .ref v0), (1, .ref v1), (2, .int v2)] [] h sz sl (none, res.1, res.2.1, res.2.2) := by
  have ho := mo_X7_makeFrame_69 hm
  unfold f_X7_makeFrame_69 at hm
  refine hv_aload_n 1 dX7_makeFrame_69 rfl rfl ?_
  obtain ⟨x1, hx1, hm⟩ := hp_bd hm
  refine hv_get lk_f_X7_77 dX7_makeFrame_70 (hp_fR_spec hx1) ?_
  refine hv_iload_n 2 dX7_makeFrame_73 rfl rfl ?_
  obtain ⟨x2, hx2, hm⟩ := hp_bd hm
  refine hv_iald dX7_makeFrame_74 hx2 ?_
  refine hv_iconst (3 : Int32) dX7_makeFrame_75 (by decide) ?_
  refine hv_icmp_ne (tgt := 83) dX7_makeFrame_76 (by decide) (fun c3 => ?_) (fun c3 => ?_)
  · rw [if_neg c3] at hm
    refine hv_iconst (0 : Int32) dX7_makeFrame_83 (by decide) ?_
    exact hv_sub [0, 1, 2] rfl (q_X7_makeFrame_84 G n v0 v1 v2 (0 : Int32) h sz sl _ hm)
  · rw [if_pos c3] at hm
    refine hv_iconst (1 : Int32) dX7_makeFrame_79 (by decide) ?_
    refine hv_goto (tgt := 84) dX7_makeFrame_80 (by decide) ?_
    exact hv_sub [0, 1, 2] rfl (q_X7_makeFrame_84 G n v0 v1 v2 (1 : Int32) h sz sl _ hm)
def f_X7_makeFrame_0 (n : Nat) (v0 : Nat) (v1 : Nat) (v2 : Int32) (h : hp_H) (sz sl : Nat) : Option (hp_H × Nat × Nat) :=
  (f_X7_addNeeds n v0 v1 v2 (1 : Int32) h).bind fun x1 =>
  (hp_lp (fL_X7_makeFrame_9 n v0 v1 v2) n ((0 : Int32), x1, sz, sl)).bind fun x2 =>
  f_X7_makeFrame_69 n v0 v1 v2 x2.1 x2.2.1 x2.2.2
set_option maxHeartbeats 1000000 in
set_option maxRecDepth 4000 in
theorem mo_X7_makeFrame_0 {n : Nat} {v0 : Nat} {v1 : Nat} {v2 : Int32} {h : hp_H} {sz sl : Nat} {res : hp_H × Nat × Nat} (hm : f_X7_makeFrame_0 n v0 v1 v2 h sz sl = some res) : sz ≤ res.2.1 ∧ sl ≤ res.2.2 := by
  unfold f_X7_makeFrame_0 at hm
  obtain ⟨x1, hx1, hm⟩ := hp_bd hm
  obtain ⟨x2, hx2, hm⟩ := hp_bd hm
  have ml := ml_X7_makeFrame_9 _ _ _ hx2
  · skip
    exact hp_tr ml (mo_X7_makeFrame_69 hm)
set_option maxHeartbeats 1000000 in
set_option maxRecDepth 4000 in
theorem q_X7_makeFrame_0 (G : hp_G) (n : Nat) (v0 : Nat) (v1 : Nat) (v2 : Int32) (h : hp_H) (sz sl : Nat) (res : hp_H × Nat × Nat) (hm : f_X7_makeFrame_0 n v0 v1 v2 h sz sl = some res) : hp_V G m_X7_makeFrame 0 [(0, .ref v0), (1, .ref v1), (2, .int v2)] [] h sz sl (none, res.1, res.2.1, res.2.2) := by
  have ho := mo_X7_makeFrame_0 hm
  unfold f_X7_makeFrame_0 at hm
  refine hv_aload_n 0 dX7_makeFrame_0 rfl rfl ?_
  refine hv_aload_n 1 dX7_makeFrame_1 rfl rfl ?_
  refine hv_iload_n 2 dX7_makeFrame_2 rfl rfl ?_
  refine hv_iconst (1 : Int32) dX7_makeFrame_3 (by decide) ?_
  obtain ⟨x1, hx1, hm⟩ := hp_bd hm
  obtain ⟨Vx1, hVx1⟩ := k_X7_addNeeds hx1
  refine hv_callV (As := [.ref v1, .int v2, .int (1 : Int32)]) (rest := []) Z_X7_addNeeds I_X7_addNeeds lk_m_X7_90 rfl hVx1 (c_X7_addNeeds G n v0 v1 v2 (1 : Int32) h sz sl _ hx1) rfl (Nat.le_of_ble_eq_true rfl) ⟨Nat.le_of_ble_eq_true rfl, Nat.le_of_ble_eq_true rfl⟩ ho.1 ho.2 rfl dX7_makeFrame_4 ?_
  refine hv_as [] x1 rfl rfl ?_
  refine hv_iconst (0 : Int32) dX7_makeFrame_7 (by decide) ?_
  refine hv_istore_n [(3, .int (0 : Int32)), (0, .ref v0), (1, .ref v1), (2, .int v2)] dX7_makeFrame_8 rfl (by decide) rfl ?_
  obtain ⟨x2, hx2, hm⟩ := hp_bd hm
  · skip
    have hz : (zx_X7_makeFrame_9 x2).1 ≤ _ ∧ (zx_X7_makeFrame_9 x2).2 ≤ _ := mo_X7_makeFrame_69 hm
    refine hv_sub [1, 2, 3, 0] rfl (l_X7_makeFrame_9 G n v0 v1 v2  _  n _ _ hx2 hz (fun wy3 ey3 => ?_))
    · cases ey3
      exact hv_sub [0, 1, 2] rfl (q_X7_makeFrame_69 G n v0 v1 v2 x2.1 x2.2.1 x2.2.2 _ hm)
def f_X7_makeFrame (n : Nat) (v0 : Nat) (v1 : Nat) (v2 : Int32) (h : hp_H) (sz sl : Nat) : Option (hp_H × Nat × Nat) := (hp_ck h 7 v0).bind fun _ => f_X7_makeFrame_0 n v0 v1 v2 h sz sl
theorem c_X7_makeFrame (G : hp_G) (n : Nat) (v0 : Nat) (v1 : Nat) (v2 : Int32) (h : hp_H) (sz sl : Nat) (res : hp_H × Nat × Nat) (hm : f_X7_makeFrame n v0 v1 v2 h sz sl = some res) : hp_C G m_X7_makeFrame yX7_makeFrame [.ref v0, .ref v1, .int v2] h sz sl (none, res.1, res.2.1, res.2.2) := by
  unfold f_X7_makeFrame at hm
  obtain ⟨_, _, hm⟩ := hp_bd hm
  exact hp_C_of (by decide) rfl rfl (Nat.le_of_ble_eq_true rfl) (mo_X7_makeFrame_0 hm).1 (mo_X7_makeFrame_0 hm).2 (hv_sub [0, 1, 2] rfl (q_X7_makeFrame_0 G n v0 v1 v2 h sz sl res hm))
theorem k_X7_makeFrame {n : Nat} {v0 : Nat} {v1 : Nat} {v2 : Int32} {h : hp_H} {sz sl : Nat} {res : hp_H × Nat × Nat} (hm : f_X7_makeFrame n v0 v1 v2 h sz sl = some res) : ∃ V, h v0 = some (.inr (.inr (7, V))) := by
  unfold f_X7_makeFrame at hm
  obtain ⟨_, hu, _⟩ := hp_bd hm
  exact hp_ck_spec hu
theorem mx_X7_makeFrame {n : Nat} {v0 : Nat} {v1 : Nat} {v2 : Int32} {h : hp_H} {sz sl : Nat} {res : hp_H × Nat × Nat} (hm : f_X7_makeFrame n v0 v1 v2 h sz sl = some res) : sz ≤ res.2.1 ∧ sl ≤ res.2.2 := by
  unfold f_X7_makeFrame at hm
  obtain ⟨_, _, hm⟩ := hp_bd hm
  exact mo_X7_makeFrame_0 hm
abbrev m_X7_addHypothesis : hp_M := (RX7, cX7_addHypothesis, 3, none, 2, 47, "addHypothesis")
theorem Z_X7_addHypothesis : hp_Y yX7_addHypothesis m_X7_addHypothesis 2 := Y_X7_addHypothesis
def f_X7_addHypothesis_0 (n : Nat) (v0 : Nat) (v1 : Nat) (v2 : Int32) (h : hp_H) : Option (hp_H) :=
  (hp_fR h 0 v1 8).bind fun x1 =>
  (hp_sI h 0 x1 v2 (200 : Int32)).bind fun h2 =>
  (hp_fR h2 7 v0 8).bind fun x3 =>
  (hp_fI h2 7 v0 9).bind fun x4 =>
  (hp_sI h2 0 x3 x4 v2).bind fun h5 =>
  (hp_fI h5 7 v0 9).bind fun x6 =>
  (hp_pF h5 7 v0 9 (.int (x6 + (1 : Int32)))).bind fun h7 =>
  (hp_fR h7 0 v1 6).bind fun x8 =>
  (hp_aI h7 0 x8 v2).bind fun x9 =>
  if x9 = 0 then
    (hp_fR h7 7 v0 6).bind fun x11 =>
    (hp_fR h7 0 v1 9).bind fun x12 =>
    (f_X5_get n x12 v2 (1 : Int32) h7).bind fun x13 =>
    (hp_sI h7 1 x11 x13 (1 : Int32)).bind fun h14 =>
    some h14
  else
    (f_X7_addNeeds n v0 v1 v2 (1 : Int32) h7).bind fun x10 =>
    some x10
set_option maxHeartbeats 1000000 in
set_option maxRecDepth 4000 in
theorem q_X7_addHypothesis_0 (G : hp_G) (n : Nat) (v0 : Nat) (v1 : Nat) (v2 : Int32) (h : hp_H) (sz sl : Nat) (res : hp_H) (hm : f_X7_addHypothesis_0 n v0 v1 v2 h = some res) : hp_V G m_X7_addHypothesis 0 [(0, .ref v0), (1, .ref v1), (2, .int v2)] [] h sz sl (none, res, sz, sl) := by
  have ho : sz ≤ sz ∧ sl ≤ sl := ⟨Nat.le_refl _, Nat.le_refl _⟩
  unfold f_X7_addHypothesis_0 at hm
  refine hv_aload_n 1 dX7_addHypothesis_0 rfl rfl ?_
  obtain ⟨x1, hx1, hm⟩ := hp_bd hm
  refine hv_get lk_f_X7_69 dX7_addHypothesis_1 (hp_fR_spec hx1) ?_
  refine hv_iload_n 2 dX7_addHypothesis_4 rfl rfl ?_
  refine hv_sipush (200 : Int32) dX7_addHypothesis_5 (by decide) ?_
  obtain ⟨h2, hh2, hm⟩ := hp_bd hm
  refine hv_iast dX7_addHypothesis_8 hh2 ?_
  refine hv_aload_n 0 dX7_addHypothesis_9 rfl rfl ?_
  obtain ⟨x3, hx3, hm⟩ := hp_bd hm
  refine hv_get lk_f_X7_31 dX7_addHypothesis_10 (hp_fR_spec hx3) ?_
  refine hv_aload_n 0 dX7_addHypothesis_13 rfl rfl ?_
  obtain ⟨x4, hx4, hm⟩ := hp_bd hm
  refine hv_get lk_f_X7_47 dX7_addHypothesis_14 (hp_fI_spec hx4) ?_
  refine hv_iload_n 2 dX7_addHypothesis_17 rfl rfl ?_
  obtain ⟨h5, hh5, hm⟩ := hp_bd hm
  refine hv_iast dX7_addHypothesis_18 hh5 ?_
  refine hv_aload_n 0 dX7_addHypothesis_19 rfl rfl ?_
  refine hv_dup dX7_addHypothesis_20 rfl ?_
  obtain ⟨x6, hx6, hm⟩ := hp_bd hm
  refine hv_get lk_f_X7_47 dX7_addHypothesis_21 (hp_fI_spec hx6) ?_
  refine hv_iconst (1 : Int32) dX7_addHypothesis_24 (by decide) ?_
  refine hv_iadd dX7_addHypothesis_25 ?_
  obtain ⟨h7, hh7, hm⟩ := hp_bd hm
  refine hv_put lk_f_X7_47 dX7_addHypothesis_26 rfl rfl hh7 ?_
  refine hv_aload_n 1 dX7_addHypothesis_29 rfl rfl ?_
  obtain ⟨x8, hx8, hm⟩ := hp_bd hm
  refine hv_get lk_f_X7_77 dX7_addHypothesis_30 (hp_fR_spec hx8) ?_
  refine hv_iload_n 2 dX7_addHypothesis_33 rfl rfl ?_
  obtain ⟨x9, hx9, hm⟩ := hp_bd hm
  refine hv_iald dX7_addHypothesis_34 hx9 ?_
  refine hv_if_ne (tgt := 56) dX7_addHypothesis_35 (by decide) (fun c15 => ?_) (fun c15 => ?_)
  · rw [if_neg c15] at hm
    refine hv_aload_n 0 dX7_addHypothesis_56 rfl rfl ?_
    refine hv_aload_n 1 dX7_addHypothesis_57 rfl rfl ?_
    refine hv_iload_n 2 dX7_addHypothesis_58 rfl rfl ?_
    refine hv_iconst (1 : Int32) dX7_addHypothesis_59 (by decide) ?_
    obtain ⟨x10, hx10, hm⟩ := hp_bd hm
    obtain ⟨Vx10, hVx10⟩ := k_X7_addNeeds hx10
    refine hv_callV (As := [.ref v1, .int v2, .int (1 : Int32)]) (rest := []) Z_X7_addNeeds I_X7_addNeeds lk_m_X7_90 rfl hVx10 (c_X7_addNeeds G n v0 v1 v2 (1 : Int32) h7 sz sl _ hx10) rfl (Nat.le_of_ble_eq_true rfl) ⟨Nat.le_of_ble_eq_true rfl, Nat.le_of_ble_eq_true rfl⟩ ho.1 ho.2 rfl dX7_addHypothesis_60 ?_
    refine hv_as [] x10 rfl rfl ?_
    obtain rfl := Option.some.inj hm
    exact hv_vret rfl dX7_addHypothesis_63
  · rw [if_pos c15] at hm
    refine hv_aload_n 0 dX7_addHypothesis_38 rfl rfl ?_
    obtain ⟨x11, hx11, hm⟩ := hp_bd hm
    refine hv_get lk_f_X7_25 dX7_addHypothesis_39 (hp_fR_spec hx11) ?_
    refine hv_aload_n 1 dX7_addHypothesis_42 rfl rfl ?_
    obtain ⟨x12, hx12, hm⟩ := hp_bd hm
    refine hv_get lk_f_X7_80 dX7_addHypothesis_43 (hp_fR_spec hx12) ?_
    refine hv_iload_n 2 dX7_addHypothesis_46 rfl rfl ?_
    refine hv_iconst (1 : Int32) dX7_addHypothesis_47 (by decide) ?_
    obtain ⟨x13, hx13, hm⟩ := hp_bd hm
    obtain ⟨Vx13, hVx13⟩ := k_X5_get hx13
    refine hv_callV (As := [.int v2, .int (1 : Int32)]) (rest := [.ref x11]) Z_X5_get I_X5_get lk_m_X7_84 rfl hVx13 (c_X5_get G n x12 v2 (1 : Int32) h7 sz sl _ hx13) rfl (Nat.le_of_ble_eq_true rfl) ⟨Nat.le_of_ble_eq_true rfl, Nat.le_of_ble_eq_true rfl⟩ ho.1 ho.2 rfl dX7_addHypothesis_48 ?_
    refine hv_as [.int x13, .ref x11] h7 rfl rfl ?_
    refine hv_iconst (1 : Int32) dX7_addHypothesis_51 (by decide) ?_
    obtain ⟨h14, hh14, hm⟩ := hp_bd hm
    refine hv_bast dX7_addHypothesis_52 hh14 ?_
    refine hv_goto (tgt := 63) dX7_addHypothesis_53 (by decide) ?_
    obtain rfl := Option.some.inj hm
    exact hv_vret rfl dX7_addHypothesis_63
def f_X7_addHypothesis (n : Nat) (v0 : Nat) (v1 : Nat) (v2 : Int32) (h : hp_H) : Option (hp_H) := (hp_ck h 7 v0).bind fun _ => f_X7_addHypothesis_0 n v0 v1 v2 h
theorem c_X7_addHypothesis (G : hp_G) (n : Nat) (v0 : Nat) (v1 : Nat) (v2 : Int32) (h : hp_H) (sz sl : Nat) (res : hp_H) (hm : f_X7_addHypothesis n v0 v1 v2 h = some res) : hp_C G m_X7_addHypothesis yX7_addHypothesis [.ref v0, .ref v1, .int v2] h sz sl (none, res, sz, sl) := by
  unfold f_X7_addHypothesis at hm
  obtain ⟨_, _, hm⟩ := hp_bd hm
  exact hp_C_of (by decide) rfl rfl (Nat.le_of_ble_eq_true rfl) (Nat.le_refl _) (Nat.le_refl _) (hv_sub [0, 1, 2] rfl (q_X7_addHypothesis_0 G n v0 v1 v2 h sz sl res hm))
theorem k_X7_addHypothesis {n : Nat} {v0 : Nat} {v1 : Nat} {v2 : Int32} {h : hp_H} {res : hp_H} (hm : f_X7_addHypothesis n v0 v1 v2 h = some res) : ∃ V, h v0 = some (.inr (.inr (7, V))) := by
  unfold f_X7_addHypothesis at hm
  obtain ⟨_, hu, _⟩ := hp_bd hm
  exact hp_ck_spec hu
