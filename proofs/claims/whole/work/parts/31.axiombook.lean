abbrev m_X10_init : hp_M := (RX10, cX10_init, 1, none, 3, 73, "<init>")
theorem Z_X10_init : hp_Y yX10_init m_X10_init 0 := Y_X10_init
def f_X10_init_124 (n : Nat)  (s0 : Nat) (s1 : Nat) (h : hp_H) (sz sl : Nat) : Option (hp_H × Nat × Nat) :=
  (hp_pF h 10 s1 8 (.ref s0)).bind fun h1 =>
  some (h1, sz, sl)
set_option maxHeartbeats 1000000 in
set_option maxRecDepth 4000 in
theorem mo_X10_init_124 {n : Nat}  {s0 : Nat} {s1 : Nat} {h : hp_H} {sz sl : Nat} {res : hp_H × Nat × Nat} (hm : f_X10_init_124 n s0 s1 h sz sl = some res) : sz ≤ res.2.1 ∧ sl ≤ res.2.2 := by
  unfold f_X10_init_124 at hm
  obtain ⟨h1, hh1, hm⟩ := hp_bd hm
  obtain rfl := Option.some.inj hm
  exact ⟨Nat.le_refl _, Nat.le_refl _⟩
set_option maxHeartbeats 1000000 in
set_option maxRecDepth 4000 in
theorem q_X10_init_124 (G : hp_G) (n : Nat)  (s0 : Nat) (s1 : Nat) (h : hp_H) (sz sl : Nat) (res : hp_H × Nat × Nat) (hm : f_X10_init_124 n s0 s1 h sz sl = some res) : hp_V G m_X10_init 124 [] [.ref s0, .ref s1] h sz sl (none, res.1, res.2.1, res.2.2) := by
  have ho := mo_X10_init_124 hm
  unfold f_X10_init_124 at hm
  obtain ⟨h1, hh1, hm⟩ := hp_bd hm
  refine hv_put lk_f_X10_61 dX10_init_124 rfl rfl hh1 ?_
  obtain rfl := Option.some.inj hm
  exact hv_vret rfl dX10_init_127
def f_X10_init_120 (n : Nat)  (s0 : Nat) (s1 : Nat) (h : hp_H) (sz sl : Nat) : Option (hp_H × Nat × Nat) :=
  (f_X8_init n s0 h sz sl).bind fun x1 =>
  f_X10_init_124 n s0 s1 x1.1 x1.2.1 x1.2.2
set_option maxHeartbeats 1000000 in
set_option maxRecDepth 4000 in
theorem mo_X10_init_120 {n : Nat}  {s0 : Nat} {s1 : Nat} {h : hp_H} {sz sl : Nat} {res : hp_H × Nat × Nat} (hm : f_X10_init_120 n s0 s1 h sz sl = some res) : sz ≤ res.2.1 ∧ sl ≤ res.2.2 := by
  unfold f_X10_init_120 at hm
  obtain ⟨x1, hx1, hm⟩ := hp_bd hm
  exact hp_tr (mx_X8_init hx1) (mo_X10_init_124 hm)
set_option maxHeartbeats 1000000 in
set_option maxRecDepth 4000 in
theorem q_X10_init_120 (G : hp_G) (n : Nat)  (s0 : Nat) (s1 : Nat) (h : hp_H) (sz sl : Nat) (res : hp_H × Nat × Nat) (hm : f_X10_init_120 n s0 s1 h sz sl = some res) : hp_V G m_X10_init 120 [] [.ref s0, .ref s1] h sz sl (none, res.1, res.2.1, res.2.2) := by
  have ho := mo_X10_init_120 hm
  unfold f_X10_init_120 at hm
  refine hv_dup dX10_init_120 rfl ?_
  obtain ⟨x1, hx1, hm⟩ := hp_bd hm
  have hq := mo_X10_init_124 hm
  refine hv_callIN (As := []) (rest := [.ref s0, .ref s1]) Z_X8_init rfl I_X8_init lk_m_X10_56 (c_X8_init G n s0 h sz sl _ hx1) rfl (Nat.le_of_ble_eq_true rfl) ⟨Nat.le_of_ble_eq_true rfl, Nat.le_of_ble_eq_true rfl⟩ hq.1 hq.2 rfl dX10_init_121 ?_
  refine hv_as2 [.ref s0, .ref s1] x1.1 x1.2.1 x1.2.2 rfl rfl rfl rfl ?_
  exact hv_sub [] rfl (q_X10_init_124 G n s0 s1 x1.1 x1.2.1 x1.2.2 _ hm)
def f_X10_init_113 (n : Nat) (v0 : Nat) (s0 : Nat) (s1 : Nat) (h : hp_H) (sz sl : Nat) : Option (hp_H × Nat × Nat) :=
  (hp_pF h 10 s1 7 (.ref s0)).bind fun h1 =>
  f_X10_init_120 n sz v0 (hp_nw h1 sz 8 tyX8) (sz + 1) (sl + 3)
set_option maxHeartbeats 1000000 in
set_option maxRecDepth 4000 in
theorem mo_X10_init_113 {n : Nat} {v0 : Nat} {s0 : Nat} {s1 : Nat} {h : hp_H} {sz sl : Nat} {res : hp_H × Nat × Nat} (hm : f_X10_init_113 n v0 s0 s1 h sz sl = some res) : sz ≤ res.2.1 ∧ sl ≤ res.2.2 := by
  unfold f_X10_init_113 at hm
  obtain ⟨h1, hh1, hm⟩ := hp_bd hm
  exact hp_tr ⟨Nat.le_add_right _ _, Nat.le_add_right _ _⟩ (mo_X10_init_120 hm)
set_option maxHeartbeats 1000000 in
set_option maxRecDepth 4000 in
theorem q_X10_init_113 (G : hp_G) (n : Nat) (v0 : Nat) (s0 : Nat) (s1 : Nat) (h : hp_H) (sz sl : Nat) (res : hp_H × Nat × Nat) (hm : f_X10_init_113 n v0 s0 s1 h sz sl = some res) : hp_V G m_X10_init 113 [(0, .ref v0)] [.ref s0, .ref s1] h sz sl (none, res.1, res.2.1, res.2.2) := by
  have ho := mo_X10_init_113 hm
  unfold f_X10_init_113 at hm
  obtain ⟨h1, hh1, hm⟩ := hp_bd hm
  refine hv_put lk_f_X10_57 dX10_init_113 rfl rfl hh1 ?_
  refine hv_aload_n 0 dX10_init_116 rfl rfl ?_
  have hq := mo_X10_init_120 hm
  refine hv_new CL8 lk_k_X10_54 dX10_init_117 hq.1 hq.2 ?_
  exact hv_sub [] rfl (q_X10_init_120 G n sz v0 (hp_nw h1 sz 8 tyX8) (sz + 1) (sl + 3) _ hm)
def f_X10_init_109 (n : Nat) (v0 : Nat) (s0 : Nat) (s1 : Nat) (h : hp_H) (sz sl : Nat) : Option (hp_H × Nat × Nat) :=
  (f_X8_init n s0 h sz sl).bind fun x1 =>
  f_X10_init_113 n v0 s0 s1 x1.1 x1.2.1 x1.2.2
set_option maxHeartbeats 1000000 in
set_option maxRecDepth 4000 in
theorem mo_X10_init_109 {n : Nat} {v0 : Nat} {s0 : Nat} {s1 : Nat} {h : hp_H} {sz sl : Nat} {res : hp_H × Nat × Nat} (hm : f_X10_init_109 n v0 s0 s1 h sz sl = some res) : sz ≤ res.2.1 ∧ sl ≤ res.2.2 := by
  unfold f_X10_init_109 at hm
  obtain ⟨x1, hx1, hm⟩ := hp_bd hm
  exact hp_tr (mx_X8_init hx1) (mo_X10_init_113 hm)
set_option maxHeartbeats 1000000 in
set_option maxRecDepth 4000 in
theorem q_X10_init_109 (G : hp_G) (n : Nat) (v0 : Nat) (s0 : Nat) (s1 : Nat) (h : hp_H) (sz sl : Nat) (res : hp_H × Nat × Nat) (hm : f_X10_init_109 n v0 s0 s1 h sz sl = some res) : hp_V G m_X10_init 109 [(0, .ref v0)] [.ref s0, .ref s1] h sz sl (none, res.1, res.2.1, res.2.2) := by
  have ho := mo_X10_init_109 hm
  unfold f_X10_init_109 at hm
  refine hv_dup dX10_init_109 rfl ?_
  obtain ⟨x1, hx1, hm⟩ := hp_bd hm
  have hq := mo_X10_init_113 hm
  refine hv_callIN (As := []) (rest := [.ref s0, .ref s1]) Z_X8_init rfl I_X8_init lk_m_X10_56 (c_X8_init G n s0 h sz sl _ hx1) rfl (Nat.le_of_ble_eq_true rfl) ⟨Nat.le_of_ble_eq_true rfl, Nat.le_of_ble_eq_true rfl⟩ hq.1 hq.2 rfl dX10_init_110 ?_
  refine hv_as2 [.ref s0, .ref s1] x1.1 x1.2.1 x1.2.2 rfl rfl rfl rfl ?_
  exact hv_sub [0] rfl (q_X10_init_113 G n v0 s0 s1 x1.1 x1.2.1 x1.2.2 _ hm)
def f_X10_init_102 (n : Nat) (v0 : Nat) (s0 : Nat) (s1 : Nat) (h : hp_H) (sz sl : Nat) : Option (hp_H × Nat × Nat) :=
  (hp_pF h 10 s1 6 (.ref s0)).bind fun h1 =>
  f_X10_init_109 n v0 sz v0 (hp_nw h1 sz 8 tyX8) (sz + 1) (sl + 3)
set_option maxHeartbeats 1000000 in
set_option maxRecDepth 4000 in
theorem mo_X10_init_102 {n : Nat} {v0 : Nat} {s0 : Nat} {s1 : Nat} {h : hp_H} {sz sl : Nat} {res : hp_H × Nat × Nat} (hm : f_X10_init_102 n v0 s0 s1 h sz sl = some res) : sz ≤ res.2.1 ∧ sl ≤ res.2.2 := by
  unfold f_X10_init_102 at hm
  obtain ⟨h1, hh1, hm⟩ := hp_bd hm
  exact hp_tr ⟨Nat.le_add_right _ _, Nat.le_add_right _ _⟩ (mo_X10_init_109 hm)
set_option maxHeartbeats 1000000 in
set_option maxRecDepth 4000 in
theorem q_X10_init_102 (G : hp_G) (n : Nat) (v0 : Nat) (s0 : Nat) (s1 : Nat) (h : hp_H) (sz sl : Nat) (res : hp_H × Nat × Nat) (hm : f_X10_init_102 n v0 s0 s1 h sz sl = some res) : hp_V G m_X10_init 102 [(0, .ref v0)] [.ref s0, .ref s1] h sz sl (none, res.1, res.2.1, res.2.2) := by
  have ho := mo_X10_init_102 hm
  unfold f_X10_init_102 at hm
  obtain ⟨h1, hh1, hm⟩ := hp_bd hm
  refine hv_putF lk_f_X10_50 (by intro C T N e; cases e; rfl) rfl dX10_init_102 rfl rfl hh1 ?_
  refine hv_aload_n 0 dX10_init_105 rfl rfl ?_
  have hq := mo_X10_init_109 hm
  refine hv_new CL8 lk_k_X10_54 dX10_init_106 hq.1 hq.2 ?_
  exact hv_sub [0] rfl (q_X10_init_109 G n v0 sz v0 (hp_nw h1 sz 8 tyX8) (sz + 1) (sl + 3) _ hm)
def f_X10_init_90 (n : Nat) (v0 : Nat) (s0 : Nat) (s1 : Nat) (h : hp_H) (sz sl : Nat) : Option (hp_H × Nat × Nat) :=
  (hp_fR h 10 v0 0).bind fun x1 =>
  (hp_fR h 10 v0 3).bind fun x2 =>
  (f_X9_init n s0 x1 x2 h sz sl).bind fun x3 =>
  f_X10_init_102 n v0 s0 s1 x3.1 x3.2.1 x3.2.2
set_option maxHeartbeats 1000000 in
set_option maxRecDepth 4000 in
theorem mo_X10_init_90 {n : Nat} {v0 : Nat} {s0 : Nat} {s1 : Nat} {h : hp_H} {sz sl : Nat} {res : hp_H × Nat × Nat} (hm : f_X10_init_90 n v0 s0 s1 h sz sl = some res) : sz ≤ res.2.1 ∧ sl ≤ res.2.2 := by
  unfold f_X10_init_90 at hm
  obtain ⟨x1, hx1, hm⟩ := hp_bd hm
  obtain ⟨x2, hx2, hm⟩ := hp_bd hm
  obtain ⟨x3, hx3, hm⟩ := hp_bd hm
  exact hp_tr (mx_X9_init hx3) (mo_X10_init_102 hm)
set_option maxHeartbeats 1000000 in
set_option maxRecDepth 4000 in
theorem q_X10_init_90 (G : hp_G) (n : Nat) (v0 : Nat) (s0 : Nat) (s1 : Nat) (h : hp_H) (sz sl : Nat) (res : hp_H × Nat × Nat) (hm : f_X10_init_90 n v0 s0 s1 h sz sl = some res) : hp_V G m_X10_init 90 [(0, .ref v0)] [.ref s0, .ref s1] h sz sl (none, res.1, res.2.1, res.2.2) := by
  have ho := mo_X10_init_90 hm
  unfold f_X10_init_90 at hm
  refine hv_dup dX10_init_90 rfl ?_
  refine hv_aload_n 0 dX10_init_91 rfl rfl ?_
  obtain ⟨x1, hx1, hm⟩ := hp_bd hm
  refine hv_get lk_f_X10_12 dX10_init_92 (hp_fR_spec hx1) ?_
  refine hv_aload_n 0 dX10_init_95 rfl rfl ?_
  obtain ⟨x2, hx2, hm⟩ := hp_bd hm
  refine hv_get lk_f_X10_31 dX10_init_96 (hp_fR_spec hx2) ?_
  obtain ⟨x3, hx3, hm⟩ := hp_bd hm
  have hq := mo_X10_init_102 hm
  refine hv_callI (As := [.ref x1, .ref x2]) (rest := [.ref s0, .ref s1]) Z_X9_init rfl I_X9_init lk_m_X10_47 (c_X9_init G n s0 x1 x2 h sz sl _ hx3) rfl (Nat.le_of_ble_eq_true rfl) ⟨Nat.le_of_ble_eq_true rfl, Nat.le_of_ble_eq_true rfl⟩ hq.1 hq.2 rfl dX10_init_99 ?_
  refine hv_as2 [.ref s0, .ref s1] x3.1 x3.2.1 x3.2.2 rfl rfl rfl rfl ?_
  exact hv_sub [0] rfl (q_X10_init_102 G n v0 s0 s1 x3.1 x3.2.1 x3.2.2 _ hm)
def f_X10_init_83 (n : Nat) (v0 : Nat) (s0 : Nat) (s1 : Nat) (h : hp_H) (sz sl : Nat) : Option (hp_H × Nat × Nat) :=
  (hp_pF h 10 s1 5 (.ref s0)).bind fun h1 =>
  f_X10_init_90 n v0 sz v0 (hp_nw h1 sz 9 tyX9) (sz + 1) (sl + 17)
set_option maxHeartbeats 1000000 in
set_option maxRecDepth 4000 in
theorem mo_X10_init_83 {n : Nat} {v0 : Nat} {s0 : Nat} {s1 : Nat} {h : hp_H} {sz sl : Nat} {res : hp_H × Nat × Nat} (hm : f_X10_init_83 n v0 s0 s1 h sz sl = some res) : sz ≤ res.2.1 ∧ sl ≤ res.2.2 := by
  unfold f_X10_init_83 at hm
  obtain ⟨h1, hh1, hm⟩ := hp_bd hm
  exact hp_tr ⟨Nat.le_add_right _ _, Nat.le_add_right _ _⟩ (mo_X10_init_90 hm)
set_option maxHeartbeats 1000000 in
set_option maxRecDepth 4000 in
theorem q_X10_init_83 (G : hp_G) (n : Nat) (v0 : Nat) (s0 : Nat) (s1 : Nat) (h : hp_H) (sz sl : Nat) (res : hp_H × Nat × Nat) (hm : f_X10_init_83 n v0 s0 s1 h sz sl = some res) : hp_V G m_X10_init 83 [(0, .ref v0)] [.ref s0, .ref s1] h sz sl (none, res.1, res.2.1, res.2.2) := by
  have ho := mo_X10_init_83 hm
  unfold f_X10_init_83 at hm
  obtain ⟨h1, hh1, hm⟩ := hp_bd hm
  refine hv_putF lk_f_X10_42 (by intro C T N e; cases e; rfl) rfl dX10_init_83 rfl rfl hh1 ?_
  refine hv_aload_n 0 dX10_init_86 rfl rfl ?_
  have hq := mo_X10_init_90 hm
  refine hv_new CL9 lk_k_X10_45 dX10_init_87 hq.1 hq.2 ?_
  exact hv_sub [0] rfl (q_X10_init_90 G n v0 sz v0 (hp_nw h1 sz 9 tyX9) (sz + 1) (sl + 17) _ hm)
def f_X10_init_75 (n : Nat) (v0 : Nat) (s0 : Nat) (s1 : Nat) (h : hp_H) (sz sl : Nat) : Option (hp_H × Nat × Nat) :=
  (hp_fR h 10 v0 0).bind fun x1 =>
  (f_X1_init n s0 x1 h sz sl).bind fun x2 =>
  f_X10_init_83 n v0 s0 s1 x2.1 x2.2.1 x2.2.2
set_option maxHeartbeats 1000000 in
set_option maxRecDepth 4000 in
theorem mo_X10_init_75 {n : Nat} {v0 : Nat} {s0 : Nat} {s1 : Nat} {h : hp_H} {sz sl : Nat} {res : hp_H × Nat × Nat} (hm : f_X10_init_75 n v0 s0 s1 h sz sl = some res) : sz ≤ res.2.1 ∧ sl ≤ res.2.2 := by
  unfold f_X10_init_75 at hm
  obtain ⟨x1, hx1, hm⟩ := hp_bd hm
  obtain ⟨x2, hx2, hm⟩ := hp_bd hm
  exact hp_tr (mx_X1_init hx2) (mo_X10_init_83 hm)
set_option maxHeartbeats 1000000 in
set_option maxRecDepth 4000 in
theorem q_X10_init_75 (G : hp_G) (n : Nat) (v0 : Nat) (s0 : Nat) (s1 : Nat) (h : hp_H) (sz sl : Nat) (res : hp_H × Nat × Nat) (hm : f_X10_init_75 n v0 s0 s1 h sz sl = some res) : hp_V G m_X10_init 75 [(0, .ref v0)] [.ref s0, .ref s1] h sz sl (none, res.1, res.2.1, res.2.2) := by
  have ho := mo_X10_init_75 hm
  unfold f_X10_init_75 at hm
  refine hv_dup dX10_init_75 rfl ?_
  refine hv_aload_n 0 dX10_init_76 rfl rfl ?_
  obtain ⟨x1, hx1, hm⟩ := hp_bd hm
  refine hv_get lk_f_X10_12 dX10_init_77 (hp_fR_spec hx1) ?_
  obtain ⟨x2, hx2, hm⟩ := hp_bd hm
  have hq := mo_X10_init_83 hm
  refine hv_callI (As := [.ref x1]) (rest := [.ref s0, .ref s1]) Z_X1_init rfl I_X1_init lk_m_X10_37 (c_X1_init G n s0 x1 h sz sl _ hx2) rfl (Nat.le_of_ble_eq_true rfl) ⟨Nat.le_of_ble_eq_true rfl, Nat.le_of_ble_eq_true rfl⟩ hq.1 hq.2 rfl dX10_init_80 ?_
  refine hv_as2 [.ref s0, .ref s1] x2.1 x2.2.1 x2.2.2 rfl rfl rfl rfl ?_
  exact hv_sub [0] rfl (q_X10_init_83 G n v0 s0 s1 x2.1 x2.2.1 x2.2.2 _ hm)
def f_X10_init_68 (n : Nat) (v0 : Nat) (s0 : Nat) (s1 : Nat) (h : hp_H) (sz sl : Nat) : Option (hp_H × Nat × Nat) :=
  (hp_pF h 10 s1 4 (.ref s0)).bind fun h1 =>
  f_X10_init_75 n v0 sz v0 (hp_nw h1 sz 1 tyX1) (sz + 1) (sl + 6)
set_option maxHeartbeats 1000000 in
set_option maxRecDepth 4000 in
theorem mo_X10_init_68 {n : Nat} {v0 : Nat} {s0 : Nat} {s1 : Nat} {h : hp_H} {sz sl : Nat} {res : hp_H × Nat × Nat} (hm : f_X10_init_68 n v0 s0 s1 h sz sl = some res) : sz ≤ res.2.1 ∧ sl ≤ res.2.2 := by
  unfold f_X10_init_68 at hm
  obtain ⟨h1, hh1, hm⟩ := hp_bd hm
  exact hp_tr ⟨Nat.le_add_right _ _, Nat.le_add_right _ _⟩ (mo_X10_init_75 hm)
set_option maxHeartbeats 1000000 in
set_option maxRecDepth 4000 in
theorem q_X10_init_68 (G : hp_G) (n : Nat) (v0 : Nat) (s0 : Nat) (s1 : Nat) (h : hp_H) (sz sl : Nat) (res : hp_H × Nat × Nat) (hm : f_X10_init_68 n v0 s0 s1 h sz sl = some res) : hp_V G m_X10_init 68 [(0, .ref v0)] [.ref s0, .ref s1] h sz sl (none, res.1, res.2.1, res.2.2) := by
  have ho := mo_X10_init_68 hm
  unfold f_X10_init_68 at hm
  obtain ⟨h1, hh1, hm⟩ := hp_bd hm
  refine hv_putF lk_f_X10_38 (by intro C T N e; cases e; rfl) rfl dX10_init_68 rfl rfl hh1 ?_
  refine hv_aload_n 0 dX10_init_71 rfl rfl ?_
  have hq := mo_X10_init_75 hm
  refine hv_new CL1 lk_k_X10_35 dX10_init_72 hq.1 hq.2 ?_
  exact hv_sub [0] rfl (q_X10_init_75 G n v0 sz v0 (hp_nw h1 sz 1 tyX1) (sz + 1) (sl + 6) _ hm)
def f_X10_init_60 (n : Nat) (v0 : Nat) (s0 : Nat) (s1 : Nat) (h : hp_H) (sz sl : Nat) : Option (hp_H × Nat × Nat) :=
  (hp_fR h 10 v0 0).bind fun x1 =>
  (f_X1_init n s0 x1 h sz sl).bind fun x2 =>
  f_X10_init_68 n v0 s0 s1 x2.1 x2.2.1 x2.2.2
set_option maxHeartbeats 1000000 in
set_option maxRecDepth 4000 in
theorem mo_X10_init_60 {n : Nat} {v0 : Nat} {s0 : Nat} {s1 : Nat} {h : hp_H} {sz sl : Nat} {res : hp_H × Nat × Nat} (hm : f_X10_init_60 n v0 s0 s1 h sz sl = some res) : sz ≤ res.2.1 ∧ sl ≤ res.2.2 := by
  unfold f_X10_init_60 at hm
  obtain ⟨x1, hx1, hm⟩ := hp_bd hm
  obtain ⟨x2, hx2, hm⟩ := hp_bd hm
  exact hp_tr (mx_X1_init hx2) (mo_X10_init_68 hm)
set_option maxHeartbeats 1000000 in
set_option maxRecDepth 4000 in
theorem q_X10_init_60 (G : hp_G) (n : Nat) (v0 : Nat) (s0 : Nat) (s1 : Nat) (h : hp_H) (sz sl : Nat) (res : hp_H × Nat × Nat) (hm : f_X10_init_60 n v0 s0 s1 h sz sl = some res) : hp_V G m_X10_init 60 [(0, .ref v0)] [.ref s0, .ref s1] h sz sl (none, res.1, res.2.1, res.2.2) := by
  have ho := mo_X10_init_60 hm
  unfold f_X10_init_60 at hm
  refine hv_dup dX10_init_60 rfl ?_
  refine hv_aload_n 0 dX10_init_61 rfl rfl ?_
  obtain ⟨x1, hx1, hm⟩ := hp_bd hm
  refine hv_get lk_f_X10_12 dX10_init_62 (hp_fR_spec hx1) ?_
  obtain ⟨x2, hx2, hm⟩ := hp_bd hm
  have hq := mo_X10_init_68 hm
  refine hv_callI (As := [.ref x1]) (rest := [.ref s0, .ref s1]) Z_X1_init rfl I_X1_init lk_m_X10_37 (c_X1_init G n s0 x1 h sz sl _ hx2) rfl (Nat.le_of_ble_eq_true rfl) ⟨Nat.le_of_ble_eq_true rfl, Nat.le_of_ble_eq_true rfl⟩ hq.1 hq.2 rfl dX10_init_65 ?_
  refine hv_as2 [.ref s0, .ref s1] x2.1 x2.2.1 x2.2.2 rfl rfl rfl rfl ?_
  exact hv_sub [0] rfl (q_X10_init_68 G n v0 s0 s1 x2.1 x2.2.1 x2.2.2 _ hm)
def f_X10_init_53 (n : Nat) (v0 : Nat) (s0 : Nat) (s1 : Nat) (h : hp_H) (sz sl : Nat) : Option (hp_H × Nat × Nat) :=
  (hp_pF h 10 s1 3 (.ref s0)).bind fun h1 =>
  f_X10_init_60 n v0 sz v0 (hp_nw h1 sz 1 tyX1) (sz + 1) (sl + 6)
set_option maxHeartbeats 1000000 in
set_option maxRecDepth 4000 in
theorem mo_X10_init_53 {n : Nat} {v0 : Nat} {s0 : Nat} {s1 : Nat} {h : hp_H} {sz sl : Nat} {res : hp_H × Nat × Nat} (hm : f_X10_init_53 n v0 s0 s1 h sz sl = some res) : sz ≤ res.2.1 ∧ sl ≤ res.2.2 := by
  unfold f_X10_init_53 at hm
  obtain ⟨h1, hh1, hm⟩ := hp_bd hm
  exact hp_tr ⟨Nat.le_add_right _ _, Nat.le_add_right _ _⟩ (mo_X10_init_60 hm)
set_option maxHeartbeats 1000000 in
set_option maxRecDepth 4000 in
theorem q_X10_init_53 (G : hp_G) (n : Nat) (v0 : Nat) (s0 : Nat) (s1 : Nat) (h : hp_H) (sz sl : Nat) (res : hp_H × Nat × Nat) (hm : f_X10_init_53 n v0 s0 s1 h sz sl = some res) : hp_V G m_X10_init 53 [(0, .ref v0)] [.ref s0, .ref s1] h sz sl (none, res.1, res.2.1, res.2.2) := by
  have ho := mo_X10_init_53 hm
  unfold f_X10_init_53 at hm
  obtain ⟨h1, hh1, hm⟩ := hp_bd hm
  refine hv_putF lk_f_X10_31 (by intro C T N e; cases e; rfl) rfl dX10_init_53 rfl rfl hh1 ?_
  refine hv_aload_n 0 dX10_init_56 rfl rfl ?_
  have hq := mo_X10_init_60 hm
  refine hv_new CL1 lk_k_X10_35 dX10_init_57 hq.1 hq.2 ?_
  exact hv_sub [0] rfl (q_X10_init_60 G n v0 sz v0 (hp_nw h1 sz 1 tyX1) (sz + 1) (sl + 6) _ hm)
def f_X10_init_45 (n : Nat) (v0 : Nat) (s0 : Nat) (s1 : Nat) (h : hp_H) (sz sl : Nat) : Option (hp_H × Nat × Nat) :=
  (hp_fR h 10 v0 0).bind fun x1 =>
  (f_X3_init n s0 x1 h sz sl).bind fun x2 =>
  f_X10_init_53 n v0 s0 s1 x2.1 x2.2.1 x2.2.2
set_option maxHeartbeats 1000000 in
set_option maxRecDepth 4000 in
theorem mo_X10_init_45 {n : Nat} {v0 : Nat} {s0 : Nat} {s1 : Nat} {h : hp_H} {sz sl : Nat} {res : hp_H × Nat × Nat} (hm : f_X10_init_45 n v0 s0 s1 h sz sl = some res) : sz ≤ res.2.1 ∧ sl ≤ res.2.2 := by
  unfold f_X10_init_45 at hm
  obtain ⟨x1, hx1, hm⟩ := hp_bd hm
  obtain ⟨x2, hx2, hm⟩ := hp_bd hm
  exact hp_tr (mx_X3_init hx2) (mo_X10_init_53 hm)
set_option maxHeartbeats 1000000 in
set_option maxRecDepth 4000 in
theorem q_X10_init_45 (G : hp_G) (n : Nat) (v0 : Nat) (s0 : Nat) (s1 : Nat) (h : hp_H) (sz sl : Nat) (res : hp_H × Nat × Nat) (hm : f_X10_init_45 n v0 s0 s1 h sz sl = some res) : hp_V G m_X10_init 45 [(0, .ref v0)] [.ref s0, .ref s1] h sz sl (none, res.1, res.2.1, res.2.2) := by
  have ho := mo_X10_init_45 hm
  unfold f_X10_init_45 at hm
  refine hv_dup dX10_init_45 rfl ?_
  refine hv_aload_n 0 dX10_init_46 rfl rfl ?_
  obtain ⟨x1, hx1, hm⟩ := hp_bd hm
  refine hv_get lk_f_X10_12 dX10_init_47 (hp_fR_spec hx1) ?_
  obtain ⟨x2, hx2, hm⟩ := hp_bd hm
  have hq := mo_X10_init_53 hm
  refine hv_callI (As := [.ref x1]) (rest := [.ref s0, .ref s1]) Z_X3_init rfl I_X3_init lk_m_X10_30 (c_X3_init G n s0 x1 h sz sl _ hx2) rfl (Nat.le_of_ble_eq_true rfl) ⟨Nat.le_of_ble_eq_true rfl, Nat.le_of_ble_eq_true rfl⟩ hq.1 hq.2 rfl dX10_init_50 ?_
  refine hv_as2 [.ref s0, .ref s1] x2.1 x2.2.1 x2.2.2 rfl rfl rfl rfl ?_
  exact hv_sub [0] rfl (q_X10_init_53 G n v0 s0 s1 x2.1 x2.2.1 x2.2.2 _ hm)
def f_X10_init_38 (n : Nat) (v0 : Nat) (s0 : Nat) (s1 : Nat) (h : hp_H) (sz sl : Nat) : Option (hp_H × Nat × Nat) :=
  (hp_pF h 10 s1 2 (.ref s0)).bind fun h1 =>
  f_X10_init_45 n v0 sz v0 (hp_nw h1 sz 3 tyX3) (sz + 1) (sl + 13)
set_option maxHeartbeats 1000000 in
set_option maxRecDepth 4000 in
theorem mo_X10_init_38 {n : Nat} {v0 : Nat} {s0 : Nat} {s1 : Nat} {h : hp_H} {sz sl : Nat} {res : hp_H × Nat × Nat} (hm : f_X10_init_38 n v0 s0 s1 h sz sl = some res) : sz ≤ res.2.1 ∧ sl ≤ res.2.2 := by
  unfold f_X10_init_38 at hm
  obtain ⟨h1, hh1, hm⟩ := hp_bd hm
  exact hp_tr ⟨Nat.le_add_right _ _, Nat.le_add_right _ _⟩ (mo_X10_init_45 hm)
set_option maxHeartbeats 1000000 in
set_option maxRecDepth 4000 in
theorem q_X10_init_38 (G : hp_G) (n : Nat) (v0 : Nat) (s0 : Nat) (s1 : Nat) (h : hp_H) (sz sl : Nat) (res : hp_H × Nat × Nat) (hm : f_X10_init_38 n v0 s0 s1 h sz sl = some res) : hp_V G m_X10_init 38 [(0, .ref v0)] [.ref s0, .ref s1] h sz sl (none, res.1, res.2.1, res.2.2) := by
  have ho := mo_X10_init_38 hm
  unfold f_X10_init_38 at hm
  obtain ⟨h1, hh1, hm⟩ := hp_bd hm
  refine hv_putF lk_f_X10_24 (by intro C T N e; cases e; rfl) rfl dX10_init_38 rfl rfl hh1 ?_
  refine hv_aload_n 0 dX10_init_41 rfl rfl ?_
  have hq := mo_X10_init_45 hm
  refine hv_new CL3 lk_k_X10_28 dX10_init_42 hq.1 hq.2 ?_
  exact hv_sub [0] rfl (q_X10_init_45 G n v0 sz v0 (hp_nw h1 sz 3 tyX3) (sz + 1) (sl + 13) _ hm)
def f_X10_init_30 (n : Nat) (v0 : Nat) (s0 : Nat) (s1 : Nat) (h : hp_H) (sz sl : Nat) : Option (hp_H × Nat × Nat) :=
  (hp_fR h 10 v0 1).bind fun x1 =>
  (f_X4_init n s0 x1 h sz sl).bind fun x2 =>
  f_X10_init_38 n v0 s0 s1 x2.1 x2.2.1 x2.2.2
set_option maxHeartbeats 1000000 in
set_option maxRecDepth 4000 in
theorem mo_X10_init_30 {n : Nat} {v0 : Nat} {s0 : Nat} {s1 : Nat} {h : hp_H} {sz sl : Nat} {res : hp_H × Nat × Nat} (hm : f_X10_init_30 n v0 s0 s1 h sz sl = some res) : sz ≤ res.2.1 ∧ sl ≤ res.2.2 := by
  unfold f_X10_init_30 at hm
  obtain ⟨x1, hx1, hm⟩ := hp_bd hm
  obtain ⟨x2, hx2, hm⟩ := hp_bd hm
  exact hp_tr (mx_X4_init hx2) (mo_X10_init_38 hm)
set_option maxHeartbeats 1000000 in
set_option maxRecDepth 4000 in
theorem q_X10_init_30 (G : hp_G) (n : Nat) (v0 : Nat) (s0 : Nat) (s1 : Nat) (h : hp_H) (sz sl : Nat) (res : hp_H × Nat × Nat) (hm : f_X10_init_30 n v0 s0 s1 h sz sl = some res) : hp_V G m_X10_init 30 [(0, .ref v0)] [.ref s0, .ref s1] h sz sl (none, res.1, res.2.1, res.2.2) := by
  have ho := mo_X10_init_30 hm
  unfold f_X10_init_30 at hm
  refine hv_dup dX10_init_30 rfl ?_
  refine hv_aload_n 0 dX10_init_31 rfl rfl ?_
  obtain ⟨x1, hx1, hm⟩ := hp_bd hm
  refine hv_get lk_f_X10_16 dX10_init_32 (hp_fR_spec hx1) ?_
  obtain ⟨x2, hx2, hm⟩ := hp_bd hm
  have hq := mo_X10_init_38 hm
  refine hv_callI (As := [.ref x1]) (rest := [.ref s0, .ref s1]) Z_X4_init rfl I_X4_init lk_m_X10_21 (c_X4_init G n s0 x1 h sz sl _ hx2) rfl (Nat.le_of_ble_eq_true rfl) ⟨Nat.le_of_ble_eq_true rfl, Nat.le_of_ble_eq_true rfl⟩ hq.1 hq.2 rfl dX10_init_35 ?_
  refine hv_as2 [.ref s0, .ref s1] x2.1 x2.2.1 x2.2.2 rfl rfl rfl rfl ?_
  exact hv_sub [0] rfl (q_X10_init_38 G n v0 s0 s1 x2.1 x2.2.1 x2.2.2 _ hm)
def f_X10_init_23 (n : Nat) (v0 : Nat) (s0 : Nat) (s1 : Nat) (h : hp_H) (sz sl : Nat) : Option (hp_H × Nat × Nat) :=
  (hp_pF h 10 s1 1 (.ref s0)).bind fun h1 =>
  f_X10_init_30 n v0 sz v0 (hp_nw h1 sz 4 tyX4) (sz + 1) (sl + 11)
set_option maxHeartbeats 1000000 in
set_option maxRecDepth 4000 in
theorem mo_X10_init_23 {n : Nat} {v0 : Nat} {s0 : Nat} {s1 : Nat} {h : hp_H} {sz sl : Nat} {res : hp_H × Nat × Nat} (hm : f_X10_init_23 n v0 s0 s1 h sz sl = some res) : sz ≤ res.2.1 ∧ sl ≤ res.2.2 := by
  unfold f_X10_init_23 at hm
  obtain ⟨h1, hh1, hm⟩ := hp_bd hm
  exact hp_tr ⟨Nat.le_add_right _ _, Nat.le_add_right _ _⟩ (mo_X10_init_30 hm)
set_option maxHeartbeats 1000000 in
set_option maxRecDepth 4000 in
theorem q_X10_init_23 (G : hp_G) (n : Nat) (v0 : Nat) (s0 : Nat) (s1 : Nat) (h : hp_H) (sz sl : Nat) (res : hp_H × Nat × Nat) (hm : f_X10_init_23 n v0 s0 s1 h sz sl = some res) : hp_V G m_X10_init 23 [(0, .ref v0)] [.ref s0, .ref s1] h sz sl (none, res.1, res.2.1, res.2.2) := by
  have ho := mo_X10_init_23 hm
  unfold f_X10_init_23 at hm
  obtain ⟨h1, hh1, hm⟩ := hp_bd hm
  refine hv_put lk_f_X10_16 dX10_init_23 rfl rfl hh1 ?_
  refine hv_aload_n 0 dX10_init_26 rfl rfl ?_
  have hq := mo_X10_init_30 hm
  refine hv_new CL4 lk_k_X10_19 dX10_init_27 hq.1 hq.2 ?_
  exact hv_sub [0] rfl (q_X10_init_30 G n v0 sz v0 (hp_nw h1 sz 4 tyX4) (sz + 1) (sl + 11) _ hm)
def f_X10_init_19 (n : Nat) (v0 : Nat) (s0 : Nat) (s1 : Nat) (h : hp_H) (sz sl : Nat) : Option (hp_H × Nat × Nat) :=
  (f_X0_init n s0 h sz sl).bind fun x1 =>
  f_X10_init_23 n v0 s0 s1 x1.1 x1.2.1 x1.2.2
set_option maxHeartbeats 1000000 in
set_option maxRecDepth 4000 in
theorem mo_X10_init_19 {n : Nat} {v0 : Nat} {s0 : Nat} {s1 : Nat} {h : hp_H} {sz sl : Nat} {res : hp_H × Nat × Nat} (hm : f_X10_init_19 n v0 s0 s1 h sz sl = some res) : sz ≤ res.2.1 ∧ sl ≤ res.2.2 := by
  unfold f_X10_init_19 at hm
  obtain ⟨x1, hx1, hm⟩ := hp_bd hm
  exact hp_tr (mx_X0_init hx1) (mo_X10_init_23 hm)
set_option maxHeartbeats 1000000 in
set_option maxRecDepth 4000 in
theorem q_X10_init_19 (G : hp_G) (n : Nat) (v0 : Nat) (s0 : Nat) (s1 : Nat) (h : hp_H) (sz sl : Nat) (res : hp_H × Nat × Nat) (hm : f_X10_init_19 n v0 s0 s1 h sz sl = some res) : hp_V G m_X10_init 19 [(0, .ref v0)] [.ref s0, .ref s1] h sz sl (none, res.1, res.2.1, res.2.2) := by
  have ho := mo_X10_init_19 hm
  unfold f_X10_init_19 at hm
  refine hv_dup dX10_init_19 rfl ?_
  obtain ⟨x1, hx1, hm⟩ := hp_bd hm
  have hq := mo_X10_init_23 hm
  refine hv_callIN (As := []) (rest := [.ref s0, .ref s1]) Z_X0_init rfl I_X0_init lk_m_X10_11 (c_X0_init G n s0 h sz sl _ hx1) rfl (Nat.le_of_ble_eq_true rfl) ⟨Nat.le_of_ble_eq_true rfl, Nat.le_of_ble_eq_true rfl⟩ hq.1 hq.2 rfl dX10_init_20 ?_
  refine hv_as2 [.ref s0, .ref s1] x1.1 x1.2.1 x1.2.2 rfl rfl rfl rfl ?_
  exact hv_sub [0] rfl (q_X10_init_23 G n v0 s0 s1 x1.1 x1.2.1 x1.2.2 _ hm)
def f_X10_init_12 (n : Nat) (v0 : Nat) (s0 : Nat) (s1 : Nat) (h : hp_H) (sz sl : Nat) : Option (hp_H × Nat × Nat) :=
  (hp_pF h 10 s1 0 (.ref s0)).bind fun h1 =>
  f_X10_init_19 n v0 sz v0 (hp_nw h1 sz 0 tyX0) (sz + 1) (sl + 18)
set_option maxHeartbeats 1000000 in
set_option maxRecDepth 4000 in
theorem mo_X10_init_12 {n : Nat} {v0 : Nat} {s0 : Nat} {s1 : Nat} {h : hp_H} {sz sl : Nat} {res : hp_H × Nat × Nat} (hm : f_X10_init_12 n v0 s0 s1 h sz sl = some res) : sz ≤ res.2.1 ∧ sl ≤ res.2.2 := by
  unfold f_X10_init_12 at hm
  obtain ⟨h1, hh1, hm⟩ := hp_bd hm
  exact hp_tr ⟨Nat.le_add_right _ _, Nat.le_add_right _ _⟩ (mo_X10_init_19 hm)
set_option maxHeartbeats 1000000 in
set_option maxRecDepth 4000 in
theorem q_X10_init_12 (G : hp_G) (n : Nat) (v0 : Nat) (s0 : Nat) (s1 : Nat) (h : hp_H) (sz sl : Nat) (res : hp_H × Nat × Nat) (hm : f_X10_init_12 n v0 s0 s1 h sz sl = some res) : hp_V G m_X10_init 12 [(0, .ref v0)] [.ref s0, .ref s1] h sz sl (none, res.1, res.2.1, res.2.2) := by
  have ho := mo_X10_init_12 hm
  unfold f_X10_init_12 at hm
  obtain ⟨h1, hh1, hm⟩ := hp_bd hm
  refine hv_put lk_f_X10_12 dX10_init_12 rfl rfl hh1 ?_
  refine hv_aload_n 0 dX10_init_15 rfl rfl ?_
  have hq := mo_X10_init_19 hm
  refine hv_new CL0 lk_k_X10_9 dX10_init_16 hq.1 hq.2 ?_
  exact hv_sub [0] rfl (q_X10_init_19 G n v0 sz v0 (hp_nw h1 sz 0 tyX0) (sz + 1) (sl + 18) _ hm)
def f_X10_init_8 (n : Nat) (v0 : Nat) (s0 : Nat) (s1 : Nat) (h : hp_H) (sz sl : Nat) : Option (hp_H × Nat × Nat) :=
  (f_X0_init n s0 h sz sl).bind fun x1 =>
  f_X10_init_12 n v0 s0 s1 x1.1 x1.2.1 x1.2.2
set_option maxHeartbeats 1000000 in
set_option maxRecDepth 4000 in
theorem mo_X10_init_8 {n : Nat} {v0 : Nat} {s0 : Nat} {s1 : Nat} {h : hp_H} {sz sl : Nat} {res : hp_H × Nat × Nat} (hm : f_X10_init_8 n v0 s0 s1 h sz sl = some res) : sz ≤ res.2.1 ∧ sl ≤ res.2.2 := by
  unfold f_X10_init_8 at hm
  obtain ⟨x1, hx1, hm⟩ := hp_bd hm
  exact hp_tr (mx_X0_init hx1) (mo_X10_init_12 hm)
set_option maxHeartbeats 1000000 in
set_option maxRecDepth 4000 in
theorem q_X10_init_8 (G : hp_G) (n : Nat) (v0 : Nat) (s0 : Nat) (s1 : Nat) (h : hp_H) (sz sl : Nat) (res : hp_H × Nat × Nat) (hm : f_X10_init_8 n v0 s0 s1 h sz sl = some res) : hp_V G m_X10_init 8 [(0, .ref v0)] [.ref s0, .ref s1] h sz sl (none, res.1, res.2.1, res.2.2) := by
  have ho := mo_X10_init_8 hm
  unfold f_X10_init_8 at hm
  refine hv_dup dX10_init_8 rfl ?_
  obtain ⟨x1, hx1, hm⟩ := hp_bd hm
  have hq := mo_X10_init_12 hm
  refine hv_callIN (As := []) (rest := [.ref s0, .ref s1]) Z_X0_init rfl I_X0_init lk_m_X10_11 (c_X0_init G n s0 h sz sl _ hx1) rfl (Nat.le_of_ble_eq_true rfl) ⟨Nat.le_of_ble_eq_true rfl, Nat.le_of_ble_eq_true rfl⟩ hq.1 hq.2 rfl dX10_init_9 ?_
  refine hv_as2 [.ref s0, .ref s1] x1.1 x1.2.1 x1.2.2 rfl rfl rfl rfl ?_
  exact hv_sub [0] rfl (q_X10_init_12 G n v0 s0 s1 x1.1 x1.2.1 x1.2.2 _ hm)
def f_X10_init_0 (n : Nat) (v0 : Nat) (h : hp_H) (sz sl : Nat) : Option (hp_H × Nat × Nat) :=
  f_X10_init_8 n v0 sz v0 (hp_nw h sz 0 tyX0) (sz + 1) (sl + 18)
set_option maxHeartbeats 1000000 in
set_option maxRecDepth 4000 in
theorem mo_X10_init_0 {n : Nat} {v0 : Nat} {h : hp_H} {sz sl : Nat} {res : hp_H × Nat × Nat} (hm : f_X10_init_0 n v0 h sz sl = some res) : sz ≤ res.2.1 ∧ sl ≤ res.2.2 := by
  unfold f_X10_init_0 at hm
  exact hp_tr ⟨Nat.le_add_right _ _, Nat.le_add_right _ _⟩ (mo_X10_init_8 hm)
set_option maxHeartbeats 1000000 in
set_option maxRecDepth 4000 in
theorem q_X10_init_0 (G : hp_G) (n : Nat) (v0 : Nat) (h : hp_H) (sz sl : Nat) (res : hp_H × Nat × Nat) (hm : f_X10_init_0 n v0 h sz sl = some res) : hp_V G m_X10_init 0 [(0, .ref v0)] [] h sz sl (none, res.1, res.2.1, res.2.2) := by
  have ho := mo_X10_init_0 hm
  unfold f_X10_init_0 at hm
  refine hv_aload_n 0 dX10_init_0 rfl rfl ?_
  refine hv_objInit lk_o_X10_3 ⟨Nat.le_of_ble_eq_true rfl, Nat.le_of_ble_eq_true rfl⟩ dX10_init_1 ?_
  refine hv_aload_n 0 dX10_init_4 rfl rfl ?_
  have hq := mo_X10_init_8 hm
  refine hv_new CL0 lk_k_X10_9 dX10_init_5 hq.1 hq.2 ?_
  exact hv_sub [0] rfl (q_X10_init_8 G n v0 sz v0 (hp_nw h sz 0 tyX0) (sz + 1) (sl + 18) _ hm)
def f_X10_init (n : Nat) (v0 : Nat) (h : hp_H) (sz sl : Nat) : Option (hp_H × Nat × Nat) := (hp_ck h 10 v0).bind fun _ => f_X10_init_0 n v0 h sz sl
theorem c_X10_init (G : hp_G) (n : Nat) (v0 : Nat) (h : hp_H) (sz sl : Nat) (res : hp_H × Nat × Nat) (hm : f_X10_init n v0 h sz sl = some res) : hp_C G m_X10_init yX10_init [.ref v0] h sz sl (none, res.1, res.2.1, res.2.2) := by
  unfold f_X10_init at hm
  obtain ⟨_, _, hm⟩ := hp_bd hm
  exact hp_C_of (by decide) rfl rfl (Nat.le_of_ble_eq_true rfl) (mo_X10_init_0 hm).1 (mo_X10_init_0 hm).2 (hv_sub [0] rfl (q_X10_init_0 G n v0 h sz sl res hm))
theorem k_X10_init {n : Nat} {v0 : Nat} {h : hp_H} {sz sl : Nat} {res : hp_H × Nat × Nat} (hm : f_X10_init n v0 h sz sl = some res) : ∃ V, h v0 = some (.inr (.inr (10, V))) := by
  unfold f_X10_init at hm
  obtain ⟨_, hu, _⟩ := hp_bd hm
  exact hp_ck_spec hu
theorem mx_X10_init {n : Nat} {v0 : Nat} {h : hp_H} {sz sl : Nat} {res : hp_H × Nat × Nat} (hm : f_X10_init n v0 h sz sl = some res) : sz ≤ res.2.1 ∧ sl ≤ res.2.2 := by
  unfold f_X10_init at hm
  obtain ⟨_, _, hm⟩ := hp_bd hm
  exact mo_X10_init_0 hm
abbrev m_X10_bytesIn : hp_M := (RX10, cX10_bytesIn, 4, some .int, 0, 0, "bytesIn")
theorem Z_X10_bytesIn : hp_Y yX10_bytesIn m_X10_bytesIn 1 := Y_X10_bytesIn
def f_X10_bytesIn_24 (n : Nat) (v0 : Int64) (v2 : Int32) (v3 : Int32) (h : hp_H) : Option ((Int32 × Int32) ⊕ (Int32)) :=
  some (.inl (v2, (v3 + (-8 : Int32))))
set_option maxHeartbeats 1000000 in
set_option maxRecDepth 4000 in
theorem q_X10_bytesIn_24 (G : hp_G) (n : Nat) (v0 : Int64) (v2 : Int32) (v3 : Int32) (h : hp_H) (sz sl : Nat) (o : hp_O) (ho : sz ≤ o.2.2.1 ∧ sl ≤ o.2.2.2) (res : (Int32 × Int32) ⊕ (Int32)) (hm : f_X10_bytesIn_24 n v0 v2 v3 h = some res) (kI : ∀ y : Int32 × Int32, res = .inl y → hp_V G m_X10_bytesIn 5 [(0, .long v0), (2, .int y.1), (3, .int y.2)] [] h sz sl o) (kR : ∀ y : Int32, res = .inr y → o = (some (.int y), h, sz, sl)) : hp_V G m_X10_bytesIn 24 [(0, .long v0), (2, .int v2), (3, .int v3)] [] h sz sl o := by
  unfold f_X10_bytesIn_24 at hm
  refine hv_iinc (v3 + (-8 : Int32)) 2 [(3, .int (v3 + (-8 : Int32))), (0, .long v0), (2, .int v2)] dX10_bytesIn_24 rfl rfl (by decide) rfl ?_
  refine hv_goto (tgt := 5) dX10_bytesIn_27 (by decide) ?_
  exact hv_sub [1, 2, 0] rfl (kI (v2, (v3 + (-8 : Int32))) (Option.some.inj hm).symm)
def f_X10_bytesIn_5 (n : Nat) (v0 : Int64) (v2 : Int32) (v3 : Int32) (h : hp_H) : Option ((Int32 × Int32) ⊕ (Int32)) :=
  if v3 < 0 then
    some (.inr v2)
  else
    if (lg_cmp (((Int64.toUInt64 v0 >>> (Int64.toUInt64 (Int32.toInt64 v3) &&& Int64.toUInt64 63)).toInt64) &&& (255 : Int64)) (0 : Int64)) = 0 then
      f_X10_bytesIn_24 n v0 v2 v3 h
    else
      f_X10_bytesIn_24 n v0 (v2 + (1 : Int32)) v3 h
set_option maxHeartbeats 1000000 in
set_option maxRecDepth 4000 in
theorem q_X10_bytesIn_5 (G : hp_G) (n : Nat) (v0 : Int64) (v2 : Int32) (v3 : Int32) (h : hp_H) (sz sl : Nat) (o : hp_O) (ho : sz ≤ o.2.2.1 ∧ sl ≤ o.2.2.2) (res : (Int32 × Int32) ⊕ (Int32)) (hm : f_X10_bytesIn_5 n v0 v2 v3 h = some res) (kI : ∀ y : Int32 × Int32, res = .inl y → hp_V G m_X10_bytesIn 5 [(0, .long v0), (2, .int y.1), (3, .int y.2)] [] h sz sl o) (kR : ∀ y : Int32, res = .inr y → o = (some (.int y), h, sz, sl)) : hp_V G m_X10_bytesIn 5 [(0, .long v0), (2, .int v2), (3, .int v3)] [] h sz sl o := by
  unfold f_X10_bytesIn_5 at hm
  refine hv_iload_n 2 dX10_bytesIn_5 rfl rfl ?_
  refine hv_if_lt (tgt := 30) dX10_bytesIn_6 (by decide) (fun c2 => ?_) (fun c2 => ?_)
  · rw [if_pos c2] at hm
    refine hv_iload_n 1 dX10_bytesIn_30 rfl rfl ?_
    obtain rfl := kR _ (Option.some.inj hm).symm
    exact hv_iret rfl dX10_bytesIn_31
  · rw [if_neg c2] at hm
    refine hv_lload_n 0 dX10_bytesIn_9 rfl rfl ?_
    refine hv_iload_n 2 dX10_bytesIn_10 rfl rfl ?_
    refine hv_lushr dX10_bytesIn_11 ?_
    refine hv_ldc2 (255 : Int64) dX10_bytesIn_12 lk_c_X10_76 ?_
    refine hv_land dX10_bytesIn_15 ?_
    refine hv_lconst (0 : Int64) dX10_bytesIn_16 (by decide) ?_
    refine hv_lcmp dX10_bytesIn_17 ?_
    refine hv_if_eq (tgt := 24) dX10_bytesIn_18 (by decide) (fun c1 => ?_) (fun c1 => ?_)
    · rw [if_pos c1] at hm
      exact hv_sub [0, 1, 2] rfl (q_X10_bytesIn_24 G n v0 v2 v3 h sz sl o ho _ hm kI kR)
    · rw [if_neg c1] at hm
      refine hv_iinc (v2 + (1 : Int32)) 1 [(2, .int (v2 + (1 : Int32))), (0, .long v0), (3, .int v3)] dX10_bytesIn_21 rfl rfl (by decide) rfl ?_
      exact hv_sub [1, 0, 2] rfl (q_X10_bytesIn_24 G n v0 (v2 + (1 : Int32)) v3 h sz sl o ho _ hm kI kR)
def fL_X10_bytesIn_5 (n : Nat) (v0 : Int64) (h : hp_H) (s : Int32 × Int32) : Option ((Int32 × Int32) ⊕ (Int32)) := f_X10_bytesIn_5 n v0 s.1 s.2 h
theorem l_X10_bytesIn_5 (G : hp_G) (n : Nat) (v0 : Int64) (h : hp_H) (sz sl : Nat) (o : hp_O) (ho : sz ≤ o.2.2.1 ∧ sl ≤ o.2.2.2) : ∀ (k : Nat) (s : Int32 × Int32) (x : Int32), hp_lp (fL_X10_bytesIn_5 n v0 h) k s = some x → (∀ y : Int32, x = y → o = (some (.int y), h, sz, sl)) → hp_V G m_X10_bytesIn 5 [(0, .long v0), (2, .int s.1), (3, .int s.2)] [] h sz sl o := by
  intro k
  induction k with
  | zero => intro s x hx; exact (hp_lp_0 hx).elim
  | succ k ih =>
    intro s x hx k0
    obtain ⟨r, hr, hc⟩ := hp_lp_1 hx
    refine q_X10_bytesIn_5 G n v0 s.1 s.2 h sz sl o ho r hr (fun s2 e => ?_) (fun y e => ?_)
    · rcases hc with ⟨s3, e3, hx3⟩ | e3
      · have e4 := Sum.inl.inj (e.symm.trans e3)
        subst e4
        exact ih _ _ hx3 k0
      · cases (e.symm.trans e3)
    · rcases hc with ⟨s3, e3, hx3⟩ | e3
      · cases (e.symm.trans e3)
      · exact k0 y (Sum.inr.inj (e3.symm.trans e))
def f_X10_bytesIn_0 (n : Nat) (v0 : Int64) (h : hp_H) : Option (Int32) :=
  (hp_lp (fL_X10_bytesIn_5 n v0 h) n ((0 : Int32), (56 : Int32))).bind fun x1 =>
  some x1
set_option maxHeartbeats 1000000 in
set_option maxRecDepth 4000 in
theorem q_X10_bytesIn_0 (G : hp_G) (n : Nat) (v0 : Int64) (h : hp_H) (sz sl : Nat) (res : Int32) (hm : f_X10_bytesIn_0 n v0 h = some res) : hp_V G m_X10_bytesIn 0 [(0, .long v0)] [] h sz sl (some (.int res), h, sz, sl) := by
  have ho : sz ≤ sz ∧ sl ≤ sl := ⟨Nat.le_refl _, Nat.le_refl _⟩
  unfold f_X10_bytesIn_0 at hm
  refine hv_iconst (0 : Int32) dX10_bytesIn_0 (by decide) ?_
  refine hv_istore_n [(2, .int (0 : Int32)), (0, .long v0)] dX10_bytesIn_1 rfl (by decide) rfl ?_
  refine hv_bipush (56 : Int32) dX10_bytesIn_2 (by decide) ?_
  refine hv_istore_n [(3, .int (56 : Int32)), (2, .int (0 : Int32)), (0, .long v0)] dX10_bytesIn_4 rfl (by decide) rfl ?_
  obtain ⟨x1, hx1, hm⟩ := hp_bd hm
  refine hv_sub [2, 1, 0] rfl (l_X10_bytesIn_5 G n v0 h sz sl _ ho n _ _ hx1 (fun y2 ey2 => ?_))
  · skip
    subst ey2
    obtain rfl := Option.some.inj hm
    rfl
def f_X10_bytesIn (n : Nat) (v0 : Int64) (h : hp_H) : Option (Int32) := f_X10_bytesIn_0 n v0 h
theorem c_X10_bytesIn (G : hp_G) (n : Nat) (v0 : Int64) (h : hp_H) (sz sl : Nat) (res : Int32) (hm : f_X10_bytesIn n v0 h = some res) : hp_C G m_X10_bytesIn yX10_bytesIn [.long v0] h sz sl (some (.int res), h, sz, sl) := by
  unfold f_X10_bytesIn at hm
  exact hp_C_of (by decide) rfl rfl (Nat.le_of_ble_eq_true rfl) (Nat.le_refl _) (Nat.le_refl _) (hv_sub [0] rfl (q_X10_bytesIn_0 G n v0 h sz sl res hm))
abbrev m_X10_append : hp_M := (RX10, cX10_append, 5, none, 0, 0, "append")
theorem Z_X10_append : hp_Y yX10_append m_X10_append 1 := Y_X10_append
def f_X10_append_66 (n : Nat) (v0 : Nat) (v1 : Int64) (v3 : Int32) (h : hp_H) : Option ((Int32 × hp_H) ⊕ (hp_H)) :=
  some (.inl ((v3 + (-8 : Int32)), h))
set_option maxHeartbeats 1000000 in
set_option maxRecDepth 4000 in
theorem q_X10_append_66 (G : hp_G) (n : Nat) (v0 : Nat) (v1 : Int64) (v3 : Int32) (h : hp_H) (sz sl : Nat) (o : hp_O) (ho : sz ≤ o.2.2.1 ∧ sl ≤ o.2.2.2) (res : (Int32 × hp_H) ⊕ (hp_H)) (hm : f_X10_append_66 n v0 v1 v3 h = some res) (kI : ∀ y : Int32 × hp_H, res = .inl y → hp_V G m_X10_append 3 [(0, .ref v0), (1, .long v1), (3, .int y.1)] [] y.2 sz sl o) (kR : ∀ y : hp_H, res = .inr y → o = (none, y, sz, sl)) : hp_V G m_X10_append 66 [(0, .ref v0), (1, .long v1), (3, .int v3)] [] h sz sl o := by
  unfold f_X10_append_66 at hm
  refine hv_iinc (v3 + (-8 : Int32)) 2 [(3, .int (v3 + (-8 : Int32))), (0, .ref v0), (1, .long v1)] dX10_append_66 rfl rfl (by decide) rfl ?_
  refine hv_goto (tgt := 3) dX10_append_69 (by decide) ?_
  exact hv_sub [1, 2, 0] rfl (kI ((v3 + (-8 : Int32)), h) (Option.some.inj hm).symm)
def f_X10_append_3 (n : Nat) (v0 : Nat) (v1 : Int64) (v3 : Int32) (h : hp_H) : Option ((Int32 × hp_H) ⊕ (hp_H)) :=
  if v3 < 0 then
    some (.inr h)
  else
    if (Int64.toInt32 (((Int64.toUInt64 v1 >>> (Int64.toUInt64 (Int32.toInt64 v3) &&& Int64.toUInt64 63)).toInt64) &&& (255 : Int64))) = 0 then
      f_X10_append_66 n v0 v1 v3 h
    else
      (hp_fR h 10 v0 1).bind fun x1 =>
      (hp_fI h 0 x1 2).bind fun x2 =>
      if (8192 : Int32) ≤ x2 then
        f_X10_append_66 n v0 v1 v3 h
      else
        (hp_fR h 10 v0 1).bind fun x3 =>
        (hp_fR h 0 x3 1).bind fun x4 =>
        (hp_fR h 10 v0 1).bind fun x5 =>
        (hp_fI h 0 x5 2).bind fun x6 =>
        (hp_sI h 1 x4 x6 ((Int32.toInt8 (Int64.toInt32 (((Int64.toUInt64 v1 >>> (Int64.toUInt64 (Int32.toInt64 v3) &&& Int64.toUInt64 63)).toInt64) &&& (255 : Int64)))).toInt32)).bind fun h7 =>
        (hp_fR h7 10 v0 1).bind fun x8 =>
        (hp_fI h7 0 x8 2).bind fun x9 =>
        (hp_pF h7 0 x8 2 (.int (x9 + (1 : Int32)))).bind fun h10 =>
        f_X10_append_66 n v0 v1 v3 h10
set_option maxHeartbeats 1000000 in
set_option maxRecDepth 4000 in
theorem q_X10_append_3 (G : hp_G) (n : Nat) (v0 : Nat) (v1 : Int64) (v3 : Int32) (h : hp_H) (sz sl : Nat) (o : hp_O) (ho : sz ≤ o.2.2.1 ∧ sl ≤ o.2.2.2) (res : (Int32 × hp_H) ⊕ (hp_H)) (hm : f_X10_append_3 n v0 v1 v3 h = some res) (kI : ∀ y : Int32 × hp_H, res = .inl y → hp_V G m_X10_append 3 [(0, .ref v0), (1, .long v1), (3, .int y.1)] [] y.2 sz sl o) (kR : ∀ y : hp_H, res = .inr y → o = (none, y, sz, sl)) : hp_V G m_X10_append 3 [(0, .ref v0), (1, .long v1), (3, .int v3)] [] h sz sl o := by
  unfold f_X10_append_3 at hm
  refine hv_iload_n 2 dX10_append_3 rfl rfl ?_
  refine hv_if_lt (tgt := 72) dX10_append_4 (by decide) (fun c13 => ?_) (fun c13 => ?_)
  · rw [if_pos c13] at hm
    obtain rfl := kR _ (Option.some.inj hm).symm
    exact hv_vret rfl dX10_append_72
  · rw [if_neg c13] at hm
    refine hv_lload_n 1 dX10_append_7 rfl rfl ?_
    refine hv_iload_n 2 dX10_append_8 rfl rfl ?_
    refine hv_lushr dX10_append_9 ?_
    refine hv_ldc2 (255 : Int64) dX10_append_10 lk_c_X10_76 ?_
    refine hv_land dX10_append_13 ?_
    refine hv_l2i dX10_append_14 ?_
    refine hv_istore [(4, .int (Int64.toInt32 (((Int64.toUInt64 v1 >>> (Int64.toUInt64 (Int32.toInt64 v3) &&& Int64.toUInt64 63)).toInt64) &&& (255 : Int64)))), (0, .ref v0), (1, .long v1), (3, .int v3)] dX10_append_15 (by decide) rfl ?_
    refine hv_iload 0 dX10_append_17 rfl ?_
    refine hv_if_eq (tgt := 66) dX10_append_19 (by decide) (fun c12 => ?_) (fun c12 => ?_)
    · rw [if_pos c12] at hm
      exact hv_sub [1, 2, 3] rfl (q_X10_append_66 G n v0 v1 v3 h sz sl o ho _ hm kI kR)
    · rw [if_neg c12] at hm
      refine hv_aload_n 1 dX10_append_22 rfl rfl ?_
      obtain ⟨x1, hx1, hm⟩ := hp_bd hm
      refine hv_get lk_f_X10_16 dX10_append_23 (hp_fR_spec hx1) ?_
      obtain ⟨x2, hx2, hm⟩ := hp_bd hm
      refine hv_get lk_f_X10_68 dX10_append_26 (hp_fI_spec hx2) ?_
      refine hv_sipush (8192 : Int32) dX10_append_29 (by decide) ?_
      refine hv_icmp_ge (tgt := 66) dX10_append_32 (by decide) (fun c11 => ?_) (fun c11 => ?_)
      · rw [if_pos c11] at hm
        exact hv_sub [1, 2, 3] rfl (q_X10_append_66 G n v0 v1 v3 h sz sl o ho _ hm kI kR)
      · rw [if_neg c11] at hm
        refine hv_aload_n 1 dX10_append_35 rfl rfl ?_
        obtain ⟨x3, hx3, hm⟩ := hp_bd hm
        refine hv_get lk_f_X10_16 dX10_append_36 (hp_fR_spec hx3) ?_
        obtain ⟨x4, hx4, hm⟩ := hp_bd hm
        refine hv_get lk_f_X10_78 dX10_append_39 (hp_fR_spec hx4) ?_
        refine hv_aload_n 1 dX10_append_42 rfl rfl ?_
        obtain ⟨x5, hx5, hm⟩ := hp_bd hm
        refine hv_get lk_f_X10_16 dX10_append_43 (hp_fR_spec hx5) ?_
        obtain ⟨x6, hx6, hm⟩ := hp_bd hm
        refine hv_get lk_f_X10_68 dX10_append_46 (hp_fI_spec hx6) ?_
        refine hv_iload 0 dX10_append_49 rfl ?_
        refine hv_i2b dX10_append_51 ?_
        obtain ⟨h7, hh7, hm⟩ := hp_bd hm
        refine hv_bast dX10_append_52 hh7 ?_
        refine hv_aload_n 1 dX10_append_53 rfl rfl ?_
        obtain ⟨x8, hx8, hm⟩ := hp_bd hm
        refine hv_get lk_f_X10_16 dX10_append_54 (hp_fR_spec hx8) ?_
        refine hv_dup dX10_append_57 rfl ?_
        obtain ⟨x9, hx9, hm⟩ := hp_bd hm
        refine hv_get lk_f_X10_68 dX10_append_58 (hp_fI_spec hx9) ?_
        refine hv_iconst (1 : Int32) dX10_append_61 (by decide) ?_
        refine hv_iadd dX10_append_62 ?_
        obtain ⟨h10, hh10, hm⟩ := hp_bd hm
        refine hv_put lk_f_X10_68 dX10_append_63 rfl rfl hh10 ?_
        exact hv_sub [1, 2, 3] rfl (q_X10_append_66 G n v0 v1 v3 h10 sz sl o ho _ hm kI kR)
def fL_X10_append_3 (n : Nat) (v0 : Nat) (v1 : Int64) (s : Int32 × hp_H) : Option ((Int32 × hp_H) ⊕ (hp_H)) := f_X10_append_3 n v0 v1 s.1 s.2
theorem l_X10_append_3 (G : hp_G) (n : Nat) (v0 : Nat) (v1 : Int64) (sz sl : Nat) (o : hp_O) (ho : sz ≤ o.2.2.1 ∧ sl ≤ o.2.2.2) : ∀ (k : Nat) (s : Int32 × hp_H) (x : hp_H), hp_lp (fL_X10_append_3 n v0 v1) k s = some x → (∀ y : hp_H, x = y → o = (none, y, sz, sl)) → hp_V G m_X10_append 3 [(0, .ref v0), (1, .long v1), (3, .int s.1)] [] s.2 sz sl o := by
  intro k
  induction k with
  | zero => intro s x hx; exact (hp_lp_0 hx).elim
  | succ k ih =>
    intro s x hx k0
    obtain ⟨r, hr, hc⟩ := hp_lp_1 hx
    refine q_X10_append_3 G n v0 v1 s.1 s.2 sz sl o ho r hr (fun s2 e => ?_) (fun y e => ?_)
    · rcases hc with ⟨s3, e3, hx3⟩ | e3
      · have e4 := Sum.inl.inj (e.symm.trans e3)
        subst e4
        exact ih _ _ hx3 k0
      · cases (e.symm.trans e3)
    · rcases hc with ⟨s3, e3, hx3⟩ | e3
      · cases (e.symm.trans e3)
      · exact k0 y (Sum.inr.inj (e3.symm.trans e))
def f_X10_append_0 (n : Nat) (v0 : Nat) (v1 : Int64) (h : hp_H) : Option (hp_H) :=
  (hp_lp (fL_X10_append_3 n v0 v1) n ((56 : Int32), h)).bind fun x1 =>
  some x1
set_option maxHeartbeats 1000000 in
set_option maxRecDepth 4000 in
theorem q_X10_append_0 (G : hp_G) (n : Nat) (v0 : Nat) (v1 : Int64) (h : hp_H) (sz sl : Nat) (res : hp_H) (hm : f_X10_append_0 n v0 v1 h = some res) : hp_V G m_X10_append 0 [(0, .ref v0), (1, .long v1)] [] h sz sl (none, res, sz, sl) := by
  have ho : sz ≤ sz ∧ sl ≤ sl := ⟨Nat.le_refl _, Nat.le_refl _⟩
  unfold f_X10_append_0 at hm
  refine hv_bipush (56 : Int32) dX10_append_0 (by decide) ?_
  refine hv_istore_n [(3, .int (56 : Int32)), (0, .ref v0), (1, .long v1)] dX10_append_2 rfl (by decide) rfl ?_
  obtain ⟨x1, hx1, hm⟩ := hp_bd hm
  refine hv_sub [1, 2, 0] rfl (l_X10_append_3 G n v0 v1 sz sl _ ho n _ _ hx1 (fun y2 ey2 => ?_))
  · skip
    subst ey2
    obtain rfl := Option.some.inj hm
    rfl
def f_X10_append (n : Nat) (v0 : Nat) (v1 : Int64) (h : hp_H) : Option (hp_H) := (hp_ck h 10 v0).bind fun _ => f_X10_append_0 n v0 v1 h
theorem c_X10_append (G : hp_G) (n : Nat) (v0 : Nat) (v1 : Int64) (h : hp_H) (sz sl : Nat) (res : hp_H) (hm : f_X10_append n v0 v1 h = some res) : hp_C G m_X10_append yX10_append [.ref v0, .long v1] h sz sl (none, res, sz, sl) := by
  unfold f_X10_append at hm
  obtain ⟨_, _, hm⟩ := hp_bd hm
  exact hp_C_of (by decide) rfl rfl (Nat.le_of_ble_eq_true rfl) (Nat.le_refl _) (Nat.le_refl _) (hv_sub [0, 1] rfl (q_X10_append_0 G n v0 v1 h sz sl res hm))
theorem k_X10_append {n : Nat} {v0 : Nat} {v1 : Int64} {h : hp_H} {res : hp_H} (hm : f_X10_append n v0 v1 h = some res) : ∃ V, h v0 = some (.inr (.inr (10, V))) := by
  unfold f_X10_append at hm
  obtain ⟨_, hu, _⟩ := hp_bd hm
  exact hp_ck_spec hu
abbrev m_X10_feed : hp_M := (RX10, cX10_feed, 6, some .int, 1, 24, "feed")
theorem Z_X10_feed : hp_Y yX10_feed m_X10_feed 2 := Y_X10_feed
def f_X10_feed_0 (n : Nat) (v0 : Nat) (v1 : Int64) (v3 : Int64) (h : hp_H) : Option (Int32 × hp_H) :=
  (f_X10_bytesIn n v1 h).bind fun x1 =>
  (f_X10_bytesIn n v3 h).bind fun x2 =>
  (hp_fR h 10 v0 1).bind fun x3 =>
  (hp_fI h 0 x3 2).bind fun x4 =>
  if (x4 + (x1 + x2)) ≤ (8192 : Int32) then
    (f_X10_append n v0 v1 h).bind fun x5 =>
    (f_X10_append n v0 v3 x5).bind fun x6 =>
    (hp_fR x6 10 v0 1).bind fun x7 =>
    (hp_fI x6 0 x7 2).bind fun x8 =>
    some (x8, x6)
  else
    some ((-3 : Int32), h)
set_option maxHeartbeats 1000000 in
set_option maxRecDepth 4000 in
theorem q_X10_feed_0 (G : hp_G) (n : Nat) (v0 : Nat) (v1 : Int64) (v3 : Int64) (h : hp_H) (sz sl : Nat) (res : Int32 × hp_H) (hm : f_X10_feed_0 n v0 v1 v3 h = some res) : hp_V G m_X10_feed 0 [(0, .ref v0), (1, .long v1), (3, .long v3)] [] h sz sl (some (.int res.1), res.2, sz, sl) := by
  have ho : sz ≤ sz ∧ sl ≤ sl := ⟨Nat.le_refl _, Nat.le_refl _⟩
  unfold f_X10_feed_0 at hm
  refine hv_lload_n 1 dX10_feed_0 rfl rfl ?_
  obtain ⟨x1, hx1, hm⟩ := hp_bd hm
  refine hv_callS (As := [.long v1]) (rest := []) Z_X10_bytesIn I_X10_bytesIn lk_m_X10_64 (c_X10_bytesIn G n v1 h sz sl _ hx1) rfl (Nat.le_of_ble_eq_true rfl) ⟨Nat.le_of_ble_eq_true rfl, Nat.le_of_ble_eq_true rfl⟩ ho.1 ho.2 rfl dX10_feed_1 ?_
  refine hv_as [.int x1] h rfl rfl ?_
  refine hv_lload_n 2 dX10_feed_4 rfl rfl ?_
  obtain ⟨x2, hx2, hm⟩ := hp_bd hm
  refine hv_callS (As := [.long v3]) (rest := [.int x1]) Z_X10_bytesIn I_X10_bytesIn lk_m_X10_64 (c_X10_bytesIn G n v3 h sz sl _ hx2) rfl (Nat.le_of_ble_eq_true rfl) ⟨Nat.le_of_ble_eq_true rfl, Nat.le_of_ble_eq_true rfl⟩ ho.1 ho.2 rfl dX10_feed_5 ?_
  refine hv_as [.int x2, .int x1] h rfl rfl ?_
  refine hv_iadd dX10_feed_8 ?_
  refine hv_istore [(5, .int (x1 + x2)), (0, .ref v0), (1, .long v1), (3, .long v3)] dX10_feed_9 (by decide) rfl ?_
  refine hv_aload_n 1 dX10_feed_11 rfl rfl ?_
  obtain ⟨x3, hx3, hm⟩ := hp_bd hm
  refine hv_get lk_f_X10_16 dX10_feed_12 (hp_fR_spec hx3) ?_
  obtain ⟨x4, hx4, hm⟩ := hp_bd hm
  refine hv_get lk_f_X10_68 dX10_feed_15 (hp_fI_spec hx4) ?_
  refine hv_iload 0 dX10_feed_18 rfl ?_
  refine hv_iadd dX10_feed_20 ?_
  refine hv_sipush (8192 : Int32) dX10_feed_21 (by decide) ?_
  refine hv_icmp_le (tgt := 30) dX10_feed_24 (by decide) (fun c9 => ?_) (fun c9 => ?_)
  · rw [if_pos c9] at hm
    refine hv_aload_n 1 dX10_feed_30 rfl rfl ?_
    refine hv_lload_n 2 dX10_feed_31 rfl rfl ?_
    obtain ⟨x5, hx5, hm⟩ := hp_bd hm
    obtain ⟨Vx5, hVx5⟩ := k_X10_append hx5
    refine hv_callV (As := [.long v1]) (rest := []) Z_X10_append I_X10_append lk_m_X10_72 rfl hVx5 (c_X10_append G n v0 v1 h sz sl _ hx5) rfl (Nat.le_of_ble_eq_true rfl) ⟨Nat.le_of_ble_eq_true rfl, Nat.le_of_ble_eq_true rfl⟩ ho.1 ho.2 rfl dX10_feed_32 ?_
    refine hv_as [] x5 rfl rfl ?_
    refine hv_aload_n 1 dX10_feed_35 rfl rfl ?_
    refine hv_lload_n 3 dX10_feed_36 rfl rfl ?_
    obtain ⟨x6, hx6, hm⟩ := hp_bd hm
    obtain ⟨Vx6, hVx6⟩ := k_X10_append hx6
    refine hv_callV (As := [.long v3]) (rest := []) Z_X10_append I_X10_append lk_m_X10_72 rfl hVx6 (c_X10_append G n v0 v3 x5 sz sl _ hx6) rfl (Nat.le_of_ble_eq_true rfl) ⟨Nat.le_of_ble_eq_true rfl, Nat.le_of_ble_eq_true rfl⟩ ho.1 ho.2 rfl dX10_feed_37 ?_
    refine hv_as [] x6 rfl rfl ?_
    refine hv_aload_n 1 dX10_feed_40 rfl rfl ?_
    obtain ⟨x7, hx7, hm⟩ := hp_bd hm
    refine hv_get lk_f_X10_16 dX10_feed_41 (hp_fR_spec hx7) ?_
    obtain ⟨x8, hx8, hm⟩ := hp_bd hm
    refine hv_get lk_f_X10_68 dX10_feed_44 (hp_fI_spec hx8) ?_
    obtain rfl := Option.some.inj hm
    exact hv_iret rfl dX10_feed_47
  · rw [if_neg c9] at hm
    refine hv_bipush (-3 : Int32) dX10_feed_27 (by decide) ?_
    obtain rfl := Option.some.inj hm
    exact hv_iret rfl dX10_feed_29
def f_X10_feed (n : Nat) (v0 : Nat) (v1 : Int64) (v3 : Int64) (h : hp_H) : Option (Int32 × hp_H) := (hp_ck h 10 v0).bind fun _ => f_X10_feed_0 n v0 v1 v3 h
theorem c_X10_feed (G : hp_G) (n : Nat) (v0 : Nat) (v1 : Int64) (v3 : Int64) (h : hp_H) (sz sl : Nat) (res : Int32 × hp_H) (hm : f_X10_feed n v0 v1 v3 h = some res) : hp_C G m_X10_feed yX10_feed [.ref v0, .long v1, .long v3] h sz sl (some (.int res.1), res.2, sz, sl) := by
  unfold f_X10_feed at hm
  obtain ⟨_, _, hm⟩ := hp_bd hm
  exact hp_C_of (by decide) rfl rfl (Nat.le_of_ble_eq_true rfl) (Nat.le_refl _) (Nat.le_refl _) (hv_sub [0, 1, 2] rfl (q_X10_feed_0 G n v0 v1 v3 h sz sl res hm))
theorem k_X10_feed {n : Nat} {v0 : Nat} {v1 : Int64} {v3 : Int64} {h : hp_H} {res : Int32 × hp_H} (hm : f_X10_feed n v0 v1 v3 h = some res) : ∃ V, h v0 = some (.inr (.inr (10, V))) := by
  unfold f_X10_feed at hm
  obtain ⟨_, hu, _⟩ := hp_bd hm
  exact hp_ck_spec hu
abbrev m_X10_forgetAnswers : hp_M := (RX10, cX10_forgetAnswers, 1, none, 1, 20, "forgetAnswers")
theorem Z_X10_forgetAnswers : hp_Y yX10_forgetAnswers m_X10_forgetAnswers 0 := Y_X10_forgetAnswers
def f_X10_forgetAnswers_0 (n : Nat) (v0 : Nat) (h : hp_H) : Option (hp_H) :=
  (hp_pF h 10 v0 10 (.int (0 : Int32))).bind fun h1 =>
  (hp_fR h1 10 v0 5).bind fun x2 =>
  (hp_fR h1 1 x2 0).bind fun x3 =>
  (f_X5_clear n x3 h1).bind fun x4 =>
  (hp_fR x4 10 v0 7).bind fun x5 =>
  (hp_pF x4 8 x5 1 (.int (0 : Int32))).bind fun h6 =>
  some h6
set_option maxHeartbeats 1000000 in
set_option maxRecDepth 4000 in
theorem q_X10_forgetAnswers_0 (G : hp_G) (n : Nat) (v0 : Nat) (h : hp_H) (sz sl : Nat) (res : hp_H) (hm : f_X10_forgetAnswers_0 n v0 h = some res) : hp_V G m_X10_forgetAnswers 0 [(0, .ref v0)] [] h sz sl (none, res, sz, sl) := by
  have ho : sz ≤ sz ∧ sl ≤ sl := ⟨Nat.le_refl _, Nat.le_refl _⟩
  unfold f_X10_forgetAnswers_0 at hm
  refine hv_aload_n 0 dX10_forgetAnswers_0 rfl rfl ?_
  refine hv_iconst (0 : Int32) dX10_forgetAnswers_1 (by decide) ?_
  obtain ⟨h1, hh1, hm⟩ := hp_bd hm
  refine hv_put lk_f_X10_98 dX10_forgetAnswers_2 rfl rfl hh1 ?_
  refine hv_aload_n 0 dX10_forgetAnswers_5 rfl rfl ?_
  obtain ⟨x2, hx2, hm⟩ := hp_bd hm
  refine hv_get lk_f_X10_42 dX10_forgetAnswers_6 (hp_fR_spec hx2) ?_
  obtain ⟨x3, hx3, hm⟩ := hp_bd hm
  refine hv_get lk_f_X10_101 dX10_forgetAnswers_9 (hp_fR_spec hx3) ?_
  obtain ⟨x4, hx4, hm⟩ := hp_bd hm
  obtain ⟨Vx4, hVx4⟩ := k_X5_clear hx4
  refine hv_callV (As := []) (rest := []) Z_X5_clear I_X5_clear lk_m_X10_105 rfl hVx4 (c_X5_clear G n x3 h1 sz sl _ hx4) rfl (Nat.le_of_ble_eq_true rfl) ⟨Nat.le_of_ble_eq_true rfl, Nat.le_of_ble_eq_true rfl⟩ ho.1 ho.2 rfl dX10_forgetAnswers_12 ?_
  refine hv_as [] x4 rfl rfl ?_
  refine hv_aload_n 0 dX10_forgetAnswers_15 rfl rfl ?_
  obtain ⟨x5, hx5, hm⟩ := hp_bd hm
  refine hv_get lk_f_X10_57 dX10_forgetAnswers_16 (hp_fR_spec hx5) ?_
  refine hv_iconst (0 : Int32) dX10_forgetAnswers_19 (by decide) ?_
  obtain ⟨h6, hh6, hm⟩ := hp_bd hm
  refine hv_put lk_f_X10_110 dX10_forgetAnswers_20 rfl rfl hh6 ?_
  obtain rfl := Option.some.inj hm
  exact hv_vret rfl dX10_forgetAnswers_23
def f_X10_forgetAnswers (n : Nat) (v0 : Nat) (h : hp_H) : Option (hp_H) := (hp_ck h 10 v0).bind fun _ => f_X10_forgetAnswers_0 n v0 h
theorem c_X10_forgetAnswers (G : hp_G) (n : Nat) (v0 : Nat) (h : hp_H) (sz sl : Nat) (res : hp_H) (hm : f_X10_forgetAnswers n v0 h = some res) : hp_C G m_X10_forgetAnswers yX10_forgetAnswers [.ref v0] h sz sl (none, res, sz, sl) := by
  unfold f_X10_forgetAnswers at hm
  obtain ⟨_, _, hm⟩ := hp_bd hm
  exact hp_C_of (by decide) rfl rfl (Nat.le_of_ble_eq_true rfl) (Nat.le_refl _) (Nat.le_refl _) (hv_sub [0] rfl (q_X10_forgetAnswers_0 G n v0 h sz sl res hm))
theorem k_X10_forgetAnswers {n : Nat} {v0 : Nat} {h : hp_H} {res : hp_H} (hm : f_X10_forgetAnswers n v0 h = some res) : ∃ V, h v0 = some (.inr (.inr (10, V))) := by
  unfold f_X10_forgetAnswers at hm
  obtain ⟨_, hu, _⟩ := hp_bd hm
  exact hp_ck_spec hu
abbrev m_X10_read : hp_M := (RX10, cX10_read, 3, some .int, 6, 152, "read")
theorem Z_X10_read : hp_Y yX10_read m_X10_read 0 := Y_X10_read
def f_X10_read_49 (n : Nat) (v0 : Nat) (v1 : Int32) (h : hp_H) (sz sl : Nat) : Option (Int32 × hp_H × Nat × Nat) :=
  (hp_fR h 10 v0 1).bind fun x1 =>
  (hp_pF h 0 x1 2 (.int (0 : Int32))).bind fun h2 =>
  if v1 = 0 then
    (hp_fR h2 10 v0 0).bind fun x3 =>
    (hp_fI h2 0 x3 5).bind fun x4 =>
    some (x4, h2, sz, sl)
  else
    some ((-v1), h2, sz, sl)
set_option maxHeartbeats 1000000 in
set_option maxRecDepth 4000 in
theorem mo_X10_read_49 {n : Nat} {v0 : Nat} {v1 : Int32} {h : hp_H} {sz sl : Nat} {res : Int32 × hp_H × Nat × Nat} (hm : f_X10_read_49 n v0 v1 h sz sl = some res) : sz ≤ res.2.2.1 ∧ sl ≤ res.2.2.2 := by
  unfold f_X10_read_49 at hm
  obtain ⟨x1, hx1, hm⟩ := hp_bd hm
  obtain ⟨h2, hh2, hm⟩ := hp_bd hm
  rcases (Decidable.em (v1 = 0)).symm with c5 | c5
  · rw [if_neg c5] at hm
    obtain rfl := Option.some.inj hm
    exact ⟨Nat.le_refl _, Nat.le_refl _⟩
  · rw [if_pos c5] at hm
    obtain ⟨x3, hx3, hm⟩ := hp_bd hm
    obtain ⟨x4, hx4, hm⟩ := hp_bd hm
    obtain rfl := Option.some.inj hm
    exact ⟨Nat.le_refl _, Nat.le_refl _⟩
set_option maxHeartbeats 1000000 in
set_option maxRecDepth 4000 in
theorem q_X10_read_49 (G : hp_G) (n : Nat) (v0 : Nat) (v1 : Int32) (h : hp_H) (sz sl : Nat) (res : Int32 × hp_H × Nat × Nat) (hm : f_X10_read_49 n v0 v1 h sz sl = some res) : hp_V G m_X10_read 49 [(0, .ref v0), (1, .int v1)] [] h sz sl (some (.int res.1), res.2.1, res.2.2.1, res.2.2.2) := by
  have ho := mo_X10_read_49 hm
  unfold f_X10_read_49 at hm
  refine hv_aload_n 0 dX10_read_49 rfl rfl ?_
  obtain ⟨x1, hx1, hm⟩ := hp_bd hm
  refine hv_get lk_f_X10_16 dX10_read_50 (hp_fR_spec hx1) ?_
  refine hv_iconst (0 : Int32) dX10_read_53 (by decide) ?_
  obtain ⟨h2, hh2, hm⟩ := hp_bd hm
  refine hv_put lk_f_X10_68 dX10_read_54 rfl rfl hh2 ?_
  refine hv_iload_n 1 dX10_read_57 rfl rfl ?_
  refine hv_if_ne (tgt := 71) dX10_read_58 (by decide) (fun c5 => ?_) (fun c5 => ?_)
  · rw [if_neg c5] at hm
    refine hv_iload_n 1 dX10_read_71 rfl rfl ?_
    refine hv_ineg dX10_read_72 ?_
    obtain rfl := Option.some.inj hm
    exact hv_iret rfl dX10_read_73
  · rw [if_pos c5] at hm
    refine hv_aload_n 0 dX10_read_61 rfl rfl ?_
    obtain ⟨x3, hx3, hm⟩ := hp_bd hm
    refine hv_get lk_f_X10_12 dX10_read_62 (hp_fR_spec hx3) ?_
    obtain ⟨x4, hx4, hm⟩ := hp_bd hm
    refine hv_get lk_f_X10_95 dX10_read_65 (hp_fI_spec hx4) ?_
    refine hv_goto (tgt := 73) dX10_read_68 (by decide) ?_
    obtain rfl := Option.some.inj hm
    exact hv_iret rfl dX10_read_73
def f_X10_read_15 (n : Nat) (v0 : Nat) (s0 : Int32) (h : hp_H) (sz sl : Nat) : Option (Int32 × hp_H × Nat × Nat) :=
  (hp_fR h 10 v0 2).bind fun x1 =>
  (hp_fI h 4 x1 0).bind fun x2 =>
  (hp_pF h 10 v0 9 (.int x2)).bind fun h3 =>
  if s0 = 0 then
    (hp_fR h3 10 v0 0).bind fun x4 =>
    (hp_fR h3 10 v0 1).bind fun x5 =>
    (hp_pF h3 10 v0 0 (.ref x5)).bind fun h6 =>
    (hp_pF h6 10 v0 1 (.ref x4)).bind fun h7 =>
    f_X10_read_49 n v0 s0 h7 sz sl
  else
    f_X10_read_49 n v0 s0 h3 sz sl
set_option maxHeartbeats 1000000 in
set_option maxRecDepth 4000 in
theorem mo_X10_read_15 {n : Nat} {v0 : Nat} {s0 : Int32} {h : hp_H} {sz sl : Nat} {res : Int32 × hp_H × Nat × Nat} (hm : f_X10_read_15 n v0 s0 h sz sl = some res) : sz ≤ res.2.2.1 ∧ sl ≤ res.2.2.2 := by
  unfold f_X10_read_15 at hm
  obtain ⟨x1, hx1, hm⟩ := hp_bd hm
  obtain ⟨x2, hx2, hm⟩ := hp_bd hm
  obtain ⟨h3, hh3, hm⟩ := hp_bd hm
  rcases (Decidable.em (s0 = 0)).symm with c8 | c8
  · rw [if_neg c8] at hm
    exact mo_X10_read_49 hm
  · rw [if_pos c8] at hm
    obtain ⟨x4, hx4, hm⟩ := hp_bd hm
    obtain ⟨x5, hx5, hm⟩ := hp_bd hm
    obtain ⟨h6, hh6, hm⟩ := hp_bd hm
    obtain ⟨h7, hh7, hm⟩ := hp_bd hm
    exact mo_X10_read_49 hm
set_option maxHeartbeats 1000000 in
set_option maxRecDepth 4000 in
theorem q_X10_read_15 (G : hp_G) (n : Nat) (v0 : Nat) (s0 : Int32) (h : hp_H) (sz sl : Nat) (res : Int32 × hp_H × Nat × Nat) (hm : f_X10_read_15 n v0 s0 h sz sl = some res) : hp_V G m_X10_read 15 [(0, .ref v0)] [.int s0] h sz sl (some (.int res.1), res.2.1, res.2.2.1, res.2.2.2) := by
  have ho := mo_X10_read_15 hm
  unfold f_X10_read_15 at hm
  refine hv_istore_n [(1, .int s0), (0, .ref v0)] dX10_read_15 rfl (by decide) rfl ?_
  refine hv_aload_n 1 dX10_read_16 rfl rfl ?_
  refine hv_aload_n 1 dX10_read_17 rfl rfl ?_
  obtain ⟨x1, hx1, hm⟩ := hp_bd hm
  refine hv_get lk_f_X10_24 dX10_read_18 (hp_fR_spec hx1) ?_
  obtain ⟨x2, hx2, hm⟩ := hp_bd hm
  refine hv_get lk_f_X10_89 dX10_read_21 (hp_fI_spec hx2) ?_
  obtain ⟨h3, hh3, hm⟩ := hp_bd hm
  refine hv_put lk_f_X10_92 dX10_read_24 rfl rfl hh3 ?_
  refine hv_iload_n 0 dX10_read_27 rfl rfl ?_
  refine hv_if_ne (tgt := 49) dX10_read_28 (by decide) (fun c8 => ?_) (fun c8 => ?_)
  · rw [if_neg c8] at hm
    exact hv_sub [1, 0] rfl (q_X10_read_49 G n v0 s0 h3 sz sl _ hm)
  · rw [if_pos c8] at hm
    refine hv_aload_n 1 dX10_read_31 rfl rfl ?_
    obtain ⟨x4, hx4, hm⟩ := hp_bd hm
    refine hv_get lk_f_X10_12 dX10_read_32 (hp_fR_spec hx4) ?_
    refine hv_astore_n [(2, .ref x4), (1, .int s0), (0, .ref v0)] dX10_read_35 rfl (by decide) rfl ?_
    refine hv_aload_n 2 dX10_read_36 rfl rfl ?_
    refine hv_aload_n 2 dX10_read_37 rfl rfl ?_
    obtain ⟨x5, hx5, hm⟩ := hp_bd hm
    refine hv_get lk_f_X10_16 dX10_read_38 (hp_fR_spec hx5) ?_
    obtain ⟨h6, hh6, hm⟩ := hp_bd hm
    refine hv_put lk_f_X10_12 dX10_read_41 rfl rfl hh6 ?_
    refine hv_aload_n 2 dX10_read_44 rfl rfl ?_
    refine hv_aload_n 0 dX10_read_45 rfl rfl ?_
    obtain ⟨h7, hh7, hm⟩ := hp_bd hm
    refine hv_put lk_f_X10_16 dX10_read_46 rfl rfl hh7 ?_
    exact hv_sub [2, 1] rfl (q_X10_read_49 G n v0 s0 h7 sz sl _ hm)
def f_X10_read_0 (n : Nat) (v0 : Nat) (h : hp_H) (sz sl : Nat) : Option (Int32 × hp_H × Nat × Nat) :=
  (f_X10_forgetAnswers n v0 h).bind fun x1 =>
  (hp_fR x1 10 v0 2).bind fun x2 =>
  (hp_fR x1 10 v0 1).bind fun x3 =>
  (f_X4_readBook n x2 x3 x1 sz sl).bind fun x4 =>
  f_X10_read_15 n v0 x4.1 x4.2.1 x4.2.2.1 x4.2.2.2
set_option maxHeartbeats 1000000 in
set_option maxRecDepth 4000 in
theorem mo_X10_read_0 {n : Nat} {v0 : Nat} {h : hp_H} {sz sl : Nat} {res : Int32 × hp_H × Nat × Nat} (hm : f_X10_read_0 n v0 h sz sl = some res) : sz ≤ res.2.2.1 ∧ sl ≤ res.2.2.2 := by
  unfold f_X10_read_0 at hm
  obtain ⟨x1, hx1, hm⟩ := hp_bd hm
  obtain ⟨x2, hx2, hm⟩ := hp_bd hm
  obtain ⟨x3, hx3, hm⟩ := hp_bd hm
  obtain ⟨x4, hx4, hm⟩ := hp_bd hm
  exact hp_tr (mx_X4_readBook hx4) (mo_X10_read_15 hm)
set_option maxHeartbeats 1000000 in
set_option maxRecDepth 4000 in
theorem q_X10_read_0 (G : hp_G) (n : Nat) (v0 : Nat) (h : hp_H) (sz sl : Nat) (res : Int32 × hp_H × Nat × Nat) (hm : f_X10_read_0 n v0 h sz sl = some res) : hp_V G m_X10_read 0 [(0, .ref v0)] [] h sz sl (some (.int res.1), res.2.1, res.2.2.1, res.2.2.2) := by
  have ho := mo_X10_read_0 hm
  unfold f_X10_read_0 at hm
  refine hv_aload_n 0 dX10_read_0 rfl rfl ?_
  obtain ⟨x1, hx1, hm⟩ := hp_bd hm
  obtain ⟨Vx1, hVx1⟩ := k_X10_forgetAnswers hx1
  refine hv_callV (As := []) (rest := []) Z_X10_forgetAnswers I_X10_forgetAnswers lk_m_X10_82 rfl hVx1 (c_X10_forgetAnswers G n v0 h sz sl _ hx1) rfl (Nat.le_of_ble_eq_true rfl) ⟨Nat.le_of_ble_eq_true rfl, Nat.le_of_ble_eq_true rfl⟩ ho.1 ho.2 rfl dX10_read_1 ?_
  refine hv_as [] x1 rfl rfl ?_
  refine hv_aload_n 0 dX10_read_4 rfl rfl ?_
  obtain ⟨x2, hx2, hm⟩ := hp_bd hm
  refine hv_get lk_f_X10_24 dX10_read_5 (hp_fR_spec hx2) ?_
  refine hv_aload_n 0 dX10_read_8 rfl rfl ?_
  obtain ⟨x3, hx3, hm⟩ := hp_bd hm
  refine hv_get lk_f_X10_16 dX10_read_9 (hp_fR_spec hx3) ?_
  obtain ⟨x4, hx4, hm⟩ := hp_bd hm
  have hq := mo_X10_read_15 hm
  obtain ⟨Vx4, hVx4⟩ := k_X4_readBook hx4
  refine hv_callV (As := [.ref x3]) (rest := []) Z_X4_readBook I_X4_readBook lk_m_X10_85 rfl hVx4 (c_X4_readBook G n x2 x3 x1 sz sl _ hx4) rfl (Nat.le_of_ble_eq_true rfl) ⟨Nat.le_of_ble_eq_true rfl, Nat.le_of_ble_eq_true rfl⟩ hq.1 hq.2 rfl dX10_read_12 ?_
  refine hv_as2 [.int x4.1] x4.2.1 x4.2.2.1 x4.2.2.2 rfl rfl rfl rfl ?_
  exact hv_sub [0] rfl (q_X10_read_15 G n v0 x4.1 x4.2.1 x4.2.2.1 x4.2.2.2 _ hm)
def f_X10_read (n : Nat) (v0 : Nat) (h : hp_H) (sz sl : Nat) : Option (Int32 × hp_H × Nat × Nat) := (hp_ck h 10 v0).bind fun _ => f_X10_read_0 n v0 h sz sl
theorem c_X10_read (G : hp_G) (n : Nat) (v0 : Nat) (h : hp_H) (sz sl : Nat) (res : Int32 × hp_H × Nat × Nat) (hm : f_X10_read n v0 h sz sl = some res) : hp_C G m_X10_read yX10_read [.ref v0] h sz sl (some (.int res.1), res.2.1, res.2.2.1, res.2.2.2) := by
  unfold f_X10_read at hm
  obtain ⟨_, _, hm⟩ := hp_bd hm
  exact hp_C_of (by decide) rfl rfl (Nat.le_of_ble_eq_true rfl) (mo_X10_read_0 hm).1 (mo_X10_read_0 hm).2 (hv_sub [0] rfl (q_X10_read_0 G n v0 h sz sl res hm))
theorem k_X10_read {n : Nat} {v0 : Nat} {h : hp_H} {sz sl : Nat} {res : Int32 × hp_H × Nat × Nat} (hm : f_X10_read n v0 h sz sl = some res) : ∃ V, h v0 = some (.inr (.inr (10, V))) := by
  unfold f_X10_read at hm
  obtain ⟨_, hu, _⟩ := hp_bd hm
  exact hp_ck_spec hu
theorem mx_X10_read {n : Nat} {v0 : Nat} {h : hp_H} {sz sl : Nat} {res : Int32 × hp_H × Nat × Nat} (hm : f_X10_read n v0 h sz sl = some res) : sz ≤ res.2.2.1 ∧ sl ≤ res.2.2.2 := by
  unfold f_X10_read at hm
  obtain ⟨_, _, hm⟩ := hp_bd hm
  exact mo_X10_read_0 hm
abbrev m_X10_place : hp_M := (RX10, cX10_place, 1, some .int, 0, 0, "place")
theorem Z_X10_place : hp_Y yX10_place m_X10_place 0 := Y_X10_place
def f_X10_place_0 (n : Nat) (v0 : Nat) (h : hp_H) : Option (Int32) :=
  (hp_fI h 10 v0 9).bind fun x1 =>
  some x1
set_option maxHeartbeats 1000000 in
set_option maxRecDepth 4000 in
theorem q_X10_place_0 (G : hp_G) (n : Nat) (v0 : Nat) (h : hp_H) (sz sl : Nat) (res : Int32) (hm : f_X10_place_0 n v0 h = some res) : hp_V G m_X10_place 0 [(0, .ref v0)] [] h sz sl (some (.int res), h, sz, sl) := by
  have ho : sz ≤ sz ∧ sl ≤ sl := ⟨Nat.le_refl _, Nat.le_refl _⟩
  unfold f_X10_place_0 at hm
  refine hv_aload_n 0 dX10_place_0 rfl rfl ?_
  obtain ⟨x1, hx1, hm⟩ := hp_bd hm
  refine hv_get lk_f_X10_92 dX10_place_1 (hp_fI_spec hx1) ?_
  obtain rfl := Option.some.inj hm
  exact hv_iret rfl dX10_place_4
def f_X10_place (n : Nat) (v0 : Nat) (h : hp_H) : Option (Int32) := (hp_ck h 10 v0).bind fun _ => f_X10_place_0 n v0 h
theorem c_X10_place (G : hp_G) (n : Nat) (v0 : Nat) (h : hp_H) (sz sl : Nat) (res : Int32) (hm : f_X10_place n v0 h = some res) : hp_C G m_X10_place yX10_place [.ref v0] h sz sl (some (.int res), h, sz, sl) := by
  unfold f_X10_place at hm
  obtain ⟨_, _, hm⟩ := hp_bd hm
  exact hp_C_of (by decide) rfl rfl (Nat.le_of_ble_eq_true rfl) (Nat.le_refl _) (Nat.le_refl _) (hv_sub [0] rfl (q_X10_place_0 G n v0 h sz sl res hm))
theorem k_X10_place {n : Nat} {v0 : Nat} {h : hp_H} {res : Int32} (hm : f_X10_place n v0 h = some res) : ∃ V, h v0 = some (.inr (.inr (10, V))) := by
  unfold f_X10_place at hm
  obtain ⟨_, hu, _⟩ := hp_bd hm
  exact hp_ck_spec hu
abbrev m_X10_count : hp_M := (RX10, cX10_count, 2, some .int, 0, 0, "count")
theorem Z_X10_count : hp_Y yX10_count m_X10_count 1 := Y_X10_count
def f_X10_count_0 (n : Nat) (v0 : Nat) (v1 : Int32) (h : hp_H) : Option (Int32) :=
  if v1 = (0 : Int32) then
    (hp_fR h 10 v0 0).bind fun x2 =>
    (hp_fI h 0 x2 3).bind fun x3 =>
    some x3
  else if v1 = (1 : Int32) then
    (hp_fR h 10 v0 0).bind fun x5 =>
    (hp_fI h 0 x5 5).bind fun x6 =>
    some x6
  else if v1 = (2 : Int32) then
    (hp_fR h 10 v0 1).bind fun x8 =>
    (hp_fI h 0 x8 2).bind fun x9 =>
    some x9
  else if v1 = (3 : Int32) then
    (hp_fR h 10 v0 7).bind fun x11 =>
    (hp_fI h 8 x11 1).bind fun x12 =>
    some x12
  else if v1 = (4 : Int32) then
    (hp_fR h 10 v0 5).bind fun x14 =>
    (hp_fR h 1 x14 0).bind fun x15 =>
    (hp_fI h 5 x15 3).bind fun x16 =>
    some x16
  else 
    some (-1 : Int32)
set_option maxHeartbeats 1000000 in
set_option maxRecDepth 4000 in
theorem q_X10_count_0 (G : hp_G) (n : Nat) (v0 : Nat) (v1 : Int32) (h : hp_H) (sz sl : Nat) (res : Int32) (hm : f_X10_count_0 n v0 v1 h = some res) : hp_V G m_X10_count 0 [(0, .ref v0), (1, .int v1)] [] h sz sl (some (.int res), h, sz, sl) := by
  have ho : sz ≤ sz ∧ sl ≤ sl := ⟨Nat.le_refl _, Nat.le_refl _⟩
  unfold f_X10_count_0 at hm
  refine hv_iload_n 1 dX10_count_0 rfl rfl ?_
  by_cases c1 : v1 = (0 : Int32)
  · rw [if_pos c1] at hm
    refine hv_tabIn (off := 35) (tgt := 36) dX10_count_1 (by rw [c1]; decide) (by rw [c1]; decide) (by rw [c1]; rfl) (by decide) ?_
    refine hv_aload_n 0 dX10_count_36 rfl rfl ?_
    obtain ⟨x2, hx2, hm⟩ := hp_bd hm
    refine hv_get lk_f_X10_12 dX10_count_37 (hp_fR_spec hx2) ?_
    obtain ⟨x3, hx3, hm⟩ := hp_bd hm
    refine hv_get lk_f_X10_111 dX10_count_40 (hp_fI_spec hx3) ?_
    obtain rfl := Option.some.inj hm
    exact hv_iret rfl dX10_count_43
  rw [if_neg c1] at hm
  by_cases c4 : v1 = (1 : Int32)
  · rw [if_pos c4] at hm
    refine hv_tabIn (off := 43) (tgt := 44) dX10_count_1 (by rw [c4]; decide) (by rw [c4]; decide) (by rw [c4]; rfl) (by decide) ?_
    refine hv_aload_n 0 dX10_count_44 rfl rfl ?_
    obtain ⟨x5, hx5, hm⟩ := hp_bd hm
    refine hv_get lk_f_X10_12 dX10_count_45 (hp_fR_spec hx5) ?_
    obtain ⟨x6, hx6, hm⟩ := hp_bd hm
    refine hv_get lk_f_X10_95 dX10_count_48 (hp_fI_spec hx6) ?_
    obtain rfl := Option.some.inj hm
    exact hv_iret rfl dX10_count_51
  rw [if_neg c4] at hm
  by_cases c7 : v1 = (2 : Int32)
  · rw [if_pos c7] at hm
    refine hv_tabIn (off := 51) (tgt := 52) dX10_count_1 (by rw [c7]; decide) (by rw [c7]; decide) (by rw [c7]; rfl) (by decide) ?_
    refine hv_aload_n 0 dX10_count_52 rfl rfl ?_
    obtain ⟨x8, hx8, hm⟩ := hp_bd hm
    refine hv_get lk_f_X10_16 dX10_count_53 (hp_fR_spec hx8) ?_
    obtain ⟨x9, hx9, hm⟩ := hp_bd hm
    refine hv_get lk_f_X10_68 dX10_count_56 (hp_fI_spec hx9) ?_
    obtain rfl := Option.some.inj hm
    exact hv_iret rfl dX10_count_59
  rw [if_neg c7] at hm
  by_cases c10 : v1 = (3 : Int32)
  · rw [if_pos c10] at hm
    refine hv_tabIn (off := 59) (tgt := 60) dX10_count_1 (by rw [c10]; decide) (by rw [c10]; decide) (by rw [c10]; rfl) (by decide) ?_
    refine hv_aload_n 0 dX10_count_60 rfl rfl ?_
    obtain ⟨x11, hx11, hm⟩ := hp_bd hm
    refine hv_get lk_f_X10_57 dX10_count_61 (hp_fR_spec hx11) ?_
    obtain ⟨x12, hx12, hm⟩ := hp_bd hm
    refine hv_get lk_f_X10_110 dX10_count_64 (hp_fI_spec hx12) ?_
    obtain rfl := Option.some.inj hm
    exact hv_iret rfl dX10_count_67
  rw [if_neg c10] at hm
  by_cases c13 : v1 = (4 : Int32)
  · rw [if_pos c13] at hm
    refine hv_tabIn (off := 67) (tgt := 68) dX10_count_1 (by rw [c13]; decide) (by rw [c13]; decide) (by rw [c13]; rfl) (by decide) ?_
    refine hv_aload_n 0 dX10_count_68 rfl rfl ?_
    obtain ⟨x14, hx14, hm⟩ := hp_bd hm
    refine hv_get lk_f_X10_42 dX10_count_69 (hp_fR_spec hx14) ?_
    obtain ⟨x15, hx15, hm⟩ := hp_bd hm
    refine hv_get lk_f_X10_101 dX10_count_72 (hp_fR_spec hx15) ?_
    obtain ⟨x16, hx16, hm⟩ := hp_bd hm
    refine hv_get lk_f_X10_114 dX10_count_75 (hp_fI_spec hx16) ?_
    obtain rfl := Option.some.inj hm
    exact hv_iret rfl dX10_count_78
  rw [if_neg c13] at hm
  have nc1 := lv_neT c1 (show (0 : Int32).toInt = 0 by decide)
  have nc4 := lv_neT c4 (show (1 : Int32).toInt = 1 by decide)
  have nc7 := lv_neT c7 (show (2 : Int32).toInt = 2 by decide)
  have nc10 := lv_neT c10 (show (3 : Int32).toInt = 3 by decide)
  have nc13 := lv_neT c13 (show (4 : Int32).toInt = 4 by decide)
  refine hv_tabOut (tgt := 79) dX10_count_1 (by omega) (by decide) ?_
  refine hv_iconst (-1 : Int32) dX10_count_79 (by decide) ?_
  obtain rfl := Option.some.inj hm
  exact hv_iret rfl dX10_count_80
def f_X10_count (n : Nat) (v0 : Nat) (v1 : Int32) (h : hp_H) : Option (Int32) := (hp_ck h 10 v0).bind fun _ => f_X10_count_0 n v0 v1 h
theorem c_X10_count (G : hp_G) (n : Nat) (v0 : Nat) (v1 : Int32) (h : hp_H) (sz sl : Nat) (res : Int32) (hm : f_X10_count n v0 v1 h = some res) : hp_C G m_X10_count yX10_count [.ref v0, .int v1] h sz sl (some (.int res), h, sz, sl) := by
  unfold f_X10_count at hm
  obtain ⟨_, _, hm⟩ := hp_bd hm
  exact hp_C_of (by decide) rfl rfl (Nat.le_of_ble_eq_true rfl) (Nat.le_refl _) (Nat.le_refl _) (hv_sub [0, 1] rfl (q_X10_count_0 G n v0 v1 h sz sl res hm))
theorem k_X10_count {n : Nat} {v0 : Nat} {v1 : Int32} {h : hp_H} {res : Int32} (hm : f_X10_count n v0 v1 h = some res) : ∃ V, h v0 = some (.inr (.inr (10, V))) := by
  unfold f_X10_count at hm
  obtain ⟨_, hu, _⟩ := hp_bd hm
  exact hp_ck_spec hu
abbrev m_X10_statement : hp_M := (RX10, cX10_statement, 3, some .int, 1, 21, "statement")
theorem Z_X10_statement : hp_Y yX10_statement m_X10_statement 2 := Y_X10_statement
def f_X10_statement_0 (n : Nat) (v0 : Nat) (v1 : Int32) (v2 : Int32) (h : hp_H) : Option (Int32) :=
  (hp_fR h 10 v0 0).bind fun x1 =>
  (f_X0_isStatement n x1 v1 h).bind fun x2 =>
  if x2 = 0 then
    some (-1 : Int32)
  else
    if v2 = (0 : Int32) then
      (hp_fR h 10 v0 0).bind fun x4 =>
      (hp_fR h 0 x4 6).bind fun x5 =>
      (hp_aI h 0 x5 v1).bind fun x6 =>
      some x6
    else if v2 = (1 : Int32) then
      (hp_fR h 10 v0 0).bind fun x8 =>
      (hp_fR h 0 x8 9).bind fun x9 =>
      (f_X5_size n x9 v1 h).bind fun x10 =>
      some x10
    else if v2 = (2 : Int32) then
      (hp_fR h 10 v0 0).bind fun x12 =>
      (hp_fR h 0 x12 7).bind fun x13 =>
      (hp_aI h 0 x13 v1).bind fun x14 =>
      some x14
    else if v2 = (3 : Int32) then
      (hp_fR h 10 v0 0).bind fun x16 =>
      (hp_fR h 0 x16 12).bind fun x17 =>
      (f_X5_size n x17 v1 h).bind fun x18 =>
      some x18
    else if v2 = (4 : Int32) then
      (hp_fR h 10 v0 0).bind fun x20 =>
      (hp_fR h 0 x20 13).bind fun x21 =>
      (f_X5_size n x21 v1 h).bind fun x22 =>
      some x22
    else if v2 = (5 : Int32) then
      (hp_fR h 10 v0 0).bind fun x24 =>
      (hp_fR h 0 x24 10).bind fun x25 =>
      (f_X5_size n x25 v1 h).bind fun x26 =>
      some x26
    else 
      some (-1 : Int32)
set_option maxHeartbeats 1000000 in
set_option maxRecDepth 4000 in
theorem q_X10_statement_0 (G : hp_G) (n : Nat) (v0 : Nat) (v1 : Int32) (v2 : Int32) (h : hp_H) (sz sl : Nat) (res : Int32) (hm : f_X10_statement_0 n v0 v1 v2 h = some res) : hp_V G m_X10_statement 0 [(0, .ref v0), (1, .int v1), (2, .int v2)] [] h sz sl (some (.int res), h, sz, sl) := by
  have ho : sz ≤ sz ∧ sl ≤ sl := ⟨Nat.le_refl _, Nat.le_refl _⟩
  unfold f_X10_statement_0 at hm
  refine hv_aload_n 0 dX10_statement_0 rfl rfl ?_
  obtain ⟨x1, hx1, hm⟩ := hp_bd hm
  refine hv_get lk_f_X10_12 dX10_statement_1 (hp_fR_spec hx1) ?_
  refine hv_iload_n 1 dX10_statement_4 rfl rfl ?_
  obtain ⟨x2, hx2, hm⟩ := hp_bd hm
  obtain ⟨Vx2, hVx2⟩ := k_X0_isStatement hx2
  refine hv_callV (As := [.int v1]) (rest := []) Z_X0_isStatement I_X0_isStatement lk_m_X10_117 rfl hVx2 (c_X0_isStatement G n x1 v1 h sz sl _ hx2) rfl (Nat.le_of_ble_eq_true rfl) ⟨Nat.le_of_ble_eq_true rfl, Nat.le_of_ble_eq_true rfl⟩ ho.1 ho.2 rfl dX10_statement_5 ?_
  refine hv_as [.int x2] h rfl rfl ?_
  refine hv_if_ne (tgt := 13) dX10_statement_8 (by decide) (fun c27 => ?_) (fun c27 => ?_)
  · rw [if_neg c27] at hm
    refine hv_iload_n 2 dX10_statement_13 rfl rfl ?_
    by_cases c3 : v2 = (0 : Int32)
    · rw [if_pos c3] at hm
      refine hv_tabIn (off := 38) (tgt := 52) dX10_statement_14 (by rw [c3]; decide) (by rw [c3]; decide) (by rw [c3]; rfl) (by decide) ?_
      refine hv_aload_n 0 dX10_statement_52 rfl rfl ?_
      obtain ⟨x4, hx4, hm⟩ := hp_bd hm
      refine hv_get lk_f_X10_12 dX10_statement_53 (hp_fR_spec hx4) ?_
      obtain ⟨x5, hx5, hm⟩ := hp_bd hm
      refine hv_get lk_f_X10_121 dX10_statement_56 (hp_fR_spec hx5) ?_
      refine hv_iload_n 1 dX10_statement_59 rfl rfl ?_
      obtain ⟨x6, hx6, hm⟩ := hp_bd hm
      refine hv_iald dX10_statement_60 hx6 ?_
      obtain rfl := Option.some.inj hm
      exact hv_iret rfl dX10_statement_61
    rw [if_neg c3] at hm
    by_cases c7 : v2 = (1 : Int32)
    · rw [if_pos c7] at hm
      refine hv_tabIn (off := 48) (tgt := 62) dX10_statement_14 (by rw [c7]; decide) (by rw [c7]; decide) (by rw [c7]; rfl) (by decide) ?_
      refine hv_aload_n 0 dX10_statement_62 rfl rfl ?_
      obtain ⟨x8, hx8, hm⟩ := hp_bd hm
      refine hv_get lk_f_X10_12 dX10_statement_63 (hp_fR_spec hx8) ?_
      obtain ⟨x9, hx9, hm⟩ := hp_bd hm
      refine hv_get lk_f_X10_125 dX10_statement_66 (hp_fR_spec hx9) ?_
      refine hv_iload_n 1 dX10_statement_69 rfl rfl ?_
      obtain ⟨x10, hx10, hm⟩ := hp_bd hm
      obtain ⟨Vx10, hVx10⟩ := k_X5_size hx10
      refine hv_callV (As := [.int v1]) (rest := []) Z_X5_size I_X5_size lk_m_X10_128 rfl hVx10 (c_X5_size G n x9 v1 h sz sl _ hx10) rfl (Nat.le_of_ble_eq_true rfl) ⟨Nat.le_of_ble_eq_true rfl, Nat.le_of_ble_eq_true rfl⟩ ho.1 ho.2 rfl dX10_statement_70 ?_
      refine hv_as [.int x10] h rfl rfl ?_
      obtain rfl := Option.some.inj hm
      exact hv_iret rfl dX10_statement_73
    rw [if_neg c7] at hm
    by_cases c11 : v2 = (2 : Int32)
    · rw [if_pos c11] at hm
      refine hv_tabIn (off := 60) (tgt := 74) dX10_statement_14 (by rw [c11]; decide) (by rw [c11]; decide) (by rw [c11]; rfl) (by decide) ?_
      refine hv_aload_n 0 dX10_statement_74 rfl rfl ?_
      obtain ⟨x12, hx12, hm⟩ := hp_bd hm
      refine hv_get lk_f_X10_12 dX10_statement_75 (hp_fR_spec hx12) ?_
      obtain ⟨x13, hx13, hm⟩ := hp_bd hm
      refine hv_get lk_f_X10_132 dX10_statement_78 (hp_fR_spec hx13) ?_
      refine hv_iload_n 1 dX10_statement_81 rfl rfl ?_
      obtain ⟨x14, hx14, hm⟩ := hp_bd hm
      refine hv_iald dX10_statement_82 hx14 ?_
      obtain rfl := Option.some.inj hm
      exact hv_iret rfl dX10_statement_83
    rw [if_neg c11] at hm
    by_cases c15 : v2 = (3 : Int32)
    · rw [if_pos c15] at hm
      refine hv_tabIn (off := 70) (tgt := 84) dX10_statement_14 (by rw [c15]; decide) (by rw [c15]; decide) (by rw [c15]; rfl) (by decide) ?_
      refine hv_aload_n 0 dX10_statement_84 rfl rfl ?_
      obtain ⟨x16, hx16, hm⟩ := hp_bd hm
      refine hv_get lk_f_X10_12 dX10_statement_85 (hp_fR_spec hx16) ?_
      obtain ⟨x17, hx17, hm⟩ := hp_bd hm
      refine hv_get lk_f_X10_135 dX10_statement_88 (hp_fR_spec hx17) ?_
      refine hv_iload_n 1 dX10_statement_91 rfl rfl ?_
      obtain ⟨x18, hx18, hm⟩ := hp_bd hm
      obtain ⟨Vx18, hVx18⟩ := k_X5_size hx18
      refine hv_callV (As := [.int v1]) (rest := []) Z_X5_size I_X5_size lk_m_X10_128 rfl hVx18 (c_X5_size G n x17 v1 h sz sl _ hx18) rfl (Nat.le_of_ble_eq_true rfl) ⟨Nat.le_of_ble_eq_true rfl, Nat.le_of_ble_eq_true rfl⟩ ho.1 ho.2 rfl dX10_statement_92 ?_
      refine hv_as [.int x18] h rfl rfl ?_
      obtain rfl := Option.some.inj hm
      exact hv_iret rfl dX10_statement_95
    rw [if_neg c15] at hm
    by_cases c19 : v2 = (4 : Int32)
    · rw [if_pos c19] at hm
      refine hv_tabIn (off := 82) (tgt := 96) dX10_statement_14 (by rw [c19]; decide) (by rw [c19]; decide) (by rw [c19]; rfl) (by decide) ?_
      refine hv_aload_n 0 dX10_statement_96 rfl rfl ?_
      obtain ⟨x20, hx20, hm⟩ := hp_bd hm
      refine hv_get lk_f_X10_12 dX10_statement_97 (hp_fR_spec hx20) ?_
      obtain ⟨x21, hx21, hm⟩ := hp_bd hm
      refine hv_get lk_f_X10_138 dX10_statement_100 (hp_fR_spec hx21) ?_
      refine hv_iload_n 1 dX10_statement_103 rfl rfl ?_
      obtain ⟨x22, hx22, hm⟩ := hp_bd hm
      obtain ⟨Vx22, hVx22⟩ := k_X5_size hx22
      refine hv_callV (As := [.int v1]) (rest := []) Z_X5_size I_X5_size lk_m_X10_128 rfl hVx22 (c_X5_size G n x21 v1 h sz sl _ hx22) rfl (Nat.le_of_ble_eq_true rfl) ⟨Nat.le_of_ble_eq_true rfl, Nat.le_of_ble_eq_true rfl⟩ ho.1 ho.2 rfl dX10_statement_104 ?_
      refine hv_as [.int x22] h rfl rfl ?_
      obtain rfl := Option.some.inj hm
      exact hv_iret rfl dX10_statement_107
    rw [if_neg c19] at hm
    by_cases c23 : v2 = (5 : Int32)
    · rw [if_pos c23] at hm
      refine hv_tabIn (off := 94) (tgt := 108) dX10_statement_14 (by rw [c23]; decide) (by rw [c23]; decide) (by rw [c23]; rfl) (by decide) ?_
      refine hv_aload_n 0 dX10_statement_108 rfl rfl ?_
      obtain ⟨x24, hx24, hm⟩ := hp_bd hm
      refine hv_get lk_f_X10_12 dX10_statement_109 (hp_fR_spec hx24) ?_
      obtain ⟨x25, hx25, hm⟩ := hp_bd hm
      refine hv_get lk_f_X10_141 dX10_statement_112 (hp_fR_spec hx25) ?_
      refine hv_iload_n 1 dX10_statement_115 rfl rfl ?_
      obtain ⟨x26, hx26, hm⟩ := hp_bd hm
      obtain ⟨Vx26, hVx26⟩ := k_X5_size hx26
      refine hv_callV (As := [.int v1]) (rest := []) Z_X5_size I_X5_size lk_m_X10_128 rfl hVx26 (c_X5_size G n x25 v1 h sz sl _ hx26) rfl (Nat.le_of_ble_eq_true rfl) ⟨Nat.le_of_ble_eq_true rfl, Nat.le_of_ble_eq_true rfl⟩ ho.1 ho.2 rfl dX10_statement_116 ?_
      refine hv_as [.int x26] h rfl rfl ?_
      obtain rfl := Option.some.inj hm
      exact hv_iret rfl dX10_statement_119
    rw [if_neg c23] at hm
    have nc3 := lv_neT c3 (show (0 : Int32).toInt = 0 by decide)
    have nc7 := lv_neT c7 (show (1 : Int32).toInt = 1 by decide)
    have nc11 := lv_neT c11 (show (2 : Int32).toInt = 2 by decide)
    have nc15 := lv_neT c15 (show (3 : Int32).toInt = 3 by decide)
    have nc19 := lv_neT c19 (show (4 : Int32).toInt = 4 by decide)
    have nc23 := lv_neT c23 (show (5 : Int32).toInt = 5 by decide)
    refine hv_tabOut (tgt := 120) dX10_statement_14 (by omega) (by decide) ?_
    refine hv_iconst (-1 : Int32) dX10_statement_120 (by decide) ?_
    obtain rfl := Option.some.inj hm
    exact hv_iret rfl dX10_statement_121
  · rw [if_pos c27] at hm
    refine hv_iconst (-1 : Int32) dX10_statement_11 (by decide) ?_
    obtain rfl := Option.some.inj hm
    exact hv_iret rfl dX10_statement_12
def f_X10_statement (n : Nat) (v0 : Nat) (v1 : Int32) (v2 : Int32) (h : hp_H) : Option (Int32) := (hp_ck h 10 v0).bind fun _ => f_X10_statement_0 n v0 v1 v2 h
theorem c_X10_statement (G : hp_G) (n : Nat) (v0 : Nat) (v1 : Int32) (v2 : Int32) (h : hp_H) (sz sl : Nat) (res : Int32) (hm : f_X10_statement n v0 v1 v2 h = some res) : hp_C G m_X10_statement yX10_statement [.ref v0, .int v1, .int v2] h sz sl (some (.int res), h, sz, sl) := by
  unfold f_X10_statement at hm
  obtain ⟨_, _, hm⟩ := hp_bd hm
  exact hp_C_of (by decide) rfl rfl (Nat.le_of_ble_eq_true rfl) (Nat.le_refl _) (Nat.le_refl _) (hv_sub [0, 1, 2] rfl (q_X10_statement_0 G n v0 v1 v2 h sz sl res hm))
theorem k_X10_statement {n : Nat} {v0 : Nat} {v1 : Int32} {v2 : Int32} {h : hp_H} {res : Int32} (hm : f_X10_statement n v0 v1 v2 h = some res) : ∃ V, h v0 = some (.inr (.inr (10, V))) := by
  unfold f_X10_statement at hm
  obtain ⟨_, hu, _⟩ := hp_bd hm
  exact hp_ck_spec hu
abbrev m_X10_symbol : hp_M := (RX10, cX10_symbol, 3, some .int, 1, 22, "symbol")
theorem Z_X10_symbol : hp_Y yX10_symbol m_X10_symbol 2 := Y_X10_symbol
def f_X10_symbol_0 (n : Nat) (v0 : Nat) (v1 : Int32) (v2 : Int32) (h : hp_H) : Option (Int32) :=
  (hp_fR h 10 v0 0).bind fun x1 =>
  (f_X0_isStatement n x1 v1 h).bind fun x2 =>
  if x2 = 0 then
    some (-1 : Int32)
  else
    (hp_fR h 10 v0 0).bind fun x3 =>
    (hp_fR h 0 x3 9).bind fun x4 =>
    (f_X5_get n x4 v1 v2 h).bind fun x5 =>
    some x5
set_option maxHeartbeats 1000000 in
set_option maxRecDepth 4000 in
theorem q_X10_symbol_0 (G : hp_G) (n : Nat) (v0 : Nat) (v1 : Int32) (v2 : Int32) (h : hp_H) (sz sl : Nat) (res : Int32) (hm : f_X10_symbol_0 n v0 v1 v2 h = some res) : hp_V G m_X10_symbol 0 [(0, .ref v0), (1, .int v1), (2, .int v2)] [] h sz sl (some (.int res), h, sz, sl) := by
  have ho : sz ≤ sz ∧ sl ≤ sl := ⟨Nat.le_refl _, Nat.le_refl _⟩
  unfold f_X10_symbol_0 at hm
  refine hv_aload_n 0 dX10_symbol_0 rfl rfl ?_
  obtain ⟨x1, hx1, hm⟩ := hp_bd hm
  refine hv_get lk_f_X10_12 dX10_symbol_1 (hp_fR_spec hx1) ?_
  refine hv_iload_n 1 dX10_symbol_4 rfl rfl ?_
  obtain ⟨x2, hx2, hm⟩ := hp_bd hm
  obtain ⟨Vx2, hVx2⟩ := k_X0_isStatement hx2
  refine hv_callV (As := [.int v1]) (rest := []) Z_X0_isStatement I_X0_isStatement lk_m_X10_117 rfl hVx2 (c_X0_isStatement G n x1 v1 h sz sl _ hx2) rfl (Nat.le_of_ble_eq_true rfl) ⟨Nat.le_of_ble_eq_true rfl, Nat.le_of_ble_eq_true rfl⟩ ho.1 ho.2 rfl dX10_symbol_5 ?_
  refine hv_as [.int x2] h rfl rfl ?_
  refine hv_if_eq (tgt := 26) dX10_symbol_8 (by decide) (fun c6 => ?_) (fun c6 => ?_)
  · rw [if_pos c6] at hm
    refine hv_iconst (-1 : Int32) dX10_symbol_26 (by decide) ?_
    obtain rfl := Option.some.inj hm
    exact hv_iret rfl dX10_symbol_27
  · rw [if_neg c6] at hm
    refine hv_aload_n 0 dX10_symbol_11 rfl rfl ?_
    obtain ⟨x3, hx3, hm⟩ := hp_bd hm
    refine hv_get lk_f_X10_12 dX10_symbol_12 (hp_fR_spec hx3) ?_
    obtain ⟨x4, hx4, hm⟩ := hp_bd hm
    refine hv_get lk_f_X10_125 dX10_symbol_15 (hp_fR_spec hx4) ?_
    refine hv_iload_n 1 dX10_symbol_18 rfl rfl ?_
    refine hv_iload_n 2 dX10_symbol_19 rfl rfl ?_
    obtain ⟨x5, hx5, hm⟩ := hp_bd hm
    obtain ⟨Vx5, hVx5⟩ := k_X5_get hx5
    refine hv_callV (As := [.int v1, .int v2]) (rest := []) Z_X5_get I_X5_get lk_m_X10_144 rfl hVx5 (c_X5_get G n x4 v1 v2 h sz sl _ hx5) rfl (Nat.le_of_ble_eq_true rfl) ⟨Nat.le_of_ble_eq_true rfl, Nat.le_of_ble_eq_true rfl⟩ ho.1 ho.2 rfl dX10_symbol_20 ?_
    refine hv_as [.int x5] h rfl rfl ?_
    refine hv_goto (tgt := 27) dX10_symbol_23 (by decide) ?_
    obtain rfl := Option.some.inj hm
    exact hv_iret rfl dX10_symbol_27
def f_X10_symbol (n : Nat) (v0 : Nat) (v1 : Int32) (v2 : Int32) (h : hp_H) : Option (Int32) := (hp_ck h 10 v0).bind fun _ => f_X10_symbol_0 n v0 v1 v2 h
theorem c_X10_symbol (G : hp_G) (n : Nat) (v0 : Nat) (v1 : Int32) (v2 : Int32) (h : hp_H) (sz sl : Nat) (res : Int32) (hm : f_X10_symbol n v0 v1 v2 h = some res) : hp_C G m_X10_symbol yX10_symbol [.ref v0, .int v1, .int v2] h sz sl (some (.int res), h, sz, sl) := by
  unfold f_X10_symbol at hm
  obtain ⟨_, _, hm⟩ := hp_bd hm
  exact hp_C_of (by decide) rfl rfl (Nat.le_of_ble_eq_true rfl) (Nat.le_refl _) (Nat.le_refl _) (hv_sub [0, 1, 2] rfl (q_X10_symbol_0 G n v0 v1 v2 h sz sl res hm))
theorem k_X10_symbol {n : Nat} {v0 : Nat} {v1 : Int32} {v2 : Int32} {h : hp_H} {res : Int32} (hm : f_X10_symbol n v0 v1 v2 h = some res) : ∃ V, h v0 = some (.inr (.inr (10, V))) := by
  unfold f_X10_symbol at hm
  obtain ⟨_, hu, _⟩ := hp_bd hm
  exact hp_ck_spec hu
abbrev m_X10_name : hp_M := (RX10, cX10_name, 4, some .int, 1, 22, "name")
theorem Z_X10_name : hp_Y yX10_name m_X10_name 3 := Y_X10_name
def f_X10_name_32 (n : Nat) (v0 : Nat) (v1 : Int32) (v2 : Int32) (v3 : Int32) (h : hp_H) : Option (Int32) :=
  if v1 = (1 : Int32) then
    (hp_fR h 10 v0 0).bind fun x1 =>
    (f_X0_isStatement n x1 v2 h).bind fun x2 =>
    if x2 = 0 then
      some (-1 : Int32)
    else
      (hp_fR h 10 v0 0).bind fun x3 =>
      (hp_fR h 0 x3 0).bind fun x4 =>
      (f_X2_byteOf n x4 ((300 : Int32) + v2) v3 h).bind fun x5 =>
      some x5
  else
    some (-1 : Int32)
set_option maxHeartbeats 1000000 in
set_option maxRecDepth 4000 in
theorem q_X10_name_32 (G : hp_G) (n : Nat) (v0 : Nat) (v1 : Int32) (v2 : Int32) (v3 : Int32) (h : hp_H) (sz sl : Nat) (res : Int32) (hm : f_X10_name_32 n v0 v1 v2 v3 h = some res) : hp_V G m_X10_name 32 [(0, .ref v0), (1, .int v1), (2, .int v2), (3, .int v3)] [] h sz sl (some (.int res), h, sz, sl) := by
  have ho : sz ≤ sz ∧ sl ≤ sl := ⟨Nat.le_refl _, Nat.le_refl _⟩
  unfold f_X10_name_32 at hm
  refine hv_iload_n 1 dX10_name_32 rfl rfl ?_
  refine hv_iconst (1 : Int32) dX10_name_33 (by decide) ?_
  refine hv_icmp_ne (tgt := 65) dX10_name_34 (by decide) (fun c7 => ?_) (fun c7 => ?_)
  · rw [if_neg c7] at hm
    refine hv_iconst (-1 : Int32) dX10_name_65 (by decide) ?_
    obtain rfl := Option.some.inj hm
    exact hv_iret rfl dX10_name_66
  · rw [if_pos c7] at hm
    refine hv_aload_n 0 dX10_name_37 rfl rfl ?_
    obtain ⟨x1, hx1, hm⟩ := hp_bd hm
    refine hv_get lk_f_X10_12 dX10_name_38 (hp_fR_spec hx1) ?_
    refine hv_iload_n 2 dX10_name_41 rfl rfl ?_
    obtain ⟨x2, hx2, hm⟩ := hp_bd hm
    obtain ⟨Vx2, hVx2⟩ := k_X0_isStatement hx2
    refine hv_callV (As := [.int v2]) (rest := []) Z_X0_isStatement I_X0_isStatement lk_m_X10_117 rfl hVx2 (c_X0_isStatement G n x1 v2 h sz sl _ hx2) rfl (Nat.le_of_ble_eq_true rfl) ⟨Nat.le_of_ble_eq_true rfl, Nat.le_of_ble_eq_true rfl⟩ ho.1 ho.2 rfl dX10_name_42 ?_
    refine hv_as [.int x2] h rfl rfl ?_
    refine hv_if_eq (tgt := 65) dX10_name_45 (by decide) (fun c6 => ?_) (fun c6 => ?_)
    · rw [if_pos c6] at hm
      refine hv_iconst (-1 : Int32) dX10_name_65 (by decide) ?_
      obtain rfl := Option.some.inj hm
      exact hv_iret rfl dX10_name_66
    · rw [if_neg c6] at hm
      refine hv_aload_n 0 dX10_name_48 rfl rfl ?_
      obtain ⟨x3, hx3, hm⟩ := hp_bd hm
      refine hv_get lk_f_X10_12 dX10_name_49 (hp_fR_spec hx3) ?_
      obtain ⟨x4, hx4, hm⟩ := hp_bd hm
      refine hv_get lk_f_X10_148 dX10_name_52 (hp_fR_spec hx4) ?_
      refine hv_sipush (300 : Int32) dX10_name_55 (by decide) ?_
      refine hv_iload_n 2 dX10_name_58 rfl rfl ?_
      refine hv_iadd dX10_name_59 ?_
      refine hv_iload_n 3 dX10_name_60 rfl rfl ?_
      obtain ⟨x5, hx5, hm⟩ := hp_bd hm
      obtain ⟨Vx5, hVx5⟩ := k_X2_byteOf hx5
      refine hv_callV (As := [.int ((300 : Int32) + v2), .int v3]) (rest := []) Z_X2_byteOf I_X2_byteOf lk_m_X10_152 rfl hVx5 (c_X2_byteOf G n x4 ((300 : Int32) + v2) v3 h sz sl _ hx5) rfl (Nat.le_of_ble_eq_true rfl) ⟨Nat.le_of_ble_eq_true rfl, Nat.le_of_ble_eq_true rfl⟩ ho.1 ho.2 rfl dX10_name_61 ?_
      refine hv_as [.int x5] h rfl rfl ?_
      obtain rfl := Option.some.inj hm
      exact hv_iret rfl dX10_name_64
def f_X10_name_0 (n : Nat) (v0 : Nat) (v1 : Int32) (v2 : Int32) (v3 : Int32) (h : hp_H) : Option (Int32) :=
  if v1 = 0 then
    if v2 < 0 then
      f_X10_name_32 n v0 v1 v2 v3 h
    else
      (hp_fR h 10 v0 0).bind fun x1 =>
      (hp_fI h 0 x1 3).bind fun x2 =>
      if x2 ≤ v2 then
        f_X10_name_32 n v0 v1 v2 v3 h
      else
        (hp_fR h 10 v0 0).bind fun x3 =>
        (hp_fR h 0 x3 0).bind fun x4 =>
        (f_X2_byteOf n x4 v2 v3 h).bind fun x5 =>
        some x5
  else
    f_X10_name_32 n v0 v1 v2 v3 h
set_option maxHeartbeats 1000000 in
set_option maxRecDepth 4000 in
theorem q_X10_name_0 (G : hp_G) (n : Nat) (v0 : Nat) (v1 : Int32) (v2 : Int32) (v3 : Int32) (h : hp_H) (sz sl : Nat) (res : Int32) (hm : f_X10_name_0 n v0 v1 v2 v3 h = some res) : hp_V G m_X10_name 0 [(0, .ref v0), (1, .int v1), (2, .int v2), (3, .int v3)] [] h sz sl (some (.int res), h, sz, sl) := by
  have ho : sz ≤ sz ∧ sl ≤ sl := ⟨Nat.le_refl _, Nat.le_refl _⟩
  unfold f_X10_name_0 at hm
  refine hv_iload_n 1 dX10_name_0 rfl rfl ?_
  refine hv_if_ne (tgt := 32) dX10_name_1 (by decide) (fun c8 => ?_) (fun c8 => ?_)
  · rw [if_neg c8] at hm
    exact hv_sub [0, 1, 2, 3] rfl (q_X10_name_32 G n v0 v1 v2 v3 h sz sl _ hm)
  · rw [if_pos c8] at hm
    refine hv_iload_n 2 dX10_name_4 rfl rfl ?_
    refine hv_if_lt (tgt := 32) dX10_name_5 (by decide) (fun c7 => ?_) (fun c7 => ?_)
    · rw [if_pos c7] at hm
      exact hv_sub [0, 1, 2, 3] rfl (q_X10_name_32 G n v0 v1 v2 v3 h sz sl _ hm)
    · rw [if_neg c7] at hm
      refine hv_iload_n 2 dX10_name_8 rfl rfl ?_
      refine hv_aload_n 0 dX10_name_9 rfl rfl ?_
      obtain ⟨x1, hx1, hm⟩ := hp_bd hm
      refine hv_get lk_f_X10_12 dX10_name_10 (hp_fR_spec hx1) ?_
      obtain ⟨x2, hx2, hm⟩ := hp_bd hm
      refine hv_get lk_f_X10_111 dX10_name_13 (hp_fI_spec hx2) ?_
      refine hv_icmp_ge (tgt := 32) dX10_name_16 (by decide) (fun c6 => ?_) (fun c6 => ?_)
      · rw [if_pos c6] at hm
        exact hv_sub [0, 1, 2, 3] rfl (q_X10_name_32 G n v0 v1 v2 v3 h sz sl _ hm)
      · rw [if_neg c6] at hm
        refine hv_aload_n 0 dX10_name_19 rfl rfl ?_
        obtain ⟨x3, hx3, hm⟩ := hp_bd hm
        refine hv_get lk_f_X10_12 dX10_name_20 (hp_fR_spec hx3) ?_
        obtain ⟨x4, hx4, hm⟩ := hp_bd hm
        refine hv_get lk_f_X10_148 dX10_name_23 (hp_fR_spec hx4) ?_
        refine hv_iload_n 2 dX10_name_26 rfl rfl ?_
        refine hv_iload_n 3 dX10_name_27 rfl rfl ?_
        obtain ⟨x5, hx5, hm⟩ := hp_bd hm
        obtain ⟨Vx5, hVx5⟩ := k_X2_byteOf hx5
        refine hv_callV (As := [.int v2, .int v3]) (rest := []) Z_X2_byteOf I_X2_byteOf lk_m_X10_152 rfl hVx5 (c_X2_byteOf G n x4 v2 v3 h sz sl _ hx5) rfl (Nat.le_of_ble_eq_true rfl) ⟨Nat.le_of_ble_eq_true rfl, Nat.le_of_ble_eq_true rfl⟩ ho.1 ho.2 rfl dX10_name_28 ?_
        refine hv_as [.int x5] h rfl rfl ?_
        obtain rfl := Option.some.inj hm
        exact hv_iret rfl dX10_name_31
def f_X10_name (n : Nat) (v0 : Nat) (v1 : Int32) (v2 : Int32) (v3 : Int32) (h : hp_H) : Option (Int32) := (hp_ck h 10 v0).bind fun _ => f_X10_name_0 n v0 v1 v2 v3 h
theorem c_X10_name (G : hp_G) (n : Nat) (v0 : Nat) (v1 : Int32) (v2 : Int32) (v3 : Int32) (h : hp_H) (sz sl : Nat) (res : Int32) (hm : f_X10_name n v0 v1 v2 v3 h = some res) : hp_C G m_X10_name yX10_name [.ref v0, .int v1, .int v2, .int v3] h sz sl (some (.int res), h, sz, sl) := by
  unfold f_X10_name at hm
  obtain ⟨_, _, hm⟩ := hp_bd hm
  exact hp_C_of (by decide) rfl rfl (Nat.le_of_ble_eq_true rfl) (Nat.le_refl _) (Nat.le_refl _) (hv_sub [0, 1, 2, 3] rfl (q_X10_name_0 G n v0 v1 v2 v3 h sz sl res hm))
theorem k_X10_name {n : Nat} {v0 : Nat} {v1 : Int32} {v2 : Int32} {v3 : Int32} {h : hp_H} {res : Int32} (hm : f_X10_name n v0 v1 v2 v3 h = some res) : ∃ V, h v0 = some (.inr (.inr (10, V))) := by
  unfold f_X10_name at hm
  obtain ⟨_, hu, _⟩ := hp_bd hm
  exact hp_ck_spec hu
abbrev m_X10_frame : hp_M := (RX10, cX10_frame, 6, some .int, 2, 42, "frame")
theorem Z_X10_frame : hp_Y yX10_frame m_X10_frame 3 := Y_X10_frame
def f_X10_frame_43 (n : Nat) (v1 : Int32) (v2 : Int32) (v3 : Int32) (s0 : Nat) (h : hp_H) : Option (Int32) :=
  if v3 < 0 then
    some (-2 : Int32)
  else
    (f_X5_size n s0 v1 h).bind fun x1 =>
    if v3 < x1 then
      (f_X5_get n s0 v1 v3 h).bind fun x2 =>
      if v2 = 0 then
        some x2
      else
        if v2 = (1 : Int32) then
          some (x2 / (300 : Int32))
        else
          some (x2 - x2 / (300 : Int32) * (300 : Int32))
    else
      some (-2 : Int32)
set_option maxHeartbeats 1000000 in
set_option maxRecDepth 4000 in
theorem q_X10_frame_43 (G : hp_G) (n : Nat) (v1 : Int32) (v2 : Int32) (v3 : Int32) (s0 : Nat) (h : hp_H) (sz sl : Nat) (res : Int32) (hm : f_X10_frame_43 n v1 v2 v3 s0 h = some res) : hp_V G m_X10_frame 43 [(1, .int v1), (2, .int v2), (3, .int v3)] [.ref s0] h sz sl (some (.int res), h, sz, sl) := by
  have ho : sz ≤ sz ∧ sl ≤ sl := ⟨Nat.le_refl _, Nat.le_refl _⟩
  unfold f_X10_frame_43 at hm
  refine hv_astore [(4, .ref s0), (1, .int v1), (2, .int v2), (3, .int v3)] dX10_frame_43 (by decide) rfl ?_
  refine hv_iload_n 3 dX10_frame_45 rfl rfl ?_
  refine hv_if_lt (tgt := 59) dX10_frame_46 (by decide) (fun c6 => ?_) (fun c6 => ?_)
  · rw [if_pos c6] at hm
    refine hv_bipush (-2 : Int32) dX10_frame_59 (by decide) ?_
    obtain rfl := Option.some.inj hm
    exact hv_iret rfl dX10_frame_61
  · rw [if_neg c6] at hm
    refine hv_iload_n 3 dX10_frame_49 rfl rfl ?_
    refine hv_aload 0 dX10_frame_50 rfl ?_
    refine hv_iload_n 1 dX10_frame_52 rfl rfl ?_
    obtain ⟨x1, hx1, hm⟩ := hp_bd hm
    obtain ⟨Vx1, hVx1⟩ := k_X5_size hx1
    refine hv_callV (As := [.int v1]) (rest := [.int v3]) Z_X5_size I_X5_size lk_m_X10_128 rfl hVx1 (c_X5_size G n s0 v1 h sz sl _ hx1) rfl (Nat.le_of_ble_eq_true rfl) ⟨Nat.le_of_ble_eq_true rfl, Nat.le_of_ble_eq_true rfl⟩ ho.1 ho.2 rfl dX10_frame_53 ?_
    refine hv_as [.int x1, .int v3] h rfl rfl ?_
    refine hv_icmp_lt (tgt := 62) dX10_frame_56 (by decide) (fun c5 => ?_) (fun c5 => ?_)
    · rw [if_pos c5] at hm
      refine hv_aload 0 dX10_frame_62 rfl ?_
      refine hv_iload_n 1 dX10_frame_64 rfl rfl ?_
      refine hv_iload_n 3 dX10_frame_65 rfl rfl ?_
      obtain ⟨x2, hx2, hm⟩ := hp_bd hm
      obtain ⟨Vx2, hVx2⟩ := k_X5_get hx2
      refine hv_callV (As := [.int v1, .int v3]) (rest := []) Z_X5_get I_X5_get lk_m_X10_144 rfl hVx2 (c_X5_get G n s0 v1 v3 h sz sl _ hx2) rfl (Nat.le_of_ble_eq_true rfl) ⟨Nat.le_of_ble_eq_true rfl, Nat.le_of_ble_eq_true rfl⟩ ho.1 ho.2 rfl dX10_frame_66 ?_
      refine hv_as [.int x2] h rfl rfl ?_
      refine hv_istore [(5, .int x2), (4, .ref s0), (1, .int v1), (2, .int v2), (3, .int v3)] dX10_frame_69 (by decide) rfl ?_
      refine hv_iload_n 3 dX10_frame_71 rfl rfl ?_
      refine hv_if_ne (tgt := 78) dX10_frame_72 (by decide) (fun c4 => ?_) (fun c4 => ?_)
      · rw [if_neg c4] at hm
        refine hv_iload_n 3 dX10_frame_78 rfl rfl ?_
        refine hv_iconst (1 : Int32) dX10_frame_79 (by decide) ?_
        refine hv_icmp_ne (tgt := 92) dX10_frame_80 (by decide) (fun c3 => ?_) (fun c3 => ?_)
        · rw [if_neg c3] at hm
          refine hv_iload 0 dX10_frame_92 rfl ?_
          refine hv_sipush (300 : Int32) dX10_frame_94 (by decide) ?_
          refine hv_irem dX10_frame_97 (by decide) ?_
          obtain rfl := Option.some.inj hm
          exact hv_iret rfl dX10_frame_98
        · rw [if_pos c3] at hm
          refine hv_iload 0 dX10_frame_83 rfl ?_
          refine hv_sipush (300 : Int32) dX10_frame_85 (by decide) ?_
          refine hv_idiv dX10_frame_88 (by decide) ?_
          refine hv_goto (tgt := 98) dX10_frame_89 (by decide) ?_
          obtain rfl := Option.some.inj hm
          exact hv_iret rfl dX10_frame_98
      · rw [if_pos c4] at hm
        refine hv_iload 0 dX10_frame_75 rfl ?_
        obtain rfl := Option.some.inj hm
        exact hv_iret rfl dX10_frame_77
    · rw [if_neg c5] at hm
      refine hv_bipush (-2 : Int32) dX10_frame_59 (by decide) ?_
      obtain rfl := Option.some.inj hm
      exact hv_iret rfl dX10_frame_61
def f_X10_frame_0 (n : Nat) (v0 : Nat) (v1 : Int32) (v2 : Int32) (v3 : Int32) (h : hp_H) : Option (Int32) :=
  (hp_fR h 10 v0 0).bind fun x1 =>
  (f_X0_isAssertion n x1 v1 h).bind fun x2 =>
  if x2 = 0 then
    some (-1 : Int32)
  else
    if v2 < 0 then
      some (-1 : Int32)
    else
      if v2 ≤ (2 : Int32) then
        if v2 = 0 then
          (hp_fR h 10 v0 0).bind fun x5 =>
          (hp_fR h 0 x5 12).bind fun x6 =>
          f_X10_frame_43 n v1 v2 v3 x6 h
        else
          (hp_fR h 10 v0 0).bind fun x3 =>
          (hp_fR h 0 x3 13).bind fun x4 =>
          f_X10_frame_43 n v1 v2 v3 x4 h
      else
        some (-1 : Int32)
set_option maxHeartbeats 1000000 in
set_option maxRecDepth 4000 in
theorem q_X10_frame_0 (G : hp_G) (n : Nat) (v0 : Nat) (v1 : Int32) (v2 : Int32) (v3 : Int32) (h : hp_H) (sz sl : Nat) (res : Int32) (hm : f_X10_frame_0 n v0 v1 v2 v3 h = some res) : hp_V G m_X10_frame 0 [(0, .ref v0), (1, .int v1), (2, .int v2), (3, .int v3)] [] h sz sl (some (.int res), h, sz, sl) := by
  have ho : sz ≤ sz ∧ sl ≤ sl := ⟨Nat.le_refl _, Nat.le_refl _⟩
  unfold f_X10_frame_0 at hm
  refine hv_aload_n 0 dX10_frame_0 rfl rfl ?_
  obtain ⟨x1, hx1, hm⟩ := hp_bd hm
  refine hv_get lk_f_X10_12 dX10_frame_1 (hp_fR_spec hx1) ?_
  refine hv_iload_n 1 dX10_frame_4 rfl rfl ?_
  obtain ⟨x2, hx2, hm⟩ := hp_bd hm
  obtain ⟨Vx2, hVx2⟩ := k_X0_isAssertion hx2
  refine hv_callV (As := [.int v1]) (rest := []) Z_X0_isAssertion I_X0_isAssertion lk_m_X10_157 rfl hVx2 (c_X0_isAssertion G n x1 v1 h sz sl _ hx2) rfl (Nat.le_of_ble_eq_true rfl) ⟨Nat.le_of_ble_eq_true rfl, Nat.le_of_ble_eq_true rfl⟩ ho.1 ho.2 rfl dX10_frame_5 ?_
  refine hv_as [.int x2] h rfl rfl ?_
  refine hv_if_eq (tgt := 20) dX10_frame_8 (by decide) (fun c10 => ?_) (fun c10 => ?_)
  · rw [if_pos c10] at hm
    refine hv_iconst (-1 : Int32) dX10_frame_20 (by decide) ?_
    obtain rfl := Option.some.inj hm
    exact hv_iret rfl dX10_frame_21
  · rw [if_neg c10] at hm
    refine hv_iload_n 2 dX10_frame_11 rfl rfl ?_
    refine hv_if_lt (tgt := 20) dX10_frame_12 (by decide) (fun c9 => ?_) (fun c9 => ?_)
    · rw [if_pos c9] at hm
      refine hv_iconst (-1 : Int32) dX10_frame_20 (by decide) ?_
      obtain rfl := Option.some.inj hm
      exact hv_iret rfl dX10_frame_21
    · rw [if_neg c9] at hm
      refine hv_iload_n 2 dX10_frame_15 rfl rfl ?_
      refine hv_iconst (2 : Int32) dX10_frame_16 (by decide) ?_
      refine hv_icmp_le (tgt := 22) dX10_frame_17 (by decide) (fun c8 => ?_) (fun c8 => ?_)
      · rw [if_pos c8] at hm
        refine hv_iload_n 2 dX10_frame_22 rfl rfl ?_
        refine hv_if_ne (tgt := 36) dX10_frame_23 (by decide) (fun c7 => ?_) (fun c7 => ?_)
        · rw [if_neg c7] at hm
          refine hv_aload_n 0 dX10_frame_36 rfl rfl ?_
          obtain ⟨x3, hx3, hm⟩ := hp_bd hm
          refine hv_get lk_f_X10_12 dX10_frame_37 (hp_fR_spec hx3) ?_
          obtain ⟨x4, hx4, hm⟩ := hp_bd hm
          refine hv_get lk_f_X10_138 dX10_frame_40 (hp_fR_spec hx4) ?_
          exact hv_sub [1, 2, 3] rfl (q_X10_frame_43 G n v1 v2 v3 x4 h sz sl _ hm)
        · rw [if_pos c7] at hm
          refine hv_aload_n 0 dX10_frame_26 rfl rfl ?_
          obtain ⟨x5, hx5, hm⟩ := hp_bd hm
          refine hv_get lk_f_X10_12 dX10_frame_27 (hp_fR_spec hx5) ?_
          obtain ⟨x6, hx6, hm⟩ := hp_bd hm
          refine hv_get lk_f_X10_135 dX10_frame_30 (hp_fR_spec hx6) ?_
          refine hv_goto (tgt := 43) dX10_frame_33 (by decide) ?_
          exact hv_sub [1, 2, 3] rfl (q_X10_frame_43 G n v1 v2 v3 x6 h sz sl _ hm)
      · rw [if_neg c8] at hm
        refine hv_iconst (-1 : Int32) dX10_frame_20 (by decide) ?_
        obtain rfl := Option.some.inj hm
        exact hv_iret rfl dX10_frame_21
def f_X10_frame (n : Nat) (v0 : Nat) (v1 : Int32) (v2 : Int32) (v3 : Int32) (h : hp_H) : Option (Int32) := (hp_ck h 10 v0).bind fun _ => f_X10_frame_0 n v0 v1 v2 v3 h
theorem c_X10_frame (G : hp_G) (n : Nat) (v0 : Nat) (v1 : Int32) (v2 : Int32) (v3 : Int32) (h : hp_H) (sz sl : Nat) (res : Int32) (hm : f_X10_frame n v0 v1 v2 v3 h = some res) : hp_C G m_X10_frame yX10_frame [.ref v0, .int v1, .int v2, .int v3] h sz sl (some (.int res), h, sz, sl) := by
  unfold f_X10_frame at hm
  obtain ⟨_, _, hm⟩ := hp_bd hm
  exact hp_C_of (by decide) rfl rfl (Nat.le_of_ble_eq_true rfl) (Nat.le_refl _) (Nat.le_refl _) (hv_sub [0, 1, 2, 3] rfl (q_X10_frame_0 G n v0 v1 v2 v3 h sz sl res hm))
theorem k_X10_frame {n : Nat} {v0 : Nat} {v1 : Int32} {v2 : Int32} {v3 : Int32} {h : hp_H} {res : Int32} (hm : f_X10_frame n v0 v1 v2 v3 h = some res) : ∃ V, h v0 = some (.inr (.inr (10, V))) := by
  unfold f_X10_frame at hm
  obtain ⟨_, hu, _⟩ := hp_bd hm
  exact hp_ck_spec hu
abbrev m_X10_examine : hp_M := (RX10, cX10_examine, 3, some .int, 7, 185, "examine")
theorem Z_X10_examine : hp_Y yX10_examine m_X10_examine 1 := Y_X10_examine
def f_X10_examine_40 (n : Nat) (v0 : Nat) (v2 : Int32) (h : hp_H) (sz sl : Nat) : Option (Int32 × hp_H × Nat × Nat) :=
  if v2 = 0 then
    (hp_fR h 10 v0 4).bind fun x1 =>
    (hp_fR h 10 v0 0).bind fun x2 =>
    (hp_fR h 10 v0 3).bind fun x3 =>
    (f_X1_verdict n x1 x2 x3 h).bind fun x4 =>
    some (x4, h, sz, sl)
  else
    some (v2, h, sz, sl)
set_option maxHeartbeats 1000000 in
set_option maxRecDepth 4000 in
theorem mo_X10_examine_40 {n : Nat} {v0 : Nat} {v2 : Int32} {h : hp_H} {sz sl : Nat} {res : Int32 × hp_H × Nat × Nat} (hm : f_X10_examine_40 n v0 v2 h sz sl = some res) : sz ≤ res.2.2.1 ∧ sl ≤ res.2.2.2 := by
  unfold f_X10_examine_40 at hm
  rcases (Decidable.em (v2 = 0)).symm with c5 | c5
  · rw [if_neg c5] at hm
    obtain rfl := Option.some.inj hm
    exact ⟨Nat.le_refl _, Nat.le_refl _⟩
  · rw [if_pos c5] at hm
    obtain ⟨x1, hx1, hm⟩ := hp_bd hm
    obtain ⟨x2, hx2, hm⟩ := hp_bd hm
    obtain ⟨x3, hx3, hm⟩ := hp_bd hm
    obtain ⟨x4, hx4, hm⟩ := hp_bd hm
    obtain rfl := Option.some.inj hm
    exact ⟨Nat.le_refl _, Nat.le_refl _⟩
set_option maxHeartbeats 1000000 in
set_option maxRecDepth 4000 in
theorem q_X10_examine_40 (G : hp_G) (n : Nat) (v0 : Nat) (v2 : Int32) (h : hp_H) (sz sl : Nat) (res : Int32 × hp_H × Nat × Nat) (hm : f_X10_examine_40 n v0 v2 h sz sl = some res) : hp_V G m_X10_examine 40 [(0, .ref v0), (2, .int v2)] [] h sz sl (some (.int res.1), res.2.1, res.2.2.1, res.2.2.2) := by
  have ho := mo_X10_examine_40 hm
  unfold f_X10_examine_40 at hm
  refine hv_iload_n 1 dX10_examine_40 rfl rfl ?_
  refine hv_if_ne (tgt := 62) dX10_examine_41 (by decide) (fun c5 => ?_) (fun c5 => ?_)
  · rw [if_neg c5] at hm
    refine hv_iload_n 1 dX10_examine_62 rfl rfl ?_
    obtain rfl := Option.some.inj hm
    exact hv_iret rfl dX10_examine_63
  · rw [if_pos c5] at hm
    refine hv_aload_n 0 dX10_examine_44 rfl rfl ?_
    obtain ⟨x1, hx1, hm⟩ := hp_bd hm
    refine hv_get lk_f_X10_38 dX10_examine_45 (hp_fR_spec hx1) ?_
    refine hv_aload_n 0 dX10_examine_48 rfl rfl ?_
    obtain ⟨x2, hx2, hm⟩ := hp_bd hm
    refine hv_get lk_f_X10_12 dX10_examine_49 (hp_fR_spec hx2) ?_
    refine hv_aload_n 0 dX10_examine_52 rfl rfl ?_
    obtain ⟨x3, hx3, hm⟩ := hp_bd hm
    refine hv_get lk_f_X10_31 dX10_examine_53 (hp_fR_spec hx3) ?_
    obtain ⟨x4, hx4, hm⟩ := hp_bd hm
    obtain ⟨Vx4, hVx4⟩ := k_X1_verdict hx4
    refine hv_callV (As := [.ref x2, .ref x3]) (rest := []) Z_X1_verdict I_X1_verdict lk_m_X10_180 rfl hVx4 (c_X1_verdict G n x1 x2 x3 h sz sl _ hx4) rfl (Nat.le_of_ble_eq_true rfl) ⟨Nat.le_of_ble_eq_true rfl, Nat.le_of_ble_eq_true rfl⟩ ho.1 ho.2 rfl dX10_examine_56 ?_
    refine hv_as [.int x4] h rfl rfl ?_
    refine hv_goto (tgt := 63) dX10_examine_59 (by decide) ?_
    obtain rfl := Option.some.inj hm
    exact hv_iret rfl dX10_examine_63
def f_X10_examine_39 (n : Nat) (v0 : Nat) (s0 : Int32) (h : hp_H) (sz sl : Nat) : Option (Int32 × hp_H × Nat × Nat) :=
  f_X10_examine_40 n v0 s0 h sz sl
set_option maxHeartbeats 1000000 in
set_option maxRecDepth 4000 in
theorem mo_X10_examine_39 {n : Nat} {v0 : Nat} {s0 : Int32} {h : hp_H} {sz sl : Nat} {res : Int32 × hp_H × Nat × Nat} (hm : f_X10_examine_39 n v0 s0 h sz sl = some res) : sz ≤ res.2.2.1 ∧ sl ≤ res.2.2.2 := by
  unfold f_X10_examine_39 at hm
  exact mo_X10_examine_40 hm
set_option maxHeartbeats 1000000 in
set_option maxRecDepth 4000 in
theorem q_X10_examine_39 (G : hp_G) (n : Nat) (v0 : Nat) (s0 : Int32) (h : hp_H) (sz sl : Nat) (res : Int32 × hp_H × Nat × Nat) (hm : f_X10_examine_39 n v0 s0 h sz sl = some res) : hp_V G m_X10_examine 39 [(0, .ref v0)] [.int s0] h sz sl (some (.int res.1), res.2.1, res.2.2.1, res.2.2.2) := by
  have ho := mo_X10_examine_39 hm
  unfold f_X10_examine_39 at hm
  refine hv_istore_n [(2, .int s0), (0, .ref v0)] dX10_examine_39 rfl (by decide) rfl ?_
  exact hv_sub [1, 0] rfl (q_X10_examine_40 G n v0 s0 h sz sl _ hm)
def f_X10_examine_0 (n : Nat) (v0 : Nat) (v1 : Int32) (h : hp_H) (sz sl : Nat) : Option (Int32 × hp_H × Nat × Nat) :=
  (hp_fR h 10 v0 3).bind fun x1 =>
  (hp_fR h 10 v0 0).bind fun x2 =>
  (f_X3_decode n x1 x2 v1 h).bind fun x3 =>
  if x3.1 = 0 then
    (hp_fR x3.2 10 v0 4).bind fun x4 =>
    (hp_fR x3.2 10 v0 0).bind fun x5 =>
    (hp_fR x3.2 10 v0 3).bind fun x6 =>
    (hp_fR x3.2 10 v0 3).bind fun x7 =>
    (hp_fI x3.2 3 x7 1).bind fun x8 =>
    (f_X1_run n x4 x5 x6 x8 x3.2 sz sl).bind fun x9 =>
    f_X10_examine_39 n v0 x9.1 x9.2.1 x9.2.2.1 x9.2.2.2
  else
    f_X10_examine_40 n v0 x3.1 x3.2 sz sl
set_option maxHeartbeats 1000000 in
set_option maxRecDepth 4000 in
theorem mo_X10_examine_0 {n : Nat} {v0 : Nat} {v1 : Int32} {h : hp_H} {sz sl : Nat} {res : Int32 × hp_H × Nat × Nat} (hm : f_X10_examine_0 n v0 v1 h sz sl = some res) : sz ≤ res.2.2.1 ∧ sl ≤ res.2.2.2 := by
  unfold f_X10_examine_0 at hm
  obtain ⟨x1, hx1, hm⟩ := hp_bd hm
  obtain ⟨x2, hx2, hm⟩ := hp_bd hm
  obtain ⟨x3, hx3, hm⟩ := hp_bd hm
  rcases (Decidable.em (x3.1 = 0)).symm with c10 | c10
  · rw [if_neg c10] at hm
    exact mo_X10_examine_40 hm
  · rw [if_pos c10] at hm
    obtain ⟨x4, hx4, hm⟩ := hp_bd hm
    obtain ⟨x5, hx5, hm⟩ := hp_bd hm
    obtain ⟨x6, hx6, hm⟩ := hp_bd hm
    obtain ⟨x7, hx7, hm⟩ := hp_bd hm
    obtain ⟨x8, hx8, hm⟩ := hp_bd hm
    obtain ⟨x9, hx9, hm⟩ := hp_bd hm
    exact hp_tr (mx_X1_run hx9) (mo_X10_examine_39 hm)
set_option maxHeartbeats 1000000 in
set_option maxRecDepth 4000 in
theorem q_X10_examine_0 (G : hp_G) (n : Nat) (v0 : Nat) (v1 : Int32) (h : hp_H) (sz sl : Nat) (res : Int32 × hp_H × Nat × Nat) (hm : f_X10_examine_0 n v0 v1 h sz sl = some res) : hp_V G m_X10_examine 0 [(0, .ref v0), (1, .int v1)] [] h sz sl (some (.int res.1), res.2.1, res.2.2.1, res.2.2.2) := by
  have ho := mo_X10_examine_0 hm
  unfold f_X10_examine_0 at hm
  refine hv_aload_n 0 dX10_examine_0 rfl rfl ?_
  obtain ⟨x1, hx1, hm⟩ := hp_bd hm
  refine hv_get lk_f_X10_31 dX10_examine_1 (hp_fR_spec hx1) ?_
  refine hv_aload_n 0 dX10_examine_4 rfl rfl ?_
  obtain ⟨x2, hx2, hm⟩ := hp_bd hm
  refine hv_get lk_f_X10_12 dX10_examine_5 (hp_fR_spec hx2) ?_
  refine hv_iload_n 1 dX10_examine_8 rfl rfl ?_
  obtain ⟨x3, hx3, hm⟩ := hp_bd hm
  obtain ⟨Vx3, hVx3⟩ := k_X3_decode hx3
  refine hv_callV (As := [.ref x2, .int v1]) (rest := []) Z_X3_decode I_X3_decode lk_m_X10_169 rfl hVx3 (c_X3_decode G n x1 x2 v1 h sz sl _ hx3) rfl (Nat.le_of_ble_eq_true rfl) ⟨Nat.le_of_ble_eq_true rfl, Nat.le_of_ble_eq_true rfl⟩ ho.1 ho.2 rfl dX10_examine_9 ?_
  refine hv_as [.int x3.1] x3.2 rfl rfl ?_
  refine hv_istore_n [(2, .int x3.1), (0, .ref v0), (1, .int v1)] dX10_examine_12 rfl (by decide) rfl ?_
  refine hv_iload_n 0 dX10_examine_13 rfl rfl ?_
  refine hv_if_ne (tgt := 40) dX10_examine_14 (by decide) (fun c10 => ?_) (fun c10 => ?_)
  · rw [if_neg c10] at hm
    exact hv_sub [1, 0] rfl (q_X10_examine_40 G n v0 x3.1 x3.2 sz sl _ hm)
  · rw [if_pos c10] at hm
    refine hv_aload_n 1 dX10_examine_17 rfl rfl ?_
    obtain ⟨x4, hx4, hm⟩ := hp_bd hm
    refine hv_get lk_f_X10_38 dX10_examine_18 (hp_fR_spec hx4) ?_
    refine hv_aload_n 1 dX10_examine_21 rfl rfl ?_
    obtain ⟨x5, hx5, hm⟩ := hp_bd hm
    refine hv_get lk_f_X10_12 dX10_examine_22 (hp_fR_spec hx5) ?_
    refine hv_aload_n 1 dX10_examine_25 rfl rfl ?_
    obtain ⟨x6, hx6, hm⟩ := hp_bd hm
    refine hv_get lk_f_X10_31 dX10_examine_26 (hp_fR_spec hx6) ?_
    refine hv_aload_n 1 dX10_examine_29 rfl rfl ?_
    obtain ⟨x7, hx7, hm⟩ := hp_bd hm
    refine hv_get lk_f_X10_31 dX10_examine_30 (hp_fR_spec hx7) ?_
    obtain ⟨x8, hx8, hm⟩ := hp_bd hm
    refine hv_get lk_f_X10_173 dX10_examine_33 (hp_fI_spec hx8) ?_
    obtain ⟨x9, hx9, hm⟩ := hp_bd hm
    have hq := mo_X10_examine_39 hm
    obtain ⟨Vx9, hVx9⟩ := k_X1_run hx9
    refine hv_callV (As := [.ref x5, .ref x6, .int x8]) (rest := []) Z_X1_run I_X1_run lk_m_X10_176 rfl hVx9 (c_X1_run G n x4 x5 x6 x8 x3.2 sz sl _ hx9) rfl (Nat.le_of_ble_eq_true rfl) ⟨Nat.le_of_ble_eq_true rfl, Nat.le_of_ble_eq_true rfl⟩ hq.1 hq.2 rfl dX10_examine_36 ?_
    refine hv_as2 [.int x9.1] x9.2.1 x9.2.2.1 x9.2.2.2 rfl rfl rfl rfl ?_
    exact hv_sub [1] rfl (q_X10_examine_39 G n v0 x9.1 x9.2.1 x9.2.2.1 x9.2.2.2 _ hm)
def f_X10_examine (n : Nat) (v0 : Nat) (v1 : Int32) (h : hp_H) (sz sl : Nat) : Option (Int32 × hp_H × Nat × Nat) := (hp_ck h 10 v0).bind fun _ => f_X10_examine_0 n v0 v1 h sz sl
theorem c_X10_examine (G : hp_G) (n : Nat) (v0 : Nat) (v1 : Int32) (h : hp_H) (sz sl : Nat) (res : Int32 × hp_H × Nat × Nat) (hm : f_X10_examine n v0 v1 h sz sl = some res) : hp_C G m_X10_examine yX10_examine [.ref v0, .int v1] h sz sl (some (.int res.1), res.2.1, res.2.2.1, res.2.2.2) := by
  unfold f_X10_examine at hm
  obtain ⟨_, _, hm⟩ := hp_bd hm
  exact hp_C_of (by decide) rfl rfl (Nat.le_of_ble_eq_true rfl) (mo_X10_examine_0 hm).1 (mo_X10_examine_0 hm).2 (hv_sub [0, 1] rfl (q_X10_examine_0 G n v0 v1 h sz sl res hm))
theorem k_X10_examine {n : Nat} {v0 : Nat} {v1 : Int32} {h : hp_H} {sz sl : Nat} {res : Int32 × hp_H × Nat × Nat} (hm : f_X10_examine n v0 v1 h sz sl = some res) : ∃ V, h v0 = some (.inr (.inr (10, V))) := by
  unfold f_X10_examine at hm
  obtain ⟨_, hu, _⟩ := hp_bd hm
  exact hp_ck_spec hu
theorem mx_X10_examine {n : Nat} {v0 : Nat} {v1 : Int32} {h : hp_H} {sz sl : Nat} {res : Int32 × hp_H × Nat × Nat} (hm : f_X10_examine n v0 v1 h sz sl = some res) : sz ≤ res.2.2.1 ∧ sl ≤ res.2.2.2 := by
  unfold f_X10_examine at hm
  obtain ⟨_, _, hm⟩ := hp_bd hm
  exact mo_X10_examine_0 hm
abbrev m_X10_check : hp_M := (RX10, cX10_check, 3, some .int, 8, 207, "check")
theorem Z_X10_check : hp_Y yX10_check m_X10_check 1 := Y_X10_check
def f_X10_check_23 (n : Nat) (v0 : Nat) (s0 : Int32) (h : hp_H) (sz sl : Nat) : Option (Int32 × hp_H × Nat × Nat) :=
  (hp_fR h 10 v0 3).bind fun x1 =>
  (hp_fI h 3 x1 2).bind fun x2 =>
  (hp_pF h 10 v0 10 (.int x2)).bind fun h3 =>
  if 0 ≤ s0 then
    some (s0, h3, sz, sl)
  else
    some (((-100 : Int32) + s0), h3, sz, sl)
set_option maxHeartbeats 1000000 in
set_option maxRecDepth 4000 in
theorem mo_X10_check_23 {n : Nat} {v0 : Nat} {s0 : Int32} {h : hp_H} {sz sl : Nat} {res : Int32 × hp_H × Nat × Nat} (hm : f_X10_check_23 n v0 s0 h sz sl = some res) : sz ≤ res.2.2.1 ∧ sl ≤ res.2.2.2 := by
  unfold f_X10_check_23 at hm
  obtain ⟨x1, hx1, hm⟩ := hp_bd hm
  obtain ⟨x2, hx2, hm⟩ := hp_bd hm
  obtain ⟨h3, hh3, hm⟩ := hp_bd hm
  rcases Decidable.em (0 ≤ s0) with c4 | c4
  · rw [if_pos c4] at hm
    obtain rfl := Option.some.inj hm
    exact ⟨Nat.le_refl _, Nat.le_refl _⟩
  · rw [if_neg c4] at hm
    obtain rfl := Option.some.inj hm
    exact ⟨Nat.le_refl _, Nat.le_refl _⟩
set_option maxHeartbeats 1000000 in
set_option maxRecDepth 4000 in
theorem q_X10_check_23 (G : hp_G) (n : Nat) (v0 : Nat) (s0 : Int32) (h : hp_H) (sz sl : Nat) (res : Int32 × hp_H × Nat × Nat) (hm : f_X10_check_23 n v0 s0 h sz sl = some res) : hp_V G m_X10_check 23 [(0, .ref v0)] [.int s0] h sz sl (some (.int res.1), res.2.1, res.2.2.1, res.2.2.2) := by
  have ho := mo_X10_check_23 hm
  unfold f_X10_check_23 at hm
  refine hv_istore_n [(2, .int s0), (0, .ref v0)] dX10_check_23 rfl (by decide) rfl ?_
  refine hv_aload_n 1 dX10_check_24 rfl rfl ?_
  refine hv_aload_n 1 dX10_check_25 rfl rfl ?_
  obtain ⟨x1, hx1, hm⟩ := hp_bd hm
  refine hv_get lk_f_X10_31 dX10_check_26 (hp_fR_spec hx1) ?_
  obtain ⟨x2, hx2, hm⟩ := hp_bd hm
  refine hv_get lk_f_X10_166 dX10_check_29 (hp_fI_spec hx2) ?_
  obtain ⟨h3, hh3, hm⟩ := hp_bd hm
  refine hv_put lk_f_X10_98 dX10_check_32 rfl rfl hh3 ?_
  refine hv_iload_n 0 dX10_check_35 rfl rfl ?_
  refine hv_if_ge (tgt := 46) dX10_check_36 (by decide) (fun c4 => ?_) (fun c4 => ?_)
  · rw [if_pos c4] at hm
    refine hv_iload_n 0 dX10_check_46 rfl rfl ?_
    obtain rfl := Option.some.inj hm
    exact hv_iret rfl dX10_check_47
  · rw [if_neg c4] at hm
    refine hv_bipush (-100 : Int32) dX10_check_39 (by decide) ?_
    refine hv_iload_n 0 dX10_check_41 rfl rfl ?_
    refine hv_iadd dX10_check_42 ?_
    refine hv_goto (tgt := 47) dX10_check_43 (by decide) ?_
    obtain rfl := Option.some.inj hm
    exact hv_iret rfl dX10_check_47
def f_X10_check_0 (n : Nat) (v0 : Nat) (v1 : Int32) (h : hp_H) (sz sl : Nat) : Option (Int32 × hp_H × Nat × Nat) :=
  (hp_pF h 10 v0 10 (.int (0 : Int32))).bind fun h1 =>
  (hp_fR h1 10 v0 0).bind fun x2 =>
  (f_X0_isProvable n x2 v1 h1).bind fun x3 =>
  if x3 = 0 then
    some ((-1 : Int32), h1, sz, sl)
  else
    (f_X10_examine n v0 v1 h1 sz sl).bind fun x4 =>
    f_X10_check_23 n v0 x4.1 x4.2.1 x4.2.2.1 x4.2.2.2
set_option maxHeartbeats 1000000 in
set_option maxRecDepth 4000 in
theorem mo_X10_check_0 {n : Nat} {v0 : Nat} {v1 : Int32} {h : hp_H} {sz sl : Nat} {res : Int32 × hp_H × Nat × Nat} (hm : f_X10_check_0 n v0 v1 h sz sl = some res) : sz ≤ res.2.2.1 ∧ sl ≤ res.2.2.2 := by
  unfold f_X10_check_0 at hm
  obtain ⟨h1, hh1, hm⟩ := hp_bd hm
  obtain ⟨x2, hx2, hm⟩ := hp_bd hm
  obtain ⟨x3, hx3, hm⟩ := hp_bd hm
  rcases (Decidable.em (x3 = 0)).symm with c5 | c5
  · rw [if_neg c5] at hm
    obtain ⟨x4, hx4, hm⟩ := hp_bd hm
    exact hp_tr (mx_X10_examine hx4) (mo_X10_check_23 hm)
  · rw [if_pos c5] at hm
    obtain rfl := Option.some.inj hm
    exact ⟨Nat.le_refl _, Nat.le_refl _⟩
set_option maxHeartbeats 1000000 in
set_option maxRecDepth 4000 in
theorem q_X10_check_0 (G : hp_G) (n : Nat) (v0 : Nat) (v1 : Int32) (h : hp_H) (sz sl : Nat) (res : Int32 × hp_H × Nat × Nat) (hm : f_X10_check_0 n v0 v1 h sz sl = some res) : hp_V G m_X10_check 0 [(0, .ref v0), (1, .int v1)] [] h sz sl (some (.int res.1), res.2.1, res.2.2.1, res.2.2.2) := by
  have ho := mo_X10_check_0 hm
  unfold f_X10_check_0 at hm
  refine hv_aload_n 0 dX10_check_0 rfl rfl ?_
  refine hv_iconst (0 : Int32) dX10_check_1 (by decide) ?_
  obtain ⟨h1, hh1, hm⟩ := hp_bd hm
  refine hv_put lk_f_X10_98 dX10_check_2 rfl rfl hh1 ?_
  refine hv_aload_n 0 dX10_check_5 rfl rfl ?_
  obtain ⟨x2, hx2, hm⟩ := hp_bd hm
  refine hv_get lk_f_X10_12 dX10_check_6 (hp_fR_spec hx2) ?_
  refine hv_iload_n 1 dX10_check_9 rfl rfl ?_
  obtain ⟨x3, hx3, hm⟩ := hp_bd hm
  obtain ⟨Vx3, hVx3⟩ := k_X0_isProvable hx3
  refine hv_callV (As := [.int v1]) (rest := []) Z_X0_isProvable I_X0_isProvable lk_m_X10_160 rfl hVx3 (c_X0_isProvable G n x2 v1 h1 sz sl _ hx3) rfl (Nat.le_of_ble_eq_true rfl) ⟨Nat.le_of_ble_eq_true rfl, Nat.le_of_ble_eq_true rfl⟩ ho.1 ho.2 rfl dX10_check_10 ?_
  refine hv_as [.int x3] h1 rfl rfl ?_
  refine hv_if_ne (tgt := 18) dX10_check_13 (by decide) (fun c5 => ?_) (fun c5 => ?_)
  · rw [if_neg c5] at hm
    refine hv_aload_n 0 dX10_check_18 rfl rfl ?_
    refine hv_iload_n 1 dX10_check_19 rfl rfl ?_
    obtain ⟨x4, hx4, hm⟩ := hp_bd hm
    have hq := mo_X10_check_23 hm
    obtain ⟨Vx4, hVx4⟩ := k_X10_examine hx4
    refine hv_callV (As := [.int v1]) (rest := []) Z_X10_examine I_X10_examine lk_m_X10_163 rfl hVx4 (c_X10_examine G n v0 v1 h1 sz sl _ hx4) rfl (Nat.le_of_ble_eq_true rfl) ⟨Nat.le_of_ble_eq_true rfl, Nat.le_of_ble_eq_true rfl⟩ hq.1 hq.2 rfl dX10_check_20 ?_
    refine hv_as2 [.int x4.1] x4.2.1 x4.2.2.1 x4.2.2.2 rfl rfl rfl rfl ?_
    exact hv_sub [0] rfl (q_X10_check_23 G n v0 x4.1 x4.2.1 x4.2.2.1 x4.2.2.2 _ hm)
  · rw [if_pos c5] at hm
    refine hv_iconst (-1 : Int32) dX10_check_16 (by decide) ?_
    obtain rfl := Option.some.inj hm
    exact hv_iret rfl dX10_check_17
def f_X10_check (n : Nat) (v0 : Nat) (v1 : Int32) (h : hp_H) (sz sl : Nat) : Option (Int32 × hp_H × Nat × Nat) := (hp_ck h 10 v0).bind fun _ => f_X10_check_0 n v0 v1 h sz sl
theorem c_X10_check (G : hp_G) (n : Nat) (v0 : Nat) (v1 : Int32) (h : hp_H) (sz sl : Nat) (res : Int32 × hp_H × Nat × Nat) (hm : f_X10_check n v0 v1 h sz sl = some res) : hp_C G m_X10_check yX10_check [.ref v0, .int v1] h sz sl (some (.int res.1), res.2.1, res.2.2.1, res.2.2.2) := by
  unfold f_X10_check at hm
  obtain ⟨_, _, hm⟩ := hp_bd hm
  exact hp_C_of (by decide) rfl rfl (Nat.le_of_ble_eq_true rfl) (mo_X10_check_0 hm).1 (mo_X10_check_0 hm).2 (hv_sub [0, 1] rfl (q_X10_check_0 G n v0 v1 h sz sl res hm))
theorem k_X10_check {n : Nat} {v0 : Nat} {v1 : Int32} {h : hp_H} {sz sl : Nat} {res : Int32 × hp_H × Nat × Nat} (hm : f_X10_check n v0 v1 h sz sl = some res) : ∃ V, h v0 = some (.inr (.inr (10, V))) := by
  unfold f_X10_check at hm
  obtain ⟨_, hu, _⟩ := hp_bd hm
  exact hp_ck_spec hu
theorem mx_X10_check {n : Nat} {v0 : Nat} {v1 : Int32} {h : hp_H} {sz sl : Nat} {res : Int32 × hp_H × Nat × Nat} (hm : f_X10_check n v0 v1 h sz sl = some res) : sz ≤ res.2.2.1 ∧ sl ≤ res.2.2.2 := by
  unfold f_X10_check at hm
  obtain ⟨_, _, hm⟩ := hp_bd hm
  exact mo_X10_check_0 hm
abbrev m_X10_step : hp_M := (RX10, cX10_step, 1, some .int, 0, 0, "step")
theorem Z_X10_step : hp_Y yX10_step m_X10_step 0 := Y_X10_step
def f_X10_step_0 (n : Nat) (v0 : Nat) (h : hp_H) : Option (Int32) :=
  (hp_fI h 10 v0 10).bind fun x1 =>
  some x1
set_option maxHeartbeats 1000000 in
set_option maxRecDepth 4000 in
theorem q_X10_step_0 (G : hp_G) (n : Nat) (v0 : Nat) (h : hp_H) (sz sl : Nat) (res : Int32) (hm : f_X10_step_0 n v0 h = some res) : hp_V G m_X10_step 0 [(0, .ref v0)] [] h sz sl (some (.int res), h, sz, sl) := by
  have ho : sz ≤ sz ∧ sl ≤ sl := ⟨Nat.le_refl _, Nat.le_refl _⟩
  unfold f_X10_step_0 at hm
  refine hv_aload_n 0 dX10_step_0 rfl rfl ?_
  obtain ⟨x1, hx1, hm⟩ := hp_bd hm
  refine hv_get lk_f_X10_98 dX10_step_1 (hp_fI_spec hx1) ?_
  obtain rfl := Option.some.inj hm
  exact hv_iret rfl dX10_step_4
def f_X10_step (n : Nat) (v0 : Nat) (h : hp_H) : Option (Int32) := (hp_ck h 10 v0).bind fun _ => f_X10_step_0 n v0 h
theorem c_X10_step (G : hp_G) (n : Nat) (v0 : Nat) (h : hp_H) (sz sl : Nat) (res : Int32) (hm : f_X10_step n v0 h = some res) : hp_C G m_X10_step yX10_step [.ref v0] h sz sl (some (.int res), h, sz, sl) := by
  unfold f_X10_step at hm
  obtain ⟨_, _, hm⟩ := hp_bd hm
  exact hp_C_of (by decide) rfl rfl (Nat.le_of_ble_eq_true rfl) (Nat.le_refl _) (Nat.le_refl _) (hv_sub [0] rfl (q_X10_step_0 G n v0 h sz sl res hm))
theorem k_X10_step {n : Nat} {v0 : Nat} {h : hp_H} {res : Int32} (hm : f_X10_step n v0 h = some res) : ∃ V, h v0 = some (.inr (.inr (10, V))) := by
  unfold f_X10_step at hm
  obtain ⟨_, hu, _⟩ := hp_bd hm
  exact hp_ck_spec hu
abbrev m_X10_trace : hp_M := (RX10, cX10_trace, 4, some .int, 7, 185, "trace")
theorem Z_X10_trace : hp_Y yX10_trace m_X10_trace 2 := Y_X10_trace
def f_X10_trace_74 (n : Nat) (v0 : Nat) (v3 : Int32) (h : hp_H) (sz sl : Nat) : Option (Int32 × hp_H × Nat × Nat) :=
  (hp_fR h 10 v0 3).bind fun x1 =>
  (hp_fI h 3 x1 2).bind fun x2 =>
  (hp_pF h 10 v0 10 (.int x2)).bind fun h3 =>
  if v3 = 0 then
    (hp_fR h3 10 v0 5).bind fun x8 =>
    (hp_fR h3 1 x8 0).bind fun x9 =>
    (hp_fI h3 5 x9 3).bind fun x10 =>
    some (x10, h3, sz, sl)
  else
    (hp_fR h3 10 v0 5).bind fun x4 =>
    (hp_fR h3 1 x4 0).bind fun x5 =>
    (f_X5_clear n x5 h3).bind fun x6 =>
    if v3 = (1 : Int32) then
      some ((-9 : Int32), x6, sz, sl)
    else
      some (((-100 : Int32) + v3), x6, sz, sl)
set_option maxHeartbeats 1000000 in
set_option maxRecDepth 4000 in
theorem mo_X10_trace_74 {n : Nat} {v0 : Nat} {v3 : Int32} {h : hp_H} {sz sl : Nat} {res : Int32 × hp_H × Nat × Nat} (hm : f_X10_trace_74 n v0 v3 h sz sl = some res) : sz ≤ res.2.2.1 ∧ sl ≤ res.2.2.2 := by
  unfold f_X10_trace_74 at hm
  obtain ⟨x1, hx1, hm⟩ := hp_bd hm
  obtain ⟨x2, hx2, hm⟩ := hp_bd hm
  obtain ⟨h3, hh3, hm⟩ := hp_bd hm
  rcases (Decidable.em (v3 = 0)).symm with c11 | c11
  · rw [if_neg c11] at hm
    obtain ⟨x4, hx4, hm⟩ := hp_bd hm
    obtain ⟨x5, hx5, hm⟩ := hp_bd hm
    obtain ⟨x6, hx6, hm⟩ := hp_bd hm
    rcases (Decidable.em (v3 = (1 : Int32))).symm with c7 | c7
    · rw [if_neg c7] at hm
      obtain rfl := Option.some.inj hm
      exact ⟨Nat.le_refl _, Nat.le_refl _⟩
    · rw [if_pos c7] at hm
      obtain rfl := Option.some.inj hm
      exact ⟨Nat.le_refl _, Nat.le_refl _⟩
  · rw [if_pos c11] at hm
    obtain ⟨x8, hx8, hm⟩ := hp_bd hm
    obtain ⟨x9, hx9, hm⟩ := hp_bd hm
    obtain ⟨x10, hx10, hm⟩ := hp_bd hm
    obtain rfl := Option.some.inj hm
    exact ⟨Nat.le_refl _, Nat.le_refl _⟩
set_option maxHeartbeats 1000000 in
set_option maxRecDepth 4000 in
theorem q_X10_trace_74 (G : hp_G) (n : Nat) (v0 : Nat) (v3 : Int32) (h : hp_H) (sz sl : Nat) (res : Int32 × hp_H × Nat × Nat) (hm : f_X10_trace_74 n v0 v3 h sz sl = some res) : hp_V G m_X10_trace 74 [(0, .ref v0), (3, .int v3)] [] h sz sl (some (.int res.1), res.2.1, res.2.2.1, res.2.2.2) := by
  have ho := mo_X10_trace_74 hm
  unfold f_X10_trace_74 at hm
  refine hv_aload_n 0 dX10_trace_74 rfl rfl ?_
  refine hv_aload_n 0 dX10_trace_75 rfl rfl ?_
  obtain ⟨x1, hx1, hm⟩ := hp_bd hm
  refine hv_get lk_f_X10_31 dX10_trace_76 (hp_fR_spec hx1) ?_
  obtain ⟨x2, hx2, hm⟩ := hp_bd hm
  refine hv_get lk_f_X10_166 dX10_trace_79 (hp_fI_spec hx2) ?_
  obtain ⟨h3, hh3, hm⟩ := hp_bd hm
  refine hv_put lk_f_X10_98 dX10_trace_82 rfl rfl hh3 ?_
  refine hv_iload_n 1 dX10_trace_85 rfl rfl ?_
  refine hv_if_ne (tgt := 100) dX10_trace_86 (by decide) (fun c11 => ?_) (fun c11 => ?_)
  · rw [if_neg c11] at hm
    refine hv_aload_n 0 dX10_trace_100 rfl rfl ?_
    obtain ⟨x4, hx4, hm⟩ := hp_bd hm
    refine hv_get lk_f_X10_42 dX10_trace_101 (hp_fR_spec hx4) ?_
    obtain ⟨x5, hx5, hm⟩ := hp_bd hm
    refine hv_get lk_f_X10_101 dX10_trace_104 (hp_fR_spec hx5) ?_
    obtain ⟨x6, hx6, hm⟩ := hp_bd hm
    obtain ⟨Vx6, hVx6⟩ := k_X5_clear hx6
    refine hv_callV (As := []) (rest := []) Z_X5_clear I_X5_clear lk_m_X10_105 rfl hVx6 (c_X5_clear G n x5 h3 sz sl _ hx6) rfl (Nat.le_of_ble_eq_true rfl) ⟨Nat.le_of_ble_eq_true rfl, Nat.le_of_ble_eq_true rfl⟩ ho.1 ho.2 rfl dX10_trace_107 ?_
    refine hv_as [] x6 rfl rfl ?_
    refine hv_iload_n 1 dX10_trace_110 rfl rfl ?_
    refine hv_iconst (1 : Int32) dX10_trace_111 (by decide) ?_
    refine hv_icmp_ne (tgt := 120) dX10_trace_112 (by decide) (fun c7 => ?_) (fun c7 => ?_)
    · rw [if_neg c7] at hm
      refine hv_bipush (-100 : Int32) dX10_trace_120 (by decide) ?_
      refine hv_iload_n 1 dX10_trace_122 rfl rfl ?_
      refine hv_iadd dX10_trace_123 ?_
      obtain rfl := Option.some.inj hm
      exact hv_iret rfl dX10_trace_124
    · rw [if_pos c7] at hm
      refine hv_bipush (-9 : Int32) dX10_trace_115 (by decide) ?_
      refine hv_goto (tgt := 124) dX10_trace_117 (by decide) ?_
      obtain rfl := Option.some.inj hm
      exact hv_iret rfl dX10_trace_124
  · rw [if_pos c11] at hm
    refine hv_aload_n 0 dX10_trace_89 rfl rfl ?_
    obtain ⟨x8, hx8, hm⟩ := hp_bd hm
    refine hv_get lk_f_X10_42 dX10_trace_90 (hp_fR_spec hx8) ?_
    obtain ⟨x9, hx9, hm⟩ := hp_bd hm
    refine hv_get lk_f_X10_101 dX10_trace_93 (hp_fR_spec hx9) ?_
    obtain ⟨x10, hx10, hm⟩ := hp_bd hm
    refine hv_get lk_f_X10_114 dX10_trace_96 (hp_fI_spec hx10) ?_
    obtain rfl := Option.some.inj hm
    exact hv_iret rfl dX10_trace_99
def f_X10_trace_73 (n : Nat) (v0 : Nat) (s0 : Int32) (h : hp_H) (sz sl : Nat) : Option (Int32 × hp_H × Nat × Nat) :=
  f_X10_trace_74 n v0 s0 h sz sl
set_option maxHeartbeats 1000000 in
set_option maxRecDepth 4000 in
theorem mo_X10_trace_73 {n : Nat} {v0 : Nat} {s0 : Int32} {h : hp_H} {sz sl : Nat} {res : Int32 × hp_H × Nat × Nat} (hm : f_X10_trace_73 n v0 s0 h sz sl = some res) : sz ≤ res.2.2.1 ∧ sl ≤ res.2.2.2 := by
  unfold f_X10_trace_73 at hm
  exact mo_X10_trace_74 hm
set_option maxHeartbeats 1000000 in
set_option maxRecDepth 4000 in
theorem q_X10_trace_73 (G : hp_G) (n : Nat) (v0 : Nat) (s0 : Int32) (h : hp_H) (sz sl : Nat) (res : Int32 × hp_H × Nat × Nat) (hm : f_X10_trace_73 n v0 s0 h sz sl = some res) : hp_V G m_X10_trace 73 [(0, .ref v0)] [.int s0] h sz sl (some (.int res.1), res.2.1, res.2.2.1, res.2.2.2) := by
  have ho := mo_X10_trace_73 hm
  unfold f_X10_trace_73 at hm
  refine hv_istore_n [(3, .int s0), (0, .ref v0)] dX10_trace_73 rfl (by decide) rfl ?_
  exact hv_sub [1, 0] rfl (q_X10_trace_74 G n v0 s0 h sz sl _ hm)
def f_X10_trace_0 (n : Nat) (v0 : Nat) (v1 : Int32) (v2 : Int32) (h : hp_H) (sz sl : Nat) : Option (Int32 × hp_H × Nat × Nat) :=
  (hp_pF h 10 v0 10 (.int (0 : Int32))).bind fun h1 =>
  (hp_fR h1 10 v0 5).bind fun x2 =>
  (hp_fR h1 1 x2 0).bind fun x3 =>
  (f_X5_clear n x3 h1).bind fun x4 =>
  (hp_fR x4 10 v0 0).bind fun x5 =>
  (f_X0_isProvable n x5 v1 x4).bind fun x6 =>
  if x6 = 0 then
    some ((-1 : Int32), x4, sz, sl)
  else
    if 0 ≤ v2 then
      (hp_fR x4 10 v0 3).bind fun x7 =>
      (hp_fR x4 10 v0 0).bind fun x8 =>
      (f_X3_decode n x7 x8 v1 x4).bind fun x9 =>
      if x9.1 = 0 then
        (hp_fR x9.2 10 v0 5).bind fun x10 =>
        (hp_fR x9.2 10 v0 0).bind fun x11 =>
        (hp_fR x9.2 10 v0 3).bind fun x12 =>
        (f_X1_run n x10 x11 x12 ((hp_mn v2 (1000 : Int32)) + (1 : Int32)) x9.2 sz sl).bind fun x13 =>
        f_X10_trace_73 n v0 x13.1 x13.2.1 x13.2.2.1 x13.2.2.2
      else
        f_X10_trace_74 n v0 x9.1 x9.2 sz sl
    else
      some ((-1 : Int32), x4, sz, sl)
set_option maxHeartbeats 1000000 in
set_option maxRecDepth 4000 in
theorem mo_X10_trace_0 {n : Nat} {v0 : Nat} {v1 : Int32} {v2 : Int32} {h : hp_H} {sz sl : Nat} {res : Int32 × hp_H × Nat × Nat} (hm : f_X10_trace_0 n v0 v1 v2 h sz sl = some res) : sz ≤ res.2.2.1 ∧ sl ≤ res.2.2.2 := by
  unfold f_X10_trace_0 at hm
  obtain ⟨h1, hh1, hm⟩ := hp_bd hm
  obtain ⟨x2, hx2, hm⟩ := hp_bd hm
  obtain ⟨x3, hx3, hm⟩ := hp_bd hm
  obtain ⟨x4, hx4, hm⟩ := hp_bd hm
  obtain ⟨x5, hx5, hm⟩ := hp_bd hm
  obtain ⟨x6, hx6, hm⟩ := hp_bd hm
  rcases Decidable.em (x6 = 0) with c16 | c16
  · rw [if_pos c16] at hm
    obtain rfl := Option.some.inj hm
    exact ⟨Nat.le_refl _, Nat.le_refl _⟩
  · rw [if_neg c16] at hm
    rcases Decidable.em (0 ≤ v2) with c15 | c15
    · rw [if_pos c15] at hm
      obtain ⟨x7, hx7, hm⟩ := hp_bd hm
      obtain ⟨x8, hx8, hm⟩ := hp_bd hm
      obtain ⟨x9, hx9, hm⟩ := hp_bd hm
      rcases (Decidable.em (x9.1 = 0)).symm with c14 | c14
      · rw [if_neg c14] at hm
        exact mo_X10_trace_74 hm
      · rw [if_pos c14] at hm
        obtain ⟨x10, hx10, hm⟩ := hp_bd hm
        obtain ⟨x11, hx11, hm⟩ := hp_bd hm
        obtain ⟨x12, hx12, hm⟩ := hp_bd hm
        obtain ⟨x13, hx13, hm⟩ := hp_bd hm
        exact hp_tr (mx_X1_run hx13) (mo_X10_trace_73 hm)
    · rw [if_neg c15] at hm
      obtain rfl := Option.some.inj hm
      exact ⟨Nat.le_refl _, Nat.le_refl _⟩
set_option maxHeartbeats 1000000 in
set_option maxRecDepth 4000 in
theorem q_X10_trace_0 (G : hp_G) (n : Nat) (v0 : Nat) (v1 : Int32) (v2 : Int32) (h : hp_H) (sz sl : Nat) (res : Int32 × hp_H × Nat × Nat) (hm : f_X10_trace_0 n v0 v1 v2 h sz sl = some res) : hp_V G m_X10_trace 0 [(0, .ref v0), (1, .int v1), (2, .int v2)] [] h sz sl (some (.int res.1), res.2.1, res.2.2.1, res.2.2.2) := by
  have ho := mo_X10_trace_0 hm
  unfold f_X10_trace_0 at hm
  refine hv_aload_n 0 dX10_trace_0 rfl rfl ?_
  refine hv_iconst (0 : Int32) dX10_trace_1 (by decide) ?_
  obtain ⟨h1, hh1, hm⟩ := hp_bd hm
  refine hv_put lk_f_X10_98 dX10_trace_2 rfl rfl hh1 ?_
  refine hv_aload_n 0 dX10_trace_5 rfl rfl ?_
  obtain ⟨x2, hx2, hm⟩ := hp_bd hm
  refine hv_get lk_f_X10_42 dX10_trace_6 (hp_fR_spec hx2) ?_
  obtain ⟨x3, hx3, hm⟩ := hp_bd hm
  refine hv_get lk_f_X10_101 dX10_trace_9 (hp_fR_spec hx3) ?_
  obtain ⟨x4, hx4, hm⟩ := hp_bd hm
  obtain ⟨Vx4, hVx4⟩ := k_X5_clear hx4
  refine hv_callV (As := []) (rest := []) Z_X5_clear I_X5_clear lk_m_X10_105 rfl hVx4 (c_X5_clear G n x3 h1 sz sl _ hx4) rfl (Nat.le_of_ble_eq_true rfl) ⟨Nat.le_of_ble_eq_true rfl, Nat.le_of_ble_eq_true rfl⟩ ho.1 ho.2 rfl dX10_trace_12 ?_
  refine hv_as [] x4 rfl rfl ?_
  refine hv_aload_n 0 dX10_trace_15 rfl rfl ?_
  obtain ⟨x5, hx5, hm⟩ := hp_bd hm
  refine hv_get lk_f_X10_12 dX10_trace_16 (hp_fR_spec hx5) ?_
  refine hv_iload_n 1 dX10_trace_19 rfl rfl ?_
  obtain ⟨x6, hx6, hm⟩ := hp_bd hm
  obtain ⟨Vx6, hVx6⟩ := k_X0_isProvable hx6
  refine hv_callV (As := [.int v1]) (rest := []) Z_X0_isProvable I_X0_isProvable lk_m_X10_160 rfl hVx6 (c_X0_isProvable G n x5 v1 x4 sz sl _ hx6) rfl (Nat.le_of_ble_eq_true rfl) ⟨Nat.le_of_ble_eq_true rfl, Nat.le_of_ble_eq_true rfl⟩ ho.1 ho.2 rfl dX10_trace_20 ?_
  refine hv_as [.int x6] x4 rfl rfl ?_
  refine hv_if_eq (tgt := 30) dX10_trace_23 (by decide) (fun c16 => ?_) (fun c16 => ?_)
  · rw [if_pos c16] at hm
    refine hv_iconst (-1 : Int32) dX10_trace_30 (by decide) ?_
    obtain rfl := Option.some.inj hm
    exact hv_iret rfl dX10_trace_31
  · rw [if_neg c16] at hm
    refine hv_iload_n 2 dX10_trace_26 rfl rfl ?_
    refine hv_if_ge (tgt := 32) dX10_trace_27 (by decide) (fun c15 => ?_) (fun c15 => ?_)
    · rw [if_pos c15] at hm
      refine hv_aload_n 0 dX10_trace_32 rfl rfl ?_
      obtain ⟨x7, hx7, hm⟩ := hp_bd hm
      refine hv_get lk_f_X10_31 dX10_trace_33 (hp_fR_spec hx7) ?_
      refine hv_aload_n 0 dX10_trace_36 rfl rfl ?_
      obtain ⟨x8, hx8, hm⟩ := hp_bd hm
      refine hv_get lk_f_X10_12 dX10_trace_37 (hp_fR_spec hx8) ?_
      refine hv_iload_n 1 dX10_trace_40 rfl rfl ?_
      obtain ⟨x9, hx9, hm⟩ := hp_bd hm
      obtain ⟨Vx9, hVx9⟩ := k_X3_decode hx9
      refine hv_callV (As := [.ref x8, .int v1]) (rest := []) Z_X3_decode I_X3_decode lk_m_X10_169 rfl hVx9 (c_X3_decode G n x7 x8 v1 x4 sz sl _ hx9) rfl (Nat.le_of_ble_eq_true rfl) ⟨Nat.le_of_ble_eq_true rfl, Nat.le_of_ble_eq_true rfl⟩ ho.1 ho.2 rfl dX10_trace_41 ?_
      refine hv_as [.int x9.1] x9.2 rfl rfl ?_
      refine hv_istore_n [(3, .int x9.1), (0, .ref v0), (1, .int v1), (2, .int v2)] dX10_trace_44 rfl (by decide) rfl ?_
      refine hv_iload_n 0 dX10_trace_45 rfl rfl ?_
      refine hv_if_ne (tgt := 74) dX10_trace_46 (by decide) (fun c14 => ?_) (fun c14 => ?_)
      · rw [if_neg c14] at hm
        exact hv_sub [1, 0] rfl (q_X10_trace_74 G n v0 x9.1 x9.2 sz sl _ hm)
      · rw [if_pos c14] at hm
        refine hv_aload_n 1 dX10_trace_49 rfl rfl ?_
        obtain ⟨x10, hx10, hm⟩ := hp_bd hm
        refine hv_get lk_f_X10_42 dX10_trace_50 (hp_fR_spec hx10) ?_
        refine hv_aload_n 1 dX10_trace_53 rfl rfl ?_
        obtain ⟨x11, hx11, hm⟩ := hp_bd hm
        refine hv_get lk_f_X10_12 dX10_trace_54 (hp_fR_spec hx11) ?_
        refine hv_aload_n 1 dX10_trace_57 rfl rfl ?_
        obtain ⟨x12, hx12, hm⟩ := hp_bd hm
        refine hv_get lk_f_X10_31 dX10_trace_58 (hp_fR_spec hx12) ?_
        refine hv_iload_n 3 dX10_trace_61 rfl rfl ?_
        refine hv_sipush (1000 : Int32) dX10_trace_62 (by decide) ?_
        refine hv_mmin lk_x_X10_184 ⟨Nat.le_of_ble_eq_true rfl, Nat.le_of_ble_eq_true rfl⟩ (Nat.le_of_ble_eq_true rfl) ho dX10_trace_65 ?_
        refine hv_iconst (1 : Int32) dX10_trace_68 (by decide) ?_
        refine hv_iadd dX10_trace_69 ?_
        obtain ⟨x13, hx13, hm⟩ := hp_bd hm
        have hq := mo_X10_trace_73 hm
        obtain ⟨Vx13, hVx13⟩ := k_X1_run hx13
        refine hv_callV (As := [.ref x11, .ref x12, .int ((hp_mn v2 (1000 : Int32)) + (1 : Int32))]) (rest := []) Z_X1_run I_X1_run lk_m_X10_176 rfl hVx13 (c_X1_run G n x10 x11 x12 ((hp_mn v2 (1000 : Int32)) + (1 : Int32)) x9.2 sz sl _ hx13) rfl (Nat.le_of_ble_eq_true rfl) ⟨Nat.le_of_ble_eq_true rfl, Nat.le_of_ble_eq_true rfl⟩ hq.1 hq.2 rfl dX10_trace_70 ?_
        refine hv_as2 [.int x13.1] x13.2.1 x13.2.2.1 x13.2.2.2 rfl rfl rfl rfl ?_
        exact hv_sub [1] rfl (q_X10_trace_73 G n v0 x13.1 x13.2.1 x13.2.2.1 x13.2.2.2 _ hm)
    · rw [if_neg c15] at hm
      refine hv_iconst (-1 : Int32) dX10_trace_30 (by decide) ?_
      obtain rfl := Option.some.inj hm
      exact hv_iret rfl dX10_trace_31
def f_X10_trace (n : Nat) (v0 : Nat) (v1 : Int32) (v2 : Int32) (h : hp_H) (sz sl : Nat) : Option (Int32 × hp_H × Nat × Nat) := (hp_ck h 10 v0).bind fun _ => f_X10_trace_0 n v0 v1 v2 h sz sl
theorem c_X10_trace (G : hp_G) (n : Nat) (v0 : Nat) (v1 : Int32) (v2 : Int32) (h : hp_H) (sz sl : Nat) (res : Int32 × hp_H × Nat × Nat) (hm : f_X10_trace n v0 v1 v2 h sz sl = some res) : hp_C G m_X10_trace yX10_trace [.ref v0, .int v1, .int v2] h sz sl (some (.int res.1), res.2.1, res.2.2.1, res.2.2.2) := by
  unfold f_X10_trace at hm
  obtain ⟨_, _, hm⟩ := hp_bd hm
  exact hp_C_of (by decide) rfl rfl (Nat.le_of_ble_eq_true rfl) (mo_X10_trace_0 hm).1 (mo_X10_trace_0 hm).2 (hv_sub [0, 1, 2] rfl (q_X10_trace_0 G n v0 v1 v2 h sz sl res hm))
theorem k_X10_trace {n : Nat} {v0 : Nat} {v1 : Int32} {v2 : Int32} {h : hp_H} {sz sl : Nat} {res : Int32 × hp_H × Nat × Nat} (hm : f_X10_trace n v0 v1 v2 h sz sl = some res) : ∃ V, h v0 = some (.inr (.inr (10, V))) := by
  unfold f_X10_trace at hm
  obtain ⟨_, hu, _⟩ := hp_bd hm
  exact hp_ck_spec hu
theorem mx_X10_trace {n : Nat} {v0 : Nat} {v1 : Int32} {v2 : Int32} {h : hp_H} {sz sl : Nat} {res : Int32 × hp_H × Nat × Nat} (hm : f_X10_trace n v0 v1 v2 h sz sl = some res) : sz ≤ res.2.2.1 ∧ sl ≤ res.2.2.2 := by
  unfold f_X10_trace at hm
  obtain ⟨_, _, hm⟩ := hp_bd hm
  exact mo_X10_trace_0 hm
abbrev m_X10_thing : hp_M := (RX10, cX10_thing, 5, some .int, 1, 22, "thing")
theorem Z_X10_thing : hp_Y yX10_thing m_X10_thing 2 := Y_X10_thing
def f_X10_thing_0 (n : Nat) (v0 : Nat) (v1 : Int32) (v2 : Int32) (h : hp_H) : Option (Int32) :=
  (hp_fR h 10 v0 5).bind fun x1 =>
  (hp_fR h 1 x1 0).bind fun x2 =>
  if v1 < 0 then
    some (-1 : Int32)
  else
    (hp_fI h 5 x2 3).bind fun x3 =>
    if v1 < x3 then
      (hp_fI h 5 x2 3).bind fun x4 =>
      if v2 = (-1 : Int32) then
        (f_X5_size n x2 ((x4 - (1 : Int32)) - v1) h).bind fun x6 =>
        some x6
      else
        (f_X5_get n x2 ((x4 - (1 : Int32)) - v1) v2 h).bind fun x5 =>
        some x5
    else
      some (-1 : Int32)
set_option maxHeartbeats 1000000 in
set_option maxRecDepth 4000 in
theorem q_X10_thing_0 (G : hp_G) (n : Nat) (v0 : Nat) (v1 : Int32) (v2 : Int32) (h : hp_H) (sz sl : Nat) (res : Int32) (hm : f_X10_thing_0 n v0 v1 v2 h = some res) : hp_V G m_X10_thing 0 [(0, .ref v0), (1, .int v1), (2, .int v2)] [] h sz sl (some (.int res), h, sz, sl) := by
  have ho : sz ≤ sz ∧ sl ≤ sl := ⟨Nat.le_refl _, Nat.le_refl _⟩
  unfold f_X10_thing_0 at hm
  refine hv_aload_n 0 dX10_thing_0 rfl rfl ?_
  obtain ⟨x1, hx1, hm⟩ := hp_bd hm
  refine hv_get lk_f_X10_42 dX10_thing_1 (hp_fR_spec hx1) ?_
  obtain ⟨x2, hx2, hm⟩ := hp_bd hm
  refine hv_get lk_f_X10_101 dX10_thing_4 (hp_fR_spec hx2) ?_
  refine hv_astore_n [(3, .ref x2), (0, .ref v0), (1, .int v1), (2, .int v2)] dX10_thing_7 rfl (by decide) rfl ?_
  refine hv_iload_n 2 dX10_thing_8 rfl rfl ?_
  refine hv_if_lt (tgt := 20) dX10_thing_9 (by decide) (fun c9 => ?_) (fun c9 => ?_)
  · rw [if_pos c9] at hm
    refine hv_iconst (-1 : Int32) dX10_thing_20 (by decide) ?_
    obtain rfl := Option.some.inj hm
    exact hv_iret rfl dX10_thing_21
  · rw [if_neg c9] at hm
    refine hv_iload_n 2 dX10_thing_12 rfl rfl ?_
    refine hv_aload_n 0 dX10_thing_13 rfl rfl ?_
    obtain ⟨x3, hx3, hm⟩ := hp_bd hm
    refine hv_get lk_f_X10_114 dX10_thing_14 (hp_fI_spec hx3) ?_
    refine hv_icmp_lt (tgt := 22) dX10_thing_17 (by decide) (fun c8 => ?_) (fun c8 => ?_)
    · rw [if_pos c8] at hm
      refine hv_aload_n 0 dX10_thing_22 rfl rfl ?_
      obtain ⟨x4, hx4, hm⟩ := hp_bd hm
      refine hv_get lk_f_X10_114 dX10_thing_23 (hp_fI_spec hx4) ?_
      refine hv_iconst (1 : Int32) dX10_thing_26 (by decide) ?_
      refine hv_isub dX10_thing_27 ?_
      refine hv_iload_n 2 dX10_thing_28 rfl rfl ?_
      refine hv_isub dX10_thing_29 ?_
      refine hv_istore [(4, .int ((x4 - (1 : Int32)) - v1)), (3, .ref x2), (0, .ref v0), (1, .int v1), (2, .int v2)] dX10_thing_30 (by decide) rfl ?_
      refine hv_iload_n 4 dX10_thing_32 rfl rfl ?_
      refine hv_iconst (-1 : Int32) dX10_thing_33 (by decide) ?_
      refine hv_icmp_ne (tgt := 46) dX10_thing_34 (by decide) (fun c7 => ?_) (fun c7 => ?_)
      · rw [if_neg c7] at hm
        refine hv_aload_n 1 dX10_thing_46 rfl rfl ?_
        refine hv_iload 0 dX10_thing_47 rfl ?_
        refine hv_iload_n 4 dX10_thing_49 rfl rfl ?_
        obtain ⟨x5, hx5, hm⟩ := hp_bd hm
        obtain ⟨Vx5, hVx5⟩ := k_X5_get hx5
        refine hv_callV (As := [.int ((x4 - (1 : Int32)) - v1), .int v2]) (rest := []) Z_X5_get I_X5_get lk_m_X10_144 rfl hVx5 (c_X5_get G n x2 ((x4 - (1 : Int32)) - v1) v2 h sz sl _ hx5) rfl (Nat.le_of_ble_eq_true rfl) ⟨Nat.le_of_ble_eq_true rfl, Nat.le_of_ble_eq_true rfl⟩ ho.1 ho.2 rfl dX10_thing_50 ?_
        refine hv_as [.int x5] h rfl rfl ?_
        obtain rfl := Option.some.inj hm
        exact hv_iret rfl dX10_thing_53
      · rw [if_pos c7] at hm
        refine hv_aload_n 1 dX10_thing_37 rfl rfl ?_
        refine hv_iload 0 dX10_thing_38 rfl ?_
        obtain ⟨x6, hx6, hm⟩ := hp_bd hm
        obtain ⟨Vx6, hVx6⟩ := k_X5_size hx6
        refine hv_callV (As := [.int ((x4 - (1 : Int32)) - v1)]) (rest := []) Z_X5_size I_X5_size lk_m_X10_128 rfl hVx6 (c_X5_size G n x2 ((x4 - (1 : Int32)) - v1) h sz sl _ hx6) rfl (Nat.le_of_ble_eq_true rfl) ⟨Nat.le_of_ble_eq_true rfl, Nat.le_of_ble_eq_true rfl⟩ ho.1 ho.2 rfl dX10_thing_40 ?_
        refine hv_as [.int x6] h rfl rfl ?_
        refine hv_goto (tgt := 53) dX10_thing_43 (by decide) ?_
        obtain rfl := Option.some.inj hm
        exact hv_iret rfl dX10_thing_53
    · rw [if_neg c8] at hm
      refine hv_iconst (-1 : Int32) dX10_thing_20 (by decide) ?_
      obtain rfl := Option.some.inj hm
      exact hv_iret rfl dX10_thing_21
def f_X10_thing (n : Nat) (v0 : Nat) (v1 : Int32) (v2 : Int32) (h : hp_H) : Option (Int32) := (hp_ck h 10 v0).bind fun _ => f_X10_thing_0 n v0 v1 v2 h
theorem c_X10_thing (G : hp_G) (n : Nat) (v0 : Nat) (v1 : Int32) (v2 : Int32) (h : hp_H) (sz sl : Nat) (res : Int32) (hm : f_X10_thing n v0 v1 v2 h = some res) : hp_C G m_X10_thing yX10_thing [.ref v0, .int v1, .int v2] h sz sl (some (.int res), h, sz, sl) := by
  unfold f_X10_thing at hm
  obtain ⟨_, _, hm⟩ := hp_bd hm
  exact hp_C_of (by decide) rfl rfl (Nat.le_of_ble_eq_true rfl) (Nat.le_refl _) (Nat.le_refl _) (hv_sub [0, 1, 2] rfl (q_X10_thing_0 G n v0 v1 v2 h sz sl res hm))
theorem k_X10_thing {n : Nat} {v0 : Nat} {v1 : Int32} {v2 : Int32} {h : hp_H} {res : Int32} (hm : f_X10_thing n v0 v1 v2 h = some res) : ∃ V, h v0 = some (.inr (.inr (10, V))) := by
  unfold f_X10_thing at hm
  obtain ⟨_, hu, _⟩ := hp_bd hm
  exact hp_ck_spec hu
abbrev m_X10_publish : hp_M := (RX10, cX10_publish, 2, some .int, 0, 0, "publish")
theorem Z_X10_publish : hp_Y yX10_publish m_X10_publish 0 := Y_X10_publish
def f_X10_publish_0 (n : Nat) (v0 : Nat) (h : hp_H) : Option (Int32 × hp_H) :=
  (hp_fR h 10 v0 8).bind fun x1 =>
  (hp_fI h 8 x1 2).bind fun x2 =>
  if x2 = 0 then
    (hp_fR h 10 v0 7).bind fun x3 =>
    (hp_fR h 10 v0 8).bind fun x4 =>
    (hp_pF h 10 v0 7 (.ref x4)).bind fun h5 =>
    (hp_pF h5 10 v0 8 (.ref x3)).bind fun h6 =>
    (hp_fR h6 10 v0 7).bind fun x7 =>
    (hp_fI h6 8 x7 1).bind fun x8 =>
    some (x8, h6)
  else
    some ((-3 : Int32), h)
set_option maxHeartbeats 1000000 in
set_option maxRecDepth 4000 in
theorem q_X10_publish_0 (G : hp_G) (n : Nat) (v0 : Nat) (h : hp_H) (sz sl : Nat) (res : Int32 × hp_H) (hm : f_X10_publish_0 n v0 h = some res) : hp_V G m_X10_publish 0 [(0, .ref v0)] [] h sz sl (some (.int res.1), res.2, sz, sl) := by
  have ho : sz ≤ sz ∧ sl ≤ sl := ⟨Nat.le_refl _, Nat.le_refl _⟩
  unfold f_X10_publish_0 at hm
  refine hv_aload_n 0 dX10_publish_0 rfl rfl ?_
  obtain ⟨x1, hx1, hm⟩ := hp_bd hm
  refine hv_get lk_f_X10_61 dX10_publish_1 (hp_fR_spec hx1) ?_
  obtain ⟨x2, hx2, hm⟩ := hp_bd hm
  refine hv_get lk_f_X10_220 dX10_publish_4 (hp_fI_spec hx2) ?_
  refine hv_if_eq (tgt := 13) dX10_publish_7 (by decide) (fun c9 => ?_) (fun c9 => ?_)
  · rw [if_pos c9] at hm
    refine hv_aload_n 0 dX10_publish_13 rfl rfl ?_
    obtain ⟨x3, hx3, hm⟩ := hp_bd hm
    refine hv_get lk_f_X10_57 dX10_publish_14 (hp_fR_spec hx3) ?_
    refine hv_astore_n [(1, .ref x3), (0, .ref v0)] dX10_publish_17 rfl (by decide) rfl ?_
    refine hv_aload_n 1 dX10_publish_18 rfl rfl ?_
    refine hv_aload_n 1 dX10_publish_19 rfl rfl ?_
    obtain ⟨x4, hx4, hm⟩ := hp_bd hm
    refine hv_get lk_f_X10_61 dX10_publish_20 (hp_fR_spec hx4) ?_
    obtain ⟨h5, hh5, hm⟩ := hp_bd hm
    refine hv_put lk_f_X10_57 dX10_publish_23 rfl rfl hh5 ?_
    refine hv_aload_n 1 dX10_publish_26 rfl rfl ?_
    refine hv_aload_n 0 dX10_publish_27 rfl rfl ?_
    obtain ⟨h6, hh6, hm⟩ := hp_bd hm
    refine hv_put lk_f_X10_61 dX10_publish_28 rfl rfl hh6 ?_
    refine hv_aload_n 1 dX10_publish_31 rfl rfl ?_
    obtain ⟨x7, hx7, hm⟩ := hp_bd hm
    refine hv_get lk_f_X10_57 dX10_publish_32 (hp_fR_spec hx7) ?_
    obtain ⟨x8, hx8, hm⟩ := hp_bd hm
    refine hv_get lk_f_X10_110 dX10_publish_35 (hp_fI_spec hx8) ?_
    obtain rfl := Option.some.inj hm
    exact hv_iret rfl dX10_publish_38
  · rw [if_neg c9] at hm
    refine hv_bipush (-3 : Int32) dX10_publish_10 (by decide) ?_
    obtain rfl := Option.some.inj hm
    exact hv_iret rfl dX10_publish_12
def f_X10_publish (n : Nat) (v0 : Nat) (h : hp_H) : Option (Int32 × hp_H) := (hp_ck h 10 v0).bind fun _ => f_X10_publish_0 n v0 h
theorem c_X10_publish (G : hp_G) (n : Nat) (v0 : Nat) (h : hp_H) (sz sl : Nat) (res : Int32 × hp_H) (hm : f_X10_publish n v0 h = some res) : hp_C G m_X10_publish yX10_publish [.ref v0] h sz sl (some (.int res.1), res.2, sz, sl) := by
  unfold f_X10_publish at hm
  obtain ⟨_, _, hm⟩ := hp_bd hm
  exact hp_C_of (by decide) rfl rfl (Nat.le_of_ble_eq_true rfl) (Nat.le_refl _) (Nat.le_refl _) (hv_sub [0] rfl (q_X10_publish_0 G n v0 h sz sl res hm))
theorem k_X10_publish {n : Nat} {v0 : Nat} {h : hp_H} {res : Int32 × hp_H} (hm : f_X10_publish n v0 h = some res) : ∃ V, h v0 = some (.inr (.inr (10, V))) := by
  unfold f_X10_publish at hm
  obtain ⟨_, hu, _⟩ := hp_bd hm
  exact hp_ck_spec hu
abbrev m_X10_tell : hp_M := (RX10, cX10_tell, 3, some .int, 8, 207, "tell")
theorem Z_X10_tell : hp_Y yX10_tell m_X10_tell 2 := Y_X10_tell
def f_X10_tell_55 (n : Nat) (v0 : Nat) (v2 : Int32) (h : hp_H) (sz sl : Nat) : Option (Int32 × hp_H × Nat × Nat) :=
  if v2 = (1 : Int32) then
    (hp_fR h 10 v0 6).bind fun x6 =>
    (hp_fR h 10 v0 8).bind fun x7 =>
    (f_X9_compress n x6 x7 h).bind fun x8 =>
    (f_X10_publish n v0 x8).bind fun x9 =>
    some (x9.1, x9.2, sz, sl)
  else
    (hp_fR h 10 v0 6).bind fun x1 =>
    (hp_fR h 10 v0 8).bind fun x2 =>
    (f_X9_writeOut n x1 x2 h).bind fun x3 =>
    if x3.1 = 0 then
      some ((-3 : Int32), x3.2, sz, sl)
    else
      (f_X10_publish n v0 x3.2).bind fun x4 =>
      some (x4.1, x4.2, sz, sl)
set_option maxHeartbeats 1000000 in
set_option maxRecDepth 4000 in
theorem mo_X10_tell_55 {n : Nat} {v0 : Nat} {v2 : Int32} {h : hp_H} {sz sl : Nat} {res : Int32 × hp_H × Nat × Nat} (hm : f_X10_tell_55 n v0 v2 h sz sl = some res) : sz ≤ res.2.2.1 ∧ sl ≤ res.2.2.2 := by
  unfold f_X10_tell_55 at hm
  rcases (Decidable.em (v2 = (1 : Int32))).symm with c10 | c10
  · rw [if_neg c10] at hm
    obtain ⟨x1, hx1, hm⟩ := hp_bd hm
    obtain ⟨x2, hx2, hm⟩ := hp_bd hm
    obtain ⟨x3, hx3, hm⟩ := hp_bd hm
    rcases Decidable.em (x3.1 = 0) with c5 | c5
    · rw [if_pos c5] at hm
      obtain rfl := Option.some.inj hm
      exact ⟨Nat.le_refl _, Nat.le_refl _⟩
    · rw [if_neg c5] at hm
      obtain ⟨x4, hx4, hm⟩ := hp_bd hm
      obtain rfl := Option.some.inj hm
      exact ⟨Nat.le_refl _, Nat.le_refl _⟩
  · rw [if_pos c10] at hm
    obtain ⟨x6, hx6, hm⟩ := hp_bd hm
    obtain ⟨x7, hx7, hm⟩ := hp_bd hm
    obtain ⟨x8, hx8, hm⟩ := hp_bd hm
    obtain ⟨x9, hx9, hm⟩ := hp_bd hm
    obtain rfl := Option.some.inj hm
    exact ⟨Nat.le_refl _, Nat.le_refl _⟩
set_option maxHeartbeats 1000000 in
set_option maxRecDepth 4000 in
theorem q_X10_tell_55 (G : hp_G) (n : Nat) (v0 : Nat) (v2 : Int32) (h : hp_H) (sz sl : Nat) (res : Int32 × hp_H × Nat × Nat) (hm : f_X10_tell_55 n v0 v2 h sz sl = some res) : hp_V G m_X10_tell 55 [(0, .ref v0), (2, .int v2)] [] h sz sl (some (.int res.1), res.2.1, res.2.2.1, res.2.2.2) := by
  have ho := mo_X10_tell_55 hm
  unfold f_X10_tell_55 at hm
  refine hv_iload_n 1 dX10_tell_55 rfl rfl ?_
  refine hv_iconst (1 : Int32) dX10_tell_56 (by decide) ?_
  refine hv_icmp_ne (tgt := 76) dX10_tell_57 (by decide) (fun c10 => ?_) (fun c10 => ?_)
  · rw [if_neg c10] at hm
    refine hv_aload_n 0 dX10_tell_76 rfl rfl ?_
    obtain ⟨x1, hx1, hm⟩ := hp_bd hm
    refine hv_get lk_f_X10_50 dX10_tell_77 (hp_fR_spec hx1) ?_
    refine hv_aload_n 0 dX10_tell_80 rfl rfl ?_
    obtain ⟨x2, hx2, hm⟩ := hp_bd hm
    refine hv_get lk_f_X10_61 dX10_tell_81 (hp_fR_spec hx2) ?_
    obtain ⟨x3, hx3, hm⟩ := hp_bd hm
    obtain ⟨Vx3, hVx3⟩ := k_X9_writeOut hx3
    refine hv_callV (As := [.ref x2]) (rest := []) Z_X9_writeOut I_X9_writeOut lk_m_X10_201 rfl hVx3 (c_X9_writeOut G n x1 x2 h sz sl _ hx3) rfl (Nat.le_of_ble_eq_true rfl) ⟨Nat.le_of_ble_eq_true rfl, Nat.le_of_ble_eq_true rfl⟩ ho.1 ho.2 rfl dX10_tell_84 ?_
    refine hv_as [.int x3.1] x3.2 rfl rfl ?_
    refine hv_if_eq (tgt := 97) dX10_tell_87 (by decide) (fun c5 => ?_) (fun c5 => ?_)
    · rw [if_pos c5] at hm
      refine hv_bipush (-3 : Int32) dX10_tell_97 (by decide) ?_
      obtain rfl := Option.some.inj hm
      exact hv_iret rfl dX10_tell_99
    · rw [if_neg c5] at hm
      refine hv_aload_n 0 dX10_tell_90 rfl rfl ?_
      obtain ⟨x4, hx4, hm⟩ := hp_bd hm
      obtain ⟨Vx4, hVx4⟩ := k_X10_publish hx4
      refine hv_callV (As := []) (rest := []) Z_X10_publish I_X10_publish lk_m_X10_197 rfl hVx4 (c_X10_publish G n v0 x3.2 sz sl _ hx4) rfl (Nat.le_of_ble_eq_true rfl) ⟨Nat.le_of_ble_eq_true rfl, Nat.le_of_ble_eq_true rfl⟩ ho.1 ho.2 rfl dX10_tell_91 ?_
      refine hv_as [.int x4.1] x4.2 rfl rfl ?_
      refine hv_goto (tgt := 99) dX10_tell_94 (by decide) ?_
      obtain rfl := Option.some.inj hm
      exact hv_iret rfl dX10_tell_99
  · rw [if_pos c10] at hm
    refine hv_aload_n 0 dX10_tell_60 rfl rfl ?_
    obtain ⟨x6, hx6, hm⟩ := hp_bd hm
    refine hv_get lk_f_X10_50 dX10_tell_61 (hp_fR_spec hx6) ?_
    refine hv_aload_n 0 dX10_tell_64 rfl rfl ?_
    obtain ⟨x7, hx7, hm⟩ := hp_bd hm
    refine hv_get lk_f_X10_61 dX10_tell_65 (hp_fR_spec hx7) ?_
    obtain ⟨x8, hx8, hm⟩ := hp_bd hm
    obtain ⟨Vx8, hVx8⟩ := k_X9_compress hx8
    refine hv_callV (As := [.ref x7]) (rest := []) Z_X9_compress I_X9_compress lk_m_X10_193 rfl hVx8 (c_X9_compress G n x6 x7 h sz sl _ hx8) rfl (Nat.le_of_ble_eq_true rfl) ⟨Nat.le_of_ble_eq_true rfl, Nat.le_of_ble_eq_true rfl⟩ ho.1 ho.2 rfl dX10_tell_68 ?_
    refine hv_as [] x8 rfl rfl ?_
    refine hv_aload_n 0 dX10_tell_71 rfl rfl ?_
    obtain ⟨x9, hx9, hm⟩ := hp_bd hm
    obtain ⟨Vx9, hVx9⟩ := k_X10_publish hx9
    refine hv_callV (As := []) (rest := []) Z_X10_publish I_X10_publish lk_m_X10_197 rfl hVx9 (c_X10_publish G n v0 x8 sz sl _ hx9) rfl (Nat.le_of_ble_eq_true rfl) ⟨Nat.le_of_ble_eq_true rfl, Nat.le_of_ble_eq_true rfl⟩ ho.1 ho.2 rfl dX10_tell_72 ?_
    refine hv_as [.int x9.1] x9.2 rfl rfl ?_
    obtain rfl := Option.some.inj hm
    exact hv_iret rfl dX10_tell_75
def f_X10_tell_27 (n : Nat) (v0 : Nat) (v2 : Int32) (s0 : Int32) (h : hp_H) (sz sl : Nat) : Option (Int32 × hp_H × Nat × Nat) :=
  if s0 = 0 then
    (hp_fR h 10 v0 8).bind fun x1 =>
    (f_X8_clear n x1 h).bind fun x2 =>
    (hp_fR x2 10 v0 6).bind fun x3 =>
    (hp_fR x2 10 v0 0).bind fun x4 =>
    (hp_fR x2 10 v0 3).bind fun x5 =>
    (f_X9_plant n x3 x4 x5 x2 sz sl).bind fun x6 =>
    f_X10_tell_55 n v0 v2 x6.1 x6.2.1 x6.2.2
  else
    some ((-2 : Int32), h, sz, sl)
set_option maxHeartbeats 1000000 in
set_option maxRecDepth 4000 in
theorem mo_X10_tell_27 {n : Nat} {v0 : Nat} {v2 : Int32} {s0 : Int32} {h : hp_H} {sz sl : Nat} {res : Int32 × hp_H × Nat × Nat} (hm : f_X10_tell_27 n v0 v2 s0 h sz sl = some res) : sz ≤ res.2.2.1 ∧ sl ≤ res.2.2.2 := by
  unfold f_X10_tell_27 at hm
  rcases Decidable.em (s0 = 0) with c7 | c7
  · rw [if_pos c7] at hm
    obtain ⟨x1, hx1, hm⟩ := hp_bd hm
    obtain ⟨x2, hx2, hm⟩ := hp_bd hm
    obtain ⟨x3, hx3, hm⟩ := hp_bd hm
    obtain ⟨x4, hx4, hm⟩ := hp_bd hm
    obtain ⟨x5, hx5, hm⟩ := hp_bd hm
    obtain ⟨x6, hx6, hm⟩ := hp_bd hm
    exact hp_tr (mx_X9_plant hx6) (mo_X10_tell_55 hm)
  · rw [if_neg c7] at hm
    obtain rfl := Option.some.inj hm
    exact ⟨Nat.le_refl _, Nat.le_refl _⟩
set_option maxHeartbeats 1000000 in
set_option maxRecDepth 4000 in
theorem q_X10_tell_27 (G : hp_G) (n : Nat) (v0 : Nat) (v2 : Int32) (s0 : Int32) (h : hp_H) (sz sl : Nat) (res : Int32 × hp_H × Nat × Nat) (hm : f_X10_tell_27 n v0 v2 s0 h sz sl = some res) : hp_V G m_X10_tell 27 [(0, .ref v0), (2, .int v2)] [.int s0] h sz sl (some (.int res.1), res.2.1, res.2.2.1, res.2.2.2) := by
  have ho := mo_X10_tell_27 hm
  unfold f_X10_tell_27 at hm
  refine hv_if_eq (tgt := 33) dX10_tell_27 (by decide) (fun c7 => ?_) (fun c7 => ?_)
  · rw [if_pos c7] at hm
    refine hv_aload_n 0 dX10_tell_33 rfl rfl ?_
    obtain ⟨x1, hx1, hm⟩ := hp_bd hm
    refine hv_get lk_f_X10_61 dX10_tell_34 (hp_fR_spec hx1) ?_
    obtain ⟨x2, hx2, hm⟩ := hp_bd hm
    obtain ⟨Vx2, hVx2⟩ := k_X8_clear hx2
    refine hv_callV (As := []) (rest := []) Z_X8_clear I_X8_clear lk_m_X10_189 rfl hVx2 (c_X8_clear G n x1 h sz sl _ hx2) rfl (Nat.le_of_ble_eq_true rfl) ⟨Nat.le_of_ble_eq_true rfl, Nat.le_of_ble_eq_true rfl⟩ ho.1 ho.2 rfl dX10_tell_37 ?_
    refine hv_as [] x2 rfl rfl ?_
    refine hv_aload_n 0 dX10_tell_40 rfl rfl ?_
    obtain ⟨x3, hx3, hm⟩ := hp_bd hm
    refine hv_get lk_f_X10_50 dX10_tell_41 (hp_fR_spec hx3) ?_
    refine hv_aload_n 0 dX10_tell_44 rfl rfl ?_
    obtain ⟨x4, hx4, hm⟩ := hp_bd hm
    refine hv_get lk_f_X10_12 dX10_tell_45 (hp_fR_spec hx4) ?_
    refine hv_aload_n 0 dX10_tell_48 rfl rfl ?_
    obtain ⟨x5, hx5, hm⟩ := hp_bd hm
    refine hv_get lk_f_X10_31 dX10_tell_49 (hp_fR_spec hx5) ?_
    obtain ⟨x6, hx6, hm⟩ := hp_bd hm
    have hq := mo_X10_tell_55 hm
    obtain ⟨Vx6, hVx6⟩ := k_X9_plant hx6
    refine hv_callV (As := [.ref x4, .ref x5]) (rest := []) Z_X9_plant I_X9_plant lk_m_X10_190 rfl hVx6 (c_X9_plant G n x3 x4 x5 x2 sz sl _ hx6) rfl (Nat.le_of_ble_eq_true rfl) ⟨Nat.le_of_ble_eq_true rfl, Nat.le_of_ble_eq_true rfl⟩ hq.1 hq.2 rfl dX10_tell_52 ?_
    refine hv_as2 [] x6.1 x6.2.1 x6.2.2 rfl rfl rfl rfl ?_
    exact hv_sub [0, 1] rfl (q_X10_tell_55 G n v0 v2 x6.1 x6.2.1 x6.2.2 _ hm)
  · rw [if_neg c7] at hm
    refine hv_bipush (-2 : Int32) dX10_tell_30 (by decide) ?_
    obtain rfl := Option.some.inj hm
    exact hv_iret rfl dX10_tell_32
def f_X10_tell_0 (n : Nat) (v0 : Nat) (v1 : Int32) (v2 : Int32) (h : hp_H) (sz sl : Nat) : Option (Int32 × hp_H × Nat × Nat) :=
  (hp_fR h 10 v0 0).bind fun x1 =>
  (f_X0_isProvable n x1 v1 h).bind fun x2 =>
  if x2 = 0 then
    some ((-1 : Int32), h, sz, sl)
  else
    if v2 < 0 then
      some ((-1 : Int32), h, sz, sl)
    else
      if v2 ≤ (1 : Int32) then
        (f_X10_examine n v0 v1 h sz sl).bind fun x3 =>
        f_X10_tell_27 n v0 v2 x3.1 x3.2.1 x3.2.2.1 x3.2.2.2
      else
        some ((-1 : Int32), h, sz, sl)
set_option maxHeartbeats 1000000 in
set_option maxRecDepth 4000 in
theorem mo_X10_tell_0 {n : Nat} {v0 : Nat} {v1 : Int32} {v2 : Int32} {h : hp_H} {sz sl : Nat} {res : Int32 × hp_H × Nat × Nat} (hm : f_X10_tell_0 n v0 v1 v2 h sz sl = some res) : sz ≤ res.2.2.1 ∧ sl ≤ res.2.2.2 := by
  unfold f_X10_tell_0 at hm
  obtain ⟨x1, hx1, hm⟩ := hp_bd hm
  obtain ⟨x2, hx2, hm⟩ := hp_bd hm
  rcases Decidable.em (x2 = 0) with c6 | c6
  · rw [if_pos c6] at hm
    obtain rfl := Option.some.inj hm
    exact ⟨Nat.le_refl _, Nat.le_refl _⟩
  · rw [if_neg c6] at hm
    rcases Decidable.em (v2 < 0) with c5 | c5
    · rw [if_pos c5] at hm
      obtain rfl := Option.some.inj hm
      exact ⟨Nat.le_refl _, Nat.le_refl _⟩
    · rw [if_neg c5] at hm
      rcases Decidable.em (v2 ≤ (1 : Int32)) with c4 | c4
      · rw [if_pos c4] at hm
        obtain ⟨x3, hx3, hm⟩ := hp_bd hm
        exact hp_tr (mx_X10_examine hx3) (mo_X10_tell_27 hm)
      · rw [if_neg c4] at hm
        obtain rfl := Option.some.inj hm
        exact ⟨Nat.le_refl _, Nat.le_refl _⟩
set_option maxHeartbeats 1000000 in
set_option maxRecDepth 4000 in
theorem q_X10_tell_0 (G : hp_G) (n : Nat) (v0 : Nat) (v1 : Int32) (v2 : Int32) (h : hp_H) (sz sl : Nat) (res : Int32 × hp_H × Nat × Nat) (hm : f_X10_tell_0 n v0 v1 v2 h sz sl = some res) : hp_V G m_X10_tell 0 [(0, .ref v0), (1, .int v1), (2, .int v2)] [] h sz sl (some (.int res.1), res.2.1, res.2.2.1, res.2.2.2) := by
  have ho := mo_X10_tell_0 hm
  unfold f_X10_tell_0 at hm
  refine hv_aload_n 0 dX10_tell_0 rfl rfl ?_
  obtain ⟨x1, hx1, hm⟩ := hp_bd hm
  refine hv_get lk_f_X10_12 dX10_tell_1 (hp_fR_spec hx1) ?_
  refine hv_iload_n 1 dX10_tell_4 rfl rfl ?_
  obtain ⟨x2, hx2, hm⟩ := hp_bd hm
  obtain ⟨Vx2, hVx2⟩ := k_X0_isProvable hx2
  refine hv_callV (As := [.int v1]) (rest := []) Z_X0_isProvable I_X0_isProvable lk_m_X10_160 rfl hVx2 (c_X0_isProvable G n x1 v1 h sz sl _ hx2) rfl (Nat.le_of_ble_eq_true rfl) ⟨Nat.le_of_ble_eq_true rfl, Nat.le_of_ble_eq_true rfl⟩ ho.1 ho.2 rfl dX10_tell_5 ?_
  refine hv_as [.int x2] h rfl rfl ?_
  refine hv_if_eq (tgt := 20) dX10_tell_8 (by decide) (fun c6 => ?_) (fun c6 => ?_)
  · rw [if_pos c6] at hm
    refine hv_iconst (-1 : Int32) dX10_tell_20 (by decide) ?_
    obtain rfl := Option.some.inj hm
    exact hv_iret rfl dX10_tell_21
  · rw [if_neg c6] at hm
    refine hv_iload_n 2 dX10_tell_11 rfl rfl ?_
    refine hv_if_lt (tgt := 20) dX10_tell_12 (by decide) (fun c5 => ?_) (fun c5 => ?_)
    · rw [if_pos c5] at hm
      refine hv_iconst (-1 : Int32) dX10_tell_20 (by decide) ?_
      obtain rfl := Option.some.inj hm
      exact hv_iret rfl dX10_tell_21
    · rw [if_neg c5] at hm
      refine hv_iload_n 2 dX10_tell_15 rfl rfl ?_
      refine hv_iconst (1 : Int32) dX10_tell_16 (by decide) ?_
      refine hv_icmp_le (tgt := 22) dX10_tell_17 (by decide) (fun c4 => ?_) (fun c4 => ?_)
      · rw [if_pos c4] at hm
        refine hv_aload_n 0 dX10_tell_22 rfl rfl ?_
        refine hv_iload_n 1 dX10_tell_23 rfl rfl ?_
        obtain ⟨x3, hx3, hm⟩ := hp_bd hm
        have hq := mo_X10_tell_27 hm
        obtain ⟨Vx3, hVx3⟩ := k_X10_examine hx3
        refine hv_callV (As := [.int v1]) (rest := []) Z_X10_examine I_X10_examine lk_m_X10_163 rfl hVx3 (c_X10_examine G n v0 v1 h sz sl _ hx3) rfl (Nat.le_of_ble_eq_true rfl) ⟨Nat.le_of_ble_eq_true rfl, Nat.le_of_ble_eq_true rfl⟩ hq.1 hq.2 rfl dX10_tell_24 ?_
        refine hv_as2 [.int x3.1] x3.2.1 x3.2.2.1 x3.2.2.2 rfl rfl rfl rfl ?_
        exact hv_sub [0, 2] rfl (q_X10_tell_27 G n v0 v2 x3.1 x3.2.1 x3.2.2.1 x3.2.2.2 _ hm)
      · rw [if_neg c4] at hm
        refine hv_iconst (-1 : Int32) dX10_tell_20 (by decide) ?_
        obtain rfl := Option.some.inj hm
        exact hv_iret rfl dX10_tell_21
def f_X10_tell (n : Nat) (v0 : Nat) (v1 : Int32) (v2 : Int32) (h : hp_H) (sz sl : Nat) : Option (Int32 × hp_H × Nat × Nat) := (hp_ck h 10 v0).bind fun _ => f_X10_tell_0 n v0 v1 v2 h sz sl
theorem c_X10_tell (G : hp_G) (n : Nat) (v0 : Nat) (v1 : Int32) (v2 : Int32) (h : hp_H) (sz sl : Nat) (res : Int32 × hp_H × Nat × Nat) (hm : f_X10_tell n v0 v1 v2 h sz sl = some res) : hp_C G m_X10_tell yX10_tell [.ref v0, .int v1, .int v2] h sz sl (some (.int res.1), res.2.1, res.2.2.1, res.2.2.2) := by
  unfold f_X10_tell at hm
  obtain ⟨_, _, hm⟩ := hp_bd hm
  exact hp_C_of (by decide) rfl rfl (Nat.le_of_ble_eq_true rfl) (mo_X10_tell_0 hm).1 (mo_X10_tell_0 hm).2 (hv_sub [0, 1, 2] rfl (q_X10_tell_0 G n v0 v1 v2 h sz sl res hm))
theorem k_X10_tell {n : Nat} {v0 : Nat} {v1 : Int32} {v2 : Int32} {h : hp_H} {sz sl : Nat} {res : Int32 × hp_H × Nat × Nat} (hm : f_X10_tell n v0 v1 v2 h sz sl = some res) : ∃ V, h v0 = some (.inr (.inr (10, V))) := by
  unfold f_X10_tell at hm
  obtain ⟨_, hu, _⟩ := hp_bd hm
  exact hp_ck_spec hu
theorem mx_X10_tell {n : Nat} {v0 : Nat} {v1 : Int32} {v2 : Int32} {h : hp_H} {sz sl : Nat} {res : Int32 × hp_H × Nat × Nat} (hm : f_X10_tell n v0 v1 v2 h sz sl = some res) : sz ≤ res.2.2.1 ∧ sl ≤ res.2.2.2 := by
  unfold f_X10_tell at hm
  obtain ⟨_, _, hm⟩ := hp_bd hm
  exact mo_X10_tell_0 hm
abbrev m_X10_keywordOf : hp_M := (RX10, cX10_keywordOf, 1, some .int, 0, 0, "keywordOf")
theorem Z_X10_keywordOf : hp_Y yX10_keywordOf m_X10_keywordOf 1 := Y_X10_keywordOf
def f_X10_keywordOf_0 (n : Nat) (v0 : Int32) (h : hp_H) : Option (Int32) :=
  if v0 = (0 : Int32) then
    some (102 : Int32)
  else if v0 = (1 : Int32) then
    some (101 : Int32)
  else if v0 = (2 : Int32) then
    some (97 : Int32)
  else 
    some (112 : Int32)
set_option maxHeartbeats 1000000 in
set_option maxRecDepth 4000 in
theorem q_X10_keywordOf_0 (G : hp_G) (n : Nat) (v0 : Int32) (h : hp_H) (sz sl : Nat) (res : Int32) (hm : f_X10_keywordOf_0 n v0 h = some res) : hp_V G m_X10_keywordOf 0 [(0, .int v0)] [] h sz sl (some (.int res), h, sz, sl) := by
  have ho : sz ≤ sz ∧ sl ≤ sl := ⟨Nat.le_refl _, Nat.le_refl _⟩
  unfold f_X10_keywordOf_0 at hm
  refine hv_iload_n 0 dX10_keywordOf_0 rfl rfl ?_
  by_cases c1 : v0 = (0 : Int32)
  · rw [if_pos c1] at hm
    refine hv_tabIn (off := 27) (tgt := 28) dX10_keywordOf_1 (by rw [c1]; decide) (by rw [c1]; decide) (by rw [c1]; rfl) (by decide) ?_
    refine hv_bipush (102 : Int32) dX10_keywordOf_28 (by decide) ?_
    obtain rfl := Option.some.inj hm
    exact hv_iret rfl dX10_keywordOf_30
  rw [if_neg c1] at hm
  by_cases c2 : v0 = (1 : Int32)
  · rw [if_pos c2] at hm
    refine hv_tabIn (off := 30) (tgt := 31) dX10_keywordOf_1 (by rw [c2]; decide) (by rw [c2]; decide) (by rw [c2]; rfl) (by decide) ?_
    refine hv_bipush (101 : Int32) dX10_keywordOf_31 (by decide) ?_
    obtain rfl := Option.some.inj hm
    exact hv_iret rfl dX10_keywordOf_33
  rw [if_neg c2] at hm
  by_cases c3 : v0 = (2 : Int32)
  · rw [if_pos c3] at hm
    refine hv_tabIn (off := 33) (tgt := 34) dX10_keywordOf_1 (by rw [c3]; decide) (by rw [c3]; decide) (by rw [c3]; rfl) (by decide) ?_
    refine hv_bipush (97 : Int32) dX10_keywordOf_34 (by decide) ?_
    obtain rfl := Option.some.inj hm
    exact hv_iret rfl dX10_keywordOf_36
  rw [if_neg c3] at hm
  have nc1 := lv_neT c1 (show (0 : Int32).toInt = 0 by decide)
  have nc2 := lv_neT c2 (show (1 : Int32).toInt = 1 by decide)
  have nc3 := lv_neT c3 (show (2 : Int32).toInt = 2 by decide)
  refine hv_tabOut (tgt := 37) dX10_keywordOf_1 (by omega) (by decide) ?_
  refine hv_bipush (112 : Int32) dX10_keywordOf_37 (by decide) ?_
  obtain rfl := Option.some.inj hm
  exact hv_iret rfl dX10_keywordOf_39
def f_X10_keywordOf (n : Nat) (v0 : Int32) (h : hp_H) : Option (Int32) := f_X10_keywordOf_0 n v0 h
theorem c_X10_keywordOf (G : hp_G) (n : Nat) (v0 : Int32) (h : hp_H) (sz sl : Nat) (res : Int32) (hm : f_X10_keywordOf n v0 h = some res) : hp_C G m_X10_keywordOf yX10_keywordOf [.int v0] h sz sl (some (.int res), h, sz, sl) := by
  unfold f_X10_keywordOf at hm
  exact hp_C_of (by decide) rfl rfl (Nat.le_of_ble_eq_true rfl) (Nat.le_refl _) (Nat.le_refl _) (hv_sub [0] rfl (q_X10_keywordOf_0 G n v0 h sz sl res hm))
abbrev m_X10_writeStatement : hp_M := (RX10, cX10_writeStatement, 5, none, 2, 46, "writeStatement")
theorem Z_X10_writeStatement : hp_Y yX10_writeStatement m_X10_writeStatement 2 := Y_X10_writeStatement
def f_X10_writeStatement_65 (n : Nat) (v0 : Nat) (v1 : Nat) (v2 : Int32) (v3 : Int32) (v4 : Int32) (h : hp_H) : Option ((Int32 × hp_H) ⊕ (hp_H)) :=
  if v3 ≤ v4 then
    some (.inr h)
  else
    (hp_fR h 10 v0 0).bind fun x1 =>
    (hp_fR h 0 x1 0).bind fun x2 =>
    (hp_fR h 10 v0 0).bind fun x3 =>
    (hp_fR h 0 x3 9).bind fun x4 =>
    (f_X5_get n x4 v2 v4 h).bind fun x5 =>
    (f_X8_putName n v1 x2 x5 h).bind fun x6 =>
    (f_X8_put n v1 (32 : Int32) x6).bind fun x7 =>
    some (.inl ((v4 + (1 : Int32)), x7))
set_option maxHeartbeats 1000000 in
set_option maxRecDepth 4000 in
theorem q_X10_writeStatement_65 (G : hp_G) (n : Nat) (v0 : Nat) (v1 : Nat) (v2 : Int32) (v3 : Int32) (v4 : Int32) (h : hp_H) (sz sl : Nat) (o : hp_O) (ho : sz ≤ o.2.2.1 ∧ sl ≤ o.2.2.2) (res : (Int32 × hp_H) ⊕ (hp_H)) (hm : f_X10_writeStatement_65 n v0 v1 v2 v3 v4 h = some res) (kI : ∀ y : Int32 × hp_H, res = .inl y → hp_V G m_X10_writeStatement 65 [(0, .ref v0), (1, .ref v1), (2, .int v2), (3, .int v3), (4, .int y.1)] [] y.2 sz sl o) (kX0 : ∀ y : hp_H, res = .inr y → hp_V G m_X10_writeStatement 107 [(1, .ref v1)] [] y sz sl o) : hp_V G m_X10_writeStatement 65 [(0, .ref v0), (1, .ref v1), (2, .int v2), (3, .int v3), (4, .int v4)] [] h sz sl o := by
  unfold f_X10_writeStatement_65 at hm
  refine hv_iload 4 dX10_writeStatement_65 rfl ?_
  refine hv_iload_n 3 dX10_writeStatement_67 rfl rfl ?_
  refine hv_icmp_ge (tgt := 107) dX10_writeStatement_68 (by decide) (fun c8 => ?_) (fun c8 => ?_)
  · rw [if_pos c8] at hm
    exact hv_sub [1] rfl (kX0 h (Option.some.inj hm).symm)
  · rw [if_neg c8] at hm
    refine hv_aload_n 1 dX10_writeStatement_71 rfl rfl ?_
    refine hv_aload_n 0 dX10_writeStatement_72 rfl rfl ?_
    obtain ⟨x1, hx1, hm⟩ := hp_bd hm
    refine hv_get lk_f_X10_12 dX10_writeStatement_73 (hp_fR_spec hx1) ?_
    obtain ⟨x2, hx2, hm⟩ := hp_bd hm
    refine hv_get lk_f_X10_148 dX10_writeStatement_76 (hp_fR_spec hx2) ?_
    refine hv_aload_n 0 dX10_writeStatement_79 rfl rfl ?_
    obtain ⟨x3, hx3, hm⟩ := hp_bd hm
    refine hv_get lk_f_X10_12 dX10_writeStatement_80 (hp_fR_spec hx3) ?_
    obtain ⟨x4, hx4, hm⟩ := hp_bd hm
    refine hv_get lk_f_X10_125 dX10_writeStatement_83 (hp_fR_spec hx4) ?_
    refine hv_iload_n 2 dX10_writeStatement_86 rfl rfl ?_
    refine hv_iload 4 dX10_writeStatement_87 rfl ?_
    obtain ⟨x5, hx5, hm⟩ := hp_bd hm
    obtain ⟨Vx5, hVx5⟩ := k_X5_get hx5
    refine hv_callV (As := [.int v2, .int v4]) (rest := [.ref x2, .ref v1]) Z_X5_get I_X5_get lk_m_X10_144 rfl hVx5 (c_X5_get G n x4 v2 v4 h sz sl _ hx5) rfl (Nat.le_of_ble_eq_true rfl) ⟨Nat.le_of_ble_eq_true rfl, Nat.le_of_ble_eq_true rfl⟩ ho.1 ho.2 rfl dX10_writeStatement_89 ?_
    refine hv_as [.int x5, .ref x2, .ref v1] h rfl rfl ?_
    obtain ⟨x6, hx6, hm⟩ := hp_bd hm
    obtain ⟨Vx6, hVx6⟩ := k_X8_putName hx6
    refine hv_callV (As := [.ref x2, .int x5]) (rest := []) Z_X8_putName I_X8_putName lk_m_X10_209 rfl hVx6 (c_X8_putName G n v1 x2 x5 h sz sl _ hx6) rfl (Nat.le_of_ble_eq_true rfl) ⟨Nat.le_of_ble_eq_true rfl, Nat.le_of_ble_eq_true rfl⟩ ho.1 ho.2 rfl dX10_writeStatement_92 ?_
    refine hv_as [] x6 rfl rfl ?_
    refine hv_aload_n 1 dX10_writeStatement_95 rfl rfl ?_
    refine hv_bipush (32 : Int32) dX10_writeStatement_96 (by decide) ?_
    obtain ⟨x7, hx7, hm⟩ := hp_bd hm
    obtain ⟨Vx7, hVx7⟩ := k_X8_put hx7
    refine hv_callV (As := [.int (32 : Int32)]) (rest := []) Z_X8_put I_X8_put lk_m_X10_213 rfl hVx7 (c_X8_put G n v1 (32 : Int32) x6 sz sl _ hx7) rfl (Nat.le_of_ble_eq_true rfl) ⟨Nat.le_of_ble_eq_true rfl, Nat.le_of_ble_eq_true rfl⟩ ho.1 ho.2 rfl dX10_writeStatement_98 ?_
    refine hv_as [] x7 rfl rfl ?_
    refine hv_iinc (v4 + (1 : Int32)) 4 [(4, .int (v4 + (1 : Int32))), (0, .ref v0), (1, .ref v1), (2, .int v2), (3, .int v3)] dX10_writeStatement_101 rfl rfl (by decide) rfl ?_
    refine hv_goto (tgt := 65) dX10_writeStatement_104 (by decide) ?_
    exact hv_sub [1, 2, 3, 4, 0] rfl (kI ((v4 + (1 : Int32)), x7) (Option.some.inj hm).symm)
def fL_X10_writeStatement_65 (n : Nat) (v0 : Nat) (v1 : Nat) (v2 : Int32) (v3 : Int32) (s : Int32 × hp_H) : Option ((Int32 × hp_H) ⊕ (hp_H)) := f_X10_writeStatement_65 n v0 v1 v2 v3 s.1 s.2
theorem l_X10_writeStatement_65 (G : hp_G) (n : Nat) (v0 : Nat) (v1 : Nat) (v2 : Int32) (v3 : Int32) (sz sl : Nat) (o : hp_O) (ho : sz ≤ o.2.2.1 ∧ sl ≤ o.2.2.2) : ∀ (k : Nat) (s : Int32 × hp_H) (x : hp_H), hp_lp (fL_X10_writeStatement_65 n v0 v1 v2 v3) k s = some x → (∀ y : hp_H, x = y → hp_V G m_X10_writeStatement 107 [(1, .ref v1)] [] y sz sl o) → hp_V G m_X10_writeStatement 65 [(0, .ref v0), (1, .ref v1), (2, .int v2), (3, .int v3), (4, .int s.1)] [] s.2 sz sl o := by
  intro k
  induction k with
  | zero => intro s x hx; exact (hp_lp_0 hx).elim
  | succ k ih =>
    intro s x hx k0
    obtain ⟨r, hr, hc⟩ := hp_lp_1 hx
    refine q_X10_writeStatement_65 G n v0 v1 v2 v3 s.1 s.2 sz sl o ho r hr (fun s2 e => ?_) (fun y e => ?_)
    · rcases hc with ⟨s3, e3, hx3⟩ | e3
      · have e4 := Sum.inl.inj (e.symm.trans e3)
        subst e4
        exact ih _ _ hx3 k0
      · cases (e.symm.trans e3)
    · rcases hc with ⟨s3, e3, hx3⟩ | e3
      · cases (e.symm.trans e3)
      · exact k0 y (Sum.inr.inj (e3.symm.trans e))
def f_X10_writeStatement_0 (n : Nat) (v0 : Nat) (v1 : Nat) (v2 : Int32) (h : hp_H) : Option (hp_H) :=
  (hp_fR h 10 v0 0).bind fun x1 =>
  (hp_fR h 0 x1 0).bind fun x2 =>
  (f_X8_putName n v1 x2 ((300 : Int32) + v2) h).bind fun x3 =>
  (f_X8_put n v1 (32 : Int32) x3).bind fun x4 =>
  (f_X8_put n v1 (36 : Int32) x4).bind fun x5 =>
  (hp_fR x5 10 v0 0).bind fun x6 =>
  (hp_fR x5 0 x6 6).bind fun x7 =>
  (hp_aI x5 0 x7 v2).bind fun x8 =>
  (f_X10_keywordOf n x8 x5).bind fun x9 =>
  (f_X8_put n v1 x9 x5).bind fun x10 =>
  (f_X8_put n v1 (32 : Int32) x10).bind fun x11 =>
  (hp_fR x11 10 v0 0).bind fun x12 =>
  (hp_fR x11 0 x12 9).bind fun x13 =>
  (f_X5_size n x13 v2 x11).bind fun x14 =>
  (hp_lp (fL_X10_writeStatement_65 n v0 v1 v2 x14) n ((0 : Int32), x11)).bind fun x15 =>
  (f_X8_put n v1 (36 : Int32) x15).bind fun x17 =>
  (f_X8_put n v1 (46 : Int32) x17).bind fun x18 =>
  some x18
set_option maxHeartbeats 1000000 in
set_option maxRecDepth 4000 in
theorem q_X10_writeStatement_0 (G : hp_G) (n : Nat) (v0 : Nat) (v1 : Nat) (v2 : Int32) (h : hp_H) (sz sl : Nat) (res : hp_H) (hm : f_X10_writeStatement_0 n v0 v1 v2 h = some res) : hp_V G m_X10_writeStatement 0 [(0, .ref v0), (1, .ref v1), (2, .int v2)] [] h sz sl (none, res, sz, sl) := by
  have ho : sz ≤ sz ∧ sl ≤ sl := ⟨Nat.le_refl _, Nat.le_refl _⟩
  unfold f_X10_writeStatement_0 at hm
  refine hv_aload_n 1 dX10_writeStatement_0 rfl rfl ?_
  refine hv_aload_n 0 dX10_writeStatement_1 rfl rfl ?_
  obtain ⟨x1, hx1, hm⟩ := hp_bd hm
  refine hv_get lk_f_X10_12 dX10_writeStatement_2 (hp_fR_spec hx1) ?_
  obtain ⟨x2, hx2, hm⟩ := hp_bd hm
  refine hv_get lk_f_X10_148 dX10_writeStatement_5 (hp_fR_spec hx2) ?_
  refine hv_sipush (300 : Int32) dX10_writeStatement_8 (by decide) ?_
  refine hv_iload_n 2 dX10_writeStatement_11 rfl rfl ?_
  refine hv_iadd dX10_writeStatement_12 ?_
  obtain ⟨x3, hx3, hm⟩ := hp_bd hm
  obtain ⟨Vx3, hVx3⟩ := k_X8_putName hx3
  refine hv_callV (As := [.ref x2, .int ((300 : Int32) + v2)]) (rest := []) Z_X8_putName I_X8_putName lk_m_X10_209 rfl hVx3 (c_X8_putName G n v1 x2 ((300 : Int32) + v2) h sz sl _ hx3) rfl (Nat.le_of_ble_eq_true rfl) ⟨Nat.le_of_ble_eq_true rfl, Nat.le_of_ble_eq_true rfl⟩ ho.1 ho.2 rfl dX10_writeStatement_13 ?_
  refine hv_as [] x3 rfl rfl ?_
  refine hv_aload_n 1 dX10_writeStatement_16 rfl rfl ?_
  refine hv_bipush (32 : Int32) dX10_writeStatement_17 (by decide) ?_
  obtain ⟨x4, hx4, hm⟩ := hp_bd hm
  obtain ⟨Vx4, hVx4⟩ := k_X8_put hx4
  refine hv_callV (As := [.int (32 : Int32)]) (rest := []) Z_X8_put I_X8_put lk_m_X10_213 rfl hVx4 (c_X8_put G n v1 (32 : Int32) x3 sz sl _ hx4) rfl (Nat.le_of_ble_eq_true rfl) ⟨Nat.le_of_ble_eq_true rfl, Nat.le_of_ble_eq_true rfl⟩ ho.1 ho.2 rfl dX10_writeStatement_19 ?_
  refine hv_as [] x4 rfl rfl ?_
  refine hv_aload_n 1 dX10_writeStatement_22 rfl rfl ?_
  refine hv_bipush (36 : Int32) dX10_writeStatement_23 (by decide) ?_
  obtain ⟨x5, hx5, hm⟩ := hp_bd hm
  obtain ⟨Vx5, hVx5⟩ := k_X8_put hx5
  refine hv_callV (As := [.int (36 : Int32)]) (rest := []) Z_X8_put I_X8_put lk_m_X10_213 rfl hVx5 (c_X8_put G n v1 (36 : Int32) x4 sz sl _ hx5) rfl (Nat.le_of_ble_eq_true rfl) ⟨Nat.le_of_ble_eq_true rfl, Nat.le_of_ble_eq_true rfl⟩ ho.1 ho.2 rfl dX10_writeStatement_25 ?_
  refine hv_as [] x5 rfl rfl ?_
  refine hv_aload_n 1 dX10_writeStatement_28 rfl rfl ?_
  refine hv_aload_n 0 dX10_writeStatement_29 rfl rfl ?_
  obtain ⟨x6, hx6, hm⟩ := hp_bd hm
  refine hv_get lk_f_X10_12 dX10_writeStatement_30 (hp_fR_spec hx6) ?_
  obtain ⟨x7, hx7, hm⟩ := hp_bd hm
  refine hv_get lk_f_X10_121 dX10_writeStatement_33 (hp_fR_spec hx7) ?_
  refine hv_iload_n 2 dX10_writeStatement_36 rfl rfl ?_
  obtain ⟨x8, hx8, hm⟩ := hp_bd hm
  refine hv_iald dX10_writeStatement_37 hx8 ?_
  obtain ⟨x9, hx9, hm⟩ := hp_bd hm
  refine hv_callS (As := [.int x8]) (rest := [.ref v1]) Z_X10_keywordOf I_X10_keywordOf lk_m_X10_217 (c_X10_keywordOf G n x8 x5 sz sl _ hx9) rfl (Nat.le_of_ble_eq_true rfl) ⟨Nat.le_of_ble_eq_true rfl, Nat.le_of_ble_eq_true rfl⟩ ho.1 ho.2 rfl dX10_writeStatement_38 ?_
  refine hv_as [.int x9, .ref v1] x5 rfl rfl ?_
  obtain ⟨x10, hx10, hm⟩ := hp_bd hm
  obtain ⟨Vx10, hVx10⟩ := k_X8_put hx10
  refine hv_callV (As := [.int x9]) (rest := []) Z_X8_put I_X8_put lk_m_X10_213 rfl hVx10 (c_X8_put G n v1 x9 x5 sz sl _ hx10) rfl (Nat.le_of_ble_eq_true rfl) ⟨Nat.le_of_ble_eq_true rfl, Nat.le_of_ble_eq_true rfl⟩ ho.1 ho.2 rfl dX10_writeStatement_41 ?_
  refine hv_as [] x10 rfl rfl ?_
  refine hv_aload_n 1 dX10_writeStatement_44 rfl rfl ?_
  refine hv_bipush (32 : Int32) dX10_writeStatement_45 (by decide) ?_
  obtain ⟨x11, hx11, hm⟩ := hp_bd hm
  obtain ⟨Vx11, hVx11⟩ := k_X8_put hx11
  refine hv_callV (As := [.int (32 : Int32)]) (rest := []) Z_X8_put I_X8_put lk_m_X10_213 rfl hVx11 (c_X8_put G n v1 (32 : Int32) x10 sz sl _ hx11) rfl (Nat.le_of_ble_eq_true rfl) ⟨Nat.le_of_ble_eq_true rfl, Nat.le_of_ble_eq_true rfl⟩ ho.1 ho.2 rfl dX10_writeStatement_47 ?_
  refine hv_as [] x11 rfl rfl ?_
  refine hv_aload_n 0 dX10_writeStatement_50 rfl rfl ?_
  obtain ⟨x12, hx12, hm⟩ := hp_bd hm
  refine hv_get lk_f_X10_12 dX10_writeStatement_51 (hp_fR_spec hx12) ?_
  obtain ⟨x13, hx13, hm⟩ := hp_bd hm
  refine hv_get lk_f_X10_125 dX10_writeStatement_54 (hp_fR_spec hx13) ?_
  refine hv_iload_n 2 dX10_writeStatement_57 rfl rfl ?_
  obtain ⟨x14, hx14, hm⟩ := hp_bd hm
  obtain ⟨Vx14, hVx14⟩ := k_X5_size hx14
  refine hv_callV (As := [.int v2]) (rest := []) Z_X5_size I_X5_size lk_m_X10_128 rfl hVx14 (c_X5_size G n x13 v2 x11 sz sl _ hx14) rfl (Nat.le_of_ble_eq_true rfl) ⟨Nat.le_of_ble_eq_true rfl, Nat.le_of_ble_eq_true rfl⟩ ho.1 ho.2 rfl dX10_writeStatement_58 ?_
  refine hv_as [.int x14] x11 rfl rfl ?_
  refine hv_istore_n [(3, .int x14), (0, .ref v0), (1, .ref v1), (2, .int v2)] dX10_writeStatement_61 rfl (by decide) rfl ?_
  refine hv_iconst (0 : Int32) dX10_writeStatement_62 (by decide) ?_
  refine hv_istore [(4, .int (0 : Int32)), (3, .int x14), (0, .ref v0), (1, .ref v1), (2, .int v2)] dX10_writeStatement_63 (by decide) rfl ?_
  obtain ⟨x15, hx15, hm⟩ := hp_bd hm
  refine hv_sub [2, 3, 4, 1, 0] rfl (l_X10_writeStatement_65 G n v0 v1 v2 x14 sz sl _ ho n _ _ hx15 (fun y16 ey16 => ?_))
  · skip
    subst ey16
    refine hv_aload_n 0 dX10_writeStatement_107 rfl rfl ?_
    refine hv_bipush (36 : Int32) dX10_writeStatement_108 (by decide) ?_
    obtain ⟨x17, hx17, hm⟩ := hp_bd hm
    obtain ⟨Vx17, hVx17⟩ := k_X8_put hx17
    refine hv_callV (As := [.int (36 : Int32)]) (rest := []) Z_X8_put I_X8_put lk_m_X10_213 rfl hVx17 (c_X8_put G n v1 (36 : Int32) x15 sz sl _ hx17) rfl (Nat.le_of_ble_eq_true rfl) ⟨Nat.le_of_ble_eq_true rfl, Nat.le_of_ble_eq_true rfl⟩ ho.1 ho.2 rfl dX10_writeStatement_110 ?_
    refine hv_as [] x17 rfl rfl ?_
    refine hv_aload_n 0 dX10_writeStatement_113 rfl rfl ?_
    refine hv_bipush (46 : Int32) dX10_writeStatement_114 (by decide) ?_
    obtain ⟨x18, hx18, hm⟩ := hp_bd hm
    obtain ⟨Vx18, hVx18⟩ := k_X8_put hx18
    refine hv_callV (As := [.int (46 : Int32)]) (rest := []) Z_X8_put I_X8_put lk_m_X10_213 rfl hVx18 (c_X8_put G n v1 (46 : Int32) x17 sz sl _ hx18) rfl (Nat.le_of_ble_eq_true rfl) ⟨Nat.le_of_ble_eq_true rfl, Nat.le_of_ble_eq_true rfl⟩ ho.1 ho.2 rfl dX10_writeStatement_116 ?_
    refine hv_as [] x18 rfl rfl ?_
    obtain rfl := Option.some.inj hm
    exact hv_vret rfl dX10_writeStatement_119
def f_X10_writeStatement (n : Nat) (v0 : Nat) (v1 : Nat) (v2 : Int32) (h : hp_H) : Option (hp_H) := (hp_ck h 10 v0).bind fun _ => f_X10_writeStatement_0 n v0 v1 v2 h
theorem c_X10_writeStatement (G : hp_G) (n : Nat) (v0 : Nat) (v1 : Nat) (v2 : Int32) (h : hp_H) (sz sl : Nat) (res : hp_H) (hm : f_X10_writeStatement n v0 v1 v2 h = some res) : hp_C G m_X10_writeStatement yX10_writeStatement [.ref v0, .ref v1, .int v2] h sz sl (none, res, sz, sl) := by
  unfold f_X10_writeStatement at hm
  obtain ⟨_, _, hm⟩ := hp_bd hm
  exact hp_C_of (by decide) rfl rfl (Nat.le_of_ble_eq_true rfl) (Nat.le_refl _) (Nat.le_refl _) (hv_sub [0, 1, 2] rfl (q_X10_writeStatement_0 G n v0 v1 v2 h sz sl res hm))
theorem k_X10_writeStatement {n : Nat} {v0 : Nat} {v1 : Nat} {v2 : Int32} {h : hp_H} {res : hp_H} (hm : f_X10_writeStatement n v0 v1 v2 h = some res) : ∃ V, h v0 = some (.inr (.inr (10, V))) := by
  unfold f_X10_writeStatement at hm
  obtain ⟨_, hu, _⟩ := hp_bd hm
  exact hp_ck_spec hu
abbrev m_X10_print : hp_M := (RX10, cX10_print, 2, some .int, 3, 70, "print")
theorem Z_X10_print : hp_Y yX10_print m_X10_print 1 := Y_X10_print
def f_X10_print_0 (n : Nat) (v0 : Nat) (v1 : Int32) (h : hp_H) : Option (Int32 × hp_H) :=
  (hp_fR h 10 v0 0).bind fun x1 =>
  (f_X0_isStatement n x1 v1 h).bind fun x2 =>
  if x2 = 0 then
    some ((-1 : Int32), h)
  else
    (hp_fR h 10 v0 8).bind fun x3 =>
    (f_X8_clear n x3 h).bind fun x4 =>
    (hp_fR x4 10 v0 8).bind fun x5 =>
    (f_X10_writeStatement n v0 x5 v1 x4).bind fun x6 =>
    (f_X10_publish n v0 x6).bind fun x7 =>
    some (x7.1, x7.2)
set_option maxHeartbeats 1000000 in
set_option maxRecDepth 4000 in
theorem q_X10_print_0 (G : hp_G) (n : Nat) (v0 : Nat) (v1 : Int32) (h : hp_H) (sz sl : Nat) (res : Int32 × hp_H) (hm : f_X10_print_0 n v0 v1 h = some res) : hp_V G m_X10_print 0 [(0, .ref v0), (1, .int v1)] [] h sz sl (some (.int res.1), res.2, sz, sl) := by
  have ho : sz ≤ sz ∧ sl ≤ sl := ⟨Nat.le_refl _, Nat.le_refl _⟩
  unfold f_X10_print_0 at hm
  refine hv_aload_n 0 dX10_print_0 rfl rfl ?_
  obtain ⟨x1, hx1, hm⟩ := hp_bd hm
  refine hv_get lk_f_X10_12 dX10_print_1 (hp_fR_spec hx1) ?_
  refine hv_iload_n 1 dX10_print_4 rfl rfl ?_
  obtain ⟨x2, hx2, hm⟩ := hp_bd hm
  obtain ⟨Vx2, hVx2⟩ := k_X0_isStatement hx2
  refine hv_callV (As := [.int v1]) (rest := []) Z_X0_isStatement I_X0_isStatement lk_m_X10_117 rfl hVx2 (c_X0_isStatement G n x1 v1 h sz sl _ hx2) rfl (Nat.le_of_ble_eq_true rfl) ⟨Nat.le_of_ble_eq_true rfl, Nat.le_of_ble_eq_true rfl⟩ ho.1 ho.2 rfl dX10_print_5 ?_
  refine hv_as [.int x2] h rfl rfl ?_
  refine hv_if_ne (tgt := 13) dX10_print_8 (by decide) (fun c8 => ?_) (fun c8 => ?_)
  · rw [if_neg c8] at hm
    refine hv_aload_n 0 dX10_print_13 rfl rfl ?_
    obtain ⟨x3, hx3, hm⟩ := hp_bd hm
    refine hv_get lk_f_X10_61 dX10_print_14 (hp_fR_spec hx3) ?_
    obtain ⟨x4, hx4, hm⟩ := hp_bd hm
    obtain ⟨Vx4, hVx4⟩ := k_X8_clear hx4
    refine hv_callV (As := []) (rest := []) Z_X8_clear I_X8_clear lk_m_X10_189 rfl hVx4 (c_X8_clear G n x3 h sz sl _ hx4) rfl (Nat.le_of_ble_eq_true rfl) ⟨Nat.le_of_ble_eq_true rfl, Nat.le_of_ble_eq_true rfl⟩ ho.1 ho.2 rfl dX10_print_17 ?_
    refine hv_as [] x4 rfl rfl ?_
    refine hv_aload_n 0 dX10_print_20 rfl rfl ?_
    refine hv_aload_n 0 dX10_print_21 rfl rfl ?_
    obtain ⟨x5, hx5, hm⟩ := hp_bd hm
    refine hv_get lk_f_X10_61 dX10_print_22 (hp_fR_spec hx5) ?_
    refine hv_iload_n 1 dX10_print_25 rfl rfl ?_
    obtain ⟨x6, hx6, hm⟩ := hp_bd hm
    obtain ⟨Vx6, hVx6⟩ := k_X10_writeStatement hx6
    refine hv_callV (As := [.ref x5, .int v1]) (rest := []) Z_X10_writeStatement I_X10_writeStatement lk_m_X10_205 rfl hVx6 (c_X10_writeStatement G n v0 x5 v1 x4 sz sl _ hx6) rfl (Nat.le_of_ble_eq_true rfl) ⟨Nat.le_of_ble_eq_true rfl, Nat.le_of_ble_eq_true rfl⟩ ho.1 ho.2 rfl dX10_print_26 ?_
    refine hv_as [] x6 rfl rfl ?_
    refine hv_aload_n 0 dX10_print_29 rfl rfl ?_
    obtain ⟨x7, hx7, hm⟩ := hp_bd hm
    obtain ⟨Vx7, hVx7⟩ := k_X10_publish hx7
    refine hv_callV (As := []) (rest := []) Z_X10_publish I_X10_publish lk_m_X10_197 rfl hVx7 (c_X10_publish G n v0 x6 sz sl _ hx7) rfl (Nat.le_of_ble_eq_true rfl) ⟨Nat.le_of_ble_eq_true rfl, Nat.le_of_ble_eq_true rfl⟩ ho.1 ho.2 rfl dX10_print_30 ?_
    refine hv_as [.int x7.1] x7.2 rfl rfl ?_
    obtain rfl := Option.some.inj hm
    exact hv_iret rfl dX10_print_33
  · rw [if_pos c8] at hm
    refine hv_iconst (-1 : Int32) dX10_print_11 (by decide) ?_
    obtain rfl := Option.some.inj hm
    exact hv_iret rfl dX10_print_12
def f_X10_print (n : Nat) (v0 : Nat) (v1 : Int32) (h : hp_H) : Option (Int32 × hp_H) := (hp_ck h 10 v0).bind fun _ => f_X10_print_0 n v0 v1 h
theorem c_X10_print (G : hp_G) (n : Nat) (v0 : Nat) (v1 : Int32) (h : hp_H) (sz sl : Nat) (res : Int32 × hp_H) (hm : f_X10_print n v0 v1 h = some res) : hp_C G m_X10_print yX10_print [.ref v0, .int v1] h sz sl (some (.int res.1), res.2, sz, sl) := by
  unfold f_X10_print at hm
  obtain ⟨_, _, hm⟩ := hp_bd hm
  exact hp_C_of (by decide) rfl rfl (Nat.le_of_ble_eq_true rfl) (Nat.le_refl _) (Nat.le_refl _) (hv_sub [0, 1] rfl (q_X10_print_0 G n v0 v1 h sz sl res hm))
theorem k_X10_print {n : Nat} {v0 : Nat} {v1 : Int32} {h : hp_H} {res : Int32 × hp_H} (hm : f_X10_print n v0 v1 h = some res) : ∃ V, h v0 = some (.inr (.inr (10, V))) := by
  unfold f_X10_print at hm
  obtain ⟨_, hu, _⟩ := hp_bd hm
  exact hp_ck_spec hu
abbrev m_X10_out : hp_M := (RX10, cX10_out, 2, some .int, 0, 0, "out")
theorem Z_X10_out : hp_Y yX10_out m_X10_out 1 := Y_X10_out
def f_X10_out_0 (n : Nat) (v0 : Nat) (v1 : Int32) (h : hp_H) : Option (Int32) :=
  if v1 < 0 then
    some (-1 : Int32)
  else
    (hp_fR h 10 v0 7).bind fun x1 =>
    (hp_fI h 8 x1 1).bind fun x2 =>
    if x2 ≤ v1 then
      some (-1 : Int32)
    else
      (hp_fR h 10 v0 7).bind fun x3 =>
      (hp_fR h 8 x3 0).bind fun x4 =>
      (hp_aI h 1 x4 v1).bind fun x5 =>
      some x5
set_option maxHeartbeats 1000000 in
set_option maxRecDepth 4000 in
theorem q_X10_out_0 (G : hp_G) (n : Nat) (v0 : Nat) (v1 : Int32) (h : hp_H) (sz sl : Nat) (res : Int32) (hm : f_X10_out_0 n v0 v1 h = some res) : hp_V G m_X10_out 0 [(0, .ref v0), (1, .int v1)] [] h sz sl (some (.int res), h, sz, sl) := by
  have ho : sz ≤ sz ∧ sl ≤ sl := ⟨Nat.le_refl _, Nat.le_refl _⟩
  unfold f_X10_out_0 at hm
  refine hv_iload_n 1 dX10_out_0 rfl rfl ?_
  refine hv_if_lt (tgt := 27) dX10_out_1 (by decide) (fun c7 => ?_) (fun c7 => ?_)
  · rw [if_pos c7] at hm
    refine hv_iconst (-1 : Int32) dX10_out_27 (by decide) ?_
    obtain rfl := Option.some.inj hm
    exact hv_iret rfl dX10_out_28
  · rw [if_neg c7] at hm
    refine hv_iload_n 1 dX10_out_4 rfl rfl ?_
    refine hv_aload_n 0 dX10_out_5 rfl rfl ?_
    obtain ⟨x1, hx1, hm⟩ := hp_bd hm
    refine hv_get lk_f_X10_57 dX10_out_6 (hp_fR_spec hx1) ?_
    obtain ⟨x2, hx2, hm⟩ := hp_bd hm
    refine hv_get lk_f_X10_110 dX10_out_9 (hp_fI_spec hx2) ?_
    refine hv_icmp_ge (tgt := 27) dX10_out_12 (by decide) (fun c6 => ?_) (fun c6 => ?_)
    · rw [if_pos c6] at hm
      refine hv_iconst (-1 : Int32) dX10_out_27 (by decide) ?_
      obtain rfl := Option.some.inj hm
      exact hv_iret rfl dX10_out_28
    · rw [if_neg c6] at hm
      refine hv_aload_n 0 dX10_out_15 rfl rfl ?_
      obtain ⟨x3, hx3, hm⟩ := hp_bd hm
      refine hv_get lk_f_X10_57 dX10_out_16 (hp_fR_spec hx3) ?_
      obtain ⟨x4, hx4, hm⟩ := hp_bd hm
      refine hv_get lk_f_X10_224 dX10_out_19 (hp_fR_spec hx4) ?_
      refine hv_iload_n 1 dX10_out_22 rfl rfl ?_
      obtain ⟨x5, hx5, hm⟩ := hp_bd hm
      refine hv_bald dX10_out_23 hx5 ?_
      refine hv_goto (tgt := 28) dX10_out_24 (by decide) ?_
      obtain rfl := Option.some.inj hm
      exact hv_iret rfl dX10_out_28
def f_X10_out (n : Nat) (v0 : Nat) (v1 : Int32) (h : hp_H) : Option (Int32) := (hp_ck h 10 v0).bind fun _ => f_X10_out_0 n v0 v1 h
theorem c_X10_out (G : hp_G) (n : Nat) (v0 : Nat) (v1 : Int32) (h : hp_H) (sz sl : Nat) (res : Int32) (hm : f_X10_out n v0 v1 h = some res) : hp_C G m_X10_out yX10_out [.ref v0, .int v1] h sz sl (some (.int res), h, sz, sl) := by
  unfold f_X10_out at hm
  obtain ⟨_, _, hm⟩ := hp_bd hm
  exact hp_C_of (by decide) rfl rfl (Nat.le_of_ble_eq_true rfl) (Nat.le_refl _) (Nat.le_refl _) (hv_sub [0, 1] rfl (q_X10_out_0 G n v0 v1 h sz sl res hm))
theorem k_X10_out {n : Nat} {v0 : Nat} {v1 : Int32} {h : hp_H} {res : Int32} (hm : f_X10_out n v0 v1 h = some res) : ∃ V, h v0 = some (.inr (.inr (10, V))) := by
  unfold f_X10_out at hm
  obtain ⟨_, hu, _⟩ := hp_bd hm
  exact hp_ck_spec hu
abbrev m_X10_rests : hp_M := (RX10, cX10_rests, 3, some .int, 2, 42, "rests")
theorem Z_X10_rests : hp_Y yX10_rests m_X10_rests 2 := Y_X10_rests
def f_X10_rests_0 (n : Nat) (v0 : Nat) (v1 : Int32) (v2 : Int32) (h : hp_H) : Option (Int32) :=
  (hp_fR h 10 v0 0).bind fun x1 =>
  (f_X0_isProvable n x1 v1 h).bind fun x2 =>
  if x2 = 0 then
    some (-1 : Int32)
  else
    (hp_fR h 10 v0 0).bind fun x3 =>
    (f_X0_axiomUnder n x3 v1 v2 h).bind fun x4 =>
    some x4
set_option maxHeartbeats 1000000 in
set_option maxRecDepth 4000 in
theorem q_X10_rests_0 (G : hp_G) (n : Nat) (v0 : Nat) (v1 : Int32) (v2 : Int32) (h : hp_H) (sz sl : Nat) (res : Int32) (hm : f_X10_rests_0 n v0 v1 v2 h = some res) : hp_V G m_X10_rests 0 [(0, .ref v0), (1, .int v1), (2, .int v2)] [] h sz sl (some (.int res), h, sz, sl) := by
  have ho : sz ≤ sz ∧ sl ≤ sl := ⟨Nat.le_refl _, Nat.le_refl _⟩
  unfold f_X10_rests_0 at hm
  refine hv_aload_n 0 dX10_rests_0 rfl rfl ?_
  obtain ⟨x1, hx1, hm⟩ := hp_bd hm
  refine hv_get lk_f_X10_12 dX10_rests_1 (hp_fR_spec hx1) ?_
  refine hv_iload_n 1 dX10_rests_4 rfl rfl ?_
  obtain ⟨x2, hx2, hm⟩ := hp_bd hm
  obtain ⟨Vx2, hVx2⟩ := k_X0_isProvable hx2
  refine hv_callV (As := [.int v1]) (rest := []) Z_X0_isProvable I_X0_isProvable lk_m_X10_160 rfl hVx2 (c_X0_isProvable G n x1 v1 h sz sl _ hx2) rfl (Nat.le_of_ble_eq_true rfl) ⟨Nat.le_of_ble_eq_true rfl, Nat.le_of_ble_eq_true rfl⟩ ho.1 ho.2 rfl dX10_rests_5 ?_
  refine hv_as [.int x2] h rfl rfl ?_
  refine hv_if_ne (tgt := 13) dX10_rests_8 (by decide) (fun c5 => ?_) (fun c5 => ?_)
  · rw [if_neg c5] at hm
    refine hv_aload_n 0 dX10_rests_13 rfl rfl ?_
    obtain ⟨x3, hx3, hm⟩ := hp_bd hm
    refine hv_get lk_f_X10_12 dX10_rests_14 (hp_fR_spec hx3) ?_
    refine hv_iload_n 1 dX10_rests_17 rfl rfl ?_
    refine hv_iload_n 2 dX10_rests_18 rfl rfl ?_
    obtain ⟨x4, hx4, hm⟩ := hp_bd hm
    obtain ⟨Vx4, hVx4⟩ := k_X0_axiomUnder hx4
    refine hv_callV (As := [.int v1, .int v2]) (rest := []) Z_X0_axiomUnder I_X0_axiomUnder lk_m_X10_227 rfl hVx4 (c_X0_axiomUnder G n x3 v1 v2 h sz sl _ hx4) rfl (Nat.le_of_ble_eq_true rfl) ⟨Nat.le_of_ble_eq_true rfl, Nat.le_of_ble_eq_true rfl⟩ ho.1 ho.2 rfl dX10_rests_19 ?_
    refine hv_as [.int x4] h rfl rfl ?_
    obtain rfl := Option.some.inj hm
    exact hv_iret rfl dX10_rests_22
  · rw [if_pos c5] at hm
    refine hv_iconst (-1 : Int32) dX10_rests_11 (by decide) ?_
    obtain rfl := Option.some.inj hm
    exact hv_iret rfl dX10_rests_12
def f_X10_rests (n : Nat) (v0 : Nat) (v1 : Int32) (v2 : Int32) (h : hp_H) : Option (Int32) := (hp_ck h 10 v0).bind fun _ => f_X10_rests_0 n v0 v1 v2 h
theorem c_X10_rests (G : hp_G) (n : Nat) (v0 : Nat) (v1 : Int32) (v2 : Int32) (h : hp_H) (sz sl : Nat) (res : Int32) (hm : f_X10_rests n v0 v1 v2 h = some res) : hp_C G m_X10_rests yX10_rests [.ref v0, .int v1, .int v2] h sz sl (some (.int res), h, sz, sl) := by
  unfold f_X10_rests at hm
  obtain ⟨_, _, hm⟩ := hp_bd hm
  exact hp_C_of (by decide) rfl rfl (Nat.le_of_ble_eq_true rfl) (Nat.le_refl _) (Nat.le_refl _) (hv_sub [0, 1, 2] rfl (q_X10_rests_0 G n v0 v1 v2 h sz sl res hm))
theorem k_X10_rests {n : Nat} {v0 : Nat} {v1 : Int32} {v2 : Int32} {h : hp_H} {res : Int32} (hm : f_X10_rests n v0 v1 v2 h = some res) : ∃ V, h v0 = some (.inr (.inr (10, V))) := by
  unfold f_X10_rests at hm
  obtain ⟨_, hu, _⟩ := hp_bd hm
  exact hp_ck_spec hu
abbrev m_X10_find : hp_M := (RX10, cX10_find, 2, some .int, 2, 49, "find")
theorem Z_X10_find : hp_Y yX10_find m_X10_find 0 := Y_X10_find
def f_X10_find_0 (n : Nat) (v0 : Nat) (h : hp_H) : Option (Int32 × hp_H) :=
  (hp_fR h 10 v0 0).bind fun x1 =>
  (hp_fR h 0 x1 0).bind fun x2 =>
  (hp_fR h 10 v0 1).bind fun x3 =>
  (hp_fR h 0 x3 1).bind fun x4 =>
  (hp_fR h 10 v0 1).bind fun x5 =>
  (hp_fI h 0 x5 2).bind fun x6 =>
  (f_X2_lookUp n x2 x4 (0 : Int32) x6 h).bind fun x7 =>
  (hp_fR h 10 v0 1).bind fun x8 =>
  (hp_pF h 0 x8 2 (.int (0 : Int32))).bind fun h9 =>
  if x7 < (300 : Int32) then
    some ((-2 : Int32), h9)
  else
    some ((x7 - (300 : Int32)), h9)
set_option maxHeartbeats 1000000 in
set_option maxRecDepth 4000 in
theorem q_X10_find_0 (G : hp_G) (n : Nat) (v0 : Nat) (h : hp_H) (sz sl : Nat) (res : Int32 × hp_H) (hm : f_X10_find_0 n v0 h = some res) : hp_V G m_X10_find 0 [(0, .ref v0)] [] h sz sl (some (.int res.1), res.2, sz, sl) := by
  have ho : sz ≤ sz ∧ sl ≤ sl := ⟨Nat.le_refl _, Nat.le_refl _⟩
  unfold f_X10_find_0 at hm
  refine hv_aload_n 0 dX10_find_0 rfl rfl ?_
  obtain ⟨x1, hx1, hm⟩ := hp_bd hm
  refine hv_get lk_f_X10_12 dX10_find_1 (hp_fR_spec hx1) ?_
  obtain ⟨x2, hx2, hm⟩ := hp_bd hm
  refine hv_get lk_f_X10_148 dX10_find_4 (hp_fR_spec hx2) ?_
  refine hv_aload_n 0 dX10_find_7 rfl rfl ?_
  obtain ⟨x3, hx3, hm⟩ := hp_bd hm
  refine hv_get lk_f_X10_16 dX10_find_8 (hp_fR_spec hx3) ?_
  obtain ⟨x4, hx4, hm⟩ := hp_bd hm
  refine hv_get lk_f_X10_78 dX10_find_11 (hp_fR_spec hx4) ?_
  refine hv_iconst (0 : Int32) dX10_find_14 (by decide) ?_
  refine hv_aload_n 0 dX10_find_15 rfl rfl ?_
  obtain ⟨x5, hx5, hm⟩ := hp_bd hm
  refine hv_get lk_f_X10_16 dX10_find_16 (hp_fR_spec hx5) ?_
  obtain ⟨x6, hx6, hm⟩ := hp_bd hm
  refine hv_get lk_f_X10_68 dX10_find_19 (hp_fI_spec hx6) ?_
  obtain ⟨x7, hx7, hm⟩ := hp_bd hm
  obtain ⟨Vx7, hVx7⟩ := k_X2_lookUp hx7
  refine hv_callV (As := [.ref x4, .int (0 : Int32), .int x6]) (rest := []) Z_X2_lookUp I_X2_lookUp lk_m_X10_230 rfl hVx7 (c_X2_lookUp G n x2 x4 (0 : Int32) x6 h sz sl _ hx7) rfl (Nat.le_of_ble_eq_true rfl) ⟨Nat.le_of_ble_eq_true rfl, Nat.le_of_ble_eq_true rfl⟩ ho.1 ho.2 rfl dX10_find_22 ?_
  refine hv_as [.int x7] h rfl rfl ?_
  refine hv_istore_n [(1, .int x7), (0, .ref v0)] dX10_find_25 rfl (by decide) rfl ?_
  refine hv_aload_n 1 dX10_find_26 rfl rfl ?_
  obtain ⟨x8, hx8, hm⟩ := hp_bd hm
  refine hv_get lk_f_X10_16 dX10_find_27 (hp_fR_spec hx8) ?_
  refine hv_iconst (0 : Int32) dX10_find_30 (by decide) ?_
  obtain ⟨h9, hh9, hm⟩ := hp_bd hm
  refine hv_put lk_f_X10_68 dX10_find_31 rfl rfl hh9 ?_
  refine hv_iload_n 0 dX10_find_34 rfl rfl ?_
  refine hv_sipush (300 : Int32) dX10_find_35 (by decide) ?_
  refine hv_icmp_lt (tgt := 49) dX10_find_38 (by decide) (fun c10 => ?_) (fun c10 => ?_)
  · rw [if_pos c10] at hm
    refine hv_bipush (-2 : Int32) dX10_find_49 (by decide) ?_
    obtain rfl := Option.some.inj hm
    exact hv_iret rfl dX10_find_51
  · rw [if_neg c10] at hm
    refine hv_iload_n 0 dX10_find_41 rfl rfl ?_
    refine hv_sipush (300 : Int32) dX10_find_42 (by decide) ?_
    refine hv_isub dX10_find_45 ?_
    refine hv_goto (tgt := 51) dX10_find_46 (by decide) ?_
    obtain rfl := Option.some.inj hm
    exact hv_iret rfl dX10_find_51
def f_X10_find (n : Nat) (v0 : Nat) (h : hp_H) : Option (Int32 × hp_H) := (hp_ck h 10 v0).bind fun _ => f_X10_find_0 n v0 h
theorem c_X10_find (G : hp_G) (n : Nat) (v0 : Nat) (h : hp_H) (sz sl : Nat) (res : Int32 × hp_H) (hm : f_X10_find n v0 h = some res) : hp_C G m_X10_find yX10_find [.ref v0] h sz sl (some (.int res.1), res.2, sz, sl) := by
  unfold f_X10_find at hm
  obtain ⟨_, _, hm⟩ := hp_bd hm
  exact hp_C_of (by decide) rfl rfl (Nat.le_of_ble_eq_true rfl) (Nat.le_refl _) (Nat.le_refl _) (hv_sub [0] rfl (q_X10_find_0 G n v0 h sz sl res hm))
theorem k_X10_find {n : Nat} {v0 : Nat} {h : hp_H} {res : Int32 × hp_H} (hm : f_X10_find n v0 h = some res) : ∃ V, h v0 = some (.inr (.inr (10, V))) := by
  unfold f_X10_find at hm
  obtain ⟨_, hu, _⟩ := hp_bd hm
  exact hp_ck_spec hu
