abbrev m_X0_init : hp_M := (RX0, cX0_init, 1, none, 2, 51, "<init>")
theorem Z_X0_init : hp_Y yX0_init m_X0_init 0 := Y_X0_init
def f_X0_init_170 (n : Nat)  (s0 : Nat) (s1 : Nat) (h : hp_H) (sz sl : Nat) : Option (hp_H × Nat × Nat) :=
  (hp_pF h 0 s1 17 (.ref s0)).bind fun h1 =>
  some (h1, sz, sl)
set_option maxHeartbeats 1000000 in
set_option maxRecDepth 4000 in
theorem mo_X0_init_170 {n : Nat}  {s0 : Nat} {s1 : Nat} {h : hp_H} {sz sl : Nat} {res : hp_H × Nat × Nat} (hm : f_X0_init_170 n s0 s1 h sz sl = some res) : sz ≤ res.2.1 ∧ sl ≤ res.2.2 := by
  unfold f_X0_init_170 at hm
  obtain ⟨h1, hh1, hm⟩ := hp_bd hm
  obtain rfl := Option.some.inj hm
  exact ⟨Nat.le_refl _, Nat.le_refl _⟩
set_option maxHeartbeats 1000000 in
set_option maxRecDepth 4000 in
theorem q_X0_init_170 (G : hp_G) (n : Nat)  (s0 : Nat) (s1 : Nat) (h : hp_H) (sz sl : Nat) (res : hp_H × Nat × Nat) (hm : f_X0_init_170 n s0 s1 h sz sl = some res) : hp_V G m_X0_init 170 [] [.ref s0, .ref s1] h sz sl (none, res.1, res.2.1, res.2.2) := by
  have ho := mo_X0_init_170 hm
  unfold f_X0_init_170 at hm
  obtain ⟨h1, hh1, hm⟩ := hp_bd hm
  refine hv_putF lk_f_X0_66 (by intro C T N e; cases e; rfl) rfl dX0_init_170 rfl rfl hh1 ?_
  obtain rfl := Option.some.inj hm
  exact hv_vret rfl dX0_init_173
def f_X0_init_161 (n : Nat) (v0 : Nat) (s0 : Nat) (s1 : Nat) (h : hp_H) (sz sl : Nat) : Option (hp_H × Nat × Nat) :=
  (hp_pF h 0 s1 16 (.ref s0)).bind fun h1 =>
  f_X0_init_170 n sz v0 (hp_nj h1 sz 800) (sz + 1) (sl + 800)
set_option maxHeartbeats 1000000 in
set_option maxRecDepth 4000 in
theorem mo_X0_init_161 {n : Nat} {v0 : Nat} {s0 : Nat} {s1 : Nat} {h : hp_H} {sz sl : Nat} {res : hp_H × Nat × Nat} (hm : f_X0_init_161 n v0 s0 s1 h sz sl = some res) : sz ≤ res.2.1 ∧ sl ≤ res.2.2 := by
  unfold f_X0_init_161 at hm
  obtain ⟨h1, hh1, hm⟩ := hp_bd hm
  exact hp_tr ⟨Nat.le_add_right _ _, Nat.le_add_right _ _⟩ (mo_X0_init_170 hm)
set_option maxHeartbeats 1000000 in
set_option maxRecDepth 4000 in
theorem q_X0_init_161 (G : hp_G) (n : Nat) (v0 : Nat) (s0 : Nat) (s1 : Nat) (h : hp_H) (sz sl : Nat) (res : hp_H × Nat × Nat) (hm : f_X0_init_161 n v0 s0 s1 h sz sl = some res) : hp_V G m_X0_init 161 [(0, .ref v0)] [.ref s0, .ref s1] h sz sl (none, res.1, res.2.1, res.2.2) := by
  have ho := mo_X0_init_161 hm
  unfold f_X0_init_161 at hm
  obtain ⟨h1, hh1, hm⟩ := hp_bd hm
  refine hv_putF lk_f_X0_63 (by intro C T N e; cases e; rfl) rfl dX0_init_161 rfl rfl hh1 ?_
  refine hv_aload_n 0 dX0_init_164 rfl rfl ?_
  refine hv_sipush (800 : Int32) dX0_init_165 (by decide) ?_
  have hq := mo_X0_init_170 hm
  refine hv_newJ (N := 800) ac_long (by decide) (by decide) dX0_init_168 hq.1 hq.2 ?_
  exact hv_sub [] rfl (q_X0_init_170 G n sz v0 (hp_nj h1 sz 800) (sz + 1) (sl + 800) _ hm)
def f_X0_init_152 (n : Nat) (v0 : Nat) (s0 : Nat) (s1 : Nat) (h : hp_H) (sz sl : Nat) : Option (hp_H × Nat × Nat) :=
  (hp_pF h 0 s1 15 (.ref s0)).bind fun h1 =>
  f_X0_init_161 n v0 sz v0 (hp_na h1 sz 0 200) (sz + 1) (sl + 200)
set_option maxHeartbeats 1000000 in
set_option maxRecDepth 4000 in
theorem mo_X0_init_152 {n : Nat} {v0 : Nat} {s0 : Nat} {s1 : Nat} {h : hp_H} {sz sl : Nat} {res : hp_H × Nat × Nat} (hm : f_X0_init_152 n v0 s0 s1 h sz sl = some res) : sz ≤ res.2.1 ∧ sl ≤ res.2.2 := by
  unfold f_X0_init_152 at hm
  obtain ⟨h1, hh1, hm⟩ := hp_bd hm
  exact hp_tr ⟨Nat.le_add_right _ _, Nat.le_add_right _ _⟩ (mo_X0_init_161 hm)
set_option maxHeartbeats 1000000 in
set_option maxRecDepth 4000 in
theorem q_X0_init_152 (G : hp_G) (n : Nat) (v0 : Nat) (s0 : Nat) (s1 : Nat) (h : hp_H) (sz sl : Nat) (res : hp_H × Nat × Nat) (hm : f_X0_init_152 n v0 s0 s1 h sz sl = some res) : hp_V G m_X0_init 152 [(0, .ref v0)] [.ref s0, .ref s1] h sz sl (none, res.1, res.2.1, res.2.2) := by
  have ho := mo_X0_init_152 hm
  unfold f_X0_init_152 at hm
  obtain ⟨h1, hh1, hm⟩ := hp_bd hm
  refine hv_putF lk_f_X0_60 (by intro C T N e; cases e; rfl) rfl dX0_init_152 rfl rfl hh1 ?_
  refine hv_aload_n 0 dX0_init_155 rfl rfl ?_
  refine hv_sipush (200 : Int32) dX0_init_156 (by decide) ?_
  have hq := mo_X0_init_161 hm
  refine hv_newI (N := 200) ac_int (by decide) (by decide) dX0_init_159 hq.1 hq.2 ?_
  exact hv_sub [0] rfl (q_X0_init_161 G n v0 sz v0 (hp_na h1 sz 0 200) (sz + 1) (sl + 200) _ hm)
def f_X0_init_143 (n : Nat) (v0 : Nat) (s0 : Nat) (s1 : Nat) (h : hp_H) (sz sl : Nat) : Option (hp_H × Nat × Nat) :=
  (hp_pF h 0 s1 14 (.ref s0)).bind fun h1 =>
  f_X0_init_152 n v0 sz v0 (hp_na h1 sz 1 200) (sz + 1) (sl + 200)
set_option maxHeartbeats 1000000 in
set_option maxRecDepth 4000 in
theorem mo_X0_init_143 {n : Nat} {v0 : Nat} {s0 : Nat} {s1 : Nat} {h : hp_H} {sz sl : Nat} {res : hp_H × Nat × Nat} (hm : f_X0_init_143 n v0 s0 s1 h sz sl = some res) : sz ≤ res.2.1 ∧ sl ≤ res.2.2 := by
  unfold f_X0_init_143 at hm
  obtain ⟨h1, hh1, hm⟩ := hp_bd hm
  exact hp_tr ⟨Nat.le_add_right _ _, Nat.le_add_right _ _⟩ (mo_X0_init_152 hm)
set_option maxHeartbeats 1000000 in
set_option maxRecDepth 4000 in
theorem q_X0_init_143 (G : hp_G) (n : Nat) (v0 : Nat) (s0 : Nat) (s1 : Nat) (h : hp_H) (sz sl : Nat) (res : hp_H × Nat × Nat) (hm : f_X0_init_143 n v0 s0 s1 h sz sl = some res) : hp_V G m_X0_init 143 [(0, .ref v0)] [.ref s0, .ref s1] h sz sl (none, res.1, res.2.1, res.2.2) := by
  have ho := mo_X0_init_143 hm
  unfold f_X0_init_143 at hm
  obtain ⟨h1, hh1, hm⟩ := hp_bd hm
  refine hv_putF lk_f_X0_57 (by intro C T N e; cases e; rfl) rfl dX0_init_143 rfl rfl hh1 ?_
  refine hv_aload_n 0 dX0_init_146 rfl rfl ?_
  refine hv_sipush (200 : Int32) dX0_init_147 (by decide) ?_
  have hq := mo_X0_init_152 hm
  refine hv_newB (N := 200) ac_byte (by decide) (by decide) dX0_init_150 hq.1 hq.2 ?_
  exact hv_sub [0] rfl (q_X0_init_152 G n v0 sz v0 (hp_na h1 sz 1 200) (sz + 1) (sl + 200) _ hm)
def f_X0_init_136 (n : Nat) (v0 : Nat) (s0 : Nat) (s1 : Nat) (h : hp_H) (sz sl : Nat) : Option (hp_H × Nat × Nat) :=
  (f_X5_init n s0 (200 : Int32) h sz sl).bind fun x1 =>
  f_X0_init_143 n v0 s0 s1 x1.1 x1.2.1 x1.2.2
set_option maxHeartbeats 1000000 in
set_option maxRecDepth 4000 in
theorem mo_X0_init_136 {n : Nat} {v0 : Nat} {s0 : Nat} {s1 : Nat} {h : hp_H} {sz sl : Nat} {res : hp_H × Nat × Nat} (hm : f_X0_init_136 n v0 s0 s1 h sz sl = some res) : sz ≤ res.2.1 ∧ sl ≤ res.2.2 := by
  unfold f_X0_init_136 at hm
  obtain ⟨x1, hx1, hm⟩ := hp_bd hm
  exact hp_tr (mx_X5_init hx1) (mo_X0_init_143 hm)
set_option maxHeartbeats 1000000 in
set_option maxRecDepth 4000 in
theorem q_X0_init_136 (G : hp_G) (n : Nat) (v0 : Nat) (s0 : Nat) (s1 : Nat) (h : hp_H) (sz sl : Nat) (res : hp_H × Nat × Nat) (hm : f_X0_init_136 n v0 s0 s1 h sz sl = some res) : hp_V G m_X0_init 136 [(0, .ref v0)] [.ref s0, .ref s1] h sz sl (none, res.1, res.2.1, res.2.2) := by
  have ho := mo_X0_init_136 hm
  unfold f_X0_init_136 at hm
  refine hv_dup dX0_init_136 rfl ?_
  refine hv_sipush (200 : Int32) dX0_init_137 (by decide) ?_
  obtain ⟨x1, hx1, hm⟩ := hp_bd hm
  have hq := mo_X0_init_143 hm
  refine hv_callI (As := [.int (200 : Int32)]) (rest := [.ref s0, .ref s1]) Z_X5_init rfl I_X5_init lk_m_X0_38 (c_X5_init G n s0 (200 : Int32) h sz sl _ hx1) rfl (Nat.le_of_ble_eq_true rfl) ⟨Nat.le_of_ble_eq_true rfl, Nat.le_of_ble_eq_true rfl⟩ hq.1 hq.2 rfl dX0_init_140 ?_
  refine hv_as2 [.ref s0, .ref s1] x1.1 x1.2.1 x1.2.2 rfl rfl rfl rfl ?_
  exact hv_sub [0] rfl (q_X0_init_143 G n v0 s0 s1 x1.1 x1.2.1 x1.2.2 _ hm)
def f_X0_init_129 (n : Nat) (v0 : Nat) (s0 : Nat) (s1 : Nat) (h : hp_H) (sz sl : Nat) : Option (hp_H × Nat × Nat) :=
  (hp_pF h 0 s1 13 (.ref s0)).bind fun h1 =>
  f_X0_init_136 n v0 sz v0 (hp_nw h1 sz 5 tyX5) (sz + 1) (sl + 4)
set_option maxHeartbeats 1000000 in
set_option maxRecDepth 4000 in
theorem mo_X0_init_129 {n : Nat} {v0 : Nat} {s0 : Nat} {s1 : Nat} {h : hp_H} {sz sl : Nat} {res : hp_H × Nat × Nat} (hm : f_X0_init_129 n v0 s0 s1 h sz sl = some res) : sz ≤ res.2.1 ∧ sl ≤ res.2.2 := by
  unfold f_X0_init_129 at hm
  obtain ⟨h1, hh1, hm⟩ := hp_bd hm
  exact hp_tr ⟨Nat.le_add_right _ _, Nat.le_add_right _ _⟩ (mo_X0_init_136 hm)
set_option maxHeartbeats 1000000 in
set_option maxRecDepth 4000 in
theorem q_X0_init_129 (G : hp_G) (n : Nat) (v0 : Nat) (s0 : Nat) (s1 : Nat) (h : hp_H) (sz sl : Nat) (res : hp_H × Nat × Nat) (hm : f_X0_init_129 n v0 s0 s1 h sz sl = some res) : hp_V G m_X0_init 129 [(0, .ref v0)] [.ref s0, .ref s1] h sz sl (none, res.1, res.2.1, res.2.2) := by
  have ho := mo_X0_init_129 hm
  unfold f_X0_init_129 at hm
  obtain ⟨h1, hh1, hm⟩ := hp_bd hm
  refine hv_putF lk_f_X0_54 (by intro C T N e; cases e; rfl) rfl dX0_init_129 rfl rfl hh1 ?_
  refine hv_aload_n 0 dX0_init_132 rfl rfl ?_
  have hq := mo_X0_init_136 hm
  refine hv_new CL5 lk_k_X0_36 dX0_init_133 hq.1 hq.2 ?_
  exact hv_sub [0] rfl (q_X0_init_136 G n v0 sz v0 (hp_nw h1 sz 5 tyX5) (sz + 1) (sl + 4) _ hm)
def f_X0_init_122 (n : Nat) (v0 : Nat) (s0 : Nat) (s1 : Nat) (h : hp_H) (sz sl : Nat) : Option (hp_H × Nat × Nat) :=
  (f_X5_init n s0 (200 : Int32) h sz sl).bind fun x1 =>
  f_X0_init_129 n v0 s0 s1 x1.1 x1.2.1 x1.2.2
set_option maxHeartbeats 1000000 in
set_option maxRecDepth 4000 in
theorem mo_X0_init_122 {n : Nat} {v0 : Nat} {s0 : Nat} {s1 : Nat} {h : hp_H} {sz sl : Nat} {res : hp_H × Nat × Nat} (hm : f_X0_init_122 n v0 s0 s1 h sz sl = some res) : sz ≤ res.2.1 ∧ sl ≤ res.2.2 := by
  unfold f_X0_init_122 at hm
  obtain ⟨x1, hx1, hm⟩ := hp_bd hm
  exact hp_tr (mx_X5_init hx1) (mo_X0_init_129 hm)
set_option maxHeartbeats 1000000 in
set_option maxRecDepth 4000 in
theorem q_X0_init_122 (G : hp_G) (n : Nat) (v0 : Nat) (s0 : Nat) (s1 : Nat) (h : hp_H) (sz sl : Nat) (res : hp_H × Nat × Nat) (hm : f_X0_init_122 n v0 s0 s1 h sz sl = some res) : hp_V G m_X0_init 122 [(0, .ref v0)] [.ref s0, .ref s1] h sz sl (none, res.1, res.2.1, res.2.2) := by
  have ho := mo_X0_init_122 hm
  unfold f_X0_init_122 at hm
  refine hv_dup dX0_init_122 rfl ?_
  refine hv_sipush (200 : Int32) dX0_init_123 (by decide) ?_
  obtain ⟨x1, hx1, hm⟩ := hp_bd hm
  have hq := mo_X0_init_129 hm
  refine hv_callI (As := [.int (200 : Int32)]) (rest := [.ref s0, .ref s1]) Z_X5_init rfl I_X5_init lk_m_X0_38 (c_X5_init G n s0 (200 : Int32) h sz sl _ hx1) rfl (Nat.le_of_ble_eq_true rfl) ⟨Nat.le_of_ble_eq_true rfl, Nat.le_of_ble_eq_true rfl⟩ hq.1 hq.2 rfl dX0_init_126 ?_
  refine hv_as2 [.ref s0, .ref s1] x1.1 x1.2.1 x1.2.2 rfl rfl rfl rfl ?_
  exact hv_sub [0] rfl (q_X0_init_129 G n v0 s0 s1 x1.1 x1.2.1 x1.2.2 _ hm)
def f_X0_init_115 (n : Nat) (v0 : Nat) (s0 : Nat) (s1 : Nat) (h : hp_H) (sz sl : Nat) : Option (hp_H × Nat × Nat) :=
  (hp_pF h 0 s1 12 (.ref s0)).bind fun h1 =>
  f_X0_init_122 n v0 sz v0 (hp_nw h1 sz 5 tyX5) (sz + 1) (sl + 4)
set_option maxHeartbeats 1000000 in
set_option maxRecDepth 4000 in
theorem mo_X0_init_115 {n : Nat} {v0 : Nat} {s0 : Nat} {s1 : Nat} {h : hp_H} {sz sl : Nat} {res : hp_H × Nat × Nat} (hm : f_X0_init_115 n v0 s0 s1 h sz sl = some res) : sz ≤ res.2.1 ∧ sl ≤ res.2.2 := by
  unfold f_X0_init_115 at hm
  obtain ⟨h1, hh1, hm⟩ := hp_bd hm
  exact hp_tr ⟨Nat.le_add_right _ _, Nat.le_add_right _ _⟩ (mo_X0_init_122 hm)
set_option maxHeartbeats 1000000 in
set_option maxRecDepth 4000 in
theorem q_X0_init_115 (G : hp_G) (n : Nat) (v0 : Nat) (s0 : Nat) (s1 : Nat) (h : hp_H) (sz sl : Nat) (res : hp_H × Nat × Nat) (hm : f_X0_init_115 n v0 s0 s1 h sz sl = some res) : hp_V G m_X0_init 115 [(0, .ref v0)] [.ref s0, .ref s1] h sz sl (none, res.1, res.2.1, res.2.2) := by
  have ho := mo_X0_init_115 hm
  unfold f_X0_init_115 at hm
  obtain ⟨h1, hh1, hm⟩ := hp_bd hm
  refine hv_putF lk_f_X0_51 (by intro C T N e; cases e; rfl) rfl dX0_init_115 rfl rfl hh1 ?_
  refine hv_aload_n 0 dX0_init_118 rfl rfl ?_
  have hq := mo_X0_init_122 hm
  refine hv_new CL5 lk_k_X0_36 dX0_init_119 hq.1 hq.2 ?_
  exact hv_sub [0] rfl (q_X0_init_122 G n v0 sz v0 (hp_nw h1 sz 5 tyX5) (sz + 1) (sl + 4) _ hm)
def f_X0_init_108 (n : Nat) (v0 : Nat) (s0 : Nat) (s1 : Nat) (h : hp_H) (sz sl : Nat) : Option (hp_H × Nat × Nat) :=
  (f_X5_init n s0 (200 : Int32) h sz sl).bind fun x1 =>
  f_X0_init_115 n v0 s0 s1 x1.1 x1.2.1 x1.2.2
set_option maxHeartbeats 1000000 in
set_option maxRecDepth 4000 in
theorem mo_X0_init_108 {n : Nat} {v0 : Nat} {s0 : Nat} {s1 : Nat} {h : hp_H} {sz sl : Nat} {res : hp_H × Nat × Nat} (hm : f_X0_init_108 n v0 s0 s1 h sz sl = some res) : sz ≤ res.2.1 ∧ sl ≤ res.2.2 := by
  unfold f_X0_init_108 at hm
  obtain ⟨x1, hx1, hm⟩ := hp_bd hm
  exact hp_tr (mx_X5_init hx1) (mo_X0_init_115 hm)
set_option maxHeartbeats 1000000 in
set_option maxRecDepth 4000 in
theorem q_X0_init_108 (G : hp_G) (n : Nat) (v0 : Nat) (s0 : Nat) (s1 : Nat) (h : hp_H) (sz sl : Nat) (res : hp_H × Nat × Nat) (hm : f_X0_init_108 n v0 s0 s1 h sz sl = some res) : hp_V G m_X0_init 108 [(0, .ref v0)] [.ref s0, .ref s1] h sz sl (none, res.1, res.2.1, res.2.2) := by
  have ho := mo_X0_init_108 hm
  unfold f_X0_init_108 at hm
  refine hv_dup dX0_init_108 rfl ?_
  refine hv_sipush (200 : Int32) dX0_init_109 (by decide) ?_
  obtain ⟨x1, hx1, hm⟩ := hp_bd hm
  have hq := mo_X0_init_115 hm
  refine hv_callI (As := [.int (200 : Int32)]) (rest := [.ref s0, .ref s1]) Z_X5_init rfl I_X5_init lk_m_X0_38 (c_X5_init G n s0 (200 : Int32) h sz sl _ hx1) rfl (Nat.le_of_ble_eq_true rfl) ⟨Nat.le_of_ble_eq_true rfl, Nat.le_of_ble_eq_true rfl⟩ hq.1 hq.2 rfl dX0_init_112 ?_
  refine hv_as2 [.ref s0, .ref s1] x1.1 x1.2.1 x1.2.2 rfl rfl rfl rfl ?_
  exact hv_sub [0] rfl (q_X0_init_115 G n v0 s0 s1 x1.1 x1.2.1 x1.2.2 _ hm)
def f_X0_init_101 (n : Nat) (v0 : Nat) (s0 : Nat) (s1 : Nat) (h : hp_H) (sz sl : Nat) : Option (hp_H × Nat × Nat) :=
  (hp_pF h 0 s1 11 (.ref s0)).bind fun h1 =>
  f_X0_init_108 n v0 sz v0 (hp_nw h1 sz 5 tyX5) (sz + 1) (sl + 4)
set_option maxHeartbeats 1000000 in
set_option maxRecDepth 4000 in
theorem mo_X0_init_101 {n : Nat} {v0 : Nat} {s0 : Nat} {s1 : Nat} {h : hp_H} {sz sl : Nat} {res : hp_H × Nat × Nat} (hm : f_X0_init_101 n v0 s0 s1 h sz sl = some res) : sz ≤ res.2.1 ∧ sl ≤ res.2.2 := by
  unfold f_X0_init_101 at hm
  obtain ⟨h1, hh1, hm⟩ := hp_bd hm
  exact hp_tr ⟨Nat.le_add_right _ _, Nat.le_add_right _ _⟩ (mo_X0_init_108 hm)
set_option maxHeartbeats 1000000 in
set_option maxRecDepth 4000 in
theorem q_X0_init_101 (G : hp_G) (n : Nat) (v0 : Nat) (s0 : Nat) (s1 : Nat) (h : hp_H) (sz sl : Nat) (res : hp_H × Nat × Nat) (hm : f_X0_init_101 n v0 s0 s1 h sz sl = some res) : hp_V G m_X0_init 101 [(0, .ref v0)] [.ref s0, .ref s1] h sz sl (none, res.1, res.2.1, res.2.2) := by
  have ho := mo_X0_init_101 hm
  unfold f_X0_init_101 at hm
  obtain ⟨h1, hh1, hm⟩ := hp_bd hm
  refine hv_putF lk_f_X0_48 (by intro C T N e; cases e; rfl) rfl dX0_init_101 rfl rfl hh1 ?_
  refine hv_aload_n 0 dX0_init_104 rfl rfl ?_
  have hq := mo_X0_init_108 hm
  refine hv_new CL5 lk_k_X0_36 dX0_init_105 hq.1 hq.2 ?_
  exact hv_sub [0] rfl (q_X0_init_108 G n v0 sz v0 (hp_nw h1 sz 5 tyX5) (sz + 1) (sl + 4) _ hm)
def f_X0_init_94 (n : Nat) (v0 : Nat) (s0 : Nat) (s1 : Nat) (h : hp_H) (sz sl : Nat) : Option (hp_H × Nat × Nat) :=
  (f_X5_init n s0 (200 : Int32) h sz sl).bind fun x1 =>
  f_X0_init_101 n v0 s0 s1 x1.1 x1.2.1 x1.2.2
set_option maxHeartbeats 1000000 in
set_option maxRecDepth 4000 in
theorem mo_X0_init_94 {n : Nat} {v0 : Nat} {s0 : Nat} {s1 : Nat} {h : hp_H} {sz sl : Nat} {res : hp_H × Nat × Nat} (hm : f_X0_init_94 n v0 s0 s1 h sz sl = some res) : sz ≤ res.2.1 ∧ sl ≤ res.2.2 := by
  unfold f_X0_init_94 at hm
  obtain ⟨x1, hx1, hm⟩ := hp_bd hm
  exact hp_tr (mx_X5_init hx1) (mo_X0_init_101 hm)
set_option maxHeartbeats 1000000 in
set_option maxRecDepth 4000 in
theorem q_X0_init_94 (G : hp_G) (n : Nat) (v0 : Nat) (s0 : Nat) (s1 : Nat) (h : hp_H) (sz sl : Nat) (res : hp_H × Nat × Nat) (hm : f_X0_init_94 n v0 s0 s1 h sz sl = some res) : hp_V G m_X0_init 94 [(0, .ref v0)] [.ref s0, .ref s1] h sz sl (none, res.1, res.2.1, res.2.2) := by
  have ho := mo_X0_init_94 hm
  unfold f_X0_init_94 at hm
  refine hv_dup dX0_init_94 rfl ?_
  refine hv_sipush (200 : Int32) dX0_init_95 (by decide) ?_
  obtain ⟨x1, hx1, hm⟩ := hp_bd hm
  have hq := mo_X0_init_101 hm
  refine hv_callI (As := [.int (200 : Int32)]) (rest := [.ref s0, .ref s1]) Z_X5_init rfl I_X5_init lk_m_X0_38 (c_X5_init G n s0 (200 : Int32) h sz sl _ hx1) rfl (Nat.le_of_ble_eq_true rfl) ⟨Nat.le_of_ble_eq_true rfl, Nat.le_of_ble_eq_true rfl⟩ hq.1 hq.2 rfl dX0_init_98 ?_
  refine hv_as2 [.ref s0, .ref s1] x1.1 x1.2.1 x1.2.2 rfl rfl rfl rfl ?_
  exact hv_sub [0] rfl (q_X0_init_101 G n v0 s0 s1 x1.1 x1.2.1 x1.2.2 _ hm)
def f_X0_init_87 (n : Nat) (v0 : Nat) (s0 : Nat) (s1 : Nat) (h : hp_H) (sz sl : Nat) : Option (hp_H × Nat × Nat) :=
  (hp_pF h 0 s1 10 (.ref s0)).bind fun h1 =>
  f_X0_init_94 n v0 sz v0 (hp_nw h1 sz 5 tyX5) (sz + 1) (sl + 4)
set_option maxHeartbeats 1000000 in
set_option maxRecDepth 4000 in
theorem mo_X0_init_87 {n : Nat} {v0 : Nat} {s0 : Nat} {s1 : Nat} {h : hp_H} {sz sl : Nat} {res : hp_H × Nat × Nat} (hm : f_X0_init_87 n v0 s0 s1 h sz sl = some res) : sz ≤ res.2.1 ∧ sl ≤ res.2.2 := by
  unfold f_X0_init_87 at hm
  obtain ⟨h1, hh1, hm⟩ := hp_bd hm
  exact hp_tr ⟨Nat.le_add_right _ _, Nat.le_add_right _ _⟩ (mo_X0_init_94 hm)
set_option maxHeartbeats 1000000 in
set_option maxRecDepth 4000 in
theorem q_X0_init_87 (G : hp_G) (n : Nat) (v0 : Nat) (s0 : Nat) (s1 : Nat) (h : hp_H) (sz sl : Nat) (res : hp_H × Nat × Nat) (hm : f_X0_init_87 n v0 s0 s1 h sz sl = some res) : hp_V G m_X0_init 87 [(0, .ref v0)] [.ref s0, .ref s1] h sz sl (none, res.1, res.2.1, res.2.2) := by
  have ho := mo_X0_init_87 hm
  unfold f_X0_init_87 at hm
  obtain ⟨h1, hh1, hm⟩ := hp_bd hm
  refine hv_putF lk_f_X0_45 (by intro C T N e; cases e; rfl) rfl dX0_init_87 rfl rfl hh1 ?_
  refine hv_aload_n 0 dX0_init_90 rfl rfl ?_
  have hq := mo_X0_init_94 hm
  refine hv_new CL5 lk_k_X0_36 dX0_init_91 hq.1 hq.2 ?_
  exact hv_sub [0] rfl (q_X0_init_94 G n v0 sz v0 (hp_nw h1 sz 5 tyX5) (sz + 1) (sl + 4) _ hm)
def f_X0_init_80 (n : Nat) (v0 : Nat) (s0 : Nat) (s1 : Nat) (h : hp_H) (sz sl : Nat) : Option (hp_H × Nat × Nat) :=
  (f_X5_init n s0 (200 : Int32) h sz sl).bind fun x1 =>
  f_X0_init_87 n v0 s0 s1 x1.1 x1.2.1 x1.2.2
set_option maxHeartbeats 1000000 in
set_option maxRecDepth 4000 in
theorem mo_X0_init_80 {n : Nat} {v0 : Nat} {s0 : Nat} {s1 : Nat} {h : hp_H} {sz sl : Nat} {res : hp_H × Nat × Nat} (hm : f_X0_init_80 n v0 s0 s1 h sz sl = some res) : sz ≤ res.2.1 ∧ sl ≤ res.2.2 := by
  unfold f_X0_init_80 at hm
  obtain ⟨x1, hx1, hm⟩ := hp_bd hm
  exact hp_tr (mx_X5_init hx1) (mo_X0_init_87 hm)
set_option maxHeartbeats 1000000 in
set_option maxRecDepth 4000 in
theorem q_X0_init_80 (G : hp_G) (n : Nat) (v0 : Nat) (s0 : Nat) (s1 : Nat) (h : hp_H) (sz sl : Nat) (res : hp_H × Nat × Nat) (hm : f_X0_init_80 n v0 s0 s1 h sz sl = some res) : hp_V G m_X0_init 80 [(0, .ref v0)] [.ref s0, .ref s1] h sz sl (none, res.1, res.2.1, res.2.2) := by
  have ho := mo_X0_init_80 hm
  unfold f_X0_init_80 at hm
  refine hv_dup dX0_init_80 rfl ?_
  refine hv_sipush (200 : Int32) dX0_init_81 (by decide) ?_
  obtain ⟨x1, hx1, hm⟩ := hp_bd hm
  have hq := mo_X0_init_87 hm
  refine hv_callI (As := [.int (200 : Int32)]) (rest := [.ref s0, .ref s1]) Z_X5_init rfl I_X5_init lk_m_X0_38 (c_X5_init G n s0 (200 : Int32) h sz sl _ hx1) rfl (Nat.le_of_ble_eq_true rfl) ⟨Nat.le_of_ble_eq_true rfl, Nat.le_of_ble_eq_true rfl⟩ hq.1 hq.2 rfl dX0_init_84 ?_
  refine hv_as2 [.ref s0, .ref s1] x1.1 x1.2.1 x1.2.2 rfl rfl rfl rfl ?_
  exact hv_sub [0] rfl (q_X0_init_87 G n v0 s0 s1 x1.1 x1.2.1 x1.2.2 _ hm)
def f_X0_init_73 (n : Nat) (v0 : Nat) (s0 : Nat) (s1 : Nat) (h : hp_H) (sz sl : Nat) : Option (hp_H × Nat × Nat) :=
  (hp_pF h 0 s1 9 (.ref s0)).bind fun h1 =>
  f_X0_init_80 n v0 sz v0 (hp_nw h1 sz 5 tyX5) (sz + 1) (sl + 4)
set_option maxHeartbeats 1000000 in
set_option maxRecDepth 4000 in
theorem mo_X0_init_73 {n : Nat} {v0 : Nat} {s0 : Nat} {s1 : Nat} {h : hp_H} {sz sl : Nat} {res : hp_H × Nat × Nat} (hm : f_X0_init_73 n v0 s0 s1 h sz sl = some res) : sz ≤ res.2.1 ∧ sl ≤ res.2.2 := by
  unfold f_X0_init_73 at hm
  obtain ⟨h1, hh1, hm⟩ := hp_bd hm
  exact hp_tr ⟨Nat.le_add_right _ _, Nat.le_add_right _ _⟩ (mo_X0_init_80 hm)
set_option maxHeartbeats 1000000 in
set_option maxRecDepth 4000 in
theorem q_X0_init_73 (G : hp_G) (n : Nat) (v0 : Nat) (s0 : Nat) (s1 : Nat) (h : hp_H) (sz sl : Nat) (res : hp_H × Nat × Nat) (hm : f_X0_init_73 n v0 s0 s1 h sz sl = some res) : hp_V G m_X0_init 73 [(0, .ref v0)] [.ref s0, .ref s1] h sz sl (none, res.1, res.2.1, res.2.2) := by
  have ho := mo_X0_init_73 hm
  unfold f_X0_init_73 at hm
  obtain ⟨h1, hh1, hm⟩ := hp_bd hm
  refine hv_putF lk_f_X0_41 (by intro C T N e; cases e; rfl) rfl dX0_init_73 rfl rfl hh1 ?_
  refine hv_aload_n 0 dX0_init_76 rfl rfl ?_
  have hq := mo_X0_init_80 hm
  refine hv_new CL5 lk_k_X0_36 dX0_init_77 hq.1 hq.2 ?_
  exact hv_sub [0] rfl (q_X0_init_80 G n v0 sz v0 (hp_nw h1 sz 5 tyX5) (sz + 1) (sl + 4) _ hm)
def f_X0_init_66 (n : Nat) (v0 : Nat) (s0 : Nat) (s1 : Nat) (h : hp_H) (sz sl : Nat) : Option (hp_H × Nat × Nat) :=
  (f_X5_init n s0 (200 : Int32) h sz sl).bind fun x1 =>
  f_X0_init_73 n v0 s0 s1 x1.1 x1.2.1 x1.2.2
set_option maxHeartbeats 1000000 in
set_option maxRecDepth 4000 in
theorem mo_X0_init_66 {n : Nat} {v0 : Nat} {s0 : Nat} {s1 : Nat} {h : hp_H} {sz sl : Nat} {res : hp_H × Nat × Nat} (hm : f_X0_init_66 n v0 s0 s1 h sz sl = some res) : sz ≤ res.2.1 ∧ sl ≤ res.2.2 := by
  unfold f_X0_init_66 at hm
  obtain ⟨x1, hx1, hm⟩ := hp_bd hm
  exact hp_tr (mx_X5_init hx1) (mo_X0_init_73 hm)
set_option maxHeartbeats 1000000 in
set_option maxRecDepth 4000 in
theorem q_X0_init_66 (G : hp_G) (n : Nat) (v0 : Nat) (s0 : Nat) (s1 : Nat) (h : hp_H) (sz sl : Nat) (res : hp_H × Nat × Nat) (hm : f_X0_init_66 n v0 s0 s1 h sz sl = some res) : hp_V G m_X0_init 66 [(0, .ref v0)] [.ref s0, .ref s1] h sz sl (none, res.1, res.2.1, res.2.2) := by
  have ho := mo_X0_init_66 hm
  unfold f_X0_init_66 at hm
  refine hv_dup dX0_init_66 rfl ?_
  refine hv_sipush (200 : Int32) dX0_init_67 (by decide) ?_
  obtain ⟨x1, hx1, hm⟩ := hp_bd hm
  have hq := mo_X0_init_73 hm
  refine hv_callI (As := [.int (200 : Int32)]) (rest := [.ref s0, .ref s1]) Z_X5_init rfl I_X5_init lk_m_X0_38 (c_X5_init G n s0 (200 : Int32) h sz sl _ hx1) rfl (Nat.le_of_ble_eq_true rfl) ⟨Nat.le_of_ble_eq_true rfl, Nat.le_of_ble_eq_true rfl⟩ hq.1 hq.2 rfl dX0_init_70 ?_
  refine hv_as2 [.ref s0, .ref s1] x1.1 x1.2.1 x1.2.2 rfl rfl rfl rfl ?_
  exact hv_sub [0] rfl (q_X0_init_73 G n v0 s0 s1 x1.1 x1.2.1 x1.2.2 _ hm)
def f_X0_init_59 (n : Nat) (v0 : Nat) (s0 : Nat) (s1 : Nat) (h : hp_H) (sz sl : Nat) : Option (hp_H × Nat × Nat) :=
  (hp_pF h 0 s1 8 (.ref s0)).bind fun h1 =>
  f_X0_init_66 n v0 sz v0 (hp_nw h1 sz 5 tyX5) (sz + 1) (sl + 4)
set_option maxHeartbeats 1000000 in
set_option maxRecDepth 4000 in
theorem mo_X0_init_59 {n : Nat} {v0 : Nat} {s0 : Nat} {s1 : Nat} {h : hp_H} {sz sl : Nat} {res : hp_H × Nat × Nat} (hm : f_X0_init_59 n v0 s0 s1 h sz sl = some res) : sz ≤ res.2.1 ∧ sl ≤ res.2.2 := by
  unfold f_X0_init_59 at hm
  obtain ⟨h1, hh1, hm⟩ := hp_bd hm
  exact hp_tr ⟨Nat.le_add_right _ _, Nat.le_add_right _ _⟩ (mo_X0_init_66 hm)
set_option maxHeartbeats 1000000 in
set_option maxRecDepth 4000 in
theorem q_X0_init_59 (G : hp_G) (n : Nat) (v0 : Nat) (s0 : Nat) (s1 : Nat) (h : hp_H) (sz sl : Nat) (res : hp_H × Nat × Nat) (hm : f_X0_init_59 n v0 s0 s1 h sz sl = some res) : hp_V G m_X0_init 59 [(0, .ref v0)] [.ref s0, .ref s1] h sz sl (none, res.1, res.2.1, res.2.2) := by
  have ho := mo_X0_init_59 hm
  unfold f_X0_init_59 at hm
  obtain ⟨h1, hh1, hm⟩ := hp_bd hm
  refine hv_putF lk_f_X0_33 (by intro C T N e; cases e; rfl) rfl dX0_init_59 rfl rfl hh1 ?_
  refine hv_aload_n 0 dX0_init_62 rfl rfl ?_
  have hq := mo_X0_init_66 hm
  refine hv_new CL5 lk_k_X0_36 dX0_init_63 hq.1 hq.2 ?_
  exact hv_sub [0] rfl (q_X0_init_66 G n v0 sz v0 (hp_nw h1 sz 5 tyX5) (sz + 1) (sl + 4) _ hm)
def f_X0_init_50 (n : Nat) (v0 : Nat) (s0 : Nat) (s1 : Nat) (h : hp_H) (sz sl : Nat) : Option (hp_H × Nat × Nat) :=
  (hp_pF h 0 s1 7 (.ref s0)).bind fun h1 =>
  f_X0_init_59 n v0 sz v0 (hp_na h1 sz 0 200) (sz + 1) (sl + 200)
set_option maxHeartbeats 1000000 in
set_option maxRecDepth 4000 in
theorem mo_X0_init_50 {n : Nat} {v0 : Nat} {s0 : Nat} {s1 : Nat} {h : hp_H} {sz sl : Nat} {res : hp_H × Nat × Nat} (hm : f_X0_init_50 n v0 s0 s1 h sz sl = some res) : sz ≤ res.2.1 ∧ sl ≤ res.2.2 := by
  unfold f_X0_init_50 at hm
  obtain ⟨h1, hh1, hm⟩ := hp_bd hm
  exact hp_tr ⟨Nat.le_add_right _ _, Nat.le_add_right _ _⟩ (mo_X0_init_59 hm)
set_option maxHeartbeats 1000000 in
set_option maxRecDepth 4000 in
theorem q_X0_init_50 (G : hp_G) (n : Nat) (v0 : Nat) (s0 : Nat) (s1 : Nat) (h : hp_H) (sz sl : Nat) (res : hp_H × Nat × Nat) (hm : f_X0_init_50 n v0 s0 s1 h sz sl = some res) : hp_V G m_X0_init 50 [(0, .ref v0)] [.ref s0, .ref s1] h sz sl (none, res.1, res.2.1, res.2.2) := by
  have ho := mo_X0_init_50 hm
  unfold f_X0_init_50 at hm
  obtain ⟨h1, hh1, hm⟩ := hp_bd hm
  refine hv_putF lk_f_X0_30 (by intro C T N e; cases e; rfl) rfl dX0_init_50 rfl rfl hh1 ?_
  refine hv_aload_n 0 dX0_init_53 rfl rfl ?_
  refine hv_sipush (200 : Int32) dX0_init_54 (by decide) ?_
  have hq := mo_X0_init_59 hm
  refine hv_newI (N := 200) ac_int (by decide) (by decide) dX0_init_57 hq.1 hq.2 ?_
  exact hv_sub [0] rfl (q_X0_init_59 G n v0 sz v0 (hp_na h1 sz 0 200) (sz + 1) (sl + 200) _ hm)
def f_X0_init_41 (n : Nat) (v0 : Nat) (s0 : Nat) (s1 : Nat) (h : hp_H) (sz sl : Nat) : Option (hp_H × Nat × Nat) :=
  (hp_pF h 0 s1 6 (.ref s0)).bind fun h1 =>
  f_X0_init_50 n v0 sz v0 (hp_na h1 sz 0 200) (sz + 1) (sl + 200)
set_option maxHeartbeats 1000000 in
set_option maxRecDepth 4000 in
theorem mo_X0_init_41 {n : Nat} {v0 : Nat} {s0 : Nat} {s1 : Nat} {h : hp_H} {sz sl : Nat} {res : hp_H × Nat × Nat} (hm : f_X0_init_41 n v0 s0 s1 h sz sl = some res) : sz ≤ res.2.1 ∧ sl ≤ res.2.2 := by
  unfold f_X0_init_41 at hm
  obtain ⟨h1, hh1, hm⟩ := hp_bd hm
  exact hp_tr ⟨Nat.le_add_right _ _, Nat.le_add_right _ _⟩ (mo_X0_init_50 hm)
set_option maxHeartbeats 1000000 in
set_option maxRecDepth 4000 in
theorem q_X0_init_41 (G : hp_G) (n : Nat) (v0 : Nat) (s0 : Nat) (s1 : Nat) (h : hp_H) (sz sl : Nat) (res : hp_H × Nat × Nat) (hm : f_X0_init_41 n v0 s0 s1 h sz sl = some res) : hp_V G m_X0_init 41 [(0, .ref v0)] [.ref s0, .ref s1] h sz sl (none, res.1, res.2.1, res.2.2) := by
  have ho := mo_X0_init_41 hm
  unfold f_X0_init_41 at hm
  obtain ⟨h1, hh1, hm⟩ := hp_bd hm
  refine hv_putF lk_f_X0_26 (by intro C T N e; cases e; rfl) rfl dX0_init_41 rfl rfl hh1 ?_
  refine hv_aload_n 0 dX0_init_44 rfl rfl ?_
  refine hv_sipush (200 : Int32) dX0_init_45 (by decide) ?_
  have hq := mo_X0_init_50 hm
  refine hv_newI (N := 200) ac_int (by decide) (by decide) dX0_init_48 hq.1 hq.2 ?_
  exact hv_sub [0] rfl (q_X0_init_50 G n v0 sz v0 (hp_na h1 sz 0 200) (sz + 1) (sl + 200) _ hm)
def f_X0_init_32 (n : Nat) (v0 : Nat) (s0 : Nat) (s1 : Nat) (h : hp_H) (sz sl : Nat) : Option (hp_H × Nat × Nat) :=
  (hp_pF h 0 s1 4 (.ref s0)).bind fun h1 =>
  f_X0_init_41 n v0 sz v0 (hp_na h1 sz 0 200) (sz + 1) (sl + 200)
set_option maxHeartbeats 1000000 in
set_option maxRecDepth 4000 in
theorem mo_X0_init_32 {n : Nat} {v0 : Nat} {s0 : Nat} {s1 : Nat} {h : hp_H} {sz sl : Nat} {res : hp_H × Nat × Nat} (hm : f_X0_init_32 n v0 s0 s1 h sz sl = some res) : sz ≤ res.2.1 ∧ sl ≤ res.2.2 := by
  unfold f_X0_init_32 at hm
  obtain ⟨h1, hh1, hm⟩ := hp_bd hm
  exact hp_tr ⟨Nat.le_add_right _ _, Nat.le_add_right _ _⟩ (mo_X0_init_41 hm)
set_option maxHeartbeats 1000000 in
set_option maxRecDepth 4000 in
theorem q_X0_init_32 (G : hp_G) (n : Nat) (v0 : Nat) (s0 : Nat) (s1 : Nat) (h : hp_H) (sz sl : Nat) (res : hp_H × Nat × Nat) (hm : f_X0_init_32 n v0 s0 s1 h sz sl = some res) : hp_V G m_X0_init 32 [(0, .ref v0)] [.ref s0, .ref s1] h sz sl (none, res.1, res.2.1, res.2.2) := by
  have ho := mo_X0_init_32 hm
  unfold f_X0_init_32 at hm
  obtain ⟨h1, hh1, hm⟩ := hp_bd hm
  refine hv_putF lk_f_X0_23 (by intro C T N e; cases e; rfl) rfl dX0_init_32 rfl rfl hh1 ?_
  refine hv_aload_n 0 dX0_init_35 rfl rfl ?_
  refine hv_sipush (200 : Int32) dX0_init_36 (by decide) ?_
  have hq := mo_X0_init_41 hm
  refine hv_newI (N := 200) ac_int (by decide) (by decide) dX0_init_39 hq.1 hq.2 ?_
  exact hv_sub [0] rfl (q_X0_init_41 G n v0 sz v0 (hp_na h1 sz 0 200) (sz + 1) (sl + 200) _ hm)
def f_X0_init_12 (n : Nat) (v0 : Nat) (s0 : Nat) (s1 : Nat) (h : hp_H) (sz sl : Nat) : Option (hp_H × Nat × Nat) :=
  (hp_pF h 0 s1 0 (.ref s0)).bind fun h1 =>
  (hp_fR h1 0 v0 0).bind fun x2 =>
  (hp_fR h1 2 x2 0).bind fun x3 =>
  (hp_pF h1 0 v0 1 (.ref x3)).bind fun h4 =>
  f_X0_init_32 n v0 sz v0 (hp_na h4 sz 1 300) (sz + 1) (sl + 300)
set_option maxHeartbeats 1000000 in
set_option maxRecDepth 4000 in
theorem mo_X0_init_12 {n : Nat} {v0 : Nat} {s0 : Nat} {s1 : Nat} {h : hp_H} {sz sl : Nat} {res : hp_H × Nat × Nat} (hm : f_X0_init_12 n v0 s0 s1 h sz sl = some res) : sz ≤ res.2.1 ∧ sl ≤ res.2.2 := by
  unfold f_X0_init_12 at hm
  obtain ⟨h1, hh1, hm⟩ := hp_bd hm
  obtain ⟨x2, hx2, hm⟩ := hp_bd hm
  obtain ⟨x3, hx3, hm⟩ := hp_bd hm
  obtain ⟨h4, hh4, hm⟩ := hp_bd hm
  exact hp_tr ⟨Nat.le_add_right _ _, Nat.le_add_right _ _⟩ (mo_X0_init_32 hm)
set_option maxHeartbeats 1000000 in
set_option maxRecDepth 4000 in
theorem q_X0_init_12 (G : hp_G) (n : Nat) (v0 : Nat) (s0 : Nat) (s1 : Nat) (h : hp_H) (sz sl : Nat) (res : hp_H × Nat × Nat) (hm : f_X0_init_12 n v0 s0 s1 h sz sl = some res) : hp_V G m_X0_init 12 [(0, .ref v0)] [.ref s0, .ref s1] h sz sl (none, res.1, res.2.1, res.2.2) := by
  have ho := mo_X0_init_12 hm
  unfold f_X0_init_12 at hm
  obtain ⟨h1, hh1, hm⟩ := hp_bd hm
  refine hv_putF lk_f_X0_12 (by intro C T N e; cases e; rfl) rfl dX0_init_12 rfl rfl hh1 ?_
  refine hv_aload_n 0 dX0_init_15 rfl rfl ?_
  refine hv_aload_n 0 dX0_init_16 rfl rfl ?_
  obtain ⟨x2, hx2, hm⟩ := hp_bd hm
  refine hv_get lk_f_X0_12 dX0_init_17 (hp_fR_spec hx2) ?_
  obtain ⟨x3, hx3, hm⟩ := hp_bd hm
  refine hv_get lk_f_X0_18 dX0_init_20 (hp_fR_spec hx3) ?_
  obtain ⟨h4, hh4, hm⟩ := hp_bd hm
  refine hv_putF lk_f_X0_22 (by intro C T N e; cases e; rfl) rfl dX0_init_23 rfl rfl hh4 ?_
  refine hv_aload_n 0 dX0_init_26 rfl rfl ?_
  refine hv_sipush (300 : Int32) dX0_init_27 (by decide) ?_
  have hq := mo_X0_init_32 hm
  refine hv_newB (N := 300) ac_byte (by decide) (by decide) dX0_init_30 hq.1 hq.2 ?_
  exact hv_sub [0] rfl (q_X0_init_32 G n v0 sz v0 (hp_na h4 sz 1 300) (sz + 1) (sl + 300) _ hm)
def f_X0_init_8 (n : Nat) (v0 : Nat) (s0 : Nat) (s1 : Nat) (h : hp_H) (sz sl : Nat) : Option (hp_H × Nat × Nat) :=
  (f_X2_init n s0 h sz sl).bind fun x1 =>
  f_X0_init_12 n v0 s0 s1 x1.1 x1.2.1 x1.2.2
set_option maxHeartbeats 1000000 in
set_option maxRecDepth 4000 in
theorem mo_X0_init_8 {n : Nat} {v0 : Nat} {s0 : Nat} {s1 : Nat} {h : hp_H} {sz sl : Nat} {res : hp_H × Nat × Nat} (hm : f_X0_init_8 n v0 s0 s1 h sz sl = some res) : sz ≤ res.2.1 ∧ sl ≤ res.2.2 := by
  unfold f_X0_init_8 at hm
  obtain ⟨x1, hx1, hm⟩ := hp_bd hm
  exact hp_tr (mx_X2_init hx1) (mo_X0_init_12 hm)
set_option maxHeartbeats 1000000 in
set_option maxRecDepth 4000 in
theorem q_X0_init_8 (G : hp_G) (n : Nat) (v0 : Nat) (s0 : Nat) (s1 : Nat) (h : hp_H) (sz sl : Nat) (res : hp_H × Nat × Nat) (hm : f_X0_init_8 n v0 s0 s1 h sz sl = some res) : hp_V G m_X0_init 8 [(0, .ref v0)] [.ref s0, .ref s1] h sz sl (none, res.1, res.2.1, res.2.2) := by
  have ho := mo_X0_init_8 hm
  unfold f_X0_init_8 at hm
  refine hv_dup dX0_init_8 rfl ?_
  obtain ⟨x1, hx1, hm⟩ := hp_bd hm
  have hq := mo_X0_init_12 hm
  refine hv_callI (As := []) (rest := [.ref s0, .ref s1]) Z_X2_init rfl I_X2_init lk_m_X0_11 (c_X2_init G n s0 h sz sl _ hx1) rfl (Nat.le_of_ble_eq_true rfl) ⟨Nat.le_of_ble_eq_true rfl, Nat.le_of_ble_eq_true rfl⟩ hq.1 hq.2 rfl dX0_init_9 ?_
  refine hv_as2 [.ref s0, .ref s1] x1.1 x1.2.1 x1.2.2 rfl rfl rfl rfl ?_
  exact hv_sub [0] rfl (q_X0_init_12 G n v0 s0 s1 x1.1 x1.2.1 x1.2.2 _ hm)
def f_X0_init_0 (n : Nat) (v0 : Nat) (h : hp_H) (sz sl : Nat) : Option (hp_H × Nat × Nat) :=
  f_X0_init_8 n v0 sz v0 (hp_nw h sz 2 tyX2) (sz + 1) (sl + 5)
set_option maxHeartbeats 1000000 in
set_option maxRecDepth 4000 in
theorem mo_X0_init_0 {n : Nat} {v0 : Nat} {h : hp_H} {sz sl : Nat} {res : hp_H × Nat × Nat} (hm : f_X0_init_0 n v0 h sz sl = some res) : sz ≤ res.2.1 ∧ sl ≤ res.2.2 := by
  unfold f_X0_init_0 at hm
  exact hp_tr ⟨Nat.le_add_right _ _, Nat.le_add_right _ _⟩ (mo_X0_init_8 hm)
set_option maxHeartbeats 1000000 in
set_option maxRecDepth 4000 in
theorem q_X0_init_0 (G : hp_G) (n : Nat) (v0 : Nat) (h : hp_H) (sz sl : Nat) (res : hp_H × Nat × Nat) (hm : f_X0_init_0 n v0 h sz sl = some res) : hp_V G m_X0_init 0 [(0, .ref v0)] [] h sz sl (none, res.1, res.2.1, res.2.2) := by
  have ho := mo_X0_init_0 hm
  unfold f_X0_init_0 at hm
  refine hv_aload_n 0 dX0_init_0 rfl rfl ?_
  refine hv_objInit lk_o_X0_3 ⟨Nat.le_of_ble_eq_true rfl, Nat.le_of_ble_eq_true rfl⟩ dX0_init_1 ?_
  refine hv_aload_n 0 dX0_init_4 rfl rfl ?_
  have hq := mo_X0_init_8 hm
  refine hv_new CL2 lk_k_X0_9 dX0_init_5 hq.1 hq.2 ?_
  exact hv_sub [0] rfl (q_X0_init_8 G n v0 sz v0 (hp_nw h sz 2 tyX2) (sz + 1) (sl + 5) _ hm)
def f_X0_init (n : Nat) (v0 : Nat) (h : hp_H) (sz sl : Nat) : Option (hp_H × Nat × Nat) := (hp_ck h 0 v0).bind fun _ => f_X0_init_0 n v0 h sz sl
theorem c_X0_init (G : hp_G) (n : Nat) (v0 : Nat) (h : hp_H) (sz sl : Nat) (res : hp_H × Nat × Nat) (hm : f_X0_init n v0 h sz sl = some res) : hp_C G m_X0_init yX0_init [.ref v0] h sz sl (none, res.1, res.2.1, res.2.2) := by
  unfold f_X0_init at hm
  obtain ⟨_, _, hm⟩ := hp_bd hm
  exact hp_C_of (by decide) rfl rfl (Nat.le_of_ble_eq_true rfl) (mo_X0_init_0 hm).1 (mo_X0_init_0 hm).2 (hv_sub [0] rfl (q_X0_init_0 G n v0 h sz sl res hm))
theorem k_X0_init {n : Nat} {v0 : Nat} {h : hp_H} {sz sl : Nat} {res : hp_H × Nat × Nat} (hm : f_X0_init n v0 h sz sl = some res) : ∃ V, h v0 = some (.inr (.inr (0, V))) := by
  unfold f_X0_init at hm
  obtain ⟨_, hu, _⟩ := hp_bd hm
  exact hp_ck_spec hu
theorem mx_X0_init {n : Nat} {v0 : Nat} {h : hp_H} {sz sl : Nat} {res : hp_H × Nat × Nat} (hm : f_X0_init n v0 h sz sl = some res) : sz ≤ res.2.1 ∧ sl ≤ res.2.2 := by
  unfold f_X0_init at hm
  obtain ⟨_, _, hm⟩ := hp_bd hm
  exact mo_X0_init_0 hm
abbrev m_X0_clear : hp_M := (RX0, cX0_clear, 1, none, 2, 43, "clear")
theorem Z_X0_clear : hp_Y yX0_clear m_X0_clear 0 := Y_X0_clear
def f_X0_clear_0 (n : Nat) (v0 : Nat) (h : hp_H) : Option (hp_H) :=
  (hp_fR h 0 v0 0).bind fun x1 =>
  (f_X2_clear n x1 h).bind fun x2 =>
  (hp_pF x2 0 v0 3 (.int (0 : Int32))).bind fun h3 =>
  (hp_pF h3 0 v0 5 (.int (0 : Int32))).bind fun h4 =>
  (hp_fR h4 0 v0 9).bind fun x5 =>
  (f_X5_clear n x5 h4).bind fun x6 =>
  (hp_fR x6 0 v0 10).bind fun x7 =>
  (f_X5_clear n x7 x6).bind fun x8 =>
  (hp_fR x8 0 v0 11).bind fun x9 =>
  (f_X5_clear n x9 x8).bind fun x10 =>
  (hp_fR x10 0 v0 12).bind fun x11 =>
  (f_X5_clear n x11 x10).bind fun x12 =>
  (hp_fR x12 0 v0 13).bind fun x13 =>
  (f_X5_clear n x13 x12).bind fun x14 =>
  (hp_fR x14 0 v0 14).bind fun x15 =>
  (f_X5_clear n x15 x14).bind fun x16 =>
  some x16
set_option maxHeartbeats 1000000 in
set_option maxRecDepth 4000 in
theorem q_X0_clear_0 (G : hp_G) (n : Nat) (v0 : Nat) (h : hp_H) (sz sl : Nat) (res : hp_H) (hm : f_X0_clear_0 n v0 h = some res) : hp_V G m_X0_clear 0 [(0, .ref v0)] [] h sz sl (none, res, sz, sl) := by
  have ho : sz ≤ sz ∧ sl ≤ sl := ⟨Nat.le_refl _, Nat.le_refl _⟩
  unfold f_X0_clear_0 at hm
  refine hv_aload_n 0 dX0_clear_0 rfl rfl ?_
  obtain ⟨x1, hx1, hm⟩ := hp_bd hm
  refine hv_get lk_f_X0_12 dX0_clear_1 (hp_fR_spec hx1) ?_
  obtain ⟨x2, hx2, hm⟩ := hp_bd hm
  obtain ⟨Vx2, hVx2⟩ := k_X2_clear hx2
  refine hv_callV (As := []) (rest := []) Z_X2_clear I_X2_clear lk_m_X0_70 rfl hVx2 (c_X2_clear G n x1 h sz sl _ hx2) rfl (Nat.le_of_ble_eq_true rfl) ⟨Nat.le_of_ble_eq_true rfl, Nat.le_of_ble_eq_true rfl⟩ ho.1 ho.2 rfl dX0_clear_4 ?_
  refine hv_as [] x2 rfl rfl ?_
  refine hv_aload_n 0 dX0_clear_7 rfl rfl ?_
  refine hv_iconst (0 : Int32) dX0_clear_8 (by decide) ?_
  obtain ⟨h3, hh3, hm⟩ := hp_bd hm
  refine hv_put lk_f_X0_73 dX0_clear_9 rfl rfl hh3 ?_
  refine hv_aload_n 0 dX0_clear_12 rfl rfl ?_
  refine hv_iconst (0 : Int32) dX0_clear_13 (by decide) ?_
  obtain ⟨h4, hh4, hm⟩ := hp_bd hm
  refine hv_put lk_f_X0_77 dX0_clear_14 rfl rfl hh4 ?_
  refine hv_aload_n 0 dX0_clear_17 rfl rfl ?_
  obtain ⟨x5, hx5, hm⟩ := hp_bd hm
  refine hv_get lk_f_X0_41 dX0_clear_18 (hp_fR_spec hx5) ?_
  obtain ⟨x6, hx6, hm⟩ := hp_bd hm
  obtain ⟨Vx6, hVx6⟩ := k_X5_clear hx6
  refine hv_callV (As := []) (rest := []) Z_X5_clear I_X5_clear lk_m_X0_80 rfl hVx6 (c_X5_clear G n x5 h4 sz sl _ hx6) rfl (Nat.le_of_ble_eq_true rfl) ⟨Nat.le_of_ble_eq_true rfl, Nat.le_of_ble_eq_true rfl⟩ ho.1 ho.2 rfl dX0_clear_21 ?_
  refine hv_as [] x6 rfl rfl ?_
  refine hv_aload_n 0 dX0_clear_24 rfl rfl ?_
  obtain ⟨x7, hx7, hm⟩ := hp_bd hm
  refine hv_get lk_f_X0_45 dX0_clear_25 (hp_fR_spec hx7) ?_
  obtain ⟨x8, hx8, hm⟩ := hp_bd hm
  obtain ⟨Vx8, hVx8⟩ := k_X5_clear hx8
  refine hv_callV (As := []) (rest := []) Z_X5_clear I_X5_clear lk_m_X0_80 rfl hVx8 (c_X5_clear G n x7 x6 sz sl _ hx8) rfl (Nat.le_of_ble_eq_true rfl) ⟨Nat.le_of_ble_eq_true rfl, Nat.le_of_ble_eq_true rfl⟩ ho.1 ho.2 rfl dX0_clear_28 ?_
  refine hv_as [] x8 rfl rfl ?_
  refine hv_aload_n 0 dX0_clear_31 rfl rfl ?_
  obtain ⟨x9, hx9, hm⟩ := hp_bd hm
  refine hv_get lk_f_X0_48 dX0_clear_32 (hp_fR_spec hx9) ?_
  obtain ⟨x10, hx10, hm⟩ := hp_bd hm
  obtain ⟨Vx10, hVx10⟩ := k_X5_clear hx10
  refine hv_callV (As := []) (rest := []) Z_X5_clear I_X5_clear lk_m_X0_80 rfl hVx10 (c_X5_clear G n x9 x8 sz sl _ hx10) rfl (Nat.le_of_ble_eq_true rfl) ⟨Nat.le_of_ble_eq_true rfl, Nat.le_of_ble_eq_true rfl⟩ ho.1 ho.2 rfl dX0_clear_35 ?_
  refine hv_as [] x10 rfl rfl ?_
  refine hv_aload_n 0 dX0_clear_38 rfl rfl ?_
  obtain ⟨x11, hx11, hm⟩ := hp_bd hm
  refine hv_get lk_f_X0_51 dX0_clear_39 (hp_fR_spec hx11) ?_
  obtain ⟨x12, hx12, hm⟩ := hp_bd hm
  obtain ⟨Vx12, hVx12⟩ := k_X5_clear hx12
  refine hv_callV (As := []) (rest := []) Z_X5_clear I_X5_clear lk_m_X0_80 rfl hVx12 (c_X5_clear G n x11 x10 sz sl _ hx12) rfl (Nat.le_of_ble_eq_true rfl) ⟨Nat.le_of_ble_eq_true rfl, Nat.le_of_ble_eq_true rfl⟩ ho.1 ho.2 rfl dX0_clear_42 ?_
  refine hv_as [] x12 rfl rfl ?_
  refine hv_aload_n 0 dX0_clear_45 rfl rfl ?_
  obtain ⟨x13, hx13, hm⟩ := hp_bd hm
  refine hv_get lk_f_X0_54 dX0_clear_46 (hp_fR_spec hx13) ?_
  obtain ⟨x14, hx14, hm⟩ := hp_bd hm
  obtain ⟨Vx14, hVx14⟩ := k_X5_clear hx14
  refine hv_callV (As := []) (rest := []) Z_X5_clear I_X5_clear lk_m_X0_80 rfl hVx14 (c_X5_clear G n x13 x12 sz sl _ hx14) rfl (Nat.le_of_ble_eq_true rfl) ⟨Nat.le_of_ble_eq_true rfl, Nat.le_of_ble_eq_true rfl⟩ ho.1 ho.2 rfl dX0_clear_49 ?_
  refine hv_as [] x14 rfl rfl ?_
  refine hv_aload_n 0 dX0_clear_52 rfl rfl ?_
  obtain ⟨x15, hx15, hm⟩ := hp_bd hm
  refine hv_get lk_f_X0_57 dX0_clear_53 (hp_fR_spec hx15) ?_
  obtain ⟨x16, hx16, hm⟩ := hp_bd hm
  obtain ⟨Vx16, hVx16⟩ := k_X5_clear hx16
  refine hv_callV (As := []) (rest := []) Z_X5_clear I_X5_clear lk_m_X0_80 rfl hVx16 (c_X5_clear G n x15 x14 sz sl _ hx16) rfl (Nat.le_of_ble_eq_true rfl) ⟨Nat.le_of_ble_eq_true rfl, Nat.le_of_ble_eq_true rfl⟩ ho.1 ho.2 rfl dX0_clear_56 ?_
  refine hv_as [] x16 rfl rfl ?_
  obtain rfl := Option.some.inj hm
  exact hv_vret rfl dX0_clear_59
def f_X0_clear (n : Nat) (v0 : Nat) (h : hp_H) : Option (hp_H) := (hp_ck h 0 v0).bind fun _ => f_X0_clear_0 n v0 h
theorem c_X0_clear (G : hp_G) (n : Nat) (v0 : Nat) (h : hp_H) (sz sl : Nat) (res : hp_H) (hm : f_X0_clear n v0 h = some res) : hp_C G m_X0_clear yX0_clear [.ref v0] h sz sl (none, res, sz, sl) := by
  unfold f_X0_clear at hm
  obtain ⟨_, _, hm⟩ := hp_bd hm
  exact hp_C_of (by decide) rfl rfl (Nat.le_of_ble_eq_true rfl) (Nat.le_refl _) (Nat.le_refl _) (hv_sub [0] rfl (q_X0_clear_0 G n v0 h sz sl res hm))
theorem k_X0_clear {n : Nat} {v0 : Nat} {h : hp_H} {res : hp_H} (hm : f_X0_clear n v0 h = some res) : ∃ V, h v0 = some (.inr (.inr (0, V))) := by
  unfold f_X0_clear at hm
  obtain ⟨_, hu, _⟩ := hp_bd hm
  exact hp_ck_spec hu
abbrev m_X0_isStatement : hp_M := (RX0, cX0_isStatement, 2, some .boolean, 0, 0, "isStatement")
theorem Z_X0_isStatement : hp_Y yX0_isStatement m_X0_isStatement 1 := Y_X0_isStatement
def f_X0_isStatement_0 (n : Nat) (v0 : Nat) (v1 : Int32) (h : hp_H) : Option (Int32) :=
  if v1 < 0 then
    some (0 : Int32)
  else
    (hp_fI h 0 v0 5).bind fun x1 =>
    if x1 ≤ v1 then
      some (0 : Int32)
    else
      some (1 : Int32)
set_option maxHeartbeats 1000000 in
set_option maxRecDepth 4000 in
theorem q_X0_isStatement_0 (G : hp_G) (n : Nat) (v0 : Nat) (v1 : Int32) (h : hp_H) (sz sl : Nat) (res : Int32) (hm : f_X0_isStatement_0 n v0 v1 h = some res) : hp_V G m_X0_isStatement 0 [(0, .ref v0), (1, .int v1)] [] h sz sl (some (.int res), h, sz, sl) := by
  have ho : sz ≤ sz ∧ sl ≤ sl := ⟨Nat.le_refl _, Nat.le_refl _⟩
  unfold f_X0_isStatement_0 at hm
  refine hv_iload_n 1 dX0_isStatement_0 rfl rfl ?_
  refine hv_if_lt (tgt := 16) dX0_isStatement_1 (by decide) (fun c3 => ?_) (fun c3 => ?_)
  · rw [if_pos c3] at hm
    refine hv_iconst (0 : Int32) dX0_isStatement_16 (by decide) ?_
    obtain rfl := Option.some.inj hm
    exact hv_zret rfl (by decide) dX0_isStatement_17
  · rw [if_neg c3] at hm
    refine hv_iload_n 1 dX0_isStatement_4 rfl rfl ?_
    refine hv_aload_n 0 dX0_isStatement_5 rfl rfl ?_
    obtain ⟨x1, hx1, hm⟩ := hp_bd hm
    refine hv_get lk_f_X0_77 dX0_isStatement_6 (hp_fI_spec hx1) ?_
    refine hv_icmp_ge (tgt := 16) dX0_isStatement_9 (by decide) (fun c2 => ?_) (fun c2 => ?_)
    · rw [if_pos c2] at hm
      refine hv_iconst (0 : Int32) dX0_isStatement_16 (by decide) ?_
      obtain rfl := Option.some.inj hm
      exact hv_zret rfl (by decide) dX0_isStatement_17
    · rw [if_neg c2] at hm
      refine hv_iconst (1 : Int32) dX0_isStatement_12 (by decide) ?_
      refine hv_goto (tgt := 17) dX0_isStatement_13 (by decide) ?_
      obtain rfl := Option.some.inj hm
      exact hv_zret rfl (by decide) dX0_isStatement_17
def f_X0_isStatement (n : Nat) (v0 : Nat) (v1 : Int32) (h : hp_H) : Option (Int32) := (hp_ck h 0 v0).bind fun _ => f_X0_isStatement_0 n v0 v1 h
theorem c_X0_isStatement (G : hp_G) (n : Nat) (v0 : Nat) (v1 : Int32) (h : hp_H) (sz sl : Nat) (res : Int32) (hm : f_X0_isStatement n v0 v1 h = some res) : hp_C G m_X0_isStatement yX0_isStatement [.ref v0, .int v1] h sz sl (some (.int res), h, sz, sl) := by
  unfold f_X0_isStatement at hm
  obtain ⟨_, _, hm⟩ := hp_bd hm
  exact hp_C_of (by decide) rfl rfl (Nat.le_of_ble_eq_true rfl) (Nat.le_refl _) (Nat.le_refl _) (hv_sub [0, 1] rfl (q_X0_isStatement_0 G n v0 v1 h sz sl res hm))
theorem k_X0_isStatement {n : Nat} {v0 : Nat} {v1 : Int32} {h : hp_H} {res : Int32} (hm : f_X0_isStatement n v0 v1 h = some res) : ∃ V, h v0 = some (.inr (.inr (0, V))) := by
  unfold f_X0_isStatement at hm
  obtain ⟨_, hu, _⟩ := hp_bd hm
  exact hp_ck_spec hu
abbrev m_X0_isAssertion : hp_M := (RX0, cX0_isAssertion, 2, some .boolean, 1, 21, "isAssertion")
theorem Z_X0_isAssertion : hp_Y yX0_isAssertion m_X0_isAssertion 1 := Y_X0_isAssertion
def f_X0_isAssertion_0 (n : Nat) (v0 : Nat) (v1 : Int32) (h : hp_H) : Option (Int32) :=
  (f_X0_isStatement n v0 v1 h).bind fun x1 =>
  if x1 = 0 then
    some (0 : Int32)
  else
    (hp_fR h 0 v0 6).bind fun x2 =>
    (hp_aI h 0 x2 v1).bind fun x3 =>
    if x3 < (2 : Int32) then
      some (0 : Int32)
    else
      some (1 : Int32)
set_option maxHeartbeats 1000000 in
set_option maxRecDepth 4000 in
theorem q_X0_isAssertion_0 (G : hp_G) (n : Nat) (v0 : Nat) (v1 : Int32) (h : hp_H) (sz sl : Nat) (res : Int32) (hm : f_X0_isAssertion_0 n v0 v1 h = some res) : hp_V G m_X0_isAssertion 0 [(0, .ref v0), (1, .int v1)] [] h sz sl (some (.int res), h, sz, sl) := by
  have ho : sz ≤ sz ∧ sl ≤ sl := ⟨Nat.le_refl _, Nat.le_refl _⟩
  unfold f_X0_isAssertion_0 at hm
  refine hv_aload_n 0 dX0_isAssertion_0 rfl rfl ?_
  refine hv_iload_n 1 dX0_isAssertion_1 rfl rfl ?_
  obtain ⟨x1, hx1, hm⟩ := hp_bd hm
  obtain ⟨Vx1, hVx1⟩ := k_X0_isStatement hx1
  refine hv_callV (As := [.int v1]) (rest := []) Z_X0_isStatement I_X0_isStatement lk_m_X0_81 rfl hVx1 (c_X0_isStatement G n v0 v1 h sz sl _ hx1) rfl (Nat.le_of_ble_eq_true rfl) ⟨Nat.le_of_ble_eq_true rfl, Nat.le_of_ble_eq_true rfl⟩ ho.1 ho.2 rfl dX0_isAssertion_2 ?_
  refine hv_as [.int x1] h rfl rfl ?_
  refine hv_if_eq (tgt := 22) dX0_isAssertion_5 (by decide) (fun c5 => ?_) (fun c5 => ?_)
  · rw [if_pos c5] at hm
    refine hv_iconst (0 : Int32) dX0_isAssertion_22 (by decide) ?_
    obtain rfl := Option.some.inj hm
    exact hv_zret rfl (by decide) dX0_isAssertion_23
  · rw [if_neg c5] at hm
    refine hv_aload_n 0 dX0_isAssertion_8 rfl rfl ?_
    obtain ⟨x2, hx2, hm⟩ := hp_bd hm
    refine hv_get lk_f_X0_26 dX0_isAssertion_9 (hp_fR_spec hx2) ?_
    refine hv_iload_n 1 dX0_isAssertion_12 rfl rfl ?_
    obtain ⟨x3, hx3, hm⟩ := hp_bd hm
    refine hv_iald dX0_isAssertion_13 hx3 ?_
    refine hv_iconst (2 : Int32) dX0_isAssertion_14 (by decide) ?_
    refine hv_icmp_lt (tgt := 22) dX0_isAssertion_15 (by decide) (fun c4 => ?_) (fun c4 => ?_)
    · rw [if_pos c4] at hm
      refine hv_iconst (0 : Int32) dX0_isAssertion_22 (by decide) ?_
      obtain rfl := Option.some.inj hm
      exact hv_zret rfl (by decide) dX0_isAssertion_23
    · rw [if_neg c4] at hm
      refine hv_iconst (1 : Int32) dX0_isAssertion_18 (by decide) ?_
      refine hv_goto (tgt := 23) dX0_isAssertion_19 (by decide) ?_
      obtain rfl := Option.some.inj hm
      exact hv_zret rfl (by decide) dX0_isAssertion_23
def f_X0_isAssertion (n : Nat) (v0 : Nat) (v1 : Int32) (h : hp_H) : Option (Int32) := (hp_ck h 0 v0).bind fun _ => f_X0_isAssertion_0 n v0 v1 h
theorem c_X0_isAssertion (G : hp_G) (n : Nat) (v0 : Nat) (v1 : Int32) (h : hp_H) (sz sl : Nat) (res : Int32) (hm : f_X0_isAssertion n v0 v1 h = some res) : hp_C G m_X0_isAssertion yX0_isAssertion [.ref v0, .int v1] h sz sl (some (.int res), h, sz, sl) := by
  unfold f_X0_isAssertion at hm
  obtain ⟨_, _, hm⟩ := hp_bd hm
  exact hp_C_of (by decide) rfl rfl (Nat.le_of_ble_eq_true rfl) (Nat.le_refl _) (Nat.le_refl _) (hv_sub [0, 1] rfl (q_X0_isAssertion_0 G n v0 v1 h sz sl res hm))
theorem k_X0_isAssertion {n : Nat} {v0 : Nat} {v1 : Int32} {h : hp_H} {res : Int32} (hm : f_X0_isAssertion n v0 v1 h = some res) : ∃ V, h v0 = some (.inr (.inr (0, V))) := by
  unfold f_X0_isAssertion at hm
  obtain ⟨_, hu, _⟩ := hp_bd hm
  exact hp_ck_spec hu
abbrev m_X0_isProvable : hp_M := (RX0, cX0_isProvable, 2, some .boolean, 1, 21, "isProvable")
theorem Z_X0_isProvable : hp_Y yX0_isProvable m_X0_isProvable 1 := Y_X0_isProvable
def f_X0_isProvable_0 (n : Nat) (v0 : Nat) (v1 : Int32) (h : hp_H) : Option (Int32) :=
  (f_X0_isStatement n v0 v1 h).bind fun x1 =>
  if x1 = 0 then
    some (0 : Int32)
  else
    (hp_fR h 0 v0 6).bind fun x2 =>
    (hp_aI h 0 x2 v1).bind fun x3 =>
    if x3 = (3 : Int32) then
      some (1 : Int32)
    else
      some (0 : Int32)
set_option maxHeartbeats 1000000 in
set_option maxRecDepth 4000 in
theorem q_X0_isProvable_0 (G : hp_G) (n : Nat) (v0 : Nat) (v1 : Int32) (h : hp_H) (sz sl : Nat) (res : Int32) (hm : f_X0_isProvable_0 n v0 v1 h = some res) : hp_V G m_X0_isProvable 0 [(0, .ref v0), (1, .int v1)] [] h sz sl (some (.int res), h, sz, sl) := by
  have ho : sz ≤ sz ∧ sl ≤ sl := ⟨Nat.le_refl _, Nat.le_refl _⟩
  unfold f_X0_isProvable_0 at hm
  refine hv_aload_n 0 dX0_isProvable_0 rfl rfl ?_
  refine hv_iload_n 1 dX0_isProvable_1 rfl rfl ?_
  obtain ⟨x1, hx1, hm⟩ := hp_bd hm
  obtain ⟨Vx1, hVx1⟩ := k_X0_isStatement hx1
  refine hv_callV (As := [.int v1]) (rest := []) Z_X0_isStatement I_X0_isStatement lk_m_X0_81 rfl hVx1 (c_X0_isStatement G n v0 v1 h sz sl _ hx1) rfl (Nat.le_of_ble_eq_true rfl) ⟨Nat.le_of_ble_eq_true rfl, Nat.le_of_ble_eq_true rfl⟩ ho.1 ho.2 rfl dX0_isProvable_2 ?_
  refine hv_as [.int x1] h rfl rfl ?_
  refine hv_if_eq (tgt := 22) dX0_isProvable_5 (by decide) (fun c5 => ?_) (fun c5 => ?_)
  · rw [if_pos c5] at hm
    refine hv_iconst (0 : Int32) dX0_isProvable_22 (by decide) ?_
    obtain rfl := Option.some.inj hm
    exact hv_zret rfl (by decide) dX0_isProvable_23
  · rw [if_neg c5] at hm
    refine hv_aload_n 0 dX0_isProvable_8 rfl rfl ?_
    obtain ⟨x2, hx2, hm⟩ := hp_bd hm
    refine hv_get lk_f_X0_26 dX0_isProvable_9 (hp_fR_spec hx2) ?_
    refine hv_iload_n 1 dX0_isProvable_12 rfl rfl ?_
    obtain ⟨x3, hx3, hm⟩ := hp_bd hm
    refine hv_iald dX0_isProvable_13 hx3 ?_
    refine hv_iconst (3 : Int32) dX0_isProvable_14 (by decide) ?_
    refine hv_icmp_ne (tgt := 22) dX0_isProvable_15 (by decide) (fun c4 => ?_) (fun c4 => ?_)
    · rw [if_neg c4] at hm
      refine hv_iconst (0 : Int32) dX0_isProvable_22 (by decide) ?_
      obtain rfl := Option.some.inj hm
      exact hv_zret rfl (by decide) dX0_isProvable_23
    · rw [if_pos c4] at hm
      refine hv_iconst (1 : Int32) dX0_isProvable_18 (by decide) ?_
      refine hv_goto (tgt := 23) dX0_isProvable_19 (by decide) ?_
      obtain rfl := Option.some.inj hm
      exact hv_zret rfl (by decide) dX0_isProvable_23
def f_X0_isProvable (n : Nat) (v0 : Nat) (v1 : Int32) (h : hp_H) : Option (Int32) := (hp_ck h 0 v0).bind fun _ => f_X0_isProvable_0 n v0 v1 h
theorem c_X0_isProvable (G : hp_G) (n : Nat) (v0 : Nat) (v1 : Int32) (h : hp_H) (sz sl : Nat) (res : Int32) (hm : f_X0_isProvable n v0 v1 h = some res) : hp_C G m_X0_isProvable yX0_isProvable [.ref v0, .int v1] h sz sl (some (.int res), h, sz, sl) := by
  unfold f_X0_isProvable at hm
  obtain ⟨_, _, hm⟩ := hp_bd hm
  exact hp_C_of (by decide) rfl rfl (Nat.le_of_ble_eq_true rfl) (Nat.le_refl _) (Nat.le_refl _) (hv_sub [0, 1] rfl (q_X0_isProvable_0 G n v0 v1 h sz sl res hm))
theorem k_X0_isProvable {n : Nat} {v0 : Nat} {v1 : Int32} {h : hp_H} {res : Int32} (hm : f_X0_isProvable n v0 v1 h = some res) : ∃ V, h v0 = some (.inr (.inr (0, V))) := by
  unfold f_X0_isProvable at hm
  obtain ⟨_, hu, _⟩ := hp_bd hm
  exact hp_ck_spec hu
abbrev m_X0_isVariable : hp_M := (RX0, cX0_isVariable, 2, some .boolean, 0, 0, "isVariable")
theorem Z_X0_isVariable : hp_Y yX0_isVariable m_X0_isVariable 1 := Y_X0_isVariable
def f_X0_isVariable_0 (n : Nat) (v0 : Nat) (v1 : Int32) (h : hp_H) : Option (Int32) :=
  if v1 < 0 then
    some (0 : Int32)
  else
    (hp_fI h 0 v0 3).bind fun x1 =>
    if x1 ≤ v1 then
      some (0 : Int32)
    else
      (hp_fR h 0 v0 4).bind fun x2 =>
      (hp_aI h 1 x2 v1).bind fun x3 =>
      if x3 = 0 then
        some (0 : Int32)
      else
        some (1 : Int32)
set_option maxHeartbeats 1000000 in
set_option maxRecDepth 4000 in
theorem q_X0_isVariable_0 (G : hp_G) (n : Nat) (v0 : Nat) (v1 : Int32) (h : hp_H) (sz sl : Nat) (res : Int32) (hm : f_X0_isVariable_0 n v0 v1 h = some res) : hp_V G m_X0_isVariable 0 [(0, .ref v0), (1, .int v1)] [] h sz sl (some (.int res), h, sz, sl) := by
  have ho : sz ≤ sz ∧ sl ≤ sl := ⟨Nat.le_refl _, Nat.le_refl _⟩
  unfold f_X0_isVariable_0 at hm
  refine hv_iload_n 1 dX0_isVariable_0 rfl rfl ?_
  refine hv_if_lt (tgt := 25) dX0_isVariable_1 (by decide) (fun c6 => ?_) (fun c6 => ?_)
  · rw [if_pos c6] at hm
    refine hv_iconst (0 : Int32) dX0_isVariable_25 (by decide) ?_
    obtain rfl := Option.some.inj hm
    exact hv_zret rfl (by decide) dX0_isVariable_26
  · rw [if_neg c6] at hm
    refine hv_iload_n 1 dX0_isVariable_4 rfl rfl ?_
    refine hv_aload_n 0 dX0_isVariable_5 rfl rfl ?_
    obtain ⟨x1, hx1, hm⟩ := hp_bd hm
    refine hv_get lk_f_X0_73 dX0_isVariable_6 (hp_fI_spec hx1) ?_
    refine hv_icmp_ge (tgt := 25) dX0_isVariable_9 (by decide) (fun c5 => ?_) (fun c5 => ?_)
    · rw [if_pos c5] at hm
      refine hv_iconst (0 : Int32) dX0_isVariable_25 (by decide) ?_
      obtain rfl := Option.some.inj hm
      exact hv_zret rfl (by decide) dX0_isVariable_26
    · rw [if_neg c5] at hm
      refine hv_aload_n 0 dX0_isVariable_12 rfl rfl ?_
      obtain ⟨x2, hx2, hm⟩ := hp_bd hm
      refine hv_get lk_f_X0_23 dX0_isVariable_13 (hp_fR_spec hx2) ?_
      refine hv_iload_n 1 dX0_isVariable_16 rfl rfl ?_
      obtain ⟨x3, hx3, hm⟩ := hp_bd hm
      refine hv_bald dX0_isVariable_17 hx3 ?_
      refine hv_if_eq (tgt := 25) dX0_isVariable_18 (by decide) (fun c4 => ?_) (fun c4 => ?_)
      · rw [if_pos c4] at hm
        refine hv_iconst (0 : Int32) dX0_isVariable_25 (by decide) ?_
        obtain rfl := Option.some.inj hm
        exact hv_zret rfl (by decide) dX0_isVariable_26
      · rw [if_neg c4] at hm
        refine hv_iconst (1 : Int32) dX0_isVariable_21 (by decide) ?_
        refine hv_goto (tgt := 26) dX0_isVariable_22 (by decide) ?_
        obtain rfl := Option.some.inj hm
        exact hv_zret rfl (by decide) dX0_isVariable_26
def f_X0_isVariable (n : Nat) (v0 : Nat) (v1 : Int32) (h : hp_H) : Option (Int32) := (hp_ck h 0 v0).bind fun _ => f_X0_isVariable_0 n v0 v1 h
theorem c_X0_isVariable (G : hp_G) (n : Nat) (v0 : Nat) (v1 : Int32) (h : hp_H) (sz sl : Nat) (res : Int32) (hm : f_X0_isVariable n v0 v1 h = some res) : hp_C G m_X0_isVariable yX0_isVariable [.ref v0, .int v1] h sz sl (some (.int res), h, sz, sl) := by
  unfold f_X0_isVariable at hm
  obtain ⟨_, _, hm⟩ := hp_bd hm
  exact hp_C_of (by decide) rfl rfl (Nat.le_of_ble_eq_true rfl) (Nat.le_refl _) (Nat.le_refl _) (hv_sub [0, 1] rfl (q_X0_isVariable_0 G n v0 v1 h sz sl res hm))
theorem k_X0_isVariable {n : Nat} {v0 : Nat} {v1 : Int32} {h : hp_H} {res : Int32} (hm : f_X0_isVariable n v0 v1 h = some res) : ∃ V, h v0 = some (.inr (.inr (0, V))) := by
  unfold f_X0_isVariable at hm
  obtain ⟨_, hu, _⟩ := hp_bd hm
  exact hp_ck_spec hu
abbrev m_X0_isConstant : hp_M := (RX0, cX0_isConstant, 2, some .boolean, 0, 0, "isConstant")
theorem Z_X0_isConstant : hp_Y yX0_isConstant m_X0_isConstant 1 := Y_X0_isConstant
def f_X0_isConstant_0 (n : Nat) (v0 : Nat) (v1 : Int32) (h : hp_H) : Option (Int32) :=
  if v1 < 0 then
    some (0 : Int32)
  else
    (hp_fI h 0 v0 3).bind fun x1 =>
    if x1 ≤ v1 then
      some (0 : Int32)
    else
      (hp_fR h 0 v0 4).bind fun x2 =>
      (hp_aI h 1 x2 v1).bind fun x3 =>
      if x3 = 0 then
        some (1 : Int32)
      else
        some (0 : Int32)
set_option maxHeartbeats 1000000 in
set_option maxRecDepth 4000 in
theorem q_X0_isConstant_0 (G : hp_G) (n : Nat) (v0 : Nat) (v1 : Int32) (h : hp_H) (sz sl : Nat) (res : Int32) (hm : f_X0_isConstant_0 n v0 v1 h = some res) : hp_V G m_X0_isConstant 0 [(0, .ref v0), (1, .int v1)] [] h sz sl (some (.int res), h, sz, sl) := by
  have ho : sz ≤ sz ∧ sl ≤ sl := ⟨Nat.le_refl _, Nat.le_refl _⟩
  unfold f_X0_isConstant_0 at hm
  refine hv_iload_n 1 dX0_isConstant_0 rfl rfl ?_
  refine hv_if_lt (tgt := 25) dX0_isConstant_1 (by decide) (fun c6 => ?_) (fun c6 => ?_)
  · rw [if_pos c6] at hm
    refine hv_iconst (0 : Int32) dX0_isConstant_25 (by decide) ?_
    obtain rfl := Option.some.inj hm
    exact hv_zret rfl (by decide) dX0_isConstant_26
  · rw [if_neg c6] at hm
    refine hv_iload_n 1 dX0_isConstant_4 rfl rfl ?_
    refine hv_aload_n 0 dX0_isConstant_5 rfl rfl ?_
    obtain ⟨x1, hx1, hm⟩ := hp_bd hm
    refine hv_get lk_f_X0_73 dX0_isConstant_6 (hp_fI_spec hx1) ?_
    refine hv_icmp_ge (tgt := 25) dX0_isConstant_9 (by decide) (fun c5 => ?_) (fun c5 => ?_)
    · rw [if_pos c5] at hm
      refine hv_iconst (0 : Int32) dX0_isConstant_25 (by decide) ?_
      obtain rfl := Option.some.inj hm
      exact hv_zret rfl (by decide) dX0_isConstant_26
    · rw [if_neg c5] at hm
      refine hv_aload_n 0 dX0_isConstant_12 rfl rfl ?_
      obtain ⟨x2, hx2, hm⟩ := hp_bd hm
      refine hv_get lk_f_X0_23 dX0_isConstant_13 (hp_fR_spec hx2) ?_
      refine hv_iload_n 1 dX0_isConstant_16 rfl rfl ?_
      obtain ⟨x3, hx3, hm⟩ := hp_bd hm
      refine hv_bald dX0_isConstant_17 hx3 ?_
      refine hv_if_ne (tgt := 25) dX0_isConstant_18 (by decide) (fun c4 => ?_) (fun c4 => ?_)
      · rw [if_neg c4] at hm
        refine hv_iconst (0 : Int32) dX0_isConstant_25 (by decide) ?_
        obtain rfl := Option.some.inj hm
        exact hv_zret rfl (by decide) dX0_isConstant_26
      · rw [if_pos c4] at hm
        refine hv_iconst (1 : Int32) dX0_isConstant_21 (by decide) ?_
        refine hv_goto (tgt := 26) dX0_isConstant_22 (by decide) ?_
        obtain rfl := Option.some.inj hm
        exact hv_zret rfl (by decide) dX0_isConstant_26
def f_X0_isConstant (n : Nat) (v0 : Nat) (v1 : Int32) (h : hp_H) : Option (Int32) := (hp_ck h 0 v0).bind fun _ => f_X0_isConstant_0 n v0 v1 h
theorem c_X0_isConstant (G : hp_G) (n : Nat) (v0 : Nat) (v1 : Int32) (h : hp_H) (sz sl : Nat) (res : Int32) (hm : f_X0_isConstant n v0 v1 h = some res) : hp_C G m_X0_isConstant yX0_isConstant [.ref v0, .int v1] h sz sl (some (.int res), h, sz, sl) := by
  unfold f_X0_isConstant at hm
  obtain ⟨_, _, hm⟩ := hp_bd hm
  exact hp_C_of (by decide) rfl rfl (Nat.le_of_ble_eq_true rfl) (Nat.le_refl _) (Nat.le_refl _) (hv_sub [0, 1] rfl (q_X0_isConstant_0 G n v0 v1 h sz sl res hm))
theorem k_X0_isConstant {n : Nat} {v0 : Nat} {v1 : Int32} {h : hp_H} {res : Int32} (hm : f_X0_isConstant n v0 v1 h = some res) : ∃ V, h v0 = some (.inr (.inr (0, V))) := by
  unfold f_X0_isConstant at hm
  obtain ⟨_, hu, _⟩ := hp_bd hm
  exact hp_ck_spec hu
abbrev m_X0_addSymbol : hp_M := (RX0, cX0_addSymbol, 5, some .int, 2, 48, "addSymbol")
theorem Z_X0_addSymbol : hp_Y yX0_addSymbol m_X0_addSymbol 3 := Y_X0_addSymbol
def f_X0_addSymbol_32 (n : Nat) (v0 : Nat) (v4 : Int32) (s0 : Int32) (s1 : Int32) (s2 : Nat) (h : hp_H) : Option (Int32 × hp_H) :=
  (hp_sI h 1 s2 s1 ((Int32.toInt8 s0).toInt32)).bind fun h1 =>
  (hp_fI h1 0 v0 3).bind fun x2 =>
  (hp_pF h1 0 v0 3 (.int (x2 + (1 : Int32)))).bind fun h3 =>
  some (v4, h3)
set_option maxHeartbeats 1000000 in
set_option maxRecDepth 4000 in
theorem q_X0_addSymbol_32 (G : hp_G) (n : Nat) (v0 : Nat) (v4 : Int32) (s0 : Int32) (s1 : Int32) (s2 : Nat) (h : hp_H) (sz sl : Nat) (res : Int32 × hp_H) (hm : f_X0_addSymbol_32 n v0 v4 s0 s1 s2 h = some res) : hp_V G m_X0_addSymbol 32 [(0, .ref v0), (4, .int v4)] [.int s0, .int s1, .ref s2] h sz sl (some (.int res.1), res.2, sz, sl) := by
  have ho : sz ≤ sz ∧ sl ≤ sl := ⟨Nat.le_refl _, Nat.le_refl _⟩
  unfold f_X0_addSymbol_32 at hm
  refine hv_i2b dX0_addSymbol_32 ?_
  obtain ⟨h1, hh1, hm⟩ := hp_bd hm
  refine hv_bast dX0_addSymbol_33 hh1 ?_
  refine hv_aload_n 0 dX0_addSymbol_34 rfl rfl ?_
  refine hv_dup dX0_addSymbol_35 rfl ?_
  obtain ⟨x2, hx2, hm⟩ := hp_bd hm
  refine hv_get lk_f_X0_73 dX0_addSymbol_36 (hp_fI_spec hx2) ?_
  refine hv_iconst (1 : Int32) dX0_addSymbol_39 (by decide) ?_
  refine hv_iadd dX0_addSymbol_40 ?_
  obtain ⟨h3, hh3, hm⟩ := hp_bd hm
  refine hv_put lk_f_X0_73 dX0_addSymbol_41 rfl rfl hh3 ?_
  refine hv_iload 1 dX0_addSymbol_44 rfl ?_
  obtain rfl := Option.some.inj hm
  exact hv_iret rfl dX0_addSymbol_46
def f_X0_addSymbol_0 (n : Nat) (v0 : Nat) (v1 : Int32) (v2 : Int32) (v3 : Int32) (h : hp_H) : Option (Int32 × hp_H) :=
  (hp_fI h 0 v0 3).bind fun x1 =>
  (hp_fR h 0 v0 0).bind fun x2 =>
  (f_X2_add n x2 x1 v2 v3 h).bind fun x3 =>
  (hp_fR x3 0 v0 4).bind fun x4 =>
  if v1 = 0 then
    f_X0_addSymbol_32 n v0 x1 (0 : Int32) x1 x4 x3
  else
    f_X0_addSymbol_32 n v0 x1 (1 : Int32) x1 x4 x3
set_option maxHeartbeats 1000000 in
set_option maxRecDepth 4000 in
theorem q_X0_addSymbol_0 (G : hp_G) (n : Nat) (v0 : Nat) (v1 : Int32) (v2 : Int32) (v3 : Int32) (h : hp_H) (sz sl : Nat) (res : Int32 × hp_H) (hm : f_X0_addSymbol_0 n v0 v1 v2 v3 h = some res) : hp_V G m_X0_addSymbol 0 [(0, .ref v0), (1, .int v1), (2, .int v2), (3, .int v3)] [] h sz sl (some (.int res.1), res.2, sz, sl) := by
  have ho : sz ≤ sz ∧ sl ≤ sl := ⟨Nat.le_refl _, Nat.le_refl _⟩
  unfold f_X0_addSymbol_0 at hm
  refine hv_aload_n 0 dX0_addSymbol_0 rfl rfl ?_
  obtain ⟨x1, hx1, hm⟩ := hp_bd hm
  refine hv_get lk_f_X0_73 dX0_addSymbol_1 (hp_fI_spec hx1) ?_
  refine hv_istore [(4, .int x1), (0, .ref v0), (1, .int v1), (2, .int v2), (3, .int v3)] dX0_addSymbol_4 (by decide) rfl ?_
  refine hv_aload_n 1 dX0_addSymbol_6 rfl rfl ?_
  obtain ⟨x2, hx2, hm⟩ := hp_bd hm
  refine hv_get lk_f_X0_12 dX0_addSymbol_7 (hp_fR_spec hx2) ?_
  refine hv_iload 0 dX0_addSymbol_10 rfl ?_
  refine hv_iload_n 3 dX0_addSymbol_12 rfl rfl ?_
  refine hv_iload_n 4 dX0_addSymbol_13 rfl rfl ?_
  obtain ⟨x3, hx3, hm⟩ := hp_bd hm
  obtain ⟨Vx3, hVx3⟩ := k_X2_add hx3
  refine hv_callV (As := [.int x1, .int v2, .int v3]) (rest := []) Z_X2_add I_X2_add lk_m_X0_85 rfl hVx3 (c_X2_add G n x2 x1 v2 v3 h sz sl _ hx3) rfl (Nat.le_of_ble_eq_true rfl) ⟨Nat.le_of_ble_eq_true rfl, Nat.le_of_ble_eq_true rfl⟩ ho.1 ho.2 rfl dX0_addSymbol_14 ?_
  refine hv_as [] x3 rfl rfl ?_
  refine hv_aload_n 1 dX0_addSymbol_17 rfl rfl ?_
  obtain ⟨x4, hx4, hm⟩ := hp_bd hm
  refine hv_get lk_f_X0_23 dX0_addSymbol_18 (hp_fR_spec hx4) ?_
  refine hv_iload 0 dX0_addSymbol_21 rfl ?_
  refine hv_iload_n 2 dX0_addSymbol_23 rfl rfl ?_
  refine hv_if_eq (tgt := 31) dX0_addSymbol_24 (by decide) (fun c5 => ?_) (fun c5 => ?_)
  · rw [if_pos c5] at hm
    refine hv_iconst (0 : Int32) dX0_addSymbol_31 (by decide) ?_
    exact hv_sub [1, 0] rfl (q_X0_addSymbol_32 G n v0 x1 (0 : Int32) x1 x4 x3 sz sl _ hm)
  · rw [if_neg c5] at hm
    refine hv_iconst (1 : Int32) dX0_addSymbol_27 (by decide) ?_
    refine hv_goto (tgt := 32) dX0_addSymbol_28 (by decide) ?_
    exact hv_sub [1, 0] rfl (q_X0_addSymbol_32 G n v0 x1 (1 : Int32) x1 x4 x3 sz sl _ hm)
def f_X0_addSymbol (n : Nat) (v0 : Nat) (v1 : Int32) (v2 : Int32) (v3 : Int32) (h : hp_H) : Option (Int32 × hp_H) := (hp_ck h 0 v0).bind fun _ => f_X0_addSymbol_0 n v0 v1 v2 v3 h
theorem c_X0_addSymbol (G : hp_G) (n : Nat) (v0 : Nat) (v1 : Int32) (v2 : Int32) (v3 : Int32) (h : hp_H) (sz sl : Nat) (res : Int32 × hp_H) (hm : f_X0_addSymbol n v0 v1 v2 v3 h = some res) : hp_C G m_X0_addSymbol yX0_addSymbol [.ref v0, .int v1, .int v2, .int v3] h sz sl (some (.int res.1), res.2, sz, sl) := by
  unfold f_X0_addSymbol at hm
  obtain ⟨_, _, hm⟩ := hp_bd hm
  exact hp_C_of (by decide) rfl rfl (Nat.le_of_ble_eq_true rfl) (Nat.le_refl _) (Nat.le_refl _) (hv_sub [0, 1, 2, 3] rfl (q_X0_addSymbol_0 G n v0 v1 v2 v3 h sz sl res hm))
theorem k_X0_addSymbol {n : Nat} {v0 : Nat} {v1 : Int32} {v2 : Int32} {v3 : Int32} {h : hp_H} {res : Int32 × hp_H} (hm : f_X0_addSymbol n v0 v1 v2 v3 h = some res) : ∃ V, h v0 = some (.inr (.inr (0, V))) := by
  unfold f_X0_addSymbol at hm
  obtain ⟨_, hu, _⟩ := hp_bd hm
  exact hp_ck_spec hu
abbrev m_X0_isInToken : hp_M := (RX0, cX0_isInToken, 2, some .boolean, 0, 0, "isInToken")
theorem Z_X0_isInToken : hp_Y yX0_isInToken m_X0_isInToken 1 := Y_X0_isInToken
def f_X0_isInToken_0 (n : Nat) (v0 : Nat) (v1 : Int32) (h : hp_H) : Option (Int32) :=
  (hp_fI h 0 v0 2).bind fun x1 =>
  if x1 ≤ v1 then
    some (0 : Int32)
  else
    (hp_fR h 0 v0 1).bind fun x2 =>
    (hp_aI h 1 x2 v1).bind fun x3 =>
    if x3 ≤ (32 : Int32) then
      some (0 : Int32)
    else
      some (1 : Int32)
set_option maxHeartbeats 1000000 in
set_option maxRecDepth 4000 in
theorem q_X0_isInToken_0 (G : hp_G) (n : Nat) (v0 : Nat) (v1 : Int32) (h : hp_H) (sz sl : Nat) (res : Int32) (hm : f_X0_isInToken_0 n v0 v1 h = some res) : hp_V G m_X0_isInToken 0 [(0, .ref v0), (1, .int v1)] [] h sz sl (some (.int res), h, sz, sl) := by
  have ho : sz ≤ sz ∧ sl ≤ sl := ⟨Nat.le_refl _, Nat.le_refl _⟩
  unfold f_X0_isInToken_0 at hm
  refine hv_iload_n 1 dX0_isInToken_0 rfl rfl ?_
  refine hv_aload_n 0 dX0_isInToken_1 rfl rfl ?_
  obtain ⟨x1, hx1, hm⟩ := hp_bd hm
  refine hv_get lk_f_X0_96 dX0_isInToken_2 (hp_fI_spec hx1) ?_
  refine hv_icmp_ge (tgt := 23) dX0_isInToken_5 (by decide) (fun c5 => ?_) (fun c5 => ?_)
  · rw [if_pos c5] at hm
    refine hv_iconst (0 : Int32) dX0_isInToken_23 (by decide) ?_
    obtain rfl := Option.some.inj hm
    exact hv_zret rfl (by decide) dX0_isInToken_24
  · rw [if_neg c5] at hm
    refine hv_aload_n 0 dX0_isInToken_8 rfl rfl ?_
    obtain ⟨x2, hx2, hm⟩ := hp_bd hm
    refine hv_get lk_f_X0_22 dX0_isInToken_9 (hp_fR_spec hx2) ?_
    refine hv_iload_n 1 dX0_isInToken_12 rfl rfl ?_
    obtain ⟨x3, hx3, hm⟩ := hp_bd hm
    refine hv_bald dX0_isInToken_13 hx3 ?_
    refine hv_bipush (32 : Int32) dX0_isInToken_14 (by decide) ?_
    refine hv_icmp_le (tgt := 23) dX0_isInToken_16 (by decide) (fun c4 => ?_) (fun c4 => ?_)
    · rw [if_pos c4] at hm
      refine hv_iconst (0 : Int32) dX0_isInToken_23 (by decide) ?_
      obtain rfl := Option.some.inj hm
      exact hv_zret rfl (by decide) dX0_isInToken_24
    · rw [if_neg c4] at hm
      refine hv_iconst (1 : Int32) dX0_isInToken_19 (by decide) ?_
      refine hv_goto (tgt := 24) dX0_isInToken_20 (by decide) ?_
      obtain rfl := Option.some.inj hm
      exact hv_zret rfl (by decide) dX0_isInToken_24
def f_X0_isInToken (n : Nat) (v0 : Nat) (v1 : Int32) (h : hp_H) : Option (Int32) := (hp_ck h 0 v0).bind fun _ => f_X0_isInToken_0 n v0 v1 h
theorem c_X0_isInToken (G : hp_G) (n : Nat) (v0 : Nat) (v1 : Int32) (h : hp_H) (sz sl : Nat) (res : Int32) (hm : f_X0_isInToken n v0 v1 h = some res) : hp_C G m_X0_isInToken yX0_isInToken [.ref v0, .int v1] h sz sl (some (.int res), h, sz, sl) := by
  unfold f_X0_isInToken at hm
  obtain ⟨_, _, hm⟩ := hp_bd hm
  exact hp_C_of (by decide) rfl rfl (Nat.le_of_ble_eq_true rfl) (Nat.le_refl _) (Nat.le_refl _) (hv_sub [0, 1] rfl (q_X0_isInToken_0 G n v0 v1 h sz sl res hm))
theorem k_X0_isInToken {n : Nat} {v0 : Nat} {v1 : Int32} {h : hp_H} {res : Int32} (hm : f_X0_isInToken n v0 v1 h = some res) : ∃ V, h v0 = some (.inr (.inr (0, V))) := by
  unfold f_X0_isInToken at hm
  obtain ⟨_, hu, _⟩ := hp_bd hm
  exact hp_ck_spec hu
abbrev m_X0_isJust : hp_M := (RX0, cX0_isJust, 5, some .boolean, 1, 22, "isJust")
theorem Z_X0_isJust : hp_Y yX0_isJust m_X0_isJust 3 := Y_X0_isJust
def f_X0_isJust_0 (n : Nat) (v0 : Nat) (v1 : Int32) (v2 : Int32) (v3 : Int32) (h : hp_H) : Option (Int32) :=
  (hp_fR h 0 v0 10).bind fun x1 =>
  (f_X5_get n x1 v1 v2 h).bind fun x2 =>
  if x2 < 0 then
    some (0 : Int32)
  else
    (hp_fR h 0 v0 1).bind fun x3 =>
    (hp_aI h 1 x3 x2).bind fun x4 =>
    if x4 = v3 then
      (f_X0_isInToken n v0 (x2 + (1 : Int32)) h).bind fun x5 =>
      if x5 = 0 then
        some (1 : Int32)
      else
        some (0 : Int32)
    else
      some (0 : Int32)
set_option maxHeartbeats 1000000 in
set_option maxRecDepth 4000 in
theorem q_X0_isJust_0 (G : hp_G) (n : Nat) (v0 : Nat) (v1 : Int32) (v2 : Int32) (v3 : Int32) (h : hp_H) (sz sl : Nat) (res : Int32) (hm : f_X0_isJust_0 n v0 v1 v2 v3 h = some res) : hp_V G m_X0_isJust 0 [(0, .ref v0), (1, .int v1), (2, .int v2), (3, .int v3)] [] h sz sl (some (.int res), h, sz, sl) := by
  have ho : sz ≤ sz ∧ sl ≤ sl := ⟨Nat.le_refl _, Nat.le_refl _⟩
  unfold f_X0_isJust_0 at hm
  refine hv_aload_n 0 dX0_isJust_0 rfl rfl ?_
  obtain ⟨x1, hx1, hm⟩ := hp_bd hm
  refine hv_get lk_f_X0_45 dX0_isJust_1 (hp_fR_spec hx1) ?_
  refine hv_iload_n 1 dX0_isJust_4 rfl rfl ?_
  refine hv_iload_n 2 dX0_isJust_5 rfl rfl ?_
  obtain ⟨x2, hx2, hm⟩ := hp_bd hm
  obtain ⟨Vx2, hVx2⟩ := k_X5_get hx2
  refine hv_callV (As := [.int v1, .int v2]) (rest := []) Z_X5_get I_X5_get lk_m_X0_89 rfl hVx2 (c_X5_get G n x1 v1 v2 h sz sl _ hx2) rfl (Nat.le_of_ble_eq_true rfl) ⟨Nat.le_of_ble_eq_true rfl, Nat.le_of_ble_eq_true rfl⟩ ho.1 ho.2 rfl dX0_isJust_6 ?_
  refine hv_as [.int x2] h rfl rfl ?_
  refine hv_istore [(4, .int x2), (0, .ref v0), (1, .int v1), (2, .int v2), (3, .int v3)] dX0_isJust_9 (by decide) rfl ?_
  refine hv_iload 0 dX0_isJust_11 rfl ?_
  refine hv_if_lt (tgt := 42) dX0_isJust_13 (by decide) (fun c8 => ?_) (fun c8 => ?_)
  · rw [if_pos c8] at hm
    refine hv_iconst (0 : Int32) dX0_isJust_42 (by decide) ?_
    obtain rfl := Option.some.inj hm
    exact hv_zret rfl (by decide) dX0_isJust_43
  · rw [if_neg c8] at hm
    refine hv_aload_n 1 dX0_isJust_16 rfl rfl ?_
    obtain ⟨x3, hx3, hm⟩ := hp_bd hm
    refine hv_get lk_f_X0_22 dX0_isJust_17 (hp_fR_spec hx3) ?_
    refine hv_iload 0 dX0_isJust_20 rfl ?_
    obtain ⟨x4, hx4, hm⟩ := hp_bd hm
    refine hv_bald dX0_isJust_22 hx4 ?_
    refine hv_iload_n 4 dX0_isJust_23 rfl rfl ?_
    refine hv_icmp_ne (tgt := 42) dX0_isJust_24 (by decide) (fun c7 => ?_) (fun c7 => ?_)
    · rw [if_neg c7] at hm
      refine hv_iconst (0 : Int32) dX0_isJust_42 (by decide) ?_
      obtain rfl := Option.some.inj hm
      exact hv_zret rfl (by decide) dX0_isJust_43
    · rw [if_pos c7] at hm
      refine hv_aload_n 1 dX0_isJust_27 rfl rfl ?_
      refine hv_iload 0 dX0_isJust_28 rfl ?_
      refine hv_iconst (1 : Int32) dX0_isJust_30 (by decide) ?_
      refine hv_iadd dX0_isJust_31 ?_
      obtain ⟨x5, hx5, hm⟩ := hp_bd hm
      obtain ⟨Vx5, hVx5⟩ := k_X0_isInToken hx5
      refine hv_callV (As := [.int (x2 + (1 : Int32))]) (rest := []) Z_X0_isInToken I_X0_isInToken lk_m_X0_93 rfl hVx5 (c_X0_isInToken G n v0 (x2 + (1 : Int32)) h sz sl _ hx5) rfl (Nat.le_of_ble_eq_true rfl) ⟨Nat.le_of_ble_eq_true rfl, Nat.le_of_ble_eq_true rfl⟩ ho.1 ho.2 rfl dX0_isJust_32 ?_
      refine hv_as [.int x5] h rfl rfl ?_
      refine hv_if_ne (tgt := 42) dX0_isJust_35 (by decide) (fun c6 => ?_) (fun c6 => ?_)
      · rw [if_neg c6] at hm
        refine hv_iconst (0 : Int32) dX0_isJust_42 (by decide) ?_
        obtain rfl := Option.some.inj hm
        exact hv_zret rfl (by decide) dX0_isJust_43
      · rw [if_pos c6] at hm
        refine hv_iconst (1 : Int32) dX0_isJust_38 (by decide) ?_
        refine hv_goto (tgt := 43) dX0_isJust_39 (by decide) ?_
        obtain rfl := Option.some.inj hm
        exact hv_zret rfl (by decide) dX0_isJust_43
def f_X0_isJust (n : Nat) (v0 : Nat) (v1 : Int32) (v2 : Int32) (v3 : Int32) (h : hp_H) : Option (Int32) := (hp_ck h 0 v0).bind fun _ => f_X0_isJust_0 n v0 v1 v2 v3 h
theorem c_X0_isJust (G : hp_G) (n : Nat) (v0 : Nat) (v1 : Int32) (v2 : Int32) (v3 : Int32) (h : hp_H) (sz sl : Nat) (res : Int32) (hm : f_X0_isJust n v0 v1 v2 v3 h = some res) : hp_C G m_X0_isJust yX0_isJust [.ref v0, .int v1, .int v2, .int v3] h sz sl (some (.int res), h, sz, sl) := by
  unfold f_X0_isJust at hm
  obtain ⟨_, _, hm⟩ := hp_bd hm
  exact hp_C_of (by decide) rfl rfl (Nat.le_of_ble_eq_true rfl) (Nat.le_refl _) (Nat.le_refl _) (hv_sub [0, 1, 2, 3] rfl (q_X0_isJust_0 G n v0 v1 v2 v3 h sz sl res hm))
theorem k_X0_isJust {n : Nat} {v0 : Nat} {v1 : Int32} {v2 : Int32} {v3 : Int32} {h : hp_H} {res : Int32} (hm : f_X0_isJust n v0 v1 v2 v3 h = some res) : ∃ V, h v0 = some (.inr (.inr (0, V))) := by
  unfold f_X0_isJust at hm
  obtain ⟨_, hu, _⟩ := hp_bd hm
  exact hp_ck_spec hu
abbrev m_X0_noteForm : hp_M := (RX0, cX0_noteForm, 4, none, 2, 46, "noteForm")
theorem Z_X0_noteForm : hp_Y yX0_noteForm m_X0_noteForm 1 := Y_X0_noteForm
def f_X0_noteForm_74 (n : Nat) (v0 : Nat) (v1 : Int32) (v3 : Int32) (h : hp_H) : Option ((Int32 × hp_H) ⊕ (hp_H)) :=
  some (.inl ((v3 + (-1 : Int32)), h))
set_option maxHeartbeats 1000000 in
set_option maxRecDepth 4000 in
theorem q_X0_noteForm_74 (G : hp_G) (n : Nat) (v0 : Nat) (v1 : Int32) (v3 : Int32) (h : hp_H) (sz sl : Nat) (o : hp_O) (ho : sz ≤ o.2.2.1 ∧ sl ≤ o.2.2.2) (res : (Int32 × hp_H) ⊕ (hp_H)) (hm : f_X0_noteForm_74 n v0 v1 v3 h = some res) (kI : ∀ y : Int32 × hp_H, res = .inl y → hp_V G m_X0_noteForm 43 [(0, .ref v0), (1, .int v1), (3, .int y.1)] [] y.2 sz sl o) (kR : ∀ y : hp_H, res = .inr y → o = (none, y, sz, sl)) : hp_V G m_X0_noteForm 74 [(0, .ref v0), (1, .int v1), (3, .int v3)] [] h sz sl o := by
  unfold f_X0_noteForm_74 at hm
  refine hv_iinc (v3 + (-1 : Int32)) 2 [(3, .int (v3 + (-1 : Int32))), (0, .ref v0), (1, .int v1)] dX0_noteForm_74 rfl rfl (by decide) rfl ?_
  refine hv_goto (tgt := 43) dX0_noteForm_77 (by decide) ?_
  exact hv_sub [1, 2, 0] rfl (kI ((v3 + (-1 : Int32)), h) (Option.some.inj hm).symm)
def f_X0_noteForm_43 (n : Nat) (v0 : Nat) (v1 : Int32) (v3 : Int32) (h : hp_H) : Option ((Int32 × hp_H) ⊕ (hp_H)) :=
  if v3 ≤ 0 then
    some (.inr h)
  else
    (hp_fR h 0 v0 15).bind fun x1 =>
    (hp_aI h 1 x1 v1).bind fun x2 =>
    if x2 = 0 then
      some (.inr h)
    else
      (f_X0_isJust n v0 v1 v3 (41 : Int32) h).bind fun x3 =>
      if x3 = 0 then
        f_X0_noteForm_74 n v0 v1 v3 h
      else
        (hp_fR h 0 v0 16).bind fun x4 =>
        (hp_sI h 0 x4 v1 v3).bind fun h5 =>
        f_X0_noteForm_74 n v0 v1 v3 h5
set_option maxHeartbeats 1000000 in
set_option maxRecDepth 4000 in
theorem q_X0_noteForm_43 (G : hp_G) (n : Nat) (v0 : Nat) (v1 : Int32) (v3 : Int32) (h : hp_H) (sz sl : Nat) (o : hp_O) (ho : sz ≤ o.2.2.1 ∧ sl ≤ o.2.2.2) (res : (Int32 × hp_H) ⊕ (hp_H)) (hm : f_X0_noteForm_43 n v0 v1 v3 h = some res) (kI : ∀ y : Int32 × hp_H, res = .inl y → hp_V G m_X0_noteForm 43 [(0, .ref v0), (1, .int v1), (3, .int y.1)] [] y.2 sz sl o) (kR : ∀ y : hp_H, res = .inr y → o = (none, y, sz, sl)) : hp_V G m_X0_noteForm 43 [(0, .ref v0), (1, .int v1), (3, .int v3)] [] h sz sl o := by
  unfold f_X0_noteForm_43 at hm
  refine hv_iload_n 2 dX0_noteForm_43 rfl rfl ?_
  refine hv_if_le (tgt := 80) dX0_noteForm_44 (by decide) (fun c8 => ?_) (fun c8 => ?_)
  · rw [if_pos c8] at hm
    obtain rfl := kR _ (Option.some.inj hm).symm
    exact hv_vret rfl dX0_noteForm_80
  · rw [if_neg c8] at hm
    refine hv_aload_n 0 dX0_noteForm_47 rfl rfl ?_
    obtain ⟨x1, hx1, hm⟩ := hp_bd hm
    refine hv_get lk_f_X0_60 dX0_noteForm_48 (hp_fR_spec hx1) ?_
    refine hv_iload_n 1 dX0_noteForm_51 rfl rfl ?_
    obtain ⟨x2, hx2, hm⟩ := hp_bd hm
    refine hv_bald dX0_noteForm_52 hx2 ?_
    refine hv_if_eq (tgt := 80) dX0_noteForm_53 (by decide) (fun c7 => ?_) (fun c7 => ?_)
    · rw [if_pos c7] at hm
      obtain rfl := kR _ (Option.some.inj hm).symm
      exact hv_vret rfl dX0_noteForm_80
    · rw [if_neg c7] at hm
      refine hv_aload_n 0 dX0_noteForm_56 rfl rfl ?_
      refine hv_iload_n 1 dX0_noteForm_57 rfl rfl ?_
      refine hv_iload_n 2 dX0_noteForm_58 rfl rfl ?_
      refine hv_bipush (41 : Int32) dX0_noteForm_59 (by decide) ?_
      obtain ⟨x3, hx3, hm⟩ := hp_bd hm
      obtain ⟨Vx3, hVx3⟩ := k_X0_isJust hx3
      refine hv_callV (As := [.int v1, .int v3, .int (41 : Int32)]) (rest := []) Z_X0_isJust I_X0_isJust lk_m_X0_103 rfl hVx3 (c_X0_isJust G n v0 v1 v3 (41 : Int32) h sz sl _ hx3) rfl (Nat.le_of_ble_eq_true rfl) ⟨Nat.le_of_ble_eq_true rfl, Nat.le_of_ble_eq_true rfl⟩ ho.1 ho.2 rfl dX0_noteForm_61 ?_
      refine hv_as [.int x3] h rfl rfl ?_
      refine hv_if_eq (tgt := 74) dX0_noteForm_64 (by decide) (fun c6 => ?_) (fun c6 => ?_)
      · rw [if_pos c6] at hm
        exact hv_sub [0, 1, 2] rfl (q_X0_noteForm_74 G n v0 v1 v3 h sz sl o ho _ hm kI kR)
      · rw [if_neg c6] at hm
        refine hv_aload_n 0 dX0_noteForm_67 rfl rfl ?_
        obtain ⟨x4, hx4, hm⟩ := hp_bd hm
        refine hv_get lk_f_X0_63 dX0_noteForm_68 (hp_fR_spec hx4) ?_
        refine hv_iload_n 1 dX0_noteForm_71 rfl rfl ?_
        refine hv_iload_n 2 dX0_noteForm_72 rfl rfl ?_
        obtain ⟨h5, hh5, hm⟩ := hp_bd hm
        refine hv_iast dX0_noteForm_73 hh5 ?_
        exact hv_sub [0, 1, 2] rfl (q_X0_noteForm_74 G n v0 v1 v3 h5 sz sl o ho _ hm kI kR)
def fL_X0_noteForm_43 (n : Nat) (v0 : Nat) (v1 : Int32) (s : Int32 × hp_H) : Option ((Int32 × hp_H) ⊕ (hp_H)) := f_X0_noteForm_43 n v0 v1 s.1 s.2
theorem l_X0_noteForm_43 (G : hp_G) (n : Nat) (v0 : Nat) (v1 : Int32) (sz sl : Nat) (o : hp_O) (ho : sz ≤ o.2.2.1 ∧ sl ≤ o.2.2.2) : ∀ (k : Nat) (s : Int32 × hp_H) (x : hp_H), hp_lp (fL_X0_noteForm_43 n v0 v1) k s = some x → (∀ y : hp_H, x = y → o = (none, y, sz, sl)) → hp_V G m_X0_noteForm 43 [(0, .ref v0), (1, .int v1), (3, .int s.1)] [] s.2 sz sl o := by
  intro k
  induction k with
  | zero => intro s x hx; exact (hp_lp_0 hx).elim
  | succ k ih =>
    intro s x hx k0
    obtain ⟨r, hr, hc⟩ := hp_lp_1 hx
    refine q_X0_noteForm_43 G n v0 v1 s.1 s.2 sz sl o ho r hr (fun s2 e => ?_) (fun y e => ?_)
    · rcases hc with ⟨s3, e3, hx3⟩ | e3
      · have e4 := Sum.inl.inj (e.symm.trans e3)
        subst e4
        exact ih _ _ hx3 k0
      · cases (e.symm.trans e3)
    · rcases hc with ⟨s3, e3, hx3⟩ | e3
      · cases (e.symm.trans e3)
      · exact k0 y (Sum.inr.inj (e3.symm.trans e))
def f_X0_noteForm_30 (n : Nat) (v0 : Nat) (v1 : Int32) (v2 : Int32) (s0 : Int32) (s1 : Int32) (s2 : Nat) (h : hp_H) : Option (hp_H) :=
  (hp_sI h 1 s2 s1 ((Int32.toInt8 s0).toInt32)).bind fun h1 =>
  (hp_fR h1 0 v0 16).bind fun x2 =>
  (hp_sI h1 0 x2 v1 v2).bind fun h3 =>
  (hp_lp (fL_X0_noteForm_43 n v0 v1) n ((v2 - (1 : Int32)), h3)).bind fun x4 =>
  some x4
set_option maxHeartbeats 1000000 in
set_option maxRecDepth 4000 in
theorem q_X0_noteForm_30 (G : hp_G) (n : Nat) (v0 : Nat) (v1 : Int32) (v2 : Int32) (s0 : Int32) (s1 : Int32) (s2 : Nat) (h : hp_H) (sz sl : Nat) (res : hp_H) (hm : f_X0_noteForm_30 n v0 v1 v2 s0 s1 s2 h = some res) : hp_V G m_X0_noteForm 30 [(0, .ref v0), (1, .int v1), (2, .int v2)] [.int s0, .int s1, .ref s2] h sz sl (none, res, sz, sl) := by
  have ho : sz ≤ sz ∧ sl ≤ sl := ⟨Nat.le_refl _, Nat.le_refl _⟩
  unfold f_X0_noteForm_30 at hm
  refine hv_i2b dX0_noteForm_30 ?_
  obtain ⟨h1, hh1, hm⟩ := hp_bd hm
  refine hv_bast dX0_noteForm_31 hh1 ?_
  refine hv_aload_n 0 dX0_noteForm_32 rfl rfl ?_
  obtain ⟨x2, hx2, hm⟩ := hp_bd hm
  refine hv_get lk_f_X0_63 dX0_noteForm_33 (hp_fR_spec hx2) ?_
  refine hv_iload_n 1 dX0_noteForm_36 rfl rfl ?_
  refine hv_iload_n 2 dX0_noteForm_37 rfl rfl ?_
  obtain ⟨h3, hh3, hm⟩ := hp_bd hm
  refine hv_iast dX0_noteForm_38 hh3 ?_
  refine hv_iload_n 2 dX0_noteForm_39 rfl rfl ?_
  refine hv_iconst (1 : Int32) dX0_noteForm_40 (by decide) ?_
  refine hv_isub dX0_noteForm_41 ?_
  refine hv_istore_n [(3, .int (v2 - (1 : Int32))), (0, .ref v0), (1, .int v1), (2, .int v2)] dX0_noteForm_42 rfl (by decide) rfl ?_
  obtain ⟨x4, hx4, hm⟩ := hp_bd hm
  refine hv_sub [1, 2, 0] rfl (l_X0_noteForm_43 G n v0 v1 sz sl _ ho n _ _ hx4 (fun y5 ey5 => ?_))
  · skip
    subst ey5
    obtain rfl := Option.some.inj hm
    rfl
def f_X0_noteForm_0 (n : Nat) (v0 : Nat) (v1 : Int32) (h : hp_H) : Option (hp_H) :=
  (hp_fR h 0 v0 10).bind fun x1 =>
  (f_X5_size n x1 v1 h).bind fun x2 =>
  (hp_fR h 0 v0 15).bind fun x3 =>
  (f_X0_isJust n v0 v1 (0 : Int32) (40 : Int32) h).bind fun x4 =>
  if x4 = 0 then
    f_X0_noteForm_30 n v0 v1 x2 (0 : Int32) v1 x3 h
  else
    f_X0_noteForm_30 n v0 v1 x2 (1 : Int32) v1 x3 h
set_option maxHeartbeats 1000000 in
set_option maxRecDepth 4000 in
theorem q_X0_noteForm_0 (G : hp_G) (n : Nat) (v0 : Nat) (v1 : Int32) (h : hp_H) (sz sl : Nat) (res : hp_H) (hm : f_X0_noteForm_0 n v0 v1 h = some res) : hp_V G m_X0_noteForm 0 [(0, .ref v0), (1, .int v1)] [] h sz sl (none, res, sz, sl) := by
  have ho : sz ≤ sz ∧ sl ≤ sl := ⟨Nat.le_refl _, Nat.le_refl _⟩
  unfold f_X0_noteForm_0 at hm
  refine hv_aload_n 0 dX0_noteForm_0 rfl rfl ?_
  obtain ⟨x1, hx1, hm⟩ := hp_bd hm
  refine hv_get lk_f_X0_45 dX0_noteForm_1 (hp_fR_spec hx1) ?_
  refine hv_iload_n 1 dX0_noteForm_4 rfl rfl ?_
  obtain ⟨x2, hx2, hm⟩ := hp_bd hm
  obtain ⟨Vx2, hVx2⟩ := k_X5_size hx2
  refine hv_callV (As := [.int v1]) (rest := []) Z_X5_size I_X5_size lk_m_X0_99 rfl hVx2 (c_X5_size G n x1 v1 h sz sl _ hx2) rfl (Nat.le_of_ble_eq_true rfl) ⟨Nat.le_of_ble_eq_true rfl, Nat.le_of_ble_eq_true rfl⟩ ho.1 ho.2 rfl dX0_noteForm_5 ?_
  refine hv_as [.int x2] h rfl rfl ?_
  refine hv_istore_n [(2, .int x2), (0, .ref v0), (1, .int v1)] dX0_noteForm_8 rfl (by decide) rfl ?_
  refine hv_aload_n 1 dX0_noteForm_9 rfl rfl ?_
  obtain ⟨x3, hx3, hm⟩ := hp_bd hm
  refine hv_get lk_f_X0_60 dX0_noteForm_10 (hp_fR_spec hx3) ?_
  refine hv_iload_n 2 dX0_noteForm_13 rfl rfl ?_
  refine hv_aload_n 1 dX0_noteForm_14 rfl rfl ?_
  refine hv_iload_n 2 dX0_noteForm_15 rfl rfl ?_
  refine hv_iconst (0 : Int32) dX0_noteForm_16 (by decide) ?_
  refine hv_bipush (40 : Int32) dX0_noteForm_17 (by decide) ?_
  obtain ⟨x4, hx4, hm⟩ := hp_bd hm
  obtain ⟨Vx4, hVx4⟩ := k_X0_isJust hx4
  refine hv_callV (As := [.int v1, .int (0 : Int32), .int (40 : Int32)]) (rest := [.int v1, .ref x3]) Z_X0_isJust I_X0_isJust lk_m_X0_103 rfl hVx4 (c_X0_isJust G n v0 v1 (0 : Int32) (40 : Int32) h sz sl _ hx4) rfl (Nat.le_of_ble_eq_true rfl) ⟨Nat.le_of_ble_eq_true rfl, Nat.le_of_ble_eq_true rfl⟩ ho.1 ho.2 rfl dX0_noteForm_19 ?_
  refine hv_as [.int x4, .int v1, .ref x3] h rfl rfl ?_
  refine hv_if_eq (tgt := 29) dX0_noteForm_22 (by decide) (fun c5 => ?_) (fun c5 => ?_)
  · rw [if_pos c5] at hm
    refine hv_iconst (0 : Int32) dX0_noteForm_29 (by decide) ?_
    exact hv_sub [1, 2, 0] rfl (q_X0_noteForm_30 G n v0 v1 x2 (0 : Int32) v1 x3 h sz sl _ hm)
  · rw [if_neg c5] at hm
    refine hv_iconst (1 : Int32) dX0_noteForm_25 (by decide) ?_
    refine hv_goto (tgt := 30) dX0_noteForm_26 (by decide) ?_
    exact hv_sub [1, 2, 0] rfl (q_X0_noteForm_30 G n v0 v1 x2 (1 : Int32) v1 x3 h sz sl _ hm)
def f_X0_noteForm (n : Nat) (v0 : Nat) (v1 : Int32) (h : hp_H) : Option (hp_H) := (hp_ck h 0 v0).bind fun _ => f_X0_noteForm_0 n v0 v1 h
theorem c_X0_noteForm (G : hp_G) (n : Nat) (v0 : Nat) (v1 : Int32) (h : hp_H) (sz sl : Nat) (res : hp_H) (hm : f_X0_noteForm n v0 v1 h = some res) : hp_C G m_X0_noteForm yX0_noteForm [.ref v0, .int v1] h sz sl (none, res, sz, sl) := by
  unfold f_X0_noteForm at hm
  obtain ⟨_, _, hm⟩ := hp_bd hm
  exact hp_C_of (by decide) rfl rfl (Nat.le_of_ble_eq_true rfl) (Nat.le_refl _) (Nat.le_refl _) (hv_sub [0, 1] rfl (q_X0_noteForm_0 G n v0 v1 h sz sl res hm))
theorem k_X0_noteForm {n : Nat} {v0 : Nat} {v1 : Int32} {h : hp_H} {res : hp_H} (hm : f_X0_noteForm n v0 v1 h = some res) : ∃ V, h v0 = some (.inr (.inr (0, V))) := by
  unfold f_X0_noteForm at hm
  obtain ⟨_, hu, _⟩ := hp_bd hm
  exact hp_ck_spec hu
abbrev m_X0_noteAxioms : hp_M := (RX0, cX0_noteAxioms, 6, none, 1, 22, "noteAxioms")
theorem Z_X0_noteAxioms : hp_Y yX0_noteAxioms m_X0_noteAxioms 1 := Y_X0_noteAxioms
def f_X0_noteAxioms_6 (n : Nat) (v0 : Nat) (v1 : Int32) (v2 : Int32) (v3 : Int32) (h : hp_H) : Option ((Int32 × hp_H) ⊕ (hp_H)) :=
  if (4 : Int32) ≤ v3 then
    some (.inr h)
  else
    (hp_fR h 0 v0 17).bind fun x1 =>
    (hp_sJ h x1 (v2 + v3) (0 : Int64)).bind fun h2 =>
    some (.inl ((v3 + (1 : Int32)), h2))
set_option maxHeartbeats 1000000 in
set_option maxRecDepth 4000 in
theorem q_X0_noteAxioms_6 (G : hp_G) (n : Nat) (v0 : Nat) (v1 : Int32) (v2 : Int32) (v3 : Int32) (h : hp_H) (sz sl : Nat) (o : hp_O) (ho : sz ≤ o.2.2.1 ∧ sl ≤ o.2.2.2) (res : (Int32 × hp_H) ⊕ (hp_H)) (hm : f_X0_noteAxioms_6 n v0 v1 v2 v3 h = some res) (kI : ∀ y : Int32 × hp_H, res = .inl y → hp_V G m_X0_noteAxioms 6 [(0, .ref v0), (1, .int v1), (2, .int v2), (3, .int y.1)] [] y.2 sz sl o) (kX0 : ∀ y : hp_H, res = .inr y → hp_V G m_X0_noteAxioms 26 [(0, .ref v0), (1, .int v1), (2, .int v2)] [] y sz sl o) : hp_V G m_X0_noteAxioms 6 [(0, .ref v0), (1, .int v1), (2, .int v2), (3, .int v3)] [] h sz sl o := by
  unfold f_X0_noteAxioms_6 at hm
  refine hv_iload_n 3 dX0_noteAxioms_6 rfl rfl ?_
  refine hv_iconst (4 : Int32) dX0_noteAxioms_7 (by decide) ?_
  refine hv_icmp_ge (tgt := 26) dX0_noteAxioms_8 (by decide) (fun c3 => ?_) (fun c3 => ?_)
  · rw [if_pos c3] at hm
    exact hv_sub [0, 1, 2] rfl (kX0 h (Option.some.inj hm).symm)
  · rw [if_neg c3] at hm
    refine hv_aload_n 0 dX0_noteAxioms_11 rfl rfl ?_
    obtain ⟨x1, hx1, hm⟩ := hp_bd hm
    refine hv_get lk_f_X0_66 dX0_noteAxioms_12 (hp_fR_spec hx1) ?_
    refine hv_iload_n 2 dX0_noteAxioms_15 rfl rfl ?_
    refine hv_iload_n 3 dX0_noteAxioms_16 rfl rfl ?_
    refine hv_iadd dX0_noteAxioms_17 ?_
    refine hv_lconst (0 : Int64) dX0_noteAxioms_18 (by decide) ?_
    obtain ⟨h2, hh2, hm⟩ := hp_bd hm
    refine hv_last dX0_noteAxioms_19 hh2 ?_
    refine hv_iinc (v3 + (1 : Int32)) 3 [(3, .int (v3 + (1 : Int32))), (0, .ref v0), (1, .int v1), (2, .int v2)] dX0_noteAxioms_20 rfl rfl (by decide) rfl ?_
    refine hv_goto (tgt := 6) dX0_noteAxioms_23 (by decide) ?_
    exact hv_sub [1, 2, 3, 0] rfl (kI ((v3 + (1 : Int32)), h2) (Option.some.inj hm).symm)
def fL_X0_noteAxioms_6 (n : Nat) (v0 : Nat) (v1 : Int32) (v2 : Int32) (s : Int32 × hp_H) : Option ((Int32 × hp_H) ⊕ (hp_H)) := f_X0_noteAxioms_6 n v0 v1 v2 s.1 s.2
theorem l_X0_noteAxioms_6 (G : hp_G) (n : Nat) (v0 : Nat) (v1 : Int32) (v2 : Int32) (sz sl : Nat) (o : hp_O) (ho : sz ≤ o.2.2.1 ∧ sl ≤ o.2.2.2) : ∀ (k : Nat) (s : Int32 × hp_H) (x : hp_H), hp_lp (fL_X0_noteAxioms_6 n v0 v1 v2) k s = some x → (∀ y : hp_H, x = y → hp_V G m_X0_noteAxioms 26 [(0, .ref v0), (1, .int v1), (2, .int v2)] [] y sz sl o) → hp_V G m_X0_noteAxioms 6 [(0, .ref v0), (1, .int v1), (2, .int v2), (3, .int s.1)] [] s.2 sz sl o := by
  intro k
  induction k with
  | zero => intro s x hx; exact (hp_lp_0 hx).elim
  | succ k ih =>
    intro s x hx k0
    obtain ⟨r, hr, hc⟩ := hp_lp_1 hx
    refine q_X0_noteAxioms_6 G n v0 v1 v2 s.1 s.2 sz sl o ho r hr (fun s2 e => ?_) (fun y e => ?_)
    · rcases hc with ⟨s3, e3, hx3⟩ | e3
      · have e4 := Sum.inl.inj (e.symm.trans e3)
        subst e4
        exact ih _ _ hx3 k0
      · cases (e.symm.trans e3)
    · rcases hc with ⟨s3, e3, hx3⟩ | e3
      · cases (e.symm.trans e3)
      · exact k0 y (Sum.inr.inj (e3.symm.trans e))
def f_X0_noteAxioms_145 (n : Nat) (v0 : Nat) (v1 : Int32) (v2 : Int32) (v3 : Int32) (h : hp_H) : Option ((Int32 × hp_H) ⊕ (hp_H)) :=
  some (.inl ((v3 + (1 : Int32)), h))
set_option maxHeartbeats 1000000 in
set_option maxRecDepth 4000 in
theorem q_X0_noteAxioms_145 (G : hp_G) (n : Nat) (v0 : Nat) (v1 : Int32) (v2 : Int32) (v3 : Int32) (h : hp_H) (sz sl : Nat) (o : hp_O) (ho : sz ≤ o.2.2.1 ∧ sl ≤ o.2.2.2) (res : (Int32 × hp_H) ⊕ (hp_H)) (hm : f_X0_noteAxioms_145 n v0 v1 v2 v3 h = some res) (kI : ∀ y : Int32 × hp_H, res = .inl y → hp_V G m_X0_noteAxioms 28 [(0, .ref v0), (1, .int v1), (2, .int v2), (3, .int y.1)] [] y.2 sz sl o) (kR : ∀ y : hp_H, res = .inr y → o = (none, y, sz, sl)) : hp_V G m_X0_noteAxioms 145 [(0, .ref v0), (1, .int v1), (2, .int v2), (3, .int v3)] [] h sz sl o := by
  unfold f_X0_noteAxioms_145 at hm
  refine hv_iinc (v3 + (1 : Int32)) 3 [(3, .int (v3 + (1 : Int32))), (0, .ref v0), (1, .int v1), (2, .int v2)] dX0_noteAxioms_145 rfl rfl (by decide) rfl ?_
  refine hv_goto (tgt := 28) dX0_noteAxioms_148 (by decide) ?_
  exact hv_sub [1, 2, 3, 0] rfl (kI ((v3 + (1 : Int32)), h) (Option.some.inj hm).symm)
def f_X0_noteAxioms_109 (n : Nat) (v0 : Nat) (v1 : Int32) (v2 : Int32) (v3 : Int32) (v4 : Int32) (v5 : Int32) (h : hp_H) : Option ((Int32 × hp_H) ⊕ (hp_H)) :=
  if (4 : Int32) ≤ v5 then
    some (.inr h)
  else
    (hp_fR h 0 v0 17).bind fun x1 =>
    (hp_aJ h x1 (v2 + v5)).bind fun x2 =>
    (hp_fR h 0 v0 17).bind fun x3 =>
    (hp_aJ h x3 ((v4 * (4 : Int32)) + v5)).bind fun x4 =>
    (hp_sJ h x1 (v2 + v5) (x2 ||| x4)).bind fun h5 =>
    some (.inl ((v5 + (1 : Int32)), h5))
set_option maxHeartbeats 1000000 in
set_option maxRecDepth 4000 in
theorem q_X0_noteAxioms_109 (G : hp_G) (n : Nat) (v0 : Nat) (v1 : Int32) (v2 : Int32) (v3 : Int32) (v4 : Int32) (v5 : Int32) (h : hp_H) (sz sl : Nat) (o : hp_O) (ho : sz ≤ o.2.2.1 ∧ sl ≤ o.2.2.2) (res : (Int32 × hp_H) ⊕ (hp_H)) (hm : f_X0_noteAxioms_109 n v0 v1 v2 v3 v4 v5 h = some res) (kI : ∀ y : Int32 × hp_H, res = .inl y → hp_V G m_X0_noteAxioms 109 [(0, .ref v0), (1, .int v1), (2, .int v2), (3, .int v3), (4, .int v4), (5, .int y.1)] [] y.2 sz sl o) (kX0 : ∀ y : hp_H, res = .inr y → hp_V G m_X0_noteAxioms 145 [(0, .ref v0), (1, .int v1), (2, .int v2), (3, .int v3)] [] y sz sl o) : hp_V G m_X0_noteAxioms 109 [(0, .ref v0), (1, .int v1), (2, .int v2), (3, .int v3), (4, .int v4), (5, .int v5)] [] h sz sl o := by
  unfold f_X0_noteAxioms_109 at hm
  refine hv_iload 5 dX0_noteAxioms_109 rfl ?_
  refine hv_iconst (4 : Int32) dX0_noteAxioms_111 (by decide) ?_
  refine hv_icmp_ge (tgt := 145) dX0_noteAxioms_112 (by decide) (fun c6 => ?_) (fun c6 => ?_)
  · rw [if_pos c6] at hm
    exact hv_sub [0, 1, 2, 3] rfl (kX0 h (Option.some.inj hm).symm)
  · rw [if_neg c6] at hm
    refine hv_aload_n 0 dX0_noteAxioms_115 rfl rfl ?_
    obtain ⟨x1, hx1, hm⟩ := hp_bd hm
    refine hv_get lk_f_X0_66 dX0_noteAxioms_116 (hp_fR_spec hx1) ?_
    refine hv_iload_n 2 dX0_noteAxioms_119 rfl rfl ?_
    refine hv_iload 5 dX0_noteAxioms_120 rfl ?_
    refine hv_iadd dX0_noteAxioms_122 ?_
    refine hv_dup2_11 dX0_noteAxioms_123 rfl rfl ?_
    obtain ⟨x2, hx2, hm⟩ := hp_bd hm
    refine hv_lald dX0_noteAxioms_124 hx2 ?_
    refine hv_aload_n 0 dX0_noteAxioms_125 rfl rfl ?_
    obtain ⟨x3, hx3, hm⟩ := hp_bd hm
    refine hv_get lk_f_X0_66 dX0_noteAxioms_126 (hp_fR_spec hx3) ?_
    refine hv_iload 4 dX0_noteAxioms_129 rfl ?_
    refine hv_iconst (4 : Int32) dX0_noteAxioms_131 (by decide) ?_
    refine hv_imul dX0_noteAxioms_132 ?_
    refine hv_iload 5 dX0_noteAxioms_133 rfl ?_
    refine hv_iadd dX0_noteAxioms_135 ?_
    obtain ⟨x4, hx4, hm⟩ := hp_bd hm
    refine hv_lald dX0_noteAxioms_136 hx4 ?_
    refine hv_lor dX0_noteAxioms_137 ?_
    obtain ⟨h5, hh5, hm⟩ := hp_bd hm
    refine hv_last dX0_noteAxioms_138 hh5 ?_
    refine hv_iinc (v5 + (1 : Int32)) 5 [(5, .int (v5 + (1 : Int32))), (0, .ref v0), (1, .int v1), (2, .int v2), (3, .int v3), (4, .int v4)] dX0_noteAxioms_139 rfl rfl (by decide) rfl ?_
    refine hv_goto (tgt := 109) dX0_noteAxioms_142 (by decide) ?_
    exact hv_sub [1, 2, 3, 4, 5, 0] rfl (kI ((v5 + (1 : Int32)), h5) (Option.some.inj hm).symm)
def fL_X0_noteAxioms_109 (n : Nat) (v0 : Nat) (v1 : Int32) (v2 : Int32) (v3 : Int32) (v4 : Int32) (s : Int32 × hp_H) : Option ((Int32 × hp_H) ⊕ (hp_H)) := f_X0_noteAxioms_109 n v0 v1 v2 v3 v4 s.1 s.2
theorem l_X0_noteAxioms_109 (G : hp_G) (n : Nat) (v0 : Nat) (v1 : Int32) (v2 : Int32) (v3 : Int32) (v4 : Int32) (sz sl : Nat) (o : hp_O) (ho : sz ≤ o.2.2.1 ∧ sl ≤ o.2.2.2) : ∀ (k : Nat) (s : Int32 × hp_H) (x : hp_H), hp_lp (fL_X0_noteAxioms_109 n v0 v1 v2 v3 v4) k s = some x → (∀ y : hp_H, x = y → hp_V G m_X0_noteAxioms 145 [(0, .ref v0), (1, .int v1), (2, .int v2), (3, .int v3)] [] y sz sl o) → hp_V G m_X0_noteAxioms 109 [(0, .ref v0), (1, .int v1), (2, .int v2), (3, .int v3), (4, .int v4), (5, .int s.1)] [] s.2 sz sl o := by
  intro k
  induction k with
  | zero => intro s x hx; exact (hp_lp_0 hx).elim
  | succ k ih =>
    intro s x hx k0
    obtain ⟨r, hr, hc⟩ := hp_lp_1 hx
    refine q_X0_noteAxioms_109 G n v0 v1 v2 v3 v4 s.1 s.2 sz sl o ho r hr (fun s2 e => ?_) (fun y e => ?_)
    · rcases hc with ⟨s3, e3, hx3⟩ | e3
      · have e4 := Sum.inl.inj (e.symm.trans e3)
        subst e4
        exact ih _ _ hx3 k0
      · cases (e.symm.trans e3)
    · rcases hc with ⟨s3, e3, hx3⟩ | e3
      · cases (e.symm.trans e3)
      · exact k0 y (Sum.inr.inj (e3.symm.trans e))
def f_X0_noteAxioms_90 (n : Nat) (v0 : Nat) (v1 : Int32) (v2 : Int32) (v3 : Int32) (v4 : Int32) (h : hp_H) : Option ((Int32 × hp_H) ⊕ (hp_H)) :=
  if v4 < 0 then
    f_X0_noteAxioms_145 n v0 v1 v2 v3 h
  else
    (hp_fR h 0 v0 6).bind fun x1 =>
    (hp_aI h 0 x1 v4).bind fun x2 =>
    if x2 = (3 : Int32) then
      (hp_lp (fL_X0_noteAxioms_109 n v0 v1 v2 v3 v4) n ((0 : Int32), h)).bind fun x3 =>
      f_X0_noteAxioms_145 n v0 v1 v2 v3 x3
    else
      f_X0_noteAxioms_145 n v0 v1 v2 v3 h
set_option maxHeartbeats 1000000 in
set_option maxRecDepth 4000 in
theorem q_X0_noteAxioms_90 (G : hp_G) (n : Nat) (v0 : Nat) (v1 : Int32) (v2 : Int32) (v3 : Int32) (v4 : Int32) (h : hp_H) (sz sl : Nat) (o : hp_O) (ho : sz ≤ o.2.2.1 ∧ sl ≤ o.2.2.2) (res : (Int32 × hp_H) ⊕ (hp_H)) (hm : f_X0_noteAxioms_90 n v0 v1 v2 v3 v4 h = some res) (kI : ∀ y : Int32 × hp_H, res = .inl y → hp_V G m_X0_noteAxioms 28 [(0, .ref v0), (1, .int v1), (2, .int v2), (3, .int y.1)] [] y.2 sz sl o) (kR : ∀ y : hp_H, res = .inr y → o = (none, y, sz, sl)) : hp_V G m_X0_noteAxioms 90 [(0, .ref v0), (1, .int v1), (2, .int v2), (3, .int v3), (4, .int v4)] [] h sz sl o := by
  unfold f_X0_noteAxioms_90 at hm
  refine hv_iload 4 dX0_noteAxioms_90 rfl ?_
  refine hv_if_lt (tgt := 145) dX0_noteAxioms_92 (by decide) (fun c6 => ?_) (fun c6 => ?_)
  · rw [if_pos c6] at hm
    exact hv_sub [0, 1, 2, 3] rfl (q_X0_noteAxioms_145 G n v0 v1 v2 v3 h sz sl o ho _ hm kI kR)
  · rw [if_neg c6] at hm
    refine hv_aload_n 0 dX0_noteAxioms_95 rfl rfl ?_
    obtain ⟨x1, hx1, hm⟩ := hp_bd hm
    refine hv_get lk_f_X0_26 dX0_noteAxioms_96 (hp_fR_spec hx1) ?_
    refine hv_iload 4 dX0_noteAxioms_99 rfl ?_
    obtain ⟨x2, hx2, hm⟩ := hp_bd hm
    refine hv_iald dX0_noteAxioms_101 hx2 ?_
    refine hv_iconst (3 : Int32) dX0_noteAxioms_102 (by decide) ?_
    refine hv_icmp_ne (tgt := 145) dX0_noteAxioms_103 (by decide) (fun c5 => ?_) (fun c5 => ?_)
    · rw [if_neg c5] at hm
      exact hv_sub [0, 1, 2, 3] rfl (q_X0_noteAxioms_145 G n v0 v1 v2 v3 h sz sl o ho _ hm kI kR)
    · rw [if_pos c5] at hm
      refine hv_iconst (0 : Int32) dX0_noteAxioms_106 (by decide) ?_
      refine hv_istore [(5, .int (0 : Int32)), (0, .ref v0), (1, .int v1), (2, .int v2), (3, .int v3), (4, .int v4)] dX0_noteAxioms_107 (by decide) rfl ?_
      obtain ⟨x3, hx3, hm⟩ := hp_bd hm
      refine hv_sub [1, 2, 3, 4, 5, 0] rfl (l_X0_noteAxioms_109 G n v0 v1 v2 v3 v4 sz sl _ ho n _ _ hx3 (fun y4 ey4 => ?_))
      · skip
        subst ey4
        exact hv_sub [0, 1, 2, 3] rfl (q_X0_noteAxioms_145 G n v0 v1 v2 v3 x3 sz sl o ho _ hm kI kR)
def f_X0_noteAxioms_28 (n : Nat) (v0 : Nat) (v1 : Int32) (v2 : Int32) (v3 : Int32) (h : hp_H) : Option ((Int32 × hp_H) ⊕ (hp_H)) :=
  (hp_fR h 0 v0 16).bind fun x1 =>
  (hp_aI h 0 x1 v1).bind fun x2 =>
  if x2 ≤ v3 then
    some (.inr h)
  else
    (hp_fR h 0 v0 11).bind fun x3 =>
    (f_X5_get n x3 v1 v3 h).bind fun x4 =>
    if x4 < 0 then
      f_X0_noteAxioms_90 n v0 v1 v2 v3 x4 h
    else
      (hp_fR h 0 v0 6).bind fun x5 =>
      (hp_aI h 0 x5 x4).bind fun x6 =>
      if x6 = (2 : Int32) then
        (hp_fR h 0 v0 17).bind fun x7 =>
        (hp_aJ h x7 (v2 + (x4 / (64 : Int32)))).bind fun x8 =>
        (hp_sJ h x7 (v2 + (x4 / (64 : Int32))) (x8 ||| ((1 : Int64) <<< (Int32.toInt64 (x4 - x4 / (64 : Int32) * (64 : Int32)) &&& 63)))).bind fun h9 =>
        f_X0_noteAxioms_145 n v0 v1 v2 v3 h9
      else
        f_X0_noteAxioms_90 n v0 v1 v2 v3 x4 h
set_option maxHeartbeats 1000000 in
set_option maxRecDepth 4000 in
theorem q_X0_noteAxioms_28 (G : hp_G) (n : Nat) (v0 : Nat) (v1 : Int32) (v2 : Int32) (v3 : Int32) (h : hp_H) (sz sl : Nat) (o : hp_O) (ho : sz ≤ o.2.2.1 ∧ sl ≤ o.2.2.2) (res : (Int32 × hp_H) ⊕ (hp_H)) (hm : f_X0_noteAxioms_28 n v0 v1 v2 v3 h = some res) (kI : ∀ y : Int32 × hp_H, res = .inl y → hp_V G m_X0_noteAxioms 28 [(0, .ref v0), (1, .int v1), (2, .int v2), (3, .int y.1)] [] y.2 sz sl o) (kR : ∀ y : hp_H, res = .inr y → o = (none, y, sz, sl)) : hp_V G m_X0_noteAxioms 28 [(0, .ref v0), (1, .int v1), (2, .int v2), (3, .int v3)] [] h sz sl o := by
  unfold f_X0_noteAxioms_28 at hm
  refine hv_iload_n 3 dX0_noteAxioms_28 rfl rfl ?_
  refine hv_aload_n 0 dX0_noteAxioms_29 rfl rfl ?_
  obtain ⟨x1, hx1, hm⟩ := hp_bd hm
  refine hv_get lk_f_X0_63 dX0_noteAxioms_30 (hp_fR_spec hx1) ?_
  refine hv_iload_n 1 dX0_noteAxioms_33 rfl rfl ?_
  obtain ⟨x2, hx2, hm⟩ := hp_bd hm
  refine hv_iald dX0_noteAxioms_34 hx2 ?_
  refine hv_icmp_ge (tgt := 151) dX0_noteAxioms_35 (by decide) (fun c12 => ?_) (fun c12 => ?_)
  · rw [if_pos c12] at hm
    obtain rfl := kR _ (Option.some.inj hm).symm
    exact hv_vret rfl dX0_noteAxioms_151
  · rw [if_neg c12] at hm
    refine hv_aload_n 0 dX0_noteAxioms_38 rfl rfl ?_
    obtain ⟨x3, hx3, hm⟩ := hp_bd hm
    refine hv_get lk_f_X0_48 dX0_noteAxioms_39 (hp_fR_spec hx3) ?_
    refine hv_iload_n 1 dX0_noteAxioms_42 rfl rfl ?_
    refine hv_iload_n 3 dX0_noteAxioms_43 rfl rfl ?_
    obtain ⟨x4, hx4, hm⟩ := hp_bd hm
    obtain ⟨Vx4, hVx4⟩ := k_X5_get hx4
    refine hv_callV (As := [.int v1, .int v3]) (rest := []) Z_X5_get I_X5_get lk_m_X0_89 rfl hVx4 (c_X5_get G n x3 v1 v3 h sz sl _ hx4) rfl (Nat.le_of_ble_eq_true rfl) ⟨Nat.le_of_ble_eq_true rfl, Nat.le_of_ble_eq_true rfl⟩ ho.1 ho.2 rfl dX0_noteAxioms_44 ?_
    refine hv_as [.int x4] h rfl rfl ?_
    refine hv_istore [(4, .int x4), (0, .ref v0), (1, .int v1), (2, .int v2), (3, .int v3)] dX0_noteAxioms_47 (by decide) rfl ?_
    refine hv_iload 0 dX0_noteAxioms_49 rfl ?_
    refine hv_if_lt (tgt := 90) dX0_noteAxioms_51 (by decide) (fun c11 => ?_) (fun c11 => ?_)
    · rw [if_pos c11] at hm
      exact hv_sub [1, 2, 3, 4, 0] rfl (q_X0_noteAxioms_90 G n v0 v1 v2 v3 x4 h sz sl o ho _ hm kI kR)
    · rw [if_neg c11] at hm
      refine hv_aload_n 1 dX0_noteAxioms_54 rfl rfl ?_
      obtain ⟨x5, hx5, hm⟩ := hp_bd hm
      refine hv_get lk_f_X0_26 dX0_noteAxioms_55 (hp_fR_spec hx5) ?_
      refine hv_iload 0 dX0_noteAxioms_58 rfl ?_
      obtain ⟨x6, hx6, hm⟩ := hp_bd hm
      refine hv_iald dX0_noteAxioms_60 hx6 ?_
      refine hv_iconst (2 : Int32) dX0_noteAxioms_61 (by decide) ?_
      refine hv_icmp_ne (tgt := 90) dX0_noteAxioms_62 (by decide) (fun c10 => ?_) (fun c10 => ?_)
      · rw [if_neg c10] at hm
        exact hv_sub [1, 2, 3, 4, 0] rfl (q_X0_noteAxioms_90 G n v0 v1 v2 v3 x4 h sz sl o ho _ hm kI kR)
      · rw [if_pos c10] at hm
        refine hv_aload_n 1 dX0_noteAxioms_65 rfl rfl ?_
        obtain ⟨x7, hx7, hm⟩ := hp_bd hm
        refine hv_get lk_f_X0_66 dX0_noteAxioms_66 (hp_fR_spec hx7) ?_
        refine hv_iload_n 3 dX0_noteAxioms_69 rfl rfl ?_
        refine hv_iload 0 dX0_noteAxioms_70 rfl ?_
        refine hv_bipush (64 : Int32) dX0_noteAxioms_72 (by decide) ?_
        refine hv_idiv dX0_noteAxioms_74 (by decide) ?_
        refine hv_iadd dX0_noteAxioms_75 ?_
        refine hv_dup2_11 dX0_noteAxioms_76 rfl rfl ?_
        obtain ⟨x8, hx8, hm⟩ := hp_bd hm
        refine hv_lald dX0_noteAxioms_77 hx8 ?_
        refine hv_lconst (1 : Int64) dX0_noteAxioms_78 (by decide) ?_
        refine hv_iload 0 dX0_noteAxioms_79 rfl ?_
        refine hv_bipush (64 : Int32) dX0_noteAxioms_81 (by decide) ?_
        refine hv_irem dX0_noteAxioms_83 (by decide) ?_
        refine hv_lshl dX0_noteAxioms_84 ?_
        refine hv_lor dX0_noteAxioms_85 ?_
        obtain ⟨h9, hh9, hm⟩ := hp_bd hm
        refine hv_last dX0_noteAxioms_86 hh9 ?_
        refine hv_goto (tgt := 145) dX0_noteAxioms_87 (by decide) ?_
        exact hv_sub [1, 2, 3, 4] rfl (q_X0_noteAxioms_145 G n v0 v1 v2 v3 h9 sz sl o ho _ hm kI kR)
def fL_X0_noteAxioms_28 (n : Nat) (v0 : Nat) (v1 : Int32) (v2 : Int32) (s : Int32 × hp_H) : Option ((Int32 × hp_H) ⊕ (hp_H)) := f_X0_noteAxioms_28 n v0 v1 v2 s.1 s.2
theorem l_X0_noteAxioms_28 (G : hp_G) (n : Nat) (v0 : Nat) (v1 : Int32) (v2 : Int32) (sz sl : Nat) (o : hp_O) (ho : sz ≤ o.2.2.1 ∧ sl ≤ o.2.2.2) : ∀ (k : Nat) (s : Int32 × hp_H) (x : hp_H), hp_lp (fL_X0_noteAxioms_28 n v0 v1 v2) k s = some x → (∀ y : hp_H, x = y → o = (none, y, sz, sl)) → hp_V G m_X0_noteAxioms 28 [(0, .ref v0), (1, .int v1), (2, .int v2), (3, .int s.1)] [] s.2 sz sl o := by
  intro k
  induction k with
  | zero => intro s x hx; exact (hp_lp_0 hx).elim
  | succ k ih =>
    intro s x hx k0
    obtain ⟨r, hr, hc⟩ := hp_lp_1 hx
    refine q_X0_noteAxioms_28 G n v0 v1 v2 s.1 s.2 sz sl o ho r hr (fun s2 e => ?_) (fun y e => ?_)
    · rcases hc with ⟨s3, e3, hx3⟩ | e3
      · have e4 := Sum.inl.inj (e.symm.trans e3)
        subst e4
        exact ih _ _ hx3 k0
      · cases (e.symm.trans e3)
    · rcases hc with ⟨s3, e3, hx3⟩ | e3
      · cases (e.symm.trans e3)
      · exact k0 y (Sum.inr.inj (e3.symm.trans e))
def f_X0_noteAxioms_0 (n : Nat) (v0 : Nat) (v1 : Int32) (h : hp_H) : Option (hp_H) :=
  (hp_lp (fL_X0_noteAxioms_6 n v0 v1 (v1 * (4 : Int32))) n ((0 : Int32), h)).bind fun x1 =>
  (hp_lp (fL_X0_noteAxioms_28 n v0 v1 (v1 * (4 : Int32))) n ((0 : Int32), x1)).bind fun x3 =>
  some x3
set_option maxHeartbeats 1000000 in
set_option maxRecDepth 4000 in
theorem q_X0_noteAxioms_0 (G : hp_G) (n : Nat) (v0 : Nat) (v1 : Int32) (h : hp_H) (sz sl : Nat) (res : hp_H) (hm : f_X0_noteAxioms_0 n v0 v1 h = some res) : hp_V G m_X0_noteAxioms 0 [(0, .ref v0), (1, .int v1)] [] h sz sl (none, res, sz, sl) := by
  have ho : sz ≤ sz ∧ sl ≤ sl := ⟨Nat.le_refl _, Nat.le_refl _⟩
  unfold f_X0_noteAxioms_0 at hm
  refine hv_iload_n 1 dX0_noteAxioms_0 rfl rfl ?_
  refine hv_iconst (4 : Int32) dX0_noteAxioms_1 (by decide) ?_
  refine hv_imul dX0_noteAxioms_2 ?_
  refine hv_istore_n [(2, .int (v1 * (4 : Int32))), (0, .ref v0), (1, .int v1)] dX0_noteAxioms_3 rfl (by decide) rfl ?_
  refine hv_iconst (0 : Int32) dX0_noteAxioms_4 (by decide) ?_
  refine hv_istore_n [(3, .int (0 : Int32)), (2, .int (v1 * (4 : Int32))), (0, .ref v0), (1, .int v1)] dX0_noteAxioms_5 rfl (by decide) rfl ?_
  obtain ⟨x1, hx1, hm⟩ := hp_bd hm
  refine hv_sub [2, 3, 1, 0] rfl (l_X0_noteAxioms_6 G n v0 v1 (v1 * (4 : Int32)) sz sl _ ho n _ _ hx1 (fun y2 ey2 => ?_))
  · skip
    subst ey2
    refine hv_iconst (0 : Int32) dX0_noteAxioms_26 (by decide) ?_
    refine hv_istore_n [(3, .int (0 : Int32)), (0, .ref v0), (1, .int v1), (2, .int (v1 * (4 : Int32)))] dX0_noteAxioms_27 rfl (by decide) rfl ?_
    obtain ⟨x3, hx3, hm⟩ := hp_bd hm
    refine hv_sub [1, 2, 3, 0] rfl (l_X0_noteAxioms_28 G n v0 v1 (v1 * (4 : Int32)) sz sl _ ho n _ _ hx3 (fun y4 ey4 => ?_))
    · skip
      subst ey4
      obtain rfl := Option.some.inj hm
      rfl
def f_X0_noteAxioms (n : Nat) (v0 : Nat) (v1 : Int32) (h : hp_H) : Option (hp_H) := (hp_ck h 0 v0).bind fun _ => f_X0_noteAxioms_0 n v0 v1 h
theorem c_X0_noteAxioms (G : hp_G) (n : Nat) (v0 : Nat) (v1 : Int32) (h : hp_H) (sz sl : Nat) (res : hp_H) (hm : f_X0_noteAxioms n v0 v1 h = some res) : hp_C G m_X0_noteAxioms yX0_noteAxioms [.ref v0, .int v1] h sz sl (none, res, sz, sl) := by
  unfold f_X0_noteAxioms at hm
  obtain ⟨_, _, hm⟩ := hp_bd hm
  exact hp_C_of (by decide) rfl rfl (Nat.le_of_ble_eq_true rfl) (Nat.le_refl _) (Nat.le_refl _) (hv_sub [0, 1] rfl (q_X0_noteAxioms_0 G n v0 v1 h sz sl res hm))
theorem k_X0_noteAxioms {n : Nat} {v0 : Nat} {v1 : Int32} {h : hp_H} {res : hp_H} (hm : f_X0_noteAxioms n v0 v1 h = some res) : ∃ V, h v0 = some (.inr (.inr (0, V))) := by
  unfold f_X0_noteAxioms at hm
  obtain ⟨_, hu, _⟩ := hp_bd hm
  exact hp_ck_spec hu
abbrev m_X0_axiomUnder : hp_M := (RX0, cX0_axiomUnder, 7, some .int, 0, 0, "axiomUnder")
theorem Z_X0_axiomUnder : hp_Y yX0_axiomUnder m_X0_axiomUnder 2 := Y_X0_axiomUnder
def f_X0_axiomUnder_56 (n : Nat) (v0 : Nat) (v1 : Int32) (v3 : Int32) (v4 : Int32) (h : hp_H) : Option ((Int32 × Int32) ⊕ (Int32)) :=
  some (.inl (v3, (v4 + (1 : Int32))))
set_option maxHeartbeats 1000000 in
set_option maxRecDepth 4000 in
theorem q_X0_axiomUnder_56 (G : hp_G) (n : Nat) (v0 : Nat) (v1 : Int32) (v3 : Int32) (v4 : Int32) (h : hp_H) (sz sl : Nat) (o : hp_O) (ho : sz ≤ o.2.2.1 ∧ sl ≤ o.2.2.2) (res : (Int32 × Int32) ⊕ (Int32)) (hm : f_X0_axiomUnder_56 n v0 v1 v3 v4 h = some res) (kI : ∀ y : Int32 × Int32, res = .inl y → hp_V G m_X0_axiomUnder 5 [(0, .ref v0), (1, .int v1), (3, .int y.1), (4, .int y.2)] [] h sz sl o) (kR : ∀ y : Int32, res = .inr y → o = (some (.int y), h, sz, sl)) : hp_V G m_X0_axiomUnder 56 [(0, .ref v0), (1, .int v1), (3, .int v3), (4, .int v4)] [] h sz sl o := by
  unfold f_X0_axiomUnder_56 at hm
  refine hv_iinc (v4 + (1 : Int32)) 3 [(4, .int (v4 + (1 : Int32))), (0, .ref v0), (1, .int v1), (3, .int v3)] dX0_axiomUnder_56 rfl rfl (by decide) rfl ?_
  refine hv_goto (tgt := 5) dX0_axiomUnder_59 (by decide) ?_
  exact hv_sub [1, 2, 3, 0] rfl (kI (v3, (v4 + (1 : Int32))) (Option.some.inj hm).symm)
def f_X0_axiomUnder_5 (n : Nat) (v0 : Nat) (v1 : Int32) (v3 : Int32) (v4 : Int32) (h : hp_H) : Option ((Int32 × Int32) ⊕ (Int32)) :=
  if v1 ≤ v4 then
    some (.inr (-2 : Int32))
  else
    if v3 < 0 then
      some (.inr (-2 : Int32))
    else
      (hp_fR h 0 v0 17).bind fun x1 =>
      (hp_aJ h x1 ((v1 * (4 : Int32)) + (v4 / (64 : Int32)))).bind fun x2 =>
      if (lg_cmp (((Int64.toUInt64 x2 >>> (Int64.toUInt64 (Int32.toInt64 (v4 - v4 / (64 : Int32) * (64 : Int32))) &&& Int64.toUInt64 63)).toInt64) &&& (1 : Int64)) (0 : Int64)) = 0 then
        f_X0_axiomUnder_56 n v0 v1 v3 v4 h
      else
        if v3 = 0 then
          some (.inr v4)
        else
          f_X0_axiomUnder_56 n v0 v1 (v3 + (-1 : Int32)) v4 h
set_option maxHeartbeats 1000000 in
set_option maxRecDepth 4000 in
theorem q_X0_axiomUnder_5 (G : hp_G) (n : Nat) (v0 : Nat) (v1 : Int32) (v3 : Int32) (v4 : Int32) (h : hp_H) (sz sl : Nat) (o : hp_O) (ho : sz ≤ o.2.2.1 ∧ sl ≤ o.2.2.2) (res : (Int32 × Int32) ⊕ (Int32)) (hm : f_X0_axiomUnder_5 n v0 v1 v3 v4 h = some res) (kI : ∀ y : Int32 × Int32, res = .inl y → hp_V G m_X0_axiomUnder 5 [(0, .ref v0), (1, .int v1), (3, .int y.1), (4, .int y.2)] [] h sz sl o) (kR : ∀ y : Int32, res = .inr y → o = (some (.int y), h, sz, sl)) : hp_V G m_X0_axiomUnder 5 [(0, .ref v0), (1, .int v1), (3, .int v3), (4, .int v4)] [] h sz sl o := by
  unfold f_X0_axiomUnder_5 at hm
  refine hv_iload 3 dX0_axiomUnder_5 rfl ?_
  refine hv_iload_n 1 dX0_axiomUnder_7 rfl rfl ?_
  refine hv_icmp_ge (tgt := 62) dX0_axiomUnder_8 (by decide) (fun c6 => ?_) (fun c6 => ?_)
  · rw [if_pos c6] at hm
    refine hv_bipush (-2 : Int32) dX0_axiomUnder_62 (by decide) ?_
    obtain rfl := kR _ (Option.some.inj hm).symm
    exact hv_iret rfl dX0_axiomUnder_64
  · rw [if_neg c6] at hm
    refine hv_iload_n 2 dX0_axiomUnder_11 rfl rfl ?_
    refine hv_if_lt (tgt := 62) dX0_axiomUnder_12 (by decide) (fun c5 => ?_) (fun c5 => ?_)
    · rw [if_pos c5] at hm
      refine hv_bipush (-2 : Int32) dX0_axiomUnder_62 (by decide) ?_
      obtain rfl := kR _ (Option.some.inj hm).symm
      exact hv_iret rfl dX0_axiomUnder_64
    · rw [if_neg c5] at hm
      refine hv_aload_n 0 dX0_axiomUnder_15 rfl rfl ?_
      obtain ⟨x1, hx1, hm⟩ := hp_bd hm
      refine hv_get lk_f_X0_66 dX0_axiomUnder_16 (hp_fR_spec hx1) ?_
      refine hv_iload_n 1 dX0_axiomUnder_19 rfl rfl ?_
      refine hv_iconst (4 : Int32) dX0_axiomUnder_20 (by decide) ?_
      refine hv_imul dX0_axiomUnder_21 ?_
      refine hv_iload 3 dX0_axiomUnder_22 rfl ?_
      refine hv_bipush (64 : Int32) dX0_axiomUnder_24 (by decide) ?_
      refine hv_idiv dX0_axiomUnder_26 (by decide) ?_
      refine hv_iadd dX0_axiomUnder_27 ?_
      obtain ⟨x2, hx2, hm⟩ := hp_bd hm
      refine hv_lald dX0_axiomUnder_28 hx2 ?_
      refine hv_lstore [(5, .long x2), (0, .ref v0), (1, .int v1), (3, .int v3), (4, .int v4)] dX0_axiomUnder_29 (by decide) rfl ?_
      refine hv_lload 0 dX0_axiomUnder_31 rfl ?_
      refine hv_iload 4 dX0_axiomUnder_33 rfl ?_
      refine hv_bipush (64 : Int32) dX0_axiomUnder_35 (by decide) ?_
      refine hv_irem dX0_axiomUnder_37 (by decide) ?_
      refine hv_lushr dX0_axiomUnder_38 ?_
      refine hv_lconst (1 : Int64) dX0_axiomUnder_39 (by decide) ?_
      refine hv_land dX0_axiomUnder_40 ?_
      refine hv_lconst (0 : Int64) dX0_axiomUnder_41 (by decide) ?_
      refine hv_lcmp dX0_axiomUnder_42 ?_
      refine hv_if_eq (tgt := 56) dX0_axiomUnder_43 (by decide) (fun c4 => ?_) (fun c4 => ?_)
      · rw [if_pos c4] at hm
        exact hv_sub [1, 2, 3, 4] rfl (q_X0_axiomUnder_56 G n v0 v1 v3 v4 h sz sl o ho _ hm kI kR)
      · rw [if_neg c4] at hm
        refine hv_iload_n 3 dX0_axiomUnder_46 rfl rfl ?_
        refine hv_if_ne (tgt := 53) dX0_axiomUnder_47 (by decide) (fun c3 => ?_) (fun c3 => ?_)
        · rw [if_neg c3] at hm
          refine hv_iinc (v3 + (-1 : Int32)) 3 [(3, .int (v3 + (-1 : Int32))), (5, .long x2), (0, .ref v0), (1, .int v1), (4, .int v4)] dX0_axiomUnder_53 rfl rfl (by decide) rfl ?_
          exact hv_sub [2, 3, 0, 4] rfl (q_X0_axiomUnder_56 G n v0 v1 (v3 + (-1 : Int32)) v4 h sz sl o ho _ hm kI kR)
        · rw [if_pos c3] at hm
          refine hv_iload 4 dX0_axiomUnder_50 rfl ?_
          obtain rfl := kR _ (Option.some.inj hm).symm
          exact hv_iret rfl dX0_axiomUnder_52
def fL_X0_axiomUnder_5 (n : Nat) (v0 : Nat) (v1 : Int32) (h : hp_H) (s : Int32 × Int32) : Option ((Int32 × Int32) ⊕ (Int32)) := f_X0_axiomUnder_5 n v0 v1 s.1 s.2 h
theorem l_X0_axiomUnder_5 (G : hp_G) (n : Nat) (v0 : Nat) (v1 : Int32) (h : hp_H) (sz sl : Nat) (o : hp_O) (ho : sz ≤ o.2.2.1 ∧ sl ≤ o.2.2.2) : ∀ (k : Nat) (s : Int32 × Int32) (x : Int32), hp_lp (fL_X0_axiomUnder_5 n v0 v1 h) k s = some x → (∀ y : Int32, x = y → o = (some (.int y), h, sz, sl)) → hp_V G m_X0_axiomUnder 5 [(0, .ref v0), (1, .int v1), (3, .int s.1), (4, .int s.2)] [] h sz sl o := by
  intro k
  induction k with
  | zero => intro s x hx; exact (hp_lp_0 hx).elim
  | succ k ih =>
    intro s x hx k0
    obtain ⟨r, hr, hc⟩ := hp_lp_1 hx
    refine q_X0_axiomUnder_5 G n v0 v1 s.1 s.2 h sz sl o ho r hr (fun s2 e => ?_) (fun y e => ?_)
    · rcases hc with ⟨s3, e3, hx3⟩ | e3
      · have e4 := Sum.inl.inj (e.symm.trans e3)
        subst e4
        exact ih _ _ hx3 k0
      · cases (e.symm.trans e3)
    · rcases hc with ⟨s3, e3, hx3⟩ | e3
      · cases (e.symm.trans e3)
      · exact k0 y (Sum.inr.inj (e3.symm.trans e))
def f_X0_axiomUnder_0 (n : Nat) (v0 : Nat) (v1 : Int32) (v2 : Int32) (h : hp_H) : Option (Int32) :=
  (hp_lp (fL_X0_axiomUnder_5 n v0 v1 h) n (v2, (0 : Int32))).bind fun x1 =>
  some x1
set_option maxHeartbeats 1000000 in
set_option maxRecDepth 4000 in
theorem q_X0_axiomUnder_0 (G : hp_G) (n : Nat) (v0 : Nat) (v1 : Int32) (v2 : Int32) (h : hp_H) (sz sl : Nat) (res : Int32) (hm : f_X0_axiomUnder_0 n v0 v1 v2 h = some res) : hp_V G m_X0_axiomUnder 0 [(0, .ref v0), (1, .int v1), (2, .int v2)] [] h sz sl (some (.int res), h, sz, sl) := by
  have ho : sz ≤ sz ∧ sl ≤ sl := ⟨Nat.le_refl _, Nat.le_refl _⟩
  unfold f_X0_axiomUnder_0 at hm
  refine hv_iload_n 2 dX0_axiomUnder_0 rfl rfl ?_
  refine hv_istore_n [(3, .int v2), (0, .ref v0), (1, .int v1), (2, .int v2)] dX0_axiomUnder_1 rfl (by decide) rfl ?_
  refine hv_iconst (0 : Int32) dX0_axiomUnder_2 (by decide) ?_
  refine hv_istore [(4, .int (0 : Int32)), (3, .int v2), (0, .ref v0), (1, .int v1), (2, .int v2)] dX0_axiomUnder_3 (by decide) rfl ?_
  obtain ⟨x1, hx1, hm⟩ := hp_bd hm
  refine hv_sub [2, 3, 1, 0] rfl (l_X0_axiomUnder_5 G n v0 v1 h sz sl _ ho n _ _ hx1 (fun y2 ey2 => ?_))
  · skip
    subst ey2
    obtain rfl := Option.some.inj hm
    rfl
def f_X0_axiomUnder (n : Nat) (v0 : Nat) (v1 : Int32) (v2 : Int32) (h : hp_H) : Option (Int32) := (hp_ck h 0 v0).bind fun _ => f_X0_axiomUnder_0 n v0 v1 v2 h
theorem c_X0_axiomUnder (G : hp_G) (n : Nat) (v0 : Nat) (v1 : Int32) (v2 : Int32) (h : hp_H) (sz sl : Nat) (res : Int32) (hm : f_X0_axiomUnder n v0 v1 v2 h = some res) : hp_C G m_X0_axiomUnder yX0_axiomUnder [.ref v0, .int v1, .int v2] h sz sl (some (.int res), h, sz, sl) := by
  unfold f_X0_axiomUnder at hm
  obtain ⟨_, _, hm⟩ := hp_bd hm
  exact hp_C_of (by decide) rfl rfl (Nat.le_of_ble_eq_true rfl) (Nat.le_refl _) (Nat.le_refl _) (hv_sub [0, 1, 2] rfl (q_X0_axiomUnder_0 G n v0 v1 v2 h sz sl res hm))
theorem k_X0_axiomUnder {n : Nat} {v0 : Nat} {v1 : Int32} {v2 : Int32} {h : hp_H} {res : Int32} (hm : f_X0_axiomUnder n v0 v1 v2 h = some res) : ∃ V, h v0 = some (.inr (.inr (0, V))) := by
  unfold f_X0_axiomUnder at hm
  obtain ⟨_, hu, _⟩ := hp_bd hm
  exact hp_ck_spec hu
