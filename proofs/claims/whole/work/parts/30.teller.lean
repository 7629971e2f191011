abbrev m_X9_init : hp_M := (RX9, cX9_init, 3, none, 2, 51, "<init>")
theorem Z_X9_init : hp_Y yX9_init m_X9_init 2 := Y_X9_init
def f_X9_init_104 (n : Nat) (v0 : Nat) (v1 : Nat) (v2 : Nat) (s0 : Nat) (s1 : Nat) (h : hp_H) (sz sl : Nat) : Option (hp_H × Nat × Nat) :=
  (hp_pF h 9 s1 16 (.ref s0)).bind fun h1 =>
  (hp_pF h1 9 v0 0 (.ref v1)).bind fun h2 =>
  (hp_pF h2 9 v0 1 (.ref v2)).bind fun h3 =>
  some (h3, sz, sl)
set_option maxHeartbeats 1000000 in
set_option maxRecDepth 4000 in
theorem mo_X9_init_104 {n : Nat} {v0 : Nat} {v1 : Nat} {v2 : Nat} {s0 : Nat} {s1 : Nat} {h : hp_H} {sz sl : Nat} {res : hp_H × Nat × Nat} (hm : f_X9_init_104 n v0 v1 v2 s0 s1 h sz sl = some res) : sz ≤ res.2.1 ∧ sl ≤ res.2.2 := by
  unfold f_X9_init_104 at hm
  obtain ⟨h1, hh1, hm⟩ := hp_bd hm
  obtain ⟨h2, hh2, hm⟩ := hp_bd hm
  obtain ⟨h3, hh3, hm⟩ := hp_bd hm
  obtain rfl := Option.some.inj hm
  exact ⟨Nat.le_refl _, Nat.le_refl _⟩
set_option maxHeartbeats 1000000 in
set_option maxRecDepth 4000 in
theorem q_X9_init_104 (G : hp_G) (n : Nat) (v0 : Nat) (v1 : Nat) (v2 : Nat) (s0 : Nat) (s1 : Nat) (h : hp_H) (sz sl : Nat) (res : hp_H × Nat × Nat) (hm : f_X9_init_104 n v0 v1 v2 s0 s1 h sz sl = some res) : hp_V G m_X9_init 104 [(0, .ref v0), (1, .ref v1), (2, .ref v2)] [.ref s0, .ref s1] h sz sl (none, res.1, res.2.1, res.2.2) := by
  have ho := mo_X9_init_104 hm
  unfold f_X9_init_104 at hm
  obtain ⟨h1, hh1, hm⟩ := hp_bd hm
  refine hv_putF lk_f_X9_48 (by intro C T N e; cases e; rfl) rfl dX9_init_104 rfl rfl hh1 ?_
  refine hv_aload_n 0 dX9_init_107 rfl rfl ?_
  refine hv_aload_n 1 dX9_init_108 rfl rfl ?_
  obtain ⟨h2, hh2, hm⟩ := hp_bd hm
  refine hv_put lk_f_X9_51 dX9_init_109 rfl rfl hh2 ?_
  refine hv_aload_n 0 dX9_init_112 rfl rfl ?_
  refine hv_aload_n 2 dX9_init_113 rfl rfl ?_
  obtain ⟨h3, hh3, hm⟩ := hp_bd hm
  refine hv_put lk_f_X9_55 dX9_init_114 rfl rfl hh3 ?_
  obtain rfl := Option.some.inj hm
  exact hv_vret rfl dX9_init_117
def f_X9_init_96 (n : Nat) (v0 : Nat) (v1 : Nat) (v2 : Nat) (s0 : Nat) (s1 : Nat) (h : hp_H) (sz sl : Nat) : Option (hp_H × Nat × Nat) :=
  (hp_pF h 9 s1 14 (.ref s0)).bind fun h1 =>
  f_X9_init_104 n v0 v1 v2 sz v0 (hp_na h1 sz 0 16) (sz + 1) (sl + 16)
set_option maxHeartbeats 1000000 in
set_option maxRecDepth 4000 in
theorem mo_X9_init_96 {n : Nat} {v0 : Nat} {v1 : Nat} {v2 : Nat} {s0 : Nat} {s1 : Nat} {h : hp_H} {sz sl : Nat} {res : hp_H × Nat × Nat} (hm : f_X9_init_96 n v0 v1 v2 s0 s1 h sz sl = some res) : sz ≤ res.2.1 ∧ sl ≤ res.2.2 := by
  unfold f_X9_init_96 at hm
  obtain ⟨h1, hh1, hm⟩ := hp_bd hm
  exact hp_tr ⟨Nat.le_add_right _ _, Nat.le_add_right _ _⟩ (mo_X9_init_104 hm)
set_option maxHeartbeats 1000000 in
set_option maxRecDepth 4000 in
theorem q_X9_init_96 (G : hp_G) (n : Nat) (v0 : Nat) (v1 : Nat) (v2 : Nat) (s0 : Nat) (s1 : Nat) (h : hp_H) (sz sl : Nat) (res : hp_H × Nat × Nat) (hm : f_X9_init_96 n v0 v1 v2 s0 s1 h sz sl = some res) : hp_V G m_X9_init 96 [(0, .ref v0), (1, .ref v1), (2, .ref v2)] [.ref s0, .ref s1] h sz sl (none, res.1, res.2.1, res.2.2) := by
  have ho := mo_X9_init_96 hm
  unfold f_X9_init_96 at hm
  obtain ⟨h1, hh1, hm⟩ := hp_bd hm
  refine hv_putF lk_f_X9_45 (by intro C T N e; cases e; rfl) rfl dX9_init_96 rfl rfl hh1 ?_
  refine hv_aload_n 0 dX9_init_99 rfl rfl ?_
  refine hv_bipush (16 : Int32) dX9_init_100 (by decide) ?_
  have hq := mo_X9_init_104 hm
  refine hv_newI (N := 16) ac_int (by decide) (by decide) dX9_init_102 hq.1 hq.2 ?_
  exact hv_sub [0, 1, 2] rfl (q_X9_init_104 G n v0 v1 v2 sz v0 (hp_na h1 sz 0 16) (sz + 1) (sl + 16) _ hm)
def f_X9_init_87 (n : Nat) (v0 : Nat) (v1 : Nat) (v2 : Nat) (s0 : Nat) (s1 : Nat) (h : hp_H) (sz sl : Nat) : Option (hp_H × Nat × Nat) :=
  (hp_pF h 9 s1 13 (.ref s0)).bind fun h1 =>
  f_X9_init_96 n v0 v1 v2 sz v0 (hp_na h1 sz 0 1000) (sz + 1) (sl + 1000)
set_option maxHeartbeats 1000000 in
set_option maxRecDepth 4000 in
theorem mo_X9_init_87 {n : Nat} {v0 : Nat} {v1 : Nat} {v2 : Nat} {s0 : Nat} {s1 : Nat} {h : hp_H} {sz sl : Nat} {res : hp_H × Nat × Nat} (hm : f_X9_init_87 n v0 v1 v2 s0 s1 h sz sl = some res) : sz ≤ res.2.1 ∧ sl ≤ res.2.2 := by
  unfold f_X9_init_87 at hm
  obtain ⟨h1, hh1, hm⟩ := hp_bd hm
  exact hp_tr ⟨Nat.le_add_right _ _, Nat.le_add_right _ _⟩ (mo_X9_init_96 hm)
set_option maxHeartbeats 1000000 in
set_option maxRecDepth 4000 in
theorem q_X9_init_87 (G : hp_G) (n : Nat) (v0 : Nat) (v1 : Nat) (v2 : Nat) (s0 : Nat) (s1 : Nat) (h : hp_H) (sz sl : Nat) (res : hp_H × Nat × Nat) (hm : f_X9_init_87 n v0 v1 v2 s0 s1 h sz sl = some res) : hp_V G m_X9_init 87 [(0, .ref v0), (1, .ref v1), (2, .ref v2)] [.ref s0, .ref s1] h sz sl (none, res.1, res.2.1, res.2.2) := by
  have ho := mo_X9_init_87 hm
  unfold f_X9_init_87 at hm
  obtain ⟨h1, hh1, hm⟩ := hp_bd hm
  refine hv_putF lk_f_X9_42 (by intro C T N e; cases e; rfl) rfl dX9_init_87 rfl rfl hh1 ?_
  refine hv_aload_n 0 dX9_init_90 rfl rfl ?_
  refine hv_sipush (1000 : Int32) dX9_init_91 (by decide) ?_
  have hq := mo_X9_init_96 hm
  refine hv_newI (N := 1000) ac_int (by decide) (by decide) dX9_init_94 hq.1 hq.2 ?_
  exact hv_sub [0, 1, 2] rfl (q_X9_init_96 G n v0 v1 v2 sz v0 (hp_na h1 sz 0 1000) (sz + 1) (sl + 1000) _ hm)
def f_X9_init_78 (n : Nat) (v0 : Nat) (v1 : Nat) (v2 : Nat) (s0 : Nat) (s1 : Nat) (h : hp_H) (sz sl : Nat) : Option (hp_H × Nat × Nat) :=
  (hp_pF h 9 s1 11 (.ref s0)).bind fun h1 =>
  f_X9_init_87 n v0 v1 v2 sz v0 (hp_na h1 sz 0 200) (sz + 1) (sl + 200)
set_option maxHeartbeats 1000000 in
set_option maxRecDepth 4000 in
theorem mo_X9_init_78 {n : Nat} {v0 : Nat} {v1 : Nat} {v2 : Nat} {s0 : Nat} {s1 : Nat} {h : hp_H} {sz sl : Nat} {res : hp_H × Nat × Nat} (hm : f_X9_init_78 n v0 v1 v2 s0 s1 h sz sl = some res) : sz ≤ res.2.1 ∧ sl ≤ res.2.2 := by
  unfold f_X9_init_78 at hm
  obtain ⟨h1, hh1, hm⟩ := hp_bd hm
  exact hp_tr ⟨Nat.le_add_right _ _, Nat.le_add_right _ _⟩ (mo_X9_init_87 hm)
set_option maxHeartbeats 1000000 in
set_option maxRecDepth 4000 in
theorem q_X9_init_78 (G : hp_G) (n : Nat) (v0 : Nat) (v1 : Nat) (v2 : Nat) (s0 : Nat) (s1 : Nat) (h : hp_H) (sz sl : Nat) (res : hp_H × Nat × Nat) (hm : f_X9_init_78 n v0 v1 v2 s0 s1 h sz sl = some res) : hp_V G m_X9_init 78 [(0, .ref v0), (1, .ref v1), (2, .ref v2)] [.ref s0, .ref s1] h sz sl (none, res.1, res.2.1, res.2.2) := by
  have ho := mo_X9_init_78 hm
  unfold f_X9_init_78 at hm
  obtain ⟨h1, hh1, hm⟩ := hp_bd hm
  refine hv_putF lk_f_X9_39 (by intro C T N e; cases e; rfl) rfl dX9_init_78 rfl rfl hh1 ?_
  refine hv_aload_n 0 dX9_init_81 rfl rfl ?_
  refine hv_sipush (200 : Int32) dX9_init_82 (by decide) ?_
  have hq := mo_X9_init_87 hm
  refine hv_newI (N := 200) ac_int (by decide) (by decide) dX9_init_85 hq.1 hq.2 ?_
  exact hv_sub [0, 1, 2] rfl (q_X9_init_87 G n v0 v1 v2 sz v0 (hp_na h1 sz 0 200) (sz + 1) (sl + 200) _ hm)
def f_X9_init_69 (n : Nat) (v0 : Nat) (v1 : Nat) (v2 : Nat) (s0 : Nat) (s1 : Nat) (h : hp_H) (sz sl : Nat) : Option (hp_H × Nat × Nat) :=
  (hp_pF h 9 s1 10 (.ref s0)).bind fun h1 =>
  f_X9_init_78 n v0 v1 v2 sz v0 (hp_na h1 sz 0 1000) (sz + 1) (sl + 1000)
set_option maxHeartbeats 1000000 in
set_option maxRecDepth 4000 in
theorem mo_X9_init_69 {n : Nat} {v0 : Nat} {v1 : Nat} {v2 : Nat} {s0 : Nat} {s1 : Nat} {h : hp_H} {sz sl : Nat} {res : hp_H × Nat × Nat} (hm : f_X9_init_69 n v0 v1 v2 s0 s1 h sz sl = some res) : sz ≤ res.2.1 ∧ sl ≤ res.2.2 := by
  unfold f_X9_init_69 at hm
  obtain ⟨h1, hh1, hm⟩ := hp_bd hm
  exact hp_tr ⟨Nat.le_add_right _ _, Nat.le_add_right _ _⟩ (mo_X9_init_78 hm)
set_option maxHeartbeats 1000000 in
set_option maxRecDepth 4000 in
theorem q_X9_init_69 (G : hp_G) (n : Nat) (v0 : Nat) (v1 : Nat) (v2 : Nat) (s0 : Nat) (s1 : Nat) (h : hp_H) (sz sl : Nat) (res : hp_H × Nat × Nat) (hm : f_X9_init_69 n v0 v1 v2 s0 s1 h sz sl = some res) : hp_V G m_X9_init 69 [(0, .ref v0), (1, .ref v1), (2, .ref v2)] [.ref s0, .ref s1] h sz sl (none, res.1, res.2.1, res.2.2) := by
  have ho := mo_X9_init_69 hm
  unfold f_X9_init_69 at hm
  obtain ⟨h1, hh1, hm⟩ := hp_bd hm
  refine hv_putF lk_f_X9_36 (by intro C T N e; cases e; rfl) rfl dX9_init_69 rfl rfl hh1 ?_
  refine hv_aload_n 0 dX9_init_72 rfl rfl ?_
  refine hv_sipush (1000 : Int32) dX9_init_73 (by decide) ?_
  have hq := mo_X9_init_78 hm
  refine hv_newI (N := 1000) ac_int (by decide) (by decide) dX9_init_76 hq.1 hq.2 ?_
  exact hv_sub [0, 1, 2] rfl (q_X9_init_78 G n v0 v1 v2 sz v0 (hp_na h1 sz 0 1000) (sz + 1) (sl + 1000) _ hm)
def f_X9_init_60 (n : Nat) (v0 : Nat) (v1 : Nat) (v2 : Nat) (s0 : Nat) (s1 : Nat) (h : hp_H) (sz sl : Nat) : Option (hp_H × Nat × Nat) :=
  (hp_pF h 9 s1 9 (.ref s0)).bind fun h1 =>
  f_X9_init_69 n v0 v1 v2 sz v0 (hp_na h1 sz 0 1000) (sz + 1) (sl + 1000)
set_option maxHeartbeats 1000000 in
set_option maxRecDepth 4000 in
theorem mo_X9_init_60 {n : Nat} {v0 : Nat} {v1 : Nat} {v2 : Nat} {s0 : Nat} {s1 : Nat} {h : hp_H} {sz sl : Nat} {res : hp_H × Nat × Nat} (hm : f_X9_init_60 n v0 v1 v2 s0 s1 h sz sl = some res) : sz ≤ res.2.1 ∧ sl ≤ res.2.2 := by
  unfold f_X9_init_60 at hm
  obtain ⟨h1, hh1, hm⟩ := hp_bd hm
  exact hp_tr ⟨Nat.le_add_right _ _, Nat.le_add_right _ _⟩ (mo_X9_init_69 hm)
set_option maxHeartbeats 1000000 in
set_option maxRecDepth 4000 in
theorem q_X9_init_60 (G : hp_G) (n : Nat) (v0 : Nat) (v1 : Nat) (v2 : Nat) (s0 : Nat) (s1 : Nat) (h : hp_H) (sz sl : Nat) (res : hp_H × Nat × Nat) (hm : f_X9_init_60 n v0 v1 v2 s0 s1 h sz sl = some res) : hp_V G m_X9_init 60 [(0, .ref v0), (1, .ref v1), (2, .ref v2)] [.ref s0, .ref s1] h sz sl (none, res.1, res.2.1, res.2.2) := by
  have ho := mo_X9_init_60 hm
  unfold f_X9_init_60 at hm
  obtain ⟨h1, hh1, hm⟩ := hp_bd hm
  refine hv_putF lk_f_X9_33 (by intro C T N e; cases e; rfl) rfl dX9_init_60 rfl rfl hh1 ?_
  refine hv_aload_n 0 dX9_init_63 rfl rfl ?_
  refine hv_sipush (1000 : Int32) dX9_init_64 (by decide) ?_
  have hq := mo_X9_init_69 hm
  refine hv_newI (N := 1000) ac_int (by decide) (by decide) dX9_init_67 hq.1 hq.2 ?_
  exact hv_sub [0, 1, 2] rfl (q_X9_init_69 G n v0 v1 v2 sz v0 (hp_na h1 sz 0 1000) (sz + 1) (sl + 1000) _ hm)
def f_X9_init_51 (n : Nat) (v0 : Nat) (v1 : Nat) (v2 : Nat) (s0 : Nat) (s1 : Nat) (h : hp_H) (sz sl : Nat) : Option (hp_H × Nat × Nat) :=
  (hp_pF h 9 s1 8 (.ref s0)).bind fun h1 =>
  f_X9_init_60 n v0 v1 v2 sz v0 (hp_na h1 sz 0 200) (sz + 1) (sl + 200)
set_option maxHeartbeats 1000000 in
set_option maxRecDepth 4000 in
theorem mo_X9_init_51 {n : Nat} {v0 : Nat} {v1 : Nat} {v2 : Nat} {s0 : Nat} {s1 : Nat} {h : hp_H} {sz sl : Nat} {res : hp_H × Nat × Nat} (hm : f_X9_init_51 n v0 v1 v2 s0 s1 h sz sl = some res) : sz ≤ res.2.1 ∧ sl ≤ res.2.2 := by
  unfold f_X9_init_51 at hm
  obtain ⟨h1, hh1, hm⟩ := hp_bd hm
  exact hp_tr ⟨Nat.le_add_right _ _, Nat.le_add_right _ _⟩ (mo_X9_init_60 hm)
set_option maxHeartbeats 1000000 in
set_option maxRecDepth 4000 in
theorem q_X9_init_51 (G : hp_G) (n : Nat) (v0 : Nat) (v1 : Nat) (v2 : Nat) (s0 : Nat) (s1 : Nat) (h : hp_H) (sz sl : Nat) (res : hp_H × Nat × Nat) (hm : f_X9_init_51 n v0 v1 v2 s0 s1 h sz sl = some res) : hp_V G m_X9_init 51 [(0, .ref v0), (1, .ref v1), (2, .ref v2)] [.ref s0, .ref s1] h sz sl (none, res.1, res.2.1, res.2.2) := by
  have ho := mo_X9_init_51 hm
  unfold f_X9_init_51 at hm
  obtain ⟨h1, hh1, hm⟩ := hp_bd hm
  refine hv_putF lk_f_X9_30 (by intro C T N e; cases e; rfl) rfl dX9_init_51 rfl rfl hh1 ?_
  refine hv_aload_n 0 dX9_init_54 rfl rfl ?_
  refine hv_sipush (200 : Int32) dX9_init_55 (by decide) ?_
  have hq := mo_X9_init_60 hm
  refine hv_newI (N := 200) ac_int (by decide) (by decide) dX9_init_58 hq.1 hq.2 ?_
  exact hv_sub [0, 1, 2] rfl (q_X9_init_60 G n v0 v1 v2 sz v0 (hp_na h1 sz 0 200) (sz + 1) (sl + 200) _ hm)
def f_X9_init_42 (n : Nat) (v0 : Nat) (v1 : Nat) (v2 : Nat) (s0 : Nat) (s1 : Nat) (h : hp_H) (sz sl : Nat) : Option (hp_H × Nat × Nat) :=
  (hp_pF h 9 s1 7 (.ref s0)).bind fun h1 =>
  f_X9_init_51 n v0 v1 v2 sz v0 (hp_na h1 sz 0 1000) (sz + 1) (sl + 1000)
set_option maxHeartbeats 1000000 in
set_option maxRecDepth 4000 in
theorem mo_X9_init_42 {n : Nat} {v0 : Nat} {v1 : Nat} {v2 : Nat} {s0 : Nat} {s1 : Nat} {h : hp_H} {sz sl : Nat} {res : hp_H × Nat × Nat} (hm : f_X9_init_42 n v0 v1 v2 s0 s1 h sz sl = some res) : sz ≤ res.2.1 ∧ sl ≤ res.2.2 := by
  unfold f_X9_init_42 at hm
  obtain ⟨h1, hh1, hm⟩ := hp_bd hm
  exact hp_tr ⟨Nat.le_add_right _ _, Nat.le_add_right _ _⟩ (mo_X9_init_51 hm)
set_option maxHeartbeats 1000000 in
set_option maxRecDepth 4000 in
theorem q_X9_init_42 (G : hp_G) (n : Nat) (v0 : Nat) (v1 : Nat) (v2 : Nat) (s0 : Nat) (s1 : Nat) (h : hp_H) (sz sl : Nat) (res : hp_H × Nat × Nat) (hm : f_X9_init_42 n v0 v1 v2 s0 s1 h sz sl = some res) : hp_V G m_X9_init 42 [(0, .ref v0), (1, .ref v1), (2, .ref v2)] [.ref s0, .ref s1] h sz sl (none, res.1, res.2.1, res.2.2) := by
  have ho := mo_X9_init_42 hm
  unfold f_X9_init_42 at hm
  obtain ⟨h1, hh1, hm⟩ := hp_bd hm
  refine hv_putF lk_f_X9_27 (by intro C T N e; cases e; rfl) rfl dX9_init_42 rfl rfl hh1 ?_
  refine hv_aload_n 0 dX9_init_45 rfl rfl ?_
  refine hv_sipush (1000 : Int32) dX9_init_46 (by decide) ?_
  have hq := mo_X9_init_51 hm
  refine hv_newI (N := 1000) ac_int (by decide) (by decide) dX9_init_49 hq.1 hq.2 ?_
  exact hv_sub [0, 1, 2] rfl (q_X9_init_51 G n v0 v1 v2 sz v0 (hp_na h1 sz 0 1000) (sz + 1) (sl + 1000) _ hm)
def f_X9_init_33 (n : Nat) (v0 : Nat) (v1 : Nat) (v2 : Nat) (s0 : Nat) (s1 : Nat) (h : hp_H) (sz sl : Nat) : Option (hp_H × Nat × Nat) :=
  (hp_pF h 9 s1 6 (.ref s0)).bind fun h1 =>
  f_X9_init_42 n v0 v1 v2 sz v0 (hp_na h1 sz 0 256) (sz + 1) (sl + 256)
set_option maxHeartbeats 1000000 in
set_option maxRecDepth 4000 in
theorem mo_X9_init_33 {n : Nat} {v0 : Nat} {v1 : Nat} {v2 : Nat} {s0 : Nat} {s1 : Nat} {h : hp_H} {sz sl : Nat} {res : hp_H × Nat × Nat} (hm : f_X9_init_33 n v0 v1 v2 s0 s1 h sz sl = some res) : sz ≤ res.2.1 ∧ sl ≤ res.2.2 := by
  unfold f_X9_init_33 at hm
  obtain ⟨h1, hh1, hm⟩ := hp_bd hm
  exact hp_tr ⟨Nat.le_add_right _ _, Nat.le_add_right _ _⟩ (mo_X9_init_42 hm)
set_option maxHeartbeats 1000000 in
set_option maxRecDepth 4000 in
theorem q_X9_init_33 (G : hp_G) (n : Nat) (v0 : Nat) (v1 : Nat) (v2 : Nat) (s0 : Nat) (s1 : Nat) (h : hp_H) (sz sl : Nat) (res : hp_H × Nat × Nat) (hm : f_X9_init_33 n v0 v1 v2 s0 s1 h sz sl = some res) : hp_V G m_X9_init 33 [(0, .ref v0), (1, .ref v1), (2, .ref v2)] [.ref s0, .ref s1] h sz sl (none, res.1, res.2.1, res.2.2) := by
  have ho := mo_X9_init_33 hm
  unfold f_X9_init_33 at hm
  obtain ⟨h1, hh1, hm⟩ := hp_bd hm
  refine hv_putF lk_f_X9_24 (by intro C T N e; cases e; rfl) rfl dX9_init_33 rfl rfl hh1 ?_
  refine hv_aload_n 0 dX9_init_36 rfl rfl ?_
  refine hv_sipush (256 : Int32) dX9_init_37 (by decide) ?_
  have hq := mo_X9_init_42 hm
  refine hv_newI (N := 256) ac_int (by decide) (by decide) dX9_init_40 hq.1 hq.2 ?_
  exact hv_sub [0, 1, 2] rfl (q_X9_init_42 G n v0 v1 v2 sz v0 (hp_na h1 sz 0 256) (sz + 1) (sl + 256) _ hm)
def f_X9_init_24 (n : Nat) (v0 : Nat) (v1 : Nat) (v2 : Nat) (s0 : Nat) (s1 : Nat) (h : hp_H) (sz sl : Nat) : Option (hp_H × Nat × Nat) :=
  (hp_pF h 9 s1 5 (.ref s0)).bind fun h1 =>
  f_X9_init_33 n v0 v1 v2 sz v0 (hp_na h1 sz 0 1000) (sz + 1) (sl + 1000)
set_option maxHeartbeats 1000000 in
set_option maxRecDepth 4000 in
theorem mo_X9_init_24 {n : Nat} {v0 : Nat} {v1 : Nat} {v2 : Nat} {s0 : Nat} {s1 : Nat} {h : hp_H} {sz sl : Nat} {res : hp_H × Nat × Nat} (hm : f_X9_init_24 n v0 v1 v2 s0 s1 h sz sl = some res) : sz ≤ res.2.1 ∧ sl ≤ res.2.2 := by
  unfold f_X9_init_24 at hm
  obtain ⟨h1, hh1, hm⟩ := hp_bd hm
  exact hp_tr ⟨Nat.le_add_right _ _, Nat.le_add_right _ _⟩ (mo_X9_init_33 hm)
set_option maxHeartbeats 1000000 in
set_option maxRecDepth 4000 in
theorem q_X9_init_24 (G : hp_G) (n : Nat) (v0 : Nat) (v1 : Nat) (v2 : Nat) (s0 : Nat) (s1 : Nat) (h : hp_H) (sz sl : Nat) (res : hp_H × Nat × Nat) (hm : f_X9_init_24 n v0 v1 v2 s0 s1 h sz sl = some res) : hp_V G m_X9_init 24 [(0, .ref v0), (1, .ref v1), (2, .ref v2)] [.ref s0, .ref s1] h sz sl (none, res.1, res.2.1, res.2.2) := by
  have ho := mo_X9_init_24 hm
  unfold f_X9_init_24 at hm
  obtain ⟨h1, hh1, hm⟩ := hp_bd hm
  refine hv_putF lk_f_X9_20 (by intro C T N e; cases e; rfl) rfl dX9_init_24 rfl rfl hh1 ?_
  refine hv_aload_n 0 dX9_init_27 rfl rfl ?_
  refine hv_sipush (1000 : Int32) dX9_init_28 (by decide) ?_
  have hq := mo_X9_init_33 hm
  refine hv_newI (N := 1000) ac_int (by decide) (by decide) dX9_init_31 hq.1 hq.2 ?_
  exact hv_sub [0, 1, 2] rfl (q_X9_init_33 G n v0 v1 v2 sz v0 (hp_na h1 sz 0 1000) (sz + 1) (sl + 1000) _ hm)
def f_X9_init_17 (n : Nat) (v0 : Nat) (v1 : Nat) (v2 : Nat) (s0 : Nat) (s1 : Nat) (h : hp_H) (sz sl : Nat) : Option (hp_H × Nat × Nat) :=
  (f_X5_init n s0 (1000 : Int32) h sz sl).bind fun x1 =>
  f_X9_init_24 n v0 v1 v2 s0 s1 x1.1 x1.2.1 x1.2.2
set_option maxHeartbeats 1000000 in
set_option maxRecDepth 4000 in
theorem mo_X9_init_17 {n : Nat} {v0 : Nat} {v1 : Nat} {v2 : Nat} {s0 : Nat} {s1 : Nat} {h : hp_H} {sz sl : Nat} {res : hp_H × Nat × Nat} (hm : f_X9_init_17 n v0 v1 v2 s0 s1 h sz sl = some res) : sz ≤ res.2.1 ∧ sl ≤ res.2.2 := by
  unfold f_X9_init_17 at hm
  obtain ⟨x1, hx1, hm⟩ := hp_bd hm
  exact hp_tr (mx_X5_init hx1) (mo_X9_init_24 hm)
set_option maxHeartbeats 1000000 in
set_option maxRecDepth 4000 in
theorem q_X9_init_17 (G : hp_G) (n : Nat) (v0 : Nat) (v1 : Nat) (v2 : Nat) (s0 : Nat) (s1 : Nat) (h : hp_H) (sz sl : Nat) (res : hp_H × Nat × Nat) (hm : f_X9_init_17 n v0 v1 v2 s0 s1 h sz sl = some res) : hp_V G m_X9_init 17 [(0, .ref v0), (1, .ref v1), (2, .ref v2)] [.ref s0, .ref s1] h sz sl (none, res.1, res.2.1, res.2.2) := by
  have ho := mo_X9_init_17 hm
  unfold f_X9_init_17 at hm
  refine hv_dup dX9_init_17 rfl ?_
  refine hv_sipush (1000 : Int32) dX9_init_18 (by decide) ?_
  obtain ⟨x1, hx1, hm⟩ := hp_bd hm
  have hq := mo_X9_init_24 hm
  refine hv_callI (As := [.int (1000 : Int32)]) (rest := [.ref s0, .ref s1]) Z_X5_init rfl I_X5_init lk_m_X9_17 (c_X5_init G n s0 (1000 : Int32) h sz sl _ hx1) rfl (Nat.le_of_ble_eq_true rfl) ⟨Nat.le_of_ble_eq_true rfl, Nat.le_of_ble_eq_true rfl⟩ hq.1 hq.2 rfl dX9_init_21 ?_
  refine hv_as2 [.ref s0, .ref s1] x1.1 x1.2.1 x1.2.2 rfl rfl rfl rfl ?_
  exact hv_sub [0, 1, 2] rfl (q_X9_init_24 G n v0 v1 v2 s0 s1 x1.1 x1.2.1 x1.2.2 _ hm)
def f_X9_init_10 (n : Nat) (v0 : Nat) (v1 : Nat) (v2 : Nat) (s0 : Nat) (s1 : Nat) (h : hp_H) (sz sl : Nat) : Option (hp_H × Nat × Nat) :=
  (hp_pF h 9 s1 4 (.ref s0)).bind fun h1 =>
  f_X9_init_17 n v0 v1 v2 sz v0 (hp_nw h1 sz 5 tyX5) (sz + 1) (sl + 4)
set_option maxHeartbeats 1000000 in
set_option maxRecDepth 4000 in
theorem mo_X9_init_10 {n : Nat} {v0 : Nat} {v1 : Nat} {v2 : Nat} {s0 : Nat} {s1 : Nat} {h : hp_H} {sz sl : Nat} {res : hp_H × Nat × Nat} (hm : f_X9_init_10 n v0 v1 v2 s0 s1 h sz sl = some res) : sz ≤ res.2.1 ∧ sl ≤ res.2.2 := by
  unfold f_X9_init_10 at hm
  obtain ⟨h1, hh1, hm⟩ := hp_bd hm
  exact hp_tr ⟨Nat.le_add_right _ _, Nat.le_add_right _ _⟩ (mo_X9_init_17 hm)
set_option maxHeartbeats 1000000 in
set_option maxRecDepth 4000 in
theorem q_X9_init_10 (G : hp_G) (n : Nat) (v0 : Nat) (v1 : Nat) (v2 : Nat) (s0 : Nat) (s1 : Nat) (h : hp_H) (sz sl : Nat) (res : hp_H × Nat × Nat) (hm : f_X9_init_10 n v0 v1 v2 s0 s1 h sz sl = some res) : hp_V G m_X9_init 10 [(0, .ref v0), (1, .ref v1), (2, .ref v2)] [.ref s0, .ref s1] h sz sl (none, res.1, res.2.1, res.2.2) := by
  have ho := mo_X9_init_10 hm
  unfold f_X9_init_10 at hm
  obtain ⟨h1, hh1, hm⟩ := hp_bd hm
  refine hv_putF lk_f_X9_9 (by intro C T N e; cases e; rfl) rfl dX9_init_10 rfl rfl hh1 ?_
  refine hv_aload_n 0 dX9_init_13 rfl rfl ?_
  have hq := mo_X9_init_17 hm
  refine hv_new CL5 lk_k_X9_15 dX9_init_14 hq.1 hq.2 ?_
  exact hv_sub [0, 1, 2] rfl (q_X9_init_17 G n v0 v1 v2 sz v0 (hp_nw h1 sz 5 tyX5) (sz + 1) (sl + 4) _ hm)
def f_X9_init_0 (n : Nat) (v0 : Nat) (v1 : Nat) (v2 : Nat) (h : hp_H) (sz sl : Nat) : Option (hp_H × Nat × Nat) :=
  f_X9_init_10 n v0 v1 v2 sz v0 (hp_na h sz 0 1000) (sz + 1) (sl + 1000)
set_option maxHeartbeats 1000000 in
set_option maxRecDepth 4000 in
theorem mo_X9_init_0 {n : Nat} {v0 : Nat} {v1 : Nat} {v2 : Nat} {h : hp_H} {sz sl : Nat} {res : hp_H × Nat × Nat} (hm : f_X9_init_0 n v0 v1 v2 h sz sl = some res) : sz ≤ res.2.1 ∧ sl ≤ res.2.2 := by
  unfold f_X9_init_0 at hm
  exact hp_tr ⟨Nat.le_add_right _ _, Nat.le_add_right _ _⟩ (mo_X9_init_10 hm)
set_option maxHeartbeats 1000000 in
set_option maxRecDepth 4000 in
theorem q_X9_init_0 (G : hp_G) (n : Nat) (v0 : Nat) (v1 : Nat) (v2 : Nat) (h : hp_H) (sz sl : Nat) (res : hp_H × Nat × Nat) (hm : f_X9_init_0 n v0 v1 v2 h sz sl = some res) : hp_V G m_X9_init 0 [(0, .ref v0), (1, .ref v1), (2, .ref v2)] [] h sz sl (none, res.1, res.2.1, res.2.2) := by
  have ho := mo_X9_init_0 hm
  unfold f_X9_init_0 at hm
  refine hv_aload_n 0 dX9_init_0 rfl rfl ?_
  refine hv_objInit lk_o_X9_3 ⟨Nat.le_of_ble_eq_true rfl, Nat.le_of_ble_eq_true rfl⟩ dX9_init_1 ?_
  refine hv_aload_n 0 dX9_init_4 rfl rfl ?_
  refine hv_sipush (1000 : Int32) dX9_init_5 (by decide) ?_
  have hq := mo_X9_init_10 hm
  refine hv_newI (N := 1000) ac_int (by decide) (by decide) dX9_init_8 hq.1 hq.2 ?_
  exact hv_sub [0, 1, 2] rfl (q_X9_init_10 G n v0 v1 v2 sz v0 (hp_na h sz 0 1000) (sz + 1) (sl + 1000) _ hm)
def f_X9_init (n : Nat) (v0 : Nat) (v1 : Nat) (v2 : Nat) (h : hp_H) (sz sl : Nat) : Option (hp_H × Nat × Nat) := (hp_ck h 9 v0).bind fun _ => f_X9_init_0 n v0 v1 v2 h sz sl
theorem c_X9_init (G : hp_G) (n : Nat) (v0 : Nat) (v1 : Nat) (v2 : Nat) (h : hp_H) (sz sl : Nat) (res : hp_H × Nat × Nat) (hm : f_X9_init n v0 v1 v2 h sz sl = some res) : hp_C G m_X9_init yX9_init [.ref v0, .ref v1, .ref v2] h sz sl (none, res.1, res.2.1, res.2.2) := by
  unfold f_X9_init at hm
  obtain ⟨_, _, hm⟩ := hp_bd hm
  exact hp_C_of (by decide) rfl rfl (Nat.le_of_ble_eq_true rfl) (mo_X9_init_0 hm).1 (mo_X9_init_0 hm).2 (hv_sub [0, 1, 2] rfl (q_X9_init_0 G n v0 v1 v2 h sz sl res hm))
theorem k_X9_init {n : Nat} {v0 : Nat} {v1 : Nat} {v2 : Nat} {h : hp_H} {sz sl : Nat} {res : hp_H × Nat × Nat} (hm : f_X9_init n v0 v1 v2 h sz sl = some res) : ∃ V, h v0 = some (.inr (.inr (9, V))) := by
  unfold f_X9_init at hm
  obtain ⟨_, hu, _⟩ := hp_bd hm
  exact hp_ck_spec hu
theorem mx_X9_init {n : Nat} {v0 : Nat} {v1 : Nat} {v2 : Nat} {h : hp_H} {sz sl : Nat} {res : hp_H × Nat × Nat} (hm : f_X9_init n v0 v1 v2 h sz sl = some res) : sz ≤ res.2.1 ∧ sl ≤ res.2.2 := by
  unfold f_X9_init at hm
  obtain ⟨_, _, hm⟩ := hp_bd hm
  exact mo_X9_init_0 hm
abbrev m_X9_takesStack : hp_M := (RX9, cX9_takesStack, 5, some .boolean, 1, 22, "takesStack")
theorem Z_X9_takesStack : hp_Y yX9_takesStack m_X9_takesStack 2 := Y_X9_takesStack
def f_X9_takesStack_12 (n : Nat) (v0 : Nat) (v1 : Int32) (v2 : Int32) (v3 : Int32) (v4 : Int32) (h : hp_H) : Option ((Int32) ⊕ (Int32)) :=
  if v3 ≤ v4 then
    some (.inr (1 : Int32))
  else
    (hp_fR h 9 v0 5).bind fun x1 =>
    (f_X5_get n x1 v1 v4 h).bind fun x2 =>
    (hp_fR h 9 v0 10).bind fun x3 =>
    (hp_aI h 0 x3 (v2 + v4)).bind fun x4 =>
    if x2 = x4 then
      some (.inl (v4 + (1 : Int32)))
    else
      some (.inr (0 : Int32))
set_option maxHeartbeats 1000000 in
set_option maxRecDepth 4000 in
theorem q_X9_takesStack_12 (G : hp_G) (n : Nat) (v0 : Nat) (v1 : Int32) (v2 : Int32) (v3 : Int32) (v4 : Int32) (h : hp_H) (sz sl : Nat) (o : hp_O) (ho : sz ≤ o.2.2.1 ∧ sl ≤ o.2.2.2) (res : (Int32) ⊕ (Int32)) (hm : f_X9_takesStack_12 n v0 v1 v2 v3 v4 h = some res) (kI : ∀ y : Int32, res = .inl y → hp_V G m_X9_takesStack 12 [(0, .ref v0), (1, .int v1), (2, .int v2), (3, .int v3), (4, .int y)] [] h sz sl o) (kR : ∀ y : Int32, res = .inr y → o = (some (.int y), h, sz, sl)) : hp_V G m_X9_takesStack 12 [(0, .ref v0), (1, .int v1), (2, .int v2), (3, .int v3), (4, .int v4)] [] h sz sl o := by
  unfold f_X9_takesStack_12 at hm
  refine hv_iload 4 dX9_takesStack_12 rfl ?_
  refine hv_iload_n 3 dX9_takesStack_14 rfl rfl ?_
  refine hv_icmp_ge (tgt := 48) dX9_takesStack_15 (by decide) (fun c6 => ?_) (fun c6 => ?_)
  · rw [if_pos c6] at hm
    refine hv_iconst (1 : Int32) dX9_takesStack_48 (by decide) ?_
    obtain rfl := kR _ (Option.some.inj hm).symm
    exact hv_zret rfl (by decide) dX9_takesStack_49
  · rw [if_neg c6] at hm
    refine hv_aload_n 0 dX9_takesStack_18 rfl rfl ?_
    obtain ⟨x1, hx1, hm⟩ := hp_bd hm
    refine hv_get lk_f_X9_20 dX9_takesStack_19 (hp_fR_spec hx1) ?_
    refine hv_iload_n 1 dX9_takesStack_22 rfl rfl ?_
    refine hv_iload 4 dX9_takesStack_23 rfl ?_
    obtain ⟨x2, hx2, hm⟩ := hp_bd hm
    obtain ⟨Vx2, hVx2⟩ := k_X5_get hx2
    refine hv_callV (As := [.int v1, .int v4]) (rest := []) Z_X5_get I_X5_get lk_m_X9_108 rfl hVx2 (c_X5_get G n x1 v1 v4 h sz sl _ hx2) rfl (Nat.le_of_ble_eq_true rfl) ⟨Nat.le_of_ble_eq_true rfl, Nat.le_of_ble_eq_true rfl⟩ ho.1 ho.2 rfl dX9_takesStack_25 ?_
    refine hv_as [.int x2] h rfl rfl ?_
    refine hv_aload_n 0 dX9_takesStack_28 rfl rfl ?_
    obtain ⟨x3, hx3, hm⟩ := hp_bd hm
    refine hv_get lk_f_X9_36 dX9_takesStack_29 (hp_fR_spec hx3) ?_
    refine hv_iload_n 2 dX9_takesStack_32 rfl rfl ?_
    refine hv_iload 4 dX9_takesStack_33 rfl ?_
    refine hv_iadd dX9_takesStack_35 ?_
    obtain ⟨x4, hx4, hm⟩ := hp_bd hm
    refine hv_iald dX9_takesStack_36 hx4 ?_
    refine hv_icmp_eq (tgt := 42) dX9_takesStack_37 (by decide) (fun c5 => ?_) (fun c5 => ?_)
    · rw [if_pos c5] at hm
      refine hv_iinc (v4 + (1 : Int32)) 4 [(4, .int (v4 + (1 : Int32))), (0, .ref v0), (1, .int v1), (2, .int v2), (3, .int v3)] dX9_takesStack_42 rfl rfl (by decide) rfl ?_
      refine hv_goto (tgt := 12) dX9_takesStack_45 (by decide) ?_
      exact hv_sub [1, 2, 3, 4, 0] rfl (kI (v4 + (1 : Int32)) (Option.some.inj hm).symm)
    · rw [if_neg c5] at hm
      refine hv_iconst (0 : Int32) dX9_takesStack_40 (by decide) ?_
      obtain rfl := kR _ (Option.some.inj hm).symm
      exact hv_zret rfl (by decide) dX9_takesStack_41
def fL_X9_takesStack_12 (n : Nat) (v0 : Nat) (v1 : Int32) (v2 : Int32) (v3 : Int32) (h : hp_H) (s : Int32) : Option ((Int32) ⊕ (Int32)) := f_X9_takesStack_12 n v0 v1 v2 v3 s h
theorem l_X9_takesStack_12 (G : hp_G) (n : Nat) (v0 : Nat) (v1 : Int32) (v2 : Int32) (v3 : Int32) (h : hp_H) (sz sl : Nat) (o : hp_O) (ho : sz ≤ o.2.2.1 ∧ sl ≤ o.2.2.2) : ∀ (k : Nat) (s : Int32) (x : Int32), hp_lp (fL_X9_takesStack_12 n v0 v1 v2 v3 h) k s = some x → (∀ y : Int32, x = y → o = (some (.int y), h, sz, sl)) → hp_V G m_X9_takesStack 12 [(0, .ref v0), (1, .int v1), (2, .int v2), (3, .int v3), (4, .int s)] [] h sz sl o := by
  intro k
  induction k with
  | zero => intro s x hx; exact (hp_lp_0 hx).elim
  | succ k ih =>
    intro s x hx k0
    obtain ⟨r, hr, hc⟩ := hp_lp_1 hx
    refine q_X9_takesStack_12 G n v0 v1 v2 v3 s h sz sl o ho r hr (fun s2 e => ?_) (fun y e => ?_)
    · rcases hc with ⟨s3, e3, hx3⟩ | e3
      · have e4 := Sum.inl.inj (e.symm.trans e3)
        subst e4
        exact ih _ _ hx3 k0
      · cases (e.symm.trans e3)
    · rcases hc with ⟨s3, e3, hx3⟩ | e3
      · cases (e.symm.trans e3)
      · exact k0 y (Sum.inr.inj (e3.symm.trans e))
def f_X9_takesStack_0 (n : Nat) (v0 : Nat) (v1 : Int32) (v2 : Int32) (h : hp_H) : Option (Int32) :=
  (hp_fR h 9 v0 5).bind fun x1 =>
  (f_X5_size n x1 v1 h).bind fun x2 =>
  (hp_lp (fL_X9_takesStack_12 n v0 v1 v2 x2 h) n (0 : Int32)).bind fun x3 =>
  some x3
set_option maxHeartbeats 1000000 in
set_option maxRecDepth 4000 in
theorem q_X9_takesStack_0 (G : hp_G) (n : Nat) (v0 : Nat) (v1 : Int32) (v2 : Int32) (h : hp_H) (sz sl : Nat) (res : Int32) (hm : f_X9_takesStack_0 n v0 v1 v2 h = some res) : hp_V G m_X9_takesStack 0 [(0, .ref v0), (1, .int v1), (2, .int v2)] [] h sz sl (some (.int res), h, sz, sl) := by
  have ho : sz ≤ sz ∧ sl ≤ sl := ⟨Nat.le_refl _, Nat.le_refl _⟩
  unfold f_X9_takesStack_0 at hm
  refine hv_aload_n 0 dX9_takesStack_0 rfl rfl ?_
  obtain ⟨x1, hx1, hm⟩ := hp_bd hm
  refine hv_get lk_f_X9_20 dX9_takesStack_1 (hp_fR_spec hx1) ?_
  refine hv_iload_n 1 dX9_takesStack_4 rfl rfl ?_
  obtain ⟨x2, hx2, hm⟩ := hp_bd hm
  obtain ⟨Vx2, hVx2⟩ := k_X5_size hx2
  refine hv_callV (As := [.int v1]) (rest := []) Z_X5_size I_X5_size lk_m_X9_85 rfl hVx2 (c_X5_size G n x1 v1 h sz sl _ hx2) rfl (Nat.le_of_ble_eq_true rfl) ⟨Nat.le_of_ble_eq_true rfl, Nat.le_of_ble_eq_true rfl⟩ ho.1 ho.2 rfl dX9_takesStack_5 ?_
  refine hv_as [.int x2] h rfl rfl ?_
  refine hv_istore_n [(3, .int x2), (0, .ref v0), (1, .int v1), (2, .int v2)] dX9_takesStack_8 rfl (by decide) rfl ?_
  refine hv_iconst (0 : Int32) dX9_takesStack_9 (by decide) ?_
  refine hv_istore [(4, .int (0 : Int32)), (3, .int x2), (0, .ref v0), (1, .int v1), (2, .int v2)] dX9_takesStack_10 (by decide) rfl ?_
  obtain ⟨x3, hx3, hm⟩ := hp_bd hm
  refine hv_sub [2, 3, 4, 1, 0] rfl (l_X9_takesStack_12 G n v0 v1 v2 x2 h sz sl _ ho n _ _ hx3 (fun y4 ey4 => ?_))
  · skip
    subst ey4
    obtain rfl := Option.some.inj hm
    rfl
def f_X9_takesStack (n : Nat) (v0 : Nat) (v1 : Int32) (v2 : Int32) (h : hp_H) : Option (Int32) := (hp_ck h 9 v0).bind fun _ => f_X9_takesStack_0 n v0 v1 v2 h
theorem c_X9_takesStack (G : hp_G) (n : Nat) (v0 : Nat) (v1 : Int32) (v2 : Int32) (h : hp_H) (sz sl : Nat) (res : Int32) (hm : f_X9_takesStack n v0 v1 v2 h = some res) : hp_C G m_X9_takesStack yX9_takesStack [.ref v0, .int v1, .int v2] h sz sl (some (.int res), h, sz, sl) := by
  unfold f_X9_takesStack at hm
  obtain ⟨_, _, hm⟩ := hp_bd hm
  exact hp_C_of (by decide) rfl rfl (Nat.le_of_ble_eq_true rfl) (Nat.le_refl _) (Nat.le_refl _) (hv_sub [0, 1, 2] rfl (q_X9_takesStack_0 G n v0 v1 v2 h sz sl res hm))
theorem k_X9_takesStack {n : Nat} {v0 : Nat} {v1 : Int32} {v2 : Int32} {h : hp_H} {res : Int32} (hm : f_X9_takesStack n v0 v1 v2 h = some res) : ∃ V, h v0 = some (.inr (.inr (9, V))) := by
  unfold f_X9_takesStack at hm
  obtain ⟨_, hu, _⟩ := hp_bd hm
  exact hp_ck_spec hu
abbrev m_X9_addNode : hp_M := (RX9, cX9_addNode, 7, some .int, 3, 83, "addNode")
theorem Z_X9_addNode : hp_Y yX9_addNode m_X9_addNode 4 := Y_X9_addNode
abbrev zx_X9_addNode_48 : (hp_H × Nat × Nat) → Nat × Nat := (fun y => (y.2.1, y.2.2))
abbrev zz_X9_addNode_48 : ((Int32 × hp_H × Nat × Nat) ⊕ (hp_H × Nat × Nat)) → Nat × Nat := Sum.elim (fun y => (y.2.2.1, y.2.2.2)) zx_X9_addNode_48
def f_X9_addNode_70 (n : Nat) (v0 : Nat) (v2 : Int32) (v3 : Int32) (v5 : Int32) (v6 : Int32) (h : hp_H) (sz sl : Nat) : Option ((Int32 × hp_H × Nat × Nat) ⊕ (hp_H × Nat × Nat)) :=
  (hp_fR h 9 v0 6).bind fun x1 =>
  (hp_fR h 9 v0 10).bind fun x2 =>
  (hp_aI h 0 x2 (v2 + v6)).bind fun x3 =>
  (hp_aI h 0 x1 x3).bind fun x4 =>
  (hp_sI h 0 x1 x3 (x4 + (1 : Int32))).bind fun h5 =>
  some (.inl ((v6 + (1 : Int32)), h5, sz, sl))
set_option maxHeartbeats 1000000 in
set_option maxRecDepth 4000 in
theorem mo_X9_addNode_70 {n : Nat} {v0 : Nat} {v2 : Int32} {v3 : Int32} {v5 : Int32} {v6 : Int32} {h : hp_H} {sz sl : Nat} {res : (Int32 × hp_H × Nat × Nat) ⊕ (hp_H × Nat × Nat)} (hm : f_X9_addNode_70 n v0 v2 v3 v5 v6 h sz sl = some res) : sz ≤ (zz_X9_addNode_48 res).1 ∧ sl ≤ (zz_X9_addNode_48 res).2 := by
  unfold f_X9_addNode_70 at hm
  obtain ⟨x1, hx1, hm⟩ := hp_bd hm
  obtain ⟨x2, hx2, hm⟩ := hp_bd hm
  obtain ⟨x3, hx3, hm⟩ := hp_bd hm
  obtain ⟨x4, hx4, hm⟩ := hp_bd hm
  obtain ⟨h5, hh5, hm⟩ := hp_bd hm
  obtain rfl := Option.some.inj hm
  exact ⟨Nat.le_refl _, Nat.le_refl _⟩
set_option maxHeartbeats 1000000 in
set_option maxRecDepth 4000 in
theorem q_X9_addNode_70 (G : hp_G) (n : Nat) (v0 : Nat) (v2 : Int32) (v3 : Int32) (v5 : Int32) (v6 : Int32) (h : hp_H) (sz sl : Nat) (o : hp_O) (res : (Int32 × hp_H × Nat × Nat) ⊕ (hp_H × Nat × Nat)) (hB : (zz_X9_addNode_48 res).1 ≤ o.2.2.1 ∧ (zz_X9_addNode_48 res).2 ≤ o.2.2.2) (hm : f_X9_addNode_70 n v0 v2 v3 v5 v6 h sz sl = some res) (kI : ∀ y : Int32 × hp_H × Nat × Nat, res = .inl y → hp_V G m_X9_addNode 48 [(0, .ref v0), (2, .int v2), (3, .int v3), (5, .int v5), (6, .int y.1)] [] y.2.1 y.2.2.1 y.2.2.2 o) (kX0 : ∀ y : hp_H × Nat × Nat, res = .inr y → hp_V G m_X9_addNode 94 [(0, .ref v0), (5, .int v5)] [] y.1 y.2.1 y.2.2 o) : hp_V G m_X9_addNode 70 [(0, .ref v0), (2, .int v2), (3, .int v3), (5, .int v5), (6, .int v6)] [] h sz sl o := by
  have ho : sz ≤ o.2.2.1 ∧ sl ≤ o.2.2.2 := ⟨Nat.le_trans (mo_X9_addNode_70 hm).1 hB.1, Nat.le_trans (mo_X9_addNode_70 hm).2 hB.2⟩
  unfold f_X9_addNode_70 at hm
  refine hv_aload_n 0 dX9_addNode_70 rfl rfl ?_
  obtain ⟨x1, hx1, hm⟩ := hp_bd hm
  refine hv_get lk_f_X9_24 dX9_addNode_71 (hp_fR_spec hx1) ?_
  refine hv_aload_n 0 dX9_addNode_74 rfl rfl ?_
  obtain ⟨x2, hx2, hm⟩ := hp_bd hm
  refine hv_get lk_f_X9_36 dX9_addNode_75 (hp_fR_spec hx2) ?_
  refine hv_iload_n 1 dX9_addNode_78 rfl rfl ?_
  refine hv_iload 4 dX9_addNode_79 rfl ?_
  refine hv_iadd dX9_addNode_81 ?_
  obtain ⟨x3, hx3, hm⟩ := hp_bd hm
  refine hv_iald dX9_addNode_82 hx3 ?_
  refine hv_dup2_11 dX9_addNode_83 rfl rfl ?_
  obtain ⟨x4, hx4, hm⟩ := hp_bd hm
  refine hv_iald dX9_addNode_84 hx4 ?_
  refine hv_iconst (1 : Int32) dX9_addNode_85 (by decide) ?_
  refine hv_iadd dX9_addNode_86 ?_
  obtain ⟨h5, hh5, hm⟩ := hp_bd hm
  refine hv_iast dX9_addNode_87 hh5 ?_
  refine hv_iinc (v6 + (1 : Int32)) 4 [(6, .int (v6 + (1 : Int32))), (0, .ref v0), (2, .int v2), (3, .int v3), (5, .int v5)] dX9_addNode_88 rfl rfl (by decide) rfl ?_
  refine hv_goto (tgt := 48) dX9_addNode_91 (by decide) ?_
  exact hv_sub [1, 2, 3, 4, 0] rfl (kI ((v6 + (1 : Int32)), h5, sz, sl) (Option.some.inj hm).symm)
def f_X9_addNode_48 (n : Nat) (v0 : Nat) (v2 : Int32) (v3 : Int32) (v5 : Int32) (v6 : Int32) (h : hp_H) (sz sl : Nat) : Option ((Int32 × hp_H × Nat × Nat) ⊕ (hp_H × Nat × Nat)) :=
  if v3 ≤ v6 then
    some (.inr (h, sz, sl))
  else
    (hp_fR h 9 v0 5).bind fun x1 =>
    (hp_fR h 9 v0 10).bind fun x2 =>
    (hp_aI h 0 x2 (v2 + v6)).bind fun x3 =>
    (f_X5_add n x1 x3 h sz sl).bind fun x4 =>
    f_X9_addNode_70 n v0 v2 v3 v5 v6 x4.1 x4.2.1 x4.2.2
set_option maxHeartbeats 1000000 in
set_option maxRecDepth 4000 in
theorem mo_X9_addNode_48 {n : Nat} {v0 : Nat} {v2 : Int32} {v3 : Int32} {v5 : Int32} {v6 : Int32} {h : hp_H} {sz sl : Nat} {res : (Int32 × hp_H × Nat × Nat) ⊕ (hp_H × Nat × Nat)} (hm : f_X9_addNode_48 n v0 v2 v3 v5 v6 h sz sl = some res) : sz ≤ (zz_X9_addNode_48 res).1 ∧ sl ≤ (zz_X9_addNode_48 res).2 := by
  unfold f_X9_addNode_48 at hm
  rcases Decidable.em (v3 ≤ v6) with c5 | c5
  · rw [if_pos c5] at hm
    obtain rfl := Option.some.inj hm
    exact ⟨Nat.le_refl _, Nat.le_refl _⟩
  · rw [if_neg c5] at hm
    obtain ⟨x1, hx1, hm⟩ := hp_bd hm
    obtain ⟨x2, hx2, hm⟩ := hp_bd hm
    obtain ⟨x3, hx3, hm⟩ := hp_bd hm
    obtain ⟨x4, hx4, hm⟩ := hp_bd hm
    exact hp_tr (mx_X5_add hx4) (mo_X9_addNode_70 hm)
set_option maxHeartbeats 1000000 in
set_option maxRecDepth 4000 in
theorem q_X9_addNode_48 (G : hp_G) (n : Nat) (v0 : Nat) (v2 : Int32) (v3 : Int32) (v5 : Int32) (v6 : Int32) (h : hp_H) (sz sl : Nat) (o : hp_O) (res : (Int32 × hp_H × Nat × Nat) ⊕ (hp_H × Nat × Nat)) (hB : (zz_X9_addNode_48 res).1 ≤ o.2.2.1 ∧ (zz_X9_addNode_48 res).2 ≤ o.2.2.2) (hm : f_X9_addNode_48 n v0 v2 v3 v5 v6 h sz sl = some res) (kI : ∀ y : Int32 × hp_H × Nat × Nat, res = .inl y → hp_V G m_X9_addNode 48 [(0, .ref v0), (2, .int v2), (3, .int v3), (5, .int v5), (6, .int y.1)] [] y.2.1 y.2.2.1 y.2.2.2 o) (kX0 : ∀ y : hp_H × Nat × Nat, res = .inr y → hp_V G m_X9_addNode 94 [(0, .ref v0), (5, .int v5)] [] y.1 y.2.1 y.2.2 o) : hp_V G m_X9_addNode 48 [(0, .ref v0), (2, .int v2), (3, .int v3), (5, .int v5), (6, .int v6)] [] h sz sl o := by
  have ho : sz ≤ o.2.2.1 ∧ sl ≤ o.2.2.2 := ⟨Nat.le_trans (mo_X9_addNode_48 hm).1 hB.1, Nat.le_trans (mo_X9_addNode_48 hm).2 hB.2⟩
  unfold f_X9_addNode_48 at hm
  refine hv_iload 4 dX9_addNode_48 rfl ?_
  refine hv_iload_n 2 dX9_addNode_50 rfl rfl ?_
  refine hv_icmp_ge (tgt := 94) dX9_addNode_51 (by decide) (fun c5 => ?_) (fun c5 => ?_)
  · rw [if_pos c5] at hm
    exact hv_sub [0, 3] rfl (kX0 (h, sz, sl) (Option.some.inj hm).symm)
  · rw [if_neg c5] at hm
    refine hv_aload_n 0 dX9_addNode_54 rfl rfl ?_
    obtain ⟨x1, hx1, hm⟩ := hp_bd hm
    refine hv_get lk_f_X9_20 dX9_addNode_55 (hp_fR_spec hx1) ?_
    refine hv_aload_n 0 dX9_addNode_58 rfl rfl ?_
    obtain ⟨x2, hx2, hm⟩ := hp_bd hm
    refine hv_get lk_f_X9_36 dX9_addNode_59 (hp_fR_spec hx2) ?_
    refine hv_iload_n 1 dX9_addNode_62 rfl rfl ?_
    refine hv_iload 4 dX9_addNode_63 rfl ?_
    refine hv_iadd dX9_addNode_65 ?_
    obtain ⟨x3, hx3, hm⟩ := hp_bd hm
    refine hv_iald dX9_addNode_66 hx3 ?_
    obtain ⟨x4, hx4, hm⟩ := hp_bd hm
    have hq := hp_tr (mo_X9_addNode_70 hm) hB
    obtain ⟨Vx4, hVx4⟩ := k_X5_add hx4
    refine hv_callV (As := [.int x3]) (rest := []) Z_X5_add I_X5_add lk_m_X9_112 rfl hVx4 (c_X5_add G n x1 x3 h sz sl _ hx4) rfl (Nat.le_of_ble_eq_true rfl) ⟨Nat.le_of_ble_eq_true rfl, Nat.le_of_ble_eq_true rfl⟩ hq.1 hq.2 rfl dX9_addNode_67 ?_
    refine hv_as2 [] x4.1 x4.2.1 x4.2.2 rfl rfl rfl rfl ?_
    exact hv_sub [0, 1, 2, 3, 4] rfl (q_X9_addNode_70 G n v0 v2 v3 v5 v6 x4.1 x4.2.1 x4.2.2 o _ hB hm kI kX0)
def fL_X9_addNode_48 (n : Nat) (v0 : Nat) (v2 : Int32) (v3 : Int32) (v5 : Int32) (s : Int32 × hp_H × Nat × Nat) : Option ((Int32 × hp_H × Nat × Nat) ⊕ (hp_H × Nat × Nat)) := f_X9_addNode_48 n v0 v2 v3 v5 s.1 s.2.1 s.2.2.1 s.2.2.2
theorem ml_X9_addNode_48 {n : Nat} {v0 : Nat} {v2 : Int32} {v3 : Int32} {v5 : Int32} : ∀ (k : Nat) (s : Int32 × hp_H × Nat × Nat) (x : hp_H × Nat × Nat), hp_lp (fL_X9_addNode_48 n v0 v2 v3 v5) k s = some x → s.2.2.1 ≤ (zx_X9_addNode_48 x).1 ∧ s.2.2.2 ≤ (zx_X9_addNode_48 x).2 := by
  intro k
  induction k with
  | zero => intro s x hx; exact (hp_lp_0 hx).elim
  | succ k ih =>
    intro s x hx
    obtain ⟨r, hr, hc⟩ := hp_lp_1 hx
    have h1 := mo_X9_addNode_48 hr
    rcases hc with ⟨s3, e3, hx3⟩ | e3
    · subst e3
      exact hp_tr h1 (ih _ _ hx3)
    · subst e3
      exact h1
theorem l_X9_addNode_48 (G : hp_G) (n : Nat) (v0 : Nat) (v2 : Int32) (v3 : Int32) (v5 : Int32) (o : hp_O) : ∀ (k : Nat) (s : Int32 × hp_H × Nat × Nat) (x : hp_H × Nat × Nat), hp_lp (fL_X9_addNode_48 n v0 v2 v3 v5) k s = some x → ((zx_X9_addNode_48 x).1 ≤ o.2.2.1 ∧ (zx_X9_addNode_48 x).2 ≤ o.2.2.2) → (∀ y : hp_H × Nat × Nat, x = y → hp_V G m_X9_addNode 94 [(0, .ref v0), (5, .int v5)] [] y.1 y.2.1 y.2.2 o) → hp_V G m_X9_addNode 48 [(0, .ref v0), (2, .int v2), (3, .int v3), (5, .int v5), (6, .int s.1)] [] s.2.1 s.2.2.1 s.2.2.2 o := by
  intro k
  induction k with
  | zero => intro s x hx; exact (hp_lp_0 hx).elim
  | succ k ih =>
    intro s x hx hz k0
    obtain ⟨r, hr, hc⟩ := hp_lp_1 hx
    have hB : (zz_X9_addNode_48 r).1 ≤ o.2.2.1 ∧ (zz_X9_addNode_48 r).2 ≤ o.2.2.2 := by
      rcases hc with ⟨s3, e3, hx3⟩ | e3
      · subst e3
        exact hp_tr (ml_X9_addNode_48 _ _ _ hx3) hz
      · subst e3
        exact hz
    refine q_X9_addNode_48 G n v0 v2 v3 v5 s.1 s.2.1 s.2.2.1 s.2.2.2 o r hB hr (fun s2 e => ?_) (fun y e => ?_)
    · rcases hc with ⟨s3, e3, hx3⟩ | e3
      · have e4 := Sum.inl.inj (e.symm.trans e3)
        subst e4
        exact ih _ _ hx3 hz k0
      · cases (e.symm.trans e3)
    · rcases hc with ⟨s3, e3, hx3⟩ | e3
      · cases (e.symm.trans e3)
      · exact k0 y (Sum.inr.inj (e3.symm.trans e))
def f_X9_addNode_94 (n : Nat) (v0 : Nat) (v5 : Int32) (h : hp_H) (sz sl : Nat) : Option (Int32 × hp_H × Nat × Nat) :=
  (hp_fR h 9 v0 5).bind fun x1 =>
  (f_X5_endRow n x1 h).bind fun x2 =>
  (hp_fI x2 9 v0 2).bind fun x3 =>
  (hp_pF x2 9 v0 2 (.int (x3 + (1 : Int32)))).bind fun h4 =>
  some (v5, h4, sz, sl)
set_option maxHeartbeats 1000000 in
set_option maxRecDepth 4000 in
theorem mo_X9_addNode_94 {n : Nat} {v0 : Nat} {v5 : Int32} {h : hp_H} {sz sl : Nat} {res : Int32 × hp_H × Nat × Nat} (hm : f_X9_addNode_94 n v0 v5 h sz sl = some res) : sz ≤ res.2.2.1 ∧ sl ≤ res.2.2.2 := by
  unfold f_X9_addNode_94 at hm
  obtain ⟨x1, hx1, hm⟩ := hp_bd hm
  obtain ⟨x2, hx2, hm⟩ := hp_bd hm
  obtain ⟨x3, hx3, hm⟩ := hp_bd hm
  obtain ⟨h4, hh4, hm⟩ := hp_bd hm
  obtain rfl := Option.some.inj hm
  exact ⟨Nat.le_refl _, Nat.le_refl _⟩
set_option maxHeartbeats 1000000 in
set_option maxRecDepth 4000 in
theorem q_X9_addNode_94 (G : hp_G) (n : Nat) (v0 : Nat) (v5 : Int32) (h : hp_H) (sz sl : Nat) (res : Int32 × hp_H × Nat × Nat) (hm : f_X9_addNode_94 n v0 v5 h sz sl = some res) : hp_V G m_X9_addNode 94 [(0, .ref v0), (5, .int v5)] [] h sz sl (some (.int res.1), res.2.1, res.2.2.1, res.2.2.2) := by
  have ho := mo_X9_addNode_94 hm
  unfold f_X9_addNode_94 at hm
  refine hv_aload_n 0 dX9_addNode_94 rfl rfl ?_
  obtain ⟨x1, hx1, hm⟩ := hp_bd hm
  refine hv_get lk_f_X9_20 dX9_addNode_95 (hp_fR_spec hx1) ?_
  obtain ⟨x2, hx2, hm⟩ := hp_bd hm
  obtain ⟨Vx2, hVx2⟩ := k_X5_endRow hx2
  refine hv_callV (As := []) (rest := []) Z_X5_endRow I_X5_endRow lk_m_X9_115 rfl hVx2 (c_X5_endRow G n x1 h sz sl _ hx2) rfl (Nat.le_of_ble_eq_true rfl) ⟨Nat.le_of_ble_eq_true rfl, Nat.le_of_ble_eq_true rfl⟩ ho.1 ho.2 rfl dX9_addNode_98 ?_
  refine hv_as [] x2 rfl rfl ?_
  refine hv_aload_n 0 dX9_addNode_101 rfl rfl ?_
  refine hv_dup dX9_addNode_102 rfl ?_
  obtain ⟨x3, hx3, hm⟩ := hp_bd hm
  refine hv_get lk_f_X9_59 dX9_addNode_103 (hp_fI_spec hx3) ?_
  refine hv_iconst (1 : Int32) dX9_addNode_106 (by decide) ?_
  refine hv_iadd dX9_addNode_107 ?_
  obtain ⟨h4, hh4, hm⟩ := hp_bd hm
  refine hv_put lk_f_X9_59 dX9_addNode_108 rfl rfl hh4 ?_
  refine hv_iload 1 dX9_addNode_111 rfl ?_
  obtain rfl := Option.some.inj hm
  exact hv_iret rfl dX9_addNode_113
def f_X9_addNode_0 (n : Nat) (v0 : Nat) (v1 : Int32) (v2 : Int32) (v3 : Int32) (v4 : Int32) (h : hp_H) (sz sl : Nat) : Option (Int32 × hp_H × Nat × Nat) :=
  (hp_fI h 9 v0 2).bind fun x1 =>
  (hp_fR h 9 v0 4).bind fun x2 =>
  (hp_sI h 0 x2 x1 v1).bind fun h3 =>
  (hp_fR h3 9 v0 6).bind fun x4 =>
  (hp_sI h3 0 x4 x1 (0 : Int32)).bind fun h5 =>
  (hp_fR h5 9 v0 8).bind fun x6 =>
  (hp_fR h5 9 v0 7).bind fun x7 =>
  (hp_aI h5 0 x7 v4).bind fun x8 =>
  (hp_sI h5 0 x6 x1 x8).bind fun h9 =>
  (hp_fR h9 9 v0 7).bind fun x10 =>
  (hp_sI h9 0 x10 v4 x1).bind fun h11 =>
  (hp_lp (fL_X9_addNode_48 n v0 v2 v3 x1) n ((0 : Int32), h11, sz, sl)).bind fun x12 =>
  f_X9_addNode_94 n v0 x1 x12.1 x12.2.1 x12.2.2
set_option maxHeartbeats 1000000 in
set_option maxRecDepth 4000 in
theorem mo_X9_addNode_0 {n : Nat} {v0 : Nat} {v1 : Int32} {v2 : Int32} {v3 : Int32} {v4 : Int32} {h : hp_H} {sz sl : Nat} {res : Int32 × hp_H × Nat × Nat} (hm : f_X9_addNode_0 n v0 v1 v2 v3 v4 h sz sl = some res) : sz ≤ res.2.2.1 ∧ sl ≤ res.2.2.2 := by
  unfold f_X9_addNode_0 at hm
  obtain ⟨x1, hx1, hm⟩ := hp_bd hm
  obtain ⟨x2, hx2, hm⟩ := hp_bd hm
  obtain ⟨h3, hh3, hm⟩ := hp_bd hm
  obtain ⟨x4, hx4, hm⟩ := hp_bd hm
  obtain ⟨h5, hh5, hm⟩ := hp_bd hm
  obtain ⟨x6, hx6, hm⟩ := hp_bd hm
  obtain ⟨x7, hx7, hm⟩ := hp_bd hm
  obtain ⟨x8, hx8, hm⟩ := hp_bd hm
  obtain ⟨h9, hh9, hm⟩ := hp_bd hm
  obtain ⟨x10, hx10, hm⟩ := hp_bd hm
  obtain ⟨h11, hh11, hm⟩ := hp_bd hm
  obtain ⟨x12, hx12, hm⟩ := hp_bd hm
  have ml := ml_X9_addNode_48 _ _ _ hx12
  · skip
    exact hp_tr ml (mo_X9_addNode_94 hm)
set_option maxHeartbeats 1000000 in
set_option maxRecDepth 4000 in
theorem q_X9_addNode_0 (G : hp_G) (n : Nat) (v0 : Nat) (v1 : Int32) (v2 : Int32) (v3 : Int32) (v4 : Int32) (h : hp_H) (sz sl : Nat) (res : Int32 × hp_H × Nat × Nat) (hm : f_X9_addNode_0 n v0 v1 v2 v3 v4 h sz sl = some res) : hp_V G m_X9_addNode 0 [(0, .ref v0), (1, .int v1), (2, .int v2), (3, .int v3), (4, .int v4)] [] h sz sl (some (.int res.1), res.2.1, res.2.2.1, res.2.2.2) := by
  have ho := mo_X9_addNode_0 hm
  unfold f_X9_addNode_0 at hm
  refine hv_aload_n 0 dX9_addNode_0 rfl rfl ?_
  obtain ⟨x1, hx1, hm⟩ := hp_bd hm
  refine hv_get lk_f_X9_59 dX9_addNode_1 (hp_fI_spec hx1) ?_
  refine hv_istore [(5, .int x1), (0, .ref v0), (1, .int v1), (2, .int v2), (3, .int v3), (4, .int v4)] dX9_addNode_4 (by decide) rfl ?_
  refine hv_aload_n 1 dX9_addNode_6 rfl rfl ?_
  obtain ⟨x2, hx2, hm⟩ := hp_bd hm
  refine hv_get lk_f_X9_9 dX9_addNode_7 (hp_fR_spec hx2) ?_
  refine hv_iload 0 dX9_addNode_10 rfl ?_
  refine hv_iload_n 2 dX9_addNode_12 rfl rfl ?_
  obtain ⟨h3, hh3, hm⟩ := hp_bd hm
  refine hv_iast dX9_addNode_13 hh3 ?_
  refine hv_aload_n 1 dX9_addNode_14 rfl rfl ?_
  obtain ⟨x4, hx4, hm⟩ := hp_bd hm
  refine hv_get lk_f_X9_24 dX9_addNode_15 (hp_fR_spec hx4) ?_
  refine hv_iload 0 dX9_addNode_18 rfl ?_
  refine hv_iconst (0 : Int32) dX9_addNode_20 (by decide) ?_
  obtain ⟨h5, hh5, hm⟩ := hp_bd hm
  refine hv_iast dX9_addNode_21 hh5 ?_
  refine hv_aload_n 1 dX9_addNode_22 rfl rfl ?_
  obtain ⟨x6, hx6, hm⟩ := hp_bd hm
  refine hv_get lk_f_X9_30 dX9_addNode_23 (hp_fR_spec hx6) ?_
  refine hv_iload 0 dX9_addNode_26 rfl ?_
  refine hv_aload_n 1 dX9_addNode_28 rfl rfl ?_
  obtain ⟨x7, hx7, hm⟩ := hp_bd hm
  refine hv_get lk_f_X9_27 dX9_addNode_29 (hp_fR_spec hx7) ?_
  refine hv_iload 5 dX9_addNode_32 rfl ?_
  obtain ⟨x8, hx8, hm⟩ := hp_bd hm
  refine hv_iald dX9_addNode_34 hx8 ?_
  obtain ⟨h9, hh9, hm⟩ := hp_bd hm
  refine hv_iast dX9_addNode_35 hh9 ?_
  refine hv_aload_n 1 dX9_addNode_36 rfl rfl ?_
  obtain ⟨x10, hx10, hm⟩ := hp_bd hm
  refine hv_get lk_f_X9_27 dX9_addNode_37 (hp_fR_spec hx10) ?_
  refine hv_iload 5 dX9_addNode_40 rfl ?_
  refine hv_iload 0 dX9_addNode_42 rfl ?_
  obtain ⟨h11, hh11, hm⟩ := hp_bd hm
  refine hv_iast dX9_addNode_44 hh11 ?_
  refine hv_iconst (0 : Int32) dX9_addNode_45 (by decide) ?_
  refine hv_istore [(6, .int (0 : Int32)), (5, .int x1), (0, .ref v0), (1, .int v1), (2, .int v2), (3, .int v3), (4, .int v4)] dX9_addNode_46 (by decide) rfl ?_
  obtain ⟨x12, hx12, hm⟩ := hp_bd hm
  · skip
    have hz : (zx_X9_addNode_48 x12).1 ≤ _ ∧ (zx_X9_addNode_48 x12).2 ≤ _ := mo_X9_addNode_94 hm
    refine hv_sub [2, 4, 5, 1, 0] rfl (l_X9_addNode_48 G n v0 v2 v3 x1  _  n _ _ hx12 hz (fun wy13 ey13 => ?_))
    · cases ey13
      exact hv_sub [0, 1] rfl (q_X9_addNode_94 G n v0 x1 x12.1 x12.2.1 x12.2.2 _ hm)
def f_X9_addNode (n : Nat) (v0 : Nat) (v1 : Int32) (v2 : Int32) (v3 : Int32) (v4 : Int32) (h : hp_H) (sz sl : Nat) : Option (Int32 × hp_H × Nat × Nat) := (hp_ck h 9 v0).bind fun _ => f_X9_addNode_0 n v0 v1 v2 v3 v4 h sz sl
theorem c_X9_addNode (G : hp_G) (n : Nat) (v0 : Nat) (v1 : Int32) (v2 : Int32) (v3 : Int32) (v4 : Int32) (h : hp_H) (sz sl : Nat) (res : Int32 × hp_H × Nat × Nat) (hm : f_X9_addNode n v0 v1 v2 v3 v4 h sz sl = some res) : hp_C G m_X9_addNode yX9_addNode [.ref v0, .int v1, .int v2, .int v3, .int v4] h sz sl (some (.int res.1), res.2.1, res.2.2.1, res.2.2.2) := by
  unfold f_X9_addNode at hm
  obtain ⟨_, _, hm⟩ := hp_bd hm
  exact hp_C_of (by decide) rfl rfl (Nat.le_of_ble_eq_true rfl) (mo_X9_addNode_0 hm).1 (mo_X9_addNode_0 hm).2 (hv_sub [0, 1, 2, 3, 4] rfl (q_X9_addNode_0 G n v0 v1 v2 v3 v4 h sz sl res hm))
theorem k_X9_addNode {n : Nat} {v0 : Nat} {v1 : Int32} {v2 : Int32} {v3 : Int32} {v4 : Int32} {h : hp_H} {sz sl : Nat} {res : Int32 × hp_H × Nat × Nat} (hm : f_X9_addNode n v0 v1 v2 v3 v4 h sz sl = some res) : ∃ V, h v0 = some (.inr (.inr (9, V))) := by
  unfold f_X9_addNode at hm
  obtain ⟨_, hu, _⟩ := hp_bd hm
  exact hp_ck_spec hu
theorem mx_X9_addNode {n : Nat} {v0 : Nat} {v1 : Int32} {v2 : Int32} {v3 : Int32} {v4 : Int32} {h : hp_H} {sz sl : Nat} {res : Int32 × hp_H × Nat × Nat} (hm : f_X9_addNode n v0 v1 v2 v3 v4 h sz sl = some res) : sz ≤ res.2.2.1 ∧ sl ≤ res.2.2.2 := by
  unfold f_X9_addNode at hm
  obtain ⟨_, _, hm⟩ := hp_bd hm
  exact mo_X9_addNode_0 hm
abbrev m_X9_nodeOf : hp_M := (RX9, cX9_nodeOf, 8, some .int, 4, 109, "nodeOf")
theorem Z_X9_nodeOf : hp_Y yX9_nodeOf m_X9_nodeOf 3 := Y_X9_nodeOf
def f_X9_nodeOf_6 (n : Nat) (v0 : Nat) (v1 : Int32) (v2 : Int32) (v3 : Int32) (v4 : Int32) (v5 : Int32) (h : hp_H) : Option ((Int32 × Int32) ⊕ (Int32)) :=
  if v3 ≤ v5 then
    some (.inr v4)
  else
    (hp_fR h 9 v0 10).bind fun x1 =>
    (hp_aI h 0 x1 (v2 + v5)).bind fun x2 =>
    some (.inl ((((31 : Int32) * v4) + x2), (v5 + (1 : Int32))))
set_option maxHeartbeats 1000000 in
set_option maxRecDepth 4000 in
theorem q_X9_nodeOf_6 (G : hp_G) (n : Nat) (v0 : Nat) (v1 : Int32) (v2 : Int32) (v3 : Int32) (v4 : Int32) (v5 : Int32) (h : hp_H) (sz sl : Nat) (o : hp_O) (ho : sz ≤ o.2.2.1 ∧ sl ≤ o.2.2.2) (res : (Int32 × Int32) ⊕ (Int32)) (hm : f_X9_nodeOf_6 n v0 v1 v2 v3 v4 v5 h = some res) (kI : ∀ y : Int32 × Int32, res = .inl y → hp_V G m_X9_nodeOf 6 [(0, .ref v0), (1, .int v1), (2, .int v2), (3, .int v3), (4, .int y.1), (5, .int y.2)] [] h sz sl o) (kX0 : ∀ y : Int32, res = .inr y → hp_V G m_X9_nodeOf 35 [(0, .ref v0), (1, .int v1), (2, .int v2), (3, .int v3), (4, .int y)] [] h sz sl o) : hp_V G m_X9_nodeOf 6 [(0, .ref v0), (1, .int v1), (2, .int v2), (3, .int v3), (4, .int v4), (5, .int v5)] [] h sz sl o := by
  unfold f_X9_nodeOf_6 at hm
  refine hv_iload 5 dX9_nodeOf_6 rfl ?_
  refine hv_iload_n 3 dX9_nodeOf_8 rfl rfl ?_
  refine hv_icmp_ge (tgt := 35) dX9_nodeOf_9 (by decide) (fun c3 => ?_) (fun c3 => ?_)
  · rw [if_pos c3] at hm
    exact hv_sub [0, 1, 2, 3, 4] rfl (kX0 v4 (Option.some.inj hm).symm)
  · rw [if_neg c3] at hm
    refine hv_bipush (31 : Int32) dX9_nodeOf_12 (by decide) ?_
    refine hv_iload 4 dX9_nodeOf_14 rfl ?_
    refine hv_imul dX9_nodeOf_16 ?_
    refine hv_aload_n 0 dX9_nodeOf_17 rfl rfl ?_
    obtain ⟨x1, hx1, hm⟩ := hp_bd hm
    refine hv_get lk_f_X9_36 dX9_nodeOf_18 (hp_fR_spec hx1) ?_
    refine hv_iload_n 2 dX9_nodeOf_21 rfl rfl ?_
    refine hv_iload 5 dX9_nodeOf_22 rfl ?_
    refine hv_iadd dX9_nodeOf_24 ?_
    obtain ⟨x2, hx2, hm⟩ := hp_bd hm
    refine hv_iald dX9_nodeOf_25 hx2 ?_
    refine hv_iadd dX9_nodeOf_26 ?_
    refine hv_istore [(4, .int (((31 : Int32) * v4) + x2)), (0, .ref v0), (1, .int v1), (2, .int v2), (3, .int v3), (5, .int v5)] dX9_nodeOf_27 (by decide) rfl ?_
    refine hv_iinc (v5 + (1 : Int32)) 5 [(5, .int (v5 + (1 : Int32))), (4, .int (((31 : Int32) * v4) + x2)), (0, .ref v0), (1, .int v1), (2, .int v2), (3, .int v3)] dX9_nodeOf_29 rfl rfl (by decide) rfl ?_
    refine hv_goto (tgt := 6) dX9_nodeOf_32 (by decide) ?_
    exact hv_sub [2, 3, 4, 5, 1, 0] rfl (kI ((((31 : Int32) * v4) + x2), (v5 + (1 : Int32))) (Option.some.inj hm).symm)
def fL_X9_nodeOf_6 (n : Nat) (v0 : Nat) (v1 : Int32) (v2 : Int32) (v3 : Int32) (h : hp_H) (s : Int32 × Int32) : Option ((Int32 × Int32) ⊕ (Int32)) := f_X9_nodeOf_6 n v0 v1 v2 v3 s.1 s.2 h
theorem l_X9_nodeOf_6 (G : hp_G) (n : Nat) (v0 : Nat) (v1 : Int32) (v2 : Int32) (v3 : Int32) (h : hp_H) (sz sl : Nat) (o : hp_O) (ho : sz ≤ o.2.2.1 ∧ sl ≤ o.2.2.2) : ∀ (k : Nat) (s : Int32 × Int32) (x : Int32), hp_lp (fL_X9_nodeOf_6 n v0 v1 v2 v3 h) k s = some x → (∀ y : Int32, x = y → hp_V G m_X9_nodeOf 35 [(0, .ref v0), (1, .int v1), (2, .int v2), (3, .int v3), (4, .int y)] [] h sz sl o) → hp_V G m_X9_nodeOf 6 [(0, .ref v0), (1, .int v1), (2, .int v2), (3, .int v3), (4, .int s.1), (5, .int s.2)] [] h sz sl o := by
  intro k
  induction k with
  | zero => intro s x hx; exact (hp_lp_0 hx).elim
  | succ k ih =>
    intro s x hx k0
    obtain ⟨r, hr, hc⟩ := hp_lp_1 hx
    refine q_X9_nodeOf_6 G n v0 v1 v2 v3 s.1 s.2 h sz sl o ho r hr (fun s2 e => ?_) (fun y e => ?_)
    · rcases hc with ⟨s3, e3, hx3⟩ | e3
      · have e4 := Sum.inl.inj (e.symm.trans e3)
        subst e4
        exact ih _ _ hx3 k0
      · cases (e.symm.trans e3)
    · rcases hc with ⟨s3, e3, hx3⟩ | e3
      · cases (e.symm.trans e3)
      · exact k0 y (Sum.inr.inj (e3.symm.trans e))
def f_X9_nodeOf_99 (n : Nat) (v0 : Nat) (v1 : Int32) (v2 : Int32) (v3 : Int32) (v5 : Int32) (v6 : Int32) (v7 : Int32) (h : hp_H) : Option ((Int32 × Int32) ⊕ ((Unit) ⊕ (Int32))) :=
  (hp_fR h 9 v0 8).bind fun x1 =>
  (hp_aI h 0 x1 v6).bind fun x2 =>
  some (.inl (x2, (v7 + (1 : Int32))))
set_option maxHeartbeats 1000000 in
set_option maxRecDepth 4000 in
theorem q_X9_nodeOf_99 (G : hp_G) (n : Nat) (v0 : Nat) (v1 : Int32) (v2 : Int32) (v3 : Int32) (v5 : Int32) (v6 : Int32) (v7 : Int32) (h : hp_H) (sz sl : Nat) (o : hp_O) (ho : sz ≤ o.2.2.1 ∧ sl ≤ o.2.2.2) (res : (Int32 × Int32) ⊕ ((Unit) ⊕ (Int32))) (hm : f_X9_nodeOf_99 n v0 v1 v2 v3 v5 v6 v7 h = some res) (kI : ∀ y : Int32 × Int32, res = .inl y → hp_V G m_X9_nodeOf 61 [(0, .ref v0), (1, .int v1), (2, .int v2), (3, .int v3), (5, .int v5), (6, .int y.1), (7, .int y.2)] [] h sz sl o) (kX0 : ∀ y : Unit, res = .inr (.inl y) → hp_V G m_X9_nodeOf 114 [(0, .ref v0), (1, .int v1), (2, .int v2), (3, .int v3), (5, .int v5)] [] h sz sl o) (kR : ∀ y : Int32, res = .inr (.inr y) → o = (some (.int y), h, sz, sl)) : hp_V G m_X9_nodeOf 99 [(0, .ref v0), (1, .int v1), (2, .int v2), (3, .int v3), (5, .int v5), (6, .int v6), (7, .int v7)] [] h sz sl o := by
  unfold f_X9_nodeOf_99 at hm
  refine hv_aload_n 0 dX9_nodeOf_99 rfl rfl ?_
  obtain ⟨x1, hx1, hm⟩ := hp_bd hm
  refine hv_get lk_f_X9_30 dX9_nodeOf_100 (hp_fR_spec hx1) ?_
  refine hv_iload 5 dX9_nodeOf_103 rfl ?_
  obtain ⟨x2, hx2, hm⟩ := hp_bd hm
  refine hv_iald dX9_nodeOf_105 hx2 ?_
  refine hv_istore [(6, .int x2), (0, .ref v0), (1, .int v1), (2, .int v2), (3, .int v3), (5, .int v5), (7, .int v7)] dX9_nodeOf_106 (by decide) rfl ?_
  refine hv_iinc (v7 + (1 : Int32)) 6 [(7, .int (v7 + (1 : Int32))), (6, .int x2), (0, .ref v0), (1, .int v1), (2, .int v2), (3, .int v3), (5, .int v5)] dX9_nodeOf_108 rfl rfl (by decide) rfl ?_
  refine hv_goto (tgt := 61) dX9_nodeOf_111 (by decide) ?_
  exact hv_sub [2, 3, 4, 5, 6, 1, 0] rfl (kI (x2, (v7 + (1 : Int32))) (Option.some.inj hm).symm)
def f_X9_nodeOf_61 (n : Nat) (v0 : Nat) (v1 : Int32) (v2 : Int32) (v3 : Int32) (v5 : Int32) (v6 : Int32) (v7 : Int32) (h : hp_H) : Option ((Int32 × Int32) ⊕ ((Unit) ⊕ (Int32))) :=
  if (1000 : Int32) ≤ v7 then
    some (.inr (.inl ()))
  else
    if v6 = (-1 : Int32) then
      some (.inr (.inl ()))
    else
      (hp_fR h 9 v0 4).bind fun x1 =>
      (hp_aI h 0 x1 v6).bind fun x2 =>
      if x2 = v1 then
        (f_X9_takesStack n v0 v6 v2 h).bind fun x3 =>
        if x3 = 0 then
          f_X9_nodeOf_99 n v0 v1 v2 v3 v5 v6 v7 h
        else
          some (.inr (.inr v6))
      else
        f_X9_nodeOf_99 n v0 v1 v2 v3 v5 v6 v7 h
set_option maxHeartbeats 1000000 in
set_option maxRecDepth 4000 in
theorem q_X9_nodeOf_61 (G : hp_G) (n : Nat) (v0 : Nat) (v1 : Int32) (v2 : Int32) (v3 : Int32) (v5 : Int32) (v6 : Int32) (v7 : Int32) (h : hp_H) (sz sl : Nat) (o : hp_O) (ho : sz ≤ o.2.2.1 ∧ sl ≤ o.2.2.2) (res : (Int32 × Int32) ⊕ ((Unit) ⊕ (Int32))) (hm : f_X9_nodeOf_61 n v0 v1 v2 v3 v5 v6 v7 h = some res) (kI : ∀ y : Int32 × Int32, res = .inl y → hp_V G m_X9_nodeOf 61 [(0, .ref v0), (1, .int v1), (2, .int v2), (3, .int v3), (5, .int v5), (6, .int y.1), (7, .int y.2)] [] h sz sl o) (kX0 : ∀ y : Unit, res = .inr (.inl y) → hp_V G m_X9_nodeOf 114 [(0, .ref v0), (1, .int v1), (2, .int v2), (3, .int v3), (5, .int v5)] [] h sz sl o) (kR : ∀ y : Int32, res = .inr (.inr y) → o = (some (.int y), h, sz, sl)) : hp_V G m_X9_nodeOf 61 [(0, .ref v0), (1, .int v1), (2, .int v2), (3, .int v3), (5, .int v5), (6, .int v6), (7, .int v7)] [] h sz sl o := by
  unfold f_X9_nodeOf_61 at hm
  refine hv_iload 6 dX9_nodeOf_61 rfl ?_
  refine hv_sipush (1000 : Int32) dX9_nodeOf_63 (by decide) ?_
  refine hv_icmp_ge (tgt := 114) dX9_nodeOf_66 (by decide) (fun c7 => ?_) (fun c7 => ?_)
  · rw [if_pos c7] at hm
    exact hv_sub [0, 1, 2, 3, 4] rfl (kX0 () (Option.some.inj hm).symm)
  · rw [if_neg c7] at hm
    refine hv_iload 5 dX9_nodeOf_69 rfl ?_
    refine hv_iconst (-1 : Int32) dX9_nodeOf_71 (by decide) ?_
    refine hv_icmp_eq (tgt := 114) dX9_nodeOf_72 (by decide) (fun c6 => ?_) (fun c6 => ?_)
    · rw [if_pos c6] at hm
      exact hv_sub [0, 1, 2, 3, 4] rfl (kX0 () (Option.some.inj hm).symm)
    · rw [if_neg c6] at hm
      refine hv_aload_n 0 dX9_nodeOf_75 rfl rfl ?_
      obtain ⟨x1, hx1, hm⟩ := hp_bd hm
      refine hv_get lk_f_X9_9 dX9_nodeOf_76 (hp_fR_spec hx1) ?_
      refine hv_iload 5 dX9_nodeOf_79 rfl ?_
      obtain ⟨x2, hx2, hm⟩ := hp_bd hm
      refine hv_iald dX9_nodeOf_81 hx2 ?_
      refine hv_iload_n 1 dX9_nodeOf_82 rfl rfl ?_
      refine hv_icmp_ne (tgt := 99) dX9_nodeOf_83 (by decide) (fun c5 => ?_) (fun c5 => ?_)
      · rw [if_neg c5] at hm
        exact hv_sub [0, 1, 2, 3, 4, 5, 6] rfl (q_X9_nodeOf_99 G n v0 v1 v2 v3 v5 v6 v7 h sz sl o ho _ hm kI kX0 kR)
      · rw [if_pos c5] at hm
        refine hv_aload_n 0 dX9_nodeOf_86 rfl rfl ?_
        refine hv_iload 5 dX9_nodeOf_87 rfl ?_
        refine hv_iload_n 2 dX9_nodeOf_89 rfl rfl ?_
        obtain ⟨x3, hx3, hm⟩ := hp_bd hm
        obtain ⟨Vx3, hVx3⟩ := k_X9_takesStack hx3
        refine hv_callV (As := [.int v6, .int v2]) (rest := []) Z_X9_takesStack I_X9_takesStack lk_m_X9_100 rfl hVx3 (c_X9_takesStack G n v0 v6 v2 h sz sl _ hx3) rfl (Nat.le_of_ble_eq_true rfl) ⟨Nat.le_of_ble_eq_true rfl, Nat.le_of_ble_eq_true rfl⟩ ho.1 ho.2 rfl dX9_nodeOf_90 ?_
        refine hv_as [.int x3] h rfl rfl ?_
        refine hv_if_eq (tgt := 99) dX9_nodeOf_93 (by decide) (fun c4 => ?_) (fun c4 => ?_)
        · rw [if_pos c4] at hm
          exact hv_sub [0, 1, 2, 3, 4, 5, 6] rfl (q_X9_nodeOf_99 G n v0 v1 v2 v3 v5 v6 v7 h sz sl o ho _ hm kI kX0 kR)
        · rw [if_neg c4] at hm
          refine hv_iload 5 dX9_nodeOf_96 rfl ?_
          obtain rfl := kR _ (Option.some.inj hm).symm
          exact hv_iret rfl dX9_nodeOf_98
def fL_X9_nodeOf_61 (n : Nat) (v0 : Nat) (v1 : Int32) (v2 : Int32) (v3 : Int32) (v5 : Int32) (h : hp_H) (s : Int32 × Int32) : Option ((Int32 × Int32) ⊕ ((Unit) ⊕ (Int32))) := f_X9_nodeOf_61 n v0 v1 v2 v3 v5 s.1 s.2 h
theorem l_X9_nodeOf_61 (G : hp_G) (n : Nat) (v0 : Nat) (v1 : Int32) (v2 : Int32) (v3 : Int32) (v5 : Int32) (h : hp_H) (sz sl : Nat) (o : hp_O) (ho : sz ≤ o.2.2.1 ∧ sl ≤ o.2.2.2) : ∀ (k : Nat) (s : Int32 × Int32) (x : (Unit) ⊕ (Int32)), hp_lp (fL_X9_nodeOf_61 n v0 v1 v2 v3 v5 h) k s = some x → (∀ y : Unit, x = (.inl y) → hp_V G m_X9_nodeOf 114 [(0, .ref v0), (1, .int v1), (2, .int v2), (3, .int v3), (5, .int v5)] [] h sz sl o) → (∀ y : Int32, x = (.inr y) → o = (some (.int y), h, sz, sl)) → hp_V G m_X9_nodeOf 61 [(0, .ref v0), (1, .int v1), (2, .int v2), (3, .int v3), (5, .int v5), (6, .int s.1), (7, .int s.2)] [] h sz sl o := by
  intro k
  induction k with
  | zero => intro s x hx; exact (hp_lp_0 hx).elim
  | succ k ih =>
    intro s x hx k0 k1
    obtain ⟨r, hr, hc⟩ := hp_lp_1 hx
    refine q_X9_nodeOf_61 G n v0 v1 v2 v3 v5 s.1 s.2 h sz sl o ho r hr (fun s2 e => ?_) (fun y e => ?_) (fun y e => ?_)
    · rcases hc with ⟨s3, e3, hx3⟩ | e3
      · have e4 := Sum.inl.inj (e.symm.trans e3)
        subst e4
        exact ih _ _ hx3 k0 k1
      · cases (e.symm.trans e3)
    · rcases hc with ⟨s3, e3, hx3⟩ | e3
      · cases (e.symm.trans e3)
      · exact k0 y (Sum.inr.inj (e3.symm.trans e))
    · rcases hc with ⟨s3, e3, hx3⟩ | e3
      · cases (e.symm.trans e3)
      · exact k1 y (Sum.inr.inj (e3.symm.trans e))
def f_X9_nodeOf_123 (n : Nat)  (s0 : Int32) (h : hp_H) (sz sl : Nat) : Option (Int32 × hp_H × Nat × Nat) :=
  some (s0, h, sz, sl)
set_option maxHeartbeats 1000000 in
set_option maxRecDepth 4000 in
theorem mo_X9_nodeOf_123 {n : Nat}  {s0 : Int32} {h : hp_H} {sz sl : Nat} {res : Int32 × hp_H × Nat × Nat} (hm : f_X9_nodeOf_123 n s0 h sz sl = some res) : sz ≤ res.2.2.1 ∧ sl ≤ res.2.2.2 := by
  unfold f_X9_nodeOf_123 at hm
  obtain rfl := Option.some.inj hm
  exact ⟨Nat.le_refl _, Nat.le_refl _⟩
set_option maxHeartbeats 1000000 in
set_option maxRecDepth 4000 in
theorem q_X9_nodeOf_123 (G : hp_G) (n : Nat)  (s0 : Int32) (h : hp_H) (sz sl : Nat) (res : Int32 × hp_H × Nat × Nat) (hm : f_X9_nodeOf_123 n s0 h sz sl = some res) : hp_V G m_X9_nodeOf 123 [] [.int s0] h sz sl (some (.int res.1), res.2.1, res.2.2.1, res.2.2.2) := by
  have ho := mo_X9_nodeOf_123 hm
  unfold f_X9_nodeOf_123 at hm
  obtain rfl := Option.some.inj hm
  exact hv_iret rfl dX9_nodeOf_123
def f_X9_nodeOf_114 (n : Nat) (v0 : Nat) (v1 : Int32) (v2 : Int32) (v3 : Int32) (v5 : Int32) (h : hp_H) (sz sl : Nat) : Option (Int32 × hp_H × Nat × Nat) :=
  (f_X9_addNode n v0 v1 v2 v3 v5 h sz sl).bind fun x1 =>
  f_X9_nodeOf_123 n x1.1 x1.2.1 x1.2.2.1 x1.2.2.2
set_option maxHeartbeats 1000000 in
set_option maxRecDepth 4000 in
theorem mo_X9_nodeOf_114 {n : Nat} {v0 : Nat} {v1 : Int32} {v2 : Int32} {v3 : Int32} {v5 : Int32} {h : hp_H} {sz sl : Nat} {res : Int32 × hp_H × Nat × Nat} (hm : f_X9_nodeOf_114 n v0 v1 v2 v3 v5 h sz sl = some res) : sz ≤ res.2.2.1 ∧ sl ≤ res.2.2.2 := by
  unfold f_X9_nodeOf_114 at hm
  obtain ⟨x1, hx1, hm⟩ := hp_bd hm
  exact hp_tr (mx_X9_addNode hx1) (mo_X9_nodeOf_123 hm)
set_option maxHeartbeats 1000000 in
set_option maxRecDepth 4000 in
theorem q_X9_nodeOf_114 (G : hp_G) (n : Nat) (v0 : Nat) (v1 : Int32) (v2 : Int32) (v3 : Int32) (v5 : Int32) (h : hp_H) (sz sl : Nat) (res : Int32 × hp_H × Nat × Nat) (hm : f_X9_nodeOf_114 n v0 v1 v2 v3 v5 h sz sl = some res) : hp_V G m_X9_nodeOf 114 [(0, .ref v0), (1, .int v1), (2, .int v2), (3, .int v3), (5, .int v5)] [] h sz sl (some (.int res.1), res.2.1, res.2.2.1, res.2.2.2) := by
  have ho := mo_X9_nodeOf_114 hm
  unfold f_X9_nodeOf_114 at hm
  refine hv_aload_n 0 dX9_nodeOf_114 rfl rfl ?_
  refine hv_iload_n 1 dX9_nodeOf_115 rfl rfl ?_
  refine hv_iload_n 2 dX9_nodeOf_116 rfl rfl ?_
  refine hv_iload_n 3 dX9_nodeOf_117 rfl rfl ?_
  refine hv_iload 4 dX9_nodeOf_118 rfl ?_
  obtain ⟨x1, hx1, hm⟩ := hp_bd hm
  have hq := mo_X9_nodeOf_123 hm
  obtain ⟨Vx1, hVx1⟩ := k_X9_addNode hx1
  refine hv_callV (As := [.int v1, .int v2, .int v3, .int v5]) (rest := []) Z_X9_addNode I_X9_addNode lk_m_X9_104 rfl hVx1 (c_X9_addNode G n v0 v1 v2 v3 v5 h sz sl _ hx1) rfl (Nat.le_of_ble_eq_true rfl) ⟨Nat.le_of_ble_eq_true rfl, Nat.le_of_ble_eq_true rfl⟩ hq.1 hq.2 rfl dX9_nodeOf_120 ?_
  refine hv_as2 [.int x1.1] x1.2.1 x1.2.2.1 x1.2.2.2 rfl rfl rfl rfl ?_
  exact hv_sub [] rfl (q_X9_nodeOf_123 G n x1.1 x1.2.1 x1.2.2.1 x1.2.2.2 _ hm)
def f_X9_nodeOf_0 (n : Nat) (v0 : Nat) (v1 : Int32) (v2 : Int32) (v3 : Int32) (h : hp_H) (sz sl : Nat) : Option (Int32 × hp_H × Nat × Nat) :=
  (hp_lp (fL_X9_nodeOf_6 n v0 v1 v2 v3 h) n (v1, (0 : Int32))).bind fun x1 =>
  (hp_fR h 9 v0 7).bind fun x3 =>
  (hp_aI h 0 x3 ((x1 ^^^ ((Int32.toUInt32 x1 >>> (Int32.toUInt32 (8 : Int32) &&& Int32.toUInt32 31)).toInt32)) &&& (255 : Int32))).bind fun x4 =>
  (hp_lp (fL_X9_nodeOf_61 n v0 v1 v2 v3 ((x1 ^^^ ((Int32.toUInt32 x1 >>> (Int32.toUInt32 (8 : Int32) &&& Int32.toUInt32 31)).toInt32)) &&& (255 : Int32)) h) n (x4, (0 : Int32))).bind fun x5 =>
  Sum.elim (fun y6 =>
    f_X9_nodeOf_114 n v0 v1 v2 v3 ((x1 ^^^ ((Int32.toUInt32 x1 >>> (Int32.toUInt32 (8 : Int32) &&& Int32.toUInt32 31)).toInt32)) &&& (255 : Int32)) h sz sl) (fun y7 =>
    some (y7, h, sz, sl)) x5
set_option maxHeartbeats 1000000 in
set_option maxRecDepth 4000 in
theorem mo_X9_nodeOf_0 {n : Nat} {v0 : Nat} {v1 : Int32} {v2 : Int32} {v3 : Int32} {h : hp_H} {sz sl : Nat} {res : Int32 × hp_H × Nat × Nat} (hm : f_X9_nodeOf_0 n v0 v1 v2 v3 h sz sl = some res) : sz ≤ res.2.2.1 ∧ sl ≤ res.2.2.2 := by
  unfold f_X9_nodeOf_0 at hm
  obtain ⟨x1, hx1, hm⟩ := hp_bd hm
  · skip
    obtain ⟨x3, hx3, hm⟩ := hp_bd hm
    obtain ⟨x4, hx4, hm⟩ := hp_bd hm
    obtain ⟨x5, hx5, hm⟩ := hp_bd hm
    rcases x5 with y6 | y7
    · skip
      simp only [Sum.elim_inl, Sum.elim_inr] at hm
      exact mo_X9_nodeOf_114 hm
    · skip
      simp only [Sum.elim_inl, Sum.elim_inr] at hm
      obtain rfl := Option.some.inj hm
      exact ⟨Nat.le_refl _, Nat.le_refl _⟩
set_option maxHeartbeats 1000000 in
set_option maxRecDepth 4000 in
theorem q_X9_nodeOf_0 (G : hp_G) (n : Nat) (v0 : Nat) (v1 : Int32) (v2 : Int32) (v3 : Int32) (h : hp_H) (sz sl : Nat) (res : Int32 × hp_H × Nat × Nat) (hm : f_X9_nodeOf_0 n v0 v1 v2 v3 h sz sl = some res) : hp_V G m_X9_nodeOf 0 [(0, .ref v0), (1, .int v1), (2, .int v2), (3, .int v3)] [] h sz sl (some (.int res.1), res.2.1, res.2.2.1, res.2.2.2) := by
  have ho := mo_X9_nodeOf_0 hm
  unfold f_X9_nodeOf_0 at hm
  refine hv_iload_n 1 dX9_nodeOf_0 rfl rfl ?_
  refine hv_istore [(4, .int v1), (0, .ref v0), (1, .int v1), (2, .int v2), (3, .int v3)] dX9_nodeOf_1 (by decide) rfl ?_
  refine hv_iconst (0 : Int32) dX9_nodeOf_3 (by decide) ?_
  refine hv_istore [(5, .int (0 : Int32)), (4, .int v1), (0, .ref v0), (1, .int v1), (2, .int v2), (3, .int v3)] dX9_nodeOf_4 (by decide) rfl ?_
  obtain ⟨x1, hx1, hm⟩ := hp_bd hm
  refine hv_sub [2, 3, 4, 5, 1, 0] rfl (l_X9_nodeOf_6 G n v0 v1 v2 v3 h sz sl _ ho n _ _ hx1 (fun y2 ey2 => ?_))
  · skip
    subst ey2
    refine hv_iload 4 dX9_nodeOf_35 rfl ?_
    refine hv_iload 4 dX9_nodeOf_37 rfl ?_
    refine hv_bipush (8 : Int32) dX9_nodeOf_39 (by decide) ?_
    refine hv_iushr dX9_nodeOf_41 ?_
    refine hv_ixor dX9_nodeOf_42 ?_
    refine hv_sipush (255 : Int32) dX9_nodeOf_43 (by decide) ?_
    refine hv_iand dX9_nodeOf_46 ?_
    refine hv_istore [(5, .int ((x1 ^^^ ((Int32.toUInt32 x1 >>> (Int32.toUInt32 (8 : Int32) &&& Int32.toUInt32 31)).toInt32)) &&& (255 : Int32))), (0, .ref v0), (1, .int v1), (2, .int v2), (3, .int v3), (4, .int x1)] dX9_nodeOf_47 (by decide) rfl ?_
    refine hv_aload_n 1 dX9_nodeOf_49 rfl rfl ?_
    obtain ⟨x3, hx3, hm⟩ := hp_bd hm
    refine hv_get lk_f_X9_27 dX9_nodeOf_50 (hp_fR_spec hx3) ?_
    refine hv_iload 0 dX9_nodeOf_53 rfl ?_
    obtain ⟨x4, hx4, hm⟩ := hp_bd hm
    refine hv_iald dX9_nodeOf_55 hx4 ?_
    refine hv_istore [(6, .int x4), (5, .int ((x1 ^^^ ((Int32.toUInt32 x1 >>> (Int32.toUInt32 (8 : Int32) &&& Int32.toUInt32 31)).toInt32)) &&& (255 : Int32))), (0, .ref v0), (1, .int v1), (2, .int v2), (3, .int v3), (4, .int x1)] dX9_nodeOf_56 (by decide) rfl ?_
    refine hv_iconst (0 : Int32) dX9_nodeOf_58 (by decide) ?_
    refine hv_istore [(7, .int (0 : Int32)), (6, .int x4), (5, .int ((x1 ^^^ ((Int32.toUInt32 x1 >>> (Int32.toUInt32 (8 : Int32) &&& Int32.toUInt32 31)).toInt32)) &&& (255 : Int32))), (0, .ref v0), (1, .int v1), (2, .int v2), (3, .int v3), (4, .int x1)] dX9_nodeOf_59 (by decide) rfl ?_
    obtain ⟨x5, hx5, hm⟩ := hp_bd hm
    refine hv_sub [3, 4, 5, 6, 2, 1, 0] rfl (l_X9_nodeOf_61 G n v0 v1 v2 v3 ((x1 ^^^ ((Int32.toUInt32 x1 >>> (Int32.toUInt32 (8 : Int32) &&& Int32.toUInt32 31)).toInt32)) &&& (255 : Int32)) h sz sl _ ho n _ _ hx5 (fun y6 ey6 => ?_) (fun y7 ey7 => ?_))
    · skip
      subst ey6
      simp only [Sum.elim_inl, Sum.elim_inr] at hm
      exact hv_sub [0, 1, 2, 3, 4] rfl (q_X9_nodeOf_114 G n v0 v1 v2 v3 ((x1 ^^^ ((Int32.toUInt32 x1 >>> (Int32.toUInt32 (8 : Int32) &&& Int32.toUInt32 31)).toInt32)) &&& (255 : Int32)) h sz sl _ hm)
    · skip
      subst ey7
      simp only [Sum.elim_inl, Sum.elim_inr] at hm
      obtain rfl := Option.some.inj hm
      rfl
def f_X9_nodeOf (n : Nat) (v0 : Nat) (v1 : Int32) (v2 : Int32) (v3 : Int32) (h : hp_H) (sz sl : Nat) : Option (Int32 × hp_H × Nat × Nat) := (hp_ck h 9 v0).bind fun _ => f_X9_nodeOf_0 n v0 v1 v2 v3 h sz sl
theorem c_X9_nodeOf (G : hp_G) (n : Nat) (v0 : Nat) (v1 : Int32) (v2 : Int32) (v3 : Int32) (h : hp_H) (sz sl : Nat) (res : Int32 × hp_H × Nat × Nat) (hm : f_X9_nodeOf n v0 v1 v2 v3 h sz sl = some res) : hp_C G m_X9_nodeOf yX9_nodeOf [.ref v0, .int v1, .int v2, .int v3] h sz sl (some (.int res.1), res.2.1, res.2.2.1, res.2.2.2) := by
  unfold f_X9_nodeOf at hm
  obtain ⟨_, _, hm⟩ := hp_bd hm
  exact hp_C_of (by decide) rfl rfl (Nat.le_of_ble_eq_true rfl) (mo_X9_nodeOf_0 hm).1 (mo_X9_nodeOf_0 hm).2 (hv_sub [0, 1, 2, 3] rfl (q_X9_nodeOf_0 G n v0 v1 v2 v3 h sz sl res hm))
theorem k_X9_nodeOf {n : Nat} {v0 : Nat} {v1 : Int32} {v2 : Int32} {v3 : Int32} {h : hp_H} {sz sl : Nat} {res : Int32 × hp_H × Nat × Nat} (hm : f_X9_nodeOf n v0 v1 v2 v3 h sz sl = some res) : ∃ V, h v0 = some (.inr (.inr (9, V))) := by
  unfold f_X9_nodeOf at hm
  obtain ⟨_, hu, _⟩ := hp_bd hm
  exact hp_ck_spec hu
theorem mx_X9_nodeOf {n : Nat} {v0 : Nat} {v1 : Int32} {v2 : Int32} {v3 : Int32} {h : hp_H} {sz sl : Nat} {res : Int32 × hp_H × Nat × Nat} (hm : f_X9_nodeOf n v0 v1 v2 v3 h sz sl = some res) : sz ≤ res.2.2.1 ∧ sl ≤ res.2.2.2 := by
  unfold f_X9_nodeOf at hm
  obtain ⟨_, _, hm⟩ := hp_bd hm
  exact mo_X9_nodeOf_0 hm
abbrev m_X9_plant : hp_M := (RX9, cX9_plant, 9, none, 5, 136, "plant")
theorem Z_X9_plant : hp_Y yX9_plant m_X9_plant 2 := Y_X9_plant
abbrev zx_X9_plant_38 : (hp_H × Nat × Nat) → Nat × Nat := (fun y => (y.2.1, y.2.2))
abbrev zz_X9_plant_38 : ((Int32 × Int32 × Int32 × hp_H × Nat × Nat) ⊕ (hp_H × Nat × Nat)) → Nat × Nat := Sum.elim (fun y => (y.2.2.2.2.1, y.2.2.2.2.2)) zx_X9_plant_38
def f_X9_plant_160 (n : Nat) (v0 : Nat) (v3 : Int32) (v4 : Int32) (v5 : Int32) (h : hp_H) (sz sl : Nat) : Option ((Int32 × Int32 × Int32 × hp_H × Nat × Nat) ⊕ (hp_H × Nat × Nat)) :=
  some (.inl (v3, v4, (v5 + (1 : Int32)), h, sz, sl))
set_option maxHeartbeats 1000000 in
set_option maxRecDepth 4000 in
theorem mo_X9_plant_160 {n : Nat} {v0 : Nat} {v3 : Int32} {v4 : Int32} {v5 : Int32} {h : hp_H} {sz sl : Nat} {res : (Int32 × Int32 × Int32 × hp_H × Nat × Nat) ⊕ (hp_H × Nat × Nat)} (hm : f_X9_plant_160 n v0 v3 v4 v5 h sz sl = some res) : sz ≤ (zz_X9_plant_38 res).1 ∧ sl ≤ (zz_X9_plant_38 res).2 := by
  unfold f_X9_plant_160 at hm
  obtain rfl := Option.some.inj hm
  exact ⟨Nat.le_refl _, Nat.le_refl _⟩
set_option maxHeartbeats 1000000 in
set_option maxRecDepth 4000 in
theorem q_X9_plant_160 (G : hp_G) (n : Nat) (v0 : Nat) (v3 : Int32) (v4 : Int32) (v5 : Int32) (h : hp_H) (sz sl : Nat) (o : hp_O) (res : (Int32 × Int32 × Int32 × hp_H × Nat × Nat) ⊕ (hp_H × Nat × Nat)) (hB : (zz_X9_plant_38 res).1 ≤ o.2.2.1 ∧ (zz_X9_plant_38 res).2 ≤ o.2.2.2) (hm : f_X9_plant_160 n v0 v3 v4 v5 h sz sl = some res) (kI : ∀ y : Int32 × Int32 × Int32 × hp_H × Nat × Nat, res = .inl y → hp_V G m_X9_plant 38 [(0, .ref v0), (3, .int y.1), (4, .int y.2.1), (5, .int y.2.2.1)] [] y.2.2.2.1 y.2.2.2.2.1 y.2.2.2.2.2 o) (kX0 : ∀ y : hp_H × Nat × Nat, res = .inr y → hp_V G m_X9_plant 166 [(0, .ref v0)] [] y.1 y.2.1 y.2.2 o) : hp_V G m_X9_plant 160 [(0, .ref v0), (3, .int v3), (4, .int v4), (5, .int v5)] [] h sz sl o := by
  have ho : sz ≤ o.2.2.1 ∧ sl ≤ o.2.2.2 := ⟨Nat.le_trans (mo_X9_plant_160 hm).1 hB.1, Nat.le_trans (mo_X9_plant_160 hm).2 hB.2⟩
  unfold f_X9_plant_160 at hm
  refine hv_iinc (v5 + (1 : Int32)) 3 [(5, .int (v5 + (1 : Int32))), (0, .ref v0), (3, .int v3), (4, .int v4)] dX9_plant_160 rfl rfl (by decide) rfl ?_
  refine hv_goto (tgt := 38) dX9_plant_163 (by decide) ?_
  exact hv_sub [1, 2, 3, 0] rfl (kI (v3, v4, (v5 + (1 : Int32)), h, sz, sl) (Option.some.inj hm).symm)
def f_X9_plant_115 (n : Nat) (v0 : Nat) (v3 : Int32) (v4 : Int32) (v5 : Int32) (v7 : Int32) (s0 : Int32) (h : hp_H) (sz sl : Nat) : Option ((Int32 × Int32 × Int32 × hp_H × Nat × Nat) ⊕ (hp_H × Nat × Nat)) :=
  (hp_fR h 9 v0 10).bind fun x1 =>
  (hp_sI h 0 x1 (v4 - v7) s0).bind fun h2 =>
  (hp_fR h2 9 v0 1).bind fun x3 =>
  (hp_fR h2 3 x3 4).bind fun x4 =>
  (hp_aI h2 1 x4 v5).bind fun x5 =>
  if x5 = 0 then
    f_X9_plant_160 n v0 v3 ((v4 - v7) + (1 : Int32)) v5 h2 sz sl
  else
    (hp_fR h2 9 v0 9).bind fun x6 =>
    (hp_sI h2 0 x6 v3 s0).bind fun h7 =>
    f_X9_plant_160 n v0 (v3 + (1 : Int32)) ((v4 - v7) + (1 : Int32)) v5 h7 sz sl
set_option maxHeartbeats 1000000 in
set_option maxRecDepth 4000 in
theorem mo_X9_plant_115 {n : Nat} {v0 : Nat} {v3 : Int32} {v4 : Int32} {v5 : Int32} {v7 : Int32} {s0 : Int32} {h : hp_H} {sz sl : Nat} {res : (Int32 × Int32 × Int32 × hp_H × Nat × Nat) ⊕ (hp_H × Nat × Nat)} (hm : f_X9_plant_115 n v0 v3 v4 v5 v7 s0 h sz sl = some res) : sz ≤ (zz_X9_plant_38 res).1 ∧ sl ≤ (zz_X9_plant_38 res).2 := by
  unfold f_X9_plant_115 at hm
  obtain ⟨x1, hx1, hm⟩ := hp_bd hm
  obtain ⟨h2, hh2, hm⟩ := hp_bd hm
  obtain ⟨x3, hx3, hm⟩ := hp_bd hm
  obtain ⟨x4, hx4, hm⟩ := hp_bd hm
  obtain ⟨x5, hx5, hm⟩ := hp_bd hm
  rcases Decidable.em (x5 = 0) with c8 | c8
  · rw [if_pos c8] at hm
    exact mo_X9_plant_160 hm
  · rw [if_neg c8] at hm
    obtain ⟨x6, hx6, hm⟩ := hp_bd hm
    obtain ⟨h7, hh7, hm⟩ := hp_bd hm
    exact mo_X9_plant_160 hm
set_option maxHeartbeats 1000000 in
set_option maxRecDepth 4000 in
theorem q_X9_plant_115 (G : hp_G) (n : Nat) (v0 : Nat) (v3 : Int32) (v4 : Int32) (v5 : Int32) (v7 : Int32) (s0 : Int32) (h : hp_H) (sz sl : Nat) (o : hp_O) (res : (Int32 × Int32 × Int32 × hp_H × Nat × Nat) ⊕ (hp_H × Nat × Nat)) (hB : (zz_X9_plant_38 res).1 ≤ o.2.2.1 ∧ (zz_X9_plant_38 res).2 ≤ o.2.2.2) (hm : f_X9_plant_115 n v0 v3 v4 v5 v7 s0 h sz sl = some res) (kI : ∀ y : Int32 × Int32 × Int32 × hp_H × Nat × Nat, res = .inl y → hp_V G m_X9_plant 38 [(0, .ref v0), (3, .int y.1), (4, .int y.2.1), (5, .int y.2.2.1)] [] y.2.2.2.1 y.2.2.2.2.1 y.2.2.2.2.2 o) (kX0 : ∀ y : hp_H × Nat × Nat, res = .inr y → hp_V G m_X9_plant 166 [(0, .ref v0)] [] y.1 y.2.1 y.2.2 o) : hp_V G m_X9_plant 115 [(0, .ref v0), (3, .int v3), (4, .int v4), (5, .int v5), (7, .int v7)] [.int s0] h sz sl o := by
  have ho : sz ≤ o.2.2.1 ∧ sl ≤ o.2.2.2 := ⟨Nat.le_trans (mo_X9_plant_115 hm).1 hB.1, Nat.le_trans (mo_X9_plant_115 hm).2 hB.2⟩
  unfold f_X9_plant_115 at hm
  refine hv_istore [(8, .int s0), (0, .ref v0), (3, .int v3), (4, .int v4), (5, .int v5), (7, .int v7)] dX9_plant_115 (by decide) rfl ?_
  refine hv_iload 3 dX9_plant_117 rfl ?_
  refine hv_iload 5 dX9_plant_119 rfl ?_
  refine hv_isub dX9_plant_121 ?_
  refine hv_istore [(4, .int (v4 - v7)), (8, .int s0), (0, .ref v0), (3, .int v3), (5, .int v5), (7, .int v7)] dX9_plant_122 (by decide) rfl ?_
  refine hv_aload_n 2 dX9_plant_124 rfl rfl ?_
  obtain ⟨x1, hx1, hm⟩ := hp_bd hm
  refine hv_get lk_f_X9_36 dX9_plant_125 (hp_fR_spec hx1) ?_
  refine hv_iload 0 dX9_plant_128 rfl ?_
  refine hv_iload 1 dX9_plant_130 rfl ?_
  obtain ⟨h2, hh2, hm⟩ := hp_bd hm
  refine hv_iast dX9_plant_132 hh2 ?_
  refine hv_iinc ((v4 - v7) + (1 : Int32)) 0 [(4, .int ((v4 - v7) + (1 : Int32))), (8, .int s0), (0, .ref v0), (3, .int v3), (5, .int v5), (7, .int v7)] dX9_plant_133 rfl rfl (by decide) rfl ?_
  refine hv_aload_n 2 dX9_plant_136 rfl rfl ?_
  obtain ⟨x3, hx3, hm⟩ := hp_bd hm
  refine hv_get lk_f_X9_55 dX9_plant_137 (hp_fR_spec hx3) ?_
  obtain ⟨x4, hx4, hm⟩ := hp_bd hm
  refine hv_get lk_f_X9_93 dX9_plant_140 (hp_fR_spec hx4) ?_
  refine hv_iload 4 dX9_plant_143 rfl ?_
  obtain ⟨x5, hx5, hm⟩ := hp_bd hm
  refine hv_bald dX9_plant_145 hx5 ?_
  refine hv_if_eq (tgt := 160) dX9_plant_146 (by decide) (fun c8 => ?_) (fun c8 => ?_)
  · rw [if_pos c8] at hm
    exact hv_sub [2, 3, 0, 4] rfl (q_X9_plant_160 G n v0 v3 ((v4 - v7) + (1 : Int32)) v5 h2 sz sl o _ hB hm kI kX0)
  · rw [if_neg c8] at hm
    refine hv_aload_n 2 dX9_plant_149 rfl rfl ?_
    obtain ⟨x6, hx6, hm⟩ := hp_bd hm
    refine hv_get lk_f_X9_33 dX9_plant_150 (hp_fR_spec hx6) ?_
    refine hv_iload_n 3 dX9_plant_153 rfl rfl ?_
    refine hv_iload 1 dX9_plant_154 rfl ?_
    obtain ⟨h7, hh7, hm⟩ := hp_bd hm
    refine hv_iast dX9_plant_156 hh7 ?_
    refine hv_iinc (v3 + (1 : Int32)) 3 [(3, .int (v3 + (1 : Int32))), (4, .int ((v4 - v7) + (1 : Int32))), (8, .int s0), (0, .ref v0), (5, .int v5), (7, .int v7)] dX9_plant_157 rfl rfl (by decide) rfl ?_
    exact hv_sub [3, 0, 1, 4] rfl (q_X9_plant_160 G n v0 (v3 + (1 : Int32)) ((v4 - v7) + (1 : Int32)) v5 h7 sz sl o _ hB hm kI kX0)
def f_X9_plant_83 (n : Nat) (v0 : Nat) (v3 : Int32) (v4 : Int32) (v5 : Int32) (v6 : Int32) (s0 : Int32) (h : hp_H) (sz sl : Nat) : Option ((Int32 × Int32 × Int32 × hp_H × Nat × Nat) ⊕ (hp_H × Nat × Nat)) :=
  if 0 ≤ v6 then
    (f_X9_nodeOf n v0 v6 (v4 - s0) s0 h sz sl).bind fun x1 =>
    f_X9_plant_115 n v0 v3 v4 v5 s0 x1.1 x1.2.1 x1.2.2.1 x1.2.2.2
  else
    (hp_fR h 9 v0 9).bind fun x2 =>
    (hp_aI h 0 x2 ((-1 : Int32) - v6)).bind fun x3 =>
    f_X9_plant_115 n v0 v3 v4 v5 s0 x3 h sz sl
set_option maxHeartbeats 1000000 in
set_option maxRecDepth 4000 in
theorem mo_X9_plant_83 {n : Nat} {v0 : Nat} {v3 : Int32} {v4 : Int32} {v5 : Int32} {v6 : Int32} {s0 : Int32} {h : hp_H} {sz sl : Nat} {res : (Int32 × Int32 × Int32 × hp_H × Nat × Nat) ⊕ (hp_H × Nat × Nat)} (hm : f_X9_plant_83 n v0 v3 v4 v5 v6 s0 h sz sl = some res) : sz ≤ (zz_X9_plant_38 res).1 ∧ sl ≤ (zz_X9_plant_38 res).2 := by
  unfold f_X9_plant_83 at hm
  rcases Decidable.em (0 ≤ v6) with c4 | c4
  · rw [if_pos c4] at hm
    obtain ⟨x1, hx1, hm⟩ := hp_bd hm
    exact hp_tr (mx_X9_nodeOf hx1) (mo_X9_plant_115 hm)
  · rw [if_neg c4] at hm
    obtain ⟨x2, hx2, hm⟩ := hp_bd hm
    obtain ⟨x3, hx3, hm⟩ := hp_bd hm
    exact mo_X9_plant_115 hm
set_option maxHeartbeats 1000000 in
set_option maxRecDepth 4000 in
theorem q_X9_plant_83 (G : hp_G) (n : Nat) (v0 : Nat) (v3 : Int32) (v4 : Int32) (v5 : Int32) (v6 : Int32) (s0 : Int32) (h : hp_H) (sz sl : Nat) (o : hp_O) (res : (Int32 × Int32 × Int32 × hp_H × Nat × Nat) ⊕ (hp_H × Nat × Nat)) (hB : (zz_X9_plant_38 res).1 ≤ o.2.2.1 ∧ (zz_X9_plant_38 res).2 ≤ o.2.2.2) (hm : f_X9_plant_83 n v0 v3 v4 v5 v6 s0 h sz sl = some res) (kI : ∀ y : Int32 × Int32 × Int32 × hp_H × Nat × Nat, res = .inl y → hp_V G m_X9_plant 38 [(0, .ref v0), (3, .int y.1), (4, .int y.2.1), (5, .int y.2.2.1)] [] y.2.2.2.1 y.2.2.2.2.1 y.2.2.2.2.2 o) (kX0 : ∀ y : hp_H × Nat × Nat, res = .inr y → hp_V G m_X9_plant 166 [(0, .ref v0)] [] y.1 y.2.1 y.2.2 o) : hp_V G m_X9_plant 83 [(0, .ref v0), (3, .int v3), (4, .int v4), (5, .int v5), (6, .int v6)] [.int s0] h sz sl o := by
  have ho : sz ≤ o.2.2.1 ∧ sl ≤ o.2.2.2 := ⟨Nat.le_trans (mo_X9_plant_83 hm).1 hB.1, Nat.le_trans (mo_X9_plant_83 hm).2 hB.2⟩
  unfold f_X9_plant_83 at hm
  refine hv_istore [(7, .int s0), (0, .ref v0), (3, .int v3), (4, .int v4), (5, .int v5), (6, .int v6)] dX9_plant_83 (by decide) rfl ?_
  refine hv_iload 5 dX9_plant_85 rfl ?_
  refine hv_if_ge (tgt := 102) dX9_plant_87 (by decide) (fun c4 => ?_) (fun c4 => ?_)
  · rw [if_pos c4] at hm
    refine hv_aload_n 1 dX9_plant_102 rfl rfl ?_
    refine hv_iload 5 dX9_plant_103 rfl ?_
    refine hv_iload 3 dX9_plant_105 rfl ?_
    refine hv_iload 0 dX9_plant_107 rfl ?_
    refine hv_isub dX9_plant_109 ?_
    refine hv_iload 0 dX9_plant_110 rfl ?_
    obtain ⟨x1, hx1, hm⟩ := hp_bd hm
    have hq := hp_tr (mo_X9_plant_115 hm) hB
    obtain ⟨Vx1, hVx1⟩ := k_X9_nodeOf hx1
    refine hv_callV (As := [.int v6, .int (v4 - s0), .int s0]) (rest := []) Z_X9_nodeOf I_X9_nodeOf lk_m_X9_89 rfl hVx1 (c_X9_nodeOf G n v0 v6 (v4 - s0) s0 h sz sl _ hx1) rfl (Nat.le_of_ble_eq_true rfl) ⟨Nat.le_of_ble_eq_true rfl, Nat.le_of_ble_eq_true rfl⟩ hq.1 hq.2 rfl dX9_plant_112 ?_
    refine hv_as2 [.int x1.1] x1.2.1 x1.2.2.1 x1.2.2.2 rfl rfl rfl rfl ?_
    exact hv_sub [1, 2, 3, 4, 0] rfl (q_X9_plant_115 G n v0 v3 v4 v5 s0 x1.1 x1.2.1 x1.2.2.1 x1.2.2.2 o _ hB hm kI kX0)
  · rw [if_neg c4] at hm
    refine hv_aload_n 1 dX9_plant_90 rfl rfl ?_
    obtain ⟨x2, hx2, hm⟩ := hp_bd hm
    refine hv_get lk_f_X9_33 dX9_plant_91 (hp_fR_spec hx2) ?_
    refine hv_iconst (-1 : Int32) dX9_plant_94 (by decide) ?_
    refine hv_iload 5 dX9_plant_95 rfl ?_
    refine hv_isub dX9_plant_97 ?_
    obtain ⟨x3, hx3, hm⟩ := hp_bd hm
    refine hv_iald dX9_plant_98 hx3 ?_
    refine hv_goto (tgt := 115) dX9_plant_99 (by decide) ?_
    exact hv_sub [1, 2, 3, 4, 0] rfl (q_X9_plant_115 G n v0 v3 v4 v5 s0 x3 h sz sl o _ hB hm kI kX0)
def f_X9_plant_38 (n : Nat) (v0 : Nat) (v3 : Int32) (v4 : Int32) (v5 : Int32) (h : hp_H) (sz sl : Nat) : Option ((Int32 × Int32 × Int32 × hp_H × Nat × Nat) ⊕ (hp_H × Nat × Nat)) :=
  (hp_fR h 9 v0 1).bind fun x1 =>
  (hp_fI h 3 x1 1).bind fun x2 =>
  if x2 ≤ v5 then
    some (.inr (h, sz, sl))
  else
    (hp_fR h 9 v0 1).bind fun x3 =>
    (hp_fR h 3 x3 3).bind fun x4 =>
    (hp_aI h 0 x4 v5).bind fun x5 =>
    if 0 ≤ x5 then
      (hp_fR h 9 v0 0).bind fun x6 =>
      (hp_fR h 0 x6 12).bind fun x7 =>
      (f_X5_size n x7 x5 h).bind fun x8 =>
      f_X9_plant_83 n v0 v3 v4 v5 x5 x8 h sz sl
    else
      f_X9_plant_83 n v0 v3 v4 v5 x5 (0 : Int32) h sz sl
set_option maxHeartbeats 1000000 in
set_option maxRecDepth 4000 in
theorem mo_X9_plant_38 {n : Nat} {v0 : Nat} {v3 : Int32} {v4 : Int32} {v5 : Int32} {h : hp_H} {sz sl : Nat} {res : (Int32 × Int32 × Int32 × hp_H × Nat × Nat) ⊕ (hp_H × Nat × Nat)} (hm : f_X9_plant_38 n v0 v3 v4 v5 h sz sl = some res) : sz ≤ (zz_X9_plant_38 res).1 ∧ sl ≤ (zz_X9_plant_38 res).2 := by
  unfold f_X9_plant_38 at hm
  obtain ⟨x1, hx1, hm⟩ := hp_bd hm
  obtain ⟨x2, hx2, hm⟩ := hp_bd hm
  rcases Decidable.em (x2 ≤ v5) with c10 | c10
  · rw [if_pos c10] at hm
    obtain rfl := Option.some.inj hm
    exact ⟨Nat.le_refl _, Nat.le_refl _⟩
  · rw [if_neg c10] at hm
    obtain ⟨x3, hx3, hm⟩ := hp_bd hm
    obtain ⟨x4, hx4, hm⟩ := hp_bd hm
    obtain ⟨x5, hx5, hm⟩ := hp_bd hm
    rcases Decidable.em (0 ≤ x5) with c9 | c9
    · rw [if_pos c9] at hm
      obtain ⟨x6, hx6, hm⟩ := hp_bd hm
      obtain ⟨x7, hx7, hm⟩ := hp_bd hm
      obtain ⟨x8, hx8, hm⟩ := hp_bd hm
      exact mo_X9_plant_83 hm
    · rw [if_neg c9] at hm
      exact mo_X9_plant_83 hm
set_option maxHeartbeats 1000000 in
set_option maxRecDepth 4000 in
theorem q_X9_plant_38 (G : hp_G) (n : Nat) (v0 : Nat) (v3 : Int32) (v4 : Int32) (v5 : Int32) (h : hp_H) (sz sl : Nat) (o : hp_O) (res : (Int32 × Int32 × Int32 × hp_H × Nat × Nat) ⊕ (hp_H × Nat × Nat)) (hB : (zz_X9_plant_38 res).1 ≤ o.2.2.1 ∧ (zz_X9_plant_38 res).2 ≤ o.2.2.2) (hm : f_X9_plant_38 n v0 v3 v4 v5 h sz sl = some res) (kI : ∀ y : Int32 × Int32 × Int32 × hp_H × Nat × Nat, res = .inl y → hp_V G m_X9_plant 38 [(0, .ref v0), (3, .int y.1), (4, .int y.2.1), (5, .int y.2.2.1)] [] y.2.2.2.1 y.2.2.2.2.1 y.2.2.2.2.2 o) (kX0 : ∀ y : hp_H × Nat × Nat, res = .inr y → hp_V G m_X9_plant 166 [(0, .ref v0)] [] y.1 y.2.1 y.2.2 o) : hp_V G m_X9_plant 38 [(0, .ref v0), (3, .int v3), (4, .int v4), (5, .int v5)] [] h sz sl o := by
  have ho : sz ≤ o.2.2.1 ∧ sl ≤ o.2.2.2 := ⟨Nat.le_trans (mo_X9_plant_38 hm).1 hB.1, Nat.le_trans (mo_X9_plant_38 hm).2 hB.2⟩
  unfold f_X9_plant_38 at hm
  refine hv_iload 3 dX9_plant_38 rfl ?_
  refine hv_aload_n 0 dX9_plant_40 rfl rfl ?_
  obtain ⟨x1, hx1, hm⟩ := hp_bd hm
  refine hv_get lk_f_X9_55 dX9_plant_41 (hp_fR_spec hx1) ?_
  obtain ⟨x2, hx2, hm⟩ := hp_bd hm
  refine hv_get lk_f_X9_72 dX9_plant_44 (hp_fI_spec hx2) ?_
  refine hv_icmp_ge (tgt := 166) dX9_plant_47 (by decide) (fun c10 => ?_) (fun c10 => ?_)
  · rw [if_pos c10] at hm
    exact hv_sub [0] rfl (kX0 (h, sz, sl) (Option.some.inj hm).symm)
  · rw [if_neg c10] at hm
    refine hv_aload_n 0 dX9_plant_50 rfl rfl ?_
    obtain ⟨x3, hx3, hm⟩ := hp_bd hm
    refine hv_get lk_f_X9_55 dX9_plant_51 (hp_fR_spec hx3) ?_
    obtain ⟨x4, hx4, hm⟩ := hp_bd hm
    refine hv_get lk_f_X9_77 dX9_plant_54 (hp_fR_spec hx4) ?_
    refine hv_iload 3 dX9_plant_57 rfl ?_
    obtain ⟨x5, hx5, hm⟩ := hp_bd hm
    refine hv_iald dX9_plant_59 hx5 ?_
    refine hv_istore [(6, .int x5), (0, .ref v0), (3, .int v3), (4, .int v4), (5, .int v5)] dX9_plant_60 (by decide) rfl ?_
    refine hv_iload 0 dX9_plant_62 rfl ?_
    refine hv_if_ge (tgt := 71) dX9_plant_64 (by decide) (fun c9 => ?_) (fun c9 => ?_)
    · rw [if_pos c9] at hm
      refine hv_aload_n 1 dX9_plant_71 rfl rfl ?_
      obtain ⟨x6, hx6, hm⟩ := hp_bd hm
      refine hv_get lk_f_X9_51 dX9_plant_72 (hp_fR_spec hx6) ?_
      obtain ⟨x7, hx7, hm⟩ := hp_bd hm
      refine hv_get lk_f_X9_80 dX9_plant_75 (hp_fR_spec hx7) ?_
      refine hv_iload 0 dX9_plant_78 rfl ?_
      obtain ⟨x8, hx8, hm⟩ := hp_bd hm
      obtain ⟨Vx8, hVx8⟩ := k_X5_size hx8
      refine hv_callV (As := [.int x5]) (rest := []) Z_X5_size I_X5_size lk_m_X9_85 rfl hVx8 (c_X5_size G n x7 x5 h sz sl _ hx8) rfl (Nat.le_of_ble_eq_true rfl) ⟨Nat.le_of_ble_eq_true rfl, Nat.le_of_ble_eq_true rfl⟩ ho.1 ho.2 rfl dX9_plant_80 ?_
      refine hv_as [.int x8] h rfl rfl ?_
      exact hv_sub [1, 2, 3, 4, 0] rfl (q_X9_plant_83 G n v0 v3 v4 v5 x5 x8 h sz sl o _ hB hm kI kX0)
    · rw [if_neg c9] at hm
      refine hv_iconst (0 : Int32) dX9_plant_67 (by decide) ?_
      refine hv_goto (tgt := 83) dX9_plant_68 (by decide) ?_
      exact hv_sub [1, 2, 3, 4, 0] rfl (q_X9_plant_83 G n v0 v3 v4 v5 x5 (0 : Int32) h sz sl o _ hB hm kI kX0)
def fL_X9_plant_38 (n : Nat) (v0 : Nat) (s : Int32 × Int32 × Int32 × hp_H × Nat × Nat) : Option ((Int32 × Int32 × Int32 × hp_H × Nat × Nat) ⊕ (hp_H × Nat × Nat)) := f_X9_plant_38 n v0 s.1 s.2.1 s.2.2.1 s.2.2.2.1 s.2.2.2.2.1 s.2.2.2.2.2
theorem ml_X9_plant_38 {n : Nat} {v0 : Nat} : ∀ (k : Nat) (s : Int32 × Int32 × Int32 × hp_H × Nat × Nat) (x : hp_H × Nat × Nat), hp_lp (fL_X9_plant_38 n v0) k s = some x → s.2.2.2.2.1 ≤ (zx_X9_plant_38 x).1 ∧ s.2.2.2.2.2 ≤ (zx_X9_plant_38 x).2 := by
  intro k
  induction k with
  | zero => intro s x hx; exact (hp_lp_0 hx).elim
  | succ k ih =>
    intro s x hx
    obtain ⟨r, hr, hc⟩ := hp_lp_1 hx
    have h1 := mo_X9_plant_38 hr
    rcases hc with ⟨s3, e3, hx3⟩ | e3
    · subst e3
      exact hp_tr h1 (ih _ _ hx3)
    · subst e3
      exact h1
theorem l_X9_plant_38 (G : hp_G) (n : Nat) (v0 : Nat) (o : hp_O) : ∀ (k : Nat) (s : Int32 × Int32 × Int32 × hp_H × Nat × Nat) (x : hp_H × Nat × Nat), hp_lp (fL_X9_plant_38 n v0) k s = some x → ((zx_X9_plant_38 x).1 ≤ o.2.2.1 ∧ (zx_X9_plant_38 x).2 ≤ o.2.2.2) → (∀ y : hp_H × Nat × Nat, x = y → hp_V G m_X9_plant 166 [(0, .ref v0)] [] y.1 y.2.1 y.2.2 o) → hp_V G m_X9_plant 38 [(0, .ref v0), (3, .int s.1), (4, .int s.2.1), (5, .int s.2.2.1)] [] s.2.2.2.1 s.2.2.2.2.1 s.2.2.2.2.2 o := by
  intro k
  induction k with
  | zero => intro s x hx; exact (hp_lp_0 hx).elim
  | succ k ih =>
    intro s x hx hz k0
    obtain ⟨r, hr, hc⟩ := hp_lp_1 hx
    have hB : (zz_X9_plant_38 r).1 ≤ o.2.2.1 ∧ (zz_X9_plant_38 r).2 ≤ o.2.2.2 := by
      rcases hc with ⟨s3, e3, hx3⟩ | e3
      · subst e3
        exact hp_tr (ml_X9_plant_38 _ _ _ hx3) hz
      · subst e3
        exact hz
    refine q_X9_plant_38 G n v0 s.1 s.2.1 s.2.2.1 s.2.2.2.1 s.2.2.2.2.1 s.2.2.2.2.2 o r hB hr (fun s2 e => ?_) (fun y e => ?_)
    · rcases hc with ⟨s3, e3, hx3⟩ | e3
      · have e4 := Sum.inl.inj (e.symm.trans e3)
        subst e4
        exact ih _ _ hx3 hz k0
      · cases (e.symm.trans e3)
    · rcases hc with ⟨s3, e3, hx3⟩ | e3
      · cases (e.symm.trans e3)
      · exact k0 y (Sum.inr.inj (e3.symm.trans e))
def f_X9_plant_166 (n : Nat) (v0 : Nat) (h : hp_H) (sz sl : Nat) : Option (hp_H × Nat × Nat) :=
  (hp_fR h 9 v0 10).bind fun x1 =>
  (hp_aI h 0 x1 (0 : Int32)).bind fun x2 =>
  (hp_pF h 9 v0 3 (.int x2)).bind fun h3 =>
  some (h3, sz, sl)
set_option maxHeartbeats 1000000 in
set_option maxRecDepth 4000 in
theorem mo_X9_plant_166 {n : Nat} {v0 : Nat} {h : hp_H} {sz sl : Nat} {res : hp_H × Nat × Nat} (hm : f_X9_plant_166 n v0 h sz sl = some res) : sz ≤ res.2.1 ∧ sl ≤ res.2.2 := by
  unfold f_X9_plant_166 at hm
  obtain ⟨x1, hx1, hm⟩ := hp_bd hm
  obtain ⟨x2, hx2, hm⟩ := hp_bd hm
  obtain ⟨h3, hh3, hm⟩ := hp_bd hm
  obtain rfl := Option.some.inj hm
  exact ⟨Nat.le_refl _, Nat.le_refl _⟩
set_option maxHeartbeats 1000000 in
set_option maxRecDepth 4000 in
theorem q_X9_plant_166 (G : hp_G) (n : Nat) (v0 : Nat) (h : hp_H) (sz sl : Nat) (res : hp_H × Nat × Nat) (hm : f_X9_plant_166 n v0 h sz sl = some res) : hp_V G m_X9_plant 166 [(0, .ref v0)] [] h sz sl (none, res.1, res.2.1, res.2.2) := by
  have ho := mo_X9_plant_166 hm
  unfold f_X9_plant_166 at hm
  refine hv_aload_n 0 dX9_plant_166 rfl rfl ?_
  refine hv_aload_n 0 dX9_plant_167 rfl rfl ?_
  obtain ⟨x1, hx1, hm⟩ := hp_bd hm
  refine hv_get lk_f_X9_36 dX9_plant_168 (hp_fR_spec hx1) ?_
  refine hv_iconst (0 : Int32) dX9_plant_171 (by decide) ?_
  obtain ⟨x2, hx2, hm⟩ := hp_bd hm
  refine hv_iald dX9_plant_172 hx2 ?_
  obtain ⟨h3, hh3, hm⟩ := hp_bd hm
  refine hv_put lk_f_X9_97 dX9_plant_173 rfl rfl hh3 ?_
  obtain rfl := Option.some.inj hm
  exact hv_vret rfl dX9_plant_176
def f_X9_plant_0 (n : Nat) (v0 : Nat) (v1 : Nat) (v2 : Nat) (h : hp_H) (sz sl : Nat) : Option (hp_H × Nat × Nat) :=
  (hp_pF h 9 v0 0 (.ref v1)).bind fun h1 =>
  (hp_pF h1 9 v0 1 (.ref v2)).bind fun h2 =>
  (hp_pF h2 9 v0 2 (.int (0 : Int32))).bind fun h3 =>
  (hp_fR h3 9 v0 5).bind fun x4 =>
  (f_X5_clear n x4 h3).bind fun x5 =>
  (hp_fR x5 9 v0 7).bind fun x6 =>
  (f_J7_fill_53178 n x6 (-1 : Int32) x5).bind fun x7 =>
  (hp_lp (fL_X9_plant_38 n v0) n ((0 : Int32), (0 : Int32), (0 : Int32), x7, sz, sl)).bind fun x8 =>
  f_X9_plant_166 n v0 x8.1 x8.2.1 x8.2.2
set_option maxHeartbeats 1000000 in
set_option maxRecDepth 4000 in
theorem mo_X9_plant_0 {n : Nat} {v0 : Nat} {v1 : Nat} {v2 : Nat} {h : hp_H} {sz sl : Nat} {res : hp_H × Nat × Nat} (hm : f_X9_plant_0 n v0 v1 v2 h sz sl = some res) : sz ≤ res.2.1 ∧ sl ≤ res.2.2 := by
  unfold f_X9_plant_0 at hm
  obtain ⟨h1, hh1, hm⟩ := hp_bd hm
  obtain ⟨h2, hh2, hm⟩ := hp_bd hm
  obtain ⟨h3, hh3, hm⟩ := hp_bd hm
  obtain ⟨x4, hx4, hm⟩ := hp_bd hm
  obtain ⟨x5, hx5, hm⟩ := hp_bd hm
  obtain ⟨x6, hx6, hm⟩ := hp_bd hm
  obtain ⟨x7, hx7, hm⟩ := hp_bd hm
  obtain ⟨x8, hx8, hm⟩ := hp_bd hm
  have ml := ml_X9_plant_38 _ _ _ hx8
  · skip
    exact hp_tr ml (mo_X9_plant_166 hm)
set_option maxHeartbeats 1000000 in
set_option maxRecDepth 4000 in
theorem q_X9_plant_0 (G : hp_G) (n : Nat) (v0 : Nat) (v1 : Nat) (v2 : Nat) (h : hp_H) (sz sl : Nat) (res : hp_H × Nat × Nat) (hm : f_X9_plant_0 n v0 v1 v2 h sz sl = some res) : hp_V G m_X9_plant 0 [(0, .ref v0), (1, .ref v1), (2, .ref v2)] [] h sz sl (none, res.1, res.2.1, res.2.2) := by
  have ho := mo_X9_plant_0 hm
  unfold f_X9_plant_0 at hm
  refine hv_aload_n 0 dX9_plant_0 rfl rfl ?_
  refine hv_aload_n 1 dX9_plant_1 rfl rfl ?_
  obtain ⟨h1, hh1, hm⟩ := hp_bd hm
  refine hv_put lk_f_X9_51 dX9_plant_2 rfl rfl hh1 ?_
  refine hv_aload_n 0 dX9_plant_5 rfl rfl ?_
  refine hv_aload_n 2 dX9_plant_6 rfl rfl ?_
  obtain ⟨h2, hh2, hm⟩ := hp_bd hm
  refine hv_put lk_f_X9_55 dX9_plant_7 rfl rfl hh2 ?_
  refine hv_aload_n 0 dX9_plant_10 rfl rfl ?_
  refine hv_iconst (0 : Int32) dX9_plant_11 (by decide) ?_
  obtain ⟨h3, hh3, hm⟩ := hp_bd hm
  refine hv_put lk_f_X9_59 dX9_plant_12 rfl rfl hh3 ?_
  refine hv_aload_n 0 dX9_plant_15 rfl rfl ?_
  obtain ⟨x4, hx4, hm⟩ := hp_bd hm
  refine hv_get lk_f_X9_20 dX9_plant_16 (hp_fR_spec hx4) ?_
  obtain ⟨x5, hx5, hm⟩ := hp_bd hm
  obtain ⟨Vx5, hVx5⟩ := k_X5_clear hx5
  refine hv_callV (As := []) (rest := []) Z_X5_clear I_X5_clear lk_m_X9_63 rfl hVx5 (c_X5_clear G n x4 h3 sz sl _ hx5) rfl (Nat.le_of_ble_eq_true rfl) ⟨Nat.le_of_ble_eq_true rfl, Nat.le_of_ble_eq_true rfl⟩ ho.1 ho.2 rfl dX9_plant_19 ?_
  refine hv_as [] x5 rfl rfl ?_
  refine hv_aload_n 0 dX9_plant_22 rfl rfl ?_
  obtain ⟨x6, hx6, hm⟩ := hp_bd hm
  refine hv_get lk_f_X9_27 dX9_plant_23 (hp_fR_spec hx6) ?_
  refine hv_iconst (-1 : Int32) dX9_plant_26 (by decide) ?_
  obtain ⟨x7, hx7, hm⟩ := hp_bd hm
  refine hv_callS (As := [.ref x6, .int (-1 : Int32)]) (rest := []) Z_J7_fill_53178 I_J7_fill_53178 lk_m_X9_66 (c_J7_fill_53178 G n x6 (-1 : Int32) x5 sz sl _ hx7) rfl (Nat.le_of_ble_eq_true rfl) ⟨Nat.le_of_ble_eq_true rfl, Nat.le_of_ble_eq_true rfl⟩ ho.1 ho.2 rfl dX9_plant_27 ?_
  refine hv_as [] x7 rfl rfl ?_
  refine hv_iconst (0 : Int32) dX9_plant_30 (by decide) ?_
  refine hv_istore_n [(3, .int (0 : Int32)), (0, .ref v0), (1, .ref v1), (2, .ref v2)] dX9_plant_31 rfl (by decide) rfl ?_
  refine hv_iconst (0 : Int32) dX9_plant_32 (by decide) ?_
  refine hv_istore [(4, .int (0 : Int32)), (3, .int (0 : Int32)), (0, .ref v0), (1, .ref v1), (2, .ref v2)] dX9_plant_33 (by decide) rfl ?_
  refine hv_iconst (0 : Int32) dX9_plant_35 (by decide) ?_
  refine hv_istore [(5, .int (0 : Int32)), (4, .int (0 : Int32)), (3, .int (0 : Int32)), (0, .ref v0), (1, .ref v1), (2, .ref v2)] dX9_plant_36 (by decide) rfl ?_
  obtain ⟨x8, hx8, hm⟩ := hp_bd hm
  · skip
    have hz : (zx_X9_plant_38 x8).1 ≤ _ ∧ (zx_X9_plant_38 x8).2 ≤ _ := mo_X9_plant_166 hm
    refine hv_sub [3, 2, 1, 0] rfl (l_X9_plant_38 G n v0  _  n _ _ hx8 hz (fun wy9 ey9 => ?_))
    · cases ey9
      exact hv_sub [0] rfl (q_X9_plant_166 G n v0 x8.1 x8.2.1 x8.2.2 _ hm)
def f_X9_plant (n : Nat) (v0 : Nat) (v1 : Nat) (v2 : Nat) (h : hp_H) (sz sl : Nat) : Option (hp_H × Nat × Nat) := (hp_ck h 9 v0).bind fun _ => f_X9_plant_0 n v0 v1 v2 h sz sl
theorem c_X9_plant (G : hp_G) (n : Nat) (v0 : Nat) (v1 : Nat) (v2 : Nat) (h : hp_H) (sz sl : Nat) (res : hp_H × Nat × Nat) (hm : f_X9_plant n v0 v1 v2 h sz sl = some res) : hp_C G m_X9_plant yX9_plant [.ref v0, .ref v1, .ref v2] h sz sl (none, res.1, res.2.1, res.2.2) := by
  unfold f_X9_plant at hm
  obtain ⟨_, _, hm⟩ := hp_bd hm
  exact hp_C_of (by decide) rfl rfl (Nat.le_of_ble_eq_true rfl) (mo_X9_plant_0 hm).1 (mo_X9_plant_0 hm).2 (hv_sub [0, 1, 2] rfl (q_X9_plant_0 G n v0 v1 v2 h sz sl res hm))
theorem k_X9_plant {n : Nat} {v0 : Nat} {v1 : Nat} {v2 : Nat} {h : hp_H} {sz sl : Nat} {res : hp_H × Nat × Nat} (hm : f_X9_plant n v0 v1 v2 h sz sl = some res) : ∃ V, h v0 = some (.inr (.inr (9, V))) := by
  unfold f_X9_plant at hm
  obtain ⟨_, hu, _⟩ := hp_bd hm
  exact hp_ck_spec hu
theorem mx_X9_plant {n : Nat} {v0 : Nat} {v1 : Nat} {v2 : Nat} {h : hp_H} {sz sl : Nat} {res : hp_H × Nat × Nat} (hm : f_X9_plant n v0 v1 v2 h sz sl = some res) : sz ≤ res.2.1 ∧ sl ≤ res.2.2 := by
  unfold f_X9_plant at hm
  obtain ⟨_, _, hm⟩ := hp_bd hm
  exact mo_X9_plant_0 hm
abbrev m_X9_enter : hp_M := (RX9, cX9_enter, 2, none, 0, 0, "enter")
theorem Z_X9_enter : hp_Y yX9_enter m_X9_enter 1 := Y_X9_enter
def f_X9_enter_0 (n : Nat) (v0 : Nat) (v1 : Int32) (h : hp_H) : Option (hp_H) :=
  (hp_fR h 9 v0 10).bind fun x1 =>
  (hp_fI h 9 v0 12).bind fun x2 =>
  (hp_sI h 0 x1 x2 v1).bind fun h3 =>
  (hp_fR h3 9 v0 11).bind fun x4 =>
  (hp_fI h3 9 v0 12).bind fun x5 =>
  (hp_sI h3 0 x4 x5 (0 : Int32)).bind fun h6 =>
  (hp_fI h6 9 v0 12).bind fun x7 =>
  (hp_pF h6 9 v0 12 (.int (x7 + (1 : Int32)))).bind fun h8 =>
  some h8
set_option maxHeartbeats 1000000 in
set_option maxRecDepth 4000 in
theorem q_X9_enter_0 (G : hp_G) (n : Nat) (v0 : Nat) (v1 : Int32) (h : hp_H) (sz sl : Nat) (res : hp_H) (hm : f_X9_enter_0 n v0 v1 h = some res) : hp_V G m_X9_enter 0 [(0, .ref v0), (1, .int v1)] [] h sz sl (none, res, sz, sl) := by
  have ho : sz ≤ sz ∧ sl ≤ sl := ⟨Nat.le_refl _, Nat.le_refl _⟩
  unfold f_X9_enter_0 at hm
  refine hv_aload_n 0 dX9_enter_0 rfl rfl ?_
  obtain ⟨x1, hx1, hm⟩ := hp_bd hm
  refine hv_get lk_f_X9_36 dX9_enter_1 (hp_fR_spec hx1) ?_
  refine hv_aload_n 0 dX9_enter_4 rfl rfl ?_
  obtain ⟨x2, hx2, hm⟩ := hp_bd hm
  refine hv_get lk_f_X9_121 dX9_enter_5 (hp_fI_spec hx2) ?_
  refine hv_iload_n 1 dX9_enter_8 rfl rfl ?_
  obtain ⟨h3, hh3, hm⟩ := hp_bd hm
  refine hv_iast dX9_enter_9 hh3 ?_
  refine hv_aload_n 0 dX9_enter_10 rfl rfl ?_
  obtain ⟨x4, hx4, hm⟩ := hp_bd hm
  refine hv_get lk_f_X9_39 dX9_enter_11 (hp_fR_spec hx4) ?_
  refine hv_aload_n 0 dX9_enter_14 rfl rfl ?_
  obtain ⟨x5, hx5, hm⟩ := hp_bd hm
  refine hv_get lk_f_X9_121 dX9_enter_15 (hp_fI_spec hx5) ?_
  refine hv_iconst (0 : Int32) dX9_enter_18 (by decide) ?_
  obtain ⟨h6, hh6, hm⟩ := hp_bd hm
  refine hv_iast dX9_enter_19 hh6 ?_
  refine hv_aload_n 0 dX9_enter_20 rfl rfl ?_
  refine hv_dup dX9_enter_21 rfl ?_
  obtain ⟨x7, hx7, hm⟩ := hp_bd hm
  refine hv_get lk_f_X9_121 dX9_enter_22 (hp_fI_spec hx7) ?_
  refine hv_iconst (1 : Int32) dX9_enter_25 (by decide) ?_
  refine hv_iadd dX9_enter_26 ?_
  obtain ⟨h8, hh8, hm⟩ := hp_bd hm
  refine hv_put lk_f_X9_121 dX9_enter_27 rfl rfl hh8 ?_
  obtain rfl := Option.some.inj hm
  exact hv_vret rfl dX9_enter_30
def f_X9_enter (n : Nat) (v0 : Nat) (v1 : Int32) (h : hp_H) : Option (hp_H) := (hp_ck h 9 v0).bind fun _ => f_X9_enter_0 n v0 v1 h
theorem c_X9_enter (G : hp_G) (n : Nat) (v0 : Nat) (v1 : Int32) (h : hp_H) (sz sl : Nat) (res : hp_H) (hm : f_X9_enter n v0 v1 h = some res) : hp_C G m_X9_enter yX9_enter [.ref v0, .int v1] h sz sl (none, res, sz, sl) := by
  unfold f_X9_enter at hm
  obtain ⟨_, _, hm⟩ := hp_bd hm
  exact hp_C_of (by decide) rfl rfl (Nat.le_of_ble_eq_true rfl) (Nat.le_refl _) (Nat.le_refl _) (hv_sub [0, 1] rfl (q_X9_enter_0 G n v0 v1 h sz sl res hm))
theorem k_X9_enter {n : Nat} {v0 : Nat} {v1 : Int32} {h : hp_H} {res : hp_H} (hm : f_X9_enter n v0 v1 h = some res) : ∃ V, h v0 = some (.inr (.inr (9, V))) := by
  unfold f_X9_enter at hm
  obtain ⟨_, hu, _⟩ := hp_bd hm
  exact hp_ck_spec hu
abbrev m_X9_enterRoot : hp_M := (RX9, cX9_enterRoot, 1, none, 1, 21, "enterRoot")
theorem Z_X9_enterRoot : hp_Y yX9_enterRoot m_X9_enterRoot 0 := Y_X9_enterRoot
def f_X9_enterRoot_0 (n : Nat) (v0 : Nat) (h : hp_H) : Option (hp_H) :=
  (hp_pF h 9 v0 12 (.int (0 : Int32))).bind fun h1 =>
  (hp_fI h1 9 v0 3).bind fun x2 =>
  (f_X9_enter n v0 x2 h1).bind fun x3 =>
  some x3
set_option maxHeartbeats 1000000 in
set_option maxRecDepth 4000 in
theorem q_X9_enterRoot_0 (G : hp_G) (n : Nat) (v0 : Nat) (h : hp_H) (sz sl : Nat) (res : hp_H) (hm : f_X9_enterRoot_0 n v0 h = some res) : hp_V G m_X9_enterRoot 0 [(0, .ref v0)] [] h sz sl (none, res, sz, sl) := by
  have ho : sz ≤ sz ∧ sl ≤ sl := ⟨Nat.le_refl _, Nat.le_refl _⟩
  unfold f_X9_enterRoot_0 at hm
  refine hv_aload_n 0 dX9_enterRoot_0 rfl rfl ?_
  refine hv_iconst (0 : Int32) dX9_enterRoot_1 (by decide) ?_
  obtain ⟨h1, hh1, hm⟩ := hp_bd hm
  refine hv_put lk_f_X9_121 dX9_enterRoot_2 rfl rfl hh1 ?_
  refine hv_aload_n 0 dX9_enterRoot_5 rfl rfl ?_
  refine hv_aload_n 0 dX9_enterRoot_6 rfl rfl ?_
  obtain ⟨x2, hx2, hm⟩ := hp_bd hm
  refine hv_get lk_f_X9_97 dX9_enterRoot_7 (hp_fI_spec hx2) ?_
  obtain ⟨x3, hx3, hm⟩ := hp_bd hm
  obtain ⟨Vx3, hVx3⟩ := k_X9_enter hx3
  refine hv_callV (As := [.int x2]) (rest := []) Z_X9_enter I_X9_enter lk_m_X9_128 rfl hVx3 (c_X9_enter G n v0 x2 h1 sz sl _ hx3) rfl (Nat.le_of_ble_eq_true rfl) ⟨Nat.le_of_ble_eq_true rfl, Nat.le_of_ble_eq_true rfl⟩ ho.1 ho.2 rfl dX9_enterRoot_10 ?_
  refine hv_as [] x3 rfl rfl ?_
  obtain rfl := Option.some.inj hm
  exact hv_vret rfl dX9_enterRoot_13
def f_X9_enterRoot (n : Nat) (v0 : Nat) (h : hp_H) : Option (hp_H) := (hp_ck h 9 v0).bind fun _ => f_X9_enterRoot_0 n v0 h
theorem c_X9_enterRoot (G : hp_G) (n : Nat) (v0 : Nat) (h : hp_H) (sz sl : Nat) (res : hp_H) (hm : f_X9_enterRoot n v0 h = some res) : hp_C G m_X9_enterRoot yX9_enterRoot [.ref v0] h sz sl (none, res, sz, sl) := by
  unfold f_X9_enterRoot at hm
  obtain ⟨_, _, hm⟩ := hp_bd hm
  exact hp_C_of (by decide) rfl rfl (Nat.le_of_ble_eq_true rfl) (Nat.le_refl _) (Nat.le_refl _) (hv_sub [0] rfl (q_X9_enterRoot_0 G n v0 h sz sl res hm))
theorem k_X9_enterRoot {n : Nat} {v0 : Nat} {h : hp_H} {res : hp_H} (hm : f_X9_enterRoot n v0 h = some res) : ∃ V, h v0 = some (.inr (.inr (9, V))) := by
  unfold f_X9_enterRoot at hm
  obtain ⟨_, hu, _⟩ := hp_bd hm
  exact hp_ck_spec hu
abbrev m_X9_nextTaken : hp_M := (RX9, cX9_nextTaken, 3, some .int, 1, 22, "nextTaken")
theorem Z_X9_nextTaken : hp_Y yX9_nextTaken m_X9_nextTaken 0 := Y_X9_nextTaken
def f_X9_nextTaken_0 (n : Nat) (v0 : Nat) (h : hp_H) : Option (Int32 × hp_H) :=
  (hp_fI h 9 v0 12).bind fun x1 =>
  (hp_fR h 9 v0 5).bind fun x2 =>
  (hp_fR h 9 v0 10).bind fun x3 =>
  (hp_aI h 0 x3 (x1 - (1 : Int32))).bind fun x4 =>
  (hp_fR h 9 v0 11).bind fun x5 =>
  (hp_aI h 0 x5 (x1 - (1 : Int32))).bind fun x6 =>
  (f_X5_get n x2 x4 x6 h).bind fun x7 =>
  (hp_fR h 9 v0 11).bind fun x8 =>
  (hp_aI h 0 x8 (x1 - (1 : Int32))).bind fun x9 =>
  (hp_sI h 0 x8 (x1 - (1 : Int32)) (x9 + (1 : Int32))).bind fun h10 =>
  some (x7, h10)
set_option maxHeartbeats 1000000 in
set_option maxRecDepth 4000 in
theorem q_X9_nextTaken_0 (G : hp_G) (n : Nat) (v0 : Nat) (h : hp_H) (sz sl : Nat) (res : Int32 × hp_H) (hm : f_X9_nextTaken_0 n v0 h = some res) : hp_V G m_X9_nextTaken 0 [(0, .ref v0)] [] h sz sl (some (.int res.1), res.2, sz, sl) := by
  have ho : sz ≤ sz ∧ sl ≤ sl := ⟨Nat.le_refl _, Nat.le_refl _⟩
  unfold f_X9_nextTaken_0 at hm
  refine hv_aload_n 0 dX9_nextTaken_0 rfl rfl ?_
  obtain ⟨x1, hx1, hm⟩ := hp_bd hm
  refine hv_get lk_f_X9_121 dX9_nextTaken_1 (hp_fI_spec hx1) ?_
  refine hv_iconst (1 : Int32) dX9_nextTaken_4 (by decide) ?_
  refine hv_isub dX9_nextTaken_5 ?_
  refine hv_istore_n [(1, .int (x1 - (1 : Int32))), (0, .ref v0)] dX9_nextTaken_6 rfl (by decide) rfl ?_
  refine hv_aload_n 1 dX9_nextTaken_7 rfl rfl ?_
  obtain ⟨x2, hx2, hm⟩ := hp_bd hm
  refine hv_get lk_f_X9_20 dX9_nextTaken_8 (hp_fR_spec hx2) ?_
  refine hv_aload_n 1 dX9_nextTaken_11 rfl rfl ?_
  obtain ⟨x3, hx3, hm⟩ := hp_bd hm
  refine hv_get lk_f_X9_36 dX9_nextTaken_12 (hp_fR_spec hx3) ?_
  refine hv_iload_n 0 dX9_nextTaken_15 rfl rfl ?_
  obtain ⟨x4, hx4, hm⟩ := hp_bd hm
  refine hv_iald dX9_nextTaken_16 hx4 ?_
  refine hv_aload_n 1 dX9_nextTaken_17 rfl rfl ?_
  obtain ⟨x5, hx5, hm⟩ := hp_bd hm
  refine hv_get lk_f_X9_39 dX9_nextTaken_18 (hp_fR_spec hx5) ?_
  refine hv_iload_n 0 dX9_nextTaken_21 rfl rfl ?_
  obtain ⟨x6, hx6, hm⟩ := hp_bd hm
  refine hv_iald dX9_nextTaken_22 hx6 ?_
  obtain ⟨x7, hx7, hm⟩ := hp_bd hm
  obtain ⟨Vx7, hVx7⟩ := k_X5_get hx7
  refine hv_callV (As := [.int x4, .int x6]) (rest := []) Z_X5_get I_X5_get lk_m_X9_108 rfl hVx7 (c_X5_get G n x2 x4 x6 h sz sl _ hx7) rfl (Nat.le_of_ble_eq_true rfl) ⟨Nat.le_of_ble_eq_true rfl, Nat.le_of_ble_eq_true rfl⟩ ho.1 ho.2 rfl dX9_nextTaken_23 ?_
  refine hv_as [.int x7] h rfl rfl ?_
  refine hv_istore_n [(2, .int x7), (1, .int (x1 - (1 : Int32))), (0, .ref v0)] dX9_nextTaken_26 rfl (by decide) rfl ?_
  refine hv_aload_n 2 dX9_nextTaken_27 rfl rfl ?_
  obtain ⟨x8, hx8, hm⟩ := hp_bd hm
  refine hv_get lk_f_X9_39 dX9_nextTaken_28 (hp_fR_spec hx8) ?_
  refine hv_iload_n 1 dX9_nextTaken_31 rfl rfl ?_
  refine hv_dup2_11 dX9_nextTaken_32 rfl rfl ?_
  obtain ⟨x9, hx9, hm⟩ := hp_bd hm
  refine hv_iald dX9_nextTaken_33 hx9 ?_
  refine hv_iconst (1 : Int32) dX9_nextTaken_34 (by decide) ?_
  refine hv_iadd dX9_nextTaken_35 ?_
  obtain ⟨h10, hh10, hm⟩ := hp_bd hm
  refine hv_iast dX9_nextTaken_36 hh10 ?_
  refine hv_iload_n 0 dX9_nextTaken_37 rfl rfl ?_
  obtain rfl := Option.some.inj hm
  exact hv_iret rfl dX9_nextTaken_38
def f_X9_nextTaken (n : Nat) (v0 : Nat) (h : hp_H) : Option (Int32 × hp_H) := (hp_ck h 9 v0).bind fun _ => f_X9_nextTaken_0 n v0 h
theorem c_X9_nextTaken (G : hp_G) (n : Nat) (v0 : Nat) (h : hp_H) (sz sl : Nat) (res : Int32 × hp_H) (hm : f_X9_nextTaken n v0 h = some res) : hp_C G m_X9_nextTaken yX9_nextTaken [.ref v0] h sz sl (some (.int res.1), res.2, sz, sl) := by
  unfold f_X9_nextTaken at hm
  obtain ⟨_, _, hm⟩ := hp_bd hm
  exact hp_C_of (by decide) rfl rfl (Nat.le_of_ble_eq_true rfl) (Nat.le_refl _) (Nat.le_refl _) (hv_sub [0] rfl (q_X9_nextTaken_0 G n v0 h sz sl res hm))
theorem k_X9_nextTaken {n : Nat} {v0 : Nat} {h : hp_H} {res : Int32 × hp_H} (hm : f_X9_nextTaken n v0 h = some res) : ∃ V, h v0 = some (.inr (.inr (9, V))) := by
  unfold f_X9_nextTaken at hm
  obtain ⟨_, hu, _⟩ := hp_bd hm
  exact hp_ck_spec hu
abbrev m_X9_writeOut : hp_M := (RX9, cX9_writeOut, 5, some .boolean, 2, 46, "writeOut")
theorem Z_X9_writeOut : hp_Y yX9_writeOut m_X9_writeOut 1 := Y_X9_writeOut
def f_X9_writeOut_106 (n : Nat) (v0 : Nat) (v1 : Nat) (v2 : Int32) (v3 : Int32) (h : hp_H) : Option ((Int32 × Int32 × hp_H) ⊕ (Int32 × hp_H)) :=
  some (.inl (v2, (v3 + (1 : Int32)), h))
set_option maxHeartbeats 1000000 in
set_option maxRecDepth 4000 in
theorem q_X9_writeOut_106 (G : hp_G) (n : Nat) (v0 : Nat) (v1 : Nat) (v2 : Int32) (v3 : Int32) (h : hp_H) (sz sl : Nat) (o : hp_O) (ho : sz ≤ o.2.2.1 ∧ sl ≤ o.2.2.2) (res : (Int32 × Int32 × hp_H) ⊕ (Int32 × hp_H)) (hm : f_X9_writeOut_106 n v0 v1 v2 v3 h = some res) (kI : ∀ y : Int32 × Int32 × hp_H, res = .inl y → hp_V G m_X9_writeOut 8 [(0, .ref v0), (1, .ref v1), (2, .int y.1), (3, .int y.2.1)] [] y.2.2 sz sl o) (kR : ∀ y : Int32 × hp_H, res = .inr y → o = (some (.int y.1), y.2, sz, sl)) : hp_V G m_X9_writeOut 106 [(0, .ref v0), (1, .ref v1), (2, .int v2), (3, .int v3)] [] h sz sl o := by
  unfold f_X9_writeOut_106 at hm
  refine hv_iinc (v3 + (1 : Int32)) 3 [(3, .int (v3 + (1 : Int32))), (0, .ref v0), (1, .ref v1), (2, .int v2)] dX9_writeOut_106 rfl rfl (by decide) rfl ?_
  refine hv_goto (tgt := 8) dX9_writeOut_109 (by decide) ?_
  exact hv_sub [1, 2, 3, 0] rfl (kI (v2, (v3 + (1 : Int32)), h) (Option.some.inj hm).symm)
def f_X9_writeOut_62 (n : Nat) (v0 : Nat) (v1 : Nat) (v2 : Int32) (v3 : Int32) (h : hp_H) : Option ((Int32 × Int32 × hp_H) ⊕ (Int32 × hp_H)) :=
  (hp_fR h 9 v0 0).bind fun x1 =>
  (hp_fR h 0 x1 0).bind fun x2 =>
  (hp_fR h 9 v0 4).bind fun x3 =>
  (hp_fR h 9 v0 10).bind fun x4 =>
  (hp_fI h 9 v0 12).bind fun x5 =>
  (hp_aI h 0 x4 (x5 - (1 : Int32))).bind fun x6 =>
  (hp_aI h 0 x3 x6).bind fun x7 =>
  (f_X8_putName n v1 x2 ((300 : Int32) + x7) h).bind fun x8 =>
  (hp_fI x8 9 v0 12).bind fun x9 =>
  (hp_pF x8 9 v0 12 (.int (x9 - (1 : Int32)))).bind fun h10 =>
  f_X9_writeOut_106 n v0 v1 (v2 + (1 : Int32)) v3 h10
set_option maxHeartbeats 1000000 in
set_option maxRecDepth 4000 in
theorem q_X9_writeOut_62 (G : hp_G) (n : Nat) (v0 : Nat) (v1 : Nat) (v2 : Int32) (v3 : Int32) (h : hp_H) (sz sl : Nat) (o : hp_O) (ho : sz ≤ o.2.2.1 ∧ sl ≤ o.2.2.2) (res : (Int32 × Int32 × hp_H) ⊕ (Int32 × hp_H)) (hm : f_X9_writeOut_62 n v0 v1 v2 v3 h = some res) (kI : ∀ y : Int32 × Int32 × hp_H, res = .inl y → hp_V G m_X9_writeOut 8 [(0, .ref v0), (1, .ref v1), (2, .int y.1), (3, .int y.2.1)] [] y.2.2 sz sl o) (kR : ∀ y : Int32 × hp_H, res = .inr y → o = (some (.int y.1), y.2, sz, sl)) : hp_V G m_X9_writeOut 62 [(0, .ref v0), (1, .ref v1), (2, .int v2), (3, .int v3)] [] h sz sl o := by
  unfold f_X9_writeOut_62 at hm
  refine hv_aload_n 1 dX9_writeOut_62 rfl rfl ?_
  refine hv_aload_n 0 dX9_writeOut_63 rfl rfl ?_
  obtain ⟨x1, hx1, hm⟩ := hp_bd hm
  refine hv_get lk_f_X9_51 dX9_writeOut_64 (hp_fR_spec hx1) ?_
  obtain ⟨x2, hx2, hm⟩ := hp_bd hm
  refine hv_get lk_f_X9_136 dX9_writeOut_67 (hp_fR_spec hx2) ?_
  refine hv_sipush (300 : Int32) dX9_writeOut_70 (by decide) ?_
  refine hv_aload_n 0 dX9_writeOut_73 rfl rfl ?_
  obtain ⟨x3, hx3, hm⟩ := hp_bd hm
  refine hv_get lk_f_X9_9 dX9_writeOut_74 (hp_fR_spec hx3) ?_
  refine hv_aload_n 0 dX9_writeOut_77 rfl rfl ?_
  obtain ⟨x4, hx4, hm⟩ := hp_bd hm
  refine hv_get lk_f_X9_36 dX9_writeOut_78 (hp_fR_spec hx4) ?_
  refine hv_aload_n 0 dX9_writeOut_81 rfl rfl ?_
  obtain ⟨x5, hx5, hm⟩ := hp_bd hm
  refine hv_get lk_f_X9_121 dX9_writeOut_82 (hp_fI_spec hx5) ?_
  refine hv_iconst (1 : Int32) dX9_writeOut_85 (by decide) ?_
  refine hv_isub dX9_writeOut_86 ?_
  obtain ⟨x6, hx6, hm⟩ := hp_bd hm
  refine hv_iald dX9_writeOut_87 hx6 ?_
  obtain ⟨x7, hx7, hm⟩ := hp_bd hm
  refine hv_iald dX9_writeOut_88 hx7 ?_
  refine hv_iadd dX9_writeOut_89 ?_
  obtain ⟨x8, hx8, hm⟩ := hp_bd hm
  obtain ⟨Vx8, hVx8⟩ := k_X8_putName hx8
  refine hv_callV (As := [.ref x2, .int ((300 : Int32) + x7)]) (rest := []) Z_X8_putName I_X8_putName lk_m_X9_139 rfl hVx8 (c_X8_putName G n v1 x2 ((300 : Int32) + x7) h sz sl _ hx8) rfl (Nat.le_of_ble_eq_true rfl) ⟨Nat.le_of_ble_eq_true rfl, Nat.le_of_ble_eq_true rfl⟩ ho.1 ho.2 rfl dX9_writeOut_90 ?_
  refine hv_as [] x8 rfl rfl ?_
  refine hv_iinc (v2 + (1 : Int32)) 2 [(2, .int (v2 + (1 : Int32))), (0, .ref v0), (1, .ref v1), (3, .int v3)] dX9_writeOut_93 rfl rfl (by decide) rfl ?_
  refine hv_aload_n 1 dX9_writeOut_96 rfl rfl ?_
  refine hv_dup dX9_writeOut_97 rfl ?_
  obtain ⟨x9, hx9, hm⟩ := hp_bd hm
  refine hv_get lk_f_X9_121 dX9_writeOut_98 (hp_fI_spec hx9) ?_
  refine hv_iconst (1 : Int32) dX9_writeOut_101 (by decide) ?_
  refine hv_isub dX9_writeOut_102 ?_
  obtain ⟨h10, hh10, hm⟩ := hp_bd hm
  refine hv_put lk_f_X9_121 dX9_writeOut_103 rfl rfl hh10 ?_
  exact hv_sub [1, 2, 0, 3] rfl (q_X9_writeOut_106 G n v0 v1 (v2 + (1 : Int32)) v3 h10 sz sl o ho _ hm kI kR)
def f_X9_writeOut_8 (n : Nat) (v0 : Nat) (v1 : Nat) (v2 : Int32) (v3 : Int32) (h : hp_H) : Option ((Int32 × Int32 × hp_H) ⊕ (Int32 × hp_H)) :=
  if (4000 : Int32) ≤ v3 then
    some (.inr ((1 : Int32), h))
  else
    (hp_fI h 9 v0 12).bind fun x1 =>
    if x1 ≤ 0 then
      some (.inr ((1 : Int32), h))
    else
      (f_X9_nextTaken n v0 h).bind fun x2 =>
      if x2.1 = (-1 : Int32) then
        if v2 = (1000 : Int32) then
          some (.inr ((0 : Int32), x2.2))
        else
          if v2 ≤ 0 then
            f_X9_writeOut_62 n v0 v1 v2 v3 x2.2
          else
            (f_X8_put n v1 (32 : Int32) x2.2).bind fun x3 =>
            f_X9_writeOut_62 n v0 v1 v2 v3 x3
      else
        (f_X9_enter n v0 x2.1 x2.2).bind fun x6 =>
        f_X9_writeOut_106 n v0 v1 v2 v3 x6
set_option maxHeartbeats 1000000 in
set_option maxRecDepth 4000 in
theorem q_X9_writeOut_8 (G : hp_G) (n : Nat) (v0 : Nat) (v1 : Nat) (v2 : Int32) (v3 : Int32) (h : hp_H) (sz sl : Nat) (o : hp_O) (ho : sz ≤ o.2.2.1 ∧ sl ≤ o.2.2.2) (res : (Int32 × Int32 × hp_H) ⊕ (Int32 × hp_H)) (hm : f_X9_writeOut_8 n v0 v1 v2 v3 h = some res) (kI : ∀ y : Int32 × Int32 × hp_H, res = .inl y → hp_V G m_X9_writeOut 8 [(0, .ref v0), (1, .ref v1), (2, .int y.1), (3, .int y.2.1)] [] y.2.2 sz sl o) (kR : ∀ y : Int32 × hp_H, res = .inr y → o = (some (.int y.1), y.2, sz, sl)) : hp_V G m_X9_writeOut 8 [(0, .ref v0), (1, .ref v1), (2, .int v2), (3, .int v3)] [] h sz sl o := by
  unfold f_X9_writeOut_8 at hm
  refine hv_iload_n 3 dX9_writeOut_8 rfl rfl ?_
  refine hv_sipush (4000 : Int32) dX9_writeOut_9 (by decide) ?_
  refine hv_icmp_ge (tgt := 112) dX9_writeOut_12 (by decide) (fun c9 => ?_) (fun c9 => ?_)
  · rw [if_pos c9] at hm
    refine hv_iconst (1 : Int32) dX9_writeOut_112 (by decide) ?_
    obtain rfl := kR _ (Option.some.inj hm).symm
    exact hv_zret rfl (by decide) dX9_writeOut_113
  · rw [if_neg c9] at hm
    refine hv_aload_n 0 dX9_writeOut_15 rfl rfl ?_
    obtain ⟨x1, hx1, hm⟩ := hp_bd hm
    refine hv_get lk_f_X9_121 dX9_writeOut_16 (hp_fI_spec hx1) ?_
    refine hv_if_le (tgt := 112) dX9_writeOut_19 (by decide) (fun c8 => ?_) (fun c8 => ?_)
    · rw [if_pos c8] at hm
      refine hv_iconst (1 : Int32) dX9_writeOut_112 (by decide) ?_
      obtain rfl := kR _ (Option.some.inj hm).symm
      exact hv_zret rfl (by decide) dX9_writeOut_113
    · rw [if_neg c8] at hm
      refine hv_aload_n 0 dX9_writeOut_22 rfl rfl ?_
      obtain ⟨x2, hx2, hm⟩ := hp_bd hm
      obtain ⟨Vx2, hVx2⟩ := k_X9_nextTaken hx2
      refine hv_callV (As := []) (rest := []) Z_X9_nextTaken I_X9_nextTaken lk_m_X9_124 rfl hVx2 (c_X9_nextTaken G n v0 h sz sl _ hx2) rfl (Nat.le_of_ble_eq_true rfl) ⟨Nat.le_of_ble_eq_true rfl, Nat.le_of_ble_eq_true rfl⟩ ho.1 ho.2 rfl dX9_writeOut_23 ?_
      refine hv_as [.int x2.1] x2.2 rfl rfl ?_
      refine hv_istore [(4, .int x2.1), (0, .ref v0), (1, .ref v1), (2, .int v2), (3, .int v3)] dX9_writeOut_26 (by decide) rfl ?_
      refine hv_iload 0 dX9_writeOut_28 rfl ?_
      refine hv_iconst (-1 : Int32) dX9_writeOut_30 (by decide) ?_
      refine hv_icmp_eq (tgt := 43) dX9_writeOut_31 (by decide) (fun c7 => ?_) (fun c7 => ?_)
      · rw [if_pos c7] at hm
        refine hv_iload_n 3 dX9_writeOut_43 rfl rfl ?_
        refine hv_sipush (1000 : Int32) dX9_writeOut_44 (by decide) ?_
        refine hv_icmp_ne (tgt := 52) dX9_writeOut_47 (by decide) (fun c5 => ?_) (fun c5 => ?_)
        · rw [if_neg c5] at hm
          refine hv_iload_n 3 dX9_writeOut_52 rfl rfl ?_
          refine hv_if_le (tgt := 62) dX9_writeOut_53 (by decide) (fun c4 => ?_) (fun c4 => ?_)
          · rw [if_pos c4] at hm
            exact hv_sub [1, 2, 3, 4] rfl (q_X9_writeOut_62 G n v0 v1 v2 v3 x2.2 sz sl o ho _ hm kI kR)
          · rw [if_neg c4] at hm
            refine hv_aload_n 2 dX9_writeOut_56 rfl rfl ?_
            refine hv_bipush (32 : Int32) dX9_writeOut_57 (by decide) ?_
            obtain ⟨x3, hx3, hm⟩ := hp_bd hm
            obtain ⟨Vx3, hVx3⟩ := k_X8_put hx3
            refine hv_callV (As := [.int (32 : Int32)]) (rest := []) Z_X8_put I_X8_put lk_m_X9_131 rfl hVx3 (c_X8_put G n v1 (32 : Int32) x2.2 sz sl _ hx3) rfl (Nat.le_of_ble_eq_true rfl) ⟨Nat.le_of_ble_eq_true rfl, Nat.le_of_ble_eq_true rfl⟩ ho.1 ho.2 rfl dX9_writeOut_59 ?_
            refine hv_as [] x3 rfl rfl ?_
            exact hv_sub [1, 2, 3, 4] rfl (q_X9_writeOut_62 G n v0 v1 v2 v3 x3 sz sl o ho _ hm kI kR)
        · rw [if_pos c5] at hm
          refine hv_iconst (0 : Int32) dX9_writeOut_50 (by decide) ?_
          obtain rfl := kR _ (Option.some.inj hm).symm
          exact hv_zret rfl (by decide) dX9_writeOut_51
      · rw [if_neg c7] at hm
        refine hv_aload_n 1 dX9_writeOut_34 rfl rfl ?_
        refine hv_iload 0 dX9_writeOut_35 rfl ?_
        obtain ⟨x6, hx6, hm⟩ := hp_bd hm
        obtain ⟨Vx6, hVx6⟩ := k_X9_enter hx6
        refine hv_callV (As := [.int x2.1]) (rest := []) Z_X9_enter I_X9_enter lk_m_X9_128 rfl hVx6 (c_X9_enter G n v0 x2.1 x2.2 sz sl _ hx6) rfl (Nat.le_of_ble_eq_true rfl) ⟨Nat.le_of_ble_eq_true rfl, Nat.le_of_ble_eq_true rfl⟩ ho.1 ho.2 rfl dX9_writeOut_37 ?_
        refine hv_as [] x6 rfl rfl ?_
        refine hv_goto (tgt := 106) dX9_writeOut_40 (by decide) ?_
        exact hv_sub [1, 2, 3, 4] rfl (q_X9_writeOut_106 G n v0 v1 v2 v3 x6 sz sl o ho _ hm kI kR)
def fL_X9_writeOut_8 (n : Nat) (v0 : Nat) (v1 : Nat) (s : Int32 × Int32 × hp_H) : Option ((Int32 × Int32 × hp_H) ⊕ (Int32 × hp_H)) := f_X9_writeOut_8 n v0 v1 s.1 s.2.1 s.2.2
theorem l_X9_writeOut_8 (G : hp_G) (n : Nat) (v0 : Nat) (v1 : Nat) (sz sl : Nat) (o : hp_O) (ho : sz ≤ o.2.2.1 ∧ sl ≤ o.2.2.2) : ∀ (k : Nat) (s : Int32 × Int32 × hp_H) (x : Int32 × hp_H), hp_lp (fL_X9_writeOut_8 n v0 v1) k s = some x → (∀ y : Int32 × hp_H, x = y → o = (some (.int y.1), y.2, sz, sl)) → hp_V G m_X9_writeOut 8 [(0, .ref v0), (1, .ref v1), (2, .int s.1), (3, .int s.2.1)] [] s.2.2 sz sl o := by
  intro k
  induction k with
  | zero => intro s x hx; exact (hp_lp_0 hx).elim
  | succ k ih =>
    intro s x hx k0
    obtain ⟨r, hr, hc⟩ := hp_lp_1 hx
    refine q_X9_writeOut_8 G n v0 v1 s.1 s.2.1 s.2.2 sz sl o ho r hr (fun s2 e => ?_) (fun y e => ?_)
    · rcases hc with ⟨s3, e3, hx3⟩ | e3
      · have e4 := Sum.inl.inj (e.symm.trans e3)
        subst e4
        exact ih _ _ hx3 k0
      · cases (e.symm.trans e3)
    · rcases hc with ⟨s3, e3, hx3⟩ | e3
      · cases (e.symm.trans e3)
      · exact k0 y (Sum.inr.inj (e3.symm.trans e))
def f_X9_writeOut_0 (n : Nat) (v0 : Nat) (v1 : Nat) (h : hp_H) : Option (Int32 × hp_H) :=
  (f_X9_enterRoot n v0 h).bind fun x1 =>
  (hp_lp (fL_X9_writeOut_8 n v0 v1) n ((0 : Int32), (0 : Int32), x1)).bind fun x2 =>
  some (x2.1, x2.2)
set_option maxHeartbeats 1000000 in
set_option maxRecDepth 4000 in
theorem q_X9_writeOut_0 (G : hp_G) (n : Nat) (v0 : Nat) (v1 : Nat) (h : hp_H) (sz sl : Nat) (res : Int32 × hp_H) (hm : f_X9_writeOut_0 n v0 v1 h = some res) : hp_V G m_X9_writeOut 0 [(0, .ref v0), (1, .ref v1)] [] h sz sl (some (.int res.1), res.2, sz, sl) := by
  have ho : sz ≤ sz ∧ sl ≤ sl := ⟨Nat.le_refl _, Nat.le_refl _⟩
  unfold f_X9_writeOut_0 at hm
  refine hv_iconst (0 : Int32) dX9_writeOut_0 (by decide) ?_
  refine hv_istore_n [(2, .int (0 : Int32)), (0, .ref v0), (1, .ref v1)] dX9_writeOut_1 rfl (by decide) rfl ?_
  refine hv_aload_n 1 dX9_writeOut_2 rfl rfl ?_
  obtain ⟨x1, hx1, hm⟩ := hp_bd hm
  obtain ⟨Vx1, hVx1⟩ := k_X9_enterRoot hx1
  refine hv_callV (As := []) (rest := []) Z_X9_enterRoot I_X9_enterRoot lk_m_X9_118 rfl hVx1 (c_X9_enterRoot G n v0 h sz sl _ hx1) rfl (Nat.le_of_ble_eq_true rfl) ⟨Nat.le_of_ble_eq_true rfl, Nat.le_of_ble_eq_true rfl⟩ ho.1 ho.2 rfl dX9_writeOut_3 ?_
  refine hv_as [] x1 rfl rfl ?_
  refine hv_iconst (0 : Int32) dX9_writeOut_6 (by decide) ?_
  refine hv_istore_n [(3, .int (0 : Int32)), (2, .int (0 : Int32)), (0, .ref v0), (1, .ref v1)] dX9_writeOut_7 rfl (by decide) rfl ?_
  obtain ⟨x2, hx2, hm⟩ := hp_bd hm
  refine hv_sub [2, 3, 1, 0] rfl (l_X9_writeOut_8 G n v0 v1 sz sl _ ho n _ _ hx2 (fun y3 ey3 => ?_))
  · skip
    subst ey3
    obtain rfl := Option.some.inj hm
    rfl
def f_X9_writeOut (n : Nat) (v0 : Nat) (v1 : Nat) (h : hp_H) : Option (Int32 × hp_H) := (hp_ck h 9 v0).bind fun _ => f_X9_writeOut_0 n v0 v1 h
theorem c_X9_writeOut (G : hp_G) (n : Nat) (v0 : Nat) (v1 : Nat) (h : hp_H) (sz sl : Nat) (res : Int32 × hp_H) (hm : f_X9_writeOut n v0 v1 h = some res) : hp_C G m_X9_writeOut yX9_writeOut [.ref v0, .ref v1] h sz sl (some (.int res.1), res.2, sz, sl) := by
  unfold f_X9_writeOut at hm
  obtain ⟨_, _, hm⟩ := hp_bd hm
  exact hp_C_of (by decide) rfl rfl (Nat.le_of_ble_eq_true rfl) (Nat.le_refl _) (Nat.le_refl _) (hv_sub [0, 1] rfl (q_X9_writeOut_0 G n v0 v1 h sz sl res hm))
theorem k_X9_writeOut {n : Nat} {v0 : Nat} {v1 : Nat} {h : hp_H} {res : Int32 × hp_H} (hm : f_X9_writeOut n v0 v1 h = some res) : ∃ V, h v0 = some (.inr (.inr (9, V))) := by
  unfold f_X9_writeOut at hm
  obtain ⟨_, hu, _⟩ := hp_bd hm
  exact hp_ck_spec hu
abbrev m_X9_numberLabels : hp_M := (RX9, cX9_numberLabels, 4, none, 2, 46, "numberLabels")
theorem Z_X9_numberLabels : hp_Y yX9_numberLabels m_X9_numberLabels 1 := Y_X9_numberLabels
def f_X9_numberLabels_33 (n : Nat) (v0 : Nat) (v1 : Nat) (v2 : Int32) (v3 : Int32) (h : hp_H) : Option ((Int32 × hp_H) ⊕ (hp_H)) :=
  if v2 ≤ v3 then
    some (.inr h)
  else
    (hp_fI h 9 v0 15).bind fun x1 =>
    (hp_pF h 9 v0 15 (.int (x1 + (1 : Int32)))).bind fun h2 =>
    (hp_fR h2 9 v0 13).bind fun x3 =>
    (hp_fR h2 9 v0 0).bind fun x4 =>
    (hp_fR h2 0 x4 12).bind fun x5 =>
    (hp_fR h2 9 v0 1).bind fun x6 =>
    (hp_fI h2 3 x6 0).bind fun x7 =>
    (f_X5_get n x5 x7 v3 h2).bind fun x8 =>
    (hp_fI h2 9 v0 15).bind fun x9 =>
    (hp_sI h2 0 x3 x8 x9).bind fun h10 =>
    some (.inl ((v3 + (1 : Int32)), h10))
set_option maxHeartbeats 1000000 in
set_option maxRecDepth 4000 in
theorem q_X9_numberLabels_33 (G : hp_G) (n : Nat) (v0 : Nat) (v1 : Nat) (v2 : Int32) (v3 : Int32) (h : hp_H) (sz sl : Nat) (o : hp_O) (ho : sz ≤ o.2.2.1 ∧ sl ≤ o.2.2.2) (res : (Int32 × hp_H) ⊕ (hp_H)) (hm : f_X9_numberLabels_33 n v0 v1 v2 v3 h = some res) (kI : ∀ y : Int32 × hp_H, res = .inl y → hp_V G m_X9_numberLabels 33 [(0, .ref v0), (1, .ref v1), (2, .int v2), (3, .int y.1)] [] y.2 sz sl o) (kX0 : ∀ y : hp_H, res = .inr y → hp_V G m_X9_numberLabels 81 [(0, .ref v0), (1, .ref v1)] [] y sz sl o) : hp_V G m_X9_numberLabels 33 [(0, .ref v0), (1, .ref v1), (2, .int v2), (3, .int v3)] [] h sz sl o := by
  unfold f_X9_numberLabels_33 at hm
  refine hv_iload_n 3 dX9_numberLabels_33 rfl rfl ?_
  refine hv_iload_n 2 dX9_numberLabels_34 rfl rfl ?_
  refine hv_icmp_ge (tgt := 81) dX9_numberLabels_35 (by decide) (fun c11 => ?_) (fun c11 => ?_)
  · rw [if_pos c11] at hm
    exact hv_sub [0, 1] rfl (kX0 h (Option.some.inj hm).symm)
  · rw [if_neg c11] at hm
    refine hv_aload_n 0 dX9_numberLabels_38 rfl rfl ?_
    refine hv_dup dX9_numberLabels_39 rfl ?_
    obtain ⟨x1, hx1, hm⟩ := hp_bd hm
    refine hv_get lk_f_X9_154 dX9_numberLabels_40 (hp_fI_spec hx1) ?_
    refine hv_iconst (1 : Int32) dX9_numberLabels_43 (by decide) ?_
    refine hv_iadd dX9_numberLabels_44 ?_
    obtain ⟨h2, hh2, hm⟩ := hp_bd hm
    refine hv_put lk_f_X9_154 dX9_numberLabels_45 rfl rfl hh2 ?_
    refine hv_aload_n 0 dX9_numberLabels_48 rfl rfl ?_
    obtain ⟨x3, hx3, hm⟩ := hp_bd hm
    refine hv_get lk_f_X9_42 dX9_numberLabels_49 (hp_fR_spec hx3) ?_
    refine hv_aload_n 0 dX9_numberLabels_52 rfl rfl ?_
    obtain ⟨x4, hx4, hm⟩ := hp_bd hm
    refine hv_get lk_f_X9_51 dX9_numberLabels_53 (hp_fR_spec hx4) ?_
    obtain ⟨x5, hx5, hm⟩ := hp_bd hm
    refine hv_get lk_f_X9_80 dX9_numberLabels_56 (hp_fR_spec hx5) ?_
    refine hv_aload_n 0 dX9_numberLabels_59 rfl rfl ?_
    obtain ⟨x6, hx6, hm⟩ := hp_bd hm
    refine hv_get lk_f_X9_55 dX9_numberLabels_60 (hp_fR_spec hx6) ?_
    obtain ⟨x7, hx7, hm⟩ := hp_bd hm
    refine hv_get lk_f_X9_157 dX9_numberLabels_63 (hp_fI_spec hx7) ?_
    refine hv_iload_n 3 dX9_numberLabels_66 rfl rfl ?_
    obtain ⟨x8, hx8, hm⟩ := hp_bd hm
    obtain ⟨Vx8, hVx8⟩ := k_X5_get hx8
    refine hv_callV (As := [.int x7, .int v3]) (rest := [.ref x3]) Z_X5_get I_X5_get lk_m_X9_108 rfl hVx8 (c_X5_get G n x5 x7 v3 h2 sz sl _ hx8) rfl (Nat.le_of_ble_eq_true rfl) ⟨Nat.le_of_ble_eq_true rfl, Nat.le_of_ble_eq_true rfl⟩ ho.1 ho.2 rfl dX9_numberLabels_67 ?_
    refine hv_as [.int x8, .ref x3] h2 rfl rfl ?_
    refine hv_aload_n 0 dX9_numberLabels_70 rfl rfl ?_
    obtain ⟨x9, hx9, hm⟩ := hp_bd hm
    refine hv_get lk_f_X9_154 dX9_numberLabels_71 (hp_fI_spec hx9) ?_
    obtain ⟨h10, hh10, hm⟩ := hp_bd hm
    refine hv_iast dX9_numberLabels_74 hh10 ?_
    refine hv_iinc (v3 + (1 : Int32)) 3 [(3, .int (v3 + (1 : Int32))), (0, .ref v0), (1, .ref v1), (2, .int v2)] dX9_numberLabels_75 rfl rfl (by decide) rfl ?_
    refine hv_goto (tgt := 33) dX9_numberLabels_78 (by decide) ?_
    exact hv_sub [1, 2, 3, 0] rfl (kI ((v3 + (1 : Int32)), h10) (Option.some.inj hm).symm)
def fL_X9_numberLabels_33 (n : Nat) (v0 : Nat) (v1 : Nat) (v2 : Int32) (s : Int32 × hp_H) : Option ((Int32 × hp_H) ⊕ (hp_H)) := f_X9_numberLabels_33 n v0 v1 v2 s.1 s.2
theorem l_X9_numberLabels_33 (G : hp_G) (n : Nat) (v0 : Nat) (v1 : Nat) (v2 : Int32) (sz sl : Nat) (o : hp_O) (ho : sz ≤ o.2.2.1 ∧ sl ≤ o.2.2.2) : ∀ (k : Nat) (s : Int32 × hp_H) (x : hp_H), hp_lp (fL_X9_numberLabels_33 n v0 v1 v2) k s = some x → (∀ y : hp_H, x = y → hp_V G m_X9_numberLabels 81 [(0, .ref v0), (1, .ref v1)] [] y sz sl o) → hp_V G m_X9_numberLabels 33 [(0, .ref v0), (1, .ref v1), (2, .int v2), (3, .int s.1)] [] s.2 sz sl o := by
  intro k
  induction k with
  | zero => intro s x hx; exact (hp_lp_0 hx).elim
  | succ k ih =>
    intro s x hx k0
    obtain ⟨r, hr, hc⟩ := hp_lp_1 hx
    refine q_X9_numberLabels_33 G n v0 v1 v2 s.1 s.2 sz sl o ho r hr (fun s2 e => ?_) (fun y e => ?_)
    · rcases hc with ⟨s3, e3, hx3⟩ | e3
      · have e4 := Sum.inl.inj (e.symm.trans e3)
        subst e4
        exact ih _ _ hx3 k0
      · cases (e.symm.trans e3)
    · rcases hc with ⟨s3, e3, hx3⟩ | e3
      · cases (e.symm.trans e3)
      · exact k0 y (Sum.inr.inj (e3.symm.trans e))
def f_X9_numberLabels_169 (n : Nat) (v0 : Nat) (v1 : Nat) (v3 : Int32) (h : hp_H) : Option ((Int32 × hp_H) ⊕ (hp_H)) :=
  some (.inl ((v3 + (1 : Int32)), h))
set_option maxHeartbeats 1000000 in
set_option maxRecDepth 4000 in
theorem q_X9_numberLabels_169 (G : hp_G) (n : Nat) (v0 : Nat) (v1 : Nat) (v3 : Int32) (h : hp_H) (sz sl : Nat) (o : hp_O) (ho : sz ≤ o.2.2.1 ∧ sl ≤ o.2.2.2) (res : (Int32 × hp_H) ⊕ (hp_H)) (hm : f_X9_numberLabels_169 n v0 v1 v3 h = some res) (kI : ∀ y : Int32 × hp_H, res = .inl y → hp_V G m_X9_numberLabels 95 [(0, .ref v0), (1, .ref v1), (3, .int y.1)] [] y.2 sz sl o) (kX0 : ∀ y : hp_H, res = .inr y → hp_V G m_X9_numberLabels 175 [(1, .ref v1)] [] y sz sl o) : hp_V G m_X9_numberLabels 169 [(0, .ref v0), (1, .ref v1), (3, .int v3)] [] h sz sl o := by
  unfold f_X9_numberLabels_169 at hm
  refine hv_iinc (v3 + (1 : Int32)) 2 [(3, .int (v3 + (1 : Int32))), (0, .ref v0), (1, .ref v1)] dX9_numberLabels_169 rfl rfl (by decide) rfl ?_
  refine hv_goto (tgt := 95) dX9_numberLabels_172 (by decide) ?_
  exact hv_sub [1, 2, 0] rfl (kI ((v3 + (1 : Int32)), h) (Option.some.inj hm).symm)
def f_X9_numberLabels_95 (n : Nat) (v0 : Nat) (v1 : Nat) (v3 : Int32) (h : hp_H) : Option ((Int32 × hp_H) ⊕ (hp_H)) :=
  (hp_fI h 9 v0 2).bind fun x1 =>
  if x1 ≤ v3 then
    some (.inr h)
  else
    (hp_fR h 9 v0 13).bind fun x2 =>
    (hp_fR h 9 v0 4).bind fun x3 =>
    (hp_aI h 0 x3 v3).bind fun x4 =>
    (hp_aI h 0 x2 x4).bind fun x5 =>
    if x5 = 0 then
      (hp_fI h 9 v0 15).bind fun x6 =>
      (hp_pF h 9 v0 15 (.int (x6 + (1 : Int32)))).bind fun h7 =>
      (hp_fR h7 9 v0 13).bind fun x8 =>
      (hp_fR h7 9 v0 4).bind fun x9 =>
      (hp_aI h7 0 x9 v3).bind fun x10 =>
      (hp_fI h7 9 v0 15).bind fun x11 =>
      (hp_sI h7 0 x8 x10 x11).bind fun h12 =>
      (hp_fR h12 9 v0 0).bind fun x13 =>
      (hp_fR h12 0 x13 0).bind fun x14 =>
      (hp_fR h12 9 v0 4).bind fun x15 =>
      (hp_aI h12 0 x15 v3).bind fun x16 =>
      (f_X8_putName n v1 x14 ((300 : Int32) + x16) h12).bind fun x17 =>
      (f_X8_put n v1 (32 : Int32) x17).bind fun x18 =>
      f_X9_numberLabels_169 n v0 v1 v3 x18
    else
      f_X9_numberLabels_169 n v0 v1 v3 h
set_option maxHeartbeats 1000000 in
set_option maxRecDepth 4000 in
theorem q_X9_numberLabels_95 (G : hp_G) (n : Nat) (v0 : Nat) (v1 : Nat) (v3 : Int32) (h : hp_H) (sz sl : Nat) (o : hp_O) (ho : sz ≤ o.2.2.1 ∧ sl ≤ o.2.2.2) (res : (Int32 × hp_H) ⊕ (hp_H)) (hm : f_X9_numberLabels_95 n v0 v1 v3 h = some res) (kI : ∀ y : Int32 × hp_H, res = .inl y → hp_V G m_X9_numberLabels 95 [(0, .ref v0), (1, .ref v1), (3, .int y.1)] [] y.2 sz sl o) (kX0 : ∀ y : hp_H, res = .inr y → hp_V G m_X9_numberLabels 175 [(1, .ref v1)] [] y sz sl o) : hp_V G m_X9_numberLabels 95 [(0, .ref v0), (1, .ref v1), (3, .int v3)] [] h sz sl o := by
  unfold f_X9_numberLabels_95 at hm
  refine hv_iload_n 2 dX9_numberLabels_95 rfl rfl ?_
  refine hv_aload_n 0 dX9_numberLabels_96 rfl rfl ?_
  obtain ⟨x1, hx1, hm⟩ := hp_bd hm
  refine hv_get lk_f_X9_59 dX9_numberLabels_97 (hp_fI_spec hx1) ?_
  refine hv_icmp_ge (tgt := 175) dX9_numberLabels_100 (by decide) (fun c20 => ?_) (fun c20 => ?_)
  · rw [if_pos c20] at hm
    exact hv_sub [1] rfl (kX0 h (Option.some.inj hm).symm)
  · rw [if_neg c20] at hm
    refine hv_aload_n 0 dX9_numberLabels_103 rfl rfl ?_
    obtain ⟨x2, hx2, hm⟩ := hp_bd hm
    refine hv_get lk_f_X9_42 dX9_numberLabels_104 (hp_fR_spec hx2) ?_
    refine hv_aload_n 0 dX9_numberLabels_107 rfl rfl ?_
    obtain ⟨x3, hx3, hm⟩ := hp_bd hm
    refine hv_get lk_f_X9_9 dX9_numberLabels_108 (hp_fR_spec hx3) ?_
    refine hv_iload_n 2 dX9_numberLabels_111 rfl rfl ?_
    obtain ⟨x4, hx4, hm⟩ := hp_bd hm
    refine hv_iald dX9_numberLabels_112 hx4 ?_
    obtain ⟨x5, hx5, hm⟩ := hp_bd hm
    refine hv_iald dX9_numberLabels_113 hx5 ?_
    refine hv_if_ne (tgt := 169) dX9_numberLabels_114 (by decide) (fun c19 => ?_) (fun c19 => ?_)
    · rw [if_neg c19] at hm
      exact hv_sub [0, 1, 2] rfl (q_X9_numberLabels_169 G n v0 v1 v3 h sz sl o ho _ hm kI kX0)
    · rw [if_pos c19] at hm
      refine hv_aload_n 0 dX9_numberLabels_117 rfl rfl ?_
      refine hv_dup dX9_numberLabels_118 rfl ?_
      obtain ⟨x6, hx6, hm⟩ := hp_bd hm
      refine hv_get lk_f_X9_154 dX9_numberLabels_119 (hp_fI_spec hx6) ?_
      refine hv_iconst (1 : Int32) dX9_numberLabels_122 (by decide) ?_
      refine hv_iadd dX9_numberLabels_123 ?_
      obtain ⟨h7, hh7, hm⟩ := hp_bd hm
      refine hv_put lk_f_X9_154 dX9_numberLabels_124 rfl rfl hh7 ?_
      refine hv_aload_n 0 dX9_numberLabels_127 rfl rfl ?_
      obtain ⟨x8, hx8, hm⟩ := hp_bd hm
      refine hv_get lk_f_X9_42 dX9_numberLabels_128 (hp_fR_spec hx8) ?_
      refine hv_aload_n 0 dX9_numberLabels_131 rfl rfl ?_
      obtain ⟨x9, hx9, hm⟩ := hp_bd hm
      refine hv_get lk_f_X9_9 dX9_numberLabels_132 (hp_fR_spec hx9) ?_
      refine hv_iload_n 2 dX9_numberLabels_135 rfl rfl ?_
      obtain ⟨x10, hx10, hm⟩ := hp_bd hm
      refine hv_iald dX9_numberLabels_136 hx10 ?_
      refine hv_aload_n 0 dX9_numberLabels_137 rfl rfl ?_
      obtain ⟨x11, hx11, hm⟩ := hp_bd hm
      refine hv_get lk_f_X9_154 dX9_numberLabels_138 (hp_fI_spec hx11) ?_
      obtain ⟨h12, hh12, hm⟩ := hp_bd hm
      refine hv_iast dX9_numberLabels_141 hh12 ?_
      refine hv_aload_n 1 dX9_numberLabels_142 rfl rfl ?_
      refine hv_aload_n 0 dX9_numberLabels_143 rfl rfl ?_
      obtain ⟨x13, hx13, hm⟩ := hp_bd hm
      refine hv_get lk_f_X9_51 dX9_numberLabels_144 (hp_fR_spec hx13) ?_
      obtain ⟨x14, hx14, hm⟩ := hp_bd hm
      refine hv_get lk_f_X9_136 dX9_numberLabels_147 (hp_fR_spec hx14) ?_
      refine hv_sipush (300 : Int32) dX9_numberLabels_150 (by decide) ?_
      refine hv_aload_n 0 dX9_numberLabels_153 rfl rfl ?_
      obtain ⟨x15, hx15, hm⟩ := hp_bd hm
      refine hv_get lk_f_X9_9 dX9_numberLabels_154 (hp_fR_spec hx15) ?_
      refine hv_iload_n 2 dX9_numberLabels_157 rfl rfl ?_
      obtain ⟨x16, hx16, hm⟩ := hp_bd hm
      refine hv_iald dX9_numberLabels_158 hx16 ?_
      refine hv_iadd dX9_numberLabels_159 ?_
      obtain ⟨x17, hx17, hm⟩ := hp_bd hm
      obtain ⟨Vx17, hVx17⟩ := k_X8_putName hx17
      refine hv_callV (As := [.ref x14, .int ((300 : Int32) + x16)]) (rest := []) Z_X8_putName I_X8_putName lk_m_X9_139 rfl hVx17 (c_X8_putName G n v1 x14 ((300 : Int32) + x16) h12 sz sl _ hx17) rfl (Nat.le_of_ble_eq_true rfl) ⟨Nat.le_of_ble_eq_true rfl, Nat.le_of_ble_eq_true rfl⟩ ho.1 ho.2 rfl dX9_numberLabels_160 ?_
      refine hv_as [] x17 rfl rfl ?_
      refine hv_aload_n 1 dX9_numberLabels_163 rfl rfl ?_
      refine hv_bipush (32 : Int32) dX9_numberLabels_164 (by decide) ?_
      obtain ⟨x18, hx18, hm⟩ := hp_bd hm
      obtain ⟨Vx18, hVx18⟩ := k_X8_put hx18
      refine hv_callV (As := [.int (32 : Int32)]) (rest := []) Z_X8_put I_X8_put lk_m_X9_131 rfl hVx18 (c_X8_put G n v1 (32 : Int32) x17 sz sl _ hx18) rfl (Nat.le_of_ble_eq_true rfl) ⟨Nat.le_of_ble_eq_true rfl, Nat.le_of_ble_eq_true rfl⟩ ho.1 ho.2 rfl dX9_numberLabels_166 ?_
      refine hv_as [] x18 rfl rfl ?_
      exact hv_sub [0, 1, 2] rfl (q_X9_numberLabels_169 G n v0 v1 v3 x18 sz sl o ho _ hm kI kX0)
def fL_X9_numberLabels_95 (n : Nat) (v0 : Nat) (v1 : Nat) (s : Int32 × hp_H) : Option ((Int32 × hp_H) ⊕ (hp_H)) := f_X9_numberLabels_95 n v0 v1 s.1 s.2
theorem l_X9_numberLabels_95 (G : hp_G) (n : Nat) (v0 : Nat) (v1 : Nat) (sz sl : Nat) (o : hp_O) (ho : sz ≤ o.2.2.1 ∧ sl ≤ o.2.2.2) : ∀ (k : Nat) (s : Int32 × hp_H) (x : hp_H), hp_lp (fL_X9_numberLabels_95 n v0 v1) k s = some x → (∀ y : hp_H, x = y → hp_V G m_X9_numberLabels 175 [(1, .ref v1)] [] y sz sl o) → hp_V G m_X9_numberLabels 95 [(0, .ref v0), (1, .ref v1), (3, .int s.1)] [] s.2 sz sl o := by
  intro k
  induction k with
  | zero => intro s x hx; exact (hp_lp_0 hx).elim
  | succ k ih =>
    intro s x hx k0
    obtain ⟨r, hr, hc⟩ := hp_lp_1 hx
    refine q_X9_numberLabels_95 G n v0 v1 s.1 s.2 sz sl o ho r hr (fun s2 e => ?_) (fun y e => ?_)
    · rcases hc with ⟨s3, e3, hx3⟩ | e3
      · have e4 := Sum.inl.inj (e.symm.trans e3)
        subst e4
        exact ih _ _ hx3 k0
      · cases (e.symm.trans e3)
    · rcases hc with ⟨s3, e3, hx3⟩ | e3
      · cases (e.symm.trans e3)
      · exact k0 y (Sum.inr.inj (e3.symm.trans e))
def f_X9_numberLabels_0 (n : Nat) (v0 : Nat) (v1 : Nat) (h : hp_H) : Option (hp_H) :=
  (hp_fR h 9 v0 13).bind fun x1 =>
  (f_J7_fill_53178 n x1 (0 : Int32) h).bind fun x2 =>
  (hp_pF x2 9 v0 15 (.int (0 : Int32))).bind fun h3 =>
  (hp_fR h3 9 v0 0).bind fun x4 =>
  (hp_fR h3 0 x4 12).bind fun x5 =>
  (hp_fR h3 9 v0 1).bind fun x6 =>
  (hp_fI h3 3 x6 0).bind fun x7 =>
  (f_X5_size n x5 x7 h3).bind fun x8 =>
  (hp_lp (fL_X9_numberLabels_33 n v0 v1 x8) n ((0 : Int32), h3)).bind fun x9 =>
  (f_X8_put n v1 (40 : Int32) x9).bind fun x11 =>
  (f_X8_put n v1 (32 : Int32) x11).bind fun x12 =>
  (hp_lp (fL_X9_numberLabels_95 n v0 v1) n ((0 : Int32), x12)).bind fun x13 =>
  (f_X8_put n v1 (41 : Int32) x13).bind fun x15 =>
  (f_X8_put n v1 (32 : Int32) x15).bind fun x16 =>
  some x16
set_option maxHeartbeats 1000000 in
set_option maxRecDepth 4000 in
theorem q_X9_numberLabels_0 (G : hp_G) (n : Nat) (v0 : Nat) (v1 : Nat) (h : hp_H) (sz sl : Nat) (res : hp_H) (hm : f_X9_numberLabels_0 n v0 v1 h = some res) : hp_V G m_X9_numberLabels 0 [(0, .ref v0), (1, .ref v1)] [] h sz sl (none, res, sz, sl) := by
  have ho : sz ≤ sz ∧ sl ≤ sl := ⟨Nat.le_refl _, Nat.le_refl _⟩
  unfold f_X9_numberLabels_0 at hm
  refine hv_aload_n 0 dX9_numberLabels_0 rfl rfl ?_
  obtain ⟨x1, hx1, hm⟩ := hp_bd hm
  refine hv_get lk_f_X9_42 dX9_numberLabels_1 (hp_fR_spec hx1) ?_
  refine hv_iconst (0 : Int32) dX9_numberLabels_4 (by decide) ?_
  obtain ⟨x2, hx2, hm⟩ := hp_bd hm
  refine hv_callS (As := [.ref x1, .int (0 : Int32)]) (rest := []) Z_J7_fill_53178 I_J7_fill_53178 lk_m_X9_66 (c_J7_fill_53178 G n x1 (0 : Int32) h sz sl _ hx2) rfl (Nat.le_of_ble_eq_true rfl) ⟨Nat.le_of_ble_eq_true rfl, Nat.le_of_ble_eq_true rfl⟩ ho.1 ho.2 rfl dX9_numberLabels_5 ?_
  refine hv_as [] x2 rfl rfl ?_
  refine hv_aload_n 0 dX9_numberLabels_8 rfl rfl ?_
  refine hv_iconst (0 : Int32) dX9_numberLabels_9 (by decide) ?_
  obtain ⟨h3, hh3, hm⟩ := hp_bd hm
  refine hv_put lk_f_X9_154 dX9_numberLabels_10 rfl rfl hh3 ?_
  refine hv_aload_n 0 dX9_numberLabels_13 rfl rfl ?_
  obtain ⟨x4, hx4, hm⟩ := hp_bd hm
  refine hv_get lk_f_X9_51 dX9_numberLabels_14 (hp_fR_spec hx4) ?_
  obtain ⟨x5, hx5, hm⟩ := hp_bd hm
  refine hv_get lk_f_X9_80 dX9_numberLabels_17 (hp_fR_spec hx5) ?_
  refine hv_aload_n 0 dX9_numberLabels_20 rfl rfl ?_
  obtain ⟨x6, hx6, hm⟩ := hp_bd hm
  refine hv_get lk_f_X9_55 dX9_numberLabels_21 (hp_fR_spec hx6) ?_
  obtain ⟨x7, hx7, hm⟩ := hp_bd hm
  refine hv_get lk_f_X9_157 dX9_numberLabels_24 (hp_fI_spec hx7) ?_
  obtain ⟨x8, hx8, hm⟩ := hp_bd hm
  obtain ⟨Vx8, hVx8⟩ := k_X5_size hx8
  refine hv_callV (As := [.int x7]) (rest := []) Z_X5_size I_X5_size lk_m_X9_85 rfl hVx8 (c_X5_size G n x5 x7 h3 sz sl _ hx8) rfl (Nat.le_of_ble_eq_true rfl) ⟨Nat.le_of_ble_eq_true rfl, Nat.le_of_ble_eq_true rfl⟩ ho.1 ho.2 rfl dX9_numberLabels_27 ?_
  refine hv_as [.int x8] h3 rfl rfl ?_
  refine hv_istore_n [(2, .int x8), (0, .ref v0), (1, .ref v1)] dX9_numberLabels_30 rfl (by decide) rfl ?_
  refine hv_iconst (0 : Int32) dX9_numberLabels_31 (by decide) ?_
  refine hv_istore_n [(3, .int (0 : Int32)), (2, .int x8), (0, .ref v0), (1, .ref v1)] dX9_numberLabels_32 rfl (by decide) rfl ?_
  obtain ⟨x9, hx9, hm⟩ := hp_bd hm
  refine hv_sub [2, 3, 1, 0] rfl (l_X9_numberLabels_33 G n v0 v1 x8 sz sl _ ho n _ _ hx9 (fun y10 ey10 => ?_))
  · skip
    subst ey10
    refine hv_aload_n 1 dX9_numberLabels_81 rfl rfl ?_
    refine hv_bipush (40 : Int32) dX9_numberLabels_82 (by decide) ?_
    obtain ⟨x11, hx11, hm⟩ := hp_bd hm
    obtain ⟨Vx11, hVx11⟩ := k_X8_put hx11
    refine hv_callV (As := [.int (40 : Int32)]) (rest := []) Z_X8_put I_X8_put lk_m_X9_131 rfl hVx11 (c_X8_put G n v1 (40 : Int32) x9 sz sl _ hx11) rfl (Nat.le_of_ble_eq_true rfl) ⟨Nat.le_of_ble_eq_true rfl, Nat.le_of_ble_eq_true rfl⟩ ho.1 ho.2 rfl dX9_numberLabels_84 ?_
    refine hv_as [] x11 rfl rfl ?_
    refine hv_aload_n 1 dX9_numberLabels_87 rfl rfl ?_
    refine hv_bipush (32 : Int32) dX9_numberLabels_88 (by decide) ?_
    obtain ⟨x12, hx12, hm⟩ := hp_bd hm
    obtain ⟨Vx12, hVx12⟩ := k_X8_put hx12
    refine hv_callV (As := [.int (32 : Int32)]) (rest := []) Z_X8_put I_X8_put lk_m_X9_131 rfl hVx12 (c_X8_put G n v1 (32 : Int32) x11 sz sl _ hx12) rfl (Nat.le_of_ble_eq_true rfl) ⟨Nat.le_of_ble_eq_true rfl, Nat.le_of_ble_eq_true rfl⟩ ho.1 ho.2 rfl dX9_numberLabels_90 ?_
    refine hv_as [] x12 rfl rfl ?_
    refine hv_iconst (0 : Int32) dX9_numberLabels_93 (by decide) ?_
    refine hv_istore_n [(3, .int (0 : Int32)), (0, .ref v0), (1, .ref v1)] dX9_numberLabels_94 rfl (by decide) rfl ?_
    obtain ⟨x13, hx13, hm⟩ := hp_bd hm
    refine hv_sub [1, 2, 0] rfl (l_X9_numberLabels_95 G n v0 v1 sz sl _ ho n _ _ hx13 (fun y14 ey14 => ?_))
    · skip
      subst ey14
      refine hv_aload_n 0 dX9_numberLabels_175 rfl rfl ?_
      refine hv_bipush (41 : Int32) dX9_numberLabels_176 (by decide) ?_
      obtain ⟨x15, hx15, hm⟩ := hp_bd hm
      obtain ⟨Vx15, hVx15⟩ := k_X8_put hx15
      refine hv_callV (As := [.int (41 : Int32)]) (rest := []) Z_X8_put I_X8_put lk_m_X9_131 rfl hVx15 (c_X8_put G n v1 (41 : Int32) x13 sz sl _ hx15) rfl (Nat.le_of_ble_eq_true rfl) ⟨Nat.le_of_ble_eq_true rfl, Nat.le_of_ble_eq_true rfl⟩ ho.1 ho.2 rfl dX9_numberLabels_178 ?_
      refine hv_as [] x15 rfl rfl ?_
      refine hv_aload_n 0 dX9_numberLabels_181 rfl rfl ?_
      refine hv_bipush (32 : Int32) dX9_numberLabels_182 (by decide) ?_
      obtain ⟨x16, hx16, hm⟩ := hp_bd hm
      obtain ⟨Vx16, hVx16⟩ := k_X8_put hx16
      refine hv_callV (As := [.int (32 : Int32)]) (rest := []) Z_X8_put I_X8_put lk_m_X9_131 rfl hVx16 (c_X8_put G n v1 (32 : Int32) x15 sz sl _ hx16) rfl (Nat.le_of_ble_eq_true rfl) ⟨Nat.le_of_ble_eq_true rfl, Nat.le_of_ble_eq_true rfl⟩ ho.1 ho.2 rfl dX9_numberLabels_184 ?_
      refine hv_as [] x16 rfl rfl ?_
      obtain rfl := Option.some.inj hm
      exact hv_vret rfl dX9_numberLabels_187
def f_X9_numberLabels (n : Nat) (v0 : Nat) (v1 : Nat) (h : hp_H) : Option (hp_H) := (hp_ck h 9 v0).bind fun _ => f_X9_numberLabels_0 n v0 v1 h
theorem c_X9_numberLabels (G : hp_G) (n : Nat) (v0 : Nat) (v1 : Nat) (h : hp_H) (sz sl : Nat) (res : hp_H) (hm : f_X9_numberLabels n v0 v1 h = some res) : hp_C G m_X9_numberLabels yX9_numberLabels [.ref v0, .ref v1] h sz sl (none, res, sz, sl) := by
  unfold f_X9_numberLabels at hm
  obtain ⟨_, _, hm⟩ := hp_bd hm
  exact hp_C_of (by decide) rfl rfl (Nat.le_of_ble_eq_true rfl) (Nat.le_refl _) (Nat.le_refl _) (hv_sub [0, 1] rfl (q_X9_numberLabels_0 G n v0 v1 h sz sl res hm))
theorem k_X9_numberLabels {n : Nat} {v0 : Nat} {v1 : Nat} {h : hp_H} {res : hp_H} (hm : f_X9_numberLabels n v0 v1 h = some res) : ∃ V, h v0 = some (.inr (.inr (9, V))) := by
  unfold f_X9_numberLabels at hm
  obtain ⟨_, hu, _⟩ := hp_bd hm
  exact hp_ck_spec hu
abbrev m_X9_putNumber : hp_M := (RX9, cX9_putNumber, 6, none, 1, 21, "putNumber")
theorem Z_X9_putNumber : hp_Y yX9_putNumber m_X9_putNumber 2 := Y_X9_putNumber
def f_X9_putNumber_10 (n : Nat) (v0 : Nat) (v1 : Nat) (v2 : Int32) (v3 : Int32) (v4 : Int32) (h : hp_H) : Option ((Int32 × Int32 × hp_H) ⊕ (Int32 × hp_H)) :=
  if v4 ≤ 0 then
    some (.inr (v3, h))
  else
    (hp_fR h 9 v0 16).bind fun x1 =>
    (hp_len h x1).bind fun x2 =>
    if x2 ≤ v3 then
      some (.inr (v3, h))
    else
      (hp_fR h 9 v0 16).bind fun x3 =>
      (hp_sI h 0 x3 v3 ((85 : Int32) + ((v4 - (1 : Int32)) - (v4 - (1 : Int32)) / (5 : Int32) * (5 : Int32)))).bind fun h4 =>
      some (.inl ((v3 + (1 : Int32)), ((v4 - (1 : Int32)) / (5 : Int32)), h4))
set_option maxHeartbeats 1000000 in
set_option maxRecDepth 4000 in
theorem q_X9_putNumber_10 (G : hp_G) (n : Nat) (v0 : Nat) (v1 : Nat) (v2 : Int32) (v3 : Int32) (v4 : Int32) (h : hp_H) (sz sl : Nat) (o : hp_O) (ho : sz ≤ o.2.2.1 ∧ sl ≤ o.2.2.2) (res : (Int32 × Int32 × hp_H) ⊕ (Int32 × hp_H)) (hm : f_X9_putNumber_10 n v0 v1 v2 v3 v4 h = some res) (kI : ∀ y : Int32 × Int32 × hp_H, res = .inl y → hp_V G m_X9_putNumber 10 [(0, .ref v0), (1, .ref v1), (2, .int v2), (3, .int y.1), (4, .int y.2.1)] [] y.2.2 sz sl o) (kX0 : ∀ y : Int32 × hp_H, res = .inr y → hp_V G m_X9_putNumber 53 [(0, .ref v0), (1, .ref v1), (2, .int v2), (3, .int y.1)] [] y.2 sz sl o) : hp_V G m_X9_putNumber 10 [(0, .ref v0), (1, .ref v1), (2, .int v2), (3, .int v3), (4, .int v4)] [] h sz sl o := by
  unfold f_X9_putNumber_10 at hm
  refine hv_iload 4 dX9_putNumber_10 rfl ?_
  refine hv_if_le (tgt := 53) dX9_putNumber_12 (by decide) (fun c6 => ?_) (fun c6 => ?_)
  · rw [if_pos c6] at hm
    exact hv_sub [0, 1, 2, 3] rfl (kX0 (v3, h) (Option.some.inj hm).symm)
  · rw [if_neg c6] at hm
    refine hv_iload_n 3 dX9_putNumber_15 rfl rfl ?_
    refine hv_aload_n 0 dX9_putNumber_16 rfl rfl ?_
    obtain ⟨x1, hx1, hm⟩ := hp_bd hm
    refine hv_get lk_f_X9_48 dX9_putNumber_17 (hp_fR_spec hx1) ?_
    obtain ⟨x2, hx2, hm⟩ := hp_bd hm
    refine hv_alen dX9_putNumber_20 hx2 ?_
    refine hv_icmp_ge (tgt := 53) dX9_putNumber_21 (by decide) (fun c5 => ?_) (fun c5 => ?_)
    · rw [if_pos c5] at hm
      exact hv_sub [0, 1, 2, 3] rfl (kX0 (v3, h) (Option.some.inj hm).symm)
    · rw [if_neg c5] at hm
      refine hv_aload_n 0 dX9_putNumber_24 rfl rfl ?_
      obtain ⟨x3, hx3, hm⟩ := hp_bd hm
      refine hv_get lk_f_X9_48 dX9_putNumber_25 (hp_fR_spec hx3) ?_
      refine hv_iload_n 3 dX9_putNumber_28 rfl rfl ?_
      refine hv_bipush (85 : Int32) dX9_putNumber_29 (by decide) ?_
      refine hv_iload 4 dX9_putNumber_31 rfl ?_
      refine hv_iconst (1 : Int32) dX9_putNumber_33 (by decide) ?_
      refine hv_isub dX9_putNumber_34 ?_
      refine hv_iconst (5 : Int32) dX9_putNumber_35 (by decide) ?_
      refine hv_irem dX9_putNumber_36 (by decide) ?_
      refine hv_iadd dX9_putNumber_37 ?_
      obtain ⟨h4, hh4, hm⟩ := hp_bd hm
      refine hv_iast dX9_putNumber_38 hh4 ?_
      refine hv_iinc (v3 + (1 : Int32)) 3 [(3, .int (v3 + (1 : Int32))), (0, .ref v0), (1, .ref v1), (2, .int v2), (4, .int v4)] dX9_putNumber_39 rfl rfl (by decide) rfl ?_
      refine hv_iload 4 dX9_putNumber_42 rfl ?_
      refine hv_iconst (1 : Int32) dX9_putNumber_44 (by decide) ?_
      refine hv_isub dX9_putNumber_45 ?_
      refine hv_iconst (5 : Int32) dX9_putNumber_46 (by decide) ?_
      refine hv_idiv dX9_putNumber_47 (by decide) ?_
      refine hv_istore [(4, .int ((v4 - (1 : Int32)) / (5 : Int32))), (3, .int (v3 + (1 : Int32))), (0, .ref v0), (1, .ref v1), (2, .int v2)] dX9_putNumber_48 (by decide) rfl ?_
      refine hv_goto (tgt := 10) dX9_putNumber_50 (by decide) ?_
      exact hv_sub [2, 3, 4, 1, 0] rfl (kI ((v3 + (1 : Int32)), ((v4 - (1 : Int32)) / (5 : Int32)), h4) (Option.some.inj hm).symm)
def fL_X9_putNumber_10 (n : Nat) (v0 : Nat) (v1 : Nat) (v2 : Int32) (s : Int32 × Int32 × hp_H) : Option ((Int32 × Int32 × hp_H) ⊕ (Int32 × hp_H)) := f_X9_putNumber_10 n v0 v1 v2 s.1 s.2.1 s.2.2
theorem l_X9_putNumber_10 (G : hp_G) (n : Nat) (v0 : Nat) (v1 : Nat) (v2 : Int32) (sz sl : Nat) (o : hp_O) (ho : sz ≤ o.2.2.1 ∧ sl ≤ o.2.2.2) : ∀ (k : Nat) (s : Int32 × Int32 × hp_H) (x : Int32 × hp_H), hp_lp (fL_X9_putNumber_10 n v0 v1 v2) k s = some x → (∀ y : Int32 × hp_H, x = y → hp_V G m_X9_putNumber 53 [(0, .ref v0), (1, .ref v1), (2, .int v2), (3, .int y.1)] [] y.2 sz sl o) → hp_V G m_X9_putNumber 10 [(0, .ref v0), (1, .ref v1), (2, .int v2), (3, .int s.1), (4, .int s.2.1)] [] s.2.2 sz sl o := by
  intro k
  induction k with
  | zero => intro s x hx; exact (hp_lp_0 hx).elim
  | succ k ih =>
    intro s x hx k0
    obtain ⟨r, hr, hc⟩ := hp_lp_1 hx
    refine q_X9_putNumber_10 G n v0 v1 v2 s.1 s.2.1 s.2.2 sz sl o ho r hr (fun s2 e => ?_) (fun y e => ?_)
    · rcases hc with ⟨s3, e3, hx3⟩ | e3
      · have e4 := Sum.inl.inj (e.symm.trans e3)
        subst e4
        exact ih _ _ hx3 k0
      · cases (e.symm.trans e3)
    · rcases hc with ⟨s3, e3, hx3⟩ | e3
      · cases (e.symm.trans e3)
      · exact k0 y (Sum.inr.inj (e3.symm.trans e))
def f_X9_putNumber_58 (n : Nat) (v0 : Nat) (v1 : Nat) (v2 : Int32) (v5 : Int32) (h : hp_H) : Option ((Int32 × hp_H) ⊕ (hp_H)) :=
  if v5 < 0 then
    some (.inr h)
  else
    (hp_fR h 9 v0 16).bind fun x1 =>
    (hp_aI h 0 x1 v5).bind fun x2 =>
    (f_X8_put n v1 x2 h).bind fun x3 =>
    some (.inl ((v5 + (-1 : Int32)), x3))
set_option maxHeartbeats 1000000 in
set_option maxRecDepth 4000 in
theorem q_X9_putNumber_58 (G : hp_G) (n : Nat) (v0 : Nat) (v1 : Nat) (v2 : Int32) (v5 : Int32) (h : hp_H) (sz sl : Nat) (o : hp_O) (ho : sz ≤ o.2.2.1 ∧ sl ≤ o.2.2.2) (res : (Int32 × hp_H) ⊕ (hp_H)) (hm : f_X9_putNumber_58 n v0 v1 v2 v5 h = some res) (kI : ∀ y : Int32 × hp_H, res = .inl y → hp_V G m_X9_putNumber 58 [(0, .ref v0), (1, .ref v1), (2, .int v2), (5, .int y.1)] [] y.2 sz sl o) (kX0 : ∀ y : hp_H, res = .inr y → hp_V G m_X9_putNumber 80 [(1, .ref v1), (2, .int v2)] [] y sz sl o) : hp_V G m_X9_putNumber 58 [(0, .ref v0), (1, .ref v1), (2, .int v2), (5, .int v5)] [] h sz sl o := by
  unfold f_X9_putNumber_58 at hm
  refine hv_iload 3 dX9_putNumber_58 rfl ?_
  refine hv_if_lt (tgt := 80) dX9_putNumber_60 (by decide) (fun c4 => ?_) (fun c4 => ?_)
  · rw [if_pos c4] at hm
    exact hv_sub [1, 2] rfl (kX0 h (Option.some.inj hm).symm)
  · rw [if_neg c4] at hm
    refine hv_aload_n 1 dX9_putNumber_63 rfl rfl ?_
    refine hv_aload_n 0 dX9_putNumber_64 rfl rfl ?_
    obtain ⟨x1, hx1, hm⟩ := hp_bd hm
    refine hv_get lk_f_X9_48 dX9_putNumber_65 (hp_fR_spec hx1) ?_
    refine hv_iload 3 dX9_putNumber_68 rfl ?_
    obtain ⟨x2, hx2, hm⟩ := hp_bd hm
    refine hv_iald dX9_putNumber_70 hx2 ?_
    obtain ⟨x3, hx3, hm⟩ := hp_bd hm
    obtain ⟨Vx3, hVx3⟩ := k_X8_put hx3
    refine hv_callV (As := [.int x2]) (rest := []) Z_X8_put I_X8_put lk_m_X9_131 rfl hVx3 (c_X8_put G n v1 x2 h sz sl _ hx3) rfl (Nat.le_of_ble_eq_true rfl) ⟨Nat.le_of_ble_eq_true rfl, Nat.le_of_ble_eq_true rfl⟩ ho.1 ho.2 rfl dX9_putNumber_71 ?_
    refine hv_as [] x3 rfl rfl ?_
    refine hv_iinc (v5 + (-1 : Int32)) 3 [(5, .int (v5 + (-1 : Int32))), (0, .ref v0), (1, .ref v1), (2, .int v2)] dX9_putNumber_74 rfl rfl (by decide) rfl ?_
    refine hv_goto (tgt := 58) dX9_putNumber_77 (by decide) ?_
    exact hv_sub [1, 2, 3, 0] rfl (kI ((v5 + (-1 : Int32)), x3) (Option.some.inj hm).symm)
def fL_X9_putNumber_58 (n : Nat) (v0 : Nat) (v1 : Nat) (v2 : Int32) (s : Int32 × hp_H) : Option ((Int32 × hp_H) ⊕ (hp_H)) := f_X9_putNumber_58 n v0 v1 v2 s.1 s.2
theorem l_X9_putNumber_58 (G : hp_G) (n : Nat) (v0 : Nat) (v1 : Nat) (v2 : Int32) (sz sl : Nat) (o : hp_O) (ho : sz ≤ o.2.2.1 ∧ sl ≤ o.2.2.2) : ∀ (k : Nat) (s : Int32 × hp_H) (x : hp_H), hp_lp (fL_X9_putNumber_58 n v0 v1 v2) k s = some x → (∀ y : hp_H, x = y → hp_V G m_X9_putNumber 80 [(1, .ref v1), (2, .int v2)] [] y sz sl o) → hp_V G m_X9_putNumber 58 [(0, .ref v0), (1, .ref v1), (2, .int v2), (5, .int s.1)] [] s.2 sz sl o := by
  intro k
  induction k with
  | zero => intro s x hx; exact (hp_lp_0 hx).elim
  | succ k ih =>
    intro s x hx k0
    obtain ⟨r, hr, hc⟩ := hp_lp_1 hx
    refine q_X9_putNumber_58 G n v0 v1 v2 s.1 s.2 sz sl o ho r hr (fun s2 e => ?_) (fun y e => ?_)
    · rcases hc with ⟨s3, e3, hx3⟩ | e3
      · have e4 := Sum.inl.inj (e.symm.trans e3)
        subst e4
        exact ih _ _ hx3 k0
      · cases (e.symm.trans e3)
    · rcases hc with ⟨s3, e3, hx3⟩ | e3
      · cases (e.symm.trans e3)
      · exact k0 y (Sum.inr.inj (e3.symm.trans e))
def f_X9_putNumber_53 (n : Nat) (v0 : Nat) (v1 : Nat) (v2 : Int32) (v3 : Int32) (h : hp_H) : Option (hp_H) :=
  (hp_lp (fL_X9_putNumber_58 n v0 v1 v2) n ((v3 - (1 : Int32)), h)).bind fun x1 =>
  (f_X8_put n v1 ((65 : Int32) + ((v2 - (1 : Int32)) - (v2 - (1 : Int32)) / (20 : Int32) * (20 : Int32))) x1).bind fun x3 =>
  some x3
set_option maxHeartbeats 1000000 in
set_option maxRecDepth 4000 in
theorem q_X9_putNumber_53 (G : hp_G) (n : Nat) (v0 : Nat) (v1 : Nat) (v2 : Int32) (v3 : Int32) (h : hp_H) (sz sl : Nat) (res : hp_H) (hm : f_X9_putNumber_53 n v0 v1 v2 v3 h = some res) : hp_V G m_X9_putNumber 53 [(0, .ref v0), (1, .ref v1), (2, .int v2), (3, .int v3)] [] h sz sl (none, res, sz, sl) := by
  have ho : sz ≤ sz ∧ sl ≤ sl := ⟨Nat.le_refl _, Nat.le_refl _⟩
  unfold f_X9_putNumber_53 at hm
  refine hv_iload_n 3 dX9_putNumber_53 rfl rfl ?_
  refine hv_iconst (1 : Int32) dX9_putNumber_54 (by decide) ?_
  refine hv_isub dX9_putNumber_55 ?_
  refine hv_istore [(5, .int (v3 - (1 : Int32))), (0, .ref v0), (1, .ref v1), (2, .int v2), (3, .int v3)] dX9_putNumber_56 (by decide) rfl ?_
  obtain ⟨x1, hx1, hm⟩ := hp_bd hm
  refine hv_sub [1, 2, 3, 0] rfl (l_X9_putNumber_58 G n v0 v1 v2 sz sl _ ho n _ _ hx1 (fun y2 ey2 => ?_))
  · skip
    subst ey2
    refine hv_aload_n 0 dX9_putNumber_80 rfl rfl ?_
    refine hv_bipush (65 : Int32) dX9_putNumber_81 (by decide) ?_
    refine hv_iload_n 1 dX9_putNumber_83 rfl rfl ?_
    refine hv_iconst (1 : Int32) dX9_putNumber_84 (by decide) ?_
    refine hv_isub dX9_putNumber_85 ?_
    refine hv_bipush (20 : Int32) dX9_putNumber_86 (by decide) ?_
    refine hv_irem dX9_putNumber_88 (by decide) ?_
    refine hv_iadd dX9_putNumber_89 ?_
    obtain ⟨x3, hx3, hm⟩ := hp_bd hm
    obtain ⟨Vx3, hVx3⟩ := k_X8_put hx3
    refine hv_callV (As := [.int ((65 : Int32) + ((v2 - (1 : Int32)) - (v2 - (1 : Int32)) / (20 : Int32) * (20 : Int32)))]) (rest := []) Z_X8_put I_X8_put lk_m_X9_131 rfl hVx3 (c_X8_put G n v1 ((65 : Int32) + ((v2 - (1 : Int32)) - (v2 - (1 : Int32)) / (20 : Int32) * (20 : Int32))) x1 sz sl _ hx3) rfl (Nat.le_of_ble_eq_true rfl) ⟨Nat.le_of_ble_eq_true rfl, Nat.le_of_ble_eq_true rfl⟩ ho.1 ho.2 rfl dX9_putNumber_90 ?_
    refine hv_as [] x3 rfl rfl ?_
    obtain rfl := Option.some.inj hm
    exact hv_vret rfl dX9_putNumber_93
def f_X9_putNumber_0 (n : Nat) (v0 : Nat) (v1 : Nat) (v2 : Int32) (h : hp_H) : Option (hp_H) :=
  (hp_lp (fL_X9_putNumber_10 n v0 v1 v2) n ((0 : Int32), ((v2 - (1 : Int32)) / (20 : Int32)), h)).bind fun x1 =>
  f_X9_putNumber_53 n v0 v1 v2 x1.1 x1.2
set_option maxHeartbeats 1000000 in
set_option maxRecDepth 4000 in
theorem q_X9_putNumber_0 (G : hp_G) (n : Nat) (v0 : Nat) (v1 : Nat) (v2 : Int32) (h : hp_H) (sz sl : Nat) (res : hp_H) (hm : f_X9_putNumber_0 n v0 v1 v2 h = some res) : hp_V G m_X9_putNumber 0 [(0, .ref v0), (1, .ref v1), (2, .int v2)] [] h sz sl (none, res, sz, sl) := by
  have ho : sz ≤ sz ∧ sl ≤ sl := ⟨Nat.le_refl _, Nat.le_refl _⟩
  unfold f_X9_putNumber_0 at hm
  refine hv_iconst (0 : Int32) dX9_putNumber_0 (by decide) ?_
  refine hv_istore_n [(3, .int (0 : Int32)), (0, .ref v0), (1, .ref v1), (2, .int v2)] dX9_putNumber_1 rfl (by decide) rfl ?_
  refine hv_iload_n 3 dX9_putNumber_2 rfl rfl ?_
  refine hv_iconst (1 : Int32) dX9_putNumber_3 (by decide) ?_
  refine hv_isub dX9_putNumber_4 ?_
  refine hv_bipush (20 : Int32) dX9_putNumber_5 (by decide) ?_
  refine hv_idiv dX9_putNumber_7 (by decide) ?_
  refine hv_istore [(4, .int ((v2 - (1 : Int32)) / (20 : Int32))), (3, .int (0 : Int32)), (0, .ref v0), (1, .ref v1), (2, .int v2)] dX9_putNumber_8 (by decide) rfl ?_
  obtain ⟨x1, hx1, hm⟩ := hp_bd hm
  refine hv_sub [2, 3, 4, 1, 0] rfl (l_X9_putNumber_10 G n v0 v1 v2 sz sl _ ho n _ _ hx1 (fun y2 ey2 => ?_))
  · skip
    subst ey2
    exact hv_sub [0, 1, 2, 3] rfl (q_X9_putNumber_53 G n v0 v1 v2 x1.1 x1.2 sz sl _ hm)
def f_X9_putNumber (n : Nat) (v0 : Nat) (v1 : Nat) (v2 : Int32) (h : hp_H) : Option (hp_H) := (hp_ck h 9 v0).bind fun _ => f_X9_putNumber_0 n v0 v1 v2 h
theorem c_X9_putNumber (G : hp_G) (n : Nat) (v0 : Nat) (v1 : Nat) (v2 : Int32) (h : hp_H) (sz sl : Nat) (res : hp_H) (hm : f_X9_putNumber n v0 v1 v2 h = some res) : hp_C G m_X9_putNumber yX9_putNumber [.ref v0, .ref v1, .int v2] h sz sl (none, res, sz, sl) := by
  unfold f_X9_putNumber at hm
  obtain ⟨_, _, hm⟩ := hp_bd hm
  exact hp_C_of (by decide) rfl rfl (Nat.le_of_ble_eq_true rfl) (Nat.le_refl _) (Nat.le_refl _) (hv_sub [0, 1, 2] rfl (q_X9_putNumber_0 G n v0 v1 v2 h sz sl res hm))
theorem k_X9_putNumber {n : Nat} {v0 : Nat} {v1 : Nat} {v2 : Int32} {h : hp_H} {res : hp_H} (hm : f_X9_putNumber n v0 v1 v2 h = some res) : ∃ V, h v0 = some (.inr (.inr (9, V))) := by
  unfold f_X9_putNumber at hm
  obtain ⟨_, hu, _⟩ := hp_bd hm
  exact hp_ck_spec hu
abbrev m_X9_leave : hp_M := (RX9, cX9_leave, 3, none, 2, 46, "leave")
theorem Z_X9_leave : hp_Y yX9_leave m_X9_leave 1 := Y_X9_leave
def f_X9_leave_0 (n : Nat) (v0 : Nat) (v1 : Nat) (h : hp_H) : Option (hp_H) :=
  (hp_fR h 9 v0 10).bind fun x1 =>
  (hp_fI h 9 v0 12).bind fun x2 =>
  (hp_aI h 0 x1 (x2 - (1 : Int32))).bind fun x3 =>
  (hp_fI h 9 v0 12).bind fun x4 =>
  (hp_pF h 9 v0 12 (.int (x4 - (1 : Int32)))).bind fun h5 =>
  (hp_fR h5 9 v0 13).bind fun x6 =>
  (hp_fR h5 9 v0 4).bind fun x7 =>
  (hp_aI h5 0 x7 x3).bind fun x8 =>
  (hp_aI h5 0 x6 x8).bind fun x9 =>
  (f_X9_putNumber n v0 v1 x9 h5).bind fun x10 =>
  (hp_fR x10 9 v0 5).bind fun x11 =>
  (f_X5_size n x11 x3 x10).bind fun x12 =>
  if x12 ≤ 0 then
    some x10
  else
    (hp_fR x10 9 v0 6).bind fun x13 =>
    (hp_aI x10 0 x13 x3).bind fun x14 =>
    if x14 ≤ (1 : Int32) then
      some x10
    else
      (f_X8_put n v1 (90 : Int32) x10).bind fun x15 =>
      (hp_fI x15 9 v0 15).bind fun x16 =>
      (hp_pF x15 9 v0 15 (.int (x16 + (1 : Int32)))).bind fun h17 =>
      (hp_fR h17 9 v0 14).bind fun x18 =>
      (hp_fI h17 9 v0 15).bind fun x19 =>
      (hp_sI h17 0 x18 x3 x19).bind fun h20 =>
      some h20
set_option maxHeartbeats 1000000 in
set_option maxRecDepth 4000 in
theorem q_X9_leave_0 (G : hp_G) (n : Nat) (v0 : Nat) (v1 : Nat) (h : hp_H) (sz sl : Nat) (res : hp_H) (hm : f_X9_leave_0 n v0 v1 h = some res) : hp_V G m_X9_leave 0 [(0, .ref v0), (1, .ref v1)] [] h sz sl (none, res, sz, sl) := by
  have ho : sz ≤ sz ∧ sl ≤ sl := ⟨Nat.le_refl _, Nat.le_refl _⟩
  unfold f_X9_leave_0 at hm
  refine hv_aload_n 0 dX9_leave_0 rfl rfl ?_
  obtain ⟨x1, hx1, hm⟩ := hp_bd hm
  refine hv_get lk_f_X9_36 dX9_leave_1 (hp_fR_spec hx1) ?_
  refine hv_aload_n 0 dX9_leave_4 rfl rfl ?_
  obtain ⟨x2, hx2, hm⟩ := hp_bd hm
  refine hv_get lk_f_X9_121 dX9_leave_5 (hp_fI_spec hx2) ?_
  refine hv_iconst (1 : Int32) dX9_leave_8 (by decide) ?_
  refine hv_isub dX9_leave_9 ?_
  obtain ⟨x3, hx3, hm⟩ := hp_bd hm
  refine hv_iald dX9_leave_10 hx3 ?_
  refine hv_istore_n [(2, .int x3), (0, .ref v0), (1, .ref v1)] dX9_leave_11 rfl (by decide) rfl ?_
  refine hv_aload_n 1 dX9_leave_12 rfl rfl ?_
  refine hv_dup dX9_leave_13 rfl ?_
  obtain ⟨x4, hx4, hm⟩ := hp_bd hm
  refine hv_get lk_f_X9_121 dX9_leave_14 (hp_fI_spec hx4) ?_
  refine hv_iconst (1 : Int32) dX9_leave_17 (by decide) ?_
  refine hv_isub dX9_leave_18 ?_
  obtain ⟨h5, hh5, hm⟩ := hp_bd hm
  refine hv_put lk_f_X9_121 dX9_leave_19 rfl rfl hh5 ?_
  refine hv_aload_n 1 dX9_leave_22 rfl rfl ?_
  refine hv_aload_n 2 dX9_leave_23 rfl rfl ?_
  refine hv_aload_n 1 dX9_leave_24 rfl rfl ?_
  obtain ⟨x6, hx6, hm⟩ := hp_bd hm
  refine hv_get lk_f_X9_42 dX9_leave_25 (hp_fR_spec hx6) ?_
  refine hv_aload_n 1 dX9_leave_28 rfl rfl ?_
  obtain ⟨x7, hx7, hm⟩ := hp_bd hm
  refine hv_get lk_f_X9_9 dX9_leave_29 (hp_fR_spec hx7) ?_
  refine hv_iload_n 0 dX9_leave_32 rfl rfl ?_
  obtain ⟨x8, hx8, hm⟩ := hp_bd hm
  refine hv_iald dX9_leave_33 hx8 ?_
  obtain ⟨x9, hx9, hm⟩ := hp_bd hm
  refine hv_iald dX9_leave_34 hx9 ?_
  obtain ⟨x10, hx10, hm⟩ := hp_bd hm
  obtain ⟨Vx10, hVx10⟩ := k_X9_putNumber hx10
  refine hv_callV (As := [.ref v1, .int x9]) (rest := []) Z_X9_putNumber I_X9_putNumber lk_m_X9_150 rfl hVx10 (c_X9_putNumber G n v0 v1 x9 h5 sz sl _ hx10) rfl (Nat.le_of_ble_eq_true rfl) ⟨Nat.le_of_ble_eq_true rfl, Nat.le_of_ble_eq_true rfl⟩ ho.1 ho.2 rfl dX9_leave_35 ?_
  refine hv_as [] x10 rfl rfl ?_
  refine hv_aload_n 1 dX9_leave_38 rfl rfl ?_
  obtain ⟨x11, hx11, hm⟩ := hp_bd hm
  refine hv_get lk_f_X9_20 dX9_leave_39 (hp_fR_spec hx11) ?_
  refine hv_iload_n 0 dX9_leave_42 rfl rfl ?_
  obtain ⟨x12, hx12, hm⟩ := hp_bd hm
  obtain ⟨Vx12, hVx12⟩ := k_X5_size hx12
  refine hv_callV (As := [.int x3]) (rest := []) Z_X5_size I_X5_size lk_m_X9_85 rfl hVx12 (c_X5_size G n x11 x3 x10 sz sl _ hx12) rfl (Nat.le_of_ble_eq_true rfl) ⟨Nat.le_of_ble_eq_true rfl, Nat.le_of_ble_eq_true rfl⟩ ho.1 ho.2 rfl dX9_leave_43 ?_
  refine hv_as [.int x12] x10 rfl rfl ?_
  refine hv_if_le (tgt := 85) dX9_leave_46 (by decide) (fun c22 => ?_) (fun c22 => ?_)
  · rw [if_pos c22] at hm
    obtain rfl := Option.some.inj hm
    exact hv_vret rfl dX9_leave_85
  · rw [if_neg c22] at hm
    refine hv_aload_n 1 dX9_leave_49 rfl rfl ?_
    obtain ⟨x13, hx13, hm⟩ := hp_bd hm
    refine hv_get lk_f_X9_24 dX9_leave_50 (hp_fR_spec hx13) ?_
    refine hv_iload_n 0 dX9_leave_53 rfl rfl ?_
    obtain ⟨x14, hx14, hm⟩ := hp_bd hm
    refine hv_iald dX9_leave_54 hx14 ?_
    refine hv_iconst (1 : Int32) dX9_leave_55 (by decide) ?_
    refine hv_icmp_le (tgt := 85) dX9_leave_56 (by decide) (fun c21 => ?_) (fun c21 => ?_)
    · rw [if_pos c21] at hm
      obtain rfl := Option.some.inj hm
      exact hv_vret rfl dX9_leave_85
    · rw [if_neg c21] at hm
      refine hv_aload_n 2 dX9_leave_59 rfl rfl ?_
      refine hv_bipush (90 : Int32) dX9_leave_60 (by decide) ?_
      obtain ⟨x15, hx15, hm⟩ := hp_bd hm
      obtain ⟨Vx15, hVx15⟩ := k_X8_put hx15
      refine hv_callV (As := [.int (90 : Int32)]) (rest := []) Z_X8_put I_X8_put lk_m_X9_131 rfl hVx15 (c_X8_put G n v1 (90 : Int32) x10 sz sl _ hx15) rfl (Nat.le_of_ble_eq_true rfl) ⟨Nat.le_of_ble_eq_true rfl, Nat.le_of_ble_eq_true rfl⟩ ho.1 ho.2 rfl dX9_leave_62 ?_
      refine hv_as [] x15 rfl rfl ?_
      refine hv_aload_n 1 dX9_leave_65 rfl rfl ?_
      refine hv_dup dX9_leave_66 rfl ?_
      obtain ⟨x16, hx16, hm⟩ := hp_bd hm
      refine hv_get lk_f_X9_154 dX9_leave_67 (hp_fI_spec hx16) ?_
      refine hv_iconst (1 : Int32) dX9_leave_70 (by decide) ?_
      refine hv_iadd dX9_leave_71 ?_
      obtain ⟨h17, hh17, hm⟩ := hp_bd hm
      refine hv_put lk_f_X9_154 dX9_leave_72 rfl rfl hh17 ?_
      refine hv_aload_n 1 dX9_leave_75 rfl rfl ?_
      obtain ⟨x18, hx18, hm⟩ := hp_bd hm
      refine hv_get lk_f_X9_45 dX9_leave_76 (hp_fR_spec hx18) ?_
      refine hv_iload_n 0 dX9_leave_79 rfl rfl ?_
      refine hv_aload_n 1 dX9_leave_80 rfl rfl ?_
      obtain ⟨x19, hx19, hm⟩ := hp_bd hm
      refine hv_get lk_f_X9_154 dX9_leave_81 (hp_fI_spec hx19) ?_
      obtain ⟨h20, hh20, hm⟩ := hp_bd hm
      refine hv_iast dX9_leave_84 hh20 ?_
      obtain rfl := Option.some.inj hm
      exact hv_vret rfl dX9_leave_85
def f_X9_leave (n : Nat) (v0 : Nat) (v1 : Nat) (h : hp_H) : Option (hp_H) := (hp_ck h 9 v0).bind fun _ => f_X9_leave_0 n v0 v1 h
theorem c_X9_leave (G : hp_G) (n : Nat) (v0 : Nat) (v1 : Nat) (h : hp_H) (sz sl : Nat) (res : hp_H) (hm : f_X9_leave n v0 v1 h = some res) : hp_C G m_X9_leave yX9_leave [.ref v0, .ref v1] h sz sl (none, res, sz, sl) := by
  unfold f_X9_leave at hm
  obtain ⟨_, _, hm⟩ := hp_bd hm
  exact hp_C_of (by decide) rfl rfl (Nat.le_of_ble_eq_true rfl) (Nat.le_refl _) (Nat.le_refl _) (hv_sub [0, 1] rfl (q_X9_leave_0 G n v0 v1 h sz sl res hm))
theorem k_X9_leave {n : Nat} {v0 : Nat} {v1 : Nat} {h : hp_H} {res : hp_H} (hm : f_X9_leave n v0 v1 h = some res) : ∃ V, h v0 = some (.inr (.inr (9, V))) := by
  unfold f_X9_leave at hm
  obtain ⟨_, hu, _⟩ := hp_bd hm
  exact hp_ck_spec hu
abbrev m_X9_compress : hp_M := (RX9, cX9_compress, 4, none, 3, 69, "compress")
theorem Z_X9_compress : hp_Y yX9_compress m_X9_compress 1 := Y_X9_compress
def f_X9_compress_79 (n : Nat) (v0 : Nat) (v1 : Nat) (v2 : Int32) (h : hp_H) : Option ((Int32 × hp_H) ⊕ (hp_H)) :=
  some (.inl ((v2 + (1 : Int32)), h))
set_option maxHeartbeats 1000000 in
set_option maxRecDepth 4000 in
theorem q_X9_compress_79 (G : hp_G) (n : Nat) (v0 : Nat) (v1 : Nat) (v2 : Int32) (h : hp_H) (sz sl : Nat) (o : hp_O) (ho : sz ≤ o.2.2.1 ∧ sl ≤ o.2.2.2) (res : (Int32 × hp_H) ⊕ (hp_H)) (hm : f_X9_compress_79 n v0 v1 v2 h = some res) (kI : ∀ y : Int32 × hp_H, res = .inl y → hp_V G m_X9_compress 19 [(0, .ref v0), (1, .ref v1), (2, .int y.1)] [] y.2 sz sl o) (kR : ∀ y : hp_H, res = .inr y → o = (none, y, sz, sl)) : hp_V G m_X9_compress 79 [(0, .ref v0), (1, .ref v1), (2, .int v2)] [] h sz sl o := by
  unfold f_X9_compress_79 at hm
  refine hv_iinc (v2 + (1 : Int32)) 2 [(2, .int (v2 + (1 : Int32))), (0, .ref v0), (1, .ref v1)] dX9_compress_79 rfl rfl (by decide) rfl ?_
  refine hv_goto (tgt := 19) dX9_compress_82 (by decide) ?_
  exact hv_sub [1, 2, 0] rfl (kI ((v2 + (1 : Int32)), h) (Option.some.inj hm).symm)
def f_X9_compress_19 (n : Nat) (v0 : Nat) (v1 : Nat) (v2 : Int32) (h : hp_H) : Option ((Int32 × hp_H) ⊕ (hp_H)) :=
  if (4000 : Int32) ≤ v2 then
    some (.inr h)
  else
    (hp_fI h 9 v0 12).bind fun x1 =>
    if x1 ≤ 0 then
      some (.inr h)
    else
      (f_X9_nextTaken n v0 h).bind fun x2 =>
      if x2.1 = (-1 : Int32) then
        (f_X9_leave n v0 v1 x2.2).bind fun x10 =>
        f_X9_compress_79 n v0 v1 v2 x10
      else
        (hp_fR x2.2 9 v0 14).bind fun x3 =>
        (hp_aI x2.2 0 x3 x2.1).bind fun x4 =>
        if x4 ≤ 0 then
          (f_X9_enter n v0 x2.1 x2.2).bind fun x5 =>
          f_X9_compress_79 n v0 v1 v2 x5
        else
          (hp_fR x2.2 9 v0 14).bind fun x6 =>
          (hp_aI x2.2 0 x6 x2.1).bind fun x7 =>
          (f_X9_putNumber n v0 v1 x7 x2.2).bind fun x8 =>
          f_X9_compress_79 n v0 v1 v2 x8
set_option maxHeartbeats 1000000 in
set_option maxRecDepth 4000 in
theorem q_X9_compress_19 (G : hp_G) (n : Nat) (v0 : Nat) (v1 : Nat) (v2 : Int32) (h : hp_H) (sz sl : Nat) (o : hp_O) (ho : sz ≤ o.2.2.1 ∧ sl ≤ o.2.2.2) (res : (Int32 × hp_H) ⊕ (hp_H)) (hm : f_X9_compress_19 n v0 v1 v2 h = some res) (kI : ∀ y : Int32 × hp_H, res = .inl y → hp_V G m_X9_compress 19 [(0, .ref v0), (1, .ref v1), (2, .int y.1)] [] y.2 sz sl o) (kR : ∀ y : hp_H, res = .inr y → o = (none, y, sz, sl)) : hp_V G m_X9_compress 19 [(0, .ref v0), (1, .ref v1), (2, .int v2)] [] h sz sl o := by
  unfold f_X9_compress_19 at hm
  refine hv_iload_n 2 dX9_compress_19 rfl rfl ?_
  refine hv_sipush (4000 : Int32) dX9_compress_20 (by decide) ?_
  refine hv_icmp_ge (tgt := 85) dX9_compress_23 (by decide) (fun c13 => ?_) (fun c13 => ?_)
  · rw [if_pos c13] at hm
    obtain rfl := kR _ (Option.some.inj hm).symm
    exact hv_vret rfl dX9_compress_85
  · rw [if_neg c13] at hm
    refine hv_aload_n 0 dX9_compress_26 rfl rfl ?_
    obtain ⟨x1, hx1, hm⟩ := hp_bd hm
    refine hv_get lk_f_X9_121 dX9_compress_27 (hp_fI_spec hx1) ?_
    refine hv_if_le (tgt := 85) dX9_compress_30 (by decide) (fun c12 => ?_) (fun c12 => ?_)
    · rw [if_pos c12] at hm
      obtain rfl := kR _ (Option.some.inj hm).symm
      exact hv_vret rfl dX9_compress_85
    · rw [if_neg c12] at hm
      refine hv_aload_n 0 dX9_compress_33 rfl rfl ?_
      obtain ⟨x2, hx2, hm⟩ := hp_bd hm
      obtain ⟨Vx2, hVx2⟩ := k_X9_nextTaken hx2
      refine hv_callV (As := []) (rest := []) Z_X9_nextTaken I_X9_nextTaken lk_m_X9_124 rfl hVx2 (c_X9_nextTaken G n v0 h sz sl _ hx2) rfl (Nat.le_of_ble_eq_true rfl) ⟨Nat.le_of_ble_eq_true rfl, Nat.le_of_ble_eq_true rfl⟩ ho.1 ho.2 rfl dX9_compress_34 ?_
      refine hv_as [.int x2.1] x2.2 rfl rfl ?_
      refine hv_istore_n [(3, .int x2.1), (0, .ref v0), (1, .ref v1), (2, .int v2)] dX9_compress_37 rfl (by decide) rfl ?_
      refine hv_iload_n 0 dX9_compress_38 rfl rfl ?_
      refine hv_iconst (-1 : Int32) dX9_compress_39 (by decide) ?_
      refine hv_icmp_ne (tgt := 51) dX9_compress_40 (by decide) (fun c11 => ?_) (fun c11 => ?_)
      · rw [if_neg c11] at hm
        refine hv_aload_n 1 dX9_compress_51 rfl rfl ?_
        obtain ⟨x3, hx3, hm⟩ := hp_bd hm
        refine hv_get lk_f_X9_45 dX9_compress_52 (hp_fR_spec hx3) ?_
        refine hv_iload_n 0 dX9_compress_55 rfl rfl ?_
        obtain ⟨x4, hx4, hm⟩ := hp_bd hm
        refine hv_iald dX9_compress_56 hx4 ?_
        refine hv_if_le (tgt := 74) dX9_compress_57 (by decide) (fun c9 => ?_) (fun c9 => ?_)
        · rw [if_pos c9] at hm
          refine hv_aload_n 1 dX9_compress_74 rfl rfl ?_
          refine hv_iload_n 0 dX9_compress_75 rfl rfl ?_
          obtain ⟨x5, hx5, hm⟩ := hp_bd hm
          obtain ⟨Vx5, hVx5⟩ := k_X9_enter hx5
          refine hv_callV (As := [.int x2.1]) (rest := []) Z_X9_enter I_X9_enter lk_m_X9_128 rfl hVx5 (c_X9_enter G n v0 x2.1 x2.2 sz sl _ hx5) rfl (Nat.le_of_ble_eq_true rfl) ⟨Nat.le_of_ble_eq_true rfl, Nat.le_of_ble_eq_true rfl⟩ ho.1 ho.2 rfl dX9_compress_76 ?_
          refine hv_as [] x5 rfl rfl ?_
          exact hv_sub [1, 2, 3] rfl (q_X9_compress_79 G n v0 v1 v2 x5 sz sl o ho _ hm kI kR)
        · rw [if_neg c9] at hm
          refine hv_aload_n 1 dX9_compress_60 rfl rfl ?_
          refine hv_aload_n 2 dX9_compress_61 rfl rfl ?_
          refine hv_aload_n 1 dX9_compress_62 rfl rfl ?_
          obtain ⟨x6, hx6, hm⟩ := hp_bd hm
          refine hv_get lk_f_X9_45 dX9_compress_63 (hp_fR_spec hx6) ?_
          refine hv_iload_n 0 dX9_compress_66 rfl rfl ?_
          obtain ⟨x7, hx7, hm⟩ := hp_bd hm
          refine hv_iald dX9_compress_67 hx7 ?_
          obtain ⟨x8, hx8, hm⟩ := hp_bd hm
          obtain ⟨Vx8, hVx8⟩ := k_X9_putNumber hx8
          refine hv_callV (As := [.ref v1, .int x7]) (rest := []) Z_X9_putNumber I_X9_putNumber lk_m_X9_150 rfl hVx8 (c_X9_putNumber G n v0 v1 x7 x2.2 sz sl _ hx8) rfl (Nat.le_of_ble_eq_true rfl) ⟨Nat.le_of_ble_eq_true rfl, Nat.le_of_ble_eq_true rfl⟩ ho.1 ho.2 rfl dX9_compress_68 ?_
          refine hv_as [] x8 rfl rfl ?_
          refine hv_goto (tgt := 79) dX9_compress_71 (by decide) ?_
          exact hv_sub [1, 2, 3] rfl (q_X9_compress_79 G n v0 v1 v2 x8 sz sl o ho _ hm kI kR)
      · rw [if_pos c11] at hm
        refine hv_aload_n 1 dX9_compress_43 rfl rfl ?_
        refine hv_aload_n 2 dX9_compress_44 rfl rfl ?_
        obtain ⟨x10, hx10, hm⟩ := hp_bd hm
        obtain ⟨Vx10, hVx10⟩ := k_X9_leave hx10
        refine hv_callV (As := [.ref v1]) (rest := []) Z_X9_leave I_X9_leave lk_m_X9_147 rfl hVx10 (c_X9_leave G n v0 v1 x2.2 sz sl _ hx10) rfl (Nat.le_of_ble_eq_true rfl) ⟨Nat.le_of_ble_eq_true rfl, Nat.le_of_ble_eq_true rfl⟩ ho.1 ho.2 rfl dX9_compress_45 ?_
        refine hv_as [] x10 rfl rfl ?_
        refine hv_goto (tgt := 79) dX9_compress_48 (by decide) ?_
        exact hv_sub [1, 2, 3] rfl (q_X9_compress_79 G n v0 v1 v2 x10 sz sl o ho _ hm kI kR)
def fL_X9_compress_19 (n : Nat) (v0 : Nat) (v1 : Nat) (s : Int32 × hp_H) : Option ((Int32 × hp_H) ⊕ (hp_H)) := f_X9_compress_19 n v0 v1 s.1 s.2
theorem l_X9_compress_19 (G : hp_G) (n : Nat) (v0 : Nat) (v1 : Nat) (sz sl : Nat) (o : hp_O) (ho : sz ≤ o.2.2.1 ∧ sl ≤ o.2.2.2) : ∀ (k : Nat) (s : Int32 × hp_H) (x : hp_H), hp_lp (fL_X9_compress_19 n v0 v1) k s = some x → (∀ y : hp_H, x = y → o = (none, y, sz, sl)) → hp_V G m_X9_compress 19 [(0, .ref v0), (1, .ref v1), (2, .int s.1)] [] s.2 sz sl o := by
  intro k
  induction k with
  | zero => intro s x hx; exact (hp_lp_0 hx).elim
  | succ k ih =>
    intro s x hx k0
    obtain ⟨r, hr, hc⟩ := hp_lp_1 hx
    refine q_X9_compress_19 G n v0 v1 s.1 s.2 sz sl o ho r hr (fun s2 e => ?_) (fun y e => ?_)
    · rcases hc with ⟨s3, e3, hx3⟩ | e3
      · have e4 := Sum.inl.inj (e.symm.trans e3)
        subst e4
        exact ih _ _ hx3 k0
      · cases (e.symm.trans e3)
    · rcases hc with ⟨s3, e3, hx3⟩ | e3
      · cases (e.symm.trans e3)
      · exact k0 y (Sum.inr.inj (e3.symm.trans e))
def f_X9_compress_0 (n : Nat) (v0 : Nat) (v1 : Nat) (h : hp_H) : Option (hp_H) :=
  (f_X9_numberLabels n v0 v1 h).bind fun x1 =>
  (hp_fR x1 9 v0 14).bind fun x2 =>
  (f_J7_fill_53178 n x2 (0 : Int32) x1).bind fun x3 =>
  (f_X9_enterRoot n v0 x3).bind fun x4 =>
  (hp_lp (fL_X9_compress_19 n v0 v1) n ((0 : Int32), x4)).bind fun x5 =>
  some x5
set_option maxHeartbeats 1000000 in
set_option maxRecDepth 4000 in
theorem q_X9_compress_0 (G : hp_G) (n : Nat) (v0 : Nat) (v1 : Nat) (h : hp_H) (sz sl : Nat) (res : hp_H) (hm : f_X9_compress_0 n v0 v1 h = some res) : hp_V G m_X9_compress 0 [(0, .ref v0), (1, .ref v1)] [] h sz sl (none, res, sz, sl) := by
  have ho : sz ≤ sz ∧ sl ≤ sl := ⟨Nat.le_refl _, Nat.le_refl _⟩
  unfold f_X9_compress_0 at hm
  refine hv_aload_n 0 dX9_compress_0 rfl rfl ?_
  refine hv_aload_n 1 dX9_compress_1 rfl rfl ?_
  obtain ⟨x1, hx1, hm⟩ := hp_bd hm
  obtain ⟨Vx1, hVx1⟩ := k_X9_numberLabels hx1
  refine hv_callV (As := [.ref v1]) (rest := []) Z_X9_numberLabels I_X9_numberLabels lk_m_X9_143 rfl hVx1 (c_X9_numberLabels G n v0 v1 h sz sl _ hx1) rfl (Nat.le_of_ble_eq_true rfl) ⟨Nat.le_of_ble_eq_true rfl, Nat.le_of_ble_eq_true rfl⟩ ho.1 ho.2 rfl dX9_compress_2 ?_
  refine hv_as [] x1 rfl rfl ?_
  refine hv_aload_n 0 dX9_compress_5 rfl rfl ?_
  obtain ⟨x2, hx2, hm⟩ := hp_bd hm
  refine hv_get lk_f_X9_45 dX9_compress_6 (hp_fR_spec hx2) ?_
  refine hv_iconst (0 : Int32) dX9_compress_9 (by decide) ?_
  obtain ⟨x3, hx3, hm⟩ := hp_bd hm
  refine hv_callS (As := [.ref x2, .int (0 : Int32)]) (rest := []) Z_J7_fill_53178 I_J7_fill_53178 lk_m_X9_66 (c_J7_fill_53178 G n x2 (0 : Int32) x1 sz sl _ hx3) rfl (Nat.le_of_ble_eq_true rfl) ⟨Nat.le_of_ble_eq_true rfl, Nat.le_of_ble_eq_true rfl⟩ ho.1 ho.2 rfl dX9_compress_10 ?_
  refine hv_as [] x3 rfl rfl ?_
  refine hv_aload_n 0 dX9_compress_13 rfl rfl ?_
  obtain ⟨x4, hx4, hm⟩ := hp_bd hm
  obtain ⟨Vx4, hVx4⟩ := k_X9_enterRoot hx4
  refine hv_callV (As := []) (rest := []) Z_X9_enterRoot I_X9_enterRoot lk_m_X9_118 rfl hVx4 (c_X9_enterRoot G n v0 x3 sz sl _ hx4) rfl (Nat.le_of_ble_eq_true rfl) ⟨Nat.le_of_ble_eq_true rfl, Nat.le_of_ble_eq_true rfl⟩ ho.1 ho.2 rfl dX9_compress_14 ?_
  refine hv_as [] x4 rfl rfl ?_
  refine hv_iconst (0 : Int32) dX9_compress_17 (by decide) ?_
  refine hv_istore_n [(2, .int (0 : Int32)), (0, .ref v0), (1, .ref v1)] dX9_compress_18 rfl (by decide) rfl ?_
  obtain ⟨x5, hx5, hm⟩ := hp_bd hm
  refine hv_sub [1, 2, 0] rfl (l_X9_compress_19 G n v0 v1 sz sl _ ho n _ _ hx5 (fun y6 ey6 => ?_))
  · skip
    subst ey6
    obtain rfl := Option.some.inj hm
    rfl
def f_X9_compress (n : Nat) (v0 : Nat) (v1 : Nat) (h : hp_H) : Option (hp_H) := (hp_ck h 9 v0).bind fun _ => f_X9_compress_0 n v0 v1 h
theorem c_X9_compress (G : hp_G) (n : Nat) (v0 : Nat) (v1 : Nat) (h : hp_H) (sz sl : Nat) (res : hp_H) (hm : f_X9_compress n v0 v1 h = some res) : hp_C G m_X9_compress yX9_compress [.ref v0, .ref v1] h sz sl (none, res, sz, sl) := by
  unfold f_X9_compress at hm
  obtain ⟨_, _, hm⟩ := hp_bd hm
  exact hp_C_of (by decide) rfl rfl (Nat.le_of_ble_eq_true rfl) (Nat.le_refl _) (Nat.le_refl _) (hv_sub [0, 1] rfl (q_X9_compress_0 G n v0 v1 h sz sl res hm))
theorem k_X9_compress {n : Nat} {v0 : Nat} {v1 : Nat} {h : hp_H} {res : hp_H} (hm : f_X9_compress n v0 v1 h = some res) : ∃ V, h v0 = some (.inr (.inr (9, V))) := by
  unfold f_X9_compress at hm
  obtain ⟨_, hu, _⟩ := hp_bd hm
  exact hp_ck_spec hu
