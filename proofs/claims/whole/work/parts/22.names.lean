abbrev m_X2_init : hp_M := (RX2, cX2_init, 1, none, 1, 30, "<init>")
theorem Z_X2_init : hp_Y yX2_init m_X2_init 0 := Y_X2_init
def f_X2_init_46 (n : Nat) (v0 : Nat) (s0 : Nat) (s1 : Nat) (h : hp_H) (sz sl : Nat) : Option (hp_H × Nat × Nat) :=
  (hp_pF h 2 s1 4 (.ref s0)).bind fun h1 =>
  (hp_fR h1 2 v0 1).bind fun x2 =>
  (f_J7_fill_53178 n x2 (-1 : Int32) h1).bind fun x3 =>
  some (x3, sz, sl)
set_option maxHeartbeats 1000000 in
set_option maxRecDepth 4000 in
theorem mo_X2_init_46 {n : Nat} {v0 : Nat} {s0 : Nat} {s1 : Nat} {h : hp_H} {sz sl : Nat} {res : hp_H × Nat × Nat} (hm : f_X2_init_46 n v0 s0 s1 h sz sl = some res) : sz ≤ res.2.1 ∧ sl ≤ res.2.2 := by
  unfold f_X2_init_46 at hm
  obtain ⟨h1, hh1, hm⟩ := hp_bd hm
  obtain ⟨x2, hx2, hm⟩ := hp_bd hm
  obtain ⟨x3, hx3, hm⟩ := hp_bd hm
  obtain rfl := Option.some.inj hm
  exact ⟨Nat.le_refl _, Nat.le_refl _⟩
set_option maxHeartbeats 1000000 in
set_option maxRecDepth 4000 in
theorem q_X2_init_46 (G : hp_G) (n : Nat) (v0 : Nat) (s0 : Nat) (s1 : Nat) (h : hp_H) (sz sl : Nat) (res : hp_H × Nat × Nat) (hm : f_X2_init_46 n v0 s0 s1 h sz sl = some res) : hp_V G m_X2_init 46 [(0, .ref v0)] [.ref s0, .ref s1] h sz sl (none, res.1, res.2.1, res.2.2) := by
  have ho := mo_X2_init_46 hm
  unfold f_X2_init_46 at hm
  obtain ⟨h1, hh1, hm⟩ := hp_bd hm
  refine hv_putF lk_f_X2_25 (by intro C T N e; cases e; rfl) rfl dX2_init_46 rfl rfl hh1 ?_
  refine hv_aload_n 0 dX2_init_49 rfl rfl ?_
  obtain ⟨x2, hx2, hm⟩ := hp_bd hm
  refine hv_get lk_f_X2_15 dX2_init_50 (hp_fR_spec hx2) ?_
  refine hv_iconst (-1 : Int32) dX2_init_53 (by decide) ?_
  obtain ⟨x3, hx3, hm⟩ := hp_bd hm
  refine hv_callS (As := [.ref x2, .int (-1 : Int32)]) (rest := []) Z_J7_fill_53178 I_J7_fill_53178 lk_m_X2_28 (c_J7_fill_53178 G n x2 (-1 : Int32) h1 sz sl _ hx3) rfl (Nat.le_of_ble_eq_true rfl) ⟨Nat.le_of_ble_eq_true rfl, Nat.le_of_ble_eq_true rfl⟩ ho.1 ho.2 rfl dX2_init_54 ?_
  refine hv_as [] x3 rfl rfl ?_
  obtain rfl := Option.some.inj hm
  exact hv_vret rfl dX2_init_57
def f_X2_init_37 (n : Nat) (v0 : Nat) (s0 : Nat) (s1 : Nat) (h : hp_H) (sz sl : Nat) : Option (hp_H × Nat × Nat) :=
  (hp_pF h 2 s1 3 (.ref s0)).bind fun h1 =>
  f_X2_init_46 n v0 sz v0 (hp_na h1 sz 0 500) (sz + 1) (sl + 500)
set_option maxHeartbeats 1000000 in
set_option maxRecDepth 4000 in
theorem mo_X2_init_37 {n : Nat} {v0 : Nat} {s0 : Nat} {s1 : Nat} {h : hp_H} {sz sl : Nat} {res : hp_H × Nat × Nat} (hm : f_X2_init_37 n v0 s0 s1 h sz sl = some res) : sz ≤ res.2.1 ∧ sl ≤ res.2.2 := by
  unfold f_X2_init_37 at hm
  obtain ⟨h1, hh1, hm⟩ := hp_bd hm
  exact hp_tr ⟨Nat.le_add_right _ _, Nat.le_add_right _ _⟩ (mo_X2_init_46 hm)
set_option maxHeartbeats 1000000 in
set_option maxRecDepth 4000 in
theorem q_X2_init_37 (G : hp_G) (n : Nat) (v0 : Nat) (s0 : Nat) (s1 : Nat) (h : hp_H) (sz sl : Nat) (res : hp_H × Nat × Nat) (hm : f_X2_init_37 n v0 s0 s1 h sz sl = some res) : hp_V G m_X2_init 37 [(0, .ref v0)] [.ref s0, .ref s1] h sz sl (none, res.1, res.2.1, res.2.2) := by
  have ho := mo_X2_init_37 hm
  unfold f_X2_init_37 at hm
  obtain ⟨h1, hh1, hm⟩ := hp_bd hm
  refine hv_putF lk_f_X2_22 (by intro C T N e; cases e; rfl) rfl dX2_init_37 rfl rfl hh1 ?_
  refine hv_aload_n 0 dX2_init_40 rfl rfl ?_
  refine hv_sipush (500 : Int32) dX2_init_41 (by decide) ?_
  have hq := mo_X2_init_46 hm
  refine hv_newI (N := 500) ac_int (by decide) (by decide) dX2_init_44 hq.1 hq.2 ?_
  exact hv_sub [0] rfl (q_X2_init_46 G n v0 sz v0 (hp_na h1 sz 0 500) (sz + 1) (sl + 500) _ hm)
def f_X2_init_28 (n : Nat) (v0 : Nat) (s0 : Nat) (s1 : Nat) (h : hp_H) (sz sl : Nat) : Option (hp_H × Nat × Nat) :=
  (hp_pF h 2 s1 2 (.ref s0)).bind fun h1 =>
  f_X2_init_37 n v0 sz v0 (hp_na h1 sz 0 500) (sz + 1) (sl + 500)
set_option maxHeartbeats 1000000 in
set_option maxRecDepth 4000 in
theorem mo_X2_init_28 {n : Nat} {v0 : Nat} {s0 : Nat} {s1 : Nat} {h : hp_H} {sz sl : Nat} {res : hp_H × Nat × Nat} (hm : f_X2_init_28 n v0 s0 s1 h sz sl = some res) : sz ≤ res.2.1 ∧ sl ≤ res.2.2 := by
  unfold f_X2_init_28 at hm
  obtain ⟨h1, hh1, hm⟩ := hp_bd hm
  exact hp_tr ⟨Nat.le_add_right _ _, Nat.le_add_right _ _⟩ (mo_X2_init_37 hm)
set_option maxHeartbeats 1000000 in
set_option maxRecDepth 4000 in
theorem q_X2_init_28 (G : hp_G) (n : Nat) (v0 : Nat) (s0 : Nat) (s1 : Nat) (h : hp_H) (sz sl : Nat) (res : hp_H × Nat × Nat) (hm : f_X2_init_28 n v0 s0 s1 h sz sl = some res) : hp_V G m_X2_init 28 [(0, .ref v0)] [.ref s0, .ref s1] h sz sl (none, res.1, res.2.1, res.2.2) := by
  have ho := mo_X2_init_28 hm
  unfold f_X2_init_28 at hm
  obtain ⟨h1, hh1, hm⟩ := hp_bd hm
  refine hv_putF lk_f_X2_19 (by intro C T N e; cases e; rfl) rfl dX2_init_28 rfl rfl hh1 ?_
  refine hv_aload_n 0 dX2_init_31 rfl rfl ?_
  refine hv_sipush (500 : Int32) dX2_init_32 (by decide) ?_
  have hq := mo_X2_init_37 hm
  refine hv_newI (N := 500) ac_int (by decide) (by decide) dX2_init_35 hq.1 hq.2 ?_
  exact hv_sub [0] rfl (q_X2_init_37 G n v0 sz v0 (hp_na h1 sz 0 500) (sz + 1) (sl + 500) _ hm)
def f_X2_init_19 (n : Nat) (v0 : Nat) (s0 : Nat) (s1 : Nat) (h : hp_H) (sz sl : Nat) : Option (hp_H × Nat × Nat) :=
  (hp_pF h 2 s1 1 (.ref s0)).bind fun h1 =>
  f_X2_init_28 n v0 sz v0 (hp_na h1 sz 0 500) (sz + 1) (sl + 500)
set_option maxHeartbeats 1000000 in
set_option maxRecDepth 4000 in
theorem mo_X2_init_19 {n : Nat} {v0 : Nat} {s0 : Nat} {s1 : Nat} {h : hp_H} {sz sl : Nat} {res : hp_H × Nat × Nat} (hm : f_X2_init_19 n v0 s0 s1 h sz sl = some res) : sz ≤ res.2.1 ∧ sl ≤ res.2.2 := by
  unfold f_X2_init_19 at hm
  obtain ⟨h1, hh1, hm⟩ := hp_bd hm
  exact hp_tr ⟨Nat.le_add_right _ _, Nat.le_add_right _ _⟩ (mo_X2_init_28 hm)
set_option maxHeartbeats 1000000 in
set_option maxRecDepth 4000 in
theorem q_X2_init_19 (G : hp_G) (n : Nat) (v0 : Nat) (s0 : Nat) (s1 : Nat) (h : hp_H) (sz sl : Nat) (res : hp_H × Nat × Nat) (hm : f_X2_init_19 n v0 s0 s1 h sz sl = some res) : hp_V G m_X2_init 19 [(0, .ref v0)] [.ref s0, .ref s1] h sz sl (none, res.1, res.2.1, res.2.2) := by
  have ho := mo_X2_init_19 hm
  unfold f_X2_init_19 at hm
  obtain ⟨h1, hh1, hm⟩ := hp_bd hm
  refine hv_putF lk_f_X2_15 (by intro C T N e; cases e; rfl) rfl dX2_init_19 rfl rfl hh1 ?_
  refine hv_aload_n 0 dX2_init_22 rfl rfl ?_
  refine hv_sipush (500 : Int32) dX2_init_23 (by decide) ?_
  have hq := mo_X2_init_28 hm
  refine hv_newI (N := 500) ac_int (by decide) (by decide) dX2_init_26 hq.1 hq.2 ?_
  exact hv_sub [0] rfl (q_X2_init_28 G n v0 sz v0 (hp_na h1 sz 0 500) (sz + 1) (sl + 500) _ hm)
def f_X2_init_10 (n : Nat) (v0 : Nat) (s0 : Nat) (s1 : Nat) (h : hp_H) (sz sl : Nat) : Option (hp_H × Nat × Nat) :=
  (hp_pF h 2 s1 0 (.ref s0)).bind fun h1 =>
  f_X2_init_19 n v0 sz v0 (hp_na h1 sz 0 256) (sz + 1) (sl + 256)
set_option maxHeartbeats 1000000 in
set_option maxRecDepth 4000 in
theorem mo_X2_init_10 {n : Nat} {v0 : Nat} {s0 : Nat} {s1 : Nat} {h : hp_H} {sz sl : Nat} {res : hp_H × Nat × Nat} (hm : f_X2_init_10 n v0 s0 s1 h sz sl = some res) : sz ≤ res.2.1 ∧ sl ≤ res.2.2 := by
  unfold f_X2_init_10 at hm
  obtain ⟨h1, hh1, hm⟩ := hp_bd hm
  exact hp_tr ⟨Nat.le_add_right _ _, Nat.le_add_right _ _⟩ (mo_X2_init_19 hm)
set_option maxHeartbeats 1000000 in
set_option maxRecDepth 4000 in
theorem q_X2_init_10 (G : hp_G) (n : Nat) (v0 : Nat) (s0 : Nat) (s1 : Nat) (h : hp_H) (sz sl : Nat) (res : hp_H × Nat × Nat) (hm : f_X2_init_10 n v0 s0 s1 h sz sl = some res) : hp_V G m_X2_init 10 [(0, .ref v0)] [.ref s0, .ref s1] h sz sl (none, res.1, res.2.1, res.2.2) := by
  have ho := mo_X2_init_10 hm
  unfold f_X2_init_10 at hm
  obtain ⟨h1, hh1, hm⟩ := hp_bd hm
  refine hv_putF lk_f_X2_9 (by intro C T N e; cases e; rfl) rfl dX2_init_10 rfl rfl hh1 ?_
  refine hv_aload_n 0 dX2_init_13 rfl rfl ?_
  refine hv_sipush (256 : Int32) dX2_init_14 (by decide) ?_
  have hq := mo_X2_init_19 hm
  refine hv_newI (N := 256) ac_int (by decide) (by decide) dX2_init_17 hq.1 hq.2 ?_
  exact hv_sub [0] rfl (q_X2_init_19 G n v0 sz v0 (hp_na h1 sz 0 256) (sz + 1) (sl + 256) _ hm)
def f_X2_init_0 (n : Nat) (v0 : Nat) (h : hp_H) (sz sl : Nat) : Option (hp_H × Nat × Nat) :=
  f_X2_init_10 n v0 sz v0 (hp_na h sz 1 8192) (sz + 1) (sl + 8192)
set_option maxHeartbeats 1000000 in
set_option maxRecDepth 4000 in
theorem mo_X2_init_0 {n : Nat} {v0 : Nat} {h : hp_H} {sz sl : Nat} {res : hp_H × Nat × Nat} (hm : f_X2_init_0 n v0 h sz sl = some res) : sz ≤ res.2.1 ∧ sl ≤ res.2.2 := by
  unfold f_X2_init_0 at hm
  exact hp_tr ⟨Nat.le_add_right _ _, Nat.le_add_right _ _⟩ (mo_X2_init_10 hm)
set_option maxHeartbeats 1000000 in
set_option maxRecDepth 4000 in
theorem q_X2_init_0 (G : hp_G) (n : Nat) (v0 : Nat) (h : hp_H) (sz sl : Nat) (res : hp_H × Nat × Nat) (hm : f_X2_init_0 n v0 h sz sl = some res) : hp_V G m_X2_init 0 [(0, .ref v0)] [] h sz sl (none, res.1, res.2.1, res.2.2) := by
  have ho := mo_X2_init_0 hm
  unfold f_X2_init_0 at hm
  refine hv_aload_n 0 dX2_init_0 rfl rfl ?_
  refine hv_objInit lk_o_X2_3 ⟨Nat.le_of_ble_eq_true rfl, Nat.le_of_ble_eq_true rfl⟩ dX2_init_1 ?_
  refine hv_aload_n 0 dX2_init_4 rfl rfl ?_
  refine hv_sipush (8192 : Int32) dX2_init_5 (by decide) ?_
  have hq := mo_X2_init_10 hm
  refine hv_newB (N := 8192) ac_byte (by decide) (by decide) dX2_init_8 hq.1 hq.2 ?_
  exact hv_sub [0] rfl (q_X2_init_10 G n v0 sz v0 (hp_na h sz 1 8192) (sz + 1) (sl + 8192) _ hm)
def f_X2_init (n : Nat) (v0 : Nat) (h : hp_H) (sz sl : Nat) : Option (hp_H × Nat × Nat) := (hp_ck h 2 v0).bind fun _ => f_X2_init_0 n v0 h sz sl
theorem c_X2_init (G : hp_G) (n : Nat) (v0 : Nat) (h : hp_H) (sz sl : Nat) (res : hp_H × Nat × Nat) (hm : f_X2_init n v0 h sz sl = some res) : hp_C G m_X2_init yX2_init [.ref v0] h sz sl (none, res.1, res.2.1, res.2.2) := by
  unfold f_X2_init at hm
  obtain ⟨_, _, hm⟩ := hp_bd hm
  exact hp_C_of (by decide) rfl rfl (Nat.le_of_ble_eq_true rfl) (mo_X2_init_0 hm).1 (mo_X2_init_0 hm).2 (hv_sub [0] rfl (q_X2_init_0 G n v0 h sz sl res hm))
theorem k_X2_init {n : Nat} {v0 : Nat} {h : hp_H} {sz sl : Nat} {res : hp_H × Nat × Nat} (hm : f_X2_init n v0 h sz sl = some res) : ∃ V, h v0 = some (.inr (.inr (2, V))) := by
  unfold f_X2_init at hm
  obtain ⟨_, hu, _⟩ := hp_bd hm
  exact hp_ck_spec hu
theorem mx_X2_init {n : Nat} {v0 : Nat} {h : hp_H} {sz sl : Nat} {res : hp_H × Nat × Nat} (hm : f_X2_init n v0 h sz sl = some res) : sz ≤ res.2.1 ∧ sl ≤ res.2.2 := by
  unfold f_X2_init at hm
  obtain ⟨_, _, hm⟩ := hp_bd hm
  exact mo_X2_init_0 hm
abbrev m_X2_clear : hp_M := (RX2, cX2_clear, 1, none, 1, 23, "clear")
theorem Z_X2_clear : hp_Y yX2_clear m_X2_clear 0 := Y_X2_clear
def f_X2_clear_0 (n : Nat) (v0 : Nat) (h : hp_H) : Option (hp_H) :=
  (hp_fR h 2 v0 1).bind fun x1 =>
  (f_J7_fill_53178 n x1 (-1 : Int32) h).bind fun x2 =>
  some x2
set_option maxHeartbeats 1000000 in
set_option maxRecDepth 4000 in
theorem q_X2_clear_0 (G : hp_G) (n : Nat) (v0 : Nat) (h : hp_H) (sz sl : Nat) (res : hp_H) (hm : f_X2_clear_0 n v0 h = some res) : hp_V G m_X2_clear 0 [(0, .ref v0)] [] h sz sl (none, res, sz, sl) := by
  have ho : sz ≤ sz ∧ sl ≤ sl := ⟨Nat.le_refl _, Nat.le_refl _⟩
  unfold f_X2_clear_0 at hm
  refine hv_aload_n 0 dX2_clear_0 rfl rfl ?_
  obtain ⟨x1, hx1, hm⟩ := hp_bd hm
  refine hv_get lk_f_X2_15 dX2_clear_1 (hp_fR_spec hx1) ?_
  refine hv_iconst (-1 : Int32) dX2_clear_4 (by decide) ?_
  obtain ⟨x2, hx2, hm⟩ := hp_bd hm
  refine hv_callS (As := [.ref x1, .int (-1 : Int32)]) (rest := []) Z_J7_fill_53178 I_J7_fill_53178 lk_m_X2_28 (c_J7_fill_53178 G n x1 (-1 : Int32) h sz sl _ hx2) rfl (Nat.le_of_ble_eq_true rfl) ⟨Nat.le_of_ble_eq_true rfl, Nat.le_of_ble_eq_true rfl⟩ ho.1 ho.2 rfl dX2_clear_5 ?_
  refine hv_as [] x2 rfl rfl ?_
  obtain rfl := Option.some.inj hm
  exact hv_vret rfl dX2_clear_8
def f_X2_clear (n : Nat) (v0 : Nat) (h : hp_H) : Option (hp_H) := (hp_ck h 2 v0).bind fun _ => f_X2_clear_0 n v0 h
theorem c_X2_clear (G : hp_G) (n : Nat) (v0 : Nat) (h : hp_H) (sz sl : Nat) (res : hp_H) (hm : f_X2_clear n v0 h = some res) : hp_C G m_X2_clear yX2_clear [.ref v0] h sz sl (none, res, sz, sl) := by
  unfold f_X2_clear at hm
  obtain ⟨_, _, hm⟩ := hp_bd hm
  exact hp_C_of (by decide) rfl rfl (Nat.le_of_ble_eq_true rfl) (Nat.le_refl _) (Nat.le_refl _) (hv_sub [0] rfl (q_X2_clear_0 G n v0 h sz sl res hm))
theorem k_X2_clear {n : Nat} {v0 : Nat} {h : hp_H} {res : hp_H} (hm : f_X2_clear n v0 h = some res) : ∃ V, h v0 = some (.inr (.inr (2, V))) := by
  unfold f_X2_clear at hm
  obtain ⟨_, hu, _⟩ := hp_bd hm
  exact hp_ck_spec hu
abbrev m_X2_headOf : hp_M := (RX2, cX2_headOf, 5, some .int, 0, 0, "headOf")
theorem Z_X2_headOf : hp_Y yX2_headOf m_X2_headOf 3 := Y_X2_headOf
def f_X2_headOf_5 (n : Nat) (v0 : Nat) (v1 : Int32) (v2 : Int32) (v3 : Int32) (v4 : Int32) (h : hp_H) : Option ((Int32 × Int32) ⊕ (Int32)) :=
  if v2 ≤ v4 then
    some (.inr v3)
  else
    (hp_aI h 1 v0 (v1 + v4)).bind fun x1 =>
    some (.inl ((((31 : Int32) * v3) + x1), (v4 + (1 : Int32))))
set_option maxHeartbeats 1000000 in
set_option maxRecDepth 4000 in
theorem q_X2_headOf_5 (G : hp_G) (n : Nat) (v0 : Nat) (v1 : Int32) (v2 : Int32) (v3 : Int32) (v4 : Int32) (h : hp_H) (sz sl : Nat) (o : hp_O) (ho : sz ≤ o.2.2.1 ∧ sl ≤ o.2.2.2) (res : (Int32 × Int32) ⊕ (Int32)) (hm : f_X2_headOf_5 n v0 v1 v2 v3 v4 h = some res) (kI : ∀ y : Int32 × Int32, res = .inl y → hp_V G m_X2_headOf 5 [(0, .ref v0), (1, .int v1), (2, .int v2), (3, .int y.1), (4, .int y.2)] [] h sz sl o) (kX0 : ∀ y : Int32, res = .inr y → hp_V G m_X2_headOf 29 [(3, .int y)] [] h sz sl o) : hp_V G m_X2_headOf 5 [(0, .ref v0), (1, .int v1), (2, .int v2), (3, .int v3), (4, .int v4)] [] h sz sl o := by
  unfold f_X2_headOf_5 at hm
  refine hv_iload 4 dX2_headOf_5 rfl ?_
  refine hv_iload_n 2 dX2_headOf_7 rfl rfl ?_
  refine hv_icmp_ge (tgt := 29) dX2_headOf_8 (by decide) (fun c2 => ?_) (fun c2 => ?_)
  · rw [if_pos c2] at hm
    exact hv_sub [3] rfl (kX0 v3 (Option.some.inj hm).symm)
  · rw [if_neg c2] at hm
    refine hv_bipush (31 : Int32) dX2_headOf_11 (by decide) ?_
    refine hv_iload_n 3 dX2_headOf_13 rfl rfl ?_
    refine hv_imul dX2_headOf_14 ?_
    refine hv_aload_n 0 dX2_headOf_15 rfl rfl ?_
    refine hv_iload_n 1 dX2_headOf_16 rfl rfl ?_
    refine hv_iload 4 dX2_headOf_17 rfl ?_
    refine hv_iadd dX2_headOf_19 ?_
    obtain ⟨x1, hx1, hm⟩ := hp_bd hm
    refine hv_bald dX2_headOf_20 hx1 ?_
    refine hv_iadd dX2_headOf_21 ?_
    refine hv_istore_n [(3, .int (((31 : Int32) * v3) + x1)), (0, .ref v0), (1, .int v1), (2, .int v2), (4, .int v4)] dX2_headOf_22 rfl (by decide) rfl ?_
    refine hv_iinc (v4 + (1 : Int32)) 4 [(4, .int (v4 + (1 : Int32))), (3, .int (((31 : Int32) * v3) + x1)), (0, .ref v0), (1, .int v1), (2, .int v2)] dX2_headOf_23 rfl rfl (by decide) rfl ?_
    refine hv_goto (tgt := 5) dX2_headOf_26 (by decide) ?_
    exact hv_sub [2, 3, 4, 1, 0] rfl (kI ((((31 : Int32) * v3) + x1), (v4 + (1 : Int32))) (Option.some.inj hm).symm)
def fL_X2_headOf_5 (n : Nat) (v0 : Nat) (v1 : Int32) (v2 : Int32) (h : hp_H) (s : Int32 × Int32) : Option ((Int32 × Int32) ⊕ (Int32)) := f_X2_headOf_5 n v0 v1 v2 s.1 s.2 h
theorem l_X2_headOf_5 (G : hp_G) (n : Nat) (v0 : Nat) (v1 : Int32) (v2 : Int32) (h : hp_H) (sz sl : Nat) (o : hp_O) (ho : sz ≤ o.2.2.1 ∧ sl ≤ o.2.2.2) : ∀ (k : Nat) (s : Int32 × Int32) (x : Int32), hp_lp (fL_X2_headOf_5 n v0 v1 v2 h) k s = some x → (∀ y : Int32, x = y → hp_V G m_X2_headOf 29 [(3, .int y)] [] h sz sl o) → hp_V G m_X2_headOf 5 [(0, .ref v0), (1, .int v1), (2, .int v2), (3, .int s.1), (4, .int s.2)] [] h sz sl o := by
  intro k
  induction k with
  | zero => intro s x hx; exact (hp_lp_0 hx).elim
  | succ k ih =>
    intro s x hx k0
    obtain ⟨r, hr, hc⟩ := hp_lp_1 hx
    refine q_X2_headOf_5 G n v0 v1 v2 s.1 s.2 h sz sl o ho r hr (fun s2 e => ?_) (fun y e => ?_)
    · rcases hc with ⟨s3, e3, hx3⟩ | e3
      · have e4 := Sum.inl.inj (e.symm.trans e3)
        subst e4
        exact ih _ _ hx3 k0
      · cases (e.symm.trans e3)
    · rcases hc with ⟨s3, e3, hx3⟩ | e3
      · cases (e.symm.trans e3)
      · exact k0 y (Sum.inr.inj (e3.symm.trans e))
def f_X2_headOf_0 (n : Nat) (v0 : Nat) (v1 : Int32) (v2 : Int32) (h : hp_H) : Option (Int32) :=
  (hp_lp (fL_X2_headOf_5 n v0 v1 v2 h) n (v2, (0 : Int32))).bind fun x1 =>
  some ((x1 ^^^ ((Int32.toUInt32 x1 >>> (Int32.toUInt32 (8 : Int32) &&& Int32.toUInt32 31)).toInt32)) &&& (255 : Int32))
set_option maxHeartbeats 1000000 in
set_option maxRecDepth 4000 in
theorem q_X2_headOf_0 (G : hp_G) (n : Nat) (v0 : Nat) (v1 : Int32) (v2 : Int32) (h : hp_H) (sz sl : Nat) (res : Int32) (hm : f_X2_headOf_0 n v0 v1 v2 h = some res) : hp_V G m_X2_headOf 0 [(0, .ref v0), (1, .int v1), (2, .int v2)] [] h sz sl (some (.int res), h, sz, sl) := by
  have ho : sz ≤ sz ∧ sl ≤ sl := ⟨Nat.le_refl _, Nat.le_refl _⟩
  unfold f_X2_headOf_0 at hm
  refine hv_iload_n 2 dX2_headOf_0 rfl rfl ?_
  refine hv_istore_n [(3, .int v2), (0, .ref v0), (1, .int v1), (2, .int v2)] dX2_headOf_1 rfl (by decide) rfl ?_
  refine hv_iconst (0 : Int32) dX2_headOf_2 (by decide) ?_
  refine hv_istore [(4, .int (0 : Int32)), (3, .int v2), (0, .ref v0), (1, .int v1), (2, .int v2)] dX2_headOf_3 (by decide) rfl ?_
  obtain ⟨x1, hx1, hm⟩ := hp_bd hm
  refine hv_sub [2, 3, 4, 1, 0] rfl (l_X2_headOf_5 G n v0 v1 v2 h sz sl _ ho n _ _ hx1 (fun y2 ey2 => ?_))
  · skip
    subst ey2
    refine hv_iload_n 0 dX2_headOf_29 rfl rfl ?_
    refine hv_iload_n 0 dX2_headOf_30 rfl rfl ?_
    refine hv_bipush (8 : Int32) dX2_headOf_31 (by decide) ?_
    refine hv_iushr dX2_headOf_33 ?_
    refine hv_ixor dX2_headOf_34 ?_
    refine hv_sipush (255 : Int32) dX2_headOf_35 (by decide) ?_
    refine hv_iand dX2_headOf_38 ?_
    obtain rfl := Option.some.inj hm
    exact hv_iret rfl dX2_headOf_39
def f_X2_headOf (n : Nat) (v0 : Nat) (v1 : Int32) (v2 : Int32) (h : hp_H) : Option (Int32) := f_X2_headOf_0 n v0 v1 v2 h
theorem c_X2_headOf (G : hp_G) (n : Nat) (v0 : Nat) (v1 : Int32) (v2 : Int32) (h : hp_H) (sz sl : Nat) (res : Int32) (hm : f_X2_headOf n v0 v1 v2 h = some res) : hp_C G m_X2_headOf yX2_headOf [.ref v0, .int v1, .int v2] h sz sl (some (.int res), h, sz, sl) := by
  unfold f_X2_headOf at hm
  exact hp_C_of (by decide) rfl rfl (Nat.le_of_ble_eq_true rfl) (Nat.le_refl _) (Nat.le_refl _) (hv_sub [0, 1, 2] rfl (q_X2_headOf_0 G n v0 v1 v2 h sz sl res hm))
abbrev m_X2_add : hp_M := (RX2, cX2_add, 5, none, 1, 24, "add")
theorem Z_X2_add : hp_Y yX2_add m_X2_add 3 := Y_X2_add
def f_X2_add_0 (n : Nat) (v0 : Nat) (v1 : Int32) (v2 : Int32) (v3 : Int32) (h : hp_H) : Option (hp_H) :=
  (hp_fR h 2 v0 0).bind fun x1 =>
  (f_X2_headOf n x1 v2 v3 h).bind fun x2 =>
  (hp_fR h 2 v0 3).bind fun x3 =>
  (hp_sI h 0 x3 v1 v2).bind fun h4 =>
  (hp_fR h4 2 v0 4).bind fun x5 =>
  (hp_sI h4 0 x5 v1 v3).bind fun h6 =>
  (hp_fR h6 2 v0 2).bind fun x7 =>
  (hp_fR h6 2 v0 1).bind fun x8 =>
  (hp_aI h6 0 x8 x2).bind fun x9 =>
  (hp_sI h6 0 x7 v1 x9).bind fun h10 =>
  (hp_fR h10 2 v0 1).bind fun x11 =>
  (hp_sI h10 0 x11 x2 v1).bind fun h12 =>
  some h12
set_option maxHeartbeats 1000000 in
set_option maxRecDepth 4000 in
theorem q_X2_add_0 (G : hp_G) (n : Nat) (v0 : Nat) (v1 : Int32) (v2 : Int32) (v3 : Int32) (h : hp_H) (sz sl : Nat) (res : hp_H) (hm : f_X2_add_0 n v0 v1 v2 v3 h = some res) : hp_V G m_X2_add 0 [(0, .ref v0), (1, .int v1), (2, .int v2), (3, .int v3)] [] h sz sl (none, res, sz, sl) := by
  have ho : sz ≤ sz ∧ sl ≤ sl := ⟨Nat.le_refl _, Nat.le_refl _⟩
  unfold f_X2_add_0 at hm
  refine hv_aload_n 0 dX2_add_0 rfl rfl ?_
  obtain ⟨x1, hx1, hm⟩ := hp_bd hm
  refine hv_get lk_f_X2_9 dX2_add_1 (hp_fR_spec hx1) ?_
  refine hv_iload_n 2 dX2_add_4 rfl rfl ?_
  refine hv_iload_n 3 dX2_add_5 rfl rfl ?_
  obtain ⟨x2, hx2, hm⟩ := hp_bd hm
  refine hv_callS (As := [.ref x1, .int v2, .int v3]) (rest := []) Z_X2_headOf I_X2_headOf lk_m_X2_34 (c_X2_headOf G n x1 v2 v3 h sz sl _ hx2) rfl (Nat.le_of_ble_eq_true rfl) ⟨Nat.le_of_ble_eq_true rfl, Nat.le_of_ble_eq_true rfl⟩ ho.1 ho.2 rfl dX2_add_6 ?_
  refine hv_as [.int x2] h rfl rfl ?_
  refine hv_istore [(4, .int x2), (0, .ref v0), (1, .int v1), (2, .int v2), (3, .int v3)] dX2_add_9 (by decide) rfl ?_
  refine hv_aload_n 1 dX2_add_11 rfl rfl ?_
  obtain ⟨x3, hx3, hm⟩ := hp_bd hm
  refine hv_get lk_f_X2_22 dX2_add_12 (hp_fR_spec hx3) ?_
  refine hv_iload_n 2 dX2_add_15 rfl rfl ?_
  refine hv_iload_n 3 dX2_add_16 rfl rfl ?_
  obtain ⟨h4, hh4, hm⟩ := hp_bd hm
  refine hv_iast dX2_add_17 hh4 ?_
  refine hv_aload_n 1 dX2_add_18 rfl rfl ?_
  obtain ⟨x5, hx5, hm⟩ := hp_bd hm
  refine hv_get lk_f_X2_25 dX2_add_19 (hp_fR_spec hx5) ?_
  refine hv_iload_n 2 dX2_add_22 rfl rfl ?_
  refine hv_iload_n 4 dX2_add_23 rfl rfl ?_
  obtain ⟨h6, hh6, hm⟩ := hp_bd hm
  refine hv_iast dX2_add_24 hh6 ?_
  refine hv_aload_n 1 dX2_add_25 rfl rfl ?_
  obtain ⟨x7, hx7, hm⟩ := hp_bd hm
  refine hv_get lk_f_X2_19 dX2_add_26 (hp_fR_spec hx7) ?_
  refine hv_iload_n 2 dX2_add_29 rfl rfl ?_
  refine hv_aload_n 1 dX2_add_30 rfl rfl ?_
  obtain ⟨x8, hx8, hm⟩ := hp_bd hm
  refine hv_get lk_f_X2_15 dX2_add_31 (hp_fR_spec hx8) ?_
  refine hv_iload 0 dX2_add_34 rfl ?_
  obtain ⟨x9, hx9, hm⟩ := hp_bd hm
  refine hv_iald dX2_add_36 hx9 ?_
  obtain ⟨h10, hh10, hm⟩ := hp_bd hm
  refine hv_iast dX2_add_37 hh10 ?_
  refine hv_aload_n 1 dX2_add_38 rfl rfl ?_
  obtain ⟨x11, hx11, hm⟩ := hp_bd hm
  refine hv_get lk_f_X2_15 dX2_add_39 (hp_fR_spec hx11) ?_
  refine hv_iload 0 dX2_add_42 rfl ?_
  refine hv_iload_n 2 dX2_add_44 rfl rfl ?_
  obtain ⟨h12, hh12, hm⟩ := hp_bd hm
  refine hv_iast dX2_add_45 hh12 ?_
  obtain rfl := Option.some.inj hm
  exact hv_vret rfl dX2_add_46
def f_X2_add (n : Nat) (v0 : Nat) (v1 : Int32) (v2 : Int32) (v3 : Int32) (h : hp_H) : Option (hp_H) := (hp_ck h 2 v0).bind fun _ => f_X2_add_0 n v0 v1 v2 v3 h
theorem c_X2_add (G : hp_G) (n : Nat) (v0 : Nat) (v1 : Int32) (v2 : Int32) (v3 : Int32) (h : hp_H) (sz sl : Nat) (res : hp_H) (hm : f_X2_add n v0 v1 v2 v3 h = some res) : hp_C G m_X2_add yX2_add [.ref v0, .int v1, .int v2, .int v3] h sz sl (none, res, sz, sl) := by
  unfold f_X2_add at hm
  obtain ⟨_, _, hm⟩ := hp_bd hm
  exact hp_C_of (by decide) rfl rfl (Nat.le_of_ble_eq_true rfl) (Nat.le_refl _) (Nat.le_refl _) (hv_sub [0, 1, 2, 3] rfl (q_X2_add_0 G n v0 v1 v2 v3 h sz sl res hm))
theorem k_X2_add {n : Nat} {v0 : Nat} {v1 : Int32} {v2 : Int32} {v3 : Int32} {h : hp_H} {res : hp_H} (hm : f_X2_add n v0 v1 v2 v3 h = some res) : ∃ V, h v0 = some (.inr (.inr (2, V))) := by
  unfold f_X2_add at hm
  obtain ⟨_, hu, _⟩ := hp_bd hm
  exact hp_ck_spec hu
abbrev m_X2_isSame : hp_M := (RX2, cX2_isSame, 5, some .boolean, 0, 0, "isSame")
theorem Z_X2_isSame : hp_Y yX2_isSame m_X2_isSame 3 := Y_X2_isSame
def f_X2_isSame_3 (n : Nat) (v0 : Nat) (v1 : Int32) (v2 : Nat) (v3 : Int32) (v4 : Int32) (h : hp_H) : Option ((Int32) ⊕ (Int32)) :=
  (hp_fR h 2 v0 4).bind fun x1 =>
  (hp_aI h 0 x1 v1).bind fun x2 =>
  if x2 ≤ v4 then
    some (.inr (1 : Int32))
  else
    (hp_fR h 2 v0 0).bind fun x3 =>
    (hp_fR h 2 v0 3).bind fun x4 =>
    (hp_aI h 0 x4 v1).bind fun x5 =>
    (hp_aI h 1 x3 (x5 + v4)).bind fun x6 =>
    (hp_aI h 1 v2 (v3 + v4)).bind fun x7 =>
    if x6 = x7 then
      some (.inl (v4 + (1 : Int32)))
    else
      some (.inr (0 : Int32))
set_option maxHeartbeats 1000000 in
set_option maxRecDepth 4000 in
theorem q_X2_isSame_3 (G : hp_G) (n : Nat) (v0 : Nat) (v1 : Int32) (v2 : Nat) (v3 : Int32) (v4 : Int32) (h : hp_H) (sz sl : Nat) (o : hp_O) (ho : sz ≤ o.2.2.1 ∧ sl ≤ o.2.2.2) (res : (Int32) ⊕ (Int32)) (hm : f_X2_isSame_3 n v0 v1 v2 v3 v4 h = some res) (kI : ∀ y : Int32, res = .inl y → hp_V G m_X2_isSame 3 [(0, .ref v0), (1, .int v1), (2, .ref v2), (3, .int v3), (4, .int y)] [] h sz sl o) (kR : ∀ y : Int32, res = .inr y → o = (some (.int y), h, sz, sl)) : hp_V G m_X2_isSame 3 [(0, .ref v0), (1, .int v1), (2, .ref v2), (3, .int v3), (4, .int v4)] [] h sz sl o := by
  unfold f_X2_isSame_3 at hm
  refine hv_iload 4 dX2_isSame_3 rfl ?_
  refine hv_aload_n 0 dX2_isSame_5 rfl rfl ?_
  obtain ⟨x1, hx1, hm⟩ := hp_bd hm
  refine hv_get lk_f_X2_25 dX2_isSame_6 (hp_fR_spec hx1) ?_
  refine hv_iload_n 1 dX2_isSame_9 rfl rfl ?_
  obtain ⟨x2, hx2, hm⟩ := hp_bd hm
  refine hv_iald dX2_isSame_10 hx2 ?_
  refine hv_icmp_ge (tgt := 45) dX2_isSame_11 (by decide) (fun c9 => ?_) (fun c9 => ?_)
  · rw [if_pos c9] at hm
    refine hv_iconst (1 : Int32) dX2_isSame_45 (by decide) ?_
    obtain rfl := kR _ (Option.some.inj hm).symm
    exact hv_zret rfl (by decide) dX2_isSame_46
  · rw [if_neg c9] at hm
    refine hv_aload_n 0 dX2_isSame_14 rfl rfl ?_
    obtain ⟨x3, hx3, hm⟩ := hp_bd hm
    refine hv_get lk_f_X2_9 dX2_isSame_15 (hp_fR_spec hx3) ?_
    refine hv_aload_n 0 dX2_isSame_18 rfl rfl ?_
    obtain ⟨x4, hx4, hm⟩ := hp_bd hm
    refine hv_get lk_f_X2_22 dX2_isSame_19 (hp_fR_spec hx4) ?_
    refine hv_iload_n 1 dX2_isSame_22 rfl rfl ?_
    obtain ⟨x5, hx5, hm⟩ := hp_bd hm
    refine hv_iald dX2_isSame_23 hx5 ?_
    refine hv_iload 4 dX2_isSame_24 rfl ?_
    refine hv_iadd dX2_isSame_26 ?_
    obtain ⟨x6, hx6, hm⟩ := hp_bd hm
    refine hv_bald dX2_isSame_27 hx6 ?_
    refine hv_aload_n 2 dX2_isSame_28 rfl rfl ?_
    refine hv_iload_n 3 dX2_isSame_29 rfl rfl ?_
    refine hv_iload 4 dX2_isSame_30 rfl ?_
    refine hv_iadd dX2_isSame_32 ?_
    obtain ⟨x7, hx7, hm⟩ := hp_bd hm
    refine hv_bald dX2_isSame_33 hx7 ?_
    refine hv_icmp_eq (tgt := 39) dX2_isSame_34 (by decide) (fun c8 => ?_) (fun c8 => ?_)
    · rw [if_pos c8] at hm
      refine hv_iinc (v4 + (1 : Int32)) 4 [(4, .int (v4 + (1 : Int32))), (0, .ref v0), (1, .int v1), (2, .ref v2), (3, .int v3)] dX2_isSame_39 rfl rfl (by decide) rfl ?_
      refine hv_goto (tgt := 3) dX2_isSame_42 (by decide) ?_
      exact hv_sub [1, 2, 3, 4, 0] rfl (kI (v4 + (1 : Int32)) (Option.some.inj hm).symm)
    · rw [if_neg c8] at hm
      refine hv_iconst (0 : Int32) dX2_isSame_37 (by decide) ?_
      obtain rfl := kR _ (Option.some.inj hm).symm
      exact hv_zret rfl (by decide) dX2_isSame_38
def fL_X2_isSame_3 (n : Nat) (v0 : Nat) (v1 : Int32) (v2 : Nat) (v3 : Int32) (h : hp_H) (s : Int32) : Option ((Int32) ⊕ (Int32)) := f_X2_isSame_3 n v0 v1 v2 v3 s h
theorem l_X2_isSame_3 (G : hp_G) (n : Nat) (v0 : Nat) (v1 : Int32) (v2 : Nat) (v3 : Int32) (h : hp_H) (sz sl : Nat) (o : hp_O) (ho : sz ≤ o.2.2.1 ∧ sl ≤ o.2.2.2) : ∀ (k : Nat) (s : Int32) (x : Int32), hp_lp (fL_X2_isSame_3 n v0 v1 v2 v3 h) k s = some x → (∀ y : Int32, x = y → o = (some (.int y), h, sz, sl)) → hp_V G m_X2_isSame 3 [(0, .ref v0), (1, .int v1), (2, .ref v2), (3, .int v3), (4, .int s)] [] h sz sl o := by
  intro k
  induction k with
  | zero => intro s x hx; exact (hp_lp_0 hx).elim
  | succ k ih =>
    intro s x hx k0
    obtain ⟨r, hr, hc⟩ := hp_lp_1 hx
    refine q_X2_isSame_3 G n v0 v1 v2 v3 s h sz sl o ho r hr (fun s2 e => ?_) (fun y e => ?_)
    · rcases hc with ⟨s3, e3, hx3⟩ | e3
      · have e4 := Sum.inl.inj (e.symm.trans e3)
        subst e4
        exact ih _ _ hx3 k0
      · cases (e.symm.trans e3)
    · rcases hc with ⟨s3, e3, hx3⟩ | e3
      · cases (e.symm.trans e3)
      · exact k0 y (Sum.inr.inj (e3.symm.trans e))
def f_X2_isSame_0 (n : Nat) (v0 : Nat) (v1 : Int32) (v2 : Nat) (v3 : Int32) (h : hp_H) : Option (Int32) :=
  (hp_lp (fL_X2_isSame_3 n v0 v1 v2 v3 h) n (0 : Int32)).bind fun x1 =>
  some x1
set_option maxHeartbeats 1000000 in
set_option maxRecDepth 4000 in
theorem q_X2_isSame_0 (G : hp_G) (n : Nat) (v0 : Nat) (v1 : Int32) (v2 : Nat) (v3 : Int32) (h : hp_H) (sz sl : Nat) (res : Int32) (hm : f_X2_isSame_0 n v0 v1 v2 v3 h = some res) : hp_V G m_X2_isSame 0 [(0, .ref v0), (1, .int v1), (2, .ref v2), (3, .int v3)] [] h sz sl (some (.int res), h, sz, sl) := by
  have ho : sz ≤ sz ∧ sl ≤ sl := ⟨Nat.le_refl _, Nat.le_refl _⟩
  unfold f_X2_isSame_0 at hm
  refine hv_iconst (0 : Int32) dX2_isSame_0 (by decide) ?_
  refine hv_istore [(4, .int (0 : Int32)), (0, .ref v0), (1, .int v1), (2, .ref v2), (3, .int v3)] dX2_isSame_1 (by decide) rfl ?_
  obtain ⟨x1, hx1, hm⟩ := hp_bd hm
  refine hv_sub [1, 2, 3, 4, 0] rfl (l_X2_isSame_3 G n v0 v1 v2 v3 h sz sl _ ho n _ _ hx1 (fun y2 ey2 => ?_))
  · skip
    subst ey2
    obtain rfl := Option.some.inj hm
    rfl
def f_X2_isSame (n : Nat) (v0 : Nat) (v1 : Int32) (v2 : Nat) (v3 : Int32) (h : hp_H) : Option (Int32) := (hp_ck h 2 v0).bind fun _ => f_X2_isSame_0 n v0 v1 v2 v3 h
theorem c_X2_isSame (G : hp_G) (n : Nat) (v0 : Nat) (v1 : Int32) (v2 : Nat) (v3 : Int32) (h : hp_H) (sz sl : Nat) (res : Int32) (hm : f_X2_isSame n v0 v1 v2 v3 h = some res) : hp_C G m_X2_isSame yX2_isSame [.ref v0, .int v1, .ref v2, .int v3] h sz sl (some (.int res), h, sz, sl) := by
  unfold f_X2_isSame at hm
  obtain ⟨_, _, hm⟩ := hp_bd hm
  exact hp_C_of (by decide) rfl rfl (Nat.le_of_ble_eq_true rfl) (Nat.le_refl _) (Nat.le_refl _) (hv_sub [0, 1, 2, 3] rfl (q_X2_isSame_0 G n v0 v1 v2 v3 h sz sl res hm))
theorem k_X2_isSame {n : Nat} {v0 : Nat} {v1 : Int32} {v2 : Nat} {v3 : Int32} {h : hp_H} {res : Int32} (hm : f_X2_isSame n v0 v1 v2 v3 h = some res) : ∃ V, h v0 = some (.inr (.inr (2, V))) := by
  unfold f_X2_isSame at hm
  obtain ⟨_, hu, _⟩ := hp_bd hm
  exact hp_ck_spec hu
abbrev m_X2_lookUp : hp_M := (RX2, cX2_lookUp, 6, some .int, 1, 24, "lookUp")
theorem Z_X2_lookUp : hp_Y yX2_lookUp m_X2_lookUp 3 := Y_X2_lookUp
def f_X2_lookUp_55 (n : Nat) (v0 : Nat) (v1 : Nat) (v2 : Int32) (v3 : Int32) (v4 : Int32) (v5 : Int32) (h : hp_H) : Option ((Int32 × Int32) ⊕ (Int32)) :=
  (hp_fR h 2 v0 2).bind fun x1 =>
  (hp_aI h 0 x1 v4).bind fun x2 =>
  some (.inl (x2, (v5 + (1 : Int32))))
set_option maxHeartbeats 1000000 in
set_option maxRecDepth 4000 in
theorem q_X2_lookUp_55 (G : hp_G) (n : Nat) (v0 : Nat) (v1 : Nat) (v2 : Int32) (v3 : Int32) (v4 : Int32) (v5 : Int32) (h : hp_H) (sz sl : Nat) (o : hp_O) (ho : sz ≤ o.2.2.1 ∧ sl ≤ o.2.2.2) (res : (Int32 × Int32) ⊕ (Int32)) (hm : f_X2_lookUp_55 n v0 v1 v2 v3 v4 v5 h = some res) (kI : ∀ y : Int32 × Int32, res = .inl y → hp_V G m_X2_lookUp 16 [(0, .ref v0), (1, .ref v1), (2, .int v2), (3, .int v3), (4, .int y.1), (5, .int y.2)] [] h sz sl o) (kR : ∀ y : Int32, res = .inr y → o = (some (.int y), h, sz, sl)) : hp_V G m_X2_lookUp 55 [(0, .ref v0), (1, .ref v1), (2, .int v2), (3, .int v3), (4, .int v4), (5, .int v5)] [] h sz sl o := by
  unfold f_X2_lookUp_55 at hm
  refine hv_aload_n 0 dX2_lookUp_55 rfl rfl ?_
  obtain ⟨x1, hx1, hm⟩ := hp_bd hm
  refine hv_get lk_f_X2_19 dX2_lookUp_56 (hp_fR_spec hx1) ?_
  refine hv_iload 4 dX2_lookUp_59 rfl ?_
  obtain ⟨x2, hx2, hm⟩ := hp_bd hm
  refine hv_iald dX2_lookUp_61 hx2 ?_
  refine hv_istore [(4, .int x2), (0, .ref v0), (1, .ref v1), (2, .int v2), (3, .int v3), (5, .int v5)] dX2_lookUp_62 (by decide) rfl ?_
  refine hv_iinc (v5 + (1 : Int32)) 5 [(5, .int (v5 + (1 : Int32))), (4, .int x2), (0, .ref v0), (1, .ref v1), (2, .int v2), (3, .int v3)] dX2_lookUp_64 rfl rfl (by decide) rfl ?_
  refine hv_goto (tgt := 16) dX2_lookUp_67 (by decide) ?_
  exact hv_sub [2, 3, 4, 5, 1, 0] rfl (kI (x2, (v5 + (1 : Int32))) (Option.some.inj hm).symm)
def f_X2_lookUp_16 (n : Nat) (v0 : Nat) (v1 : Nat) (v2 : Int32) (v3 : Int32) (v4 : Int32) (v5 : Int32) (h : hp_H) : Option ((Int32 × Int32) ⊕ (Int32)) :=
  if (500 : Int32) ≤ v5 then
    some (.inr (-1 : Int32))
  else
    if v4 = (-1 : Int32) then
      some (.inr (-1 : Int32))
    else
      (hp_fR h 2 v0 4).bind fun x1 =>
      (hp_aI h 0 x1 v4).bind fun x2 =>
      if x2 = v3 then
        (f_X2_isSame n v0 v4 v1 v2 h).bind fun x3 =>
        if x3 = 0 then
          f_X2_lookUp_55 n v0 v1 v2 v3 v4 v5 h
        else
          some (.inr v4)
      else
        f_X2_lookUp_55 n v0 v1 v2 v3 v4 v5 h
set_option maxHeartbeats 1000000 in
set_option maxRecDepth 4000 in
theorem q_X2_lookUp_16 (G : hp_G) (n : Nat) (v0 : Nat) (v1 : Nat) (v2 : Int32) (v3 : Int32) (v4 : Int32) (v5 : Int32) (h : hp_H) (sz sl : Nat) (o : hp_O) (ho : sz ≤ o.2.2.1 ∧ sl ≤ o.2.2.2) (res : (Int32 × Int32) ⊕ (Int32)) (hm : f_X2_lookUp_16 n v0 v1 v2 v3 v4 v5 h = some res) (kI : ∀ y : Int32 × Int32, res = .inl y → hp_V G m_X2_lookUp 16 [(0, .ref v0), (1, .ref v1), (2, .int v2), (3, .int v3), (4, .int y.1), (5, .int y.2)] [] h sz sl o) (kR : ∀ y : Int32, res = .inr y → o = (some (.int y), h, sz, sl)) : hp_V G m_X2_lookUp 16 [(0, .ref v0), (1, .ref v1), (2, .int v2), (3, .int v3), (4, .int v4), (5, .int v5)] [] h sz sl o := by
  unfold f_X2_lookUp_16 at hm
  refine hv_iload 5 dX2_lookUp_16 rfl ?_
  refine hv_sipush (500 : Int32) dX2_lookUp_18 (by decide) ?_
  refine hv_icmp_ge (tgt := 70) dX2_lookUp_21 (by decide) (fun c7 => ?_) (fun c7 => ?_)
  · rw [if_pos c7] at hm
    refine hv_iconst (-1 : Int32) dX2_lookUp_70 (by decide) ?_
    obtain rfl := kR _ (Option.some.inj hm).symm
    exact hv_iret rfl dX2_lookUp_71
  · rw [if_neg c7] at hm
    refine hv_iload 4 dX2_lookUp_24 rfl ?_
    refine hv_iconst (-1 : Int32) dX2_lookUp_26 (by decide) ?_
    refine hv_icmp_eq (tgt := 70) dX2_lookUp_27 (by decide) (fun c6 => ?_) (fun c6 => ?_)
    · rw [if_pos c6] at hm
      refine hv_iconst (-1 : Int32) dX2_lookUp_70 (by decide) ?_
      obtain rfl := kR _ (Option.some.inj hm).symm
      exact hv_iret rfl dX2_lookUp_71
    · rw [if_neg c6] at hm
      refine hv_aload_n 0 dX2_lookUp_30 rfl rfl ?_
      obtain ⟨x1, hx1, hm⟩ := hp_bd hm
      refine hv_get lk_f_X2_25 dX2_lookUp_31 (hp_fR_spec hx1) ?_
      refine hv_iload 4 dX2_lookUp_34 rfl ?_
      obtain ⟨x2, hx2, hm⟩ := hp_bd hm
      refine hv_iald dX2_lookUp_36 hx2 ?_
      refine hv_iload_n 3 dX2_lookUp_37 rfl rfl ?_
      refine hv_icmp_ne (tgt := 55) dX2_lookUp_38 (by decide) (fun c5 => ?_) (fun c5 => ?_)
      · rw [if_neg c5] at hm
        exact hv_sub [0, 1, 2, 3, 4, 5] rfl (q_X2_lookUp_55 G n v0 v1 v2 v3 v4 v5 h sz sl o ho _ hm kI kR)
      · rw [if_pos c5] at hm
        refine hv_aload_n 0 dX2_lookUp_41 rfl rfl ?_
        refine hv_iload 4 dX2_lookUp_42 rfl ?_
        refine hv_aload_n 1 dX2_lookUp_44 rfl rfl ?_
        refine hv_iload_n 2 dX2_lookUp_45 rfl rfl ?_
        obtain ⟨x3, hx3, hm⟩ := hp_bd hm
        obtain ⟨Vx3, hVx3⟩ := k_X2_isSame hx3
        refine hv_callV (As := [.int v4, .ref v1, .int v2]) (rest := []) Z_X2_isSame I_X2_isSame lk_m_X2_38 rfl hVx3 (c_X2_isSame G n v0 v4 v1 v2 h sz sl _ hx3) rfl (Nat.le_of_ble_eq_true rfl) ⟨Nat.le_of_ble_eq_true rfl, Nat.le_of_ble_eq_true rfl⟩ ho.1 ho.2 rfl dX2_lookUp_46 ?_
        refine hv_as [.int x3] h rfl rfl ?_
        refine hv_if_eq (tgt := 55) dX2_lookUp_49 (by decide) (fun c4 => ?_) (fun c4 => ?_)
        · rw [if_pos c4] at hm
          exact hv_sub [0, 1, 2, 3, 4, 5] rfl (q_X2_lookUp_55 G n v0 v1 v2 v3 v4 v5 h sz sl o ho _ hm kI kR)
        · rw [if_neg c4] at hm
          refine hv_iload 4 dX2_lookUp_52 rfl ?_
          obtain rfl := kR _ (Option.some.inj hm).symm
          exact hv_iret rfl dX2_lookUp_54
def fL_X2_lookUp_16 (n : Nat) (v0 : Nat) (v1 : Nat) (v2 : Int32) (v3 : Int32) (h : hp_H) (s : Int32 × Int32) : Option ((Int32 × Int32) ⊕ (Int32)) := f_X2_lookUp_16 n v0 v1 v2 v3 s.1 s.2 h
theorem l_X2_lookUp_16 (G : hp_G) (n : Nat) (v0 : Nat) (v1 : Nat) (v2 : Int32) (v3 : Int32) (h : hp_H) (sz sl : Nat) (o : hp_O) (ho : sz ≤ o.2.2.1 ∧ sl ≤ o.2.2.2) : ∀ (k : Nat) (s : Int32 × Int32) (x : Int32), hp_lp (fL_X2_lookUp_16 n v0 v1 v2 v3 h) k s = some x → (∀ y : Int32, x = y → o = (some (.int y), h, sz, sl)) → hp_V G m_X2_lookUp 16 [(0, .ref v0), (1, .ref v1), (2, .int v2), (3, .int v3), (4, .int s.1), (5, .int s.2)] [] h sz sl o := by
  intro k
  induction k with
  | zero => intro s x hx; exact (hp_lp_0 hx).elim
  | succ k ih =>
    intro s x hx k0
    obtain ⟨r, hr, hc⟩ := hp_lp_1 hx
    refine q_X2_lookUp_16 G n v0 v1 v2 v3 s.1 s.2 h sz sl o ho r hr (fun s2 e => ?_) (fun y e => ?_)
    · rcases hc with ⟨s3, e3, hx3⟩ | e3
      · have e4 := Sum.inl.inj (e.symm.trans e3)
        subst e4
        exact ih _ _ hx3 k0
      · cases (e.symm.trans e3)
    · rcases hc with ⟨s3, e3, hx3⟩ | e3
      · cases (e.symm.trans e3)
      · exact k0 y (Sum.inr.inj (e3.symm.trans e))
def f_X2_lookUp_0 (n : Nat) (v0 : Nat) (v1 : Nat) (v2 : Int32) (v3 : Int32) (h : hp_H) : Option (Int32) :=
  (hp_fR h 2 v0 1).bind fun x1 =>
  (f_X2_headOf n v1 v2 v3 h).bind fun x2 =>
  (hp_aI h 0 x1 x2).bind fun x3 =>
  (hp_lp (fL_X2_lookUp_16 n v0 v1 v2 v3 h) n (x3, (0 : Int32))).bind fun x4 =>
  some x4
set_option maxHeartbeats 1000000 in
set_option maxRecDepth 4000 in
theorem q_X2_lookUp_0 (G : hp_G) (n : Nat) (v0 : Nat) (v1 : Nat) (v2 : Int32) (v3 : Int32) (h : hp_H) (sz sl : Nat) (res : Int32) (hm : f_X2_lookUp_0 n v0 v1 v2 v3 h = some res) : hp_V G m_X2_lookUp 0 [(0, .ref v0), (1, .ref v1), (2, .int v2), (3, .int v3)] [] h sz sl (some (.int res), h, sz, sl) := by
  have ho : sz ≤ sz ∧ sl ≤ sl := ⟨Nat.le_refl _, Nat.le_refl _⟩
  unfold f_X2_lookUp_0 at hm
  refine hv_aload_n 0 dX2_lookUp_0 rfl rfl ?_
  obtain ⟨x1, hx1, hm⟩ := hp_bd hm
  refine hv_get lk_f_X2_15 dX2_lookUp_1 (hp_fR_spec hx1) ?_
  refine hv_aload_n 1 dX2_lookUp_4 rfl rfl ?_
  refine hv_iload_n 2 dX2_lookUp_5 rfl rfl ?_
  refine hv_iload_n 3 dX2_lookUp_6 rfl rfl ?_
  obtain ⟨x2, hx2, hm⟩ := hp_bd hm
  refine hv_callS (As := [.ref v1, .int v2, .int v3]) (rest := [.ref x1]) Z_X2_headOf I_X2_headOf lk_m_X2_34 (c_X2_headOf G n v1 v2 v3 h sz sl _ hx2) rfl (Nat.le_of_ble_eq_true rfl) ⟨Nat.le_of_ble_eq_true rfl, Nat.le_of_ble_eq_true rfl⟩ ho.1 ho.2 rfl dX2_lookUp_7 ?_
  refine hv_as [.int x2, .ref x1] h rfl rfl ?_
  obtain ⟨x3, hx3, hm⟩ := hp_bd hm
  refine hv_iald dX2_lookUp_10 hx3 ?_
  refine hv_istore [(4, .int x3), (0, .ref v0), (1, .ref v1), (2, .int v2), (3, .int v3)] dX2_lookUp_11 (by decide) rfl ?_
  refine hv_iconst (0 : Int32) dX2_lookUp_13 (by decide) ?_
  refine hv_istore [(5, .int (0 : Int32)), (4, .int x3), (0, .ref v0), (1, .ref v1), (2, .int v2), (3, .int v3)] dX2_lookUp_14 (by decide) rfl ?_
  obtain ⟨x4, hx4, hm⟩ := hp_bd hm
  refine hv_sub [2, 3, 4, 5, 1, 0] rfl (l_X2_lookUp_16 G n v0 v1 v2 v3 h sz sl _ ho n _ _ hx4 (fun y5 ey5 => ?_))
  · skip
    subst ey5
    obtain rfl := Option.some.inj hm
    rfl
def f_X2_lookUp (n : Nat) (v0 : Nat) (v1 : Nat) (v2 : Int32) (v3 : Int32) (h : hp_H) : Option (Int32) := (hp_ck h 2 v0).bind fun _ => f_X2_lookUp_0 n v0 v1 v2 v3 h
theorem c_X2_lookUp (G : hp_G) (n : Nat) (v0 : Nat) (v1 : Nat) (v2 : Int32) (v3 : Int32) (h : hp_H) (sz sl : Nat) (res : Int32) (hm : f_X2_lookUp n v0 v1 v2 v3 h = some res) : hp_C G m_X2_lookUp yX2_lookUp [.ref v0, .ref v1, .int v2, .int v3] h sz sl (some (.int res), h, sz, sl) := by
  unfold f_X2_lookUp at hm
  obtain ⟨_, _, hm⟩ := hp_bd hm
  exact hp_C_of (by decide) rfl rfl (Nat.le_of_ble_eq_true rfl) (Nat.le_refl _) (Nat.le_refl _) (hv_sub [0, 1, 2, 3] rfl (q_X2_lookUp_0 G n v0 v1 v2 v3 h sz sl res hm))
theorem k_X2_lookUp {n : Nat} {v0 : Nat} {v1 : Nat} {v2 : Int32} {v3 : Int32} {h : hp_H} {res : Int32} (hm : f_X2_lookUp n v0 v1 v2 v3 h = some res) : ∃ V, h v0 = some (.inr (.inr (2, V))) := by
  unfold f_X2_lookUp at hm
  obtain ⟨_, hu, _⟩ := hp_bd hm
  exact hp_ck_spec hu
abbrev m_X2_byteOf : hp_M := (RX2, cX2_byteOf, 3, some .int, 0, 0, "byteOf")
theorem Z_X2_byteOf : hp_Y yX2_byteOf m_X2_byteOf 2 := Y_X2_byteOf
def f_X2_byteOf_0 (n : Nat) (v0 : Nat) (v1 : Int32) (v2 : Int32) (h : hp_H) : Option (Int32) :=
  if v2 < 0 then
    some (-1 : Int32)
  else
    (hp_fR h 2 v0 4).bind fun x1 =>
    (hp_aI h 0 x1 v1).bind fun x2 =>
    if x2 ≤ v2 then
      some (-1 : Int32)
    else
      (hp_fR h 2 v0 0).bind fun x3 =>
      (hp_fR h 2 v0 3).bind fun x4 =>
      (hp_aI h 0 x4 v1).bind fun x5 =>
      (hp_aI h 1 x3 (x5 + v2)).bind fun x6 =>
      some x6
set_option maxHeartbeats 1000000 in
set_option maxRecDepth 4000 in
theorem q_X2_byteOf_0 (G : hp_G) (n : Nat) (v0 : Nat) (v1 : Int32) (v2 : Int32) (h : hp_H) (sz sl : Nat) (res : Int32) (hm : f_X2_byteOf_0 n v0 v1 v2 h = some res) : hp_V G m_X2_byteOf 0 [(0, .ref v0), (1, .int v1), (2, .int v2)] [] h sz sl (some (.int res), h, sz, sl) := by
  have ho : sz ≤ sz ∧ sl ≤ sl := ⟨Nat.le_refl _, Nat.le_refl _⟩
  unfold f_X2_byteOf_0 at hm
  refine hv_iload_n 2 dX2_byteOf_0 rfl rfl ?_
  refine hv_if_lt (tgt := 30) dX2_byteOf_1 (by decide) (fun c8 => ?_) (fun c8 => ?_)
  · rw [if_pos c8] at hm
    refine hv_iconst (-1 : Int32) dX2_byteOf_30 (by decide) ?_
    obtain rfl := Option.some.inj hm
    exact hv_iret rfl dX2_byteOf_31
  · rw [if_neg c8] at hm
    refine hv_iload_n 2 dX2_byteOf_4 rfl rfl ?_
    refine hv_aload_n 0 dX2_byteOf_5 rfl rfl ?_
    obtain ⟨x1, hx1, hm⟩ := hp_bd hm
    refine hv_get lk_f_X2_25 dX2_byteOf_6 (hp_fR_spec hx1) ?_
    refine hv_iload_n 1 dX2_byteOf_9 rfl rfl ?_
    obtain ⟨x2, hx2, hm⟩ := hp_bd hm
    refine hv_iald dX2_byteOf_10 hx2 ?_
    refine hv_icmp_ge (tgt := 30) dX2_byteOf_11 (by decide) (fun c7 => ?_) (fun c7 => ?_)
    · rw [if_pos c7] at hm
      refine hv_iconst (-1 : Int32) dX2_byteOf_30 (by decide) ?_
      obtain rfl := Option.some.inj hm
      exact hv_iret rfl dX2_byteOf_31
    · rw [if_neg c7] at hm
      refine hv_aload_n 0 dX2_byteOf_14 rfl rfl ?_
      obtain ⟨x3, hx3, hm⟩ := hp_bd hm
      refine hv_get lk_f_X2_9 dX2_byteOf_15 (hp_fR_spec hx3) ?_
      refine hv_aload_n 0 dX2_byteOf_18 rfl rfl ?_
      obtain ⟨x4, hx4, hm⟩ := hp_bd hm
      refine hv_get lk_f_X2_22 dX2_byteOf_19 (hp_fR_spec hx4) ?_
      refine hv_iload_n 1 dX2_byteOf_22 rfl rfl ?_
      obtain ⟨x5, hx5, hm⟩ := hp_bd hm
      refine hv_iald dX2_byteOf_23 hx5 ?_
      refine hv_iload_n 2 dX2_byteOf_24 rfl rfl ?_
      refine hv_iadd dX2_byteOf_25 ?_
      obtain ⟨x6, hx6, hm⟩ := hp_bd hm
      refine hv_bald dX2_byteOf_26 hx6 ?_
      refine hv_goto (tgt := 31) dX2_byteOf_27 (by decide) ?_
      obtain rfl := Option.some.inj hm
      exact hv_iret rfl dX2_byteOf_31
def f_X2_byteOf (n : Nat) (v0 : Nat) (v1 : Int32) (v2 : Int32) (h : hp_H) : Option (Int32) := (hp_ck h 2 v0).bind fun _ => f_X2_byteOf_0 n v0 v1 v2 h
theorem c_X2_byteOf (G : hp_G) (n : Nat) (v0 : Nat) (v1 : Int32) (v2 : Int32) (h : hp_H) (sz sl : Nat) (res : Int32) (hm : f_X2_byteOf n v0 v1 v2 h = some res) : hp_C G m_X2_byteOf yX2_byteOf [.ref v0, .int v1, .int v2] h sz sl (some (.int res), h, sz, sl) := by
  unfold f_X2_byteOf at hm
  obtain ⟨_, _, hm⟩ := hp_bd hm
  exact hp_C_of (by decide) rfl rfl (Nat.le_of_ble_eq_true rfl) (Nat.le_refl _) (Nat.le_refl _) (hv_sub [0, 1, 2] rfl (q_X2_byteOf_0 G n v0 v1 v2 h sz sl res hm))
theorem k_X2_byteOf {n : Nat} {v0 : Nat} {v1 : Int32} {v2 : Int32} {h : hp_H} {res : Int32} (hm : f_X2_byteOf n v0 v1 v2 h = some res) : ∃ V, h v0 = some (.inr (.inr (2, V))) := by
  unfold f_X2_byteOf at hm
  obtain ⟨_, hu, _⟩ := hp_bd hm
  exact hp_ck_spec hu
abbrev m_X2_lengthOf : hp_M := (RX2, cX2_lengthOf, 2, some .int, 0, 0, "lengthOf")
theorem Z_X2_lengthOf : hp_Y yX2_lengthOf m_X2_lengthOf 1 := Y_X2_lengthOf
def f_X2_lengthOf_0 (n : Nat) (v0 : Nat) (v1 : Int32) (h : hp_H) : Option (Int32) :=
  (hp_fR h 2 v0 4).bind fun x1 =>
  (hp_aI h 0 x1 v1).bind fun x2 =>
  some x2
set_option maxHeartbeats 1000000 in
set_option maxRecDepth 4000 in
theorem q_X2_lengthOf_0 (G : hp_G) (n : Nat) (v0 : Nat) (v1 : Int32) (h : hp_H) (sz sl : Nat) (res : Int32) (hm : f_X2_lengthOf_0 n v0 v1 h = some res) : hp_V G m_X2_lengthOf 0 [(0, .ref v0), (1, .int v1)] [] h sz sl (some (.int res), h, sz, sl) := by
  have ho : sz ≤ sz ∧ sl ≤ sl := ⟨Nat.le_refl _, Nat.le_refl _⟩
  unfold f_X2_lengthOf_0 at hm
  refine hv_aload_n 0 dX2_lengthOf_0 rfl rfl ?_
  obtain ⟨x1, hx1, hm⟩ := hp_bd hm
  refine hv_get lk_f_X2_25 dX2_lengthOf_1 (hp_fR_spec hx1) ?_
  refine hv_iload_n 1 dX2_lengthOf_4 rfl rfl ?_
  obtain ⟨x2, hx2, hm⟩ := hp_bd hm
  refine hv_iald dX2_lengthOf_5 hx2 ?_
  obtain rfl := Option.some.inj hm
  exact hv_iret rfl dX2_lengthOf_6
def f_X2_lengthOf (n : Nat) (v0 : Nat) (v1 : Int32) (h : hp_H) : Option (Int32) := (hp_ck h 2 v0).bind fun _ => f_X2_lengthOf_0 n v0 v1 h
theorem c_X2_lengthOf (G : hp_G) (n : Nat) (v0 : Nat) (v1 : Int32) (h : hp_H) (sz sl : Nat) (res : Int32) (hm : f_X2_lengthOf n v0 v1 h = some res) : hp_C G m_X2_lengthOf yX2_lengthOf [.ref v0, .int v1] h sz sl (some (.int res), h, sz, sl) := by
  unfold f_X2_lengthOf at hm
  obtain ⟨_, _, hm⟩ := hp_bd hm
  exact hp_C_of (by decide) rfl rfl (Nat.le_of_ble_eq_true rfl) (Nat.le_refl _) (Nat.le_refl _) (hv_sub [0, 1] rfl (q_X2_lengthOf_0 G n v0 v1 h sz sl res hm))
theorem k_X2_lengthOf {n : Nat} {v0 : Nat} {v1 : Int32} {h : hp_H} {res : Int32} (hm : f_X2_lengthOf n v0 v1 h = some res) : ∃ V, h v0 = some (.inr (.inr (2, V))) := by
  unfold f_X2_lengthOf at hm
  obtain ⟨_, hu, _⟩ := hp_bd hm
  exact hp_ck_spec hu
