abbrev m_X5_init : hp_M := (RX5, cX5_init, 2, none, 1, 30, "<init>")
theorem Z_X5_init : hp_Y yX5_init m_X5_init 1 := Y_X5_init
def f_X5_init_18 (n : Nat)  (s0 : Nat) (s1 : Nat) (h : hp_H) (sz sl : Nat) : Option (hp_H × Nat × Nat) :=
  (hp_pF h 5 s1 1 (.ref s0)).bind fun h1 =>
  some (h1, sz, sl)
set_option maxHeartbeats 1000000 in
set_option maxRecDepth 4000 in
theorem mo_X5_init_18 {n : Nat}  {s0 : Nat} {s1 : Nat} {h : hp_H} {sz sl : Nat} {res : hp_H × Nat × Nat} (hm : f_X5_init_18 n s0 s1 h sz sl = some res) : sz ≤ res.2.1 ∧ sl ≤ res.2.2 := by
  unfold f_X5_init_18 at hm
  obtain ⟨h1, hh1, hm⟩ := hp_bd hm
  obtain rfl := Option.some.inj hm
  exact ⟨Nat.le_refl _, Nat.le_refl _⟩
set_option maxHeartbeats 1000000 in
set_option maxRecDepth 4000 in
theorem q_X5_init_18 (G : hp_G) (n : Nat)  (s0 : Nat) (s1 : Nat) (h : hp_H) (sz sl : Nat) (res : hp_H × Nat × Nat) (hm : f_X5_init_18 n s0 s1 h sz sl = some res) : hp_V G m_X5_init 18 [] [.ref s0, .ref s1] h sz sl (none, res.1, res.2.1, res.2.2) := by
  have ho := mo_X5_init_18 hm
  unfold f_X5_init_18 at hm
  obtain ⟨h1, hh1, hm⟩ := hp_bd hm
  refine hv_putF lk_f_X5_15 (by intro C T N e; cases e; rfl) rfl dX5_init_18 rfl rfl hh1 ?_
  obtain rfl := Option.some.inj hm
  exact hv_vret rfl dX5_init_21
def f_X5_init_9 (n : Nat) (v0 : Nat) (v1 : Int32) (s0 : Nat) (s1 : Nat) (h : hp_H) (sz sl : Nat) : Option (hp_H × Nat × Nat) :=
  (hp_pF h 5 s1 0 (.ref s0)).bind fun h1 =>
  (hp_cnt (v1 + (1 : Int32))).bind fun N2 =>
  f_X5_init_18 n sz v0 (hp_na h1 sz 0 N2) (sz + 1) (sl + N2)
set_option maxHeartbeats 1000000 in
set_option maxRecDepth 4000 in
theorem mo_X5_init_9 {n : Nat} {v0 : Nat} {v1 : Int32} {s0 : Nat} {s1 : Nat} {h : hp_H} {sz sl : Nat} {res : hp_H × Nat × Nat} (hm : f_X5_init_9 n v0 v1 s0 s1 h sz sl = some res) : sz ≤ res.2.1 ∧ sl ≤ res.2.2 := by
  unfold f_X5_init_9 at hm
  obtain ⟨h1, hh1, hm⟩ := hp_bd hm
  obtain ⟨N2, hN2, hm⟩ := hp_bd hm
  exact hp_tr ⟨Nat.le_add_right _ _, Nat.le_add_right _ _⟩ (mo_X5_init_18 hm)
set_option maxHeartbeats 1000000 in
set_option maxRecDepth 4000 in
theorem q_X5_init_9 (G : hp_G) (n : Nat) (v0 : Nat) (v1 : Int32) (s0 : Nat) (s1 : Nat) (h : hp_H) (sz sl : Nat) (res : hp_H × Nat × Nat) (hm : f_X5_init_9 n v0 v1 s0 s1 h sz sl = some res) : hp_V G m_X5_init 9 [(0, .ref v0), (1, .int v1)] [.ref s0, .ref s1] h sz sl (none, res.1, res.2.1, res.2.2) := by
  have ho := mo_X5_init_9 hm
  unfold f_X5_init_9 at hm
  obtain ⟨h1, hh1, hm⟩ := hp_bd hm
  refine hv_put lk_f_X5_9 dX5_init_9 rfl rfl hh1 ?_
  refine hv_aload_n 0 dX5_init_12 rfl rfl ?_
  refine hv_iload_n 1 dX5_init_13 rfl rfl ?_
  refine hv_iconst (1 : Int32) dX5_init_14 (by decide) ?_
  refine hv_iadd dX5_init_15 ?_
  obtain ⟨N2, hN2, hm⟩ := hp_bd hm
  have hq := mo_X5_init_18 hm
  refine hv_newI (N := N2) ac_int (hp_cnt_spec hN2).1 (hp_cnt_spec hN2).2 dX5_init_16 hq.1 hq.2 ?_
  exact hv_sub [] rfl (q_X5_init_18 G n sz v0 (hp_na h1 sz 0 N2) (sz + 1) (sl + N2) _ hm)
def f_X5_init_0 (n : Nat) (v0 : Nat) (v1 : Int32) (h : hp_H) (sz sl : Nat) : Option (hp_H × Nat × Nat) :=
  f_X5_init_9 n v0 v1 sz v0 (hp_na h sz 0 64) (sz + 1) (sl + 64)
set_option maxHeartbeats 1000000 in
set_option maxRecDepth 4000 in
theorem mo_X5_init_0 {n : Nat} {v0 : Nat} {v1 : Int32} {h : hp_H} {sz sl : Nat} {res : hp_H × Nat × Nat} (hm : f_X5_init_0 n v0 v1 h sz sl = some res) : sz ≤ res.2.1 ∧ sl ≤ res.2.2 := by
  unfold f_X5_init_0 at hm
  exact hp_tr ⟨Nat.le_add_right _ _, Nat.le_add_right _ _⟩ (mo_X5_init_9 hm)
set_option maxHeartbeats 1000000 in
set_option maxRecDepth 4000 in
theorem q_X5_init_0 (G : hp_G) (n : Nat) (v0 : Nat) (v1 : Int32) (h : hp_H) (sz sl : Nat) (res : hp_H × Nat × Nat) (hm : f_X5_init_0 n v0 v1 h sz sl = some res) : hp_V G m_X5_init 0 [(0, .ref v0), (1, .int v1)] [] h sz sl (none, res.1, res.2.1, res.2.2) := by
  have ho := mo_X5_init_0 hm
  unfold f_X5_init_0 at hm
  refine hv_aload_n 0 dX5_init_0 rfl rfl ?_
  refine hv_objInit lk_o_X5_3 ⟨Nat.le_of_ble_eq_true rfl, Nat.le_of_ble_eq_true rfl⟩ dX5_init_1 ?_
  refine hv_aload_n 0 dX5_init_4 rfl rfl ?_
  refine hv_bipush (64 : Int32) dX5_init_5 (by decide) ?_
  have hq := mo_X5_init_9 hm
  refine hv_newI (N := 64) ac_int (by decide) (by decide) dX5_init_7 hq.1 hq.2 ?_
  exact hv_sub [0, 1] rfl (q_X5_init_9 G n v0 v1 sz v0 (hp_na h sz 0 64) (sz + 1) (sl + 64) _ hm)
def f_X5_init (n : Nat) (v0 : Nat) (v1 : Int32) (h : hp_H) (sz sl : Nat) : Option (hp_H × Nat × Nat) := (hp_ck h 5 v0).bind fun _ => f_X5_init_0 n v0 v1 h sz sl
theorem c_X5_init (G : hp_G) (n : Nat) (v0 : Nat) (v1 : Int32) (h : hp_H) (sz sl : Nat) (res : hp_H × Nat × Nat) (hm : f_X5_init n v0 v1 h sz sl = some res) : hp_C G m_X5_init yX5_init [.ref v0, .int v1] h sz sl (none, res.1, res.2.1, res.2.2) := by
  unfold f_X5_init at hm
  obtain ⟨_, _, hm⟩ := hp_bd hm
  exact hp_C_of (by decide) rfl rfl (Nat.le_of_ble_eq_true rfl) (mo_X5_init_0 hm).1 (mo_X5_init_0 hm).2 (hv_sub [0, 1] rfl (q_X5_init_0 G n v0 v1 h sz sl res hm))
theorem k_X5_init {n : Nat} {v0 : Nat} {v1 : Int32} {h : hp_H} {sz sl : Nat} {res : hp_H × Nat × Nat} (hm : f_X5_init n v0 v1 h sz sl = some res) : ∃ V, h v0 = some (.inr (.inr (5, V))) := by
  unfold f_X5_init at hm
  obtain ⟨_, hu, _⟩ := hp_bd hm
  exact hp_ck_spec hu
theorem mx_X5_init {n : Nat} {v0 : Nat} {v1 : Int32} {h : hp_H} {sz sl : Nat} {res : hp_H × Nat × Nat} (hm : f_X5_init n v0 v1 h sz sl = some res) : sz ≤ res.2.1 ∧ sl ≤ res.2.2 := by
  unfold f_X5_init at hm
  obtain ⟨_, _, hm⟩ := hp_bd hm
  exact mo_X5_init_0 hm
abbrev m_X5_clear : hp_M := (RX5, cX5_clear, 1, none, 0, 0, "clear")
theorem Z_X5_clear : hp_Y yX5_clear m_X5_clear 0 := Y_X5_clear
def f_X5_clear_0 (n : Nat) (v0 : Nat) (h : hp_H) : Option (hp_H) :=
  (hp_pF h 5 v0 3 (.int (0 : Int32))).bind fun h1 =>
  (hp_pF h1 5 v0 2 (.int (0 : Int32))).bind fun h2 =>
  some h2
set_option maxHeartbeats 1000000 in
set_option maxRecDepth 4000 in
theorem q_X5_clear_0 (G : hp_G) (n : Nat) (v0 : Nat) (h : hp_H) (sz sl : Nat) (res : hp_H) (hm : f_X5_clear_0 n v0 h = some res) : hp_V G m_X5_clear 0 [(0, .ref v0)] [] h sz sl (none, res, sz, sl) := by
  have ho : sz ≤ sz ∧ sl ≤ sl := ⟨Nat.le_refl _, Nat.le_refl _⟩
  unfold f_X5_clear_0 at hm
  refine hv_aload_n 0 dX5_clear_0 rfl rfl ?_
  refine hv_iconst (0 : Int32) dX5_clear_1 (by decide) ?_
  obtain ⟨h1, hh1, hm⟩ := hp_bd hm
  refine hv_put lk_f_X5_18 dX5_clear_2 rfl rfl hh1 ?_
  refine hv_aload_n 0 dX5_clear_5 rfl rfl ?_
  refine hv_iconst (0 : Int32) dX5_clear_6 (by decide) ?_
  obtain ⟨h2, hh2, hm⟩ := hp_bd hm
  refine hv_put lk_f_X5_22 dX5_clear_7 rfl rfl hh2 ?_
  obtain rfl := Option.some.inj hm
  exact hv_vret rfl dX5_clear_10
def f_X5_clear (n : Nat) (v0 : Nat) (h : hp_H) : Option (hp_H) := (hp_ck h 5 v0).bind fun _ => f_X5_clear_0 n v0 h
theorem c_X5_clear (G : hp_G) (n : Nat) (v0 : Nat) (h : hp_H) (sz sl : Nat) (res : hp_H) (hm : f_X5_clear n v0 h = some res) : hp_C G m_X5_clear yX5_clear [.ref v0] h sz sl (none, res, sz, sl) := by
  unfold f_X5_clear at hm
  obtain ⟨_, _, hm⟩ := hp_bd hm
  exact hp_C_of (by decide) rfl rfl (Nat.le_of_ble_eq_true rfl) (Nat.le_refl _) (Nat.le_refl _) (hv_sub [0] rfl (q_X5_clear_0 G n v0 h sz sl res hm))
theorem k_X5_clear {n : Nat} {v0 : Nat} {h : hp_H} {res : hp_H} (hm : f_X5_clear n v0 h = some res) : ∃ V, h v0 = some (.inr (.inr (5, V))) := by
  unfold f_X5_clear at hm
  obtain ⟨_, hu, _⟩ := hp_bd hm
  exact hp_ck_spec hu
abbrev m_X5_get : hp_M := (RX5, cX5_get, 3, some .int, 0, 0, "get")
theorem Z_X5_get : hp_Y yX5_get m_X5_get 2 := Y_X5_get
def f_X5_get_0 (n : Nat) (v0 : Nat) (v1 : Int32) (v2 : Int32) (h : hp_H) : Option (Int32) :=
  if v1 < 0 then
    some (-1 : Int32)
  else
    (hp_fI h 5 v0 3).bind fun x1 =>
    if x1 ≤ v1 then
      some (-1 : Int32)
    else
      if v2 < 0 then
        some (-1 : Int32)
      else
        (hp_fR h 5 v0 1).bind fun x2 =>
        (hp_aI h 0 x2 (v1 + (1 : Int32))).bind fun x3 =>
        (hp_fR h 5 v0 1).bind fun x4 =>
        (hp_aI h 0 x4 v1).bind fun x5 =>
        if v2 < (x3 - x5) then
          (hp_fR h 5 v0 0).bind fun x6 =>
          (hp_fR h 5 v0 1).bind fun x7 =>
          (hp_aI h 0 x7 v1).bind fun x8 =>
          (hp_aI h 0 x6 (x8 + v2)).bind fun x9 =>
          some x9
        else
          some (-1 : Int32)
set_option maxHeartbeats 1000000 in
set_option maxRecDepth 4000 in
theorem q_X5_get_0 (G : hp_G) (n : Nat) (v0 : Nat) (v1 : Int32) (v2 : Int32) (h : hp_H) (sz sl : Nat) (res : Int32) (hm : f_X5_get_0 n v0 v1 v2 h = some res) : hp_V G m_X5_get 0 [(0, .ref v0), (1, .int v1), (2, .int v2)] [] h sz sl (some (.int res), h, sz, sl) := by
  have ho : sz ≤ sz ∧ sl ≤ sl := ⟨Nat.le_refl _, Nat.le_refl _⟩
  unfold f_X5_get_0 at hm
  refine hv_iload_n 1 dX5_get_0 rfl rfl ?_
  refine hv_if_lt (tgt := 35) dX5_get_1 (by decide) (fun c13 => ?_) (fun c13 => ?_)
  · rw [if_pos c13] at hm
    refine hv_iconst (-1 : Int32) dX5_get_35 (by decide) ?_
    obtain rfl := Option.some.inj hm
    exact hv_iret rfl dX5_get_36
  · rw [if_neg c13] at hm
    refine hv_iload_n 1 dX5_get_4 rfl rfl ?_
    refine hv_aload_n 0 dX5_get_5 rfl rfl ?_
    obtain ⟨x1, hx1, hm⟩ := hp_bd hm
    refine hv_get lk_f_X5_18 dX5_get_6 (hp_fI_spec hx1) ?_
    refine hv_icmp_ge (tgt := 35) dX5_get_9 (by decide) (fun c12 => ?_) (fun c12 => ?_)
    · rw [if_pos c12] at hm
      refine hv_iconst (-1 : Int32) dX5_get_35 (by decide) ?_
      obtain rfl := Option.some.inj hm
      exact hv_iret rfl dX5_get_36
    · rw [if_neg c12] at hm
      refine hv_iload_n 2 dX5_get_12 rfl rfl ?_
      refine hv_if_lt (tgt := 35) dX5_get_13 (by decide) (fun c11 => ?_) (fun c11 => ?_)
      · rw [if_pos c11] at hm
        refine hv_iconst (-1 : Int32) dX5_get_35 (by decide) ?_
        obtain rfl := Option.some.inj hm
        exact hv_iret rfl dX5_get_36
      · rw [if_neg c11] at hm
        refine hv_iload_n 2 dX5_get_16 rfl rfl ?_
        refine hv_aload_n 0 dX5_get_17 rfl rfl ?_
        obtain ⟨x2, hx2, hm⟩ := hp_bd hm
        refine hv_get lk_f_X5_15 dX5_get_18 (hp_fR_spec hx2) ?_
        refine hv_iload_n 1 dX5_get_21 rfl rfl ?_
        refine hv_iconst (1 : Int32) dX5_get_22 (by decide) ?_
        refine hv_iadd dX5_get_23 ?_
        obtain ⟨x3, hx3, hm⟩ := hp_bd hm
        refine hv_iald dX5_get_24 hx3 ?_
        refine hv_aload_n 0 dX5_get_25 rfl rfl ?_
        obtain ⟨x4, hx4, hm⟩ := hp_bd hm
        refine hv_get lk_f_X5_15 dX5_get_26 (hp_fR_spec hx4) ?_
        refine hv_iload_n 1 dX5_get_29 rfl rfl ?_
        obtain ⟨x5, hx5, hm⟩ := hp_bd hm
        refine hv_iald dX5_get_30 hx5 ?_
        refine hv_isub dX5_get_31 ?_
        refine hv_icmp_lt (tgt := 37) dX5_get_32 (by decide) (fun c10 => ?_) (fun c10 => ?_)
        · rw [if_pos c10] at hm
          refine hv_aload_n 0 dX5_get_37 rfl rfl ?_
          obtain ⟨x6, hx6, hm⟩ := hp_bd hm
          refine hv_get lk_f_X5_9 dX5_get_38 (hp_fR_spec hx6) ?_
          refine hv_aload_n 0 dX5_get_41 rfl rfl ?_
          obtain ⟨x7, hx7, hm⟩ := hp_bd hm
          refine hv_get lk_f_X5_15 dX5_get_42 (hp_fR_spec hx7) ?_
          refine hv_iload_n 1 dX5_get_45 rfl rfl ?_
          obtain ⟨x8, hx8, hm⟩ := hp_bd hm
          refine hv_iald dX5_get_46 hx8 ?_
          refine hv_iload_n 2 dX5_get_47 rfl rfl ?_
          refine hv_iadd dX5_get_48 ?_
          obtain ⟨x9, hx9, hm⟩ := hp_bd hm
          refine hv_iald dX5_get_49 hx9 ?_
          obtain rfl := Option.some.inj hm
          exact hv_iret rfl dX5_get_50
        · rw [if_neg c10] at hm
          refine hv_iconst (-1 : Int32) dX5_get_35 (by decide) ?_
          obtain rfl := Option.some.inj hm
          exact hv_iret rfl dX5_get_36
def f_X5_get (n : Nat) (v0 : Nat) (v1 : Int32) (v2 : Int32) (h : hp_H) : Option (Int32) := (hp_ck h 5 v0).bind fun _ => f_X5_get_0 n v0 v1 v2 h
theorem c_X5_get (G : hp_G) (n : Nat) (v0 : Nat) (v1 : Int32) (v2 : Int32) (h : hp_H) (sz sl : Nat) (res : Int32) (hm : f_X5_get n v0 v1 v2 h = some res) : hp_C G m_X5_get yX5_get [.ref v0, .int v1, .int v2] h sz sl (some (.int res), h, sz, sl) := by
  unfold f_X5_get at hm
  obtain ⟨_, _, hm⟩ := hp_bd hm
  exact hp_C_of (by decide) rfl rfl (Nat.le_of_ble_eq_true rfl) (Nat.le_refl _) (Nat.le_refl _) (hv_sub [0, 1, 2] rfl (q_X5_get_0 G n v0 v1 v2 h sz sl res hm))
theorem k_X5_get {n : Nat} {v0 : Nat} {v1 : Int32} {v2 : Int32} {h : hp_H} {res : Int32} (hm : f_X5_get n v0 v1 v2 h = some res) : ∃ V, h v0 = some (.inr (.inr (5, V))) := by
  unfold f_X5_get at hm
  obtain ⟨_, hu, _⟩ := hp_bd hm
  exact hp_ck_spec hu
abbrev m_X5_size : hp_M := (RX5, cX5_size, 2, some .int, 0, 0, "size")
theorem Z_X5_size : hp_Y yX5_size m_X5_size 1 := Y_X5_size
def f_X5_size_0 (n : Nat) (v0 : Nat) (v1 : Int32) (h : hp_H) : Option (Int32) :=
  if v1 < 0 then
    some (0 : Int32)
  else
    (hp_fI h 5 v0 3).bind fun x1 =>
    if x1 ≤ v1 then
      some (0 : Int32)
    else
      (hp_fR h 5 v0 1).bind fun x2 =>
      (hp_aI h 0 x2 (v1 + (1 : Int32))).bind fun x3 =>
      (hp_fR h 5 v0 1).bind fun x4 =>
      (hp_aI h 0 x4 v1).bind fun x5 =>
      some (x3 - x5)
set_option maxHeartbeats 1000000 in
set_option maxRecDepth 4000 in
theorem q_X5_size_0 (G : hp_G) (n : Nat) (v0 : Nat) (v1 : Int32) (h : hp_H) (sz sl : Nat) (res : Int32) (hm : f_X5_size_0 n v0 v1 h = some res) : hp_V G m_X5_size 0 [(0, .ref v0), (1, .int v1)] [] h sz sl (some (.int res), h, sz, sl) := by
  have ho : sz ≤ sz ∧ sl ≤ sl := ⟨Nat.le_refl _, Nat.le_refl _⟩
  unfold f_X5_size_0 at hm
  refine hv_iload_n 1 dX5_size_0 rfl rfl ?_
  refine hv_if_lt (tgt := 30) dX5_size_1 (by decide) (fun c7 => ?_) (fun c7 => ?_)
  · rw [if_pos c7] at hm
    refine hv_iconst (0 : Int32) dX5_size_30 (by decide) ?_
    obtain rfl := Option.some.inj hm
    exact hv_iret rfl dX5_size_31
  · rw [if_neg c7] at hm
    refine hv_iload_n 1 dX5_size_4 rfl rfl ?_
    refine hv_aload_n 0 dX5_size_5 rfl rfl ?_
    obtain ⟨x1, hx1, hm⟩ := hp_bd hm
    refine hv_get lk_f_X5_18 dX5_size_6 (hp_fI_spec hx1) ?_
    refine hv_icmp_ge (tgt := 30) dX5_size_9 (by decide) (fun c6 => ?_) (fun c6 => ?_)
    · rw [if_pos c6] at hm
      refine hv_iconst (0 : Int32) dX5_size_30 (by decide) ?_
      obtain rfl := Option.some.inj hm
      exact hv_iret rfl dX5_size_31
    · rw [if_neg c6] at hm
      refine hv_aload_n 0 dX5_size_12 rfl rfl ?_
      obtain ⟨x2, hx2, hm⟩ := hp_bd hm
      refine hv_get lk_f_X5_15 dX5_size_13 (hp_fR_spec hx2) ?_
      refine hv_iload_n 1 dX5_size_16 rfl rfl ?_
      refine hv_iconst (1 : Int32) dX5_size_17 (by decide) ?_
      refine hv_iadd dX5_size_18 ?_
      obtain ⟨x3, hx3, hm⟩ := hp_bd hm
      refine hv_iald dX5_size_19 hx3 ?_
      refine hv_aload_n 0 dX5_size_20 rfl rfl ?_
      obtain ⟨x4, hx4, hm⟩ := hp_bd hm
      refine hv_get lk_f_X5_15 dX5_size_21 (hp_fR_spec hx4) ?_
      refine hv_iload_n 1 dX5_size_24 rfl rfl ?_
      obtain ⟨x5, hx5, hm⟩ := hp_bd hm
      refine hv_iald dX5_size_25 hx5 ?_
      refine hv_isub dX5_size_26 ?_
      refine hv_goto (tgt := 31) dX5_size_27 (by decide) ?_
      obtain rfl := Option.some.inj hm
      exact hv_iret rfl dX5_size_31
def f_X5_size (n : Nat) (v0 : Nat) (v1 : Int32) (h : hp_H) : Option (Int32) := (hp_ck h 5 v0).bind fun _ => f_X5_size_0 n v0 v1 h
theorem c_X5_size (G : hp_G) (n : Nat) (v0 : Nat) (v1 : Int32) (h : hp_H) (sz sl : Nat) (res : Int32) (hm : f_X5_size n v0 v1 h = some res) : hp_C G m_X5_size yX5_size [.ref v0, .int v1] h sz sl (some (.int res), h, sz, sl) := by
  unfold f_X5_size at hm
  obtain ⟨_, _, hm⟩ := hp_bd hm
  exact hp_C_of (by decide) rfl rfl (Nat.le_of_ble_eq_true rfl) (Nat.le_refl _) (Nat.le_refl _) (hv_sub [0, 1] rfl (q_X5_size_0 G n v0 v1 h sz sl res hm))
theorem k_X5_size {n : Nat} {v0 : Nat} {v1 : Int32} {h : hp_H} {res : Int32} (hm : f_X5_size n v0 v1 h = some res) : ∃ V, h v0 = some (.inr (.inr (5, V))) := by
  unfold f_X5_size at hm
  obtain ⟨_, hu, _⟩ := hp_bd hm
  exact hp_ck_spec hu
abbrev m_X5_add : hp_M := (RX5, cX5_add, 2, none, 2, 62, "add")
theorem Z_X5_add : hp_Y yX5_add m_X5_add 1 := Y_X5_add
def f_X5_add_29 (n : Nat) (v0 : Nat) (v1 : Int32) (h : hp_H) (sz sl : Nat) : Option (hp_H × Nat × Nat) :=
  (hp_fR h 5 v0 0).bind fun x1 =>
  (hp_fI h 5 v0 2).bind fun x2 =>
  (hp_sI h 0 x1 x2 v1).bind fun h3 =>
  (hp_fI h3 5 v0 2).bind fun x4 =>
  (hp_pF h3 5 v0 2 (.int (x4 + (1 : Int32)))).bind fun h5 =>
  some (h5, sz, sl)
set_option maxHeartbeats 1000000 in
set_option maxRecDepth 4000 in
theorem mo_X5_add_29 {n : Nat} {v0 : Nat} {v1 : Int32} {h : hp_H} {sz sl : Nat} {res : hp_H × Nat × Nat} (hm : f_X5_add_29 n v0 v1 h sz sl = some res) : sz ≤ res.2.1 ∧ sl ≤ res.2.2 := by
  unfold f_X5_add_29 at hm
  obtain ⟨x1, hx1, hm⟩ := hp_bd hm
  obtain ⟨x2, hx2, hm⟩ := hp_bd hm
  obtain ⟨h3, hh3, hm⟩ := hp_bd hm
  obtain ⟨x4, hx4, hm⟩ := hp_bd hm
  obtain ⟨h5, hh5, hm⟩ := hp_bd hm
  obtain rfl := Option.some.inj hm
  exact ⟨Nat.le_refl _, Nat.le_refl _⟩
set_option maxHeartbeats 1000000 in
set_option maxRecDepth 4000 in
theorem q_X5_add_29 (G : hp_G) (n : Nat) (v0 : Nat) (v1 : Int32) (h : hp_H) (sz sl : Nat) (res : hp_H × Nat × Nat) (hm : f_X5_add_29 n v0 v1 h sz sl = some res) : hp_V G m_X5_add 29 [(0, .ref v0), (1, .int v1)] [] h sz sl (none, res.1, res.2.1, res.2.2) := by
  have ho := mo_X5_add_29 hm
  unfold f_X5_add_29 at hm
  refine hv_aload_n 0 dX5_add_29 rfl rfl ?_
  obtain ⟨x1, hx1, hm⟩ := hp_bd hm
  refine hv_get lk_f_X5_9 dX5_add_30 (hp_fR_spec hx1) ?_
  refine hv_aload_n 0 dX5_add_33 rfl rfl ?_
  obtain ⟨x2, hx2, hm⟩ := hp_bd hm
  refine hv_get lk_f_X5_22 dX5_add_34 (hp_fI_spec hx2) ?_
  refine hv_iload_n 1 dX5_add_37 rfl rfl ?_
  obtain ⟨h3, hh3, hm⟩ := hp_bd hm
  refine hv_iast dX5_add_38 hh3 ?_
  refine hv_aload_n 0 dX5_add_39 rfl rfl ?_
  refine hv_dup dX5_add_40 rfl ?_
  obtain ⟨x4, hx4, hm⟩ := hp_bd hm
  refine hv_get lk_f_X5_22 dX5_add_41 (hp_fI_spec hx4) ?_
  refine hv_iconst (1 : Int32) dX5_add_44 (by decide) ?_
  refine hv_iadd dX5_add_45 ?_
  obtain ⟨h5, hh5, hm⟩ := hp_bd hm
  refine hv_put lk_f_X5_22 dX5_add_46 rfl rfl hh5 ?_
  obtain rfl := Option.some.inj hm
  exact hv_vret rfl dX5_add_49
def f_X5_add_26 (n : Nat) (v0 : Nat) (v1 : Int32) (s0 : Nat) (s1 : Nat) (h : hp_H) (sz sl : Nat) : Option (hp_H × Nat × Nat) :=
  (hp_pF h 5 s1 0 (.ref s0)).bind fun h1 =>
  f_X5_add_29 n v0 v1 h1 sz sl
set_option maxHeartbeats 1000000 in
set_option maxRecDepth 4000 in
theorem mo_X5_add_26 {n : Nat} {v0 : Nat} {v1 : Int32} {s0 : Nat} {s1 : Nat} {h : hp_H} {sz sl : Nat} {res : hp_H × Nat × Nat} (hm : f_X5_add_26 n v0 v1 s0 s1 h sz sl = some res) : sz ≤ res.2.1 ∧ sl ≤ res.2.2 := by
  unfold f_X5_add_26 at hm
  obtain ⟨h1, hh1, hm⟩ := hp_bd hm
  exact mo_X5_add_29 hm
set_option maxHeartbeats 1000000 in
set_option maxRecDepth 4000 in
theorem q_X5_add_26 (G : hp_G) (n : Nat) (v0 : Nat) (v1 : Int32) (s0 : Nat) (s1 : Nat) (h : hp_H) (sz sl : Nat) (res : hp_H × Nat × Nat) (hm : f_X5_add_26 n v0 v1 s0 s1 h sz sl = some res) : hp_V G m_X5_add 26 [(0, .ref v0), (1, .int v1)] [.ref s0, .ref s1] h sz sl (none, res.1, res.2.1, res.2.2) := by
  have ho := mo_X5_add_26 hm
  unfold f_X5_add_26 at hm
  obtain ⟨h1, hh1, hm⟩ := hp_bd hm
  refine hv_put lk_f_X5_9 dX5_add_26 rfl rfl hh1 ?_
  exact hv_sub [0, 1] rfl (q_X5_add_29 G n v0 v1 h1 sz sl _ hm)
def f_X5_add_0 (n : Nat) (v0 : Nat) (v1 : Int32) (h : hp_H) (sz sl : Nat) : Option (hp_H × Nat × Nat) :=
  (hp_fI h 5 v0 2).bind fun x1 =>
  (hp_fR h 5 v0 0).bind fun x2 =>
  (hp_len h x2).bind fun x3 =>
  if x1 = x3 then
    (hp_fR h 5 v0 0).bind fun x4 =>
    (hp_fI h 5 v0 2).bind fun x5 =>
    (f_J7_copyOf_59c91 n x4 ((2 : Int32) * x5) h sz sl).bind fun x6 =>
    f_X5_add_26 n v0 v1 x6.1 v0 x6.2.1 x6.2.2.1 x6.2.2.2
  else
    f_X5_add_29 n v0 v1 h sz sl
set_option maxHeartbeats 1000000 in
set_option maxRecDepth 4000 in
theorem mo_X5_add_0 {n : Nat} {v0 : Nat} {v1 : Int32} {h : hp_H} {sz sl : Nat} {res : hp_H × Nat × Nat} (hm : f_X5_add_0 n v0 v1 h sz sl = some res) : sz ≤ res.2.1 ∧ sl ≤ res.2.2 := by
  unfold f_X5_add_0 at hm
  obtain ⟨x1, hx1, hm⟩ := hp_bd hm
  obtain ⟨x2, hx2, hm⟩ := hp_bd hm
  obtain ⟨x3, hx3, hm⟩ := hp_bd hm
  rcases (Decidable.em (x1 = x3)).symm with c7 | c7
  · rw [if_neg c7] at hm
    exact mo_X5_add_29 hm
  · rw [if_pos c7] at hm
    obtain ⟨x4, hx4, hm⟩ := hp_bd hm
    obtain ⟨x5, hx5, hm⟩ := hp_bd hm
    obtain ⟨x6, hx6, hm⟩ := hp_bd hm
    exact hp_tr (mx_J7_copyOf_59c91 hx6) (mo_X5_add_26 hm)
set_option maxHeartbeats 1000000 in
set_option maxRecDepth 4000 in
theorem q_X5_add_0 (G : hp_G) (n : Nat) (v0 : Nat) (v1 : Int32) (h : hp_H) (sz sl : Nat) (res : hp_H × Nat × Nat) (hm : f_X5_add_0 n v0 v1 h sz sl = some res) : hp_V G m_X5_add 0 [(0, .ref v0), (1, .int v1)] [] h sz sl (none, res.1, res.2.1, res.2.2) := by
  have ho := mo_X5_add_0 hm
  unfold f_X5_add_0 at hm
  refine hv_aload_n 0 dX5_add_0 rfl rfl ?_
  obtain ⟨x1, hx1, hm⟩ := hp_bd hm
  refine hv_get lk_f_X5_22 dX5_add_1 (hp_fI_spec hx1) ?_
  refine hv_aload_n 0 dX5_add_4 rfl rfl ?_
  obtain ⟨x2, hx2, hm⟩ := hp_bd hm
  refine hv_get lk_f_X5_9 dX5_add_5 (hp_fR_spec hx2) ?_
  obtain ⟨x3, hx3, hm⟩ := hp_bd hm
  refine hv_alen dX5_add_8 hx3 ?_
  refine hv_icmp_ne (tgt := 29) dX5_add_9 (by decide) (fun c7 => ?_) (fun c7 => ?_)
  · rw [if_neg c7] at hm
    exact hv_sub [0, 1] rfl (q_X5_add_29 G n v0 v1 h sz sl _ hm)
  · rw [if_pos c7] at hm
    refine hv_aload_n 0 dX5_add_12 rfl rfl ?_
    refine hv_aload_n 0 dX5_add_13 rfl rfl ?_
    obtain ⟨x4, hx4, hm⟩ := hp_bd hm
    refine hv_get lk_f_X5_9 dX5_add_14 (hp_fR_spec hx4) ?_
    refine hv_iconst (2 : Int32) dX5_add_17 (by decide) ?_
    refine hv_aload_n 0 dX5_add_18 rfl rfl ?_
    obtain ⟨x5, hx5, hm⟩ := hp_bd hm
    refine hv_get lk_f_X5_22 dX5_add_19 (hp_fI_spec hx5) ?_
    refine hv_imul dX5_add_22 ?_
    obtain ⟨x6, hx6, hm⟩ := hp_bd hm
    have hq := mo_X5_add_26 hm
    refine hv_callS (As := [.ref x4, .int ((2 : Int32) * x5)]) (rest := [.ref v0]) Z_J7_copyOf_59c91 I_J7_copyOf_59c91 lk_m_X5_25 (c_J7_copyOf_59c91 G n x4 ((2 : Int32) * x5) h sz sl _ hx6) rfl (Nat.le_of_ble_eq_true rfl) ⟨Nat.le_of_ble_eq_true rfl, Nat.le_of_ble_eq_true rfl⟩ hq.1 hq.2 rfl dX5_add_23 ?_
    refine hv_as2 [.ref x6.1, .ref v0] x6.2.1 x6.2.2.1 x6.2.2.2 rfl rfl rfl rfl ?_
    exact hv_sub [0, 1] rfl (q_X5_add_26 G n v0 v1 x6.1 v0 x6.2.1 x6.2.2.1 x6.2.2.2 _ hm)
def f_X5_add (n : Nat) (v0 : Nat) (v1 : Int32) (h : hp_H) (sz sl : Nat) : Option (hp_H × Nat × Nat) := (hp_ck h 5 v0).bind fun _ => f_X5_add_0 n v0 v1 h sz sl
theorem c_X5_add (G : hp_G) (n : Nat) (v0 : Nat) (v1 : Int32) (h : hp_H) (sz sl : Nat) (res : hp_H × Nat × Nat) (hm : f_X5_add n v0 v1 h sz sl = some res) : hp_C G m_X5_add yX5_add [.ref v0, .int v1] h sz sl (none, res.1, res.2.1, res.2.2) := by
  unfold f_X5_add at hm
  obtain ⟨_, _, hm⟩ := hp_bd hm
  exact hp_C_of (by decide) rfl rfl (Nat.le_of_ble_eq_true rfl) (mo_X5_add_0 hm).1 (mo_X5_add_0 hm).2 (hv_sub [0, 1] rfl (q_X5_add_0 G n v0 v1 h sz sl res hm))
theorem k_X5_add {n : Nat} {v0 : Nat} {v1 : Int32} {h : hp_H} {sz sl : Nat} {res : hp_H × Nat × Nat} (hm : f_X5_add n v0 v1 h sz sl = some res) : ∃ V, h v0 = some (.inr (.inr (5, V))) := by
  unfold f_X5_add at hm
  obtain ⟨_, hu, _⟩ := hp_bd hm
  exact hp_ck_spec hu
theorem mx_X5_add {n : Nat} {v0 : Nat} {v1 : Int32} {h : hp_H} {sz sl : Nat} {res : hp_H × Nat × Nat} (hm : f_X5_add n v0 v1 h sz sl = some res) : sz ≤ res.2.1 ∧ sl ≤ res.2.2 := by
  unfold f_X5_add at hm
  obtain ⟨_, _, hm⟩ := hp_bd hm
  exact mo_X5_add_0 hm
abbrev m_X5_addFrom : hp_M := (RX5, cX5_addFrom, 6, none, 3, 83, "addFrom")
theorem Z_X5_addFrom : hp_Y yX5_addFrom m_X5_addFrom 3 := Y_X5_addFrom
abbrev zx_X5_addFrom_10 : (hp_H × Nat × Nat) → Nat × Nat := (fun y => (y.2.1, y.2.2))
abbrev zz_X5_addFrom_10 : ((Int32 × hp_H × Nat × Nat) ⊕ (hp_H × Nat × Nat)) → Nat × Nat := Sum.elim (fun y => (y.2.2.1, y.2.2.2)) zx_X5_addFrom_10
def f_X5_addFrom_28 (n : Nat) (v0 : Nat) (v1 : Nat) (v2 : Int32) (v4 : Int32) (v5 : Int32) (h : hp_H) (sz sl : Nat) : Option ((Int32 × hp_H × Nat × Nat) ⊕ (hp_H × Nat × Nat)) :=
  some (.inl ((v5 + (1 : Int32)), h, sz, sl))
set_option maxHeartbeats 1000000 in
set_option maxRecDepth 4000 in
theorem mo_X5_addFrom_28 {n : Nat} {v0 : Nat} {v1 : Nat} {v2 : Int32} {v4 : Int32} {v5 : Int32} {h : hp_H} {sz sl : Nat} {res : (Int32 × hp_H × Nat × Nat) ⊕ (hp_H × Nat × Nat)} (hm : f_X5_addFrom_28 n v0 v1 v2 v4 v5 h sz sl = some res) : sz ≤ (zz_X5_addFrom_10 res).1 ∧ sl ≤ (zz_X5_addFrom_10 res).2 := by
  unfold f_X5_addFrom_28 at hm
  obtain rfl := Option.some.inj hm
  exact ⟨Nat.le_refl _, Nat.le_refl _⟩
set_option maxHeartbeats 1000000 in
set_option maxRecDepth 4000 in
theorem q_X5_addFrom_28 (G : hp_G) (n : Nat) (v0 : Nat) (v1 : Nat) (v2 : Int32) (v4 : Int32) (v5 : Int32) (h : hp_H) (sz sl : Nat) (o : hp_O) (res : (Int32 × hp_H × Nat × Nat) ⊕ (hp_H × Nat × Nat)) (hB : (zz_X5_addFrom_10 res).1 ≤ o.2.2.1 ∧ (zz_X5_addFrom_10 res).2 ≤ o.2.2.2) (hm : f_X5_addFrom_28 n v0 v1 v2 v4 v5 h sz sl = some res) (kI : ∀ y : Int32 × hp_H × Nat × Nat, res = .inl y → hp_V G m_X5_addFrom 10 [(0, .ref v0), (1, .ref v1), (2, .int v2), (4, .int v4), (5, .int y.1)] [] y.2.1 y.2.2.1 y.2.2.2 o) (kR : ∀ y : hp_H × Nat × Nat, res = .inr y → o = (none, y.1, y.2.1, y.2.2)) : hp_V G m_X5_addFrom 28 [(0, .ref v0), (1, .ref v1), (2, .int v2), (4, .int v4), (5, .int v5)] [] h sz sl o := by
  have ho : sz ≤ o.2.2.1 ∧ sl ≤ o.2.2.2 := ⟨Nat.le_trans (mo_X5_addFrom_28 hm).1 hB.1, Nat.le_trans (mo_X5_addFrom_28 hm).2 hB.2⟩
  unfold f_X5_addFrom_28 at hm
  refine hv_iinc (v5 + (1 : Int32)) 4 [(5, .int (v5 + (1 : Int32))), (0, .ref v0), (1, .ref v1), (2, .int v2), (4, .int v4)] dX5_addFrom_28 rfl rfl (by decide) rfl ?_
  refine hv_goto (tgt := 10) dX5_addFrom_31 (by decide) ?_
  exact hv_sub [1, 2, 3, 4, 0] rfl (kI ((v5 + (1 : Int32)), h, sz, sl) (Option.some.inj hm).symm)
def f_X5_addFrom_10 (n : Nat) (v0 : Nat) (v1 : Nat) (v2 : Int32) (v4 : Int32) (v5 : Int32) (h : hp_H) (sz sl : Nat) : Option ((Int32 × hp_H × Nat × Nat) ⊕ (hp_H × Nat × Nat)) :=
  if v4 ≤ v5 then
    some (.inr (h, sz, sl))
  else
    (f_X5_get n v1 v2 v5 h).bind fun x1 =>
    (f_X5_add n v0 x1 h sz sl).bind fun x2 =>
    f_X5_addFrom_28 n v0 v1 v2 v4 v5 x2.1 x2.2.1 x2.2.2
set_option maxHeartbeats 1000000 in
set_option maxRecDepth 4000 in
theorem mo_X5_addFrom_10 {n : Nat} {v0 : Nat} {v1 : Nat} {v2 : Int32} {v4 : Int32} {v5 : Int32} {h : hp_H} {sz sl : Nat} {res : (Int32 × hp_H × Nat × Nat) ⊕ (hp_H × Nat × Nat)} (hm : f_X5_addFrom_10 n v0 v1 v2 v4 v5 h sz sl = some res) : sz ≤ (zz_X5_addFrom_10 res).1 ∧ sl ≤ (zz_X5_addFrom_10 res).2 := by
  unfold f_X5_addFrom_10 at hm
  rcases Decidable.em (v4 ≤ v5) with c3 | c3
  · rw [if_pos c3] at hm
    obtain rfl := Option.some.inj hm
    exact ⟨Nat.le_refl _, Nat.le_refl _⟩
  · rw [if_neg c3] at hm
    obtain ⟨x1, hx1, hm⟩ := hp_bd hm
    obtain ⟨x2, hx2, hm⟩ := hp_bd hm
    exact hp_tr (mx_X5_add hx2) (mo_X5_addFrom_28 hm)
set_option maxHeartbeats 1000000 in
set_option maxRecDepth 4000 in
theorem q_X5_addFrom_10 (G : hp_G) (n : Nat) (v0 : Nat) (v1 : Nat) (v2 : Int32) (v4 : Int32) (v5 : Int32) (h : hp_H) (sz sl : Nat) (o : hp_O) (res : (Int32 × hp_H × Nat × Nat) ⊕ (hp_H × Nat × Nat)) (hB : (zz_X5_addFrom_10 res).1 ≤ o.2.2.1 ∧ (zz_X5_addFrom_10 res).2 ≤ o.2.2.2) (hm : f_X5_addFrom_10 n v0 v1 v2 v4 v5 h sz sl = some res) (kI : ∀ y : Int32 × hp_H × Nat × Nat, res = .inl y → hp_V G m_X5_addFrom 10 [(0, .ref v0), (1, .ref v1), (2, .int v2), (4, .int v4), (5, .int y.1)] [] y.2.1 y.2.2.1 y.2.2.2 o) (kR : ∀ y : hp_H × Nat × Nat, res = .inr y → o = (none, y.1, y.2.1, y.2.2)) : hp_V G m_X5_addFrom 10 [(0, .ref v0), (1, .ref v1), (2, .int v2), (4, .int v4), (5, .int v5)] [] h sz sl o := by
  have ho : sz ≤ o.2.2.1 ∧ sl ≤ o.2.2.2 := ⟨Nat.le_trans (mo_X5_addFrom_10 hm).1 hB.1, Nat.le_trans (mo_X5_addFrom_10 hm).2 hB.2⟩
  unfold f_X5_addFrom_10 at hm
  refine hv_iload 4 dX5_addFrom_10 rfl ?_
  refine hv_iload 3 dX5_addFrom_12 rfl ?_
  refine hv_icmp_ge (tgt := 34) dX5_addFrom_14 (by decide) (fun c3 => ?_) (fun c3 => ?_)
  · rw [if_pos c3] at hm
    obtain rfl := kR _ (Option.some.inj hm).symm
    exact hv_vret rfl dX5_addFrom_34
  · rw [if_neg c3] at hm
    refine hv_aload_n 0 dX5_addFrom_17 rfl rfl ?_
    refine hv_aload_n 1 dX5_addFrom_18 rfl rfl ?_
    refine hv_iload_n 2 dX5_addFrom_19 rfl rfl ?_
    refine hv_iload 4 dX5_addFrom_20 rfl ?_
    obtain ⟨x1, hx1, hm⟩ := hp_bd hm
    obtain ⟨Vx1, hVx1⟩ := k_X5_get hx1
    refine hv_callV (As := [.int v2, .int v5]) (rest := [.ref v0]) Z_X5_get I_X5_get lk_m_X5_35 rfl hVx1 (c_X5_get G n v1 v2 v5 h sz sl _ hx1) rfl (Nat.le_of_ble_eq_true rfl) ⟨Nat.le_of_ble_eq_true rfl, Nat.le_of_ble_eq_true rfl⟩ ho.1 ho.2 rfl dX5_addFrom_22 ?_
    refine hv_as [.int x1, .ref v0] h rfl rfl ?_
    obtain ⟨x2, hx2, hm⟩ := hp_bd hm
    have hq := hp_tr (mo_X5_addFrom_28 hm) hB
    obtain ⟨Vx2, hVx2⟩ := k_X5_add hx2
    refine hv_callV (As := [.int x1]) (rest := []) Z_X5_add I_X5_add lk_m_X5_39 rfl hVx2 (c_X5_add G n v0 x1 h sz sl _ hx2) rfl (Nat.le_of_ble_eq_true rfl) ⟨Nat.le_of_ble_eq_true rfl, Nat.le_of_ble_eq_true rfl⟩ hq.1 hq.2 rfl dX5_addFrom_25 ?_
    refine hv_as2 [] x2.1 x2.2.1 x2.2.2 rfl rfl rfl rfl ?_
    exact hv_sub [0, 1, 2, 3, 4] rfl (q_X5_addFrom_28 G n v0 v1 v2 v4 v5 x2.1 x2.2.1 x2.2.2 o _ hB hm kI kR)
def fL_X5_addFrom_10 (n : Nat) (v0 : Nat) (v1 : Nat) (v2 : Int32) (v4 : Int32) (s : Int32 × hp_H × Nat × Nat) : Option ((Int32 × hp_H × Nat × Nat) ⊕ (hp_H × Nat × Nat)) := f_X5_addFrom_10 n v0 v1 v2 v4 s.1 s.2.1 s.2.2.1 s.2.2.2
theorem ml_X5_addFrom_10 {n : Nat} {v0 : Nat} {v1 : Nat} {v2 : Int32} {v4 : Int32} : ∀ (k : Nat) (s : Int32 × hp_H × Nat × Nat) (x : hp_H × Nat × Nat), hp_lp (fL_X5_addFrom_10 n v0 v1 v2 v4) k s = some x → s.2.2.1 ≤ (zx_X5_addFrom_10 x).1 ∧ s.2.2.2 ≤ (zx_X5_addFrom_10 x).2 := by
  intro k
  induction k with
  | zero => intro s x hx; exact (hp_lp_0 hx).elim
  | succ k ih =>
    intro s x hx
    obtain ⟨r, hr, hc⟩ := hp_lp_1 hx
    have h1 := mo_X5_addFrom_10 hr
    rcases hc with ⟨s3, e3, hx3⟩ | e3
    · subst e3
      exact hp_tr h1 (ih _ _ hx3)
    · subst e3
      exact h1
theorem l_X5_addFrom_10 (G : hp_G) (n : Nat) (v0 : Nat) (v1 : Nat) (v2 : Int32) (v4 : Int32) (o : hp_O) : ∀ (k : Nat) (s : Int32 × hp_H × Nat × Nat) (x : hp_H × Nat × Nat), hp_lp (fL_X5_addFrom_10 n v0 v1 v2 v4) k s = some x → ((zx_X5_addFrom_10 x).1 ≤ o.2.2.1 ∧ (zx_X5_addFrom_10 x).2 ≤ o.2.2.2) → (∀ y : hp_H × Nat × Nat, x = y → o = (none, y.1, y.2.1, y.2.2)) → hp_V G m_X5_addFrom 10 [(0, .ref v0), (1, .ref v1), (2, .int v2), (4, .int v4), (5, .int s.1)] [] s.2.1 s.2.2.1 s.2.2.2 o := by
  intro k
  induction k with
  | zero => intro s x hx; exact (hp_lp_0 hx).elim
  | succ k ih =>
    intro s x hx hz k0
    obtain ⟨r, hr, hc⟩ := hp_lp_1 hx
    have hB : (zz_X5_addFrom_10 r).1 ≤ o.2.2.1 ∧ (zz_X5_addFrom_10 r).2 ≤ o.2.2.2 := by
      rcases hc with ⟨s3, e3, hx3⟩ | e3
      · subst e3
        exact hp_tr (ml_X5_addFrom_10 _ _ _ hx3) hz
      · subst e3
        exact hz
    refine q_X5_addFrom_10 G n v0 v1 v2 v4 s.1 s.2.1 s.2.2.1 s.2.2.2 o r hB hr (fun s2 e => ?_) (fun y e => ?_)
    · rcases hc with ⟨s3, e3, hx3⟩ | e3
      · have e4 := Sum.inl.inj (e.symm.trans e3)
        subst e4
        exact ih _ _ hx3 hz k0
      · cases (e.symm.trans e3)
    · rcases hc with ⟨s3, e3, hx3⟩ | e3
      · cases (e.symm.trans e3)
      · exact k0 y (Sum.inr.inj (e3.symm.trans e))
def f_X5_addFrom_0 (n : Nat) (v0 : Nat) (v1 : Nat) (v2 : Int32) (v3 : Int32) (h : hp_H) (sz sl : Nat) : Option (hp_H × Nat × Nat) :=
  (f_X5_size n v1 v2 h).bind fun x1 =>
  (hp_lp (fL_X5_addFrom_10 n v0 v1 v2 x1) n (v3, h, sz, sl)).bind fun x2 =>
  some (x2.1, x2.2.1, x2.2.2)
set_option maxHeartbeats 1000000 in
set_option maxRecDepth 4000 in
theorem mo_X5_addFrom_0 {n : Nat} {v0 : Nat} {v1 : Nat} {v2 : Int32} {v3 : Int32} {h : hp_H} {sz sl : Nat} {res : hp_H × Nat × Nat} (hm : f_X5_addFrom_0 n v0 v1 v2 v3 h sz sl = some res) : sz ≤ res.2.1 ∧ sl ≤ res.2.2 := by
  unfold f_X5_addFrom_0 at hm
  obtain ⟨x1, hx1, hm⟩ := hp_bd hm
  obtain ⟨x2, hx2, hm⟩ := hp_bd hm
  have ml := ml_X5_addFrom_10 _ _ _ hx2
  · skip
    obtain rfl := Option.some.inj hm
    exact ml
set_option maxHeartbeats 1000000 in
set_option maxRecDepth 4000 in
theorem q_X5_addFrom_0 (G : hp_G) (n : Nat) (v0 : Nat) (v1 : Nat) (v2 : Int32) (v3 : Int32) (h : hp_H) (sz sl : Nat) (res : hp_H × Nat × Nat) (hm : f_X5_addFrom_0 n v0 v1 v2 v3 h sz sl = some res) : hp_V G m_X5_addFrom 0 [(0, .ref v0), (1, .ref v1), (2, .int v2), (3, .int v3)] [] h sz sl (none, res.1, res.2.1, res.2.2) := by
  have ho := mo_X5_addFrom_0 hm
  unfold f_X5_addFrom_0 at hm
  refine hv_aload_n 1 dX5_addFrom_0 rfl rfl ?_
  refine hv_iload_n 2 dX5_addFrom_1 rfl rfl ?_
  obtain ⟨x1, hx1, hm⟩ := hp_bd hm
  obtain ⟨Vx1, hVx1⟩ := k_X5_size hx1
  refine hv_callV (As := [.int v2]) (rest := []) Z_X5_size I_X5_size lk_m_X5_31 rfl hVx1 (c_X5_size G n v1 v2 h sz sl _ hx1) rfl (Nat.le_of_ble_eq_true rfl) ⟨Nat.le_of_ble_eq_true rfl, Nat.le_of_ble_eq_true rfl⟩ ho.1 ho.2 rfl dX5_addFrom_2 ?_
  refine hv_as [.int x1] h rfl rfl ?_
  refine hv_istore [(4, .int x1), (0, .ref v0), (1, .ref v1), (2, .int v2), (3, .int v3)] dX5_addFrom_5 (by decide) rfl ?_
  refine hv_iload_n 4 dX5_addFrom_7 rfl rfl ?_
  refine hv_istore [(5, .int v3), (4, .int x1), (0, .ref v0), (1, .ref v1), (2, .int v2), (3, .int v3)] dX5_addFrom_8 (by decide) rfl ?_
  obtain ⟨x2, hx2, hm⟩ := hp_bd hm
  · skip
    have hz : (zx_X5_addFrom_10 x2).1 ≤ res.2.1 ∧ (zx_X5_addFrom_10 x2).2 ≤ res.2.2 := by
      have q := Option.some.inj hm
      subst q
      exact ⟨Nat.le_refl _, Nat.le_refl _⟩
    refine hv_sub [2, 3, 4, 1, 0] rfl (l_X5_addFrom_10 G n v0 v1 v2 x1  _  n _ _ hx2 hz (fun wy3 ey3 => ?_))
    · cases ey3
      obtain rfl := Option.some.inj hm
      rfl
def f_X5_addFrom (n : Nat) (v0 : Nat) (v1 : Nat) (v2 : Int32) (v3 : Int32) (h : hp_H) (sz sl : Nat) : Option (hp_H × Nat × Nat) := (hp_ck h 5 v0).bind fun _ => f_X5_addFrom_0 n v0 v1 v2 v3 h sz sl
theorem c_X5_addFrom (G : hp_G) (n : Nat) (v0 : Nat) (v1 : Nat) (v2 : Int32) (v3 : Int32) (h : hp_H) (sz sl : Nat) (res : hp_H × Nat × Nat) (hm : f_X5_addFrom n v0 v1 v2 v3 h sz sl = some res) : hp_C G m_X5_addFrom yX5_addFrom [.ref v0, .ref v1, .int v2, .int v3] h sz sl (none, res.1, res.2.1, res.2.2) := by
  unfold f_X5_addFrom at hm
  obtain ⟨_, _, hm⟩ := hp_bd hm
  exact hp_C_of (by decide) rfl rfl (Nat.le_of_ble_eq_true rfl) (mo_X5_addFrom_0 hm).1 (mo_X5_addFrom_0 hm).2 (hv_sub [0, 1, 2, 3] rfl (q_X5_addFrom_0 G n v0 v1 v2 v3 h sz sl res hm))
theorem k_X5_addFrom {n : Nat} {v0 : Nat} {v1 : Nat} {v2 : Int32} {v3 : Int32} {h : hp_H} {sz sl : Nat} {res : hp_H × Nat × Nat} (hm : f_X5_addFrom n v0 v1 v2 v3 h sz sl = some res) : ∃ V, h v0 = some (.inr (.inr (5, V))) := by
  unfold f_X5_addFrom at hm
  obtain ⟨_, hu, _⟩ := hp_bd hm
  exact hp_ck_spec hu
theorem mx_X5_addFrom {n : Nat} {v0 : Nat} {v1 : Nat} {v2 : Int32} {v3 : Int32} {h : hp_H} {sz sl : Nat} {res : hp_H × Nat × Nat} (hm : f_X5_addFrom n v0 v1 v2 v3 h sz sl = some res) : sz ≤ res.2.1 ∧ sl ≤ res.2.2 := by
  unfold f_X5_addFrom at hm
  obtain ⟨_, _, hm⟩ := hp_bd hm
  exact mo_X5_addFrom_0 hm
abbrev m_X5_endRow : hp_M := (RX5, cX5_endRow, 1, none, 0, 0, "endRow")
theorem Z_X5_endRow : hp_Y yX5_endRow m_X5_endRow 0 := Y_X5_endRow
def f_X5_endRow_0 (n : Nat) (v0 : Nat) (h : hp_H) : Option (hp_H) :=
  (hp_fI h 5 v0 3).bind fun x1 =>
  (hp_fR h 5 v0 1).bind fun x2 =>
  (hp_len h x2).bind fun x3 =>
  if x3 ≤ (x1 + (1 : Int32)) then
    some h
  else
    (hp_fI h 5 v0 3).bind fun x4 =>
    (hp_pF h 5 v0 3 (.int (x4 + (1 : Int32)))).bind fun h5 =>
    (hp_fR h5 5 v0 1).bind fun x6 =>
    (hp_fI h5 5 v0 3).bind fun x7 =>
    (hp_fI h5 5 v0 2).bind fun x8 =>
    (hp_sI h5 0 x6 x7 x8).bind fun h9 =>
    some h9
set_option maxHeartbeats 1000000 in
set_option maxRecDepth 4000 in
theorem q_X5_endRow_0 (G : hp_G) (n : Nat) (v0 : Nat) (h : hp_H) (sz sl : Nat) (res : hp_H) (hm : f_X5_endRow_0 n v0 h = some res) : hp_V G m_X5_endRow 0 [(0, .ref v0)] [] h sz sl (none, res, sz, sl) := by
  have ho : sz ≤ sz ∧ sl ≤ sl := ⟨Nat.le_refl _, Nat.le_refl _⟩
  unfold f_X5_endRow_0 at hm
  refine hv_aload_n 0 dX5_endRow_0 rfl rfl ?_
  obtain ⟨x1, hx1, hm⟩ := hp_bd hm
  refine hv_get lk_f_X5_18 dX5_endRow_1 (hp_fI_spec hx1) ?_
  refine hv_iconst (1 : Int32) dX5_endRow_4 (by decide) ?_
  refine hv_iadd dX5_endRow_5 ?_
  refine hv_aload_n 0 dX5_endRow_6 rfl rfl ?_
  obtain ⟨x2, hx2, hm⟩ := hp_bd hm
  refine hv_get lk_f_X5_15 dX5_endRow_7 (hp_fR_spec hx2) ?_
  obtain ⟨x3, hx3, hm⟩ := hp_bd hm
  refine hv_alen dX5_endRow_10 hx3 ?_
  refine hv_icmp_ge (tgt := 37) dX5_endRow_11 (by decide) (fun c10 => ?_) (fun c10 => ?_)
  · rw [if_pos c10] at hm
    obtain rfl := Option.some.inj hm
    exact hv_vret rfl dX5_endRow_37
  · rw [if_neg c10] at hm
    refine hv_aload_n 0 dX5_endRow_14 rfl rfl ?_
    refine hv_dup dX5_endRow_15 rfl ?_
    obtain ⟨x4, hx4, hm⟩ := hp_bd hm
    refine hv_get lk_f_X5_18 dX5_endRow_16 (hp_fI_spec hx4) ?_
    refine hv_iconst (1 : Int32) dX5_endRow_19 (by decide) ?_
    refine hv_iadd dX5_endRow_20 ?_
    obtain ⟨h5, hh5, hm⟩ := hp_bd hm
    refine hv_put lk_f_X5_18 dX5_endRow_21 rfl rfl hh5 ?_
    refine hv_aload_n 0 dX5_endRow_24 rfl rfl ?_
    obtain ⟨x6, hx6, hm⟩ := hp_bd hm
    refine hv_get lk_f_X5_15 dX5_endRow_25 (hp_fR_spec hx6) ?_
    refine hv_aload_n 0 dX5_endRow_28 rfl rfl ?_
    obtain ⟨x7, hx7, hm⟩ := hp_bd hm
    refine hv_get lk_f_X5_18 dX5_endRow_29 (hp_fI_spec hx7) ?_
    refine hv_aload_n 0 dX5_endRow_32 rfl rfl ?_
    obtain ⟨x8, hx8, hm⟩ := hp_bd hm
    refine hv_get lk_f_X5_22 dX5_endRow_33 (hp_fI_spec hx8) ?_
    obtain ⟨h9, hh9, hm⟩ := hp_bd hm
    refine hv_iast dX5_endRow_36 hh9 ?_
    obtain rfl := Option.some.inj hm
    exact hv_vret rfl dX5_endRow_37
def f_X5_endRow (n : Nat) (v0 : Nat) (h : hp_H) : Option (hp_H) := (hp_ck h 5 v0).bind fun _ => f_X5_endRow_0 n v0 h
theorem c_X5_endRow (G : hp_G) (n : Nat) (v0 : Nat) (h : hp_H) (sz sl : Nat) (res : hp_H) (hm : f_X5_endRow n v0 h = some res) : hp_C G m_X5_endRow yX5_endRow [.ref v0] h sz sl (none, res, sz, sl) := by
  unfold f_X5_endRow at hm
  obtain ⟨_, _, hm⟩ := hp_bd hm
  exact hp_C_of (by decide) rfl rfl (Nat.le_of_ble_eq_true rfl) (Nat.le_refl _) (Nat.le_refl _) (hv_sub [0] rfl (q_X5_endRow_0 G n v0 h sz sl res hm))
theorem k_X5_endRow {n : Nat} {v0 : Nat} {h : hp_H} {res : hp_H} (hm : f_X5_endRow n v0 h = some res) : ∃ V, h v0 = some (.inr (.inr (5, V))) := by
  unfold f_X5_endRow at hm
  obtain ⟨_, hu, _⟩ := hp_bd hm
  exact hp_ck_spec hu
abbrev m_X5_dropUnderLast : hp_M := (RX5, cX5_dropUnderLast, 5, none, 1, 40, "dropUnderLast")
theorem Z_X5_dropUnderLast : hp_Y yX5_dropUnderLast m_X5_dropUnderLast 1 := Y_X5_dropUnderLast
def f_X5_dropUnderLast_0 (n : Nat) (v0 : Nat) (v1 : Int32) (h : hp_H) : Option (hp_H) :=
  if v1 ≤ 0 then
    some h
  else
    (hp_fI h 5 v0 3).bind fun x1 =>
    if v1 < x1 then
      (hp_fI h 5 v0 3).bind fun x2 =>
      (f_X5_size n v0 (x2 - (1 : Int32)) h).bind fun x3 =>
      (hp_fR h 5 v0 1).bind fun x4 =>
      (hp_aI h 0 x4 ((x2 - (1 : Int32)) - v1)).bind fun x5 =>
      (hp_fR h 5 v0 0).bind fun x6 =>
      (hp_fR h 5 v0 1).bind fun x7 =>
      (hp_aI h 0 x7 (x2 - (1 : Int32))).bind fun x8 =>
      (hp_fR h 5 v0 0).bind fun x9 =>
      (hp_cp h x6 x8 x9 x5 x3).bind fun h10 =>
      (hp_fI h10 5 v0 3).bind fun x11 =>
      (hp_pF h10 5 v0 3 (.int (x11 - v1))).bind fun h12 =>
      (hp_pF h12 5 v0 2 (.int (x5 + x3))).bind fun h13 =>
      (hp_fR h13 5 v0 1).bind fun x14 =>
      (hp_fI h13 5 v0 3).bind fun x15 =>
      (hp_fI h13 5 v0 2).bind fun x16 =>
      (hp_sI h13 0 x14 x15 x16).bind fun h17 =>
      some h17
    else
      some h
set_option maxHeartbeats 1000000 in
set_option maxRecDepth 4000 in
theorem q_X5_dropUnderLast_0 (G : hp_G) (n : Nat) (v0 : Nat) (v1 : Int32) (h : hp_H) (sz sl : Nat) (res : hp_H) (hm : f_X5_dropUnderLast_0 n v0 v1 h = some res) : hp_V G m_X5_dropUnderLast 0 [(0, .ref v0), (1, .int v1)] [] h sz sl (none, res, sz, sl) := by
  have ho : sz ≤ sz ∧ sl ≤ sl := ⟨Nat.le_refl _, Nat.le_refl _⟩
  unfold f_X5_dropUnderLast_0 at hm
  refine hv_iload_n 1 dX5_dropUnderLast_0 rfl rfl ?_
  refine hv_if_le (tgt := 12) dX5_dropUnderLast_1 (by decide) (fun c19 => ?_) (fun c19 => ?_)
  · rw [if_pos c19] at hm
    obtain rfl := Option.some.inj hm
    exact hv_vret rfl dX5_dropUnderLast_12
  · rw [if_neg c19] at hm
    refine hv_iload_n 1 dX5_dropUnderLast_4 rfl rfl ?_
    refine hv_aload_n 0 dX5_dropUnderLast_5 rfl rfl ?_
    obtain ⟨x1, hx1, hm⟩ := hp_bd hm
    refine hv_get lk_f_X5_18 dX5_dropUnderLast_6 (hp_fI_spec hx1) ?_
    refine hv_icmp_lt (tgt := 13) dX5_dropUnderLast_9 (by decide) (fun c18 => ?_) (fun c18 => ?_)
    · rw [if_pos c18] at hm
      refine hv_aload_n 0 dX5_dropUnderLast_13 rfl rfl ?_
      obtain ⟨x2, hx2, hm⟩ := hp_bd hm
      refine hv_get lk_f_X5_18 dX5_dropUnderLast_14 (hp_fI_spec hx2) ?_
      refine hv_iconst (1 : Int32) dX5_dropUnderLast_17 (by decide) ?_
      refine hv_isub dX5_dropUnderLast_18 ?_
      refine hv_istore_n [(2, .int (x2 - (1 : Int32))), (0, .ref v0), (1, .int v1)] dX5_dropUnderLast_19 rfl (by decide) rfl ?_
      refine hv_aload_n 1 dX5_dropUnderLast_20 rfl rfl ?_
      refine hv_iload_n 0 dX5_dropUnderLast_21 rfl rfl ?_
      obtain ⟨x3, hx3, hm⟩ := hp_bd hm
      obtain ⟨Vx3, hVx3⟩ := k_X5_size hx3
      refine hv_callV (As := [.int (x2 - (1 : Int32))]) (rest := []) Z_X5_size I_X5_size lk_m_X5_31 rfl hVx3 (c_X5_size G n v0 (x2 - (1 : Int32)) h sz sl _ hx3) rfl (Nat.le_of_ble_eq_true rfl) ⟨Nat.le_of_ble_eq_true rfl, Nat.le_of_ble_eq_true rfl⟩ ho.1 ho.2 rfl dX5_dropUnderLast_22 ?_
      refine hv_as [.int x3] h rfl rfl ?_
      refine hv_istore_n [(3, .int x3), (2, .int (x2 - (1 : Int32))), (0, .ref v0), (1, .int v1)] dX5_dropUnderLast_25 rfl (by decide) rfl ?_
      refine hv_aload_n 2 dX5_dropUnderLast_26 rfl rfl ?_
      obtain ⟨x4, hx4, hm⟩ := hp_bd hm
      refine hv_get lk_f_X5_15 dX5_dropUnderLast_27 (hp_fR_spec hx4) ?_
      refine hv_iload_n 1 dX5_dropUnderLast_30 rfl rfl ?_
      refine hv_iload_n 3 dX5_dropUnderLast_31 rfl rfl ?_
      refine hv_isub dX5_dropUnderLast_32 ?_
      obtain ⟨x5, hx5, hm⟩ := hp_bd hm
      refine hv_iald dX5_dropUnderLast_33 hx5 ?_
      refine hv_istore [(4, .int x5), (3, .int x3), (2, .int (x2 - (1 : Int32))), (0, .ref v0), (1, .int v1)] dX5_dropUnderLast_34 (by decide) rfl ?_
      refine hv_aload_n 3 dX5_dropUnderLast_36 rfl rfl ?_
      obtain ⟨x6, hx6, hm⟩ := hp_bd hm
      refine hv_get lk_f_X5_9 dX5_dropUnderLast_37 (hp_fR_spec hx6) ?_
      refine hv_aload_n 3 dX5_dropUnderLast_40 rfl rfl ?_
      obtain ⟨x7, hx7, hm⟩ := hp_bd hm
      refine hv_get lk_f_X5_15 dX5_dropUnderLast_41 (hp_fR_spec hx7) ?_
      refine hv_iload_n 2 dX5_dropUnderLast_44 rfl rfl ?_
      obtain ⟨x8, hx8, hm⟩ := hp_bd hm
      refine hv_iald dX5_dropUnderLast_45 hx8 ?_
      refine hv_aload_n 3 dX5_dropUnderLast_46 rfl rfl ?_
      obtain ⟨x9, hx9, hm⟩ := hp_bd hm
      refine hv_get lk_f_X5_9 dX5_dropUnderLast_47 (hp_fR_spec hx9) ?_
      refine hv_iload 0 dX5_dropUnderLast_50 rfl ?_
      refine hv_iload_n 1 dX5_dropUnderLast_52 rfl rfl ?_
      obtain ⟨h10, hh10, hm⟩ := hp_bd hm
      refine hv_copy lk_a_X5_43 ⟨Nat.le_of_ble_eq_true rfl, by decide⟩ dX5_dropUnderLast_53 hh10 ?_
      refine hv_aload_n 3 dX5_dropUnderLast_56 rfl rfl ?_
      refine hv_dup dX5_dropUnderLast_57 rfl ?_
      obtain ⟨x11, hx11, hm⟩ := hp_bd hm
      refine hv_get lk_f_X5_18 dX5_dropUnderLast_58 (hp_fI_spec hx11) ?_
      refine hv_iload_n 4 dX5_dropUnderLast_61 rfl rfl ?_
      refine hv_isub dX5_dropUnderLast_62 ?_
      obtain ⟨h12, hh12, hm⟩ := hp_bd hm
      refine hv_put lk_f_X5_18 dX5_dropUnderLast_63 rfl rfl hh12 ?_
      refine hv_aload_n 3 dX5_dropUnderLast_66 rfl rfl ?_
      refine hv_iload 0 dX5_dropUnderLast_67 rfl ?_
      refine hv_iload_n 1 dX5_dropUnderLast_69 rfl rfl ?_
      refine hv_iadd dX5_dropUnderLast_70 ?_
      obtain ⟨h13, hh13, hm⟩ := hp_bd hm
      refine hv_put lk_f_X5_22 dX5_dropUnderLast_71 rfl rfl hh13 ?_
      refine hv_aload_n 3 dX5_dropUnderLast_74 rfl rfl ?_
      obtain ⟨x14, hx14, hm⟩ := hp_bd hm
      refine hv_get lk_f_X5_15 dX5_dropUnderLast_75 (hp_fR_spec hx14) ?_
      refine hv_aload_n 3 dX5_dropUnderLast_78 rfl rfl ?_
      obtain ⟨x15, hx15, hm⟩ := hp_bd hm
      refine hv_get lk_f_X5_18 dX5_dropUnderLast_79 (hp_fI_spec hx15) ?_
      refine hv_aload_n 3 dX5_dropUnderLast_82 rfl rfl ?_
      obtain ⟨x16, hx16, hm⟩ := hp_bd hm
      refine hv_get lk_f_X5_22 dX5_dropUnderLast_83 (hp_fI_spec hx16) ?_
      obtain ⟨h17, hh17, hm⟩ := hp_bd hm
      refine hv_iast dX5_dropUnderLast_86 hh17 ?_
      obtain rfl := Option.some.inj hm
      exact hv_vret rfl dX5_dropUnderLast_87
    · rw [if_neg c18] at hm
      obtain rfl := Option.some.inj hm
      exact hv_vret rfl dX5_dropUnderLast_12
def f_X5_dropUnderLast (n : Nat) (v0 : Nat) (v1 : Int32) (h : hp_H) : Option (hp_H) := (hp_ck h 5 v0).bind fun _ => f_X5_dropUnderLast_0 n v0 v1 h
theorem c_X5_dropUnderLast (G : hp_G) (n : Nat) (v0 : Nat) (v1 : Int32) (h : hp_H) (sz sl : Nat) (res : hp_H) (hm : f_X5_dropUnderLast n v0 v1 h = some res) : hp_C G m_X5_dropUnderLast yX5_dropUnderLast [.ref v0, .int v1] h sz sl (none, res, sz, sl) := by
  unfold f_X5_dropUnderLast at hm
  obtain ⟨_, _, hm⟩ := hp_bd hm
  exact hp_C_of (by decide) rfl rfl (Nat.le_of_ble_eq_true rfl) (Nat.le_refl _) (Nat.le_refl _) (hv_sub [0, 1] rfl (q_X5_dropUnderLast_0 G n v0 v1 h sz sl res hm))
theorem k_X5_dropUnderLast {n : Nat} {v0 : Nat} {v1 : Int32} {h : hp_H} {res : hp_H} (hm : f_X5_dropUnderLast n v0 v1 h = some res) : ∃ V, h v0 = some (.inr (.inr (5, V))) := by
  unfold f_X5_dropUnderLast at hm
  obtain ⟨_, hu, _⟩ := hp_bd hm
  exact hp_ck_spec hu
abbrev m_X5_hasRow : hp_M := (RX5, cX5_hasRow, 6, some .boolean, 1, 22, "hasRow")
theorem Z_X5_hasRow : hp_Y yX5_hasRow m_X5_hasRow 3 := Y_X5_hasRow
def f_X5_hasRow_22 (n : Nat) (v0 : Nat) (v1 : Int32) (v2 : Nat) (v3 : Int32) (v4 : Int32) (v5 : Int32) (h : hp_H) : Option ((Int32) ⊕ (Int32)) :=
  if v4 ≤ v5 then
    some (.inr (1 : Int32))
  else
    (f_X5_get n v0 v1 v5 h).bind fun x1 =>
    (f_X5_get n v2 v3 v5 h).bind fun x2 =>
    if x1 = x2 then
      some (.inl (v5 + (1 : Int32)))
    else
      some (.inr (0 : Int32))
set_option maxHeartbeats 1000000 in
set_option maxRecDepth 4000 in
theorem q_X5_hasRow_22 (G : hp_G) (n : Nat) (v0 : Nat) (v1 : Int32) (v2 : Nat) (v3 : Int32) (v4 : Int32) (v5 : Int32) (h : hp_H) (sz sl : Nat) (o : hp_O) (ho : sz ≤ o.2.2.1 ∧ sl ≤ o.2.2.2) (res : (Int32) ⊕ (Int32)) (hm : f_X5_hasRow_22 n v0 v1 v2 v3 v4 v5 h = some res) (kI : ∀ y : Int32, res = .inl y → hp_V G m_X5_hasRow 22 [(0, .ref v0), (1, .int v1), (2, .ref v2), (3, .int v3), (4, .int v4), (5, .int y)] [] h sz sl o) (kR : ∀ y : Int32, res = .inr y → o = (some (.int y), h, sz, sl)) : hp_V G m_X5_hasRow 22 [(0, .ref v0), (1, .int v1), (2, .ref v2), (3, .int v3), (4, .int v4), (5, .int v5)] [] h sz sl o := by
  unfold f_X5_hasRow_22 at hm
  refine hv_iload 5 dX5_hasRow_22 rfl ?_
  refine hv_iload 4 dX5_hasRow_24 rfl ?_
  refine hv_icmp_ge (tgt := 54) dX5_hasRow_26 (by decide) (fun c4 => ?_) (fun c4 => ?_)
  · rw [if_pos c4] at hm
    refine hv_iconst (1 : Int32) dX5_hasRow_54 (by decide) ?_
    obtain rfl := kR _ (Option.some.inj hm).symm
    exact hv_zret rfl (by decide) dX5_hasRow_55
  · rw [if_neg c4] at hm
    refine hv_aload_n 0 dX5_hasRow_29 rfl rfl ?_
    refine hv_iload_n 1 dX5_hasRow_30 rfl rfl ?_
    refine hv_iload 5 dX5_hasRow_31 rfl ?_
    obtain ⟨x1, hx1, hm⟩ := hp_bd hm
    obtain ⟨Vx1, hVx1⟩ := k_X5_get hx1
    refine hv_callV (As := [.int v1, .int v5]) (rest := []) Z_X5_get I_X5_get lk_m_X5_35 rfl hVx1 (c_X5_get G n v0 v1 v5 h sz sl _ hx1) rfl (Nat.le_of_ble_eq_true rfl) ⟨Nat.le_of_ble_eq_true rfl, Nat.le_of_ble_eq_true rfl⟩ ho.1 ho.2 rfl dX5_hasRow_33 ?_
    refine hv_as [.int x1] h rfl rfl ?_
    refine hv_aload_n 2 dX5_hasRow_36 rfl rfl ?_
    refine hv_iload_n 3 dX5_hasRow_37 rfl rfl ?_
    refine hv_iload 5 dX5_hasRow_38 rfl ?_
    obtain ⟨x2, hx2, hm⟩ := hp_bd hm
    obtain ⟨Vx2, hVx2⟩ := k_X5_get hx2
    refine hv_callV (As := [.int v3, .int v5]) (rest := [.int x1]) Z_X5_get I_X5_get lk_m_X5_35 rfl hVx2 (c_X5_get G n v2 v3 v5 h sz sl _ hx2) rfl (Nat.le_of_ble_eq_true rfl) ⟨Nat.le_of_ble_eq_true rfl, Nat.le_of_ble_eq_true rfl⟩ ho.1 ho.2 rfl dX5_hasRow_40 ?_
    refine hv_as [.int x2, .int x1] h rfl rfl ?_
    refine hv_icmp_eq (tgt := 48) dX5_hasRow_43 (by decide) (fun c3 => ?_) (fun c3 => ?_)
    · rw [if_pos c3] at hm
      refine hv_iinc (v5 + (1 : Int32)) 5 [(5, .int (v5 + (1 : Int32))), (0, .ref v0), (1, .int v1), (2, .ref v2), (3, .int v3), (4, .int v4)] dX5_hasRow_48 rfl rfl (by decide) rfl ?_
      refine hv_goto (tgt := 22) dX5_hasRow_51 (by decide) ?_
      exact hv_sub [1, 2, 3, 4, 5, 0] rfl (kI (v5 + (1 : Int32)) (Option.some.inj hm).symm)
    · rw [if_neg c3] at hm
      refine hv_iconst (0 : Int32) dX5_hasRow_46 (by decide) ?_
      obtain rfl := kR _ (Option.some.inj hm).symm
      exact hv_zret rfl (by decide) dX5_hasRow_47
def fL_X5_hasRow_22 (n : Nat) (v0 : Nat) (v1 : Int32) (v2 : Nat) (v3 : Int32) (v4 : Int32) (h : hp_H) (s : Int32) : Option ((Int32) ⊕ (Int32)) := f_X5_hasRow_22 n v0 v1 v2 v3 v4 s h
theorem l_X5_hasRow_22 (G : hp_G) (n : Nat) (v0 : Nat) (v1 : Int32) (v2 : Nat) (v3 : Int32) (v4 : Int32) (h : hp_H) (sz sl : Nat) (o : hp_O) (ho : sz ≤ o.2.2.1 ∧ sl ≤ o.2.2.2) : ∀ (k : Nat) (s : Int32) (x : Int32), hp_lp (fL_X5_hasRow_22 n v0 v1 v2 v3 v4 h) k s = some x → (∀ y : Int32, x = y → o = (some (.int y), h, sz, sl)) → hp_V G m_X5_hasRow 22 [(0, .ref v0), (1, .int v1), (2, .ref v2), (3, .int v3), (4, .int v4), (5, .int s)] [] h sz sl o := by
  intro k
  induction k with
  | zero => intro s x hx; exact (hp_lp_0 hx).elim
  | succ k ih =>
    intro s x hx k0
    obtain ⟨r, hr, hc⟩ := hp_lp_1 hx
    refine q_X5_hasRow_22 G n v0 v1 v2 v3 v4 s h sz sl o ho r hr (fun s2 e => ?_) (fun y e => ?_)
    · rcases hc with ⟨s3, e3, hx3⟩ | e3
      · have e4 := Sum.inl.inj (e.symm.trans e3)
        subst e4
        exact ih _ _ hx3 k0
      · cases (e.symm.trans e3)
    · rcases hc with ⟨s3, e3, hx3⟩ | e3
      · cases (e.symm.trans e3)
      · exact k0 y (Sum.inr.inj (e3.symm.trans e))
def f_X5_hasRow_0 (n : Nat) (v0 : Nat) (v1 : Int32) (v2 : Nat) (v3 : Int32) (h : hp_H) : Option (Int32) :=
  (f_X5_size n v0 v1 h).bind fun x1 =>
  (f_X5_size n v2 v3 h).bind fun x2 =>
  if x1 = x2 then
    (hp_lp (fL_X5_hasRow_22 n v0 v1 v2 v3 x1 h) n (0 : Int32)).bind fun x3 =>
    some x3
  else
    some (0 : Int32)
set_option maxHeartbeats 1000000 in
set_option maxRecDepth 4000 in
theorem q_X5_hasRow_0 (G : hp_G) (n : Nat) (v0 : Nat) (v1 : Int32) (v2 : Nat) (v3 : Int32) (h : hp_H) (sz sl : Nat) (res : Int32) (hm : f_X5_hasRow_0 n v0 v1 v2 v3 h = some res) : hp_V G m_X5_hasRow 0 [(0, .ref v0), (1, .int v1), (2, .ref v2), (3, .int v3)] [] h sz sl (some (.int res), h, sz, sl) := by
  have ho : sz ≤ sz ∧ sl ≤ sl := ⟨Nat.le_refl _, Nat.le_refl _⟩
  unfold f_X5_hasRow_0 at hm
  refine hv_aload_n 0 dX5_hasRow_0 rfl rfl ?_
  refine hv_iload_n 1 dX5_hasRow_1 rfl rfl ?_
  obtain ⟨x1, hx1, hm⟩ := hp_bd hm
  obtain ⟨Vx1, hVx1⟩ := k_X5_size hx1
  refine hv_callV (As := [.int v1]) (rest := []) Z_X5_size I_X5_size lk_m_X5_31 rfl hVx1 (c_X5_size G n v0 v1 h sz sl _ hx1) rfl (Nat.le_of_ble_eq_true rfl) ⟨Nat.le_of_ble_eq_true rfl, Nat.le_of_ble_eq_true rfl⟩ ho.1 ho.2 rfl dX5_hasRow_2 ?_
  refine hv_as [.int x1] h rfl rfl ?_
  refine hv_istore [(4, .int x1), (0, .ref v0), (1, .int v1), (2, .ref v2), (3, .int v3)] dX5_hasRow_5 (by decide) rfl ?_
  refine hv_iload 0 dX5_hasRow_7 rfl ?_
  refine hv_aload_n 3 dX5_hasRow_9 rfl rfl ?_
  refine hv_iload_n 4 dX5_hasRow_10 rfl rfl ?_
  obtain ⟨x2, hx2, hm⟩ := hp_bd hm
  obtain ⟨Vx2, hVx2⟩ := k_X5_size hx2
  refine hv_callV (As := [.int v3]) (rest := [.int x1]) Z_X5_size I_X5_size lk_m_X5_31 rfl hVx2 (c_X5_size G n v2 v3 h sz sl _ hx2) rfl (Nat.le_of_ble_eq_true rfl) ⟨Nat.le_of_ble_eq_true rfl, Nat.le_of_ble_eq_true rfl⟩ ho.1 ho.2 rfl dX5_hasRow_11 ?_
  refine hv_as [.int x2, .int x1] h rfl rfl ?_
  refine hv_icmp_eq (tgt := 19) dX5_hasRow_14 (by decide) (fun c5 => ?_) (fun c5 => ?_)
  · rw [if_pos c5] at hm
    refine hv_iconst (0 : Int32) dX5_hasRow_19 (by decide) ?_
    refine hv_istore [(5, .int (0 : Int32)), (4, .int x1), (0, .ref v0), (1, .int v1), (2, .ref v2), (3, .int v3)] dX5_hasRow_20 (by decide) rfl ?_
    obtain ⟨x3, hx3, hm⟩ := hp_bd hm
    refine hv_sub [2, 3, 4, 5, 1, 0] rfl (l_X5_hasRow_22 G n v0 v1 v2 v3 x1 h sz sl _ ho n _ _ hx3 (fun y4 ey4 => ?_))
    · skip
      subst ey4
      obtain rfl := Option.some.inj hm
      rfl
  · rw [if_neg c5] at hm
    refine hv_iconst (0 : Int32) dX5_hasRow_17 (by decide) ?_
    obtain rfl := Option.some.inj hm
    exact hv_zret rfl (by decide) dX5_hasRow_18
def f_X5_hasRow (n : Nat) (v0 : Nat) (v1 : Int32) (v2 : Nat) (v3 : Int32) (h : hp_H) : Option (Int32) := (hp_ck h 5 v0).bind fun _ => f_X5_hasRow_0 n v0 v1 v2 v3 h
theorem c_X5_hasRow (G : hp_G) (n : Nat) (v0 : Nat) (v1 : Int32) (v2 : Nat) (v3 : Int32) (h : hp_H) (sz sl : Nat) (res : Int32) (hm : f_X5_hasRow n v0 v1 v2 v3 h = some res) : hp_C G m_X5_hasRow yX5_hasRow [.ref v0, .int v1, .ref v2, .int v3] h sz sl (some (.int res), h, sz, sl) := by
  unfold f_X5_hasRow at hm
  obtain ⟨_, _, hm⟩ := hp_bd hm
  exact hp_C_of (by decide) rfl rfl (Nat.le_of_ble_eq_true rfl) (Nat.le_refl _) (Nat.le_refl _) (hv_sub [0, 1, 2, 3] rfl (q_X5_hasRow_0 G n v0 v1 v2 v3 h sz sl res hm))
theorem k_X5_hasRow {n : Nat} {v0 : Nat} {v1 : Int32} {v2 : Nat} {v3 : Int32} {h : hp_H} {res : Int32} (hm : f_X5_hasRow n v0 v1 v2 v3 h = some res) : ∃ V, h v0 = some (.inr (.inr (5, V))) := by
  unfold f_X5_hasRow at hm
  obtain ⟨_, hu, _⟩ := hp_bd hm
  exact hp_ck_spec hu
