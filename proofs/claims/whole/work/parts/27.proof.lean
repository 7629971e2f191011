abbrev m_X3_init : hp_M := (RX3, cX3_init, 2, none, 1, 30, "<init>")
theorem Z_X3_init : hp_Y yX3_init m_X3_init 1 := Y_X3_init
def f_X3_init_37 (n : Nat) (v0 : Nat) (v1 : Nat) (s0 : Nat) (s1 : Nat) (h : hp_H) (sz sl : Nat) : Option (hp_H × Nat × Nat) :=
  (hp_pF h 3 s1 9 (.ref s0)).bind fun h1 =>
  (hp_pF h1 3 v0 6 (.ref v1)).bind fun h2 =>
  some (h2, sz, sl)
set_option maxHeartbeats 1000000 in
set_option maxRecDepth 4000 in
theorem mo_X3_init_37 {n : Nat} {v0 : Nat} {v1 : Nat} {s0 : Nat} {s1 : Nat} {h : hp_H} {sz sl : Nat} {res : hp_H × Nat × Nat} (hm : f_X3_init_37 n v0 v1 s0 s1 h sz sl = some res) : sz ≤ res.2.1 ∧ sl ≤ res.2.2 := by
  unfold f_X3_init_37 at hm
  obtain ⟨h1, hh1, hm⟩ := hp_bd hm
  obtain ⟨h2, hh2, hm⟩ := hp_bd hm
  obtain rfl := Option.some.inj hm
  exact ⟨Nat.le_refl _, Nat.le_refl _⟩
set_option maxHeartbeats 1000000 in
set_option maxRecDepth 4000 in
theorem q_X3_init_37 (G : hp_G) (n : Nat) (v0 : Nat) (v1 : Nat) (s0 : Nat) (s1 : Nat) (h : hp_H) (sz sl : Nat) (res : hp_H × Nat × Nat) (hm : f_X3_init_37 n v0 v1 s0 s1 h sz sl = some res) : hp_V G m_X3_init 37 [(0, .ref v0), (1, .ref v1)] [.ref s0, .ref s1] h sz sl (none, res.1, res.2.1, res.2.2) := by
  have ho := mo_X3_init_37 hm
  unfold f_X3_init_37 at hm
  obtain ⟨h1, hh1, hm⟩ := hp_bd hm
  refine hv_putF lk_f_X3_22 (by intro C T N e; cases e; rfl) rfl dX3_init_37 rfl rfl hh1 ?_
  refine hv_aload_n 0 dX3_init_40 rfl rfl ?_
  refine hv_aload_n 1 dX3_init_41 rfl rfl ?_
  obtain ⟨h2, hh2, hm⟩ := hp_bd hm
  refine hv_put lk_f_X3_25 dX3_init_42 rfl rfl hh2 ?_
  obtain rfl := Option.some.inj hm
  exact hv_vret rfl dX3_init_45
def f_X3_init_28 (n : Nat) (v0 : Nat) (v1 : Nat) (s0 : Nat) (s1 : Nat) (h : hp_H) (sz sl : Nat) : Option (hp_H × Nat × Nat) :=
  (hp_pF h 3 s1 7 (.ref s0)).bind fun h1 =>
  f_X3_init_37 n v0 v1 sz v0 (hp_na h1 sz 1 200) (sz + 1) (sl + 200)
set_option maxHeartbeats 1000000 in
set_option maxRecDepth 4000 in
theorem mo_X3_init_28 {n : Nat} {v0 : Nat} {v1 : Nat} {s0 : Nat} {s1 : Nat} {h : hp_H} {sz sl : Nat} {res : hp_H × Nat × Nat} (hm : f_X3_init_28 n v0 v1 s0 s1 h sz sl = some res) : sz ≤ res.2.1 ∧ sl ≤ res.2.2 := by
  unfold f_X3_init_28 at hm
  obtain ⟨h1, hh1, hm⟩ := hp_bd hm
  exact hp_tr ⟨Nat.le_add_right _ _, Nat.le_add_right _ _⟩ (mo_X3_init_37 hm)
set_option maxHeartbeats 1000000 in
set_option maxRecDepth 4000 in
theorem q_X3_init_28 (G : hp_G) (n : Nat) (v0 : Nat) (v1 : Nat) (s0 : Nat) (s1 : Nat) (h : hp_H) (sz sl : Nat) (res : hp_H × Nat × Nat) (hm : f_X3_init_28 n v0 v1 s0 s1 h sz sl = some res) : hp_V G m_X3_init 28 [(0, .ref v0), (1, .ref v1)] [.ref s0, .ref s1] h sz sl (none, res.1, res.2.1, res.2.2) := by
  have ho := mo_X3_init_28 hm
  unfold f_X3_init_28 at hm
  obtain ⟨h1, hh1, hm⟩ := hp_bd hm
  refine hv_putF lk_f_X3_19 (by intro C T N e; cases e; rfl) rfl dX3_init_28 rfl rfl hh1 ?_
  refine hv_aload_n 0 dX3_init_31 rfl rfl ?_
  refine hv_sipush (200 : Int32) dX3_init_32 (by decide) ?_
  have hq := mo_X3_init_37 hm
  refine hv_newB (N := 200) ac_byte (by decide) (by decide) dX3_init_35 hq.1 hq.2 ?_
  exact hv_sub [0, 1] rfl (q_X3_init_37 G n v0 v1 sz v0 (hp_na h1 sz 1 200) (sz + 1) (sl + 200) _ hm)
def f_X3_init_19 (n : Nat) (v0 : Nat) (v1 : Nat) (s0 : Nat) (s1 : Nat) (h : hp_H) (sz sl : Nat) : Option (hp_H × Nat × Nat) :=
  (hp_pF h 3 s1 4 (.ref s0)).bind fun h1 =>
  f_X3_init_28 n v0 v1 sz v0 (hp_na h1 sz 0 200) (sz + 1) (sl + 200)
set_option maxHeartbeats 1000000 in
set_option maxRecDepth 4000 in
theorem mo_X3_init_19 {n : Nat} {v0 : Nat} {v1 : Nat} {s0 : Nat} {s1 : Nat} {h : hp_H} {sz sl : Nat} {res : hp_H × Nat × Nat} (hm : f_X3_init_19 n v0 v1 s0 s1 h sz sl = some res) : sz ≤ res.2.1 ∧ sl ≤ res.2.2 := by
  unfold f_X3_init_19 at hm
  obtain ⟨h1, hh1, hm⟩ := hp_bd hm
  exact hp_tr ⟨Nat.le_add_right _ _, Nat.le_add_right _ _⟩ (mo_X3_init_28 hm)
set_option maxHeartbeats 1000000 in
set_option maxRecDepth 4000 in
theorem q_X3_init_19 (G : hp_G) (n : Nat) (v0 : Nat) (v1 : Nat) (s0 : Nat) (s1 : Nat) (h : hp_H) (sz sl : Nat) (res : hp_H × Nat × Nat) (hm : f_X3_init_19 n v0 v1 s0 s1 h sz sl = some res) : hp_V G m_X3_init 19 [(0, .ref v0), (1, .ref v1)] [.ref s0, .ref s1] h sz sl (none, res.1, res.2.1, res.2.2) := by
  have ho := mo_X3_init_19 hm
  unfold f_X3_init_19 at hm
  obtain ⟨h1, hh1, hm⟩ := hp_bd hm
  refine hv_putF lk_f_X3_15 (by intro C T N e; cases e; rfl) rfl dX3_init_19 rfl rfl hh1 ?_
  refine hv_aload_n 0 dX3_init_22 rfl rfl ?_
  refine hv_sipush (200 : Int32) dX3_init_23 (by decide) ?_
  have hq := mo_X3_init_28 hm
  refine hv_newI (N := 200) ac_int (by decide) (by decide) dX3_init_26 hq.1 hq.2 ?_
  exact hv_sub [0, 1] rfl (q_X3_init_28 G n v0 v1 sz v0 (hp_na h1 sz 0 200) (sz + 1) (sl + 200) _ hm)
def f_X3_init_10 (n : Nat) (v0 : Nat) (v1 : Nat) (s0 : Nat) (s1 : Nat) (h : hp_H) (sz sl : Nat) : Option (hp_H × Nat × Nat) :=
  (hp_pF h 3 s1 3 (.ref s0)).bind fun h1 =>
  f_X3_init_19 n v0 v1 sz v0 (hp_na h1 sz 1 1000) (sz + 1) (sl + 1000)
set_option maxHeartbeats 1000000 in
set_option maxRecDepth 4000 in
theorem mo_X3_init_10 {n : Nat} {v0 : Nat} {v1 : Nat} {s0 : Nat} {s1 : Nat} {h : hp_H} {sz sl : Nat} {res : hp_H × Nat × Nat} (hm : f_X3_init_10 n v0 v1 s0 s1 h sz sl = some res) : sz ≤ res.2.1 ∧ sl ≤ res.2.2 := by
  unfold f_X3_init_10 at hm
  obtain ⟨h1, hh1, hm⟩ := hp_bd hm
  exact hp_tr ⟨Nat.le_add_right _ _, Nat.le_add_right _ _⟩ (mo_X3_init_19 hm)
set_option maxHeartbeats 1000000 in
set_option maxRecDepth 4000 in
theorem q_X3_init_10 (G : hp_G) (n : Nat) (v0 : Nat) (v1 : Nat) (s0 : Nat) (s1 : Nat) (h : hp_H) (sz sl : Nat) (res : hp_H × Nat × Nat) (hm : f_X3_init_10 n v0 v1 s0 s1 h sz sl = some res) : hp_V G m_X3_init 10 [(0, .ref v0), (1, .ref v1)] [.ref s0, .ref s1] h sz sl (none, res.1, res.2.1, res.2.2) := by
  have ho := mo_X3_init_10 hm
  unfold f_X3_init_10 at hm
  obtain ⟨h1, hh1, hm⟩ := hp_bd hm
  refine hv_putF lk_f_X3_9 (by intro C T N e; cases e; rfl) rfl dX3_init_10 rfl rfl hh1 ?_
  refine hv_aload_n 0 dX3_init_13 rfl rfl ?_
  refine hv_sipush (1000 : Int32) dX3_init_14 (by decide) ?_
  have hq := mo_X3_init_19 hm
  refine hv_newB (N := 1000) ac_byte (by decide) (by decide) dX3_init_17 hq.1 hq.2 ?_
  exact hv_sub [0, 1] rfl (q_X3_init_19 G n v0 v1 sz v0 (hp_na h1 sz 1 1000) (sz + 1) (sl + 1000) _ hm)
def f_X3_init_0 (n : Nat) (v0 : Nat) (v1 : Nat) (h : hp_H) (sz sl : Nat) : Option (hp_H × Nat × Nat) :=
  f_X3_init_10 n v0 v1 sz v0 (hp_na h sz 0 1000) (sz + 1) (sl + 1000)
set_option maxHeartbeats 1000000 in
set_option maxRecDepth 4000 in
theorem mo_X3_init_0 {n : Nat} {v0 : Nat} {v1 : Nat} {h : hp_H} {sz sl : Nat} {res : hp_H × Nat × Nat} (hm : f_X3_init_0 n v0 v1 h sz sl = some res) : sz ≤ res.2.1 ∧ sl ≤ res.2.2 := by
  unfold f_X3_init_0 at hm
  exact hp_tr ⟨Nat.le_add_right _ _, Nat.le_add_right _ _⟩ (mo_X3_init_10 hm)
set_option maxHeartbeats 1000000 in
set_option maxRecDepth 4000 in
theorem q_X3_init_0 (G : hp_G) (n : Nat) (v0 : Nat) (v1 : Nat) (h : hp_H) (sz sl : Nat) (res : hp_H × Nat × Nat) (hm : f_X3_init_0 n v0 v1 h sz sl = some res) : hp_V G m_X3_init 0 [(0, .ref v0), (1, .ref v1)] [] h sz sl (none, res.1, res.2.1, res.2.2) := by
  have ho := mo_X3_init_0 hm
  unfold f_X3_init_0 at hm
  refine hv_aload_n 0 dX3_init_0 rfl rfl ?_
  refine hv_objInit lk_o_X3_3 ⟨Nat.le_of_ble_eq_true rfl, Nat.le_of_ble_eq_true rfl⟩ dX3_init_1 ?_
  refine hv_aload_n 0 dX3_init_4 rfl rfl ?_
  refine hv_sipush (1000 : Int32) dX3_init_5 (by decide) ?_
  have hq := mo_X3_init_10 hm
  refine hv_newI (N := 1000) ac_int (by decide) (by decide) dX3_init_8 hq.1 hq.2 ?_
  exact hv_sub [0, 1] rfl (q_X3_init_10 G n v0 v1 sz v0 (hp_na h sz 0 1000) (sz + 1) (sl + 1000) _ hm)
def f_X3_init (n : Nat) (v0 : Nat) (v1 : Nat) (h : hp_H) (sz sl : Nat) : Option (hp_H × Nat × Nat) := (hp_ck h 3 v0).bind fun _ => f_X3_init_0 n v0 v1 h sz sl
theorem c_X3_init (G : hp_G) (n : Nat) (v0 : Nat) (v1 : Nat) (h : hp_H) (sz sl : Nat) (res : hp_H × Nat × Nat) (hm : f_X3_init n v0 v1 h sz sl = some res) : hp_C G m_X3_init yX3_init [.ref v0, .ref v1] h sz sl (none, res.1, res.2.1, res.2.2) := by
  unfold f_X3_init at hm
  obtain ⟨_, _, hm⟩ := hp_bd hm
  exact hp_C_of (by decide) rfl rfl (Nat.le_of_ble_eq_true rfl) (mo_X3_init_0 hm).1 (mo_X3_init_0 hm).2 (hv_sub [0, 1] rfl (q_X3_init_0 G n v0 v1 h sz sl res hm))
theorem k_X3_init {n : Nat} {v0 : Nat} {v1 : Nat} {h : hp_H} {sz sl : Nat} {res : hp_H × Nat × Nat} (hm : f_X3_init n v0 v1 h sz sl = some res) : ∃ V, h v0 = some (.inr (.inr (3, V))) := by
  unfold f_X3_init at hm
  obtain ⟨_, hu, _⟩ := hp_bd hm
  exact hp_ck_spec hu
theorem mx_X3_init {n : Nat} {v0 : Nat} {v1 : Nat} {h : hp_H} {sz sl : Nat} {res : hp_H × Nat × Nat} (hm : f_X3_init n v0 v1 h sz sl = some res) : sz ≤ res.2.1 ∧ sl ≤ res.2.2 := by
  unfold f_X3_init at hm
  obtain ⟨_, _, hm⟩ := hp_bd hm
  exact mo_X3_init_0 hm
abbrev m_X3_isOpen : hp_M := (RX3, cX3_isOpen, 4, some .boolean, 2, 46, "isOpen")
theorem Z_X3_isOpen : hp_Y yX3_isOpen m_X3_isOpen 0 := Y_X3_isOpen
def f_X3_isOpen_17 (n : Nat) (v0 : Nat) (v1 : Int32) (v2 : Int32) (h : hp_H) : Option ((Int32) ⊕ ((Unit) ⊕ (Int32))) :=
  if v1 ≤ v2 then
    some (.inr (.inl ()))
  else
    (hp_fR h 3 v0 6).bind fun x1 =>
    (hp_fI h 3 v0 0).bind fun x2 =>
    (f_X0_isJust n x1 x2 v2 (63 : Int32) h).bind fun x3 =>
    if x3 = 0 then
      some (.inl (v2 + (1 : Int32)))
    else
      some (.inr (.inr (1 : Int32)))
set_option maxHeartbeats 1000000 in
set_option maxRecDepth 4000 in
theorem q_X3_isOpen_17 (G : hp_G) (n : Nat) (v0 : Nat) (v1 : Int32) (v2 : Int32) (h : hp_H) (sz sl : Nat) (o : hp_O) (ho : sz ≤ o.2.2.1 ∧ sl ≤ o.2.2.2) (res : (Int32) ⊕ ((Unit) ⊕ (Int32))) (hm : f_X3_isOpen_17 n v0 v1 v2 h = some res) (kI : ∀ y : Int32, res = .inl y → hp_V G m_X3_isOpen 17 [(0, .ref v0), (1, .int v1), (2, .int y)] [] h sz sl o) (kX0 : ∀ y : Unit, res = .inr (.inl y) → hp_V G m_X3_isOpen 47 [(0, .ref v0), (1, .int v1)] [] h sz sl o) (kR : ∀ y : Int32, res = .inr (.inr y) → o = (some (.int y), h, sz, sl)) : hp_V G m_X3_isOpen 17 [(0, .ref v0), (1, .int v1), (2, .int v2)] [] h sz sl o := by
  unfold f_X3_isOpen_17 at hm
  refine hv_iload_n 2 dX3_isOpen_17 rfl rfl ?_
  refine hv_iload_n 1 dX3_isOpen_18 rfl rfl ?_
  refine hv_icmp_ge (tgt := 47) dX3_isOpen_19 (by decide) (fun c5 => ?_) (fun c5 => ?_)
  · rw [if_pos c5] at hm
    exact hv_sub [0, 1] rfl (kX0 () (Option.some.inj hm).symm)
  · rw [if_neg c5] at hm
    refine hv_aload_n 0 dX3_isOpen_22 rfl rfl ?_
    obtain ⟨x1, hx1, hm⟩ := hp_bd hm
    refine hv_get lk_f_X3_25 dX3_isOpen_23 (hp_fR_spec hx1) ?_
    refine hv_aload_n 0 dX3_isOpen_26 rfl rfl ?_
    obtain ⟨x2, hx2, hm⟩ := hp_bd hm
    refine hv_get lk_f_X3_29 dX3_isOpen_27 (hp_fI_spec hx2) ?_
    refine hv_iload_n 2 dX3_isOpen_30 rfl rfl ?_
    refine hv_bipush (63 : Int32) dX3_isOpen_31 (by decide) ?_
    obtain ⟨x3, hx3, hm⟩ := hp_bd hm
    obtain ⟨Vx3, hVx3⟩ := k_X0_isJust hx3
    refine hv_callV (As := [.int x2, .int v2, .int (63 : Int32)]) (rest := []) Z_X0_isJust I_X0_isJust lk_m_X3_71 rfl hVx3 (c_X0_isJust G n x1 x2 v2 (63 : Int32) h sz sl _ hx3) rfl (Nat.le_of_ble_eq_true rfl) ⟨Nat.le_of_ble_eq_true rfl, Nat.le_of_ble_eq_true rfl⟩ ho.1 ho.2 rfl dX3_isOpen_33 ?_
    refine hv_as [.int x3] h rfl rfl ?_
    refine hv_if_eq (tgt := 41) dX3_isOpen_36 (by decide) (fun c4 => ?_) (fun c4 => ?_)
    · rw [if_pos c4] at hm
      refine hv_iinc (v2 + (1 : Int32)) 2 [(2, .int (v2 + (1 : Int32))), (0, .ref v0), (1, .int v1)] dX3_isOpen_41 rfl rfl (by decide) rfl ?_
      refine hv_goto (tgt := 17) dX3_isOpen_44 (by decide) ?_
      exact hv_sub [1, 2, 0] rfl (kI (v2 + (1 : Int32)) (Option.some.inj hm).symm)
    · rw [if_neg c4] at hm
      refine hv_iconst (1 : Int32) dX3_isOpen_39 (by decide) ?_
      obtain rfl := kR _ (Option.some.inj hm).symm
      exact hv_zret rfl (by decide) dX3_isOpen_40
def fL_X3_isOpen_17 (n : Nat) (v0 : Nat) (v1 : Int32) (h : hp_H) (s : Int32) : Option ((Int32) ⊕ ((Unit) ⊕ (Int32))) := f_X3_isOpen_17 n v0 v1 s h
theorem l_X3_isOpen_17 (G : hp_G) (n : Nat) (v0 : Nat) (v1 : Int32) (h : hp_H) (sz sl : Nat) (o : hp_O) (ho : sz ≤ o.2.2.1 ∧ sl ≤ o.2.2.2) : ∀ (k : Nat) (s : Int32) (x : (Unit) ⊕ (Int32)), hp_lp (fL_X3_isOpen_17 n v0 v1 h) k s = some x → (∀ y : Unit, x = (.inl y) → hp_V G m_X3_isOpen 47 [(0, .ref v0), (1, .int v1)] [] h sz sl o) → (∀ y : Int32, x = (.inr y) → o = (some (.int y), h, sz, sl)) → hp_V G m_X3_isOpen 17 [(0, .ref v0), (1, .int v1), (2, .int s)] [] h sz sl o := by
  intro k
  induction k with
  | zero => intro s x hx; exact (hp_lp_0 hx).elim
  | succ k ih =>
    intro s x hx k0 k1
    obtain ⟨r, hr, hc⟩ := hp_lp_1 hx
    refine q_X3_isOpen_17 G n v0 v1 s h sz sl o ho r hr (fun s2 e => ?_) (fun y e => ?_) (fun y e => ?_)
    · rcases hc with ⟨s3, e3, hx3⟩ | e3
      · have e4 := Sum.inl.inj (e.symm.trans e3)
        subst e4
        exact ih _ _ hx3 k0 k1
      · cases (e.symm.trans e3)
    · rcases hc with ⟨s3, e3, hx3⟩ | e3
      · cases (e.symm.trans e3)
      · exact k0 y (Sum.inr.inj (e3.symm.trans e))
    · rcases hc with ⟨s3, e3, hx3⟩ | e3
      · cases (e.symm.trans e3)
      · exact k1 y (Sum.inr.inj (e3.symm.trans e))
def f_X3_isOpen_81 (n : Nat) (v0 : Nat) (v1 : Int32) (v2 : Int32) (v3 : Int32) (h : hp_H) : Option ((Int32) ⊕ ((Unit) ⊕ (Int32))) :=
  (hp_fR h 3 v0 6).bind fun x1 =>
  (hp_fI h 0 x1 2).bind fun x2 =>
  if x2 ≤ v3 then
    some (.inr (.inl ()))
  else
    (hp_fR h 3 v0 6).bind fun x3 =>
    (f_X0_isInToken n x3 v3 h).bind fun x4 =>
    if x4 = 0 then
      some (.inr (.inl ()))
    else
      (hp_fR h 3 v0 6).bind fun x5 =>
      (hp_fR h 0 x5 1).bind fun x6 =>
      (hp_aI h 1 x6 v3).bind fun x7 =>
      if x7 = (63 : Int32) then
        some (.inr (.inr (1 : Int32)))
      else
        some (.inl (v3 + (1 : Int32)))
set_option maxHeartbeats 1000000 in
set_option maxRecDepth 4000 in
theorem q_X3_isOpen_81 (G : hp_G) (n : Nat) (v0 : Nat) (v1 : Int32) (v2 : Int32) (v3 : Int32) (h : hp_H) (sz sl : Nat) (o : hp_O) (ho : sz ≤ o.2.2.1 ∧ sl ≤ o.2.2.2) (res : (Int32) ⊕ ((Unit) ⊕ (Int32))) (hm : f_X3_isOpen_81 n v0 v1 v2 v3 h = some res) (kI : ∀ y : Int32, res = .inl y → hp_V G m_X3_isOpen 81 [(0, .ref v0), (1, .int v1), (2, .int v2), (3, .int y)] [] h sz sl o) (kX0 : ∀ y : Unit, res = .inr (.inl y) → hp_V G m_X3_isOpen 125 [(0, .ref v0), (1, .int v1), (2, .int v2)] [] h sz sl o) (kR : ∀ y : Int32, res = .inr (.inr y) → o = (some (.int y), h, sz, sl)) : hp_V G m_X3_isOpen 81 [(0, .ref v0), (1, .int v1), (2, .int v2), (3, .int v3)] [] h sz sl o := by
  unfold f_X3_isOpen_81 at hm
  refine hv_iload_n 3 dX3_isOpen_81 rfl rfl ?_
  refine hv_aload_n 0 dX3_isOpen_82 rfl rfl ?_
  obtain ⟨x1, hx1, hm⟩ := hp_bd hm
  refine hv_get lk_f_X3_25 dX3_isOpen_83 (hp_fR_spec hx1) ?_
  obtain ⟨x2, hx2, hm⟩ := hp_bd hm
  refine hv_get lk_f_X3_82 dX3_isOpen_86 (hp_fI_spec hx2) ?_
  refine hv_icmp_ge (tgt := 125) dX3_isOpen_89 (by decide) (fun c10 => ?_) (fun c10 => ?_)
  · rw [if_pos c10] at hm
    exact hv_sub [0, 1, 2] rfl (kX0 () (Option.some.inj hm).symm)
  · rw [if_neg c10] at hm
    refine hv_aload_n 0 dX3_isOpen_92 rfl rfl ?_
    obtain ⟨x3, hx3, hm⟩ := hp_bd hm
    refine hv_get lk_f_X3_25 dX3_isOpen_93 (hp_fR_spec hx3) ?_
    refine hv_iload_n 3 dX3_isOpen_96 rfl rfl ?_
    obtain ⟨x4, hx4, hm⟩ := hp_bd hm
    obtain ⟨Vx4, hVx4⟩ := k_X0_isInToken hx4
    refine hv_callV (As := [.int v3]) (rest := []) Z_X0_isInToken I_X0_isInToken lk_m_X3_85 rfl hVx4 (c_X0_isInToken G n x3 v3 h sz sl _ hx4) rfl (Nat.le_of_ble_eq_true rfl) ⟨Nat.le_of_ble_eq_true rfl, Nat.le_of_ble_eq_true rfl⟩ ho.1 ho.2 rfl dX3_isOpen_97 ?_
    refine hv_as [.int x4] h rfl rfl ?_
    refine hv_if_eq (tgt := 125) dX3_isOpen_100 (by decide) (fun c9 => ?_) (fun c9 => ?_)
    · rw [if_pos c9] at hm
      exact hv_sub [0, 1, 2] rfl (kX0 () (Option.some.inj hm).symm)
    · rw [if_neg c9] at hm
      refine hv_aload_n 0 dX3_isOpen_103 rfl rfl ?_
      obtain ⟨x5, hx5, hm⟩ := hp_bd hm
      refine hv_get lk_f_X3_25 dX3_isOpen_104 (hp_fR_spec hx5) ?_
      obtain ⟨x6, hx6, hm⟩ := hp_bd hm
      refine hv_get lk_f_X3_89 dX3_isOpen_107 (hp_fR_spec hx6) ?_
      refine hv_iload_n 3 dX3_isOpen_110 rfl rfl ?_
      obtain ⟨x7, hx7, hm⟩ := hp_bd hm
      refine hv_bald dX3_isOpen_111 hx7 ?_
      refine hv_bipush (63 : Int32) dX3_isOpen_112 (by decide) ?_
      refine hv_icmp_ne (tgt := 119) dX3_isOpen_114 (by decide) (fun c8 => ?_) (fun c8 => ?_)
      · rw [if_neg c8] at hm
        refine hv_iinc (v3 + (1 : Int32)) 3 [(3, .int (v3 + (1 : Int32))), (0, .ref v0), (1, .int v1), (2, .int v2)] dX3_isOpen_119 rfl rfl (by decide) rfl ?_
        refine hv_goto (tgt := 81) dX3_isOpen_122 (by decide) ?_
        exact hv_sub [1, 2, 3, 0] rfl (kI (v3 + (1 : Int32)) (Option.some.inj hm).symm)
      · rw [if_pos c8] at hm
        refine hv_iconst (1 : Int32) dX3_isOpen_117 (by decide) ?_
        obtain rfl := kR _ (Option.some.inj hm).symm
        exact hv_zret rfl (by decide) dX3_isOpen_118
def fL_X3_isOpen_81 (n : Nat) (v0 : Nat) (v1 : Int32) (v2 : Int32) (h : hp_H) (s : Int32) : Option ((Int32) ⊕ ((Unit) ⊕ (Int32))) := f_X3_isOpen_81 n v0 v1 v2 s h
theorem l_X3_isOpen_81 (G : hp_G) (n : Nat) (v0 : Nat) (v1 : Int32) (v2 : Int32) (h : hp_H) (sz sl : Nat) (o : hp_O) (ho : sz ≤ o.2.2.1 ∧ sl ≤ o.2.2.2) : ∀ (k : Nat) (s : Int32) (x : (Unit) ⊕ (Int32)), hp_lp (fL_X3_isOpen_81 n v0 v1 v2 h) k s = some x → (∀ y : Unit, x = (.inl y) → hp_V G m_X3_isOpen 125 [(0, .ref v0), (1, .int v1), (2, .int v2)] [] h sz sl o) → (∀ y : Int32, x = (.inr y) → o = (some (.int y), h, sz, sl)) → hp_V G m_X3_isOpen 81 [(0, .ref v0), (1, .int v1), (2, .int v2), (3, .int s)] [] h sz sl o := by
  intro k
  induction k with
  | zero => intro s x hx; exact (hp_lp_0 hx).elim
  | succ k ih =>
    intro s x hx k0 k1
    obtain ⟨r, hr, hc⟩ := hp_lp_1 hx
    refine q_X3_isOpen_81 G n v0 v1 v2 s h sz sl o ho r hr (fun s2 e => ?_) (fun y e => ?_) (fun y e => ?_)
    · rcases hc with ⟨s3, e3, hx3⟩ | e3
      · have e4 := Sum.inl.inj (e.symm.trans e3)
        subst e4
        exact ih _ _ hx3 k0 k1
      · cases (e.symm.trans e3)
    · rcases hc with ⟨s3, e3, hx3⟩ | e3
      · cases (e.symm.trans e3)
      · exact k0 y (Sum.inr.inj (e3.symm.trans e))
    · rcases hc with ⟨s3, e3, hx3⟩ | e3
      · cases (e.symm.trans e3)
      · exact k1 y (Sum.inr.inj (e3.symm.trans e))
def f_X3_isOpen_125 (n : Nat) (v0 : Nat) (v1 : Int32) (v2 : Int32) (h : hp_H) : Option ((Int32) ⊕ (Int32)) :=
  some (.inl (v2 + (1 : Int32)))
set_option maxHeartbeats 1000000 in
set_option maxRecDepth 4000 in
theorem q_X3_isOpen_125 (G : hp_G) (n : Nat) (v0 : Nat) (v1 : Int32) (v2 : Int32) (h : hp_H) (sz sl : Nat) (o : hp_O) (ho : sz ≤ o.2.2.1 ∧ sl ≤ o.2.2.2) (res : (Int32) ⊕ (Int32)) (hm : f_X3_isOpen_125 n v0 v1 v2 h = some res) (kI : ∀ y : Int32, res = .inl y → hp_V G m_X3_isOpen 60 [(0, .ref v0), (1, .int v1), (2, .int y)] [] h sz sl o) (kR : ∀ y : Int32, res = .inr y → o = (some (.int y), h, sz, sl)) : hp_V G m_X3_isOpen 125 [(0, .ref v0), (1, .int v1), (2, .int v2)] [] h sz sl o := by
  unfold f_X3_isOpen_125 at hm
  refine hv_iinc (v2 + (1 : Int32)) 2 [(2, .int (v2 + (1 : Int32))), (0, .ref v0), (1, .int v1)] dX3_isOpen_125 rfl rfl (by decide) rfl ?_
  refine hv_goto (tgt := 60) dX3_isOpen_128 (by decide) ?_
  exact hv_sub [1, 2, 0] rfl (kI (v2 + (1 : Int32)) (Option.some.inj hm).symm)
def f_X3_isOpen_60 (n : Nat) (v0 : Nat) (v1 : Int32) (v2 : Int32) (h : hp_H) : Option ((Int32) ⊕ (Int32)) :=
  if v1 ≤ v2 then
    some (.inr (0 : Int32))
  else
    (hp_fR h 3 v0 6).bind fun x1 =>
    (hp_fR h 0 x1 10).bind fun x2 =>
    (hp_fI h 3 v0 0).bind fun x3 =>
    (f_X5_get n x2 x3 v2 h).bind fun x4 =>
    (hp_lp (fL_X3_isOpen_81 n v0 v1 v2 h) n x4).bind fun x5 =>
    Sum.elim (fun y6 =>
      f_X3_isOpen_125 n v0 v1 v2 h) (fun y7 =>
      some (.inr y7)) x5
set_option maxHeartbeats 1000000 in
set_option maxRecDepth 4000 in
theorem q_X3_isOpen_60 (G : hp_G) (n : Nat) (v0 : Nat) (v1 : Int32) (v2 : Int32) (h : hp_H) (sz sl : Nat) (o : hp_O) (ho : sz ≤ o.2.2.1 ∧ sl ≤ o.2.2.2) (res : (Int32) ⊕ (Int32)) (hm : f_X3_isOpen_60 n v0 v1 v2 h = some res) (kI : ∀ y : Int32, res = .inl y → hp_V G m_X3_isOpen 60 [(0, .ref v0), (1, .int v1), (2, .int y)] [] h sz sl o) (kR : ∀ y : Int32, res = .inr y → o = (some (.int y), h, sz, sl)) : hp_V G m_X3_isOpen 60 [(0, .ref v0), (1, .int v1), (2, .int v2)] [] h sz sl o := by
  unfold f_X3_isOpen_60 at hm
  refine hv_iload_n 2 dX3_isOpen_60 rfl rfl ?_
  refine hv_iload_n 1 dX3_isOpen_61 rfl rfl ?_
  refine hv_icmp_ge (tgt := 131) dX3_isOpen_62 (by decide) (fun c8 => ?_) (fun c8 => ?_)
  · rw [if_pos c8] at hm
    refine hv_iconst (0 : Int32) dX3_isOpen_131 (by decide) ?_
    obtain rfl := kR _ (Option.some.inj hm).symm
    exact hv_zret rfl (by decide) dX3_isOpen_132
  · rw [if_neg c8] at hm
    refine hv_aload_n 0 dX3_isOpen_65 rfl rfl ?_
    obtain ⟨x1, hx1, hm⟩ := hp_bd hm
    refine hv_get lk_f_X3_25 dX3_isOpen_66 (hp_fR_spec hx1) ?_
    obtain ⟨x2, hx2, hm⟩ := hp_bd hm
    refine hv_get lk_f_X3_46 dX3_isOpen_69 (hp_fR_spec hx2) ?_
    refine hv_aload_n 0 dX3_isOpen_72 rfl rfl ?_
    obtain ⟨x3, hx3, hm⟩ := hp_bd hm
    refine hv_get lk_f_X3_29 dX3_isOpen_73 (hp_fI_spec hx3) ?_
    refine hv_iload_n 2 dX3_isOpen_76 rfl rfl ?_
    obtain ⟨x4, hx4, hm⟩ := hp_bd hm
    obtain ⟨Vx4, hVx4⟩ := k_X5_get hx4
    refine hv_callV (As := [.int x3, .int v2]) (rest := []) Z_X5_get I_X5_get lk_m_X3_78 rfl hVx4 (c_X5_get G n x2 x3 v2 h sz sl _ hx4) rfl (Nat.le_of_ble_eq_true rfl) ⟨Nat.le_of_ble_eq_true rfl, Nat.le_of_ble_eq_true rfl⟩ ho.1 ho.2 rfl dX3_isOpen_77 ?_
    refine hv_as [.int x4] h rfl rfl ?_
    refine hv_istore_n [(3, .int x4), (0, .ref v0), (1, .int v1), (2, .int v2)] dX3_isOpen_80 rfl (by decide) rfl ?_
    obtain ⟨x5, hx5, hm⟩ := hp_bd hm
    refine hv_sub [1, 2, 3, 0] rfl (l_X3_isOpen_81 G n v0 v1 v2 h sz sl _ ho n _ _ hx5 (fun y6 ey6 => ?_) (fun y7 ey7 => ?_))
    · skip
      subst ey6
      simp only [Sum.elim_inl, Sum.elim_inr] at hm
      exact hv_sub [0, 1, 2] rfl (q_X3_isOpen_125 G n v0 v1 v2 h sz sl o ho _ hm kI kR)
    · skip
      subst ey7
      simp only [Sum.elim_inl, Sum.elim_inr] at hm
      exact kR _ (Option.some.inj hm).symm
def fL_X3_isOpen_60 (n : Nat) (v0 : Nat) (v1 : Int32) (h : hp_H) (s : Int32) : Option ((Int32) ⊕ (Int32)) := f_X3_isOpen_60 n v0 v1 s h
theorem l_X3_isOpen_60 (G : hp_G) (n : Nat) (v0 : Nat) (v1 : Int32) (h : hp_H) (sz sl : Nat) (o : hp_O) (ho : sz ≤ o.2.2.1 ∧ sl ≤ o.2.2.2) : ∀ (k : Nat) (s : Int32) (x : Int32), hp_lp (fL_X3_isOpen_60 n v0 v1 h) k s = some x → (∀ y : Int32, x = y → o = (some (.int y), h, sz, sl)) → hp_V G m_X3_isOpen 60 [(0, .ref v0), (1, .int v1), (2, .int s)] [] h sz sl o := by
  intro k
  induction k with
  | zero => intro s x hx; exact (hp_lp_0 hx).elim
  | succ k ih =>
    intro s x hx k0
    obtain ⟨r, hr, hc⟩ := hp_lp_1 hx
    refine q_X3_isOpen_60 G n v0 v1 s h sz sl o ho r hr (fun s2 e => ?_) (fun y e => ?_)
    · rcases hc with ⟨s3, e3, hx3⟩ | e3
      · have e4 := Sum.inl.inj (e.symm.trans e3)
        subst e4
        exact ih _ _ hx3 k0
      · cases (e.symm.trans e3)
    · rcases hc with ⟨s3, e3, hx3⟩ | e3
      · cases (e.symm.trans e3)
      · exact k0 y (Sum.inr.inj (e3.symm.trans e))
def f_X3_isOpen_0 (n : Nat) (v0 : Nat) (h : hp_H) : Option (Int32) :=
  (hp_fR h 3 v0 6).bind fun x1 =>
  (hp_fR h 0 x1 10).bind fun x2 =>
  (hp_fI h 3 v0 0).bind fun x3 =>
  (f_X5_size n x2 x3 h).bind fun x4 =>
  (hp_lp (fL_X3_isOpen_17 n v0 x4 h) n (0 : Int32)).bind fun x5 =>
  Sum.elim (fun y6 =>
    (hp_fR h 3 v0 6).bind fun x8 =>
    (hp_fR h 0 x8 16).bind fun x9 =>
    (hp_fI h 3 v0 0).bind fun x10 =>
    (hp_aI h 0 x9 x10).bind fun x11 =>
    (hp_lp (fL_X3_isOpen_60 n v0 x4 h) n x11).bind fun x12 =>
    some x12) (fun y7 =>
    some y7) x5
set_option maxHeartbeats 1000000 in
set_option maxRecDepth 4000 in
theorem q_X3_isOpen_0 (G : hp_G) (n : Nat) (v0 : Nat) (h : hp_H) (sz sl : Nat) (res : Int32) (hm : f_X3_isOpen_0 n v0 h = some res) : hp_V G m_X3_isOpen 0 [(0, .ref v0)] [] h sz sl (some (.int res), h, sz, sl) := by
  have ho : sz ≤ sz ∧ sl ≤ sl := ⟨Nat.le_refl _, Nat.le_refl _⟩
  unfold f_X3_isOpen_0 at hm
  refine hv_aload_n 0 dX3_isOpen_0 rfl rfl ?_
  obtain ⟨x1, hx1, hm⟩ := hp_bd hm
  refine hv_get lk_f_X3_25 dX3_isOpen_1 (hp_fR_spec hx1) ?_
  obtain ⟨x2, hx2, hm⟩ := hp_bd hm
  refine hv_get lk_f_X3_46 dX3_isOpen_4 (hp_fR_spec hx2) ?_
  refine hv_aload_n 0 dX3_isOpen_7 rfl rfl ?_
  obtain ⟨x3, hx3, hm⟩ := hp_bd hm
  refine hv_get lk_f_X3_29 dX3_isOpen_8 (hp_fI_spec hx3) ?_
  obtain ⟨x4, hx4, hm⟩ := hp_bd hm
  obtain ⟨Vx4, hVx4⟩ := k_X5_size hx4
  refine hv_callV (As := [.int x3]) (rest := []) Z_X5_size I_X5_size lk_m_X3_52 rfl hVx4 (c_X5_size G n x2 x3 h sz sl _ hx4) rfl (Nat.le_of_ble_eq_true rfl) ⟨Nat.le_of_ble_eq_true rfl, Nat.le_of_ble_eq_true rfl⟩ ho.1 ho.2 rfl dX3_isOpen_11 ?_
  refine hv_as [.int x4] h rfl rfl ?_
  refine hv_istore_n [(1, .int x4), (0, .ref v0)] dX3_isOpen_14 rfl (by decide) rfl ?_
  refine hv_iconst (0 : Int32) dX3_isOpen_15 (by decide) ?_
  refine hv_istore_n [(2, .int (0 : Int32)), (1, .int x4), (0, .ref v0)] dX3_isOpen_16 rfl (by decide) rfl ?_
  obtain ⟨x5, hx5, hm⟩ := hp_bd hm
  refine hv_sub [2, 1, 0] rfl (l_X3_isOpen_17 G n v0 x4 h sz sl _ ho n _ _ hx5 (fun y6 ey6 => ?_) (fun y7 ey7 => ?_))
  · skip
    subst ey6
    simp only [Sum.elim_inl, Sum.elim_inr] at hm
    refine hv_aload_n 0 dX3_isOpen_47 rfl rfl ?_
    obtain ⟨x8, hx8, hm⟩ := hp_bd hm
    refine hv_get lk_f_X3_25 dX3_isOpen_48 (hp_fR_spec hx8) ?_
    obtain ⟨x9, hx9, hm⟩ := hp_bd hm
    refine hv_get lk_f_X3_75 dX3_isOpen_51 (hp_fR_spec hx9) ?_
    refine hv_aload_n 0 dX3_isOpen_54 rfl rfl ?_
    obtain ⟨x10, hx10, hm⟩ := hp_bd hm
    refine hv_get lk_f_X3_29 dX3_isOpen_55 (hp_fI_spec hx10) ?_
    obtain ⟨x11, hx11, hm⟩ := hp_bd hm
    refine hv_iald dX3_isOpen_58 hx11 ?_
    refine hv_istore_n [(2, .int x11), (0, .ref v0), (1, .int x4)] dX3_isOpen_59 rfl (by decide) rfl ?_
    obtain ⟨x12, hx12, hm⟩ := hp_bd hm
    refine hv_sub [1, 2, 0] rfl (l_X3_isOpen_60 G n v0 x4 h sz sl _ ho n _ _ hx12 (fun y13 ey13 => ?_))
    · skip
      subst ey13
      obtain rfl := Option.some.inj hm
      rfl
  · skip
    subst ey7
    simp only [Sum.elim_inl, Sum.elim_inr] at hm
    obtain rfl := Option.some.inj hm
    rfl
def f_X3_isOpen (n : Nat) (v0 : Nat) (h : hp_H) : Option (Int32) := (hp_ck h 3 v0).bind fun _ => f_X3_isOpen_0 n v0 h
theorem c_X3_isOpen (G : hp_G) (n : Nat) (v0 : Nat) (h : hp_H) (sz sl : Nat) (res : Int32) (hm : f_X3_isOpen n v0 h = some res) : hp_C G m_X3_isOpen yX3_isOpen [.ref v0] h sz sl (some (.int res), h, sz, sl) := by
  unfold f_X3_isOpen at hm
  obtain ⟨_, _, hm⟩ := hp_bd hm
  exact hp_C_of (by decide) rfl rfl (Nat.le_of_ble_eq_true rfl) (Nat.le_refl _) (Nat.le_refl _) (hv_sub [0] rfl (q_X3_isOpen_0 G n v0 h sz sl res hm))
theorem k_X3_isOpen {n : Nat} {v0 : Nat} {h : hp_H} {res : Int32} (hm : f_X3_isOpen n v0 h = some res) : ∃ V, h v0 = some (.inr (.inr (3, V))) := by
  unfold f_X3_isOpen at hm
  obtain ⟨_, hu, _⟩ := hp_bd hm
  exact hp_ck_spec hu
abbrev m_X3_know : hp_M := (RX3, cX3_know, 2, none, 0, 0, "know")
theorem Z_X3_know : hp_Y yX3_know m_X3_know 1 := Y_X3_know
def f_X3_know_0 (n : Nat) (v0 : Nat) (v1 : Int32) (h : hp_H) : Option (hp_H) :=
  (hp_fR h 3 v0 7).bind fun x1 =>
  (hp_fI h 3 v0 8).bind fun x2 =>
  (hp_sI h 0 x1 x2 v1).bind fun h3 =>
  (hp_fI h3 3 v0 8).bind fun x4 =>
  (hp_pF h3 3 v0 8 (.int (x4 + (1 : Int32)))).bind fun h5 =>
  (hp_fR h5 3 v0 9).bind fun x6 =>
  (hp_sI h5 1 x6 v1 (1 : Int32)).bind fun h7 =>
  some h7
set_option maxHeartbeats 1000000 in
set_option maxRecDepth 4000 in
theorem q_X3_know_0 (G : hp_G) (n : Nat) (v0 : Nat) (v1 : Int32) (h : hp_H) (sz sl : Nat) (res : hp_H) (hm : f_X3_know_0 n v0 v1 h = some res) : hp_V G m_X3_know 0 [(0, .ref v0), (1, .int v1)] [] h sz sl (none, res, sz, sl) := by
  have ho : sz ≤ sz ∧ sl ≤ sl := ⟨Nat.le_refl _, Nat.le_refl _⟩
  unfold f_X3_know_0 at hm
  refine hv_aload_n 0 dX3_know_0 rfl rfl ?_
  obtain ⟨x1, hx1, hm⟩ := hp_bd hm
  refine hv_get lk_f_X3_19 dX3_know_1 (hp_fR_spec hx1) ?_
  refine hv_aload_n 0 dX3_know_4 rfl rfl ?_
  obtain ⟨x2, hx2, hm⟩ := hp_bd hm
  refine hv_get lk_f_X3_117 dX3_know_5 (hp_fI_spec hx2) ?_
  refine hv_iload_n 1 dX3_know_8 rfl rfl ?_
  obtain ⟨h3, hh3, hm⟩ := hp_bd hm
  refine hv_iast dX3_know_9 hh3 ?_
  refine hv_aload_n 0 dX3_know_10 rfl rfl ?_
  refine hv_dup dX3_know_11 rfl ?_
  obtain ⟨x4, hx4, hm⟩ := hp_bd hm
  refine hv_get lk_f_X3_117 dX3_know_12 (hp_fI_spec hx4) ?_
  refine hv_iconst (1 : Int32) dX3_know_15 (by decide) ?_
  refine hv_iadd dX3_know_16 ?_
  obtain ⟨h5, hh5, hm⟩ := hp_bd hm
  refine hv_put lk_f_X3_117 dX3_know_17 rfl rfl hh5 ?_
  refine hv_aload_n 0 dX3_know_20 rfl rfl ?_
  obtain ⟨x6, hx6, hm⟩ := hp_bd hm
  refine hv_get lk_f_X3_22 dX3_know_21 (hp_fR_spec hx6) ?_
  refine hv_iload_n 1 dX3_know_24 rfl rfl ?_
  refine hv_iconst (1 : Int32) dX3_know_25 (by decide) ?_
  obtain ⟨h7, hh7, hm⟩ := hp_bd hm
  refine hv_bast dX3_know_26 hh7 ?_
  obtain rfl := Option.some.inj hm
  exact hv_vret rfl dX3_know_27
def f_X3_know (n : Nat) (v0 : Nat) (v1 : Int32) (h : hp_H) : Option (hp_H) := (hp_ck h 3 v0).bind fun _ => f_X3_know_0 n v0 v1 h
theorem c_X3_know (G : hp_G) (n : Nat) (v0 : Nat) (v1 : Int32) (h : hp_H) (sz sl : Nat) (res : hp_H) (hm : f_X3_know n v0 v1 h = some res) : hp_C G m_X3_know yX3_know [.ref v0, .int v1] h sz sl (none, res, sz, sl) := by
  unfold f_X3_know at hm
  obtain ⟨_, _, hm⟩ := hp_bd hm
  exact hp_C_of (by decide) rfl rfl (Nat.le_of_ble_eq_true rfl) (Nat.le_refl _) (Nat.le_refl _) (hv_sub [0, 1] rfl (q_X3_know_0 G n v0 v1 h sz sl res hm))
theorem k_X3_know {n : Nat} {v0 : Nat} {v1 : Int32} {h : hp_H} {res : hp_H} (hm : f_X3_know n v0 v1 h = some res) : ∃ V, h v0 = some (.inr (.inr (3, V))) := by
  unfold f_X3_know at hm
  obtain ⟨_, hu, _⟩ := hp_bd hm
  exact hp_ck_spec hu
abbrev m_X3_knowHypotheses : hp_M := (RX3, cX3_knowHypotheses, 3, none, 1, 23, "knowHypotheses")
theorem Z_X3_knowHypotheses : hp_Y yX3_knowHypotheses m_X3_knowHypotheses 0 := Y_X3_knowHypotheses
def f_X3_knowHypotheses_30 (n : Nat) (v0 : Nat) (v1 : Int32) (v2 : Int32) (h : hp_H) : Option ((Int32 × hp_H) ⊕ (hp_H)) :=
  if v1 ≤ v2 then
    some (.inr h)
  else
    (hp_fR h 3 v0 6).bind fun x1 =>
    (hp_fR h 0 x1 12).bind fun x2 =>
    (hp_fI h 3 v0 0).bind fun x3 =>
    (f_X5_get n x2 x3 v2 h).bind fun x4 =>
    (f_X3_know n v0 x4 h).bind fun x5 =>
    some (.inl ((v2 + (1 : Int32)), x5))
set_option maxHeartbeats 1000000 in
set_option maxRecDepth 4000 in
theorem q_X3_knowHypotheses_30 (G : hp_G) (n : Nat) (v0 : Nat) (v1 : Int32) (v2 : Int32) (h : hp_H) (sz sl : Nat) (o : hp_O) (ho : sz ≤ o.2.2.1 ∧ sl ≤ o.2.2.2) (res : (Int32 × hp_H) ⊕ (hp_H)) (hm : f_X3_knowHypotheses_30 n v0 v1 v2 h = some res) (kI : ∀ y : Int32 × hp_H, res = .inl y → hp_V G m_X3_knowHypotheses 30 [(0, .ref v0), (1, .int v1), (2, .int y.1)] [] y.2 sz sl o) (kR : ∀ y : hp_H, res = .inr y → o = (none, y, sz, sl)) : hp_V G m_X3_knowHypotheses 30 [(0, .ref v0), (1, .int v1), (2, .int v2)] [] h sz sl o := by
  unfold f_X3_knowHypotheses_30 at hm
  refine hv_iload_n 2 dX3_knowHypotheses_30 rfl rfl ?_
  refine hv_iload_n 1 dX3_knowHypotheses_31 rfl rfl ?_
  refine hv_icmp_ge (tgt := 60) dX3_knowHypotheses_32 (by decide) (fun c6 => ?_) (fun c6 => ?_)
  · rw [if_pos c6] at hm
    obtain rfl := kR _ (Option.some.inj hm).symm
    exact hv_vret rfl dX3_knowHypotheses_60
  · rw [if_neg c6] at hm
    refine hv_aload_n 0 dX3_knowHypotheses_35 rfl rfl ?_
    refine hv_aload_n 0 dX3_knowHypotheses_36 rfl rfl ?_
    obtain ⟨x1, hx1, hm⟩ := hp_bd hm
    refine hv_get lk_f_X3_25 dX3_knowHypotheses_37 (hp_fR_spec hx1) ?_
    obtain ⟨x2, hx2, hm⟩ := hp_bd hm
    refine hv_get lk_f_X3_126 dX3_knowHypotheses_40 (hp_fR_spec hx2) ?_
    refine hv_aload_n 0 dX3_knowHypotheses_43 rfl rfl ?_
    obtain ⟨x3, hx3, hm⟩ := hp_bd hm
    refine hv_get lk_f_X3_29 dX3_knowHypotheses_44 (hp_fI_spec hx3) ?_
    refine hv_iload_n 2 dX3_knowHypotheses_47 rfl rfl ?_
    obtain ⟨x4, hx4, hm⟩ := hp_bd hm
    obtain ⟨Vx4, hVx4⟩ := k_X5_get hx4
    refine hv_callV (As := [.int x3, .int v2]) (rest := [.ref v0]) Z_X5_get I_X5_get lk_m_X3_78 rfl hVx4 (c_X5_get G n x2 x3 v2 h sz sl _ hx4) rfl (Nat.le_of_ble_eq_true rfl) ⟨Nat.le_of_ble_eq_true rfl, Nat.le_of_ble_eq_true rfl⟩ ho.1 ho.2 rfl dX3_knowHypotheses_48 ?_
    refine hv_as [.int x4, .ref v0] h rfl rfl ?_
    obtain ⟨x5, hx5, hm⟩ := hp_bd hm
    obtain ⟨Vx5, hVx5⟩ := k_X3_know hx5
    refine hv_callV (As := [.int x4]) (rest := []) Z_X3_know I_X3_know lk_m_X3_114 rfl hVx5 (c_X3_know G n v0 x4 h sz sl _ hx5) rfl (Nat.le_of_ble_eq_true rfl) ⟨Nat.le_of_ble_eq_true rfl, Nat.le_of_ble_eq_true rfl⟩ ho.1 ho.2 rfl dX3_knowHypotheses_51 ?_
    refine hv_as [] x5 rfl rfl ?_
    refine hv_iinc (v2 + (1 : Int32)) 2 [(2, .int (v2 + (1 : Int32))), (0, .ref v0), (1, .int v1)] dX3_knowHypotheses_54 rfl rfl (by decide) rfl ?_
    refine hv_goto (tgt := 30) dX3_knowHypotheses_57 (by decide) ?_
    exact hv_sub [1, 2, 0] rfl (kI ((v2 + (1 : Int32)), x5) (Option.some.inj hm).symm)
def fL_X3_knowHypotheses_30 (n : Nat) (v0 : Nat) (v1 : Int32) (s : Int32 × hp_H) : Option ((Int32 × hp_H) ⊕ (hp_H)) := f_X3_knowHypotheses_30 n v0 v1 s.1 s.2
theorem l_X3_knowHypotheses_30 (G : hp_G) (n : Nat) (v0 : Nat) (v1 : Int32) (sz sl : Nat) (o : hp_O) (ho : sz ≤ o.2.2.1 ∧ sl ≤ o.2.2.2) : ∀ (k : Nat) (s : Int32 × hp_H) (x : hp_H), hp_lp (fL_X3_knowHypotheses_30 n v0 v1) k s = some x → (∀ y : hp_H, x = y → o = (none, y, sz, sl)) → hp_V G m_X3_knowHypotheses 30 [(0, .ref v0), (1, .int v1), (2, .int s.1)] [] s.2 sz sl o := by
  intro k
  induction k with
  | zero => intro s x hx; exact (hp_lp_0 hx).elim
  | succ k ih =>
    intro s x hx k0
    obtain ⟨r, hr, hc⟩ := hp_lp_1 hx
    refine q_X3_knowHypotheses_30 G n v0 v1 s.1 s.2 sz sl o ho r hr (fun s2 e => ?_) (fun y e => ?_)
    · rcases hc with ⟨s3, e3, hx3⟩ | e3
      · have e4 := Sum.inl.inj (e.symm.trans e3)
        subst e4
        exact ih _ _ hx3 k0
      · cases (e.symm.trans e3)
    · rcases hc with ⟨s3, e3, hx3⟩ | e3
      · cases (e.symm.trans e3)
      · exact k0 y (Sum.inr.inj (e3.symm.trans e))
def f_X3_knowHypotheses_0 (n : Nat) (v0 : Nat) (h : hp_H) : Option (hp_H) :=
  (hp_pF h 3 v0 8 (.int (0 : Int32))).bind fun h1 =>
  (hp_fR h1 3 v0 9).bind fun x2 =>
  (f_J7_fill_031fb n x2 (0 : Int32) h1).bind fun x3 =>
  (hp_fR x3 3 v0 6).bind fun x4 =>
  (hp_fR x3 0 x4 12).bind fun x5 =>
  (hp_fI x3 3 v0 0).bind fun x6 =>
  (f_X5_size n x5 x6 x3).bind fun x7 =>
  (hp_lp (fL_X3_knowHypotheses_30 n v0 x7) n ((0 : Int32), x3)).bind fun x8 =>
  some x8
set_option maxHeartbeats 1000000 in
set_option maxRecDepth 4000 in
theorem q_X3_knowHypotheses_0 (G : hp_G) (n : Nat) (v0 : Nat) (h : hp_H) (sz sl : Nat) (res : hp_H) (hm : f_X3_knowHypotheses_0 n v0 h = some res) : hp_V G m_X3_knowHypotheses 0 [(0, .ref v0)] [] h sz sl (none, res, sz, sl) := by
  have ho : sz ≤ sz ∧ sl ≤ sl := ⟨Nat.le_refl _, Nat.le_refl _⟩
  unfold f_X3_knowHypotheses_0 at hm
  refine hv_aload_n 0 dX3_knowHypotheses_0 rfl rfl ?_
  refine hv_iconst (0 : Int32) dX3_knowHypotheses_1 (by decide) ?_
  obtain ⟨h1, hh1, hm⟩ := hp_bd hm
  refine hv_put lk_f_X3_117 dX3_knowHypotheses_2 rfl rfl hh1 ?_
  refine hv_aload_n 0 dX3_knowHypotheses_5 rfl rfl ?_
  obtain ⟨x2, hx2, hm⟩ := hp_bd hm
  refine hv_get lk_f_X3_22 dX3_knowHypotheses_6 (hp_fR_spec hx2) ?_
  refine hv_iconst (0 : Int32) dX3_knowHypotheses_9 (by decide) ?_
  obtain ⟨x3, hx3, hm⟩ := hp_bd hm
  refine hv_callS (As := [.ref x2, .int (0 : Int32)]) (rest := []) Z_J7_fill_031fb I_J7_fill_031fb lk_m_X3_120 (c_J7_fill_031fb G n x2 (0 : Int32) h1 sz sl _ hx3) rfl (Nat.le_of_ble_eq_true rfl) ⟨Nat.le_of_ble_eq_true rfl, Nat.le_of_ble_eq_true rfl⟩ ho.1 ho.2 rfl dX3_knowHypotheses_10 ?_
  refine hv_as [] x3 rfl rfl ?_
  refine hv_aload_n 0 dX3_knowHypotheses_13 rfl rfl ?_
  obtain ⟨x4, hx4, hm⟩ := hp_bd hm
  refine hv_get lk_f_X3_25 dX3_knowHypotheses_14 (hp_fR_spec hx4) ?_
  obtain ⟨x5, hx5, hm⟩ := hp_bd hm
  refine hv_get lk_f_X3_126 dX3_knowHypotheses_17 (hp_fR_spec hx5) ?_
  refine hv_aload_n 0 dX3_knowHypotheses_20 rfl rfl ?_
  obtain ⟨x6, hx6, hm⟩ := hp_bd hm
  refine hv_get lk_f_X3_29 dX3_knowHypotheses_21 (hp_fI_spec hx6) ?_
  obtain ⟨x7, hx7, hm⟩ := hp_bd hm
  obtain ⟨Vx7, hVx7⟩ := k_X5_size hx7
  refine hv_callV (As := [.int x6]) (rest := []) Z_X5_size I_X5_size lk_m_X3_52 rfl hVx7 (c_X5_size G n x5 x6 x3 sz sl _ hx7) rfl (Nat.le_of_ble_eq_true rfl) ⟨Nat.le_of_ble_eq_true rfl, Nat.le_of_ble_eq_true rfl⟩ ho.1 ho.2 rfl dX3_knowHypotheses_24 ?_
  refine hv_as [.int x7] x3 rfl rfl ?_
  refine hv_istore_n [(1, .int x7), (0, .ref v0)] dX3_knowHypotheses_27 rfl (by decide) rfl ?_
  refine hv_iconst (0 : Int32) dX3_knowHypotheses_28 (by decide) ?_
  refine hv_istore_n [(2, .int (0 : Int32)), (1, .int x7), (0, .ref v0)] dX3_knowHypotheses_29 rfl (by decide) rfl ?_
  obtain ⟨x8, hx8, hm⟩ := hp_bd hm
  refine hv_sub [2, 1, 0] rfl (l_X3_knowHypotheses_30 G n v0 x7 sz sl _ ho n _ _ hx8 (fun y9 ey9 => ?_))
  · skip
    subst ey9
    obtain rfl := Option.some.inj hm
    rfl
def f_X3_knowHypotheses (n : Nat) (v0 : Nat) (h : hp_H) : Option (hp_H) := (hp_ck h 3 v0).bind fun _ => f_X3_knowHypotheses_0 n v0 h
theorem c_X3_knowHypotheses (G : hp_G) (n : Nat) (v0 : Nat) (h : hp_H) (sz sl : Nat) (res : hp_H) (hm : f_X3_knowHypotheses n v0 h = some res) : hp_C G m_X3_knowHypotheses yX3_knowHypotheses [.ref v0] h sz sl (none, res, sz, sl) := by
  unfold f_X3_knowHypotheses at hm
  obtain ⟨_, _, hm⟩ := hp_bd hm
  exact hp_C_of (by decide) rfl rfl (Nat.le_of_ble_eq_true rfl) (Nat.le_refl _) (Nat.le_refl _) (hv_sub [0] rfl (q_X3_knowHypotheses_0 G n v0 h sz sl res hm))
theorem k_X3_knowHypotheses {n : Nat} {v0 : Nat} {h : hp_H} {res : hp_H} (hm : f_X3_knowHypotheses n v0 h = some res) : ∃ V, h v0 = some (.inr (.inr (3, V))) := by
  unfold f_X3_knowHypotheses at hm
  obtain ⟨_, hu, _⟩ := hp_bd hm
  exact hp_ck_spec hu
abbrev m_X3_mayName : hp_M := (RX3, cX3_mayName, 2, some .boolean, 0, 0, "mayName")
theorem Z_X3_mayName : hp_Y yX3_mayName m_X3_mayName 1 := Y_X3_mayName
def f_X3_mayName_41 (n : Nat)  (h : hp_H) : Option (Int32) :=
  some (1 : Int32)
set_option maxHeartbeats 1000000 in
set_option maxRecDepth 4000 in
theorem q_X3_mayName_41 (G : hp_G) (n : Nat)  (h : hp_H) (sz sl : Nat) (res : Int32) (hm : f_X3_mayName_41 n h = some res) : hp_V G m_X3_mayName 41 [] [] h sz sl (some (.int res), h, sz, sl) := by
  have ho : sz ≤ sz ∧ sl ≤ sl := ⟨Nat.le_refl _, Nat.le_refl _⟩
  unfold f_X3_mayName_41 at hm
  refine hv_iconst (1 : Int32) dX3_mayName_41 (by decide) ?_
  refine hv_goto (tgt := 46) dX3_mayName_42 (by decide) ?_
  obtain rfl := Option.some.inj hm
  exact hv_zret rfl (by decide) dX3_mayName_46
def f_X3_mayName_0 (n : Nat) (v0 : Nat) (v1 : Int32) (h : hp_H) : Option (Int32) :=
  if v1 < 0 then
    some (0 : Int32)
  else
    (hp_fI h 3 v0 0).bind fun x1 =>
    if x1 ≤ v1 then
      some (0 : Int32)
    else
      (hp_fR h 3 v0 6).bind fun x2 =>
      (hp_fR h 0 x2 6).bind fun x3 =>
      (hp_aI h 0 x3 v1).bind fun x4 =>
      if (2 : Int32) ≤ x4 then
        f_X3_mayName_41 n  h
      else
        (hp_fI h 3 v0 0).bind fun x5 =>
        (hp_fR h 3 v0 6).bind fun x6 =>
        (hp_fR h 0 x6 8).bind fun x7 =>
        (hp_aI h 0 x7 v1).bind fun x8 =>
        if x8 ≤ x5 then
          some (0 : Int32)
        else
          f_X3_mayName_41 n  h
set_option maxHeartbeats 1000000 in
set_option maxRecDepth 4000 in
theorem q_X3_mayName_0 (G : hp_G) (n : Nat) (v0 : Nat) (v1 : Int32) (h : hp_H) (sz sl : Nat) (res : Int32) (hm : f_X3_mayName_0 n v0 v1 h = some res) : hp_V G m_X3_mayName 0 [(0, .ref v0), (1, .int v1)] [] h sz sl (some (.int res), h, sz, sl) := by
  have ho : sz ≤ sz ∧ sl ≤ sl := ⟨Nat.le_refl _, Nat.le_refl _⟩
  unfold f_X3_mayName_0 at hm
  refine hv_iload_n 1 dX3_mayName_0 rfl rfl ?_
  refine hv_if_lt (tgt := 45) dX3_mayName_1 (by decide) (fun c12 => ?_) (fun c12 => ?_)
  · rw [if_pos c12] at hm
    refine hv_iconst (0 : Int32) dX3_mayName_45 (by decide) ?_
    obtain rfl := Option.some.inj hm
    exact hv_zret rfl (by decide) dX3_mayName_46
  · rw [if_neg c12] at hm
    refine hv_iload_n 1 dX3_mayName_4 rfl rfl ?_
    refine hv_aload_n 0 dX3_mayName_5 rfl rfl ?_
    obtain ⟨x1, hx1, hm⟩ := hp_bd hm
    refine hv_get lk_f_X3_29 dX3_mayName_6 (hp_fI_spec hx1) ?_
    refine hv_icmp_ge (tgt := 45) dX3_mayName_9 (by decide) (fun c11 => ?_) (fun c11 => ?_)
    · rw [if_pos c11] at hm
      refine hv_iconst (0 : Int32) dX3_mayName_45 (by decide) ?_
      obtain rfl := Option.some.inj hm
      exact hv_zret rfl (by decide) dX3_mayName_46
    · rw [if_neg c11] at hm
      refine hv_aload_n 0 dX3_mayName_12 rfl rfl ?_
      obtain ⟨x2, hx2, hm⟩ := hp_bd hm
      refine hv_get lk_f_X3_25 dX3_mayName_13 (hp_fR_spec hx2) ?_
      obtain ⟨x3, hx3, hm⟩ := hp_bd hm
      refine hv_get lk_f_X3_92 dX3_mayName_16 (hp_fR_spec hx3) ?_
      refine hv_iload_n 1 dX3_mayName_19 rfl rfl ?_
      obtain ⟨x4, hx4, hm⟩ := hp_bd hm
      refine hv_iald dX3_mayName_20 hx4 ?_
      refine hv_iconst (2 : Int32) dX3_mayName_21 (by decide) ?_
      refine hv_icmp_ge (tgt := 41) dX3_mayName_22 (by decide) (fun c10 => ?_) (fun c10 => ?_)
      · rw [if_pos c10] at hm
        exact hv_sub [] rfl (q_X3_mayName_41 G n  h sz sl _ hm)
      · rw [if_neg c10] at hm
        refine hv_aload_n 0 dX3_mayName_25 rfl rfl ?_
        obtain ⟨x5, hx5, hm⟩ := hp_bd hm
        refine hv_get lk_f_X3_29 dX3_mayName_26 (hp_fI_spec hx5) ?_
        refine hv_aload_n 0 dX3_mayName_29 rfl rfl ?_
        obtain ⟨x6, hx6, hm⟩ := hp_bd hm
        refine hv_get lk_f_X3_25 dX3_mayName_30 (hp_fR_spec hx6) ?_
        obtain ⟨x7, hx7, hm⟩ := hp_bd hm
        refine hv_get lk_f_X3_95 dX3_mayName_33 (hp_fR_spec hx7) ?_
        refine hv_iload_n 1 dX3_mayName_36 rfl rfl ?_
        obtain ⟨x8, hx8, hm⟩ := hp_bd hm
        refine hv_iald dX3_mayName_37 hx8 ?_
        refine hv_icmp_ge (tgt := 45) dX3_mayName_38 (by decide) (fun c9 => ?_) (fun c9 => ?_)
        · rw [if_pos c9] at hm
          refine hv_iconst (0 : Int32) dX3_mayName_45 (by decide) ?_
          obtain rfl := Option.some.inj hm
          exact hv_zret rfl (by decide) dX3_mayName_46
        · rw [if_neg c9] at hm
          exact hv_sub [] rfl (q_X3_mayName_41 G n  h sz sl _ hm)
def f_X3_mayName (n : Nat) (v0 : Nat) (v1 : Int32) (h : hp_H) : Option (Int32) := (hp_ck h 3 v0).bind fun _ => f_X3_mayName_0 n v0 v1 h
theorem c_X3_mayName (G : hp_G) (n : Nat) (v0 : Nat) (v1 : Int32) (h : hp_H) (sz sl : Nat) (res : Int32) (hm : f_X3_mayName n v0 v1 h = some res) : hp_C G m_X3_mayName yX3_mayName [.ref v0, .int v1] h sz sl (some (.int res), h, sz, sl) := by
  unfold f_X3_mayName at hm
  obtain ⟨_, _, hm⟩ := hp_bd hm
  exact hp_C_of (by decide) rfl rfl (Nat.le_of_ble_eq_true rfl) (Nat.le_refl _) (Nat.le_refl _) (hv_sub [0, 1] rfl (q_X3_mayName_0 G n v0 v1 h sz sl res hm))
theorem k_X3_mayName {n : Nat} {v0 : Nat} {v1 : Int32} {h : hp_H} {res : Int32} (hm : f_X3_mayName n v0 v1 h = some res) : ∃ V, h v0 = some (.inr (.inr (3, V))) := by
  unfold f_X3_mayName at hm
  obtain ⟨_, hu, _⟩ := hp_bd hm
  exact hp_ck_spec hu
abbrev m_X3_fail : hp_M := (RX3, cX3_fail, 3, some .int, 0, 0, "fail")
theorem Z_X3_fail : hp_Y yX3_fail m_X3_fail 2 := Y_X3_fail
def f_X3_fail_0 (n : Nat) (v0 : Nat) (v1 : Int32) (v2 : Int32) (h : hp_H) : Option (Int32 × hp_H) :=
  (hp_pF h 3 v0 2 (.int v2)).bind fun h1 =>
  some (v1, h1)
set_option maxHeartbeats 1000000 in
set_option maxRecDepth 4000 in
theorem q_X3_fail_0 (G : hp_G) (n : Nat) (v0 : Nat) (v1 : Int32) (v2 : Int32) (h : hp_H) (sz sl : Nat) (res : Int32 × hp_H) (hm : f_X3_fail_0 n v0 v1 v2 h = some res) : hp_V G m_X3_fail 0 [(0, .ref v0), (1, .int v1), (2, .int v2)] [] h sz sl (some (.int res.1), res.2, sz, sl) := by
  have ho : sz ≤ sz ∧ sl ≤ sl := ⟨Nat.le_refl _, Nat.le_refl _⟩
  unfold f_X3_fail_0 at hm
  refine hv_aload_n 0 dX3_fail_0 rfl rfl ?_
  refine hv_iload_n 2 dX3_fail_1 rfl rfl ?_
  obtain ⟨h1, hh1, hm⟩ := hp_bd hm
  refine hv_put lk_f_X3_39 dX3_fail_2 rfl rfl hh1 ?_
  refine hv_iload_n 1 dX3_fail_5 rfl rfl ?_
  obtain rfl := Option.some.inj hm
  exact hv_iret rfl dX3_fail_6
def f_X3_fail (n : Nat) (v0 : Nat) (v1 : Int32) (v2 : Int32) (h : hp_H) : Option (Int32 × hp_H) := (hp_ck h 3 v0).bind fun _ => f_X3_fail_0 n v0 v1 v2 h
theorem c_X3_fail (G : hp_G) (n : Nat) (v0 : Nat) (v1 : Int32) (v2 : Int32) (h : hp_H) (sz sl : Nat) (res : Int32 × hp_H) (hm : f_X3_fail n v0 v1 v2 h = some res) : hp_C G m_X3_fail yX3_fail [.ref v0, .int v1, .int v2] h sz sl (some (.int res.1), res.2, sz, sl) := by
  unfold f_X3_fail at hm
  obtain ⟨_, _, hm⟩ := hp_bd hm
  exact hp_C_of (by decide) rfl rfl (Nat.le_of_ble_eq_true rfl) (Nat.le_refl _) (Nat.le_refl _) (hv_sub [0, 1, 2] rfl (q_X3_fail_0 G n v0 v1 v2 h sz sl res hm))
theorem k_X3_fail {n : Nat} {v0 : Nat} {v1 : Int32} {v2 : Int32} {h : hp_H} {res : Int32 × hp_H} (hm : f_X3_fail n v0 v1 v2 h = some res) : ∃ V, h v0 = some (.inr (.inr (3, V))) := by
  unfold f_X3_fail at hm
  obtain ⟨_, hu, _⟩ := hp_bd hm
  exact hp_ck_spec hu
abbrev m_X3_decodeList : hp_M := (RX3, cX3_decodeList, 4, some .int, 2, 45, "decodeList")
theorem Z_X3_decodeList : hp_Y yX3_decodeList m_X3_decodeList 0 := Y_X3_decodeList
def f_X3_decodeList_19 (n : Nat) (v0 : Nat) (v1 : Int32) (v2 : Int32) (h : hp_H) : Option ((Int32 × hp_H) ⊕ ((Int32 × hp_H) ⊕ (hp_H))) :=
  if v1 ≤ v2 then
    some (.inr (.inr h))
  else
    (hp_fR h 3 v0 6).bind fun x1 =>
    (hp_fR h 0 x1 11).bind fun x2 =>
    (hp_fI h 3 v0 0).bind fun x3 =>
    (f_X5_get n x2 x3 v2 h).bind fun x4 =>
    (f_X3_mayName n v0 x4 h).bind fun x5 =>
    if x5 = 0 then
      some (.inr (.inl (v2, h)))
    else
      (hp_fR h 3 v0 9).bind fun x6 =>
      (hp_aI h 1 x6 x4).bind fun x7 =>
      if x7 = 0 then
        (f_X3_know n v0 x4 h).bind fun x8 =>
        some (.inl ((v2 + (1 : Int32)), x8))
      else
        some (.inr (.inl (v2, h)))
set_option maxHeartbeats 1000000 in
set_option maxRecDepth 4000 in
theorem q_X3_decodeList_19 (G : hp_G) (n : Nat) (v0 : Nat) (v1 : Int32) (v2 : Int32) (h : hp_H) (sz sl : Nat) (o : hp_O) (ho : sz ≤ o.2.2.1 ∧ sl ≤ o.2.2.2) (res : (Int32 × hp_H) ⊕ ((Int32 × hp_H) ⊕ (hp_H))) (hm : f_X3_decodeList_19 n v0 v1 v2 h = some res) (kI : ∀ y : Int32 × hp_H, res = .inl y → hp_V G m_X3_decodeList 19 [(0, .ref v0), (1, .int v1), (2, .int y.1)] [] y.2 sz sl o) (kX0 : ∀ y : Int32 × hp_H, res = .inr (.inl y) → hp_V G m_X3_decodeList 57 [(0, .ref v0), (2, .int y.1)] [] y.2 sz sl o) (kX1 : ∀ y : hp_H, res = .inr (.inr y) → hp_V G m_X3_decodeList 76 [(0, .ref v0), (1, .int v1)] [] y sz sl o) : hp_V G m_X3_decodeList 19 [(0, .ref v0), (1, .int v1), (2, .int v2)] [] h sz sl o := by
  unfold f_X3_decodeList_19 at hm
  refine hv_iload_n 2 dX3_decodeList_19 rfl rfl ?_
  refine hv_iload_n 1 dX3_decodeList_20 rfl rfl ?_
  refine hv_icmp_ge (tgt := 76) dX3_decodeList_21 (by decide) (fun c11 => ?_) (fun c11 => ?_)
  · rw [if_pos c11] at hm
    exact hv_sub [0, 1] rfl (kX1 h (Option.some.inj hm).symm)
  · rw [if_neg c11] at hm
    refine hv_aload_n 0 dX3_decodeList_24 rfl rfl ?_
    obtain ⟨x1, hx1, hm⟩ := hp_bd hm
    refine hv_get lk_f_X3_25 dX3_decodeList_25 (hp_fR_spec hx1) ?_
    obtain ⟨x2, hx2, hm⟩ := hp_bd hm
    refine hv_get lk_f_X3_98 dX3_decodeList_28 (hp_fR_spec hx2) ?_
    refine hv_aload_n 0 dX3_decodeList_31 rfl rfl ?_
    obtain ⟨x3, hx3, hm⟩ := hp_bd hm
    refine hv_get lk_f_X3_29 dX3_decodeList_32 (hp_fI_spec hx3) ?_
    refine hv_iload_n 2 dX3_decodeList_35 rfl rfl ?_
    obtain ⟨x4, hx4, hm⟩ := hp_bd hm
    obtain ⟨Vx4, hVx4⟩ := k_X5_get hx4
    refine hv_callV (As := [.int x3, .int v2]) (rest := []) Z_X5_get I_X5_get lk_m_X3_78 rfl hVx4 (c_X5_get G n x2 x3 v2 h sz sl _ hx4) rfl (Nat.le_of_ble_eq_true rfl) ⟨Nat.le_of_ble_eq_true rfl, Nat.le_of_ble_eq_true rfl⟩ ho.1 ho.2 rfl dX3_decodeList_36 ?_
    refine hv_as [.int x4] h rfl rfl ?_
    refine hv_istore_n [(3, .int x4), (0, .ref v0), (1, .int v1), (2, .int v2)] dX3_decodeList_39 rfl (by decide) rfl ?_
    refine hv_aload_n 1 dX3_decodeList_40 rfl rfl ?_
    refine hv_iload_n 0 dX3_decodeList_41 rfl rfl ?_
    obtain ⟨x5, hx5, hm⟩ := hp_bd hm
    obtain ⟨Vx5, hVx5⟩ := k_X3_mayName hx5
    refine hv_callV (As := [.int x4]) (rest := []) Z_X3_mayName I_X3_mayName lk_m_X3_101 rfl hVx5 (c_X3_mayName G n v0 x4 h sz sl _ hx5) rfl (Nat.le_of_ble_eq_true rfl) ⟨Nat.le_of_ble_eq_true rfl, Nat.le_of_ble_eq_true rfl⟩ ho.1 ho.2 rfl dX3_decodeList_42 ?_
    refine hv_as [.int x5] h rfl rfl ?_
    refine hv_if_eq (tgt := 57) dX3_decodeList_45 (by decide) (fun c10 => ?_) (fun c10 => ?_)
    · rw [if_pos c10] at hm
      exact hv_sub [1, 3] rfl (kX0 (v2, h) (Option.some.inj hm).symm)
    · rw [if_neg c10] at hm
      refine hv_aload_n 1 dX3_decodeList_48 rfl rfl ?_
      obtain ⟨x6, hx6, hm⟩ := hp_bd hm
      refine hv_get lk_f_X3_22 dX3_decodeList_49 (hp_fR_spec hx6) ?_
      refine hv_iload_n 0 dX3_decodeList_52 rfl rfl ?_
      obtain ⟨x7, hx7, hm⟩ := hp_bd hm
      refine hv_bald dX3_decodeList_53 hx7 ?_
      refine hv_if_eq (tgt := 65) dX3_decodeList_54 (by decide) (fun c9 => ?_) (fun c9 => ?_)
      · rw [if_pos c9] at hm
        refine hv_aload_n 1 dX3_decodeList_65 rfl rfl ?_
        refine hv_iload_n 0 dX3_decodeList_66 rfl rfl ?_
        obtain ⟨x8, hx8, hm⟩ := hp_bd hm
        obtain ⟨Vx8, hVx8⟩ := k_X3_know hx8
        refine hv_callV (As := [.int x4]) (rest := []) Z_X3_know I_X3_know lk_m_X3_114 rfl hVx8 (c_X3_know G n v0 x4 h sz sl _ hx8) rfl (Nat.le_of_ble_eq_true rfl) ⟨Nat.le_of_ble_eq_true rfl, Nat.le_of_ble_eq_true rfl⟩ ho.1 ho.2 rfl dX3_decodeList_67 ?_
        refine hv_as [] x8 rfl rfl ?_
        refine hv_iinc (v2 + (1 : Int32)) 3 [(2, .int (v2 + (1 : Int32))), (3, .int x4), (0, .ref v0), (1, .int v1)] dX3_decodeList_70 rfl rfl (by decide) rfl ?_
        refine hv_goto (tgt := 19) dX3_decodeList_73 (by decide) ?_
        exact hv_sub [2, 3, 0] rfl (kI ((v2 + (1 : Int32)), x8) (Option.some.inj hm).symm)
      · rw [if_neg c9] at hm
        exact hv_sub [1, 3] rfl (kX0 (v2, h) (Option.some.inj hm).symm)
def fL_X3_decodeList_19 (n : Nat) (v0 : Nat) (v1 : Int32) (s : Int32 × hp_H) : Option ((Int32 × hp_H) ⊕ ((Int32 × hp_H) ⊕ (hp_H))) := f_X3_decodeList_19 n v0 v1 s.1 s.2
theorem l_X3_decodeList_19 (G : hp_G) (n : Nat) (v0 : Nat) (v1 : Int32) (sz sl : Nat) (o : hp_O) (ho : sz ≤ o.2.2.1 ∧ sl ≤ o.2.2.2) : ∀ (k : Nat) (s : Int32 × hp_H) (x : (Int32 × hp_H) ⊕ (hp_H)), hp_lp (fL_X3_decodeList_19 n v0 v1) k s = some x → (∀ y : Int32 × hp_H, x = (.inl y) → hp_V G m_X3_decodeList 57 [(0, .ref v0), (2, .int y.1)] [] y.2 sz sl o) → (∀ y : hp_H, x = (.inr y) → hp_V G m_X3_decodeList 76 [(0, .ref v0), (1, .int v1)] [] y sz sl o) → hp_V G m_X3_decodeList 19 [(0, .ref v0), (1, .int v1), (2, .int s.1)] [] s.2 sz sl o := by
  intro k
  induction k with
  | zero => intro s x hx; exact (hp_lp_0 hx).elim
  | succ k ih =>
    intro s x hx k0 k1
    obtain ⟨r, hr, hc⟩ := hp_lp_1 hx
    refine q_X3_decodeList_19 G n v0 v1 s.1 s.2 sz sl o ho r hr (fun s2 e => ?_) (fun y e => ?_) (fun y e => ?_)
    · rcases hc with ⟨s3, e3, hx3⟩ | e3
      · have e4 := Sum.inl.inj (e.symm.trans e3)
        subst e4
        exact ih _ _ hx3 k0 k1
      · cases (e.symm.trans e3)
    · rcases hc with ⟨s3, e3, hx3⟩ | e3
      · cases (e.symm.trans e3)
      · exact k0 y (Sum.inr.inj (e3.symm.trans e))
    · rcases hc with ⟨s3, e3, hx3⟩ | e3
      · cases (e.symm.trans e3)
      · exact k1 y (Sum.inr.inj (e3.symm.trans e))
def f_X3_decodeList_57 (n : Nat) (v0 : Nat) (v2 : Int32) (h : hp_H) : Option (Int32 × hp_H) :=
  (f_X3_fail n v0 (-2 : Int32) v2 h).bind fun x1 =>
  some (x1.1, x1.2)
set_option maxHeartbeats 1000000 in
set_option maxRecDepth 4000 in
theorem q_X3_decodeList_57 (G : hp_G) (n : Nat) (v0 : Nat) (v2 : Int32) (h : hp_H) (sz sl : Nat) (res : Int32 × hp_H) (hm : f_X3_decodeList_57 n v0 v2 h = some res) : hp_V G m_X3_decodeList 57 [(0, .ref v0), (2, .int v2)] [] h sz sl (some (.int res.1), res.2, sz, sl) := by
  have ho : sz ≤ sz ∧ sl ≤ sl := ⟨Nat.le_refl _, Nat.le_refl _⟩
  unfold f_X3_decodeList_57 at hm
  refine hv_aload_n 0 dX3_decodeList_57 rfl rfl ?_
  refine hv_bipush (-2 : Int32) dX3_decodeList_58 (by decide) ?_
  refine hv_iload_n 1 dX3_decodeList_60 rfl rfl ?_
  obtain ⟨x1, hx1, hm⟩ := hp_bd hm
  obtain ⟨Vx1, hVx1⟩ := k_X3_fail hx1
  refine hv_callV (As := [.int (-2 : Int32), .int v2]) (rest := []) Z_X3_fail I_X3_fail lk_m_X3_104 rfl hVx1 (c_X3_fail G n v0 (-2 : Int32) v2 h sz sl _ hx1) rfl (Nat.le_of_ble_eq_true rfl) ⟨Nat.le_of_ble_eq_true rfl, Nat.le_of_ble_eq_true rfl⟩ ho.1 ho.2 rfl dX3_decodeList_61 ?_
  refine hv_as [.int x1.1] x1.2 rfl rfl ?_
  obtain rfl := Option.some.inj hm
  exact hv_iret rfl dX3_decodeList_64
def f_X3_decodeList_0 (n : Nat) (v0 : Nat) (h : hp_H) : Option (Int32 × hp_H) :=
  (f_X3_knowHypotheses n v0 h).bind fun x1 =>
  (hp_fR x1 3 v0 6).bind fun x2 =>
  (hp_fR x1 0 x2 16).bind fun x3 =>
  (hp_fI x1 3 v0 0).bind fun x4 =>
  (hp_aI x1 0 x3 x4).bind fun x5 =>
  (hp_lp (fL_X3_decodeList_19 n v0 x5) n ((1 : Int32), x1)).bind fun x6 =>
  Sum.elim (fun y7 =>
    f_X3_decodeList_57 n v0 y7.1 y7.2) (fun y8 =>
    (hp_fR y8 3 v0 6).bind fun x9 =>
    (hp_fR y8 0 x9 10).bind fun x10 =>
    (hp_fI y8 3 v0 0).bind fun x11 =>
    (f_X5_size n x10 x11 y8).bind fun x12 =>
    if x5 = x12 then
      (f_X3_fail n v0 (-3 : Int32) x5 y8).bind fun x13 =>
      some (x13.1, x13.2)
    else
      some ((0 : Int32), y8)) x6
set_option maxHeartbeats 1000000 in
set_option maxRecDepth 4000 in
theorem q_X3_decodeList_0 (G : hp_G) (n : Nat) (v0 : Nat) (h : hp_H) (sz sl : Nat) (res : Int32 × hp_H) (hm : f_X3_decodeList_0 n v0 h = some res) : hp_V G m_X3_decodeList 0 [(0, .ref v0)] [] h sz sl (some (.int res.1), res.2, sz, sl) := by
  have ho : sz ≤ sz ∧ sl ≤ sl := ⟨Nat.le_refl _, Nat.le_refl _⟩
  unfold f_X3_decodeList_0 at hm
  refine hv_aload_n 0 dX3_decodeList_0 rfl rfl ?_
  obtain ⟨x1, hx1, hm⟩ := hp_bd hm
  obtain ⟨Vx1, hVx1⟩ := k_X3_knowHypotheses hx1
  refine hv_callV (As := []) (rest := []) Z_X3_knowHypotheses I_X3_knowHypotheses lk_m_X3_111 rfl hVx1 (c_X3_knowHypotheses G n v0 h sz sl _ hx1) rfl (Nat.le_of_ble_eq_true rfl) ⟨Nat.le_of_ble_eq_true rfl, Nat.le_of_ble_eq_true rfl⟩ ho.1 ho.2 rfl dX3_decodeList_1 ?_
  refine hv_as [] x1 rfl rfl ?_
  refine hv_aload_n 0 dX3_decodeList_4 rfl rfl ?_
  obtain ⟨x2, hx2, hm⟩ := hp_bd hm
  refine hv_get lk_f_X3_25 dX3_decodeList_5 (hp_fR_spec hx2) ?_
  obtain ⟨x3, hx3, hm⟩ := hp_bd hm
  refine hv_get lk_f_X3_75 dX3_decodeList_8 (hp_fR_spec hx3) ?_
  refine hv_aload_n 0 dX3_decodeList_11 rfl rfl ?_
  obtain ⟨x4, hx4, hm⟩ := hp_bd hm
  refine hv_get lk_f_X3_29 dX3_decodeList_12 (hp_fI_spec hx4) ?_
  obtain ⟨x5, hx5, hm⟩ := hp_bd hm
  refine hv_iald dX3_decodeList_15 hx5 ?_
  refine hv_istore_n [(1, .int x5), (0, .ref v0)] dX3_decodeList_16 rfl (by decide) rfl ?_
  refine hv_iconst (1 : Int32) dX3_decodeList_17 (by decide) ?_
  refine hv_istore_n [(2, .int (1 : Int32)), (1, .int x5), (0, .ref v0)] dX3_decodeList_18 rfl (by decide) rfl ?_
  obtain ⟨x6, hx6, hm⟩ := hp_bd hm
  refine hv_sub [2, 1, 0] rfl (l_X3_decodeList_19 G n v0 x5 sz sl _ ho n _ _ hx6 (fun y7 ey7 => ?_) (fun y8 ey8 => ?_))
  · skip
    subst ey7
    simp only [Sum.elim_inl, Sum.elim_inr] at hm
    exact hv_sub [0, 1] rfl (q_X3_decodeList_57 G n v0 y7.1 y7.2 sz sl _ hm)
  · skip
    subst ey8
    simp only [Sum.elim_inl, Sum.elim_inr] at hm
    refine hv_iload_n 1 dX3_decodeList_76 rfl rfl ?_
    refine hv_aload_n 0 dX3_decodeList_77 rfl rfl ?_
    obtain ⟨x9, hx9, hm⟩ := hp_bd hm
    refine hv_get lk_f_X3_25 dX3_decodeList_78 (hp_fR_spec hx9) ?_
    obtain ⟨x10, hx10, hm⟩ := hp_bd hm
    refine hv_get lk_f_X3_46 dX3_decodeList_81 (hp_fR_spec hx10) ?_
    refine hv_aload_n 0 dX3_decodeList_84 rfl rfl ?_
    obtain ⟨x11, hx11, hm⟩ := hp_bd hm
    refine hv_get lk_f_X3_29 dX3_decodeList_85 (hp_fI_spec hx11) ?_
    obtain ⟨x12, hx12, hm⟩ := hp_bd hm
    obtain ⟨Vx12, hVx12⟩ := k_X5_size hx12
    refine hv_callV (As := [.int x11]) (rest := [.int x5]) Z_X5_size I_X5_size lk_m_X3_52 rfl hVx12 (c_X5_size G n x10 x11 y8 sz sl _ hx12) rfl (Nat.le_of_ble_eq_true rfl) ⟨Nat.le_of_ble_eq_true rfl, Nat.le_of_ble_eq_true rfl⟩ ho.1 ho.2 rfl dX3_decodeList_88 ?_
    refine hv_as [.int x12, .int x5] y8 rfl rfl ?_
    refine hv_icmp_ne (tgt := 104) dX3_decodeList_91 (by decide) (fun c14 => ?_) (fun c14 => ?_)
    · rw [if_neg c14] at hm
      refine hv_iconst (0 : Int32) dX3_decodeList_104 (by decide) ?_
      obtain rfl := Option.some.inj hm
      exact hv_iret rfl dX3_decodeList_105
    · rw [if_pos c14] at hm
      refine hv_aload_n 0 dX3_decodeList_94 rfl rfl ?_
      refine hv_bipush (-3 : Int32) dX3_decodeList_95 (by decide) ?_
      refine hv_iload_n 1 dX3_decodeList_97 rfl rfl ?_
      obtain ⟨x13, hx13, hm⟩ := hp_bd hm
      obtain ⟨Vx13, hVx13⟩ := k_X3_fail hx13
      refine hv_callV (As := [.int (-3 : Int32), .int x5]) (rest := []) Z_X3_fail I_X3_fail lk_m_X3_104 rfl hVx13 (c_X3_fail G n v0 (-3 : Int32) x5 y8 sz sl _ hx13) rfl (Nat.le_of_ble_eq_true rfl) ⟨Nat.le_of_ble_eq_true rfl, Nat.le_of_ble_eq_true rfl⟩ ho.1 ho.2 rfl dX3_decodeList_98 ?_
      refine hv_as [.int x13.1] x13.2 rfl rfl ?_
      refine hv_goto (tgt := 105) dX3_decodeList_101 (by decide) ?_
      obtain rfl := Option.some.inj hm
      exact hv_iret rfl dX3_decodeList_105
def f_X3_decodeList (n : Nat) (v0 : Nat) (h : hp_H) : Option (Int32 × hp_H) := (hp_ck h 3 v0).bind fun _ => f_X3_decodeList_0 n v0 h
theorem c_X3_decodeList (G : hp_G) (n : Nat) (v0 : Nat) (h : hp_H) (sz sl : Nat) (res : Int32 × hp_H) (hm : f_X3_decodeList n v0 h = some res) : hp_C G m_X3_decodeList yX3_decodeList [.ref v0] h sz sl (some (.int res.1), res.2, sz, sl) := by
  unfold f_X3_decodeList at hm
  obtain ⟨_, _, hm⟩ := hp_bd hm
  exact hp_C_of (by decide) rfl rfl (Nat.le_of_ble_eq_true rfl) (Nat.le_refl _) (Nat.le_refl _) (hv_sub [0] rfl (q_X3_decodeList_0 G n v0 h sz sl res hm))
theorem k_X3_decodeList {n : Nat} {v0 : Nat} {h : hp_H} {res : Int32 × hp_H} (hm : f_X3_decodeList n v0 h = some res) : ∃ V, h v0 = some (.inr (.inr (3, V))) := by
  unfold f_X3_decodeList at hm
  obtain ⟨_, hu, _⟩ := hp_bd hm
  exact hp_ck_spec hu
abbrev m_X3_addStep : hp_M := (RX3, cX3_addStep, 2, none, 0, 0, "addStep")
theorem Z_X3_addStep : hp_Y yX3_addStep m_X3_addStep 1 := Y_X3_addStep
def f_X3_addStep_0 (n : Nat) (v0 : Nat) (v1 : Int32) (h : hp_H) : Option (hp_H) :=
  (hp_fR h 3 v0 3).bind fun x1 =>
  (hp_fI h 3 v0 1).bind fun x2 =>
  (hp_sI h 0 x1 x2 v1).bind fun h3 =>
  (hp_fR h3 3 v0 4).bind fun x4 =>
  (hp_fI h3 3 v0 1).bind fun x5 =>
  (hp_sI h3 1 x4 x5 (0 : Int32)).bind fun h6 =>
  (hp_fI h6 3 v0 1).bind fun x7 =>
  (hp_pF h6 3 v0 1 (.int (x7 + (1 : Int32)))).bind fun h8 =>
  some h8
set_option maxHeartbeats 1000000 in
set_option maxRecDepth 4000 in
theorem q_X3_addStep_0 (G : hp_G) (n : Nat) (v0 : Nat) (v1 : Int32) (h : hp_H) (sz sl : Nat) (res : hp_H) (hm : f_X3_addStep_0 n v0 v1 h = some res) : hp_V G m_X3_addStep 0 [(0, .ref v0), (1, .int v1)] [] h sz sl (none, res, sz, sl) := by
  have ho : sz ≤ sz ∧ sl ≤ sl := ⟨Nat.le_refl _, Nat.le_refl _⟩
  unfold f_X3_addStep_0 at hm
  refine hv_aload_n 0 dX3_addStep_0 rfl rfl ?_
  obtain ⟨x1, hx1, hm⟩ := hp_bd hm
  refine hv_get lk_f_X3_9 dX3_addStep_1 (hp_fR_spec hx1) ?_
  refine hv_aload_n 0 dX3_addStep_4 rfl rfl ?_
  obtain ⟨x2, hx2, hm⟩ := hp_bd hm
  refine hv_get lk_f_X3_33 dX3_addStep_5 (hp_fI_spec hx2) ?_
  refine hv_iload_n 1 dX3_addStep_8 rfl rfl ?_
  obtain ⟨h3, hh3, hm⟩ := hp_bd hm
  refine hv_iast dX3_addStep_9 hh3 ?_
  refine hv_aload_n 0 dX3_addStep_10 rfl rfl ?_
  obtain ⟨x4, hx4, hm⟩ := hp_bd hm
  refine hv_get lk_f_X3_15 dX3_addStep_11 (hp_fR_spec hx4) ?_
  refine hv_aload_n 0 dX3_addStep_14 rfl rfl ?_
  obtain ⟨x5, hx5, hm⟩ := hp_bd hm
  refine hv_get lk_f_X3_33 dX3_addStep_15 (hp_fI_spec hx5) ?_
  refine hv_iconst (0 : Int32) dX3_addStep_18 (by decide) ?_
  obtain ⟨h6, hh6, hm⟩ := hp_bd hm
  refine hv_bast dX3_addStep_19 hh6 ?_
  refine hv_aload_n 0 dX3_addStep_20 rfl rfl ?_
  refine hv_dup dX3_addStep_21 rfl ?_
  obtain ⟨x7, hx7, hm⟩ := hp_bd hm
  refine hv_get lk_f_X3_33 dX3_addStep_22 (hp_fI_spec hx7) ?_
  refine hv_iconst (1 : Int32) dX3_addStep_25 (by decide) ?_
  refine hv_iadd dX3_addStep_26 ?_
  obtain ⟨h8, hh8, hm⟩ := hp_bd hm
  refine hv_put lk_f_X3_33 dX3_addStep_27 rfl rfl hh8 ?_
  obtain rfl := Option.some.inj hm
  exact hv_vret rfl dX3_addStep_30
def f_X3_addStep (n : Nat) (v0 : Nat) (v1 : Int32) (h : hp_H) : Option (hp_H) := (hp_ck h 3 v0).bind fun _ => f_X3_addStep_0 n v0 v1 h
theorem c_X3_addStep (G : hp_G) (n : Nat) (v0 : Nat) (v1 : Int32) (h : hp_H) (sz sl : Nat) (res : hp_H) (hm : f_X3_addStep n v0 v1 h = some res) : hp_C G m_X3_addStep yX3_addStep [.ref v0, .int v1] h sz sl (none, res, sz, sl) := by
  unfold f_X3_addStep at hm
  obtain ⟨_, _, hm⟩ := hp_bd hm
  exact hp_C_of (by decide) rfl rfl (Nat.le_of_ble_eq_true rfl) (Nat.le_refl _) (Nat.le_refl _) (hv_sub [0, 1] rfl (q_X3_addStep_0 G n v0 v1 h sz sl res hm))
theorem k_X3_addStep {n : Nat} {v0 : Nat} {v1 : Int32} {h : hp_H} {res : hp_H} (hm : f_X3_addStep n v0 v1 h = some res) : ∃ V, h v0 = some (.inr (.inr (3, V))) := by
  unfold f_X3_addStep at hm
  obtain ⟨_, hu, _⟩ := hp_bd hm
  exact hp_ck_spec hu
abbrev m_X3_decodeLabels : hp_M := (RX3, cX3_decodeLabels, 4, some .int, 1, 22, "decodeLabels")
theorem Z_X3_decodeLabels : hp_Y yX3_decodeLabels m_X3_decodeLabels 0 := Y_X3_decodeLabels
def f_X3_decodeLabels_17 (n : Nat) (v0 : Nat) (v1 : Int32) (v2 : Int32) (h : hp_H) : Option ((Int32 × hp_H) ⊕ ((Int32 × hp_H) ⊕ (Int32 × hp_H))) :=
  if v1 ≤ v2 then
    some (.inr (.inr ((0 : Int32), h)))
  else
    (hp_fR h 3 v0 6).bind fun x1 =>
    (hp_fR h 0 x1 11).bind fun x2 =>
    (hp_fI h 3 v0 0).bind fun x3 =>
    (f_X5_get n x2 x3 v2 h).bind fun x4 =>
    (f_X3_mayName n v0 x4 h).bind fun x5 =>
    if x5 = 0 then
      some (.inr (.inl (v2, h)))
    else
      (f_X3_addStep n v0 x4 h).bind fun x6 =>
      some (.inl ((v2 + (1 : Int32)), x6))
set_option maxHeartbeats 1000000 in
set_option maxRecDepth 4000 in
theorem q_X3_decodeLabels_17 (G : hp_G) (n : Nat) (v0 : Nat) (v1 : Int32) (v2 : Int32) (h : hp_H) (sz sl : Nat) (o : hp_O) (ho : sz ≤ o.2.2.1 ∧ sl ≤ o.2.2.2) (res : (Int32 × hp_H) ⊕ ((Int32 × hp_H) ⊕ (Int32 × hp_H))) (hm : f_X3_decodeLabels_17 n v0 v1 v2 h = some res) (kI : ∀ y : Int32 × hp_H, res = .inl y → hp_V G m_X3_decodeLabels 17 [(0, .ref v0), (1, .int v1), (2, .int y.1)] [] y.2 sz sl o) (kX0 : ∀ y : Int32 × hp_H, res = .inr (.inl y) → hp_V G m_X3_decodeLabels 46 [(0, .ref v0), (2, .int y.1)] [] y.2 sz sl o) (kR : ∀ y : Int32 × hp_H, res = .inr (.inr y) → o = (some (.int y.1), y.2, sz, sl)) : hp_V G m_X3_decodeLabels 17 [(0, .ref v0), (1, .int v1), (2, .int v2)] [] h sz sl o := by
  unfold f_X3_decodeLabels_17 at hm
  refine hv_iload_n 2 dX3_decodeLabels_17 rfl rfl ?_
  refine hv_iload_n 1 dX3_decodeLabels_18 rfl rfl ?_
  refine hv_icmp_ge (tgt := 65) dX3_decodeLabels_19 (by decide) (fun c8 => ?_) (fun c8 => ?_)
  · rw [if_pos c8] at hm
    refine hv_iconst (0 : Int32) dX3_decodeLabels_65 (by decide) ?_
    obtain rfl := kR _ (Option.some.inj hm).symm
    exact hv_iret rfl dX3_decodeLabels_66
  · rw [if_neg c8] at hm
    refine hv_aload_n 0 dX3_decodeLabels_22 rfl rfl ?_
    obtain ⟨x1, hx1, hm⟩ := hp_bd hm
    refine hv_get lk_f_X3_25 dX3_decodeLabels_23 (hp_fR_spec hx1) ?_
    obtain ⟨x2, hx2, hm⟩ := hp_bd hm
    refine hv_get lk_f_X3_98 dX3_decodeLabels_26 (hp_fR_spec hx2) ?_
    refine hv_aload_n 0 dX3_decodeLabels_29 rfl rfl ?_
    obtain ⟨x3, hx3, hm⟩ := hp_bd hm
    refine hv_get lk_f_X3_29 dX3_decodeLabels_30 (hp_fI_spec hx3) ?_
    refine hv_iload_n 2 dX3_decodeLabels_33 rfl rfl ?_
    obtain ⟨x4, hx4, hm⟩ := hp_bd hm
    obtain ⟨Vx4, hVx4⟩ := k_X5_get hx4
    refine hv_callV (As := [.int x3, .int v2]) (rest := []) Z_X5_get I_X5_get lk_m_X3_78 rfl hVx4 (c_X5_get G n x2 x3 v2 h sz sl _ hx4) rfl (Nat.le_of_ble_eq_true rfl) ⟨Nat.le_of_ble_eq_true rfl, Nat.le_of_ble_eq_true rfl⟩ ho.1 ho.2 rfl dX3_decodeLabels_34 ?_
    refine hv_as [.int x4] h rfl rfl ?_
    refine hv_istore_n [(3, .int x4), (0, .ref v0), (1, .int v1), (2, .int v2)] dX3_decodeLabels_37 rfl (by decide) rfl ?_
    refine hv_aload_n 1 dX3_decodeLabels_38 rfl rfl ?_
    refine hv_iload_n 0 dX3_decodeLabels_39 rfl rfl ?_
    obtain ⟨x5, hx5, hm⟩ := hp_bd hm
    obtain ⟨Vx5, hVx5⟩ := k_X3_mayName hx5
    refine hv_callV (As := [.int x4]) (rest := []) Z_X3_mayName I_X3_mayName lk_m_X3_101 rfl hVx5 (c_X3_mayName G n v0 x4 h sz sl _ hx5) rfl (Nat.le_of_ble_eq_true rfl) ⟨Nat.le_of_ble_eq_true rfl, Nat.le_of_ble_eq_true rfl⟩ ho.1 ho.2 rfl dX3_decodeLabels_40 ?_
    refine hv_as [.int x5] h rfl rfl ?_
    refine hv_if_ne (tgt := 54) dX3_decodeLabels_43 (by decide) (fun c7 => ?_) (fun c7 => ?_)
    · rw [if_neg c7] at hm
      refine hv_aload_n 1 dX3_decodeLabels_54 rfl rfl ?_
      refine hv_iload_n 0 dX3_decodeLabels_55 rfl rfl ?_
      obtain ⟨x6, hx6, hm⟩ := hp_bd hm
      obtain ⟨Vx6, hVx6⟩ := k_X3_addStep hx6
      refine hv_callV (As := [.int x4]) (rest := []) Z_X3_addStep I_X3_addStep lk_m_X3_107 rfl hVx6 (c_X3_addStep G n v0 x4 h sz sl _ hx6) rfl (Nat.le_of_ble_eq_true rfl) ⟨Nat.le_of_ble_eq_true rfl, Nat.le_of_ble_eq_true rfl⟩ ho.1 ho.2 rfl dX3_decodeLabels_56 ?_
      refine hv_as [] x6 rfl rfl ?_
      refine hv_iinc (v2 + (1 : Int32)) 3 [(2, .int (v2 + (1 : Int32))), (3, .int x4), (0, .ref v0), (1, .int v1)] dX3_decodeLabels_59 rfl rfl (by decide) rfl ?_
      refine hv_goto (tgt := 17) dX3_decodeLabels_62 (by decide) ?_
      exact hv_sub [2, 3, 0] rfl (kI ((v2 + (1 : Int32)), x6) (Option.some.inj hm).symm)
    · rw [if_pos c7] at hm
      exact hv_sub [1, 3] rfl (kX0 (v2, h) (Option.some.inj hm).symm)
def fL_X3_decodeLabels_17 (n : Nat) (v0 : Nat) (v1 : Int32) (s : Int32 × hp_H) : Option ((Int32 × hp_H) ⊕ ((Int32 × hp_H) ⊕ (Int32 × hp_H))) := f_X3_decodeLabels_17 n v0 v1 s.1 s.2
theorem l_X3_decodeLabels_17 (G : hp_G) (n : Nat) (v0 : Nat) (v1 : Int32) (sz sl : Nat) (o : hp_O) (ho : sz ≤ o.2.2.1 ∧ sl ≤ o.2.2.2) : ∀ (k : Nat) (s : Int32 × hp_H) (x : (Int32 × hp_H) ⊕ (Int32 × hp_H)), hp_lp (fL_X3_decodeLabels_17 n v0 v1) k s = some x → (∀ y : Int32 × hp_H, x = (.inl y) → hp_V G m_X3_decodeLabels 46 [(0, .ref v0), (2, .int y.1)] [] y.2 sz sl o) → (∀ y : Int32 × hp_H, x = (.inr y) → o = (some (.int y.1), y.2, sz, sl)) → hp_V G m_X3_decodeLabels 17 [(0, .ref v0), (1, .int v1), (2, .int s.1)] [] s.2 sz sl o := by
  intro k
  induction k with
  | zero => intro s x hx; exact (hp_lp_0 hx).elim
  | succ k ih =>
    intro s x hx k0 k1
    obtain ⟨r, hr, hc⟩ := hp_lp_1 hx
    refine q_X3_decodeLabels_17 G n v0 v1 s.1 s.2 sz sl o ho r hr (fun s2 e => ?_) (fun y e => ?_) (fun y e => ?_)
    · rcases hc with ⟨s3, e3, hx3⟩ | e3
      · have e4 := Sum.inl.inj (e.symm.trans e3)
        subst e4
        exact ih _ _ hx3 k0 k1
      · cases (e.symm.trans e3)
    · rcases hc with ⟨s3, e3, hx3⟩ | e3
      · cases (e.symm.trans e3)
      · exact k0 y (Sum.inr.inj (e3.symm.trans e))
    · rcases hc with ⟨s3, e3, hx3⟩ | e3
      · cases (e.symm.trans e3)
      · exact k1 y (Sum.inr.inj (e3.symm.trans e))
def f_X3_decodeLabels_0 (n : Nat) (v0 : Nat) (h : hp_H) : Option (Int32 × hp_H) :=
  (hp_fR h 3 v0 6).bind fun x1 =>
  (hp_fR h 0 x1 10).bind fun x2 =>
  (hp_fI h 3 v0 0).bind fun x3 =>
  (f_X5_size n x2 x3 h).bind fun x4 =>
  (hp_lp (fL_X3_decodeLabels_17 n v0 x4) n ((0 : Int32), h)).bind fun x5 =>
  Sum.elim (fun y6 =>
    (f_X3_fail n v0 (-2 : Int32) y6.1 y6.2).bind fun x8 =>
    some (x8.1, x8.2)) (fun y7 =>
    some (y7.1, y7.2)) x5
set_option maxHeartbeats 1000000 in
set_option maxRecDepth 4000 in
theorem q_X3_decodeLabels_0 (G : hp_G) (n : Nat) (v0 : Nat) (h : hp_H) (sz sl : Nat) (res : Int32 × hp_H) (hm : f_X3_decodeLabels_0 n v0 h = some res) : hp_V G m_X3_decodeLabels 0 [(0, .ref v0)] [] h sz sl (some (.int res.1), res.2, sz, sl) := by
  have ho : sz ≤ sz ∧ sl ≤ sl := ⟨Nat.le_refl _, Nat.le_refl _⟩
  unfold f_X3_decodeLabels_0 at hm
  refine hv_aload_n 0 dX3_decodeLabels_0 rfl rfl ?_
  obtain ⟨x1, hx1, hm⟩ := hp_bd hm
  refine hv_get lk_f_X3_25 dX3_decodeLabels_1 (hp_fR_spec hx1) ?_
  obtain ⟨x2, hx2, hm⟩ := hp_bd hm
  refine hv_get lk_f_X3_46 dX3_decodeLabels_4 (hp_fR_spec hx2) ?_
  refine hv_aload_n 0 dX3_decodeLabels_7 rfl rfl ?_
  obtain ⟨x3, hx3, hm⟩ := hp_bd hm
  refine hv_get lk_f_X3_29 dX3_decodeLabels_8 (hp_fI_spec hx3) ?_
  obtain ⟨x4, hx4, hm⟩ := hp_bd hm
  obtain ⟨Vx4, hVx4⟩ := k_X5_size hx4
  refine hv_callV (As := [.int x3]) (rest := []) Z_X5_size I_X5_size lk_m_X3_52 rfl hVx4 (c_X5_size G n x2 x3 h sz sl _ hx4) rfl (Nat.le_of_ble_eq_true rfl) ⟨Nat.le_of_ble_eq_true rfl, Nat.le_of_ble_eq_true rfl⟩ ho.1 ho.2 rfl dX3_decodeLabels_11 ?_
  refine hv_as [.int x4] h rfl rfl ?_
  refine hv_istore_n [(1, .int x4), (0, .ref v0)] dX3_decodeLabels_14 rfl (by decide) rfl ?_
  refine hv_iconst (0 : Int32) dX3_decodeLabels_15 (by decide) ?_
  refine hv_istore_n [(2, .int (0 : Int32)), (1, .int x4), (0, .ref v0)] dX3_decodeLabels_16 rfl (by decide) rfl ?_
  obtain ⟨x5, hx5, hm⟩ := hp_bd hm
  refine hv_sub [2, 1, 0] rfl (l_X3_decodeLabels_17 G n v0 x4 sz sl _ ho n _ _ hx5 (fun y6 ey6 => ?_) (fun y7 ey7 => ?_))
  · skip
    subst ey6
    simp only [Sum.elim_inl, Sum.elim_inr] at hm
    refine hv_aload_n 0 dX3_decodeLabels_46 rfl rfl ?_
    refine hv_bipush (-2 : Int32) dX3_decodeLabels_47 (by decide) ?_
    refine hv_iload_n 1 dX3_decodeLabels_49 rfl rfl ?_
    obtain ⟨x8, hx8, hm⟩ := hp_bd hm
    obtain ⟨Vx8, hVx8⟩ := k_X3_fail hx8
    refine hv_callV (As := [.int (-2 : Int32), .int y6.1]) (rest := []) Z_X3_fail I_X3_fail lk_m_X3_104 rfl hVx8 (c_X3_fail G n v0 (-2 : Int32) y6.1 y6.2 sz sl _ hx8) rfl (Nat.le_of_ble_eq_true rfl) ⟨Nat.le_of_ble_eq_true rfl, Nat.le_of_ble_eq_true rfl⟩ ho.1 ho.2 rfl dX3_decodeLabels_50 ?_
    refine hv_as [.int x8.1] x8.2 rfl rfl ?_
    obtain rfl := Option.some.inj hm
    exact hv_iret rfl dX3_decodeLabels_53
  · skip
    subst ey7
    simp only [Sum.elim_inl, Sum.elim_inr] at hm
    obtain rfl := Option.some.inj hm
    rfl
def f_X3_decodeLabels (n : Nat) (v0 : Nat) (h : hp_H) : Option (Int32 × hp_H) := (hp_ck h 3 v0).bind fun _ => f_X3_decodeLabels_0 n v0 h
theorem c_X3_decodeLabels (G : hp_G) (n : Nat) (v0 : Nat) (h : hp_H) (sz sl : Nat) (res : Int32 × hp_H) (hm : f_X3_decodeLabels n v0 h = some res) : hp_C G m_X3_decodeLabels yX3_decodeLabels [.ref v0] h sz sl (some (.int res.1), res.2, sz, sl) := by
  unfold f_X3_decodeLabels at hm
  obtain ⟨_, _, hm⟩ := hp_bd hm
  exact hp_C_of (by decide) rfl rfl (Nat.le_of_ble_eq_true rfl) (Nat.le_refl _) (Nat.le_refl _) (hv_sub [0] rfl (q_X3_decodeLabels_0 G n v0 h sz sl res hm))
theorem k_X3_decodeLabels {n : Nat} {v0 : Nat} {h : hp_H} {res : Int32 × hp_H} (hm : f_X3_decodeLabels n v0 h = some res) : ∃ V, h v0 = some (.inr (.inr (3, V))) := by
  unfold f_X3_decodeLabels at hm
  obtain ⟨_, hu, _⟩ := hp_bd hm
  exact hp_ck_spec hu
abbrev m_X3_mark : hp_M := (RX3, cX3_mark, 1, some .int, 0, 0, "mark")
theorem Z_X3_mark : hp_Y yX3_mark m_X3_mark 0 := Y_X3_mark
def f_X3_mark_0 (n : Nat) (v0 : Nat) (h : hp_H) : Option (Int32 × hp_H) :=
  (hp_fI h 3 v0 12).bind fun x1 =>
  if x1 = 0 then
    some ((-3 : Int32), h)
  else
    (hp_fI h 3 v0 5).bind fun x2 =>
    if x2 = (200 : Int32) then
      some ((-10 : Int32), h)
    else
      (hp_fR h 3 v0 4).bind fun x3 =>
      (hp_fI h 3 v0 1).bind fun x4 =>
      (hp_sI h 1 x3 (x4 - (1 : Int32)) (1 : Int32)).bind fun h5 =>
      (hp_fI h5 3 v0 5).bind fun x6 =>
      (hp_pF h5 3 v0 5 (.int (x6 + (1 : Int32)))).bind fun h7 =>
      (hp_pF h7 3 v0 12 (.int (0 : Int32))).bind fun h8 =>
      some ((0 : Int32), h8)
set_option maxHeartbeats 1000000 in
set_option maxRecDepth 4000 in
theorem q_X3_mark_0 (G : hp_G) (n : Nat) (v0 : Nat) (h : hp_H) (sz sl : Nat) (res : Int32 × hp_H) (hm : f_X3_mark_0 n v0 h = some res) : hp_V G m_X3_mark 0 [(0, .ref v0)] [] h sz sl (some (.int res.1), res.2, sz, sl) := by
  have ho : sz ≤ sz ∧ sl ≤ sl := ⟨Nat.le_refl _, Nat.le_refl _⟩
  unfold f_X3_mark_0 at hm
  refine hv_aload_n 0 dX3_mark_0 rfl rfl ?_
  obtain ⟨x1, hx1, hm⟩ := hp_bd hm
  refine hv_get lk_f_X3_136 dX3_mark_1 (hp_fI_spec hx1) ?_
  refine hv_if_ne (tgt := 10) dX3_mark_4 (by decide) (fun c10 => ?_) (fun c10 => ?_)
  · rw [if_neg c10] at hm
    refine hv_aload_n 0 dX3_mark_10 rfl rfl ?_
    obtain ⟨x2, hx2, hm⟩ := hp_bd hm
    refine hv_get lk_f_X3_36 dX3_mark_11 (hp_fI_spec hx2) ?_
    refine hv_sipush (200 : Int32) dX3_mark_14 (by decide) ?_
    refine hv_icmp_ne (tgt := 23) dX3_mark_17 (by decide) (fun c9 => ?_) (fun c9 => ?_)
    · rw [if_neg c9] at hm
      refine hv_aload_n 0 dX3_mark_23 rfl rfl ?_
      obtain ⟨x3, hx3, hm⟩ := hp_bd hm
      refine hv_get lk_f_X3_15 dX3_mark_24 (hp_fR_spec hx3) ?_
      refine hv_aload_n 0 dX3_mark_27 rfl rfl ?_
      obtain ⟨x4, hx4, hm⟩ := hp_bd hm
      refine hv_get lk_f_X3_33 dX3_mark_28 (hp_fI_spec hx4) ?_
      refine hv_iconst (1 : Int32) dX3_mark_31 (by decide) ?_
      refine hv_isub dX3_mark_32 ?_
      refine hv_iconst (1 : Int32) dX3_mark_33 (by decide) ?_
      obtain ⟨h5, hh5, hm⟩ := hp_bd hm
      refine hv_bast dX3_mark_34 hh5 ?_
      refine hv_aload_n 0 dX3_mark_35 rfl rfl ?_
      refine hv_dup dX3_mark_36 rfl ?_
      obtain ⟨x6, hx6, hm⟩ := hp_bd hm
      refine hv_get lk_f_X3_36 dX3_mark_37 (hp_fI_spec hx6) ?_
      refine hv_iconst (1 : Int32) dX3_mark_40 (by decide) ?_
      refine hv_iadd dX3_mark_41 ?_
      obtain ⟨h7, hh7, hm⟩ := hp_bd hm
      refine hv_put lk_f_X3_36 dX3_mark_42 rfl rfl hh7 ?_
      refine hv_aload_n 0 dX3_mark_45 rfl rfl ?_
      refine hv_iconst (0 : Int32) dX3_mark_46 (by decide) ?_
      obtain ⟨h8, hh8, hm⟩ := hp_bd hm
      refine hv_put lk_f_X3_136 dX3_mark_47 rfl rfl hh8 ?_
      refine hv_iconst (0 : Int32) dX3_mark_50 (by decide) ?_
      obtain rfl := Option.some.inj hm
      exact hv_iret rfl dX3_mark_51
    · rw [if_pos c9] at hm
      refine hv_bipush (-10 : Int32) dX3_mark_20 (by decide) ?_
      obtain rfl := Option.some.inj hm
      exact hv_iret rfl dX3_mark_22
  · rw [if_pos c10] at hm
    refine hv_bipush (-3 : Int32) dX3_mark_7 (by decide) ?_
    obtain rfl := Option.some.inj hm
    exact hv_iret rfl dX3_mark_9
def f_X3_mark (n : Nat) (v0 : Nat) (h : hp_H) : Option (Int32 × hp_H) := (hp_ck h 3 v0).bind fun _ => f_X3_mark_0 n v0 h
theorem c_X3_mark (G : hp_G) (n : Nat) (v0 : Nat) (h : hp_H) (sz sl : Nat) (res : Int32 × hp_H) (hm : f_X3_mark n v0 h = some res) : hp_C G m_X3_mark yX3_mark [.ref v0] h sz sl (some (.int res.1), res.2, sz, sl) := by
  unfold f_X3_mark at hm
  obtain ⟨_, _, hm⟩ := hp_bd hm
  exact hp_C_of (by decide) rfl rfl (Nat.le_of_ble_eq_true rfl) (Nat.le_refl _) (Nat.le_refl _) (hv_sub [0] rfl (q_X3_mark_0 G n v0 h sz sl res hm))
theorem k_X3_mark {n : Nat} {v0 : Nat} {h : hp_H} {res : Int32 × hp_H} (hm : f_X3_mark n v0 h = some res) : ∃ V, h v0 = some (.inr (.inr (3, V))) := by
  unfold f_X3_mark at hm
  obtain ⟨_, hu, _⟩ := hp_bd hm
  exact hp_ck_spec hu
abbrev m_X3_takeNumber : hp_M := (RX3, cX3_takeNumber, 2, some .int, 1, 21, "takeNumber")
theorem Z_X3_takeNumber : hp_Y yX3_takeNumber m_X3_takeNumber 1 := Y_X3_takeNumber
def f_X3_takeNumber_55 (n : Nat)  (s0 : Int32) (s1 : Nat) (h : hp_H) : Option (Int32 × hp_H) :=
  (f_X3_addStep n s1 s0 h).bind fun x1 =>
  some ((0 : Int32), x1)
set_option maxHeartbeats 1000000 in
set_option maxRecDepth 4000 in
theorem q_X3_takeNumber_55 (G : hp_G) (n : Nat)  (s0 : Int32) (s1 : Nat) (h : hp_H) (sz sl : Nat) (res : Int32 × hp_H) (hm : f_X3_takeNumber_55 n s0 s1 h = some res) : hp_V G m_X3_takeNumber 55 [] [.int s0, .ref s1] h sz sl (some (.int res.1), res.2, sz, sl) := by
  have ho : sz ≤ sz ∧ sl ≤ sl := ⟨Nat.le_refl _, Nat.le_refl _⟩
  unfold f_X3_takeNumber_55 at hm
  obtain ⟨x1, hx1, hm⟩ := hp_bd hm
  obtain ⟨Vx1, hVx1⟩ := k_X3_addStep hx1
  refine hv_callV (As := [.int s0]) (rest := []) Z_X3_addStep I_X3_addStep lk_m_X3_107 rfl hVx1 (c_X3_addStep G n s1 s0 h sz sl _ hx1) rfl (Nat.le_of_ble_eq_true rfl) ⟨Nat.le_of_ble_eq_true rfl, Nat.le_of_ble_eq_true rfl⟩ ho.1 ho.2 rfl dX3_takeNumber_55 ?_
  refine hv_as [] x1 rfl rfl ?_
  refine hv_iconst (0 : Int32) dX3_takeNumber_58 (by decide) ?_
  obtain rfl := Option.some.inj hm
  exact hv_iret rfl dX3_takeNumber_59
def f_X3_takeNumber_0 (n : Nat) (v0 : Nat) (v1 : Int32) (h : hp_H) : Option (Int32 × hp_H) :=
  (hp_fI h 3 v0 8).bind fun x1 =>
  (hp_fI h 3 v0 5).bind fun x2 =>
  if v1 ≤ (x1 + x2) then
    (hp_fI h 3 v0 1).bind fun x3 =>
    if x3 = (1000 : Int32) then
      some ((-10 : Int32), h)
    else
      (hp_fI h 3 v0 8).bind fun x4 =>
      if x4 < v1 then
        (hp_fI h 3 v0 8).bind fun x5 =>
        f_X3_takeNumber_55 n (x5 - v1) v0 h
      else
        (hp_fR h 3 v0 7).bind fun x6 =>
        (hp_aI h 0 x6 (v1 - (1 : Int32))).bind fun x7 =>
        f_X3_takeNumber_55 n x7 v0 h
  else
    some ((-3 : Int32), h)
set_option maxHeartbeats 1000000 in
set_option maxRecDepth 4000 in
theorem q_X3_takeNumber_0 (G : hp_G) (n : Nat) (v0 : Nat) (v1 : Int32) (h : hp_H) (sz sl : Nat) (res : Int32 × hp_H) (hm : f_X3_takeNumber_0 n v0 v1 h = some res) : hp_V G m_X3_takeNumber 0 [(0, .ref v0), (1, .int v1)] [] h sz sl (some (.int res.1), res.2, sz, sl) := by
  have ho : sz ≤ sz ∧ sl ≤ sl := ⟨Nat.le_refl _, Nat.le_refl _⟩
  unfold f_X3_takeNumber_0 at hm
  refine hv_iload_n 1 dX3_takeNumber_0 rfl rfl ?_
  refine hv_aload_n 0 dX3_takeNumber_1 rfl rfl ?_
  obtain ⟨x1, hx1, hm⟩ := hp_bd hm
  refine hv_get lk_f_X3_117 dX3_takeNumber_2 (hp_fI_spec hx1) ?_
  refine hv_aload_n 0 dX3_takeNumber_5 rfl rfl ?_
  obtain ⟨x2, hx2, hm⟩ := hp_bd hm
  refine hv_get lk_f_X3_36 dX3_takeNumber_6 (hp_fI_spec hx2) ?_
  refine hv_iadd dX3_takeNumber_9 ?_
  refine hv_icmp_le (tgt := 16) dX3_takeNumber_10 (by decide) (fun c10 => ?_) (fun c10 => ?_)
  · rw [if_pos c10] at hm
    refine hv_aload_n 0 dX3_takeNumber_16 rfl rfl ?_
    obtain ⟨x3, hx3, hm⟩ := hp_bd hm
    refine hv_get lk_f_X3_33 dX3_takeNumber_17 (hp_fI_spec hx3) ?_
    refine hv_sipush (1000 : Int32) dX3_takeNumber_20 (by decide) ?_
    refine hv_icmp_ne (tgt := 29) dX3_takeNumber_23 (by decide) (fun c9 => ?_) (fun c9 => ?_)
    · rw [if_neg c9] at hm
      refine hv_aload_n 0 dX3_takeNumber_29 rfl rfl ?_
      refine hv_iload_n 1 dX3_takeNumber_30 rfl rfl ?_
      refine hv_aload_n 0 dX3_takeNumber_31 rfl rfl ?_
      obtain ⟨x4, hx4, hm⟩ := hp_bd hm
      refine hv_get lk_f_X3_117 dX3_takeNumber_32 (hp_fI_spec hx4) ?_
      refine hv_icmp_gt (tgt := 49) dX3_takeNumber_35 (by decide) (fun c8 => ?_) (fun c8 => ?_)
      · rw [if_pos c8] at hm
        refine hv_aload_n 0 dX3_takeNumber_49 rfl rfl ?_
        obtain ⟨x5, hx5, hm⟩ := hp_bd hm
        refine hv_get lk_f_X3_117 dX3_takeNumber_50 (hp_fI_spec hx5) ?_
        refine hv_iload_n 1 dX3_takeNumber_53 rfl rfl ?_
        refine hv_isub dX3_takeNumber_54 ?_
        exact hv_sub [] rfl (q_X3_takeNumber_55 G n (x5 - v1) v0 h sz sl _ hm)
      · rw [if_neg c8] at hm
        refine hv_aload_n 0 dX3_takeNumber_38 rfl rfl ?_
        obtain ⟨x6, hx6, hm⟩ := hp_bd hm
        refine hv_get lk_f_X3_19 dX3_takeNumber_39 (hp_fR_spec hx6) ?_
        refine hv_iload_n 1 dX3_takeNumber_42 rfl rfl ?_
        refine hv_iconst (1 : Int32) dX3_takeNumber_43 (by decide) ?_
        refine hv_isub dX3_takeNumber_44 ?_
        obtain ⟨x7, hx7, hm⟩ := hp_bd hm
        refine hv_iald dX3_takeNumber_45 hx7 ?_
        refine hv_goto (tgt := 55) dX3_takeNumber_46 (by decide) ?_
        exact hv_sub [] rfl (q_X3_takeNumber_55 G n x7 v0 h sz sl _ hm)
    · rw [if_pos c9] at hm
      refine hv_bipush (-10 : Int32) dX3_takeNumber_26 (by decide) ?_
      obtain rfl := Option.some.inj hm
      exact hv_iret rfl dX3_takeNumber_28
  · rw [if_neg c10] at hm
    refine hv_bipush (-3 : Int32) dX3_takeNumber_13 (by decide) ?_
    obtain rfl := Option.some.inj hm
    exact hv_iret rfl dX3_takeNumber_15
def f_X3_takeNumber (n : Nat) (v0 : Nat) (v1 : Int32) (h : hp_H) : Option (Int32 × hp_H) := (hp_ck h 3 v0).bind fun _ => f_X3_takeNumber_0 n v0 v1 h
theorem c_X3_takeNumber (G : hp_G) (n : Nat) (v0 : Nat) (v1 : Int32) (h : hp_H) (sz sl : Nat) (res : Int32 × hp_H) (hm : f_X3_takeNumber n v0 v1 h = some res) : hp_C G m_X3_takeNumber yX3_takeNumber [.ref v0, .int v1] h sz sl (some (.int res.1), res.2, sz, sl) := by
  unfold f_X3_takeNumber at hm
  obtain ⟨_, _, hm⟩ := hp_bd hm
  exact hp_C_of (by decide) rfl rfl (Nat.le_of_ble_eq_true rfl) (Nat.le_refl _) (Nat.le_refl _) (hv_sub [0, 1] rfl (q_X3_takeNumber_0 G n v0 v1 h sz sl res hm))
theorem k_X3_takeNumber {n : Nat} {v0 : Nat} {v1 : Int32} {h : hp_H} {res : Int32 × hp_H} (hm : f_X3_takeNumber n v0 v1 h = some res) : ∃ V, h v0 = some (.inr (.inr (3, V))) := by
  unfold f_X3_takeNumber at hm
  obtain ⟨_, hu, _⟩ := hp_bd hm
  exact hp_ck_spec hu
abbrev m_X3_takeLetter : hp_M := (RX3, cX3_takeLetter, 3, some .int, 2, 42, "takeLetter")
theorem Z_X3_takeLetter : hp_Y yX3_takeLetter m_X3_takeLetter 1 := Y_X3_takeLetter
def f_X3_takeLetter_54 (n : Nat) (v0 : Nat) (v1 : Int32) (s0 : Int32) (s1 : Nat) (h : hp_H) : Option (Int32 × hp_H) :=
  (hp_bz s0).bind fun _ =>
  (hp_pF h 3 s1 11 (.int s0)).bind fun h1 =>
  (hp_fI h1 3 v0 11).bind fun x3 =>
  if x3 = 0 then
    (hp_fI h1 3 v0 10).bind fun x4 =>
    (hp_pF h1 3 v0 10 (.int (0 : Int32))).bind fun h5 =>
    (f_X3_takeNumber n v0 (((((20 : Int32) * x4) + v1) - (65 : Int32)) + (1 : Int32)) h5).bind fun x6 =>
    some (x6.1, x6.2)
  else
    (hp_fI h1 3 v0 10).bind fun x7 =>
    (hp_pF h1 3 v0 10 (.int (hp_mn (((((5 : Int32) * x7) + v1) - (85 : Int32)) + (1 : Int32)) (100000 : Int32)))).bind fun h8 =>
    some ((0 : Int32), h8)
set_option maxHeartbeats 1000000 in
set_option maxRecDepth 4000 in
theorem q_X3_takeLetter_54 (G : hp_G) (n : Nat) (v0 : Nat) (v1 : Int32) (s0 : Int32) (s1 : Nat) (h : hp_H) (sz sl : Nat) (res : Int32 × hp_H) (hm : f_X3_takeLetter_54 n v0 v1 s0 s1 h = some res) : hp_V G m_X3_takeLetter 54 [(0, .ref v0), (1, .int v1)] [.int s0, .ref s1] h sz sl (some (.int res.1), res.2, sz, sl) := by
  have ho : sz ≤ sz ∧ sl ≤ sl := ⟨Nat.le_refl _, Nat.le_refl _⟩
  unfold f_X3_takeLetter_54 at hm
  obtain ⟨_, hu2, hm⟩ := hp_bd hm
  obtain ⟨h1, hh1, hm⟩ := hp_bd hm
  refine hv_put lk_f_X3_132 dX3_takeLetter_54 (hp_bz_nar (hp_bz_spec hu2)) (hp_bz_fit (hp_bz_spec hu2)) hh1 ?_
  refine hv_aload_n 0 dX3_takeLetter_57 rfl rfl ?_
  obtain ⟨x3, hx3, hm⟩ := hp_bd hm
  refine hv_get lk_f_X3_132 dX3_takeLetter_58 (hp_fI_spec hx3) ?_
  refine hv_if_eq (tgt := 88) dX3_takeLetter_61 (by decide) (fun c9 => ?_) (fun c9 => ?_)
  · rw [if_pos c9] at hm
    refine hv_bipush (20 : Int32) dX3_takeLetter_88 (by decide) ?_
    refine hv_aload_n 0 dX3_takeLetter_90 rfl rfl ?_
    obtain ⟨x4, hx4, hm⟩ := hp_bd hm
    refine hv_get lk_f_X3_129 dX3_takeLetter_91 (hp_fI_spec hx4) ?_
    refine hv_imul dX3_takeLetter_94 ?_
    refine hv_iload_n 1 dX3_takeLetter_95 rfl rfl ?_
    refine hv_iadd dX3_takeLetter_96 ?_
    refine hv_bipush (65 : Int32) dX3_takeLetter_97 (by decide) ?_
    refine hv_isub dX3_takeLetter_99 ?_
    refine hv_iconst (1 : Int32) dX3_takeLetter_100 (by decide) ?_
    refine hv_iadd dX3_takeLetter_101 ?_
    refine hv_istore_n [(2, .int (((((20 : Int32) * x4) + v1) - (65 : Int32)) + (1 : Int32))), (0, .ref v0), (1, .int v1)] dX3_takeLetter_102 rfl (by decide) rfl ?_
    refine hv_aload_n 1 dX3_takeLetter_103 rfl rfl ?_
    refine hv_iconst (0 : Int32) dX3_takeLetter_104 (by decide) ?_
    obtain ⟨h5, hh5, hm⟩ := hp_bd hm
    refine hv_put lk_f_X3_129 dX3_takeLetter_105 rfl rfl hh5 ?_
    refine hv_aload_n 1 dX3_takeLetter_108 rfl rfl ?_
    refine hv_iload_n 0 dX3_takeLetter_109 rfl rfl ?_
    obtain ⟨x6, hx6, hm⟩ := hp_bd hm
    obtain ⟨Vx6, hVx6⟩ := k_X3_takeNumber hx6
    refine hv_callV (As := [.int (((((20 : Int32) * x4) + v1) - (65 : Int32)) + (1 : Int32))]) (rest := []) Z_X3_takeNumber I_X3_takeNumber lk_m_X3_151 rfl hVx6 (c_X3_takeNumber G n v0 (((((20 : Int32) * x4) + v1) - (65 : Int32)) + (1 : Int32)) h5 sz sl _ hx6) rfl (Nat.le_of_ble_eq_true rfl) ⟨Nat.le_of_ble_eq_true rfl, Nat.le_of_ble_eq_true rfl⟩ ho.1 ho.2 rfl dX3_takeLetter_110 ?_
    refine hv_as [.int x6.1] x6.2 rfl rfl ?_
    obtain rfl := Option.some.inj hm
    exact hv_iret rfl dX3_takeLetter_113
  · rw [if_neg c9] at hm
    refine hv_aload_n 0 dX3_takeLetter_64 rfl rfl ?_
    refine hv_iconst (5 : Int32) dX3_takeLetter_65 (by decide) ?_
    refine hv_aload_n 0 dX3_takeLetter_66 rfl rfl ?_
    obtain ⟨x7, hx7, hm⟩ := hp_bd hm
    refine hv_get lk_f_X3_129 dX3_takeLetter_67 (hp_fI_spec hx7) ?_
    refine hv_imul dX3_takeLetter_70 ?_
    refine hv_iload_n 1 dX3_takeLetter_71 rfl rfl ?_
    refine hv_iadd dX3_takeLetter_72 ?_
    refine hv_bipush (85 : Int32) dX3_takeLetter_73 (by decide) ?_
    refine hv_isub dX3_takeLetter_75 ?_
    refine hv_iconst (1 : Int32) dX3_takeLetter_76 (by decide) ?_
    refine hv_iadd dX3_takeLetter_77 ?_
    refine hv_ldc (100000 : Int32) dX3_takeLetter_78 lk_c_X3_145 ?_
    refine hv_mmin lk_x_X3_146 ⟨Nat.le_of_ble_eq_true rfl, Nat.le_of_ble_eq_true rfl⟩ (Nat.le_of_ble_eq_true rfl) ho dX3_takeLetter_80 ?_
    obtain ⟨h8, hh8, hm⟩ := hp_bd hm
    refine hv_put lk_f_X3_129 dX3_takeLetter_83 rfl rfl hh8 ?_
    refine hv_iconst (0 : Int32) dX3_takeLetter_86 (by decide) ?_
    obtain rfl := Option.some.inj hm
    exact hv_iret rfl dX3_takeLetter_87
def f_X3_takeLetter_38 (n : Nat) (v0 : Nat) (v1 : Int32) (s0 : Int32) (s1 : Nat) (h : hp_H) : Option (Int32 × hp_H) :=
  (hp_bz s0).bind fun _ =>
  (hp_pF h 3 s1 12 (.int s0)).bind fun h1 =>
  (hp_fI h1 3 v0 12).bind fun x3 =>
  if x3 = 0 then
    f_X3_takeLetter_54 n v0 v1 (1 : Int32) v0 h1
  else
    f_X3_takeLetter_54 n v0 v1 (0 : Int32) v0 h1
set_option maxHeartbeats 1000000 in
set_option maxRecDepth 4000 in
theorem q_X3_takeLetter_38 (G : hp_G) (n : Nat) (v0 : Nat) (v1 : Int32) (s0 : Int32) (s1 : Nat) (h : hp_H) (sz sl : Nat) (res : Int32 × hp_H) (hm : f_X3_takeLetter_38 n v0 v1 s0 s1 h = some res) : hp_V G m_X3_takeLetter 38 [(0, .ref v0), (1, .int v1)] [.int s0, .ref s1] h sz sl (some (.int res.1), res.2, sz, sl) := by
  have ho : sz ≤ sz ∧ sl ≤ sl := ⟨Nat.le_refl _, Nat.le_refl _⟩
  unfold f_X3_takeLetter_38 at hm
  obtain ⟨_, hu2, hm⟩ := hp_bd hm
  obtain ⟨h1, hh1, hm⟩ := hp_bd hm
  refine hv_put lk_f_X3_136 dX3_takeLetter_38 (hp_bz_nar (hp_bz_spec hu2)) (hp_bz_fit (hp_bz_spec hu2)) hh1 ?_
  refine hv_aload_n 0 dX3_takeLetter_41 rfl rfl ?_
  refine hv_aload_n 0 dX3_takeLetter_42 rfl rfl ?_
  obtain ⟨x3, hx3, hm⟩ := hp_bd hm
  refine hv_get lk_f_X3_136 dX3_takeLetter_43 (hp_fI_spec hx3) ?_
  refine hv_if_ne (tgt := 53) dX3_takeLetter_46 (by decide) (fun c4 => ?_) (fun c4 => ?_)
  · rw [if_neg c4] at hm
    refine hv_iconst (0 : Int32) dX3_takeLetter_53 (by decide) ?_
    exact hv_sub [0, 1] rfl (q_X3_takeLetter_54 G n v0 v1 (0 : Int32) v0 h1 sz sl _ hm)
  · rw [if_pos c4] at hm
    refine hv_iconst (1 : Int32) dX3_takeLetter_49 (by decide) ?_
    refine hv_goto (tgt := 54) dX3_takeLetter_50 (by decide) ?_
    exact hv_sub [0, 1] rfl (q_X3_takeLetter_54 G n v0 v1 (1 : Int32) v0 h1 sz sl _ hm)
def f_X3_takeLetter_0 (n : Nat) (v0 : Nat) (v1 : Int32) (h : hp_H) : Option (Int32 × hp_H) :=
  if v1 < (65 : Int32) then
    some ((-3 : Int32), h)
  else
    if v1 ≤ (90 : Int32) then
      if v1 = (90 : Int32) then
        (f_X3_mark n v0 h).bind fun x2 =>
        some (x2.1, x2.2)
      else
        if (85 : Int32) ≤ v1 then
          f_X3_takeLetter_38 n v0 v1 (0 : Int32) v0 h
        else
          f_X3_takeLetter_38 n v0 v1 (1 : Int32) v0 h
    else
      some ((-3 : Int32), h)
set_option maxHeartbeats 1000000 in
set_option maxRecDepth 4000 in
theorem q_X3_takeLetter_0 (G : hp_G) (n : Nat) (v0 : Nat) (v1 : Int32) (h : hp_H) (sz sl : Nat) (res : Int32 × hp_H) (hm : f_X3_takeLetter_0 n v0 v1 h = some res) : hp_V G m_X3_takeLetter 0 [(0, .ref v0), (1, .int v1)] [] h sz sl (some (.int res.1), res.2, sz, sl) := by
  have ho : sz ≤ sz ∧ sl ≤ sl := ⟨Nat.le_refl _, Nat.le_refl _⟩
  unfold f_X3_takeLetter_0 at hm
  refine hv_iload_n 1 dX3_takeLetter_0 rfl rfl ?_
  refine hv_bipush (65 : Int32) dX3_takeLetter_1 (by decide) ?_
  refine hv_icmp_lt (tgt := 12) dX3_takeLetter_3 (by decide) (fun c5 => ?_) (fun c5 => ?_)
  · rw [if_pos c5] at hm
    refine hv_bipush (-3 : Int32) dX3_takeLetter_12 (by decide) ?_
    obtain rfl := Option.some.inj hm
    exact hv_iret rfl dX3_takeLetter_14
  · rw [if_neg c5] at hm
    refine hv_iload_n 1 dX3_takeLetter_6 rfl rfl ?_
    refine hv_bipush (90 : Int32) dX3_takeLetter_7 (by decide) ?_
    refine hv_icmp_le (tgt := 15) dX3_takeLetter_9 (by decide) (fun c4 => ?_) (fun c4 => ?_)
    · rw [if_pos c4] at hm
      refine hv_iload_n 1 dX3_takeLetter_15 rfl rfl ?_
      refine hv_bipush (90 : Int32) dX3_takeLetter_16 (by decide) ?_
      refine hv_icmp_ne (tgt := 26) dX3_takeLetter_18 (by decide) (fun c3 => ?_) (fun c3 => ?_)
      · rw [if_neg c3] at hm
        refine hv_aload_n 0 dX3_takeLetter_26 rfl rfl ?_
        refine hv_iload_n 1 dX3_takeLetter_27 rfl rfl ?_
        refine hv_bipush (85 : Int32) dX3_takeLetter_28 (by decide) ?_
        refine hv_icmp_ge (tgt := 37) dX3_takeLetter_30 (by decide) (fun c1 => ?_) (fun c1 => ?_)
        · rw [if_pos c1] at hm
          refine hv_iconst (0 : Int32) dX3_takeLetter_37 (by decide) ?_
          exact hv_sub [0, 1] rfl (q_X3_takeLetter_38 G n v0 v1 (0 : Int32) v0 h sz sl _ hm)
        · rw [if_neg c1] at hm
          refine hv_iconst (1 : Int32) dX3_takeLetter_33 (by decide) ?_
          refine hv_goto (tgt := 38) dX3_takeLetter_34 (by decide) ?_
          exact hv_sub [0, 1] rfl (q_X3_takeLetter_38 G n v0 v1 (1 : Int32) v0 h sz sl _ hm)
      · rw [if_pos c3] at hm
        refine hv_aload_n 0 dX3_takeLetter_21 rfl rfl ?_
        obtain ⟨x2, hx2, hm⟩ := hp_bd hm
        obtain ⟨Vx2, hVx2⟩ := k_X3_mark hx2
        refine hv_callV (As := []) (rest := []) Z_X3_mark I_X3_mark lk_m_X3_142 rfl hVx2 (c_X3_mark G n v0 h sz sl _ hx2) rfl (Nat.le_of_ble_eq_true rfl) ⟨Nat.le_of_ble_eq_true rfl, Nat.le_of_ble_eq_true rfl⟩ ho.1 ho.2 rfl dX3_takeLetter_22 ?_
        refine hv_as [.int x2.1] x2.2 rfl rfl ?_
        obtain rfl := Option.some.inj hm
        exact hv_iret rfl dX3_takeLetter_25
    · rw [if_neg c4] at hm
      refine hv_bipush (-3 : Int32) dX3_takeLetter_12 (by decide) ?_
      obtain rfl := Option.some.inj hm
      exact hv_iret rfl dX3_takeLetter_14
def f_X3_takeLetter (n : Nat) (v0 : Nat) (v1 : Int32) (h : hp_H) : Option (Int32 × hp_H) := (hp_ck h 3 v0).bind fun _ => f_X3_takeLetter_0 n v0 v1 h
theorem c_X3_takeLetter (G : hp_G) (n : Nat) (v0 : Nat) (v1 : Int32) (h : hp_H) (sz sl : Nat) (res : Int32 × hp_H) (hm : f_X3_takeLetter n v0 v1 h = some res) : hp_C G m_X3_takeLetter yX3_takeLetter [.ref v0, .int v1] h sz sl (some (.int res.1), res.2, sz, sl) := by
  unfold f_X3_takeLetter at hm
  obtain ⟨_, _, hm⟩ := hp_bd hm
  exact hp_C_of (by decide) rfl rfl (Nat.le_of_ble_eq_true rfl) (Nat.le_refl _) (Nat.le_refl _) (hv_sub [0, 1] rfl (q_X3_takeLetter_0 G n v0 v1 h sz sl res hm))
theorem k_X3_takeLetter {n : Nat} {v0 : Nat} {v1 : Int32} {h : hp_H} {res : Int32 × hp_H} (hm : f_X3_takeLetter n v0 v1 h = some res) : ∃ V, h v0 = some (.inr (.inr (3, V))) := by
  unfold f_X3_takeLetter at hm
  obtain ⟨_, hu, _⟩ := hp_bd hm
  exact hp_ck_spec hu
abbrev m_X3_decodeLetters : hp_M := (RX3, cX3_decodeLetters, 6, some .int, 3, 64, "decodeLetters")
theorem Z_X3_decodeLetters : hp_Y yX3_decodeLetters m_X3_decodeLetters 0 := Y_X3_decodeLetters
def f_X3_decodeLetters_69 (n : Nat) (v0 : Nat) (v1 : Int32) (v2 : Int32) (v3 : Int32) (v4 : Int32) (h : hp_H) : Option ((Int32 × Int32 × hp_H) ⊕ ((Int32 × Int32 × hp_H) ⊕ (Int32 × hp_H))) :=
  (hp_fR h 3 v0 6).bind fun x1 =>
  (hp_fI h 0 x1 2).bind fun x2 =>
  if x2 ≤ v4 then
    some (.inr (.inr (v1, h)))
  else
    (hp_fR h 3 v0 6).bind fun x3 =>
    (f_X0_isInToken n x3 v4 h).bind fun x4 =>
    if x4 = 0 then
      some (.inr (.inr (v1, h)))
    else
      (hp_fR h 3 v0 6).bind fun x5 =>
      (hp_fR h 0 x5 1).bind fun x6 =>
      (hp_aI h 1 x6 v4).bind fun x7 =>
      (f_X3_takeLetter n v0 x7 h).bind fun x8 =>
      if x8.1 = 0 then
        some (.inl ((v1 + (1 : Int32)), (v4 + (1 : Int32)), x8.2))
      else
        some (.inr (.inl (v1, x8.1, x8.2)))
set_option maxHeartbeats 1000000 in
set_option maxRecDepth 4000 in
theorem q_X3_decodeLetters_69 (G : hp_G) (n : Nat) (v0 : Nat) (v1 : Int32) (v2 : Int32) (v3 : Int32) (v4 : Int32) (h : hp_H) (sz sl : Nat) (o : hp_O) (ho : sz ≤ o.2.2.1 ∧ sl ≤ o.2.2.2) (res : (Int32 × Int32 × hp_H) ⊕ ((Int32 × Int32 × hp_H) ⊕ (Int32 × hp_H))) (hm : f_X3_decodeLetters_69 n v0 v1 v2 v3 v4 h = some res) (kI : ∀ y : Int32 × Int32 × hp_H, res = .inl y → hp_V G m_X3_decodeLetters 69 [(0, .ref v0), (1, .int y.1), (2, .int v2), (3, .int v3), (4, .int y.2.1)] [] y.2.2 sz sl o) (kX0 : ∀ y : Int32 × Int32 × hp_H, res = .inr (.inl y) → hp_V G m_X3_decodeLetters 114 [(0, .ref v0), (1, .int y.1), (5, .int y.2.1)] [] y.2.2 sz sl o) (kX1 : ∀ y : Int32 × hp_H, res = .inr (.inr y) → hp_V G m_X3_decodeLetters 131 [(0, .ref v0), (1, .int y.1), (2, .int v2), (3, .int v3)] [] y.2 sz sl o) : hp_V G m_X3_decodeLetters 69 [(0, .ref v0), (1, .int v1), (2, .int v2), (3, .int v3), (4, .int v4)] [] h sz sl o := by
  unfold f_X3_decodeLetters_69 at hm
  refine hv_iload 4 dX3_decodeLetters_69 rfl ?_
  refine hv_aload_n 0 dX3_decodeLetters_71 rfl rfl ?_
  obtain ⟨x1, hx1, hm⟩ := hp_bd hm
  refine hv_get lk_f_X3_25 dX3_decodeLetters_72 (hp_fR_spec hx1) ?_
  obtain ⟨x2, hx2, hm⟩ := hp_bd hm
  refine hv_get lk_f_X3_82 dX3_decodeLetters_75 (hp_fI_spec hx2) ?_
  refine hv_icmp_ge (tgt := 131) dX3_decodeLetters_78 (by decide) (fun c11 => ?_) (fun c11 => ?_)
  · rw [if_pos c11] at hm
    exact hv_sub [0, 1, 2, 3] rfl (kX1 (v1, h) (Option.some.inj hm).symm)
  · rw [if_neg c11] at hm
    refine hv_aload_n 0 dX3_decodeLetters_81 rfl rfl ?_
    obtain ⟨x3, hx3, hm⟩ := hp_bd hm
    refine hv_get lk_f_X3_25 dX3_decodeLetters_82 (hp_fR_spec hx3) ?_
    refine hv_iload 4 dX3_decodeLetters_85 rfl ?_
    obtain ⟨x4, hx4, hm⟩ := hp_bd hm
    obtain ⟨Vx4, hVx4⟩ := k_X0_isInToken hx4
    refine hv_callV (As := [.int v4]) (rest := []) Z_X0_isInToken I_X0_isInToken lk_m_X3_85 rfl hVx4 (c_X0_isInToken G n x3 v4 h sz sl _ hx4) rfl (Nat.le_of_ble_eq_true rfl) ⟨Nat.le_of_ble_eq_true rfl, Nat.le_of_ble_eq_true rfl⟩ ho.1 ho.2 rfl dX3_decodeLetters_87 ?_
    refine hv_as [.int x4] h rfl rfl ?_
    refine hv_if_eq (tgt := 131) dX3_decodeLetters_90 (by decide) (fun c10 => ?_) (fun c10 => ?_)
    · rw [if_pos c10] at hm
      exact hv_sub [0, 1, 2, 3] rfl (kX1 (v1, h) (Option.some.inj hm).symm)
    · rw [if_neg c10] at hm
      refine hv_aload_n 0 dX3_decodeLetters_93 rfl rfl ?_
      refine hv_aload_n 0 dX3_decodeLetters_94 rfl rfl ?_
      obtain ⟨x5, hx5, hm⟩ := hp_bd hm
      refine hv_get lk_f_X3_25 dX3_decodeLetters_95 (hp_fR_spec hx5) ?_
      obtain ⟨x6, hx6, hm⟩ := hp_bd hm
      refine hv_get lk_f_X3_89 dX3_decodeLetters_98 (hp_fR_spec hx6) ?_
      refine hv_iload 4 dX3_decodeLetters_101 rfl ?_
      obtain ⟨x7, hx7, hm⟩ := hp_bd hm
      refine hv_bald dX3_decodeLetters_103 hx7 ?_
      obtain ⟨x8, hx8, hm⟩ := hp_bd hm
      obtain ⟨Vx8, hVx8⟩ := k_X3_takeLetter hx8
      refine hv_callV (As := [.int x7]) (rest := []) Z_X3_takeLetter I_X3_takeLetter lk_m_X3_139 rfl hVx8 (c_X3_takeLetter G n v0 x7 h sz sl _ hx8) rfl (Nat.le_of_ble_eq_true rfl) ⟨Nat.le_of_ble_eq_true rfl, Nat.le_of_ble_eq_true rfl⟩ ho.1 ho.2 rfl dX3_decodeLetters_104 ?_
      refine hv_as [.int x8.1] x8.2 rfl rfl ?_
      refine hv_istore [(5, .int x8.1), (0, .ref v0), (1, .int v1), (2, .int v2), (3, .int v3), (4, .int v4)] dX3_decodeLetters_107 (by decide) rfl ?_
      refine hv_iload 0 dX3_decodeLetters_109 rfl ?_
      refine hv_if_eq (tgt := 122) dX3_decodeLetters_111 (by decide) (fun c9 => ?_) (fun c9 => ?_)
      · rw [if_pos c9] at hm
        refine hv_iinc (v1 + (1 : Int32)) 2 [(1, .int (v1 + (1 : Int32))), (5, .int x8.1), (0, .ref v0), (2, .int v2), (3, .int v3), (4, .int v4)] dX3_decodeLetters_122 rfl rfl (by decide) rfl ?_
        refine hv_iinc (v4 + (1 : Int32)) 5 [(4, .int (v4 + (1 : Int32))), (1, .int (v1 + (1 : Int32))), (5, .int x8.1), (0, .ref v0), (2, .int v2), (3, .int v3)] dX3_decodeLetters_125 rfl rfl (by decide) rfl ?_
        refine hv_goto (tgt := 69) dX3_decodeLetters_128 (by decide) ?_
        exact hv_sub [3, 1, 4, 5, 0] rfl (kI ((v1 + (1 : Int32)), (v4 + (1 : Int32)), x8.2) (Option.some.inj hm).symm)
      · rw [if_neg c9] at hm
        exact hv_sub [1, 2, 0] rfl (kX0 (v1, x8.1, x8.2) (Option.some.inj hm).symm)
def fL_X3_decodeLetters_69 (n : Nat) (v0 : Nat) (v2 : Int32) (v3 : Int32) (s : Int32 × Int32 × hp_H) : Option ((Int32 × Int32 × hp_H) ⊕ ((Int32 × Int32 × hp_H) ⊕ (Int32 × hp_H))) := f_X3_decodeLetters_69 n v0 s.1 v2 v3 s.2.1 s.2.2
theorem l_X3_decodeLetters_69 (G : hp_G) (n : Nat) (v0 : Nat) (v2 : Int32) (v3 : Int32) (sz sl : Nat) (o : hp_O) (ho : sz ≤ o.2.2.1 ∧ sl ≤ o.2.2.2) : ∀ (k : Nat) (s : Int32 × Int32 × hp_H) (x : (Int32 × Int32 × hp_H) ⊕ (Int32 × hp_H)), hp_lp (fL_X3_decodeLetters_69 n v0 v2 v3) k s = some x → (∀ y : Int32 × Int32 × hp_H, x = (.inl y) → hp_V G m_X3_decodeLetters 114 [(0, .ref v0), (1, .int y.1), (5, .int y.2.1)] [] y.2.2 sz sl o) → (∀ y : Int32 × hp_H, x = (.inr y) → hp_V G m_X3_decodeLetters 131 [(0, .ref v0), (1, .int y.1), (2, .int v2), (3, .int v3)] [] y.2 sz sl o) → hp_V G m_X3_decodeLetters 69 [(0, .ref v0), (1, .int s.1), (2, .int v2), (3, .int v3), (4, .int s.2.1)] [] s.2.2 sz sl o := by
  intro k
  induction k with
  | zero => intro s x hx; exact (hp_lp_0 hx).elim
  | succ k ih =>
    intro s x hx k0 k1
    obtain ⟨r, hr, hc⟩ := hp_lp_1 hx
    refine q_X3_decodeLetters_69 G n v0 s.1 v2 v3 s.2.1 s.2.2 sz sl o ho r hr (fun s2 e => ?_) (fun y e => ?_) (fun y e => ?_)
    · rcases hc with ⟨s3, e3, hx3⟩ | e3
      · have e4 := Sum.inl.inj (e.symm.trans e3)
        subst e4
        exact ih _ _ hx3 k0 k1
      · cases (e.symm.trans e3)
    · rcases hc with ⟨s3, e3, hx3⟩ | e3
      · cases (e.symm.trans e3)
      · exact k0 y (Sum.inr.inj (e3.symm.trans e))
    · rcases hc with ⟨s3, e3, hx3⟩ | e3
      · cases (e.symm.trans e3)
      · exact k1 y (Sum.inr.inj (e3.symm.trans e))
def f_X3_decodeLetters_131 (n : Nat) (v0 : Nat) (v1 : Int32) (v2 : Int32) (v3 : Int32) (h : hp_H) : Option ((Int32 × Int32 × hp_H) ⊕ ((Int32 × Int32 × hp_H) ⊕ (Int32 × hp_H))) :=
  some (.inl (v1, (v3 + (1 : Int32)), h))
set_option maxHeartbeats 1000000 in
set_option maxRecDepth 4000 in
theorem q_X3_decodeLetters_131 (G : hp_G) (n : Nat) (v0 : Nat) (v1 : Int32) (v2 : Int32) (v3 : Int32) (h : hp_H) (sz sl : Nat) (o : hp_O) (ho : sz ≤ o.2.2.1 ∧ sl ≤ o.2.2.2) (res : (Int32 × Int32 × hp_H) ⊕ ((Int32 × Int32 × hp_H) ⊕ (Int32 × hp_H))) (hm : f_X3_decodeLetters_131 n v0 v1 v2 v3 h = some res) (kI : ∀ y : Int32 × Int32 × hp_H, res = .inl y → hp_V G m_X3_decodeLetters 47 [(0, .ref v0), (1, .int y.1), (2, .int v2), (3, .int y.2.1)] [] y.2.2 sz sl o) (kX0 : ∀ y : Int32 × Int32 × hp_H, res = .inr (.inl y) → hp_V G m_X3_decodeLetters 114 [(0, .ref v0), (1, .int y.1), (5, .int y.2.1)] [] y.2.2 sz sl o) (kX1 : ∀ y : Int32 × hp_H, res = .inr (.inr y) → hp_V G m_X3_decodeLetters 137 [(0, .ref v0), (1, .int y.1)] [] y.2 sz sl o) : hp_V G m_X3_decodeLetters 131 [(0, .ref v0), (1, .int v1), (2, .int v2), (3, .int v3)] [] h sz sl o := by
  unfold f_X3_decodeLetters_131 at hm
  refine hv_iinc (v3 + (1 : Int32)) 3 [(3, .int (v3 + (1 : Int32))), (0, .ref v0), (1, .int v1), (2, .int v2)] dX3_decodeLetters_131 rfl rfl (by decide) rfl ?_
  refine hv_goto (tgt := 47) dX3_decodeLetters_134 (by decide) ?_
  exact hv_sub [1, 2, 3, 0] rfl (kI (v1, (v3 + (1 : Int32)), h) (Option.some.inj hm).symm)
def f_X3_decodeLetters_47 (n : Nat) (v0 : Nat) (v1 : Int32) (v2 : Int32) (v3 : Int32) (h : hp_H) : Option ((Int32 × Int32 × hp_H) ⊕ ((Int32 × Int32 × hp_H) ⊕ (Int32 × hp_H))) :=
  if v2 ≤ v3 then
    some (.inr (.inr (v1, h)))
  else
    (hp_fR h 3 v0 6).bind fun x1 =>
    (hp_fR h 0 x1 10).bind fun x2 =>
    (hp_fI h 3 v0 0).bind fun x3 =>
    (f_X5_get n x2 x3 v3 h).bind fun x4 =>
    (hp_lp (fL_X3_decodeLetters_69 n v0 v2 v3) n (v1, x4, h)).bind fun x5 =>
    Sum.elim (fun y6 =>
      some (.inr (.inl (y6.1, y6.2.1, y6.2.2)))) (fun y7 =>
      f_X3_decodeLetters_131 n v0 y7.1 v2 v3 y7.2) x5
set_option maxHeartbeats 1000000 in
set_option maxRecDepth 4000 in
theorem q_X3_decodeLetters_47 (G : hp_G) (n : Nat) (v0 : Nat) (v1 : Int32) (v2 : Int32) (v3 : Int32) (h : hp_H) (sz sl : Nat) (o : hp_O) (ho : sz ≤ o.2.2.1 ∧ sl ≤ o.2.2.2) (res : (Int32 × Int32 × hp_H) ⊕ ((Int32 × Int32 × hp_H) ⊕ (Int32 × hp_H))) (hm : f_X3_decodeLetters_47 n v0 v1 v2 v3 h = some res) (kI : ∀ y : Int32 × Int32 × hp_H, res = .inl y → hp_V G m_X3_decodeLetters 47 [(0, .ref v0), (1, .int y.1), (2, .int v2), (3, .int y.2.1)] [] y.2.2 sz sl o) (kX0 : ∀ y : Int32 × Int32 × hp_H, res = .inr (.inl y) → hp_V G m_X3_decodeLetters 114 [(0, .ref v0), (1, .int y.1), (5, .int y.2.1)] [] y.2.2 sz sl o) (kX1 : ∀ y : Int32 × hp_H, res = .inr (.inr y) → hp_V G m_X3_decodeLetters 137 [(0, .ref v0), (1, .int y.1)] [] y.2 sz sl o) : hp_V G m_X3_decodeLetters 47 [(0, .ref v0), (1, .int v1), (2, .int v2), (3, .int v3)] [] h sz sl o := by
  unfold f_X3_decodeLetters_47 at hm
  refine hv_iload_n 3 dX3_decodeLetters_47 rfl rfl ?_
  refine hv_iload_n 2 dX3_decodeLetters_48 rfl rfl ?_
  refine hv_icmp_ge (tgt := 137) dX3_decodeLetters_49 (by decide) (fun c8 => ?_) (fun c8 => ?_)
  · rw [if_pos c8] at hm
    exact hv_sub [0, 1] rfl (kX1 (v1, h) (Option.some.inj hm).symm)
  · rw [if_neg c8] at hm
    refine hv_aload_n 0 dX3_decodeLetters_52 rfl rfl ?_
    obtain ⟨x1, hx1, hm⟩ := hp_bd hm
    refine hv_get lk_f_X3_25 dX3_decodeLetters_53 (hp_fR_spec hx1) ?_
    obtain ⟨x2, hx2, hm⟩ := hp_bd hm
    refine hv_get lk_f_X3_46 dX3_decodeLetters_56 (hp_fR_spec hx2) ?_
    refine hv_aload_n 0 dX3_decodeLetters_59 rfl rfl ?_
    obtain ⟨x3, hx3, hm⟩ := hp_bd hm
    refine hv_get lk_f_X3_29 dX3_decodeLetters_60 (hp_fI_spec hx3) ?_
    refine hv_iload_n 3 dX3_decodeLetters_63 rfl rfl ?_
    obtain ⟨x4, hx4, hm⟩ := hp_bd hm
    obtain ⟨Vx4, hVx4⟩ := k_X5_get hx4
    refine hv_callV (As := [.int x3, .int v3]) (rest := []) Z_X5_get I_X5_get lk_m_X3_78 rfl hVx4 (c_X5_get G n x2 x3 v3 h sz sl _ hx4) rfl (Nat.le_of_ble_eq_true rfl) ⟨Nat.le_of_ble_eq_true rfl, Nat.le_of_ble_eq_true rfl⟩ ho.1 ho.2 rfl dX3_decodeLetters_64 ?_
    refine hv_as [.int x4] h rfl rfl ?_
    refine hv_istore [(4, .int x4), (0, .ref v0), (1, .int v1), (2, .int v2), (3, .int v3)] dX3_decodeLetters_67 (by decide) rfl ?_
    obtain ⟨x5, hx5, hm⟩ := hp_bd hm
    refine hv_sub [1, 2, 3, 4, 0] rfl (l_X3_decodeLetters_69 G n v0 v2 v3 sz sl _ ho n _ _ hx5 (fun y6 ey6 => ?_) (fun y7 ey7 => ?_))
    · skip
      subst ey6
      simp only [Sum.elim_inl, Sum.elim_inr] at hm
      exact hv_sub [0, 1, 2] rfl (kX0 (y6.1, y6.2.1, y6.2.2) (Option.some.inj hm).symm)
    · skip
      subst ey7
      simp only [Sum.elim_inl, Sum.elim_inr] at hm
      exact hv_sub [0, 1, 2, 3] rfl (q_X3_decodeLetters_131 G n v0 y7.1 v2 v3 y7.2 sz sl o ho _ hm kI kX0 kX1)
def fL_X3_decodeLetters_47 (n : Nat) (v0 : Nat) (v2 : Int32) (s : Int32 × Int32 × hp_H) : Option ((Int32 × Int32 × hp_H) ⊕ ((Int32 × Int32 × hp_H) ⊕ (Int32 × hp_H))) := f_X3_decodeLetters_47 n v0 s.1 v2 s.2.1 s.2.2
theorem l_X3_decodeLetters_47 (G : hp_G) (n : Nat) (v0 : Nat) (v2 : Int32) (sz sl : Nat) (o : hp_O) (ho : sz ≤ o.2.2.1 ∧ sl ≤ o.2.2.2) : ∀ (k : Nat) (s : Int32 × Int32 × hp_H) (x : (Int32 × Int32 × hp_H) ⊕ (Int32 × hp_H)), hp_lp (fL_X3_decodeLetters_47 n v0 v2) k s = some x → (∀ y : Int32 × Int32 × hp_H, x = (.inl y) → hp_V G m_X3_decodeLetters 114 [(0, .ref v0), (1, .int y.1), (5, .int y.2.1)] [] y.2.2 sz sl o) → (∀ y : Int32 × hp_H, x = (.inr y) → hp_V G m_X3_decodeLetters 137 [(0, .ref v0), (1, .int y.1)] [] y.2 sz sl o) → hp_V G m_X3_decodeLetters 47 [(0, .ref v0), (1, .int s.1), (2, .int v2), (3, .int s.2.1)] [] s.2.2 sz sl o := by
  intro k
  induction k with
  | zero => intro s x hx; exact (hp_lp_0 hx).elim
  | succ k ih =>
    intro s x hx k0 k1
    obtain ⟨r, hr, hc⟩ := hp_lp_1 hx
    refine q_X3_decodeLetters_47 G n v0 s.1 v2 s.2.1 s.2.2 sz sl o ho r hr (fun s2 e => ?_) (fun y e => ?_) (fun y e => ?_)
    · rcases hc with ⟨s3, e3, hx3⟩ | e3
      · have e4 := Sum.inl.inj (e.symm.trans e3)
        subst e4
        exact ih _ _ hx3 k0 k1
      · cases (e.symm.trans e3)
    · rcases hc with ⟨s3, e3, hx3⟩ | e3
      · cases (e.symm.trans e3)
      · exact k0 y (Sum.inr.inj (e3.symm.trans e))
    · rcases hc with ⟨s3, e3, hx3⟩ | e3
      · cases (e.symm.trans e3)
      · exact k1 y (Sum.inr.inj (e3.symm.trans e))
def f_X3_decodeLetters_148 (n : Nat) (v0 : Nat) (v1 : Int32) (h : hp_H) : Option (Int32 × hp_H) :=
  (f_X3_fail n v0 (-3 : Int32) v1 h).bind fun x1 =>
  some (x1.1, x1.2)
set_option maxHeartbeats 1000000 in
set_option maxRecDepth 4000 in
theorem q_X3_decodeLetters_148 (G : hp_G) (n : Nat) (v0 : Nat) (v1 : Int32) (h : hp_H) (sz sl : Nat) (res : Int32 × hp_H) (hm : f_X3_decodeLetters_148 n v0 v1 h = some res) : hp_V G m_X3_decodeLetters 148 [(0, .ref v0), (1, .int v1)] [] h sz sl (some (.int res.1), res.2, sz, sl) := by
  have ho : sz ≤ sz ∧ sl ≤ sl := ⟨Nat.le_refl _, Nat.le_refl _⟩
  unfold f_X3_decodeLetters_148 at hm
  refine hv_aload_n 0 dX3_decodeLetters_148 rfl rfl ?_
  refine hv_bipush (-3 : Int32) dX3_decodeLetters_149 (by decide) ?_
  refine hv_iload_n 1 dX3_decodeLetters_151 rfl rfl ?_
  obtain ⟨x1, hx1, hm⟩ := hp_bd hm
  obtain ⟨Vx1, hVx1⟩ := k_X3_fail hx1
  refine hv_callV (As := [.int (-3 : Int32), .int v1]) (rest := []) Z_X3_fail I_X3_fail lk_m_X3_104 rfl hVx1 (c_X3_fail G n v0 (-3 : Int32) v1 h sz sl _ hx1) rfl (Nat.le_of_ble_eq_true rfl) ⟨Nat.le_of_ble_eq_true rfl, Nat.le_of_ble_eq_true rfl⟩ ho.1 ho.2 rfl dX3_decodeLetters_152 ?_
  refine hv_as [.int x1.1] x1.2 rfl rfl ?_
  refine hv_goto (tgt := 159) dX3_decodeLetters_155 (by decide) ?_
  obtain rfl := Option.some.inj hm
  exact hv_iret rfl dX3_decodeLetters_159
def f_X3_decodeLetters_0 (n : Nat) (v0 : Nat) (h : hp_H) : Option (Int32 × hp_H) :=
  (hp_pF h 3 v0 10 (.int (0 : Int32))).bind fun h1 =>
  (hp_pF h1 3 v0 11 (.int (0 : Int32))).bind fun h2 =>
  (hp_pF h2 3 v0 12 (.int (0 : Int32))).bind fun h3 =>
  (hp_fR h3 3 v0 6).bind fun x4 =>
  (hp_fR h3 0 x4 10).bind fun x5 =>
  (hp_fI h3 3 v0 0).bind fun x6 =>
  (f_X5_size n x5 x6 h3).bind fun x7 =>
  (hp_fR h3 3 v0 6).bind fun x8 =>
  (hp_fR h3 0 x8 16).bind fun x9 =>
  (hp_fI h3 3 v0 0).bind fun x10 =>
  (hp_aI h3 0 x9 x10).bind fun x11 =>
  (hp_lp (fL_X3_decodeLetters_47 n v0 x7) n ((0 : Int32), (x11 + (1 : Int32)), h3)).bind fun x12 =>
  Sum.elim (fun y13 =>
    (f_X3_fail n v0 y13.2.1 y13.1 y13.2.2).bind fun x15 =>
    some (x15.1, x15.2)) (fun y14 =>
    (hp_fI y14.2 3 v0 11).bind fun x16 =>
    if x16 = 0 then
      if y14.1 = 0 then
        f_X3_decodeLetters_148 n v0 y14.1 y14.2
      else
        some ((0 : Int32), y14.2)
    else
      f_X3_decodeLetters_148 n v0 y14.1 y14.2) x12
set_option maxHeartbeats 1000000 in
set_option maxRecDepth 4000 in
theorem q_X3_decodeLetters_0 (G : hp_G) (n : Nat) (v0 : Nat) (h : hp_H) (sz sl : Nat) (res : Int32 × hp_H) (hm : f_X3_decodeLetters_0 n v0 h = some res) : hp_V G m_X3_decodeLetters 0 [(0, .ref v0)] [] h sz sl (some (.int res.1), res.2, sz, sl) := by
  have ho : sz ≤ sz ∧ sl ≤ sl := ⟨Nat.le_refl _, Nat.le_refl _⟩
  unfold f_X3_decodeLetters_0 at hm
  refine hv_aload_n 0 dX3_decodeLetters_0 rfl rfl ?_
  refine hv_iconst (0 : Int32) dX3_decodeLetters_1 (by decide) ?_
  obtain ⟨h1, hh1, hm⟩ := hp_bd hm
  refine hv_put lk_f_X3_129 dX3_decodeLetters_2 rfl rfl hh1 ?_
  refine hv_aload_n 0 dX3_decodeLetters_5 rfl rfl ?_
  refine hv_iconst (0 : Int32) dX3_decodeLetters_6 (by decide) ?_
  obtain ⟨h2, hh2, hm⟩ := hp_bd hm
  refine hv_put lk_f_X3_132 dX3_decodeLetters_7 rfl rfl hh2 ?_
  refine hv_aload_n 0 dX3_decodeLetters_10 rfl rfl ?_
  refine hv_iconst (0 : Int32) dX3_decodeLetters_11 (by decide) ?_
  obtain ⟨h3, hh3, hm⟩ := hp_bd hm
  refine hv_put lk_f_X3_136 dX3_decodeLetters_12 rfl rfl hh3 ?_
  refine hv_iconst (0 : Int32) dX3_decodeLetters_15 (by decide) ?_
  refine hv_istore_n [(1, .int (0 : Int32)), (0, .ref v0)] dX3_decodeLetters_16 rfl (by decide) rfl ?_
  refine hv_aload_n 1 dX3_decodeLetters_17 rfl rfl ?_
  obtain ⟨x4, hx4, hm⟩ := hp_bd hm
  refine hv_get lk_f_X3_25 dX3_decodeLetters_18 (hp_fR_spec hx4) ?_
  obtain ⟨x5, hx5, hm⟩ := hp_bd hm
  refine hv_get lk_f_X3_46 dX3_decodeLetters_21 (hp_fR_spec hx5) ?_
  refine hv_aload_n 1 dX3_decodeLetters_24 rfl rfl ?_
  obtain ⟨x6, hx6, hm⟩ := hp_bd hm
  refine hv_get lk_f_X3_29 dX3_decodeLetters_25 (hp_fI_spec hx6) ?_
  obtain ⟨x7, hx7, hm⟩ := hp_bd hm
  obtain ⟨Vx7, hVx7⟩ := k_X5_size hx7
  refine hv_callV (As := [.int x6]) (rest := []) Z_X5_size I_X5_size lk_m_X3_52 rfl hVx7 (c_X5_size G n x5 x6 h3 sz sl _ hx7) rfl (Nat.le_of_ble_eq_true rfl) ⟨Nat.le_of_ble_eq_true rfl, Nat.le_of_ble_eq_true rfl⟩ ho.1 ho.2 rfl dX3_decodeLetters_28 ?_
  refine hv_as [.int x7] h3 rfl rfl ?_
  refine hv_istore_n [(2, .int x7), (1, .int (0 : Int32)), (0, .ref v0)] dX3_decodeLetters_31 rfl (by decide) rfl ?_
  refine hv_aload_n 2 dX3_decodeLetters_32 rfl rfl ?_
  obtain ⟨x8, hx8, hm⟩ := hp_bd hm
  refine hv_get lk_f_X3_25 dX3_decodeLetters_33 (hp_fR_spec hx8) ?_
  obtain ⟨x9, hx9, hm⟩ := hp_bd hm
  refine hv_get lk_f_X3_75 dX3_decodeLetters_36 (hp_fR_spec hx9) ?_
  refine hv_aload_n 2 dX3_decodeLetters_39 rfl rfl ?_
  obtain ⟨x10, hx10, hm⟩ := hp_bd hm
  refine hv_get lk_f_X3_29 dX3_decodeLetters_40 (hp_fI_spec hx10) ?_
  obtain ⟨x11, hx11, hm⟩ := hp_bd hm
  refine hv_iald dX3_decodeLetters_43 hx11 ?_
  refine hv_iconst (1 : Int32) dX3_decodeLetters_44 (by decide) ?_
  refine hv_iadd dX3_decodeLetters_45 ?_
  refine hv_istore_n [(3, .int (x11 + (1 : Int32))), (2, .int x7), (1, .int (0 : Int32)), (0, .ref v0)] dX3_decodeLetters_46 rfl (by decide) rfl ?_
  obtain ⟨x12, hx12, hm⟩ := hp_bd hm
  refine hv_sub [3, 2, 1, 0] rfl (l_X3_decodeLetters_47 G n v0 x7 sz sl _ ho n _ _ hx12 (fun y13 ey13 => ?_) (fun y14 ey14 => ?_))
  · skip
    subst ey13
    simp only [Sum.elim_inl, Sum.elim_inr] at hm
    refine hv_aload_n 0 dX3_decodeLetters_114 rfl rfl ?_
    refine hv_iload 2 dX3_decodeLetters_115 rfl ?_
    refine hv_iload_n 1 dX3_decodeLetters_117 rfl rfl ?_
    obtain ⟨x15, hx15, hm⟩ := hp_bd hm
    obtain ⟨Vx15, hVx15⟩ := k_X3_fail hx15
    refine hv_callV (As := [.int y13.2.1, .int y13.1]) (rest := []) Z_X3_fail I_X3_fail lk_m_X3_104 rfl hVx15 (c_X3_fail G n v0 y13.2.1 y13.1 y13.2.2 sz sl _ hx15) rfl (Nat.le_of_ble_eq_true rfl) ⟨Nat.le_of_ble_eq_true rfl, Nat.le_of_ble_eq_true rfl⟩ ho.1 ho.2 rfl dX3_decodeLetters_118 ?_
    refine hv_as [.int x15.1] x15.2 rfl rfl ?_
    obtain rfl := Option.some.inj hm
    exact hv_iret rfl dX3_decodeLetters_121
  · skip
    subst ey14
    simp only [Sum.elim_inl, Sum.elim_inr] at hm
    refine hv_aload_n 0 dX3_decodeLetters_137 rfl rfl ?_
    obtain ⟨x16, hx16, hm⟩ := hp_bd hm
    refine hv_get lk_f_X3_132 dX3_decodeLetters_138 (hp_fI_spec hx16) ?_
    refine hv_if_ne (tgt := 148) dX3_decodeLetters_141 (by decide) (fun c18 => ?_) (fun c18 => ?_)
    · rw [if_neg c18] at hm
      exact hv_sub [0, 1] rfl (q_X3_decodeLetters_148 G n v0 y14.1 y14.2 sz sl _ hm)
    · rw [if_pos c18] at hm
      refine hv_iload_n 1 dX3_decodeLetters_144 rfl rfl ?_
      refine hv_if_ne (tgt := 158) dX3_decodeLetters_145 (by decide) (fun c17 => ?_) (fun c17 => ?_)
      · rw [if_neg c17] at hm
        refine hv_iconst (0 : Int32) dX3_decodeLetters_158 (by decide) ?_
        obtain rfl := Option.some.inj hm
        exact hv_iret rfl dX3_decodeLetters_159
      · rw [if_pos c17] at hm
        exact hv_sub [0, 1] rfl (q_X3_decodeLetters_148 G n v0 y14.1 y14.2 sz sl _ hm)
def f_X3_decodeLetters (n : Nat) (v0 : Nat) (h : hp_H) : Option (Int32 × hp_H) := (hp_ck h 3 v0).bind fun _ => f_X3_decodeLetters_0 n v0 h
theorem c_X3_decodeLetters (G : hp_G) (n : Nat) (v0 : Nat) (h : hp_H) (sz sl : Nat) (res : Int32 × hp_H) (hm : f_X3_decodeLetters n v0 h = some res) : hp_C G m_X3_decodeLetters yX3_decodeLetters [.ref v0] h sz sl (some (.int res.1), res.2, sz, sl) := by
  unfold f_X3_decodeLetters at hm
  obtain ⟨_, _, hm⟩ := hp_bd hm
  exact hp_C_of (by decide) rfl rfl (Nat.le_of_ble_eq_true rfl) (Nat.le_refl _) (Nat.le_refl _) (hv_sub [0] rfl (q_X3_decodeLetters_0 G n v0 h sz sl res hm))
theorem k_X3_decodeLetters {n : Nat} {v0 : Nat} {h : hp_H} {res : Int32 × hp_H} (hm : f_X3_decodeLetters n v0 h = some res) : ∃ V, h v0 = some (.inr (.inr (3, V))) := by
  unfold f_X3_decodeLetters at hm
  obtain ⟨_, hu, _⟩ := hp_bd hm
  exact hp_ck_spec hu
abbrev m_X3_decode : hp_M := (RX3, cX3_decode, 5, some .int, 4, 89, "decode")
theorem Z_X3_decode : hp_Y yX3_decode m_X3_decode 2 := Y_X3_decode
def f_X3_decode_100 (n : Nat) (v0 : Nat) (v4 : Int32) (h : hp_H) : Option (Int32 × hp_H) :=
  if v4 = 0 then
    (hp_fI h 3 v0 1).bind fun x1 =>
    (hp_pF h 3 v0 2 (.int x1)).bind fun h2 =>
    some (v4, h2)
  else
    some (v4, h)
set_option maxHeartbeats 1000000 in
set_option maxRecDepth 4000 in
theorem q_X3_decode_100 (G : hp_G) (n : Nat) (v0 : Nat) (v4 : Int32) (h : hp_H) (sz sl : Nat) (res : Int32 × hp_H) (hm : f_X3_decode_100 n v0 v4 h = some res) : hp_V G m_X3_decode 100 [(0, .ref v0), (4, .int v4)] [] h sz sl (some (.int res.1), res.2, sz, sl) := by
  have ho : sz ≤ sz ∧ sl ≤ sl := ⟨Nat.le_refl _, Nat.le_refl _⟩
  unfold f_X3_decode_100 at hm
  refine hv_iload 1 dX3_decode_100 rfl ?_
  refine hv_if_ne (tgt := 113) dX3_decode_102 (by decide) (fun c3 => ?_) (fun c3 => ?_)
  · rw [if_neg c3] at hm
    refine hv_iload 1 dX3_decode_113 rfl ?_
    obtain rfl := Option.some.inj hm
    exact hv_iret rfl dX3_decode_115
  · rw [if_pos c3] at hm
    refine hv_aload_n 0 dX3_decode_105 rfl rfl ?_
    refine hv_aload_n 0 dX3_decode_106 rfl rfl ?_
    obtain ⟨x1, hx1, hm⟩ := hp_bd hm
    refine hv_get lk_f_X3_33 dX3_decode_107 (hp_fI_spec hx1) ?_
    obtain ⟨h2, hh2, hm⟩ := hp_bd hm
    refine hv_put lk_f_X3_39 dX3_decode_110 rfl rfl hh2 ?_
    refine hv_iload 1 dX3_decode_113 rfl ?_
    obtain rfl := Option.some.inj hm
    exact hv_iret rfl dX3_decode_115
def f_X3_decode_83 (n : Nat) (v0 : Nat) (v3 : Int32) (s0 : Int32) (h : hp_H) : Option (Int32 × hp_H) :=
  if s0 = 0 then
    if v3 = 0 then
      f_X3_decode_100 n v0 s0 h
    else
      (f_X3_decodeLetters n v0 h).bind fun x1 =>
      f_X3_decode_100 n v0 x1.1 x1.2
  else
    f_X3_decode_100 n v0 s0 h
set_option maxHeartbeats 1000000 in
set_option maxRecDepth 4000 in
theorem q_X3_decode_83 (G : hp_G) (n : Nat) (v0 : Nat) (v3 : Int32) (s0 : Int32) (h : hp_H) (sz sl : Nat) (res : Int32 × hp_H) (hm : f_X3_decode_83 n v0 v3 s0 h = some res) : hp_V G m_X3_decode 83 [(0, .ref v0), (3, .int v3)] [.int s0] h sz sl (some (.int res.1), res.2, sz, sl) := by
  have ho : sz ≤ sz ∧ sl ≤ sl := ⟨Nat.le_refl _, Nat.le_refl _⟩
  unfold f_X3_decode_83 at hm
  refine hv_istore [(4, .int s0), (0, .ref v0), (3, .int v3)] dX3_decode_83 (by decide) rfl ?_
  refine hv_iload 0 dX3_decode_85 rfl ?_
  refine hv_if_ne (tgt := 100) dX3_decode_87 (by decide) (fun c3 => ?_) (fun c3 => ?_)
  · rw [if_neg c3] at hm
    exact hv_sub [1, 0] rfl (q_X3_decode_100 G n v0 s0 h sz sl _ hm)
  · rw [if_pos c3] at hm
    refine hv_iload_n 2 dX3_decode_90 rfl rfl ?_
    refine hv_if_eq (tgt := 100) dX3_decode_91 (by decide) (fun c2 => ?_) (fun c2 => ?_)
    · rw [if_pos c2] at hm
      exact hv_sub [1, 0] rfl (q_X3_decode_100 G n v0 s0 h sz sl _ hm)
    · rw [if_neg c2] at hm
      refine hv_aload_n 1 dX3_decode_94 rfl rfl ?_
      obtain ⟨x1, hx1, hm⟩ := hp_bd hm
      obtain ⟨Vx1, hVx1⟩ := k_X3_decodeLetters hx1
      refine hv_callV (As := []) (rest := []) Z_X3_decodeLetters I_X3_decodeLetters lk_m_X3_68 rfl hVx1 (c_X3_decodeLetters G n v0 h sz sl _ hx1) rfl (Nat.le_of_ble_eq_true rfl) ⟨Nat.le_of_ble_eq_true rfl, Nat.le_of_ble_eq_true rfl⟩ ho.1 ho.2 rfl dX3_decode_95 ?_
      refine hv_as [.int x1.1] x1.2 rfl rfl ?_
      refine hv_istore [(4, .int x1.1), (0, .ref v0), (3, .int v3)] dX3_decode_98 (by decide) rfl ?_
      exact hv_sub [1, 0] rfl (q_X3_decode_100 G n v0 x1.1 x1.2 sz sl _ hm)
def f_X3_decode_67 (n : Nat) (v0 : Nat) (s0 : Int32) (h : hp_H) : Option (Int32 × hp_H) :=
  if s0 = 0 then
    (f_X3_decodeLabels n v0 h).bind fun x1 =>
    f_X3_decode_83 n v0 s0 x1.1 x1.2
  else
    (f_X3_decodeList n v0 h).bind fun x2 =>
    f_X3_decode_83 n v0 s0 x2.1 x2.2
set_option maxHeartbeats 1000000 in
set_option maxRecDepth 4000 in
theorem q_X3_decode_67 (G : hp_G) (n : Nat) (v0 : Nat) (s0 : Int32) (h : hp_H) (sz sl : Nat) (res : Int32 × hp_H) (hm : f_X3_decode_67 n v0 s0 h = some res) : hp_V G m_X3_decode 67 [(0, .ref v0)] [.int s0] h sz sl (some (.int res.1), res.2, sz, sl) := by
  have ho : sz ≤ sz ∧ sl ≤ sl := ⟨Nat.le_refl _, Nat.le_refl _⟩
  unfold f_X3_decode_67 at hm
  refine hv_istore_n [(3, .int s0), (0, .ref v0)] dX3_decode_67 rfl (by decide) rfl ?_
  refine hv_iload_n 0 dX3_decode_68 rfl rfl ?_
  refine hv_if_eq (tgt := 79) dX3_decode_69 (by decide) (fun c3 => ?_) (fun c3 => ?_)
  · rw [if_pos c3] at hm
    refine hv_aload_n 1 dX3_decode_79 rfl rfl ?_
    obtain ⟨x1, hx1, hm⟩ := hp_bd hm
    obtain ⟨Vx1, hVx1⟩ := k_X3_decodeLabels hx1
    refine hv_callV (As := []) (rest := []) Z_X3_decodeLabels I_X3_decodeLabels lk_m_X3_65 rfl hVx1 (c_X3_decodeLabels G n v0 h sz sl _ hx1) rfl (Nat.le_of_ble_eq_true rfl) ⟨Nat.le_of_ble_eq_true rfl, Nat.le_of_ble_eq_true rfl⟩ ho.1 ho.2 rfl dX3_decode_80 ?_
    refine hv_as [.int x1.1] x1.2 rfl rfl ?_
    exact hv_sub [1, 0] rfl (q_X3_decode_83 G n v0 s0 x1.1 x1.2 sz sl _ hm)
  · rw [if_neg c3] at hm
    refine hv_aload_n 1 dX3_decode_72 rfl rfl ?_
    obtain ⟨x2, hx2, hm⟩ := hp_bd hm
    obtain ⟨Vx2, hVx2⟩ := k_X3_decodeList hx2
    refine hv_callV (As := []) (rest := []) Z_X3_decodeList I_X3_decodeList lk_m_X3_61 rfl hVx2 (c_X3_decodeList G n v0 h sz sl _ hx2) rfl (Nat.le_of_ble_eq_true rfl) ⟨Nat.le_of_ble_eq_true rfl, Nat.le_of_ble_eq_true rfl⟩ ho.1 ho.2 rfl dX3_decode_73 ?_
    refine hv_as [.int x2.1] x2.2 rfl rfl ?_
    refine hv_goto (tgt := 83) dX3_decode_76 (by decide) ?_
    exact hv_sub [1, 0] rfl (q_X3_decode_83 G n v0 s0 x2.1 x2.2 sz sl _ hm)
def f_X3_decode_0 (n : Nat) (v0 : Nat) (v1 : Nat) (v2 : Int32) (h : hp_H) : Option (Int32 × hp_H) :=
  (hp_pF h 3 v0 6 (.ref v1)).bind fun h1 =>
  (hp_pF h1 3 v0 0 (.int v2)).bind fun h2 =>
  (hp_pF h2 3 v0 1 (.int (0 : Int32))).bind fun h3 =>
  (hp_pF h3 3 v0 5 (.int (0 : Int32))).bind fun h4 =>
  (hp_pF h4 3 v0 2 (.int (0 : Int32))).bind fun h5 =>
  (f_X3_isOpen n v0 h5).bind fun x6 =>
  if x6 = 0 then
    (hp_fR h5 3 v0 6).bind fun x7 =>
    (hp_fR h5 0 x7 10).bind fun x8 =>
    (f_X5_size n x8 v2 h5).bind fun x9 =>
    if x9 = 0 then
      some ((-1 : Int32), h5)
    else
      (hp_fR h5 3 v0 6).bind fun x10 =>
      (hp_fR h5 0 x10 15).bind fun x11 =>
      (hp_aI h5 1 x11 v2).bind fun x12 =>
      if x12 = 0 then
        f_X3_decode_67 n v0 (0 : Int32) h5
      else
        f_X3_decode_67 n v0 (1 : Int32) h5
  else
    some ((1 : Int32), h5)
set_option maxHeartbeats 1000000 in
set_option maxRecDepth 4000 in
theorem q_X3_decode_0 (G : hp_G) (n : Nat) (v0 : Nat) (v1 : Nat) (v2 : Int32) (h : hp_H) (sz sl : Nat) (res : Int32 × hp_H) (hm : f_X3_decode_0 n v0 v1 v2 h = some res) : hp_V G m_X3_decode 0 [(0, .ref v0), (1, .ref v1), (2, .int v2)] [] h sz sl (some (.int res.1), res.2, sz, sl) := by
  have ho : sz ≤ sz ∧ sl ≤ sl := ⟨Nat.le_refl _, Nat.le_refl _⟩
  unfold f_X3_decode_0 at hm
  refine hv_aload_n 0 dX3_decode_0 rfl rfl ?_
  refine hv_aload_n 1 dX3_decode_1 rfl rfl ?_
  obtain ⟨h1, hh1, hm⟩ := hp_bd hm
  refine hv_put lk_f_X3_25 dX3_decode_2 rfl rfl hh1 ?_
  refine hv_aload_n 0 dX3_decode_5 rfl rfl ?_
  refine hv_iload_n 2 dX3_decode_6 rfl rfl ?_
  obtain ⟨h2, hh2, hm⟩ := hp_bd hm
  refine hv_put lk_f_X3_29 dX3_decode_7 rfl rfl hh2 ?_
  refine hv_aload_n 0 dX3_decode_10 rfl rfl ?_
  refine hv_iconst (0 : Int32) dX3_decode_11 (by decide) ?_
  obtain ⟨h3, hh3, hm⟩ := hp_bd hm
  refine hv_put lk_f_X3_33 dX3_decode_12 rfl rfl hh3 ?_
  refine hv_aload_n 0 dX3_decode_15 rfl rfl ?_
  refine hv_iconst (0 : Int32) dX3_decode_16 (by decide) ?_
  obtain ⟨h4, hh4, hm⟩ := hp_bd hm
  refine hv_put lk_f_X3_36 dX3_decode_17 rfl rfl hh4 ?_
  refine hv_aload_n 0 dX3_decode_20 rfl rfl ?_
  refine hv_iconst (0 : Int32) dX3_decode_21 (by decide) ?_
  obtain ⟨h5, hh5, hm⟩ := hp_bd hm
  refine hv_put lk_f_X3_39 dX3_decode_22 rfl rfl hh5 ?_
  refine hv_aload_n 0 dX3_decode_25 rfl rfl ?_
  obtain ⟨x6, hx6, hm⟩ := hp_bd hm
  obtain ⟨Vx6, hVx6⟩ := k_X3_isOpen hx6
  refine hv_callV (As := []) (rest := []) Z_X3_isOpen I_X3_isOpen lk_m_X3_42 rfl hVx6 (c_X3_isOpen G n v0 h5 sz sl _ hx6) rfl (Nat.le_of_ble_eq_true rfl) ⟨Nat.le_of_ble_eq_true rfl, Nat.le_of_ble_eq_true rfl⟩ ho.1 ho.2 rfl dX3_decode_26 ?_
  refine hv_as [.int x6] h5 rfl rfl ?_
  refine hv_if_eq (tgt := 34) dX3_decode_29 (by decide) (fun c15 => ?_) (fun c15 => ?_)
  · rw [if_pos c15] at hm
    refine hv_aload_n 0 dX3_decode_34 rfl rfl ?_
    obtain ⟨x7, hx7, hm⟩ := hp_bd hm
    refine hv_get lk_f_X3_25 dX3_decode_35 (hp_fR_spec hx7) ?_
    obtain ⟨x8, hx8, hm⟩ := hp_bd hm
    refine hv_get lk_f_X3_46 dX3_decode_38 (hp_fR_spec hx8) ?_
    refine hv_iload_n 2 dX3_decode_41 rfl rfl ?_
    obtain ⟨x9, hx9, hm⟩ := hp_bd hm
    obtain ⟨Vx9, hVx9⟩ := k_X5_size hx9
    refine hv_callV (As := [.int v2]) (rest := []) Z_X5_size I_X5_size lk_m_X3_52 rfl hVx9 (c_X5_size G n x8 v2 h5 sz sl _ hx9) rfl (Nat.le_of_ble_eq_true rfl) ⟨Nat.le_of_ble_eq_true rfl, Nat.le_of_ble_eq_true rfl⟩ ho.1 ho.2 rfl dX3_decode_42 ?_
    refine hv_as [.int x9] h5 rfl rfl ?_
    refine hv_if_ne (tgt := 50) dX3_decode_45 (by decide) (fun c14 => ?_) (fun c14 => ?_)
    · rw [if_neg c14] at hm
      refine hv_aload_n 0 dX3_decode_50 rfl rfl ?_
      obtain ⟨x10, hx10, hm⟩ := hp_bd hm
      refine hv_get lk_f_X3_25 dX3_decode_51 (hp_fR_spec hx10) ?_
      obtain ⟨x11, hx11, hm⟩ := hp_bd hm
      refine hv_get lk_f_X3_58 dX3_decode_54 (hp_fR_spec hx11) ?_
      refine hv_iload_n 2 dX3_decode_57 rfl rfl ?_
      obtain ⟨x12, hx12, hm⟩ := hp_bd hm
      refine hv_bald dX3_decode_58 hx12 ?_
      refine hv_if_eq (tgt := 66) dX3_decode_59 (by decide) (fun c13 => ?_) (fun c13 => ?_)
      · rw [if_pos c13] at hm
        refine hv_iconst (0 : Int32) dX3_decode_66 (by decide) ?_
        exact hv_sub [0] rfl (q_X3_decode_67 G n v0 (0 : Int32) h5 sz sl _ hm)
      · rw [if_neg c13] at hm
        refine hv_iconst (1 : Int32) dX3_decode_62 (by decide) ?_
        refine hv_goto (tgt := 67) dX3_decode_63 (by decide) ?_
        exact hv_sub [0] rfl (q_X3_decode_67 G n v0 (1 : Int32) h5 sz sl _ hm)
    · rw [if_pos c14] at hm
      refine hv_iconst (-1 : Int32) dX3_decode_48 (by decide) ?_
      obtain rfl := Option.some.inj hm
      exact hv_iret rfl dX3_decode_49
  · rw [if_neg c15] at hm
    refine hv_iconst (1 : Int32) dX3_decode_32 (by decide) ?_
    obtain rfl := Option.some.inj hm
    exact hv_iret rfl dX3_decode_33
def f_X3_decode (n : Nat) (v0 : Nat) (v1 : Nat) (v2 : Int32) (h : hp_H) : Option (Int32 × hp_H) := (hp_ck h 3 v0).bind fun _ => f_X3_decode_0 n v0 v1 v2 h
theorem c_X3_decode (G : hp_G) (n : Nat) (v0 : Nat) (v1 : Nat) (v2 : Int32) (h : hp_H) (sz sl : Nat) (res : Int32 × hp_H) (hm : f_X3_decode n v0 v1 v2 h = some res) : hp_C G m_X3_decode yX3_decode [.ref v0, .ref v1, .int v2] h sz sl (some (.int res.1), res.2, sz, sl) := by
  unfold f_X3_decode at hm
  obtain ⟨_, _, hm⟩ := hp_bd hm
  exact hp_C_of (by decide) rfl rfl (Nat.le_of_ble_eq_true rfl) (Nat.le_refl _) (Nat.le_refl _) (hv_sub [0, 1, 2] rfl (q_X3_decode_0 G n v0 v1 v2 h sz sl res hm))
theorem k_X3_decode {n : Nat} {v0 : Nat} {v1 : Nat} {v2 : Int32} {h : hp_H} {res : Int32 × hp_H} (hm : f_X3_decode n v0 v1 v2 h = some res) : ∃ V, h v0 = some (.inr (.inr (3, V))) := by
  unfold f_X3_decode at hm
  obtain ⟨_, hu, _⟩ := hp_bd hm
  exact hp_ck_spec hu
