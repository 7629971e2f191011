abbrev m_X6_init : hp_M := (RX6, cX6_init, 2, none, 1, 30, "<init>")
theorem Z_X6_init : hp_Y yX6_init m_X6_init 1 := Y_X6_init
def f_X6_init_0 (n : Nat) (v0 : Nat) (v1 : Nat) (h : hp_H) : Option (hp_H) :=
  (hp_pF h 6 v0 3 (.ref v1)).bind fun h1 =>
  some h1
set_option maxHeartbeats 1000000 in
set_option maxRecDepth 4000 in
theorem q_X6_init_0 (G : hp_G) (n : Nat) (v0 : Nat) (v1 : Nat) (h : hp_H) (sz sl : Nat) (res : hp_H) (hm : f_X6_init_0 n v0 v1 h = some res) : hp_V G m_X6_init 0 [(0, .ref v0), (1, .ref v1)] [] h sz sl (none, res, sz, sl) := by
  have ho : sz ≤ sz ∧ sl ≤ sl := ⟨Nat.le_refl _, Nat.le_refl _⟩
  unfold f_X6_init_0 at hm
  refine hv_aload_n 0 dX6_init_0 rfl rfl ?_
  refine hv_objInit lk_o_X6_3 ⟨Nat.le_of_ble_eq_true rfl, Nat.le_of_ble_eq_true rfl⟩ dX6_init_1 ?_
  refine hv_aload_n 0 dX6_init_4 rfl rfl ?_
  refine hv_aload_n 1 dX6_init_5 rfl rfl ?_
  obtain ⟨h1, hh1, hm⟩ := hp_bd hm
  refine hv_put lk_f_X6_9 dX6_init_6 rfl rfl hh1 ?_
  obtain rfl := Option.some.inj hm
  exact hv_vret rfl dX6_init_9
def f_X6_init (n : Nat) (v0 : Nat) (v1 : Nat) (h : hp_H) : Option (hp_H) := (hp_ck h 6 v0).bind fun _ => f_X6_init_0 n v0 v1 h
theorem c_X6_init (G : hp_G) (n : Nat) (v0 : Nat) (v1 : Nat) (h : hp_H) (sz sl : Nat) (res : hp_H) (hm : f_X6_init n v0 v1 h = some res) : hp_C G m_X6_init yX6_init [.ref v0, .ref v1] h sz sl (none, res, sz, sl) := by
  unfold f_X6_init at hm
  obtain ⟨_, _, hm⟩ := hp_bd hm
  exact hp_C_of (by decide) rfl rfl (Nat.le_of_ble_eq_true rfl) (Nat.le_refl _) (Nat.le_refl _) (hv_sub [0, 1] rfl (q_X6_init_0 G n v0 v1 h sz sl res hm))
theorem k_X6_init {n : Nat} {v0 : Nat} {v1 : Nat} {h : hp_H} {res : hp_H} (hm : f_X6_init n v0 v1 h = some res) : ∃ V, h v0 = some (.inr (.inr (6, V))) := by
  unfold f_X6_init at hm
  obtain ⟨_, hu, _⟩ := hp_bd hm
  exact hp_ck_spec hu
abbrev m_X6_open : hp_M := (RX6, cX6_open, 3, none, 0, 0, "open")
theorem Z_X6_open : hp_Y yX6_open m_X6_open 2 := Y_X6_open
def f_X6_open_0 (n : Nat) (v0 : Nat) (v1 : Nat) (v2 : Int32) (h : hp_H) : Option (hp_H) :=
  (hp_pF h 6 v0 3 (.ref v1)).bind fun h1 =>
  (hp_pF h1 6 v0 4 (.int v2)).bind fun h2 =>
  (hp_pF h2 6 v0 0 (.int (0 : Int32))).bind fun h3 =>
  (hp_pF h3 6 v0 1 (.int (0 : Int32))).bind fun h4 =>
  (hp_pF h4 6 v0 2 (.int (0 : Int32))).bind fun h5 =>
  some h5
set_option maxHeartbeats 1000000 in
set_option maxRecDepth 4000 in
theorem q_X6_open_0 (G : hp_G) (n : Nat) (v0 : Nat) (v1 : Nat) (v2 : Int32) (h : hp_H) (sz sl : Nat) (res : hp_H) (hm : f_X6_open_0 n v0 v1 v2 h = some res) : hp_V G m_X6_open 0 [(0, .ref v0), (1, .ref v1), (2, .int v2)] [] h sz sl (none, res, sz, sl) := by
  have ho : sz ≤ sz ∧ sl ≤ sl := ⟨Nat.le_refl _, Nat.le_refl _⟩
  unfold f_X6_open_0 at hm
  refine hv_aload_n 0 dX6_open_0 rfl rfl ?_
  refine hv_aload_n 1 dX6_open_1 rfl rfl ?_
  obtain ⟨h1, hh1, hm⟩ := hp_bd hm
  refine hv_put lk_f_X6_9 dX6_open_2 rfl rfl hh1 ?_
  refine hv_aload_n 0 dX6_open_5 rfl rfl ?_
  refine hv_iload_n 2 dX6_open_6 rfl rfl ?_
  obtain ⟨h2, hh2, hm⟩ := hp_bd hm
  refine hv_put lk_f_X6_15 dX6_open_7 rfl rfl hh2 ?_
  refine hv_aload_n 0 dX6_open_10 rfl rfl ?_
  refine hv_iconst (0 : Int32) dX6_open_11 (by decide) ?_
  obtain ⟨h3, hh3, hm⟩ := hp_bd hm
  refine hv_put lk_f_X6_19 dX6_open_12 rfl rfl hh3 ?_
  refine hv_aload_n 0 dX6_open_15 rfl rfl ?_
  refine hv_iconst (0 : Int32) dX6_open_16 (by decide) ?_
  obtain ⟨h4, hh4, hm⟩ := hp_bd hm
  refine hv_put lk_f_X6_22 dX6_open_17 rfl rfl hh4 ?_
  refine hv_aload_n 0 dX6_open_20 rfl rfl ?_
  refine hv_iconst (0 : Int32) dX6_open_21 (by decide) ?_
  obtain ⟨h5, hh5, hm⟩ := hp_bd hm
  refine hv_put lk_f_X6_25 dX6_open_22 rfl rfl hh5 ?_
  obtain rfl := Option.some.inj hm
  exact hv_vret rfl dX6_open_25
def f_X6_open (n : Nat) (v0 : Nat) (v1 : Nat) (v2 : Int32) (h : hp_H) : Option (hp_H) := (hp_ck h 6 v0).bind fun _ => f_X6_open_0 n v0 v1 v2 h
theorem c_X6_open (G : hp_G) (n : Nat) (v0 : Nat) (v1 : Nat) (v2 : Int32) (h : hp_H) (sz sl : Nat) (res : hp_H) (hm : f_X6_open n v0 v1 v2 h = some res) : hp_C G m_X6_open yX6_open [.ref v0, .ref v1, .int v2] h sz sl (none, res, sz, sl) := by
  unfold f_X6_open at hm
  obtain ⟨_, _, hm⟩ := hp_bd hm
  exact hp_C_of (by decide) rfl rfl (Nat.le_of_ble_eq_true rfl) (Nat.le_refl _) (Nat.le_refl _) (hv_sub [0, 1, 2] rfl (q_X6_open_0 G n v0 v1 v2 h sz sl res hm))
theorem k_X6_open {n : Nat} {v0 : Nat} {v1 : Nat} {v2 : Int32} {h : hp_H} {res : hp_H} (hm : f_X6_open n v0 v1 v2 h = some res) : ∃ V, h v0 = some (.inr (.inr (6, V))) := by
  unfold f_X6_open at hm
  obtain ⟨_, hu, _⟩ := hp_bd hm
  exact hp_ck_spec hu
abbrev m_X6_isBlank : hp_M := (RX6, cX6_isBlank, 1, some .boolean, 0, 0, "isBlank")
theorem Z_X6_isBlank : hp_Y yX6_isBlank m_X6_isBlank 1 := Y_X6_isBlank
def f_X6_isBlank_30 (n : Nat)  (h : hp_H) : Option (Int32) :=
  some (1 : Int32)
set_option maxHeartbeats 1000000 in
set_option maxRecDepth 4000 in
theorem q_X6_isBlank_30 (G : hp_G) (n : Nat)  (h : hp_H) (sz sl : Nat) (res : Int32) (hm : f_X6_isBlank_30 n h = some res) : hp_V G m_X6_isBlank 30 [] [] h sz sl (some (.int res), h, sz, sl) := by
  have ho : sz ≤ sz ∧ sl ≤ sl := ⟨Nat.le_refl _, Nat.le_refl _⟩
  unfold f_X6_isBlank_30 at hm
  refine hv_iconst (1 : Int32) dX6_isBlank_30 (by decide) ?_
  refine hv_goto (tgt := 35) dX6_isBlank_31 (by decide) ?_
  obtain rfl := Option.some.inj hm
  exact hv_zret rfl (by decide) dX6_isBlank_35
def f_X6_isBlank_0 (n : Nat) (v0 : Int32) (h : hp_H) : Option (Int32) :=
  if v0 = (32 : Int32) then
    f_X6_isBlank_30 n  h
  else
    if v0 = (9 : Int32) then
      f_X6_isBlank_30 n  h
    else
      if v0 = (10 : Int32) then
        f_X6_isBlank_30 n  h
      else
        if v0 = (12 : Int32) then
          f_X6_isBlank_30 n  h
        else
          if v0 = (13 : Int32) then
            f_X6_isBlank_30 n  h
          else
            some (0 : Int32)
set_option maxHeartbeats 1000000 in
set_option maxRecDepth 4000 in
theorem q_X6_isBlank_0 (G : hp_G) (n : Nat) (v0 : Int32) (h : hp_H) (sz sl : Nat) (res : Int32) (hm : f_X6_isBlank_0 n v0 h = some res) : hp_V G m_X6_isBlank 0 [(0, .int v0)] [] h sz sl (some (.int res), h, sz, sl) := by
  have ho : sz ≤ sz ∧ sl ≤ sl := ⟨Nat.le_refl _, Nat.le_refl _⟩
  unfold f_X6_isBlank_0 at hm
  refine hv_iload_n 0 dX6_isBlank_0 rfl rfl ?_
  refine hv_bipush (32 : Int32) dX6_isBlank_1 (by decide) ?_
  refine hv_icmp_eq (tgt := 30) dX6_isBlank_3 (by decide) (fun c5 => ?_) (fun c5 => ?_)
  · rw [if_pos c5] at hm
    exact hv_sub [] rfl (q_X6_isBlank_30 G n  h sz sl _ hm)
  · rw [if_neg c5] at hm
    refine hv_iload_n 0 dX6_isBlank_6 rfl rfl ?_
    refine hv_bipush (9 : Int32) dX6_isBlank_7 (by decide) ?_
    refine hv_icmp_eq (tgt := 30) dX6_isBlank_9 (by decide) (fun c4 => ?_) (fun c4 => ?_)
    · rw [if_pos c4] at hm
      exact hv_sub [] rfl (q_X6_isBlank_30 G n  h sz sl _ hm)
    · rw [if_neg c4] at hm
      refine hv_iload_n 0 dX6_isBlank_12 rfl rfl ?_
      refine hv_bipush (10 : Int32) dX6_isBlank_13 (by decide) ?_
      refine hv_icmp_eq (tgt := 30) dX6_isBlank_15 (by decide) (fun c3 => ?_) (fun c3 => ?_)
      · rw [if_pos c3] at hm
        exact hv_sub [] rfl (q_X6_isBlank_30 G n  h sz sl _ hm)
      · rw [if_neg c3] at hm
        refine hv_iload_n 0 dX6_isBlank_18 rfl rfl ?_
        refine hv_bipush (12 : Int32) dX6_isBlank_19 (by decide) ?_
        refine hv_icmp_eq (tgt := 30) dX6_isBlank_21 (by decide) (fun c2 => ?_) (fun c2 => ?_)
        · rw [if_pos c2] at hm
          exact hv_sub [] rfl (q_X6_isBlank_30 G n  h sz sl _ hm)
        · rw [if_neg c2] at hm
          refine hv_iload_n 0 dX6_isBlank_24 rfl rfl ?_
          refine hv_bipush (13 : Int32) dX6_isBlank_25 (by decide) ?_
          refine hv_icmp_ne (tgt := 34) dX6_isBlank_27 (by decide) (fun c1 => ?_) (fun c1 => ?_)
          · rw [if_neg c1] at hm
            refine hv_iconst (0 : Int32) dX6_isBlank_34 (by decide) ?_
            obtain rfl := Option.some.inj hm
            exact hv_zret rfl (by decide) dX6_isBlank_35
          · rw [if_pos c1] at hm
            exact hv_sub [] rfl (q_X6_isBlank_30 G n  h sz sl _ hm)
def f_X6_isBlank (n : Nat) (v0 : Int32) (h : hp_H) : Option (Int32) := f_X6_isBlank_0 n v0 h
theorem c_X6_isBlank (G : hp_G) (n : Nat) (v0 : Int32) (h : hp_H) (sz sl : Nat) (res : Int32) (hm : f_X6_isBlank n v0 h = some res) : hp_C G m_X6_isBlank yX6_isBlank [.int v0] h sz sl (some (.int res), h, sz, sl) := by
  unfold f_X6_isBlank at hm
  exact hp_C_of (by decide) rfl rfl (Nat.le_of_ble_eq_true rfl) (Nat.le_refl _) (Nat.le_refl _) (hv_sub [0] rfl (q_X6_isBlank_0 G n v0 h sz sl res hm))
abbrev m_X6_cut : hp_M := (RX6, cX6_cut, 1, none, 1, 20, "cut")
theorem Z_X6_cut : hp_Y yX6_cut m_X6_cut 0 := Y_X6_cut
def f_X6_cut_8 (n : Nat) (v0 : Nat) (h : hp_H) : Option ((hp_H) ⊕ (hp_H)) :=
  (hp_fI h 6 v0 0).bind fun x1 =>
  (hp_fI h 6 v0 4).bind fun x2 =>
  if x2 ≤ x1 then
    some (.inr h)
  else
    (hp_fR h 6 v0 3).bind fun x3 =>
    (hp_fI h 6 v0 0).bind fun x4 =>
    (hp_aI h 1 x3 x4).bind fun x5 =>
    (f_X6_isBlank n x5 h).bind fun x6 =>
    if x6 = 0 then
      some (.inr h)
    else
      (hp_fI h 6 v0 0).bind fun x7 =>
      (hp_pF h 6 v0 0 (.int (x7 + (1 : Int32)))).bind fun h8 =>
      some (.inl h8)
set_option maxHeartbeats 1000000 in
set_option maxRecDepth 4000 in
theorem q_X6_cut_8 (G : hp_G) (n : Nat) (v0 : Nat) (h : hp_H) (sz sl : Nat) (o : hp_O) (ho : sz ≤ o.2.2.1 ∧ sl ≤ o.2.2.2) (res : (hp_H) ⊕ (hp_H)) (hm : f_X6_cut_8 n v0 h = some res) (kI : ∀ y : hp_H, res = .inl y → hp_V G m_X6_cut 8 [(0, .ref v0)] [] y sz sl o) (kX0 : ∀ y : hp_H, res = .inr y → hp_V G m_X6_cut 47 [(0, .ref v0)] [] y sz sl o) : hp_V G m_X6_cut 8 [(0, .ref v0)] [] h sz sl o := by
  unfold f_X6_cut_8 at hm
  refine hv_aload_n 0 dX6_cut_8 rfl rfl ?_
  obtain ⟨x1, hx1, hm⟩ := hp_bd hm
  refine hv_get lk_f_X6_19 dX6_cut_9 (hp_fI_spec hx1) ?_
  refine hv_aload_n 0 dX6_cut_12 rfl rfl ?_
  obtain ⟨x2, hx2, hm⟩ := hp_bd hm
  refine hv_get lk_f_X6_15 dX6_cut_13 (hp_fI_spec hx2) ?_
  refine hv_icmp_ge (tgt := 47) dX6_cut_16 (by decide) (fun c10 => ?_) (fun c10 => ?_)
  · rw [if_pos c10] at hm
    exact hv_sub [0] rfl (kX0 h (Option.some.inj hm).symm)
  · rw [if_neg c10] at hm
    refine hv_aload_n 0 dX6_cut_19 rfl rfl ?_
    obtain ⟨x3, hx3, hm⟩ := hp_bd hm
    refine hv_get lk_f_X6_9 dX6_cut_20 (hp_fR_spec hx3) ?_
    refine hv_aload_n 0 dX6_cut_23 rfl rfl ?_
    obtain ⟨x4, hx4, hm⟩ := hp_bd hm
    refine hv_get lk_f_X6_19 dX6_cut_24 (hp_fI_spec hx4) ?_
    obtain ⟨x5, hx5, hm⟩ := hp_bd hm
    refine hv_bald dX6_cut_27 hx5 ?_
    obtain ⟨x6, hx6, hm⟩ := hp_bd hm
    refine hv_callS (As := [.int x5]) (rest := []) Z_X6_isBlank I_X6_isBlank lk_m_X6_42 (c_X6_isBlank G n x5 h sz sl _ hx6) rfl (Nat.le_of_ble_eq_true rfl) ⟨Nat.le_of_ble_eq_true rfl, Nat.le_of_ble_eq_true rfl⟩ ho.1 ho.2 rfl dX6_cut_28 ?_
    refine hv_as [.int x6] h rfl rfl ?_
    refine hv_if_eq (tgt := 47) dX6_cut_31 (by decide) (fun c9 => ?_) (fun c9 => ?_)
    · rw [if_pos c9] at hm
      exact hv_sub [0] rfl (kX0 h (Option.some.inj hm).symm)
    · rw [if_neg c9] at hm
      refine hv_aload_n 0 dX6_cut_34 rfl rfl ?_
      refine hv_dup dX6_cut_35 rfl ?_
      obtain ⟨x7, hx7, hm⟩ := hp_bd hm
      refine hv_get lk_f_X6_19 dX6_cut_36 (hp_fI_spec hx7) ?_
      refine hv_iconst (1 : Int32) dX6_cut_39 (by decide) ?_
      refine hv_iadd dX6_cut_40 ?_
      obtain ⟨h8, hh8, hm⟩ := hp_bd hm
      refine hv_put lk_f_X6_19 dX6_cut_41 rfl rfl hh8 ?_
      refine hv_goto (tgt := 8) dX6_cut_44 (by decide) ?_
      exact hv_sub [0] rfl (kI h8 (Option.some.inj hm).symm)
def fL_X6_cut_8 (n : Nat) (v0 : Nat) (s : hp_H) : Option ((hp_H) ⊕ (hp_H)) := f_X6_cut_8 n v0 s
theorem l_X6_cut_8 (G : hp_G) (n : Nat) (v0 : Nat) (sz sl : Nat) (o : hp_O) (ho : sz ≤ o.2.2.1 ∧ sl ≤ o.2.2.2) : ∀ (k : Nat) (s : hp_H) (x : hp_H), hp_lp (fL_X6_cut_8 n v0) k s = some x → (∀ y : hp_H, x = y → hp_V G m_X6_cut 47 [(0, .ref v0)] [] y sz sl o) → hp_V G m_X6_cut 8 [(0, .ref v0)] [] s sz sl o := by
  intro k
  induction k with
  | zero => intro s x hx; exact (hp_lp_0 hx).elim
  | succ k ih =>
    intro s x hx k0
    obtain ⟨r, hr, hc⟩ := hp_lp_1 hx
    refine q_X6_cut_8 G n v0 s sz sl o ho r hr (fun s2 e => ?_) (fun y e => ?_)
    · rcases hc with ⟨s3, e3, hx3⟩ | e3
      · have e4 := Sum.inl.inj (e.symm.trans e3)
        subst e4
        exact ih _ _ hx3 k0
      · cases (e.symm.trans e3)
    · rcases hc with ⟨s3, e3, hx3⟩ | e3
      · cases (e.symm.trans e3)
      · exact k0 y (Sum.inr.inj (e3.symm.trans e))
def f_X6_cut_55 (n : Nat) (v0 : Nat) (h : hp_H) : Option ((hp_H) ⊕ (hp_H)) :=
  (hp_fI h 6 v0 1).bind fun x1 =>
  (hp_fI h 6 v0 4).bind fun x2 =>
  if x2 ≤ x1 then
    some (.inr h)
  else
    (hp_fR h 6 v0 3).bind fun x3 =>
    (hp_fI h 6 v0 1).bind fun x4 =>
    (hp_aI h 1 x3 x4).bind fun x5 =>
    (f_X6_isBlank n x5 h).bind fun x6 =>
    if x6 = 0 then
      (hp_fI h 6 v0 1).bind fun x7 =>
      (hp_pF h 6 v0 1 (.int (x7 + (1 : Int32)))).bind fun h8 =>
      some (.inl h8)
    else
      some (.inr h)
set_option maxHeartbeats 1000000 in
set_option maxRecDepth 4000 in
theorem q_X6_cut_55 (G : hp_G) (n : Nat) (v0 : Nat) (h : hp_H) (sz sl : Nat) (o : hp_O) (ho : sz ≤ o.2.2.1 ∧ sl ≤ o.2.2.2) (res : (hp_H) ⊕ (hp_H)) (hm : f_X6_cut_55 n v0 h = some res) (kI : ∀ y : hp_H, res = .inl y → hp_V G m_X6_cut 55 [(0, .ref v0)] [] y sz sl o) (kR : ∀ y : hp_H, res = .inr y → o = (none, y, sz, sl)) : hp_V G m_X6_cut 55 [(0, .ref v0)] [] h sz sl o := by
  unfold f_X6_cut_55 at hm
  refine hv_aload_n 0 dX6_cut_55 rfl rfl ?_
  obtain ⟨x1, hx1, hm⟩ := hp_bd hm
  refine hv_get lk_f_X6_22 dX6_cut_56 (hp_fI_spec hx1) ?_
  refine hv_aload_n 0 dX6_cut_59 rfl rfl ?_
  obtain ⟨x2, hx2, hm⟩ := hp_bd hm
  refine hv_get lk_f_X6_15 dX6_cut_60 (hp_fI_spec hx2) ?_
  refine hv_icmp_ge (tgt := 94) dX6_cut_63 (by decide) (fun c10 => ?_) (fun c10 => ?_)
  · rw [if_pos c10] at hm
    obtain rfl := kR _ (Option.some.inj hm).symm
    exact hv_vret rfl dX6_cut_94
  · rw [if_neg c10] at hm
    refine hv_aload_n 0 dX6_cut_66 rfl rfl ?_
    obtain ⟨x3, hx3, hm⟩ := hp_bd hm
    refine hv_get lk_f_X6_9 dX6_cut_67 (hp_fR_spec hx3) ?_
    refine hv_aload_n 0 dX6_cut_70 rfl rfl ?_
    obtain ⟨x4, hx4, hm⟩ := hp_bd hm
    refine hv_get lk_f_X6_22 dX6_cut_71 (hp_fI_spec hx4) ?_
    obtain ⟨x5, hx5, hm⟩ := hp_bd hm
    refine hv_bald dX6_cut_74 hx5 ?_
    obtain ⟨x6, hx6, hm⟩ := hp_bd hm
    refine hv_callS (As := [.int x5]) (rest := []) Z_X6_isBlank I_X6_isBlank lk_m_X6_42 (c_X6_isBlank G n x5 h sz sl _ hx6) rfl (Nat.le_of_ble_eq_true rfl) ⟨Nat.le_of_ble_eq_true rfl, Nat.le_of_ble_eq_true rfl⟩ ho.1 ho.2 rfl dX6_cut_75 ?_
    refine hv_as [.int x6] h rfl rfl ?_
    refine hv_if_ne (tgt := 94) dX6_cut_78 (by decide) (fun c9 => ?_) (fun c9 => ?_)
    · rw [if_neg c9] at hm
      obtain rfl := kR _ (Option.some.inj hm).symm
      exact hv_vret rfl dX6_cut_94
    · rw [if_pos c9] at hm
      refine hv_aload_n 0 dX6_cut_81 rfl rfl ?_
      refine hv_dup dX6_cut_82 rfl ?_
      obtain ⟨x7, hx7, hm⟩ := hp_bd hm
      refine hv_get lk_f_X6_22 dX6_cut_83 (hp_fI_spec hx7) ?_
      refine hv_iconst (1 : Int32) dX6_cut_86 (by decide) ?_
      refine hv_iadd dX6_cut_87 ?_
      obtain ⟨h8, hh8, hm⟩ := hp_bd hm
      refine hv_put lk_f_X6_22 dX6_cut_88 rfl rfl hh8 ?_
      refine hv_goto (tgt := 55) dX6_cut_91 (by decide) ?_
      exact hv_sub [0] rfl (kI h8 (Option.some.inj hm).symm)
def fL_X6_cut_55 (n : Nat) (v0 : Nat) (s : hp_H) : Option ((hp_H) ⊕ (hp_H)) := f_X6_cut_55 n v0 s
theorem l_X6_cut_55 (G : hp_G) (n : Nat) (v0 : Nat) (sz sl : Nat) (o : hp_O) (ho : sz ≤ o.2.2.1 ∧ sl ≤ o.2.2.2) : ∀ (k : Nat) (s : hp_H) (x : hp_H), hp_lp (fL_X6_cut_55 n v0) k s = some x → (∀ y : hp_H, x = y → o = (none, y, sz, sl)) → hp_V G m_X6_cut 55 [(0, .ref v0)] [] s sz sl o := by
  intro k
  induction k with
  | zero => intro s x hx; exact (hp_lp_0 hx).elim
  | succ k ih =>
    intro s x hx k0
    obtain ⟨r, hr, hc⟩ := hp_lp_1 hx
    refine q_X6_cut_55 G n v0 s sz sl o ho r hr (fun s2 e => ?_) (fun y e => ?_)
    · rcases hc with ⟨s3, e3, hx3⟩ | e3
      · have e4 := Sum.inl.inj (e.symm.trans e3)
        subst e4
        exact ih _ _ hx3 k0
      · cases (e.symm.trans e3)
    · rcases hc with ⟨s3, e3, hx3⟩ | e3
      · cases (e.symm.trans e3)
      · exact k0 y (Sum.inr.inj (e3.symm.trans e))
def f_X6_cut_47 (n : Nat) (v0 : Nat) (h : hp_H) : Option (hp_H) :=
  (hp_fI h 6 v0 0).bind fun x1 =>
  (hp_pF h 6 v0 1 (.int x1)).bind fun h2 =>
  (hp_lp (fL_X6_cut_55 n v0) n h2).bind fun x3 =>
  some x3
set_option maxHeartbeats 1000000 in
set_option maxRecDepth 4000 in
theorem q_X6_cut_47 (G : hp_G) (n : Nat) (v0 : Nat) (h : hp_H) (sz sl : Nat) (res : hp_H) (hm : f_X6_cut_47 n v0 h = some res) : hp_V G m_X6_cut 47 [(0, .ref v0)] [] h sz sl (none, res, sz, sl) := by
  have ho : sz ≤ sz ∧ sl ≤ sl := ⟨Nat.le_refl _, Nat.le_refl _⟩
  unfold f_X6_cut_47 at hm
  refine hv_aload_n 0 dX6_cut_47 rfl rfl ?_
  refine hv_aload_n 0 dX6_cut_48 rfl rfl ?_
  obtain ⟨x1, hx1, hm⟩ := hp_bd hm
  refine hv_get lk_f_X6_19 dX6_cut_49 (hp_fI_spec hx1) ?_
  obtain ⟨h2, hh2, hm⟩ := hp_bd hm
  refine hv_put lk_f_X6_22 dX6_cut_52 rfl rfl hh2 ?_
  obtain ⟨x3, hx3, hm⟩ := hp_bd hm
  refine hv_sub [0] rfl (l_X6_cut_55 G n v0 sz sl _ ho n _ _ hx3 (fun y4 ey4 => ?_))
  · skip
    subst ey4
    obtain rfl := Option.some.inj hm
    rfl
def f_X6_cut_0 (n : Nat) (v0 : Nat) (h : hp_H) : Option (hp_H) :=
  (hp_fI h 6 v0 1).bind fun x1 =>
  (hp_pF h 6 v0 0 (.int x1)).bind fun h2 =>
  (hp_lp (fL_X6_cut_8 n v0) n h2).bind fun x3 =>
  f_X6_cut_47 n v0 x3
set_option maxHeartbeats 1000000 in
set_option maxRecDepth 4000 in
theorem q_X6_cut_0 (G : hp_G) (n : Nat) (v0 : Nat) (h : hp_H) (sz sl : Nat) (res : hp_H) (hm : f_X6_cut_0 n v0 h = some res) : hp_V G m_X6_cut 0 [(0, .ref v0)] [] h sz sl (none, res, sz, sl) := by
  have ho : sz ≤ sz ∧ sl ≤ sl := ⟨Nat.le_refl _, Nat.le_refl _⟩
  unfold f_X6_cut_0 at hm
  refine hv_aload_n 0 dX6_cut_0 rfl rfl ?_
  refine hv_aload_n 0 dX6_cut_1 rfl rfl ?_
  obtain ⟨x1, hx1, hm⟩ := hp_bd hm
  refine hv_get lk_f_X6_22 dX6_cut_2 (hp_fI_spec hx1) ?_
  obtain ⟨h2, hh2, hm⟩ := hp_bd hm
  refine hv_put lk_f_X6_19 dX6_cut_5 rfl rfl hh2 ?_
  obtain ⟨x3, hx3, hm⟩ := hp_bd hm
  refine hv_sub [0] rfl (l_X6_cut_8 G n v0 sz sl _ ho n _ _ hx3 (fun y4 ey4 => ?_))
  · skip
    subst ey4
    exact hv_sub [0] rfl (q_X6_cut_47 G n v0 x3 sz sl _ hm)
def f_X6_cut (n : Nat) (v0 : Nat) (h : hp_H) : Option (hp_H) := (hp_ck h 6 v0).bind fun _ => f_X6_cut_0 n v0 h
theorem c_X6_cut (G : hp_G) (n : Nat) (v0 : Nat) (h : hp_H) (sz sl : Nat) (res : hp_H) (hm : f_X6_cut n v0 h = some res) : hp_C G m_X6_cut yX6_cut [.ref v0] h sz sl (none, res, sz, sl) := by
  unfold f_X6_cut at hm
  obtain ⟨_, _, hm⟩ := hp_bd hm
  exact hp_C_of (by decide) rfl rfl (Nat.le_of_ble_eq_true rfl) (Nat.le_refl _) (Nat.le_refl _) (hv_sub [0] rfl (q_X6_cut_0 G n v0 h sz sl res hm))
theorem k_X6_cut {n : Nat} {v0 : Nat} {h : hp_H} {res : hp_H} (hm : f_X6_cut n v0 h = some res) : ∃ V, h v0 = some (.inr (.inr (6, V))) := by
  unfold f_X6_cut at hm
  obtain ⟨_, hu, _⟩ := hp_bd hm
  exact hp_ck_spec hu
abbrev m_X6_hasWrongByte : hp_M := (RX6, cX6_hasWrongByte, 2, some .boolean, 0, 0, "hasWrongByte")
theorem Z_X6_hasWrongByte : hp_Y yX6_hasWrongByte m_X6_hasWrongByte 0 := Y_X6_hasWrongByte
def f_X6_hasWrongByte_5 (n : Nat) (v0 : Nat) (v1 : Int32) (h : hp_H) : Option ((Int32) ⊕ (Int32)) :=
  (hp_fI h 6 v0 1).bind fun x1 =>
  if x1 ≤ v1 then
    some (.inr (0 : Int32))
  else
    (hp_fR h 6 v0 3).bind fun x2 =>
    (hp_aI h 1 x2 v1).bind fun x3 =>
    if x3 < (33 : Int32) then
      some (.inr (1 : Int32))
    else
      (hp_fR h 6 v0 3).bind fun x4 =>
      (hp_aI h 1 x4 v1).bind fun x5 =>
      if x5 ≤ (126 : Int32) then
        some (.inl (v1 + (1 : Int32)))
      else
        some (.inr (1 : Int32))
set_option maxHeartbeats 1000000 in
set_option maxRecDepth 4000 in
theorem q_X6_hasWrongByte_5 (G : hp_G) (n : Nat) (v0 : Nat) (v1 : Int32) (h : hp_H) (sz sl : Nat) (o : hp_O) (ho : sz ≤ o.2.2.1 ∧ sl ≤ o.2.2.2) (res : (Int32) ⊕ (Int32)) (hm : f_X6_hasWrongByte_5 n v0 v1 h = some res) (kI : ∀ y : Int32, res = .inl y → hp_V G m_X6_hasWrongByte 5 [(0, .ref v0), (1, .int y)] [] h sz sl o) (kR : ∀ y : Int32, res = .inr y → o = (some (.int y), h, sz, sl)) : hp_V G m_X6_hasWrongByte 5 [(0, .ref v0), (1, .int v1)] [] h sz sl o := by
  unfold f_X6_hasWrongByte_5 at hm
  refine hv_iload_n 1 dX6_hasWrongByte_5 rfl rfl ?_
  refine hv_aload_n 0 dX6_hasWrongByte_6 rfl rfl ?_
  obtain ⟨x1, hx1, hm⟩ := hp_bd hm
  refine hv_get lk_f_X6_22 dX6_hasWrongByte_7 (hp_fI_spec hx1) ?_
  refine hv_icmp_ge (tgt := 43) dX6_hasWrongByte_10 (by decide) (fun c8 => ?_) (fun c8 => ?_)
  · rw [if_pos c8] at hm
    refine hv_iconst (0 : Int32) dX6_hasWrongByte_43 (by decide) ?_
    obtain rfl := kR _ (Option.some.inj hm).symm
    exact hv_zret rfl (by decide) dX6_hasWrongByte_44
  · rw [if_neg c8] at hm
    refine hv_aload_n 0 dX6_hasWrongByte_13 rfl rfl ?_
    obtain ⟨x2, hx2, hm⟩ := hp_bd hm
    refine hv_get lk_f_X6_9 dX6_hasWrongByte_14 (hp_fR_spec hx2) ?_
    refine hv_iload_n 1 dX6_hasWrongByte_17 rfl rfl ?_
    obtain ⟨x3, hx3, hm⟩ := hp_bd hm
    refine hv_bald dX6_hasWrongByte_18 hx3 ?_
    refine hv_bipush (33 : Int32) dX6_hasWrongByte_19 (by decide) ?_
    refine hv_icmp_lt (tgt := 35) dX6_hasWrongByte_21 (by decide) (fun c7 => ?_) (fun c7 => ?_)
    · rw [if_pos c7] at hm
      refine hv_iconst (1 : Int32) dX6_hasWrongByte_35 (by decide) ?_
      obtain rfl := kR _ (Option.some.inj hm).symm
      exact hv_zret rfl (by decide) dX6_hasWrongByte_36
    · rw [if_neg c7] at hm
      refine hv_aload_n 0 dX6_hasWrongByte_24 rfl rfl ?_
      obtain ⟨x4, hx4, hm⟩ := hp_bd hm
      refine hv_get lk_f_X6_9 dX6_hasWrongByte_25 (hp_fR_spec hx4) ?_
      refine hv_iload_n 1 dX6_hasWrongByte_28 rfl rfl ?_
      obtain ⟨x5, hx5, hm⟩ := hp_bd hm
      refine hv_bald dX6_hasWrongByte_29 hx5 ?_
      refine hv_bipush (126 : Int32) dX6_hasWrongByte_30 (by decide) ?_
      refine hv_icmp_le (tgt := 37) dX6_hasWrongByte_32 (by decide) (fun c6 => ?_) (fun c6 => ?_)
      · rw [if_pos c6] at hm
        refine hv_iinc (v1 + (1 : Int32)) 1 [(1, .int (v1 + (1 : Int32))), (0, .ref v0)] dX6_hasWrongByte_37 rfl rfl (by decide) rfl ?_
        refine hv_goto (tgt := 5) dX6_hasWrongByte_40 (by decide) ?_
        exact hv_sub [1, 0] rfl (kI (v1 + (1 : Int32)) (Option.some.inj hm).symm)
      · rw [if_neg c6] at hm
        refine hv_iconst (1 : Int32) dX6_hasWrongByte_35 (by decide) ?_
        obtain rfl := kR _ (Option.some.inj hm).symm
        exact hv_zret rfl (by decide) dX6_hasWrongByte_36
def fL_X6_hasWrongByte_5 (n : Nat) (v0 : Nat) (h : hp_H) (s : Int32) : Option ((Int32) ⊕ (Int32)) := f_X6_hasWrongByte_5 n v0 s h
theorem l_X6_hasWrongByte_5 (G : hp_G) (n : Nat) (v0 : Nat) (h : hp_H) (sz sl : Nat) (o : hp_O) (ho : sz ≤ o.2.2.1 ∧ sl ≤ o.2.2.2) : ∀ (k : Nat) (s : Int32) (x : Int32), hp_lp (fL_X6_hasWrongByte_5 n v0 h) k s = some x → (∀ y : Int32, x = y → o = (some (.int y), h, sz, sl)) → hp_V G m_X6_hasWrongByte 5 [(0, .ref v0), (1, .int s)] [] h sz sl o := by
  intro k
  induction k with
  | zero => intro s x hx; exact (hp_lp_0 hx).elim
  | succ k ih =>
    intro s x hx k0
    obtain ⟨r, hr, hc⟩ := hp_lp_1 hx
    refine q_X6_hasWrongByte_5 G n v0 s h sz sl o ho r hr (fun s2 e => ?_) (fun y e => ?_)
    · rcases hc with ⟨s3, e3, hx3⟩ | e3
      · have e4 := Sum.inl.inj (e.symm.trans e3)
        subst e4
        exact ih _ _ hx3 k0
      · cases (e.symm.trans e3)
    · rcases hc with ⟨s3, e3, hx3⟩ | e3
      · cases (e.symm.trans e3)
      · exact k0 y (Sum.inr.inj (e3.symm.trans e))
def f_X6_hasWrongByte_0 (n : Nat) (v0 : Nat) (h : hp_H) : Option (Int32) :=
  (hp_fI h 6 v0 0).bind fun x1 =>
  (hp_lp (fL_X6_hasWrongByte_5 n v0 h) n x1).bind fun x2 =>
  some x2
set_option maxHeartbeats 1000000 in
set_option maxRecDepth 4000 in
theorem q_X6_hasWrongByte_0 (G : hp_G) (n : Nat) (v0 : Nat) (h : hp_H) (sz sl : Nat) (res : Int32) (hm : f_X6_hasWrongByte_0 n v0 h = some res) : hp_V G m_X6_hasWrongByte 0 [(0, .ref v0)] [] h sz sl (some (.int res), h, sz, sl) := by
  have ho : sz ≤ sz ∧ sl ≤ sl := ⟨Nat.le_refl _, Nat.le_refl _⟩
  unfold f_X6_hasWrongByte_0 at hm
  refine hv_aload_n 0 dX6_hasWrongByte_0 rfl rfl ?_
  obtain ⟨x1, hx1, hm⟩ := hp_bd hm
  refine hv_get lk_f_X6_19 dX6_hasWrongByte_1 (hp_fI_spec hx1) ?_
  refine hv_istore_n [(1, .int x1), (0, .ref v0)] dX6_hasWrongByte_4 rfl (by decide) rfl ?_
  obtain ⟨x2, hx2, hm⟩ := hp_bd hm
  refine hv_sub [1, 0] rfl (l_X6_hasWrongByte_5 G n v0 h sz sl _ ho n _ _ hx2 (fun y3 ey3 => ?_))
  · skip
    subst ey3
    obtain rfl := Option.some.inj hm
    rfl
def f_X6_hasWrongByte (n : Nat) (v0 : Nat) (h : hp_H) : Option (Int32) := (hp_ck h 6 v0).bind fun _ => f_X6_hasWrongByte_0 n v0 h
theorem c_X6_hasWrongByte (G : hp_G) (n : Nat) (v0 : Nat) (h : hp_H) (sz sl : Nat) (res : Int32) (hm : f_X6_hasWrongByte n v0 h = some res) : hp_C G m_X6_hasWrongByte yX6_hasWrongByte [.ref v0] h sz sl (some (.int res), h, sz, sl) := by
  unfold f_X6_hasWrongByte at hm
  obtain ⟨_, _, hm⟩ := hp_bd hm
  exact hp_C_of (by decide) rfl rfl (Nat.le_of_ble_eq_true rfl) (Nat.le_refl _) (Nat.le_refl _) (hv_sub [0] rfl (q_X6_hasWrongByte_0 G n v0 h sz sl res hm))
theorem k_X6_hasWrongByte {n : Nat} {v0 : Nat} {h : hp_H} {res : Int32} (hm : f_X6_hasWrongByte n v0 h = some res) : ∃ V, h v0 = some (.inr (.inr (6, V))) := by
  unfold f_X6_hasWrongByte at hm
  obtain ⟨_, hu, _⟩ := hp_bd hm
  exact hp_ck_spec hu
abbrev m_X6_isDollarAnd : hp_M := (RX6, cX6_isDollarAnd, 2, some .boolean, 0, 0, "isDollarAnd")
theorem Z_X6_isDollarAnd : hp_Y yX6_isDollarAnd m_X6_isDollarAnd 1 := Y_X6_isDollarAnd
def f_X6_isDollarAnd_0 (n : Nat) (v0 : Nat) (v1 : Int32) (h : hp_H) : Option (Int32) :=
  (hp_fI h 6 v0 1).bind fun x1 =>
  (hp_fI h 6 v0 0).bind fun x2 =>
  if (x1 - x2) = (2 : Int32) then
    (hp_fR h 6 v0 3).bind fun x3 =>
    (hp_fI h 6 v0 0).bind fun x4 =>
    (hp_aI h 1 x3 x4).bind fun x5 =>
    if x5 = (36 : Int32) then
      (hp_fR h 6 v0 3).bind fun x6 =>
      (hp_fI h 6 v0 0).bind fun x7 =>
      (hp_aI h 1 x6 (x7 + (1 : Int32))).bind fun x8 =>
      if x8 = v1 then
        some (1 : Int32)
      else
        some (0 : Int32)
    else
      some (0 : Int32)
  else
    some (0 : Int32)
set_option maxHeartbeats 1000000 in
set_option maxRecDepth 4000 in
theorem q_X6_isDollarAnd_0 (G : hp_G) (n : Nat) (v0 : Nat) (v1 : Int32) (h : hp_H) (sz sl : Nat) (res : Int32) (hm : f_X6_isDollarAnd_0 n v0 v1 h = some res) : hp_V G m_X6_isDollarAnd 0 [(0, .ref v0), (1, .int v1)] [] h sz sl (some (.int res), h, sz, sl) := by
  have ho : sz ≤ sz ∧ sl ≤ sl := ⟨Nat.le_refl _, Nat.le_refl _⟩
  unfold f_X6_isDollarAnd_0 at hm
  refine hv_aload_n 0 dX6_isDollarAnd_0 rfl rfl ?_
  obtain ⟨x1, hx1, hm⟩ := hp_bd hm
  refine hv_get lk_f_X6_22 dX6_isDollarAnd_1 (hp_fI_spec hx1) ?_
  refine hv_aload_n 0 dX6_isDollarAnd_4 rfl rfl ?_
  obtain ⟨x2, hx2, hm⟩ := hp_bd hm
  refine hv_get lk_f_X6_19 dX6_isDollarAnd_5 (hp_fI_spec hx2) ?_
  refine hv_isub dX6_isDollarAnd_8 ?_
  refine hv_iconst (2 : Int32) dX6_isDollarAnd_9 (by decide) ?_
  refine hv_icmp_ne (tgt := 46) dX6_isDollarAnd_10 (by decide) (fun c11 => ?_) (fun c11 => ?_)
  · rw [if_neg c11] at hm
    refine hv_iconst (0 : Int32) dX6_isDollarAnd_46 (by decide) ?_
    obtain rfl := Option.some.inj hm
    exact hv_zret rfl (by decide) dX6_isDollarAnd_47
  · rw [if_pos c11] at hm
    refine hv_aload_n 0 dX6_isDollarAnd_13 rfl rfl ?_
    obtain ⟨x3, hx3, hm⟩ := hp_bd hm
    refine hv_get lk_f_X6_9 dX6_isDollarAnd_14 (hp_fR_spec hx3) ?_
    refine hv_aload_n 0 dX6_isDollarAnd_17 rfl rfl ?_
    obtain ⟨x4, hx4, hm⟩ := hp_bd hm
    refine hv_get lk_f_X6_19 dX6_isDollarAnd_18 (hp_fI_spec hx4) ?_
    obtain ⟨x5, hx5, hm⟩ := hp_bd hm
    refine hv_bald dX6_isDollarAnd_21 hx5 ?_
    refine hv_bipush (36 : Int32) dX6_isDollarAnd_22 (by decide) ?_
    refine hv_icmp_ne (tgt := 46) dX6_isDollarAnd_24 (by decide) (fun c10 => ?_) (fun c10 => ?_)
    · rw [if_neg c10] at hm
      refine hv_iconst (0 : Int32) dX6_isDollarAnd_46 (by decide) ?_
      obtain rfl := Option.some.inj hm
      exact hv_zret rfl (by decide) dX6_isDollarAnd_47
    · rw [if_pos c10] at hm
      refine hv_aload_n 0 dX6_isDollarAnd_27 rfl rfl ?_
      obtain ⟨x6, hx6, hm⟩ := hp_bd hm
      refine hv_get lk_f_X6_9 dX6_isDollarAnd_28 (hp_fR_spec hx6) ?_
      refine hv_aload_n 0 dX6_isDollarAnd_31 rfl rfl ?_
      obtain ⟨x7, hx7, hm⟩ := hp_bd hm
      refine hv_get lk_f_X6_19 dX6_isDollarAnd_32 (hp_fI_spec hx7) ?_
      refine hv_iconst (1 : Int32) dX6_isDollarAnd_35 (by decide) ?_
      refine hv_iadd dX6_isDollarAnd_36 ?_
      obtain ⟨x8, hx8, hm⟩ := hp_bd hm
      refine hv_bald dX6_isDollarAnd_37 hx8 ?_
      refine hv_iload_n 1 dX6_isDollarAnd_38 rfl rfl ?_
      refine hv_icmp_ne (tgt := 46) dX6_isDollarAnd_39 (by decide) (fun c9 => ?_) (fun c9 => ?_)
      · rw [if_neg c9] at hm
        refine hv_iconst (0 : Int32) dX6_isDollarAnd_46 (by decide) ?_
        obtain rfl := Option.some.inj hm
        exact hv_zret rfl (by decide) dX6_isDollarAnd_47
      · rw [if_pos c9] at hm
        refine hv_iconst (1 : Int32) dX6_isDollarAnd_42 (by decide) ?_
        refine hv_goto (tgt := 47) dX6_isDollarAnd_43 (by decide) ?_
        obtain rfl := Option.some.inj hm
        exact hv_zret rfl (by decide) dX6_isDollarAnd_47
def f_X6_isDollarAnd (n : Nat) (v0 : Nat) (v1 : Int32) (h : hp_H) : Option (Int32) := (hp_ck h 6 v0).bind fun _ => f_X6_isDollarAnd_0 n v0 v1 h
theorem c_X6_isDollarAnd (G : hp_G) (n : Nat) (v0 : Nat) (v1 : Int32) (h : hp_H) (sz sl : Nat) (res : Int32) (hm : f_X6_isDollarAnd n v0 v1 h = some res) : hp_C G m_X6_isDollarAnd yX6_isDollarAnd [.ref v0, .int v1] h sz sl (some (.int res), h, sz, sl) := by
  unfold f_X6_isDollarAnd at hm
  obtain ⟨_, _, hm⟩ := hp_bd hm
  exact hp_C_of (by decide) rfl rfl (Nat.le_of_ble_eq_true rfl) (Nat.le_refl _) (Nat.le_refl _) (hv_sub [0, 1] rfl (q_X6_isDollarAnd_0 G n v0 v1 h sz sl res hm))
theorem k_X6_isDollarAnd {n : Nat} {v0 : Nat} {v1 : Int32} {h : hp_H} {res : Int32} (hm : f_X6_isDollarAnd n v0 v1 h = some res) : ∃ V, h v0 = some (.inr (.inr (6, V))) := by
  unfold f_X6_isDollarAnd at hm
  obtain ⟨_, hu, _⟩ := hp_bd hm
  exact hp_ck_spec hu
abbrev m_X6_hasCommentMark : hp_M := (RX6, cX6_hasCommentMark, 2, some .boolean, 0, 0, "hasCommentMark")
theorem Z_X6_hasCommentMark : hp_Y yX6_hasCommentMark m_X6_hasCommentMark 0 := Y_X6_hasCommentMark
def f_X6_hasCommentMark_54 (n : Nat) (v0 : Nat) (v1 : Int32) (h : hp_H) : Option ((Int32) ⊕ (Int32)) :=
  some (.inl (v1 + (1 : Int32)))
set_option maxHeartbeats 1000000 in
set_option maxRecDepth 4000 in
theorem q_X6_hasCommentMark_54 (G : hp_G) (n : Nat) (v0 : Nat) (v1 : Int32) (h : hp_H) (sz sl : Nat) (o : hp_O) (ho : sz ≤ o.2.2.1 ∧ sl ≤ o.2.2.2) (res : (Int32) ⊕ (Int32)) (hm : f_X6_hasCommentMark_54 n v0 v1 h = some res) (kI : ∀ y : Int32, res = .inl y → hp_V G m_X6_hasCommentMark 5 [(0, .ref v0), (1, .int y)] [] h sz sl o) (kR : ∀ y : Int32, res = .inr y → o = (some (.int y), h, sz, sl)) : hp_V G m_X6_hasCommentMark 54 [(0, .ref v0), (1, .int v1)] [] h sz sl o := by
  unfold f_X6_hasCommentMark_54 at hm
  refine hv_iinc (v1 + (1 : Int32)) 1 [(1, .int (v1 + (1 : Int32))), (0, .ref v0)] dX6_hasCommentMark_54 rfl rfl (by decide) rfl ?_
  refine hv_goto (tgt := 5) dX6_hasCommentMark_57 (by decide) ?_
  exact hv_sub [1, 0] rfl (kI (v1 + (1 : Int32)) (Option.some.inj hm).symm)
def f_X6_hasCommentMark_5 (n : Nat) (v0 : Nat) (v1 : Int32) (h : hp_H) : Option ((Int32) ⊕ (Int32)) :=
  (hp_fI h 6 v0 1).bind fun x1 =>
  if x1 ≤ (v1 + (1 : Int32)) then
    some (.inr (0 : Int32))
  else
    (hp_fR h 6 v0 3).bind fun x2 =>
    (hp_aI h 1 x2 v1).bind fun x3 =>
    if x3 = (36 : Int32) then
      (hp_fR h 6 v0 3).bind fun x4 =>
      (hp_aI h 1 x4 (v1 + (1 : Int32))).bind fun x5 =>
      if x5 = (40 : Int32) then
        some (.inr (1 : Int32))
      else
        (hp_fR h 6 v0 3).bind fun x6 =>
        (hp_aI h 1 x6 (v1 + (1 : Int32))).bind fun x7 =>
        if x7 = (41 : Int32) then
          some (.inr (1 : Int32))
        else
          f_X6_hasCommentMark_54 n v0 v1 h
    else
      f_X6_hasCommentMark_54 n v0 v1 h
set_option maxHeartbeats 1000000 in
set_option maxRecDepth 4000 in
theorem q_X6_hasCommentMark_5 (G : hp_G) (n : Nat) (v0 : Nat) (v1 : Int32) (h : hp_H) (sz sl : Nat) (o : hp_O) (ho : sz ≤ o.2.2.1 ∧ sl ≤ o.2.2.2) (res : (Int32) ⊕ (Int32)) (hm : f_X6_hasCommentMark_5 n v0 v1 h = some res) (kI : ∀ y : Int32, res = .inl y → hp_V G m_X6_hasCommentMark 5 [(0, .ref v0), (1, .int y)] [] h sz sl o) (kR : ∀ y : Int32, res = .inr y → o = (some (.int y), h, sz, sl)) : hp_V G m_X6_hasCommentMark 5 [(0, .ref v0), (1, .int v1)] [] h sz sl o := by
  unfold f_X6_hasCommentMark_5 at hm
  refine hv_iload_n 1 dX6_hasCommentMark_5 rfl rfl ?_
  refine hv_iconst (1 : Int32) dX6_hasCommentMark_6 (by decide) ?_
  refine hv_iadd dX6_hasCommentMark_7 ?_
  refine hv_aload_n 0 dX6_hasCommentMark_8 rfl rfl ?_
  obtain ⟨x1, hx1, hm⟩ := hp_bd hm
  refine hv_get lk_f_X6_22 dX6_hasCommentMark_9 (hp_fI_spec hx1) ?_
  refine hv_icmp_ge (tgt := 60) dX6_hasCommentMark_12 (by decide) (fun c11 => ?_) (fun c11 => ?_)
  · rw [if_pos c11] at hm
    refine hv_iconst (0 : Int32) dX6_hasCommentMark_60 (by decide) ?_
    obtain rfl := kR _ (Option.some.inj hm).symm
    exact hv_zret rfl (by decide) dX6_hasCommentMark_61
  · rw [if_neg c11] at hm
    refine hv_aload_n 0 dX6_hasCommentMark_15 rfl rfl ?_
    obtain ⟨x2, hx2, hm⟩ := hp_bd hm
    refine hv_get lk_f_X6_9 dX6_hasCommentMark_16 (hp_fR_spec hx2) ?_
    refine hv_iload_n 1 dX6_hasCommentMark_19 rfl rfl ?_
    obtain ⟨x3, hx3, hm⟩ := hp_bd hm
    refine hv_bald dX6_hasCommentMark_20 hx3 ?_
    refine hv_bipush (36 : Int32) dX6_hasCommentMark_21 (by decide) ?_
    refine hv_icmp_ne (tgt := 54) dX6_hasCommentMark_23 (by decide) (fun c10 => ?_) (fun c10 => ?_)
    · rw [if_neg c10] at hm
      exact hv_sub [0, 1] rfl (q_X6_hasCommentMark_54 G n v0 v1 h sz sl o ho _ hm kI kR)
    · rw [if_pos c10] at hm
      refine hv_aload_n 0 dX6_hasCommentMark_26 rfl rfl ?_
      obtain ⟨x4, hx4, hm⟩ := hp_bd hm
      refine hv_get lk_f_X6_9 dX6_hasCommentMark_27 (hp_fR_spec hx4) ?_
      refine hv_iload_n 1 dX6_hasCommentMark_30 rfl rfl ?_
      refine hv_iconst (1 : Int32) dX6_hasCommentMark_31 (by decide) ?_
      refine hv_iadd dX6_hasCommentMark_32 ?_
      obtain ⟨x5, hx5, hm⟩ := hp_bd hm
      refine hv_bald dX6_hasCommentMark_33 hx5 ?_
      refine hv_bipush (40 : Int32) dX6_hasCommentMark_34 (by decide) ?_
      refine hv_icmp_eq (tgt := 52) dX6_hasCommentMark_36 (by decide) (fun c9 => ?_) (fun c9 => ?_)
      · rw [if_pos c9] at hm
        refine hv_iconst (1 : Int32) dX6_hasCommentMark_52 (by decide) ?_
        obtain rfl := kR _ (Option.some.inj hm).symm
        exact hv_zret rfl (by decide) dX6_hasCommentMark_53
      · rw [if_neg c9] at hm
        refine hv_aload_n 0 dX6_hasCommentMark_39 rfl rfl ?_
        obtain ⟨x6, hx6, hm⟩ := hp_bd hm
        refine hv_get lk_f_X6_9 dX6_hasCommentMark_40 (hp_fR_spec hx6) ?_
        refine hv_iload_n 1 dX6_hasCommentMark_43 rfl rfl ?_
        refine hv_iconst (1 : Int32) dX6_hasCommentMark_44 (by decide) ?_
        refine hv_iadd dX6_hasCommentMark_45 ?_
        obtain ⟨x7, hx7, hm⟩ := hp_bd hm
        refine hv_bald dX6_hasCommentMark_46 hx7 ?_
        refine hv_bipush (41 : Int32) dX6_hasCommentMark_47 (by decide) ?_
        refine hv_icmp_ne (tgt := 54) dX6_hasCommentMark_49 (by decide) (fun c8 => ?_) (fun c8 => ?_)
        · rw [if_neg c8] at hm
          exact hv_sub [0, 1] rfl (q_X6_hasCommentMark_54 G n v0 v1 h sz sl o ho _ hm kI kR)
        · rw [if_pos c8] at hm
          refine hv_iconst (1 : Int32) dX6_hasCommentMark_52 (by decide) ?_
          obtain rfl := kR _ (Option.some.inj hm).symm
          exact hv_zret rfl (by decide) dX6_hasCommentMark_53
def fL_X6_hasCommentMark_5 (n : Nat) (v0 : Nat) (h : hp_H) (s : Int32) : Option ((Int32) ⊕ (Int32)) := f_X6_hasCommentMark_5 n v0 s h
theorem l_X6_hasCommentMark_5 (G : hp_G) (n : Nat) (v0 : Nat) (h : hp_H) (sz sl : Nat) (o : hp_O) (ho : sz ≤ o.2.2.1 ∧ sl ≤ o.2.2.2) : ∀ (k : Nat) (s : Int32) (x : Int32), hp_lp (fL_X6_hasCommentMark_5 n v0 h) k s = some x → (∀ y : Int32, x = y → o = (some (.int y), h, sz, sl)) → hp_V G m_X6_hasCommentMark 5 [(0, .ref v0), (1, .int s)] [] h sz sl o := by
  intro k
  induction k with
  | zero => intro s x hx; exact (hp_lp_0 hx).elim
  | succ k ih =>
    intro s x hx k0
    obtain ⟨r, hr, hc⟩ := hp_lp_1 hx
    refine q_X6_hasCommentMark_5 G n v0 s h sz sl o ho r hr (fun s2 e => ?_) (fun y e => ?_)
    · rcases hc with ⟨s3, e3, hx3⟩ | e3
      · have e4 := Sum.inl.inj (e.symm.trans e3)
        subst e4
        exact ih _ _ hx3 k0
      · cases (e.symm.trans e3)
    · rcases hc with ⟨s3, e3, hx3⟩ | e3
      · cases (e.symm.trans e3)
      · exact k0 y (Sum.inr.inj (e3.symm.trans e))
def f_X6_hasCommentMark_0 (n : Nat) (v0 : Nat) (h : hp_H) : Option (Int32) :=
  (hp_fI h 6 v0 0).bind fun x1 =>
  (hp_lp (fL_X6_hasCommentMark_5 n v0 h) n x1).bind fun x2 =>
  some x2
set_option maxHeartbeats 1000000 in
set_option maxRecDepth 4000 in
theorem q_X6_hasCommentMark_0 (G : hp_G) (n : Nat) (v0 : Nat) (h : hp_H) (sz sl : Nat) (res : Int32) (hm : f_X6_hasCommentMark_0 n v0 h = some res) : hp_V G m_X6_hasCommentMark 0 [(0, .ref v0)] [] h sz sl (some (.int res), h, sz, sl) := by
  have ho : sz ≤ sz ∧ sl ≤ sl := ⟨Nat.le_refl _, Nat.le_refl _⟩
  unfold f_X6_hasCommentMark_0 at hm
  refine hv_aload_n 0 dX6_hasCommentMark_0 rfl rfl ?_
  obtain ⟨x1, hx1, hm⟩ := hp_bd hm
  refine hv_get lk_f_X6_19 dX6_hasCommentMark_1 (hp_fI_spec hx1) ?_
  refine hv_istore_n [(1, .int x1), (0, .ref v0)] dX6_hasCommentMark_4 rfl (by decide) rfl ?_
  obtain ⟨x2, hx2, hm⟩ := hp_bd hm
  refine hv_sub [1, 0] rfl (l_X6_hasCommentMark_5 G n v0 h sz sl _ ho n _ _ hx2 (fun y3 ey3 => ?_))
  · skip
    subst ey3
    obtain rfl := Option.some.inj hm
    rfl
def f_X6_hasCommentMark (n : Nat) (v0 : Nat) (h : hp_H) : Option (Int32) := (hp_ck h 6 v0).bind fun _ => f_X6_hasCommentMark_0 n v0 h
theorem c_X6_hasCommentMark (G : hp_G) (n : Nat) (v0 : Nat) (h : hp_H) (sz sl : Nat) (res : Int32) (hm : f_X6_hasCommentMark n v0 h = some res) : hp_C G m_X6_hasCommentMark yX6_hasCommentMark [.ref v0] h sz sl (some (.int res), h, sz, sl) := by
  unfold f_X6_hasCommentMark at hm
  obtain ⟨_, _, hm⟩ := hp_bd hm
  exact hp_C_of (by decide) rfl rfl (Nat.le_of_ble_eq_true rfl) (Nat.le_refl _) (Nat.le_refl _) (hv_sub [0] rfl (q_X6_hasCommentMark_0 G n v0 h sz sl res hm))
theorem k_X6_hasCommentMark {n : Nat} {v0 : Nat} {h : hp_H} {res : Int32} (hm : f_X6_hasCommentMark n v0 h = some res) : ∃ V, h v0 = some (.inr (.inr (6, V))) := by
  unfold f_X6_hasCommentMark at hm
  obtain ⟨_, hu, _⟩ := hp_bd hm
  exact hp_ck_spec hu
abbrev m_X6_advance : hp_M := (RX6, cX6_advance, 3, some .boolean, 2, 40, "advance")
theorem Z_X6_advance : hp_Y yX6_advance m_X6_advance 0 := Y_X6_advance
def f_X6_advance_115 (n : Nat) (v0 : Nat) (v2 : Int32) (s0 : Int32) (h : hp_H) : Option ((Int32 × Int32 × hp_H) ⊕ ((Int32 × hp_H) ⊕ ((hp_H) ⊕ ((hp_H) ⊕ (Int32 × hp_H))))) :=
  some (.inl (s0, (v2 + (1 : Int32)), h))
set_option maxHeartbeats 1000000 in
set_option maxRecDepth 4000 in
theorem q_X6_advance_115 (G : hp_G) (n : Nat) (v0 : Nat) (v2 : Int32) (s0 : Int32) (h : hp_H) (sz sl : Nat) (o : hp_O) (ho : sz ≤ o.2.2.1 ∧ sl ≤ o.2.2.2) (res : (Int32 × Int32 × hp_H) ⊕ ((Int32 × hp_H) ⊕ ((hp_H) ⊕ ((hp_H) ⊕ (Int32 × hp_H))))) (hm : f_X6_advance_115 n v0 v2 s0 h = some res) (kI : ∀ y : Int32 × Int32 × hp_H, res = .inl y → hp_V G m_X6_advance 4 [(0, .ref v0), (1, .int y.1), (2, .int y.2.1)] [] y.2.2 sz sl o) (kX0 : ∀ y : Int32 × hp_H, res = .inr (.inl y) → hp_V G m_X6_advance 26 [(0, .ref v0), (1, .int y.1)] [] y.2 sz sl o) (kX1 : ∀ y : hp_H, res = .inr (.inr (.inl y)) → hp_V G m_X6_advance 48 [(0, .ref v0)] [] y sz sl o) (kX2 : ∀ y : hp_H, res = .inr (.inr (.inr (.inl y))) → hp_V G m_X6_advance 90 [(0, .ref v0)] [] y sz sl o) (kR : ∀ y : Int32 × hp_H, res = .inr (.inr (.inr (.inr y))) → o = (some (.int y.1), y.2, sz, sl)) : hp_V G m_X6_advance 115 [(0, .ref v0), (2, .int v2)] [.int s0] h sz sl o := by
  unfold f_X6_advance_115 at hm
  refine hv_istore_n [(1, .int s0), (0, .ref v0), (2, .int v2)] dX6_advance_115 rfl (by decide) rfl ?_
  refine hv_iinc (v2 + (1 : Int32)) 2 [(2, .int (v2 + (1 : Int32))), (1, .int s0), (0, .ref v0)] dX6_advance_116 rfl rfl (by decide) rfl ?_
  refine hv_goto (tgt := 4) dX6_advance_119 (by decide) ?_
  exact hv_sub [2, 1, 0] rfl (kI (s0, (v2 + (1 : Int32)), h) (Option.some.inj hm).symm)
def f_X6_advance_110 (n : Nat) (v0 : Nat) (v2 : Int32) (h : hp_H) : Option ((Int32 × Int32 × hp_H) ⊕ ((Int32 × hp_H) ⊕ ((hp_H) ⊕ ((hp_H) ⊕ (Int32 × hp_H))))) :=
  f_X6_advance_115 n v0 v2 (1 : Int32) h
set_option maxHeartbeats 1000000 in
set_option maxRecDepth 4000 in
theorem q_X6_advance_110 (G : hp_G) (n : Nat) (v0 : Nat) (v2 : Int32) (h : hp_H) (sz sl : Nat) (o : hp_O) (ho : sz ≤ o.2.2.1 ∧ sl ≤ o.2.2.2) (res : (Int32 × Int32 × hp_H) ⊕ ((Int32 × hp_H) ⊕ ((hp_H) ⊕ ((hp_H) ⊕ (Int32 × hp_H))))) (hm : f_X6_advance_110 n v0 v2 h = some res) (kI : ∀ y : Int32 × Int32 × hp_H, res = .inl y → hp_V G m_X6_advance 4 [(0, .ref v0), (1, .int y.1), (2, .int y.2.1)] [] y.2.2 sz sl o) (kX0 : ∀ y : Int32 × hp_H, res = .inr (.inl y) → hp_V G m_X6_advance 26 [(0, .ref v0), (1, .int y.1)] [] y.2 sz sl o) (kX1 : ∀ y : hp_H, res = .inr (.inr (.inl y)) → hp_V G m_X6_advance 48 [(0, .ref v0)] [] y sz sl o) (kX2 : ∀ y : hp_H, res = .inr (.inr (.inr (.inl y))) → hp_V G m_X6_advance 90 [(0, .ref v0)] [] y sz sl o) (kR : ∀ y : Int32 × hp_H, res = .inr (.inr (.inr (.inr y))) → o = (some (.int y.1), y.2, sz, sl)) : hp_V G m_X6_advance 110 [(0, .ref v0), (2, .int v2)] [] h sz sl o := by
  unfold f_X6_advance_110 at hm
  refine hv_iconst (1 : Int32) dX6_advance_110 (by decide) ?_
  refine hv_goto (tgt := 115) dX6_advance_111 (by decide) ?_
  exact hv_sub [0, 1] rfl (q_X6_advance_115 G n v0 v2 (1 : Int32) h sz sl o ho _ hm kI kX0 kX1 kX2 kR)
def f_X6_advance_97 (n : Nat) (v0 : Nat) (v1 : Int32) (v2 : Int32) (h : hp_H) : Option ((Int32 × Int32 × hp_H) ⊕ ((Int32 × hp_H) ⊕ ((hp_H) ⊕ ((hp_H) ⊕ (Int32 × hp_H))))) :=
  if v1 = 0 then
    f_X6_advance_110 n v0 v2 h
  else
    (f_X6_isDollarAnd n v0 (41 : Int32) h).bind fun x1 =>
    if x1 = 0 then
      f_X6_advance_110 n v0 v2 h
    else
      f_X6_advance_115 n v0 v2 (0 : Int32) h
set_option maxHeartbeats 1000000 in
set_option maxRecDepth 4000 in
theorem q_X6_advance_97 (G : hp_G) (n : Nat) (v0 : Nat) (v1 : Int32) (v2 : Int32) (h : hp_H) (sz sl : Nat) (o : hp_O) (ho : sz ≤ o.2.2.1 ∧ sl ≤ o.2.2.2) (res : (Int32 × Int32 × hp_H) ⊕ ((Int32 × hp_H) ⊕ ((hp_H) ⊕ ((hp_H) ⊕ (Int32 × hp_H))))) (hm : f_X6_advance_97 n v0 v1 v2 h = some res) (kI : ∀ y : Int32 × Int32 × hp_H, res = .inl y → hp_V G m_X6_advance 4 [(0, .ref v0), (1, .int y.1), (2, .int y.2.1)] [] y.2.2 sz sl o) (kX0 : ∀ y : Int32 × hp_H, res = .inr (.inl y) → hp_V G m_X6_advance 26 [(0, .ref v0), (1, .int y.1)] [] y.2 sz sl o) (kX1 : ∀ y : hp_H, res = .inr (.inr (.inl y)) → hp_V G m_X6_advance 48 [(0, .ref v0)] [] y sz sl o) (kX2 : ∀ y : hp_H, res = .inr (.inr (.inr (.inl y))) → hp_V G m_X6_advance 90 [(0, .ref v0)] [] y sz sl o) (kR : ∀ y : Int32 × hp_H, res = .inr (.inr (.inr (.inr y))) → o = (some (.int y.1), y.2, sz, sl)) : hp_V G m_X6_advance 97 [(0, .ref v0), (1, .int v1), (2, .int v2)] [] h sz sl o := by
  unfold f_X6_advance_97 at hm
  refine hv_iload_n 1 dX6_advance_97 rfl rfl ?_
  refine hv_if_eq (tgt := 110) dX6_advance_98 (by decide) (fun c3 => ?_) (fun c3 => ?_)
  · rw [if_pos c3] at hm
    exact hv_sub [0, 2] rfl (q_X6_advance_110 G n v0 v2 h sz sl o ho _ hm kI kX0 kX1 kX2 kR)
  · rw [if_neg c3] at hm
    refine hv_aload_n 0 dX6_advance_101 rfl rfl ?_
    refine hv_bipush (41 : Int32) dX6_advance_102 (by decide) ?_
    obtain ⟨x1, hx1, hm⟩ := hp_bd hm
    obtain ⟨Vx1, hVx1⟩ := k_X6_isDollarAnd hx1
    refine hv_callV (As := [.int (41 : Int32)]) (rest := []) Z_X6_isDollarAnd I_X6_isDollarAnd lk_m_X6_35 rfl hVx1 (c_X6_isDollarAnd G n v0 (41 : Int32) h sz sl _ hx1) rfl (Nat.le_of_ble_eq_true rfl) ⟨Nat.le_of_ble_eq_true rfl, Nat.le_of_ble_eq_true rfl⟩ ho.1 ho.2 rfl dX6_advance_104 ?_
    refine hv_as [.int x1] h rfl rfl ?_
    refine hv_if_ne (tgt := 114) dX6_advance_107 (by decide) (fun c2 => ?_) (fun c2 => ?_)
    · rw [if_neg c2] at hm
      refine hv_iconst (0 : Int32) dX6_advance_114 (by decide) ?_
      exact hv_sub [0, 2] rfl (q_X6_advance_115 G n v0 v2 (0 : Int32) h sz sl o ho _ hm kI kX0 kX1 kX2 kR)
    · rw [if_pos c2] at hm
      exact hv_sub [0, 2] rfl (q_X6_advance_110 G n v0 v2 h sz sl o ho _ hm kI kX0 kX1 kX2 kR)
def f_X6_advance_70 (n : Nat) (v0 : Nat) (v1 : Int32) (v2 : Int32) (h : hp_H) : Option ((Int32 × Int32 × hp_H) ⊕ ((Int32 × hp_H) ⊕ ((hp_H) ⊕ ((hp_H) ⊕ (Int32 × hp_H))))) :=
  if v1 = 0 then
    f_X6_advance_97 n v0 v1 v2 h
  else
    (f_X6_isDollarAnd n v0 (41 : Int32) h).bind fun x1 =>
    if x1 = 0 then
      (f_X6_hasCommentMark n v0 h).bind fun x2 =>
      if x2 = 0 then
        f_X6_advance_97 n v0 v1 v2 h
      else
        some (.inr (.inr (.inr (.inl h))))
    else
      f_X6_advance_97 n v0 v1 v2 h
set_option maxHeartbeats 1000000 in
set_option maxRecDepth 4000 in
theorem q_X6_advance_70 (G : hp_G) (n : Nat) (v0 : Nat) (v1 : Int32) (v2 : Int32) (h : hp_H) (sz sl : Nat) (o : hp_O) (ho : sz ≤ o.2.2.1 ∧ sl ≤ o.2.2.2) (res : (Int32 × Int32 × hp_H) ⊕ ((Int32 × hp_H) ⊕ ((hp_H) ⊕ ((hp_H) ⊕ (Int32 × hp_H))))) (hm : f_X6_advance_70 n v0 v1 v2 h = some res) (kI : ∀ y : Int32 × Int32 × hp_H, res = .inl y → hp_V G m_X6_advance 4 [(0, .ref v0), (1, .int y.1), (2, .int y.2.1)] [] y.2.2 sz sl o) (kX0 : ∀ y : Int32 × hp_H, res = .inr (.inl y) → hp_V G m_X6_advance 26 [(0, .ref v0), (1, .int y.1)] [] y.2 sz sl o) (kX1 : ∀ y : hp_H, res = .inr (.inr (.inl y)) → hp_V G m_X6_advance 48 [(0, .ref v0)] [] y sz sl o) (kX2 : ∀ y : hp_H, res = .inr (.inr (.inr (.inl y))) → hp_V G m_X6_advance 90 [(0, .ref v0)] [] y sz sl o) (kR : ∀ y : Int32 × hp_H, res = .inr (.inr (.inr (.inr y))) → o = (some (.int y.1), y.2, sz, sl)) : hp_V G m_X6_advance 70 [(0, .ref v0), (1, .int v1), (2, .int v2)] [] h sz sl o := by
  unfold f_X6_advance_70 at hm
  refine hv_iload_n 1 dX6_advance_70 rfl rfl ?_
  refine hv_if_eq (tgt := 97) dX6_advance_71 (by decide) (fun c5 => ?_) (fun c5 => ?_)
  · rw [if_pos c5] at hm
    exact hv_sub [0, 1, 2] rfl (q_X6_advance_97 G n v0 v1 v2 h sz sl o ho _ hm kI kX0 kX1 kX2 kR)
  · rw [if_neg c5] at hm
    refine hv_aload_n 0 dX6_advance_74 rfl rfl ?_
    refine hv_bipush (41 : Int32) dX6_advance_75 (by decide) ?_
    obtain ⟨x1, hx1, hm⟩ := hp_bd hm
    obtain ⟨Vx1, hVx1⟩ := k_X6_isDollarAnd hx1
    refine hv_callV (As := [.int (41 : Int32)]) (rest := []) Z_X6_isDollarAnd I_X6_isDollarAnd lk_m_X6_35 rfl hVx1 (c_X6_isDollarAnd G n v0 (41 : Int32) h sz sl _ hx1) rfl (Nat.le_of_ble_eq_true rfl) ⟨Nat.le_of_ble_eq_true rfl, Nat.le_of_ble_eq_true rfl⟩ ho.1 ho.2 rfl dX6_advance_77 ?_
    refine hv_as [.int x1] h rfl rfl ?_
    refine hv_if_ne (tgt := 97) dX6_advance_80 (by decide) (fun c4 => ?_) (fun c4 => ?_)
    · rw [if_neg c4] at hm
      exact hv_sub [0, 1, 2] rfl (q_X6_advance_97 G n v0 v1 v2 h sz sl o ho _ hm kI kX0 kX1 kX2 kR)
    · rw [if_pos c4] at hm
      refine hv_aload_n 0 dX6_advance_83 rfl rfl ?_
      obtain ⟨x2, hx2, hm⟩ := hp_bd hm
      obtain ⟨Vx2, hVx2⟩ := k_X6_hasCommentMark hx2
      refine hv_callV (As := []) (rest := []) Z_X6_hasCommentMark I_X6_hasCommentMark lk_m_X6_39 rfl hVx2 (c_X6_hasCommentMark G n v0 h sz sl _ hx2) rfl (Nat.le_of_ble_eq_true rfl) ⟨Nat.le_of_ble_eq_true rfl, Nat.le_of_ble_eq_true rfl⟩ ho.1 ho.2 rfl dX6_advance_84 ?_
      refine hv_as [.int x2] h rfl rfl ?_
      refine hv_if_eq (tgt := 97) dX6_advance_87 (by decide) (fun c3 => ?_) (fun c3 => ?_)
      · rw [if_pos c3] at hm
        exact hv_sub [0, 1, 2] rfl (q_X6_advance_97 G n v0 v1 v2 h sz sl o ho _ hm kI kX0 kX1 kX2 kR)
      · rw [if_neg c3] at hm
        exact hv_sub [0] rfl (kX2 h (Option.some.inj hm).symm)
def f_X6_advance_4 (n : Nat) (v0 : Nat) (v1 : Int32) (v2 : Int32) (h : hp_H) : Option ((Int32 × Int32 × hp_H) ⊕ ((Int32 × hp_H) ⊕ ((hp_H) ⊕ ((hp_H) ⊕ (Int32 × hp_H))))) :=
  if (4096 : Int32) < v2 then
    some (.inr (.inr (.inr (.inr ((0 : Int32), h)))))
  else
    (f_X6_cut n v0 h).bind fun x1 =>
    (hp_fI x1 6 v0 0).bind fun x2 =>
    (hp_fI x1 6 v0 4).bind fun x3 =>
    if x2 = x3 then
      some (.inr (.inl (v1, x1)))
    else
      (f_X6_hasWrongByte n v0 x1).bind fun x4 =>
      if x4 = 0 then
        if v1 = 0 then
          (f_X6_isDollarAnd n v0 (40 : Int32) x1).bind fun x5 =>
          if x5 = 0 then
            some (.inr (.inr (.inr (.inr ((1 : Int32), x1)))))
          else
            f_X6_advance_70 n v0 v1 v2 x1
        else
          f_X6_advance_70 n v0 v1 v2 x1
      else
        some (.inr (.inr (.inl x1)))
set_option maxHeartbeats 1000000 in
set_option maxRecDepth 4000 in
theorem q_X6_advance_4 (G : hp_G) (n : Nat) (v0 : Nat) (v1 : Int32) (v2 : Int32) (h : hp_H) (sz sl : Nat) (o : hp_O) (ho : sz ≤ o.2.2.1 ∧ sl ≤ o.2.2.2) (res : (Int32 × Int32 × hp_H) ⊕ ((Int32 × hp_H) ⊕ ((hp_H) ⊕ ((hp_H) ⊕ (Int32 × hp_H))))) (hm : f_X6_advance_4 n v0 v1 v2 h = some res) (kI : ∀ y : Int32 × Int32 × hp_H, res = .inl y → hp_V G m_X6_advance 4 [(0, .ref v0), (1, .int y.1), (2, .int y.2.1)] [] y.2.2 sz sl o) (kX0 : ∀ y : Int32 × hp_H, res = .inr (.inl y) → hp_V G m_X6_advance 26 [(0, .ref v0), (1, .int y.1)] [] y.2 sz sl o) (kX1 : ∀ y : hp_H, res = .inr (.inr (.inl y)) → hp_V G m_X6_advance 48 [(0, .ref v0)] [] y sz sl o) (kX2 : ∀ y : hp_H, res = .inr (.inr (.inr (.inl y))) → hp_V G m_X6_advance 90 [(0, .ref v0)] [] y sz sl o) (kR : ∀ y : Int32 × hp_H, res = .inr (.inr (.inr (.inr y))) → o = (some (.int y.1), y.2, sz, sl)) : hp_V G m_X6_advance 4 [(0, .ref v0), (1, .int v1), (2, .int v2)] [] h sz sl o := by
  unfold f_X6_advance_4 at hm
  refine hv_iload_n 2 dX6_advance_4 rfl rfl ?_
  refine hv_sipush (4096 : Int32) dX6_advance_5 (by decide) ?_
  refine hv_icmp_gt (tgt := 122) dX6_advance_8 (by decide) (fun c10 => ?_) (fun c10 => ?_)
  · rw [if_pos c10] at hm
    refine hv_iconst (0 : Int32) dX6_advance_122 (by decide) ?_
    obtain rfl := kR _ (Option.some.inj hm).symm
    exact hv_zret rfl (by decide) dX6_advance_123
  · rw [if_neg c10] at hm
    refine hv_aload_n 0 dX6_advance_11 rfl rfl ?_
    obtain ⟨x1, hx1, hm⟩ := hp_bd hm
    obtain ⟨Vx1, hVx1⟩ := k_X6_cut hx1
    refine hv_callV (As := []) (rest := []) Z_X6_cut I_X6_cut lk_m_X6_28 rfl hVx1 (c_X6_cut G n v0 h sz sl _ hx1) rfl (Nat.le_of_ble_eq_true rfl) ⟨Nat.le_of_ble_eq_true rfl, Nat.le_of_ble_eq_true rfl⟩ ho.1 ho.2 rfl dX6_advance_12 ?_
    refine hv_as [] x1 rfl rfl ?_
    refine hv_aload_n 0 dX6_advance_15 rfl rfl ?_
    obtain ⟨x2, hx2, hm⟩ := hp_bd hm
    refine hv_get lk_f_X6_19 dX6_advance_16 (hp_fI_spec hx2) ?_
    refine hv_aload_n 0 dX6_advance_19 rfl rfl ?_
    obtain ⟨x3, hx3, hm⟩ := hp_bd hm
    refine hv_get lk_f_X6_15 dX6_advance_20 (hp_fI_spec hx3) ?_
    refine hv_icmp_ne (tgt := 41) dX6_advance_23 (by decide) (fun c9 => ?_) (fun c9 => ?_)
    · rw [if_neg c9] at hm
      refine hv_aload_n 0 dX6_advance_41 rfl rfl ?_
      obtain ⟨x4, hx4, hm⟩ := hp_bd hm
      obtain ⟨Vx4, hVx4⟩ := k_X6_hasWrongByte hx4
      refine hv_callV (As := []) (rest := []) Z_X6_hasWrongByte I_X6_hasWrongByte lk_m_X6_31 rfl hVx4 (c_X6_hasWrongByte G n v0 x1 sz sl _ hx4) rfl (Nat.le_of_ble_eq_true rfl) ⟨Nat.le_of_ble_eq_true rfl, Nat.le_of_ble_eq_true rfl⟩ ho.1 ho.2 rfl dX6_advance_42 ?_
      refine hv_as [.int x4] x1 rfl rfl ?_
      refine hv_if_eq (tgt := 55) dX6_advance_45 (by decide) (fun c8 => ?_) (fun c8 => ?_)
      · rw [if_pos c8] at hm
        refine hv_iload_n 1 dX6_advance_55 rfl rfl ?_
        refine hv_if_ne (tgt := 70) dX6_advance_56 (by decide) (fun c7 => ?_) (fun c7 => ?_)
        · rw [if_neg c7] at hm
          exact hv_sub [0, 1, 2] rfl (q_X6_advance_70 G n v0 v1 v2 x1 sz sl o ho _ hm kI kX0 kX1 kX2 kR)
        · rw [if_pos c7] at hm
          refine hv_aload_n 0 dX6_advance_59 rfl rfl ?_
          refine hv_bipush (40 : Int32) dX6_advance_60 (by decide) ?_
          obtain ⟨x5, hx5, hm⟩ := hp_bd hm
          obtain ⟨Vx5, hVx5⟩ := k_X6_isDollarAnd hx5
          refine hv_callV (As := [.int (40 : Int32)]) (rest := []) Z_X6_isDollarAnd I_X6_isDollarAnd lk_m_X6_35 rfl hVx5 (c_X6_isDollarAnd G n v0 (40 : Int32) x1 sz sl _ hx5) rfl (Nat.le_of_ble_eq_true rfl) ⟨Nat.le_of_ble_eq_true rfl, Nat.le_of_ble_eq_true rfl⟩ ho.1 ho.2 rfl dX6_advance_62 ?_
          refine hv_as [.int x5] x1 rfl rfl ?_
          refine hv_if_ne (tgt := 70) dX6_advance_65 (by decide) (fun c6 => ?_) (fun c6 => ?_)
          · rw [if_neg c6] at hm
            exact hv_sub [0, 1, 2] rfl (q_X6_advance_70 G n v0 v1 v2 x1 sz sl o ho _ hm kI kX0 kX1 kX2 kR)
          · rw [if_pos c6] at hm
            refine hv_iconst (1 : Int32) dX6_advance_68 (by decide) ?_
            obtain rfl := kR _ (Option.some.inj hm).symm
            exact hv_zret rfl (by decide) dX6_advance_69
      · rw [if_neg c8] at hm
        exact hv_sub [0] rfl (kX1 x1 (Option.some.inj hm).symm)
    · rw [if_pos c9] at hm
      exact hv_sub [0, 1] rfl (kX0 (v1, x1) (Option.some.inj hm).symm)
def fL_X6_advance_4 (n : Nat) (v0 : Nat) (s : Int32 × Int32 × hp_H) : Option ((Int32 × Int32 × hp_H) ⊕ ((Int32 × hp_H) ⊕ ((hp_H) ⊕ ((hp_H) ⊕ (Int32 × hp_H))))) := f_X6_advance_4 n v0 s.1 s.2.1 s.2.2
theorem l_X6_advance_4 (G : hp_G) (n : Nat) (v0 : Nat) (sz sl : Nat) (o : hp_O) (ho : sz ≤ o.2.2.1 ∧ sl ≤ o.2.2.2) : ∀ (k : Nat) (s : Int32 × Int32 × hp_H) (x : (Int32 × hp_H) ⊕ ((hp_H) ⊕ ((hp_H) ⊕ (Int32 × hp_H)))), hp_lp (fL_X6_advance_4 n v0) k s = some x → (∀ y : Int32 × hp_H, x = (.inl y) → hp_V G m_X6_advance 26 [(0, .ref v0), (1, .int y.1)] [] y.2 sz sl o) → (∀ y : hp_H, x = (.inr (.inl y)) → hp_V G m_X6_advance 48 [(0, .ref v0)] [] y sz sl o) → (∀ y : hp_H, x = (.inr (.inr (.inl y))) → hp_V G m_X6_advance 90 [(0, .ref v0)] [] y sz sl o) → (∀ y : Int32 × hp_H, x = (.inr (.inr (.inr y))) → o = (some (.int y.1), y.2, sz, sl)) → hp_V G m_X6_advance 4 [(0, .ref v0), (1, .int s.1), (2, .int s.2.1)] [] s.2.2 sz sl o := by
  intro k
  induction k with
  | zero => intro s x hx; exact (hp_lp_0 hx).elim
  | succ k ih =>
    intro s x hx k0 k1 k2 k3
    obtain ⟨r, hr, hc⟩ := hp_lp_1 hx
    refine q_X6_advance_4 G n v0 s.1 s.2.1 s.2.2 sz sl o ho r hr (fun s2 e => ?_) (fun y e => ?_) (fun y e => ?_) (fun y e => ?_) (fun y e => ?_)
    · rcases hc with ⟨s3, e3, hx3⟩ | e3
      · have e4 := Sum.inl.inj (e.symm.trans e3)
        subst e4
        exact ih _ _ hx3 k0 k1 k2 k3
      · cases (e.symm.trans e3)
    · rcases hc with ⟨s3, e3, hx3⟩ | e3
      · cases (e.symm.trans e3)
      · exact k0 y (Sum.inr.inj (e3.symm.trans e))
    · rcases hc with ⟨s3, e3, hx3⟩ | e3
      · cases (e.symm.trans e3)
      · exact k1 y (Sum.inr.inj (e3.symm.trans e))
    · rcases hc with ⟨s3, e3, hx3⟩ | e3
      · cases (e.symm.trans e3)
      · exact k2 y (Sum.inr.inj (e3.symm.trans e))
    · rcases hc with ⟨s3, e3, hx3⟩ | e3
      · cases (e.symm.trans e3)
      · exact k3 y (Sum.inr.inj (e3.symm.trans e))
def f_X6_advance_36 (n : Nat)  (s0 : Int32) (s1 : Nat) (h : hp_H) : Option (Int32 × hp_H) :=
  (hp_pF h 6 s1 2 (.int s0)).bind fun h1 =>
  some ((0 : Int32), h1)
set_option maxHeartbeats 1000000 in
set_option maxRecDepth 4000 in
theorem q_X6_advance_36 (G : hp_G) (n : Nat)  (s0 : Int32) (s1 : Nat) (h : hp_H) (sz sl : Nat) (res : Int32 × hp_H) (hm : f_X6_advance_36 n s0 s1 h = some res) : hp_V G m_X6_advance 36 [] [.int s0, .ref s1] h sz sl (some (.int res.1), res.2, sz, sl) := by
  have ho : sz ≤ sz ∧ sl ≤ sl := ⟨Nat.le_refl _, Nat.le_refl _⟩
  unfold f_X6_advance_36 at hm
  obtain ⟨h1, hh1, hm⟩ := hp_bd hm
  refine hv_put lk_f_X6_25 dX6_advance_36 rfl rfl hh1 ?_
  refine hv_iconst (0 : Int32) dX6_advance_39 (by decide) ?_
  obtain rfl := Option.some.inj hm
  exact hv_zret rfl (by decide) dX6_advance_40
def f_X6_advance_0 (n : Nat) (v0 : Nat) (h : hp_H) : Option (Int32 × hp_H) :=
  (hp_lp (fL_X6_advance_4 n v0) n ((0 : Int32), (0 : Int32), h)).bind fun x1 =>
  Sum.elim (fun y2 =>
    if y2.1 = 0 then
      f_X6_advance_36 n (0 : Int32) v0 y2.2
    else
      f_X6_advance_36 n (2 : Int32) v0 y2.2) (Sum.elim (fun y3 =>
    (hp_pF y3 6 v0 2 (.int (1 : Int32))).bind fun h7 =>
    some ((0 : Int32), h7)) (Sum.elim (fun y4 =>
    (hp_pF y4 6 v0 2 (.int (3 : Int32))).bind fun h8 =>
    some ((0 : Int32), h8)) (fun y5 =>
    some (y5.1, y5.2)))) x1
set_option maxHeartbeats 1000000 in
set_option maxRecDepth 4000 in
theorem q_X6_advance_0 (G : hp_G) (n : Nat) (v0 : Nat) (h : hp_H) (sz sl : Nat) (res : Int32 × hp_H) (hm : f_X6_advance_0 n v0 h = some res) : hp_V G m_X6_advance 0 [(0, .ref v0)] [] h sz sl (some (.int res.1), res.2, sz, sl) := by
  have ho : sz ≤ sz ∧ sl ≤ sl := ⟨Nat.le_refl _, Nat.le_refl _⟩
  unfold f_X6_advance_0 at hm
  refine hv_iconst (0 : Int32) dX6_advance_0 (by decide) ?_
  refine hv_istore_n [(1, .int (0 : Int32)), (0, .ref v0)] dX6_advance_1 rfl (by decide) rfl ?_
  refine hv_iconst (0 : Int32) dX6_advance_2 (by decide) ?_
  refine hv_istore_n [(2, .int (0 : Int32)), (1, .int (0 : Int32)), (0, .ref v0)] dX6_advance_3 rfl (by decide) rfl ?_
  obtain ⟨x1, hx1, hm⟩ := hp_bd hm
  refine hv_sub [2, 1, 0] rfl (l_X6_advance_4 G n v0 sz sl _ ho n _ _ hx1 (fun y2 ey2 => ?_) (fun y3 ey3 => ?_) (fun y4 ey4 => ?_) (fun y5 ey5 => ?_))
  · skip
    subst ey2
    simp only [Sum.elim_inl, Sum.elim_inr] at hm
    refine hv_aload_n 0 dX6_advance_26 rfl rfl ?_
    refine hv_iload_n 1 dX6_advance_27 rfl rfl ?_
    refine hv_if_eq (tgt := 35) dX6_advance_28 (by decide) (fun c6 => ?_) (fun c6 => ?_)
    · rw [if_pos c6] at hm
      refine hv_iconst (0 : Int32) dX6_advance_35 (by decide) ?_
      exact hv_sub [] rfl (q_X6_advance_36 G n (0 : Int32) v0 y2.2 sz sl _ hm)
    · rw [if_neg c6] at hm
      refine hv_iconst (2 : Int32) dX6_advance_31 (by decide) ?_
      refine hv_goto (tgt := 36) dX6_advance_32 (by decide) ?_
      exact hv_sub [] rfl (q_X6_advance_36 G n (2 : Int32) v0 y2.2 sz sl _ hm)
  · skip
    subst ey3
    simp only [Sum.elim_inl, Sum.elim_inr] at hm
    refine hv_aload_n 0 dX6_advance_48 rfl rfl ?_
    refine hv_iconst (1 : Int32) dX6_advance_49 (by decide) ?_
    obtain ⟨h7, hh7, hm⟩ := hp_bd hm
    refine hv_put lk_f_X6_25 dX6_advance_50 rfl rfl hh7 ?_
    refine hv_iconst (0 : Int32) dX6_advance_53 (by decide) ?_
    obtain rfl := Option.some.inj hm
    exact hv_zret rfl (by decide) dX6_advance_54
  · skip
    subst ey4
    simp only [Sum.elim_inl, Sum.elim_inr] at hm
    refine hv_aload_n 0 dX6_advance_90 rfl rfl ?_
    refine hv_iconst (3 : Int32) dX6_advance_91 (by decide) ?_
    obtain ⟨h8, hh8, hm⟩ := hp_bd hm
    refine hv_put lk_f_X6_25 dX6_advance_92 rfl rfl hh8 ?_
    refine hv_iconst (0 : Int32) dX6_advance_95 (by decide) ?_
    obtain rfl := Option.some.inj hm
    exact hv_zret rfl (by decide) dX6_advance_96
  · skip
    subst ey5
    simp only [Sum.elim_inl, Sum.elim_inr] at hm
    obtain rfl := Option.some.inj hm
    rfl
def f_X6_advance (n : Nat) (v0 : Nat) (h : hp_H) : Option (Int32 × hp_H) := (hp_ck h 6 v0).bind fun _ => f_X6_advance_0 n v0 h
theorem c_X6_advance (G : hp_G) (n : Nat) (v0 : Nat) (h : hp_H) (sz sl : Nat) (res : Int32 × hp_H) (hm : f_X6_advance n v0 h = some res) : hp_C G m_X6_advance yX6_advance [.ref v0] h sz sl (some (.int res.1), res.2, sz, sl) := by
  unfold f_X6_advance at hm
  obtain ⟨_, _, hm⟩ := hp_bd hm
  exact hp_C_of (by decide) rfl rfl (Nat.le_of_ble_eq_true rfl) (Nat.le_refl _) (Nat.le_refl _) (hv_sub [0] rfl (q_X6_advance_0 G n v0 h sz sl res hm))
theorem k_X6_advance {n : Nat} {v0 : Nat} {h : hp_H} {res : Int32 × hp_H} (hm : f_X6_advance n v0 h = some res) : ∃ V, h v0 = some (.inr (.inr (6, V))) := by
  unfold f_X6_advance at hm
  obtain ⟨_, hu, _⟩ := hp_bd hm
  exact hp_ck_spec hu
abbrev m_X6_keyword : hp_M := (RX6, cX6_keyword, 1, some .int, 0, 0, "keyword")
theorem Z_X6_keyword : hp_Y yX6_keyword m_X6_keyword 0 := Y_X6_keyword
def f_X6_keyword_140 (n : Nat) (v0 : Nat) (h : hp_H) : Option (Int32) :=
  (hp_fR h 6 v0 3).bind fun x1 =>
  (hp_fI h 6 v0 0).bind fun x2 =>
  (hp_aI h 1 x1 (x2 + (1 : Int32))).bind fun x3 =>
  some x3
set_option maxHeartbeats 1000000 in
set_option maxRecDepth 4000 in
theorem q_X6_keyword_140 (G : hp_G) (n : Nat) (v0 : Nat) (h : hp_H) (sz sl : Nat) (res : Int32) (hm : f_X6_keyword_140 n v0 h = some res) : hp_V G m_X6_keyword 140 [(0, .ref v0)] [] h sz sl (some (.int res), h, sz, sl) := by
  have ho : sz ≤ sz ∧ sl ≤ sl := ⟨Nat.le_refl _, Nat.le_refl _⟩
  unfold f_X6_keyword_140 at hm
  refine hv_aload_n 0 dX6_keyword_140 rfl rfl ?_
  obtain ⟨x1, hx1, hm⟩ := hp_bd hm
  refine hv_get lk_f_X6_9 dX6_keyword_141 (hp_fR_spec hx1) ?_
  refine hv_aload_n 0 dX6_keyword_144 rfl rfl ?_
  obtain ⟨x2, hx2, hm⟩ := hp_bd hm
  refine hv_get lk_f_X6_19 dX6_keyword_145 (hp_fI_spec hx2) ?_
  refine hv_iconst (1 : Int32) dX6_keyword_148 (by decide) ?_
  refine hv_iadd dX6_keyword_149 ?_
  obtain ⟨x3, hx3, hm⟩ := hp_bd hm
  refine hv_bald dX6_keyword_150 hx3 ?_
  obtain rfl := Option.some.inj hm
  exact hv_iret rfl dX6_keyword_151
def f_X6_keyword_0 (n : Nat) (v0 : Nat) (h : hp_H) : Option (Int32) :=
  (hp_fI h 6 v0 1).bind fun x1 =>
  (hp_fI h 6 v0 0).bind fun x2 =>
  if (x1 - x2) = (2 : Int32) then
    (hp_fR h 6 v0 3).bind fun x3 =>
    (hp_fI h 6 v0 0).bind fun x4 =>
    (hp_aI h 1 x3 x4).bind fun x5 =>
    if x5 = (36 : Int32) then
      (hp_fR h 6 v0 3).bind fun x6 =>
      (hp_fI h 6 v0 0).bind fun x7 =>
      (hp_aI h 1 x6 (x7 + (1 : Int32))).bind fun x8 =>
      if x8 = (46 : Int32) then
        f_X6_keyword_140 n v0 h
      else if x8 = (61 : Int32) then
        f_X6_keyword_140 n v0 h
      else if x8 = (97 : Int32) then
        f_X6_keyword_140 n v0 h
      else if x8 = (99 : Int32) then
        f_X6_keyword_140 n v0 h
      else if x8 = (100 : Int32) then
        f_X6_keyword_140 n v0 h
      else if x8 = (101 : Int32) then
        f_X6_keyword_140 n v0 h
      else if x8 = (102 : Int32) then
        f_X6_keyword_140 n v0 h
      else if x8 = (112 : Int32) then
        f_X6_keyword_140 n v0 h
      else if x8 = (118 : Int32) then
        f_X6_keyword_140 n v0 h
      else if x8 = (123 : Int32) then
        f_X6_keyword_140 n v0 h
      else if x8 = (125 : Int32) then
        f_X6_keyword_140 n v0 h
      else 
        some (-1 : Int32)
    else
      some (-1 : Int32)
  else
    some (-1 : Int32)
set_option maxHeartbeats 1000000 in
set_option maxRecDepth 4000 in
theorem q_X6_keyword_0 (G : hp_G) (n : Nat) (v0 : Nat) (h : hp_H) (sz sl : Nat) (res : Int32) (hm : f_X6_keyword_0 n v0 h = some res) : hp_V G m_X6_keyword 0 [(0, .ref v0)] [] h sz sl (some (.int res), h, sz, sl) := by
  have ho : sz ≤ sz ∧ sl ≤ sl := ⟨Nat.le_refl _, Nat.le_refl _⟩
  unfold f_X6_keyword_0 at hm
  refine hv_aload_n 0 dX6_keyword_0 rfl rfl ?_
  obtain ⟨x1, hx1, hm⟩ := hp_bd hm
  refine hv_get lk_f_X6_22 dX6_keyword_1 (hp_fI_spec hx1) ?_
  refine hv_aload_n 0 dX6_keyword_4 rfl rfl ?_
  obtain ⟨x2, hx2, hm⟩ := hp_bd hm
  refine hv_get lk_f_X6_19 dX6_keyword_5 (hp_fI_spec hx2) ?_
  refine hv_isub dX6_keyword_8 ?_
  refine hv_iconst (2 : Int32) dX6_keyword_9 (by decide) ?_
  refine hv_icmp_ne (tgt := 27) dX6_keyword_10 (by decide) (fun c21 => ?_) (fun c21 => ?_)
  · rw [if_neg c21] at hm
    refine hv_iconst (-1 : Int32) dX6_keyword_27 (by decide) ?_
    obtain rfl := Option.some.inj hm
    exact hv_iret rfl dX6_keyword_28
  · rw [if_pos c21] at hm
    refine hv_aload_n 0 dX6_keyword_13 rfl rfl ?_
    obtain ⟨x3, hx3, hm⟩ := hp_bd hm
    refine hv_get lk_f_X6_9 dX6_keyword_14 (hp_fR_spec hx3) ?_
    refine hv_aload_n 0 dX6_keyword_17 rfl rfl ?_
    obtain ⟨x4, hx4, hm⟩ := hp_bd hm
    refine hv_get lk_f_X6_19 dX6_keyword_18 (hp_fI_spec hx4) ?_
    obtain ⟨x5, hx5, hm⟩ := hp_bd hm
    refine hv_bald dX6_keyword_21 hx5 ?_
    refine hv_bipush (36 : Int32) dX6_keyword_22 (by decide) ?_
    refine hv_icmp_eq (tgt := 29) dX6_keyword_24 (by decide) (fun c20 => ?_) (fun c20 => ?_)
    · rw [if_pos c20] at hm
      refine hv_aload_n 0 dX6_keyword_29 rfl rfl ?_
      obtain ⟨x6, hx6, hm⟩ := hp_bd hm
      refine hv_get lk_f_X6_9 dX6_keyword_30 (hp_fR_spec hx6) ?_
      refine hv_aload_n 0 dX6_keyword_33 rfl rfl ?_
      obtain ⟨x7, hx7, hm⟩ := hp_bd hm
      refine hv_get lk_f_X6_19 dX6_keyword_34 (hp_fI_spec hx7) ?_
      refine hv_iconst (1 : Int32) dX6_keyword_37 (by decide) ?_
      refine hv_iadd dX6_keyword_38 ?_
      obtain ⟨x8, hx8, hm⟩ := hp_bd hm
      refine hv_bald dX6_keyword_39 hx8 ?_
      by_cases c9 : x8 = (46 : Int32)
      · rw [if_pos c9] at hm
        refine hv_lookup (off := 100) (tgt := 140) dX6_keyword_40 (by decide) (by rw [c9]; rfl) (by decide) ?_
        exact hv_sub [0] rfl (q_X6_keyword_140 G n v0 h sz sl _ hm)
      rw [if_neg c9] at hm
      by_cases c10 : x8 = (61 : Int32)
      · rw [if_pos c10] at hm
        refine hv_lookup (off := 100) (tgt := 140) dX6_keyword_40 (by decide) (by rw [c10]; rfl) (by decide) ?_
        exact hv_sub [0] rfl (q_X6_keyword_140 G n v0 h sz sl _ hm)
      rw [if_neg c10] at hm
      by_cases c11 : x8 = (97 : Int32)
      · rw [if_pos c11] at hm
        refine hv_lookup (off := 100) (tgt := 140) dX6_keyword_40 (by decide) (by rw [c11]; rfl) (by decide) ?_
        exact hv_sub [0] rfl (q_X6_keyword_140 G n v0 h sz sl _ hm)
      rw [if_neg c11] at hm
      by_cases c12 : x8 = (99 : Int32)
      · rw [if_pos c12] at hm
        refine hv_lookup (off := 100) (tgt := 140) dX6_keyword_40 (by decide) (by rw [c12]; rfl) (by decide) ?_
        exact hv_sub [0] rfl (q_X6_keyword_140 G n v0 h sz sl _ hm)
      rw [if_neg c12] at hm
      by_cases c13 : x8 = (100 : Int32)
      · rw [if_pos c13] at hm
        refine hv_lookup (off := 100) (tgt := 140) dX6_keyword_40 (by decide) (by rw [c13]; rfl) (by decide) ?_
        exact hv_sub [0] rfl (q_X6_keyword_140 G n v0 h sz sl _ hm)
      rw [if_neg c13] at hm
      by_cases c14 : x8 = (101 : Int32)
      · rw [if_pos c14] at hm
        refine hv_lookup (off := 100) (tgt := 140) dX6_keyword_40 (by decide) (by rw [c14]; rfl) (by decide) ?_
        exact hv_sub [0] rfl (q_X6_keyword_140 G n v0 h sz sl _ hm)
      rw [if_neg c14] at hm
      by_cases c15 : x8 = (102 : Int32)
      · rw [if_pos c15] at hm
        refine hv_lookup (off := 100) (tgt := 140) dX6_keyword_40 (by decide) (by rw [c15]; rfl) (by decide) ?_
        exact hv_sub [0] rfl (q_X6_keyword_140 G n v0 h sz sl _ hm)
      rw [if_neg c15] at hm
      by_cases c16 : x8 = (112 : Int32)
      · rw [if_pos c16] at hm
        refine hv_lookup (off := 100) (tgt := 140) dX6_keyword_40 (by decide) (by rw [c16]; rfl) (by decide) ?_
        exact hv_sub [0] rfl (q_X6_keyword_140 G n v0 h sz sl _ hm)
      rw [if_neg c16] at hm
      by_cases c17 : x8 = (118 : Int32)
      · rw [if_pos c17] at hm
        refine hv_lookup (off := 100) (tgt := 140) dX6_keyword_40 (by decide) (by rw [c17]; rfl) (by decide) ?_
        exact hv_sub [0] rfl (q_X6_keyword_140 G n v0 h sz sl _ hm)
      rw [if_neg c17] at hm
      by_cases c18 : x8 = (123 : Int32)
      · rw [if_pos c18] at hm
        refine hv_lookup (off := 100) (tgt := 140) dX6_keyword_40 (by decide) (by rw [c18]; rfl) (by decide) ?_
        exact hv_sub [0] rfl (q_X6_keyword_140 G n v0 h sz sl _ hm)
      rw [if_neg c18] at hm
      by_cases c19 : x8 = (125 : Int32)
      · rw [if_pos c19] at hm
        refine hv_lookup (off := 100) (tgt := 140) dX6_keyword_40 (by decide) (by rw [c19]; rfl) (by decide) ?_
        exact hv_sub [0] rfl (q_X6_keyword_140 G n v0 h sz sl _ hm)
      rw [if_neg c19] at hm
      refine hv_lookup (off := 112) (tgt := 152) dX6_keyword_40 (by decide) (by show Op.lookupswitch.offset [(46, 100), (61, 100), (97, 100), (99, 100), (100, 100), (101, 100), (102, 100), (112, 100), (118, 100), (123, 100), (125, 100)] 112 _ = _; rw [lv_osw c9 (show (46 : Int32).toInt = 46 by decide), lv_osw c10 (show (61 : Int32).toInt = 61 by decide), lv_osw c11 (show (97 : Int32).toInt = 97 by decide), lv_osw c12 (show (99 : Int32).toInt = 99 by decide), lv_osw c13 (show (100 : Int32).toInt = 100 by decide), lv_osw c14 (show (101 : Int32).toInt = 101 by decide), lv_osw c15 (show (102 : Int32).toInt = 102 by decide), lv_osw c16 (show (112 : Int32).toInt = 112 by decide), lv_osw c17 (show (118 : Int32).toInt = 118 by decide), lv_osw c18 (show (123 : Int32).toInt = 123 by decide), lv_osw c19 (show (125 : Int32).toInt = 125 by decide)]; rfl) (by decide) ?_
      refine hv_iconst (-1 : Int32) dX6_keyword_152 (by decide) ?_
      obtain rfl := Option.some.inj hm
      exact hv_iret rfl dX6_keyword_153
    · rw [if_neg c20] at hm
      refine hv_iconst (-1 : Int32) dX6_keyword_27 (by decide) ?_
      obtain rfl := Option.some.inj hm
      exact hv_iret rfl dX6_keyword_28
def f_X6_keyword (n : Nat) (v0 : Nat) (h : hp_H) : Option (Int32) := (hp_ck h 6 v0).bind fun _ => f_X6_keyword_0 n v0 h
theorem c_X6_keyword (G : hp_G) (n : Nat) (v0 : Nat) (h : hp_H) (sz sl : Nat) (res : Int32) (hm : f_X6_keyword n v0 h = some res) : hp_C G m_X6_keyword yX6_keyword [.ref v0] h sz sl (some (.int res), h, sz, sl) := by
  unfold f_X6_keyword at hm
  obtain ⟨_, _, hm⟩ := hp_bd hm
  exact hp_C_of (by decide) rfl rfl (Nat.le_of_ble_eq_true rfl) (Nat.le_refl _) (Nat.le_refl _) (hv_sub [0] rfl (q_X6_keyword_0 G n v0 h sz sl res hm))
theorem k_X6_keyword {n : Nat} {v0 : Nat} {h : hp_H} {res : Int32} (hm : f_X6_keyword n v0 h = some res) : ∃ V, h v0 = some (.inr (.inr (6, V))) := by
  unfold f_X6_keyword at hm
  obtain ⟨_, hu, _⟩ := hp_bd hm
  exact hp_ck_spec hu
abbrev m_X6_word : hp_M := (RX6, cX6_word, 2, some .int, 1, 20, "word")
theorem Z_X6_word : hp_Y yX6_word m_X6_word 0 := Y_X6_word
def f_X6_word_5 (n : Nat) (v0 : Nat) (v1 : Int32) (h : hp_H) : Option ((Int32) ⊕ ((Unit) ⊕ (Int32))) :=
  (hp_fI h 6 v0 1).bind fun x1 =>
  if x1 ≤ v1 then
    some (.inr (.inr (0 : Int32)))
  else
    (hp_fR h 6 v0 3).bind fun x2 =>
    (hp_aI h 1 x2 v1).bind fun x3 =>
    if x3 = (36 : Int32) then
      some (.inr (.inl ()))
    else
      some (.inl (v1 + (1 : Int32)))
set_option maxHeartbeats 1000000 in
set_option maxRecDepth 4000 in
theorem q_X6_word_5 (G : hp_G) (n : Nat) (v0 : Nat) (v1 : Int32) (h : hp_H) (sz sl : Nat) (o : hp_O) (ho : sz ≤ o.2.2.1 ∧ sl ≤ o.2.2.2) (res : (Int32) ⊕ ((Unit) ⊕ (Int32))) (hm : f_X6_word_5 n v0 v1 h = some res) (kI : ∀ y : Int32, res = .inl y → hp_V G m_X6_word 5 [(0, .ref v0), (1, .int y)] [] h sz sl o) (kX0 : ∀ y : Unit, res = .inr (.inl y) → hp_V G m_X6_word 24 [(0, .ref v0)] [] h sz sl o) (kR : ∀ y : Int32, res = .inr (.inr y) → o = (some (.int y), h, sz, sl)) : hp_V G m_X6_word 5 [(0, .ref v0), (1, .int v1)] [] h sz sl o := by
  unfold f_X6_word_5 at hm
  refine hv_iload_n 1 dX6_word_5 rfl rfl ?_
  refine hv_aload_n 0 dX6_word_6 rfl rfl ?_
  obtain ⟨x1, hx1, hm⟩ := hp_bd hm
  refine hv_get lk_f_X6_22 dX6_word_7 (hp_fI_spec hx1) ?_
  refine hv_icmp_ge (tgt := 35) dX6_word_10 (by decide) (fun c5 => ?_) (fun c5 => ?_)
  · rw [if_pos c5] at hm
    refine hv_iconst (0 : Int32) dX6_word_35 (by decide) ?_
    obtain rfl := kR _ (Option.some.inj hm).symm
    exact hv_iret rfl dX6_word_36
  · rw [if_neg c5] at hm
    refine hv_aload_n 0 dX6_word_13 rfl rfl ?_
    obtain ⟨x2, hx2, hm⟩ := hp_bd hm
    refine hv_get lk_f_X6_9 dX6_word_14 (hp_fR_spec hx2) ?_
    refine hv_iload_n 1 dX6_word_17 rfl rfl ?_
    obtain ⟨x3, hx3, hm⟩ := hp_bd hm
    refine hv_bald dX6_word_18 hx3 ?_
    refine hv_bipush (36 : Int32) dX6_word_19 (by decide) ?_
    refine hv_icmp_ne (tgt := 29) dX6_word_21 (by decide) (fun c4 => ?_) (fun c4 => ?_)
    · rw [if_neg c4] at hm
      refine hv_iinc (v1 + (1 : Int32)) 1 [(1, .int (v1 + (1 : Int32))), (0, .ref v0)] dX6_word_29 rfl rfl (by decide) rfl ?_
      refine hv_goto (tgt := 5) dX6_word_32 (by decide) ?_
      exact hv_sub [1, 0] rfl (kI (v1 + (1 : Int32)) (Option.some.inj hm).symm)
    · rw [if_pos c4] at hm
      exact hv_sub [0] rfl (kX0 () (Option.some.inj hm).symm)
def fL_X6_word_5 (n : Nat) (v0 : Nat) (h : hp_H) (s : Int32) : Option ((Int32) ⊕ ((Unit) ⊕ (Int32))) := f_X6_word_5 n v0 s h
theorem l_X6_word_5 (G : hp_G) (n : Nat) (v0 : Nat) (h : hp_H) (sz sl : Nat) (o : hp_O) (ho : sz ≤ o.2.2.1 ∧ sl ≤ o.2.2.2) : ∀ (k : Nat) (s : Int32) (x : (Unit) ⊕ (Int32)), hp_lp (fL_X6_word_5 n v0 h) k s = some x → (∀ y : Unit, x = (.inl y) → hp_V G m_X6_word 24 [(0, .ref v0)] [] h sz sl o) → (∀ y : Int32, x = (.inr y) → o = (some (.int y), h, sz, sl)) → hp_V G m_X6_word 5 [(0, .ref v0), (1, .int s)] [] h sz sl o := by
  intro k
  induction k with
  | zero => intro s x hx; exact (hp_lp_0 hx).elim
  | succ k ih =>
    intro s x hx k0 k1
    obtain ⟨r, hr, hc⟩ := hp_lp_1 hx
    refine q_X6_word_5 G n v0 s h sz sl o ho r hr (fun s2 e => ?_) (fun y e => ?_) (fun y e => ?_)
    · rcases hc with ⟨s3, e3, hx3⟩ | e3
      · have e4 := Sum.inl.inj (e.symm.trans e3)
        subst e4
        exact ih _ _ hx3 k0 k1
      · cases (e.symm.trans e3)
    · rcases hc with ⟨s3, e3, hx3⟩ | e3
      · cases (e.symm.trans e3)
      · exact k0 y (Sum.inr.inj (e3.symm.trans e))
    · rcases hc with ⟨s3, e3, hx3⟩ | e3
      · cases (e.symm.trans e3)
      · exact k1 y (Sum.inr.inj (e3.symm.trans e))
def f_X6_word_0 (n : Nat) (v0 : Nat) (h : hp_H) : Option (Int32) :=
  (hp_fI h 6 v0 0).bind fun x1 =>
  (hp_lp (fL_X6_word_5 n v0 h) n x1).bind fun x2 =>
  Sum.elim (fun y3 =>
    (f_X6_keyword n v0 h).bind fun x5 =>
    some x5) (fun y4 =>
    some y4) x2
set_option maxHeartbeats 1000000 in
set_option maxRecDepth 4000 in
theorem q_X6_word_0 (G : hp_G) (n : Nat) (v0 : Nat) (h : hp_H) (sz sl : Nat) (res : Int32) (hm : f_X6_word_0 n v0 h = some res) : hp_V G m_X6_word 0 [(0, .ref v0)] [] h sz sl (some (.int res), h, sz, sl) := by
  have ho : sz ≤ sz ∧ sl ≤ sl := ⟨Nat.le_refl _, Nat.le_refl _⟩
  unfold f_X6_word_0 at hm
  refine hv_aload_n 0 dX6_word_0 rfl rfl ?_
  obtain ⟨x1, hx1, hm⟩ := hp_bd hm
  refine hv_get lk_f_X6_19 dX6_word_1 (hp_fI_spec hx1) ?_
  refine hv_istore_n [(1, .int x1), (0, .ref v0)] dX6_word_4 rfl (by decide) rfl ?_
  obtain ⟨x2, hx2, hm⟩ := hp_bd hm
  refine hv_sub [1, 0] rfl (l_X6_word_5 G n v0 h sz sl _ ho n _ _ hx2 (fun y3 ey3 => ?_) (fun y4 ey4 => ?_))
  · skip
    subst ey3
    simp only [Sum.elim_inl, Sum.elim_inr] at hm
    refine hv_aload_n 0 dX6_word_24 rfl rfl ?_
    obtain ⟨x5, hx5, hm⟩ := hp_bd hm
    obtain ⟨Vx5, hVx5⟩ := k_X6_keyword hx5
    refine hv_callV (As := []) (rest := []) Z_X6_keyword I_X6_keyword lk_m_X6_45 rfl hVx5 (c_X6_keyword G n v0 h sz sl _ hx5) rfl (Nat.le_of_ble_eq_true rfl) ⟨Nat.le_of_ble_eq_true rfl, Nat.le_of_ble_eq_true rfl⟩ ho.1 ho.2 rfl dX6_word_25 ?_
    refine hv_as [.int x5] h rfl rfl ?_
    obtain rfl := Option.some.inj hm
    exact hv_iret rfl dX6_word_28
  · skip
    subst ey4
    simp only [Sum.elim_inl, Sum.elim_inr] at hm
    obtain rfl := Option.some.inj hm
    rfl
def f_X6_word (n : Nat) (v0 : Nat) (h : hp_H) : Option (Int32) := (hp_ck h 6 v0).bind fun _ => f_X6_word_0 n v0 h
theorem c_X6_word (G : hp_G) (n : Nat) (v0 : Nat) (h : hp_H) (sz sl : Nat) (res : Int32) (hm : f_X6_word n v0 h = some res) : hp_C G m_X6_word yX6_word [.ref v0] h sz sl (some (.int res), h, sz, sl) := by
  unfold f_X6_word at hm
  obtain ⟨_, _, hm⟩ := hp_bd hm
  exact hp_C_of (by decide) rfl rfl (Nat.le_of_ble_eq_true rfl) (Nat.le_refl _) (Nat.le_refl _) (hv_sub [0] rfl (q_X6_word_0 G n v0 h sz sl res hm))
theorem k_X6_word {n : Nat} {v0 : Nat} {h : hp_H} {res : Int32} (hm : f_X6_word n v0 h = some res) : ∃ V, h v0 = some (.inr (.inr (6, V))) := by
  unfold f_X6_word at hm
  obtain ⟨_, hu, _⟩ := hp_bd hm
  exact hp_ck_spec hu
abbrev m_X6_isLabel : hp_M := (RX6, cX6_isLabel, 5, some .boolean, 0, 0, "isLabel")
theorem Z_X6_isLabel : hp_Y yX6_isLabel m_X6_isLabel 0 := Y_X6_isLabel
def f_X6_isLabel_98 (n : Nat) (v0 : Nat) (v1 : Int32) (h : hp_H) : Option ((Int32) ⊕ (Int32)) :=
  some (.inl (v1 + (1 : Int32)))
set_option maxHeartbeats 1000000 in
set_option maxRecDepth 4000 in
theorem q_X6_isLabel_98 (G : hp_G) (n : Nat) (v0 : Nat) (v1 : Int32) (h : hp_H) (sz sl : Nat) (o : hp_O) (ho : sz ≤ o.2.2.1 ∧ sl ≤ o.2.2.2) (res : (Int32) ⊕ (Int32)) (hm : f_X6_isLabel_98 n v0 v1 h = some res) (kI : ∀ y : Int32, res = .inl y → hp_V G m_X6_isLabel 5 [(0, .ref v0), (1, .int y)] [] h sz sl o) (kR : ∀ y : Int32, res = .inr y → o = (some (.int y), h, sz, sl)) : hp_V G m_X6_isLabel 98 [(0, .ref v0), (1, .int v1)] [] h sz sl o := by
  unfold f_X6_isLabel_98 at hm
  refine hv_iinc (v1 + (1 : Int32)) 1 [(1, .int (v1 + (1 : Int32))), (0, .ref v0)] dX6_isLabel_98 rfl rfl (by decide) rfl ?_
  refine hv_goto (tgt := 5) dX6_isLabel_101 (by decide) ?_
  exact hv_sub [1, 0] rfl (kI (v1 + (1 : Int32)) (Option.some.inj hm).symm)
def f_X6_isLabel_67 (n : Nat) (v0 : Nat) (v1 : Int32) (v2 : Int32) (v3 : Int32) (s0 : Int32) (h : hp_H) : Option ((Int32) ⊕ (Int32)) :=
  if v3 = 0 then
    if s0 = 0 then
      if v2 = (46 : Int32) then
        f_X6_isLabel_98 n v0 v1 h
      else
        if v2 = (45 : Int32) then
          f_X6_isLabel_98 n v0 v1 h
        else
          if v2 = (95 : Int32) then
            f_X6_isLabel_98 n v0 v1 h
          else
            some (.inr (0 : Int32))
    else
      f_X6_isLabel_98 n v0 v1 h
  else
    f_X6_isLabel_98 n v0 v1 h
set_option maxHeartbeats 1000000 in
set_option maxRecDepth 4000 in
theorem q_X6_isLabel_67 (G : hp_G) (n : Nat) (v0 : Nat) (v1 : Int32) (v2 : Int32) (v3 : Int32) (s0 : Int32) (h : hp_H) (sz sl : Nat) (o : hp_O) (ho : sz ≤ o.2.2.1 ∧ sl ≤ o.2.2.2) (res : (Int32) ⊕ (Int32)) (hm : f_X6_isLabel_67 n v0 v1 v2 v3 s0 h = some res) (kI : ∀ y : Int32, res = .inl y → hp_V G m_X6_isLabel 5 [(0, .ref v0), (1, .int y)] [] h sz sl o) (kR : ∀ y : Int32, res = .inr y → o = (some (.int y), h, sz, sl)) : hp_V G m_X6_isLabel 67 [(0, .ref v0), (1, .int v1), (2, .int v2), (3, .int v3)] [.int s0] h sz sl o := by
  unfold f_X6_isLabel_67 at hm
  refine hv_istore [(4, .int s0), (0, .ref v0), (1, .int v1), (2, .int v2), (3, .int v3)] dX6_isLabel_67 (by decide) rfl ?_
  refine hv_iload_n 4 dX6_isLabel_69 rfl rfl ?_
  refine hv_if_ne (tgt := 98) dX6_isLabel_70 (by decide) (fun c5 => ?_) (fun c5 => ?_)
  · rw [if_neg c5] at hm
    exact hv_sub [1, 2] rfl (q_X6_isLabel_98 G n v0 v1 h sz sl o ho _ hm kI kR)
  · rw [if_pos c5] at hm
    refine hv_iload 0 dX6_isLabel_73 rfl ?_
    refine hv_if_ne (tgt := 98) dX6_isLabel_75 (by decide) (fun c4 => ?_) (fun c4 => ?_)
    · rw [if_neg c4] at hm
      exact hv_sub [1, 2] rfl (q_X6_isLabel_98 G n v0 v1 h sz sl o ho _ hm kI kR)
    · rw [if_pos c4] at hm
      refine hv_iload_n 3 dX6_isLabel_78 rfl rfl ?_
      refine hv_bipush (46 : Int32) dX6_isLabel_79 (by decide) ?_
      refine hv_icmp_eq (tgt := 98) dX6_isLabel_81 (by decide) (fun c3 => ?_) (fun c3 => ?_)
      · rw [if_pos c3] at hm
        exact hv_sub [1, 2] rfl (q_X6_isLabel_98 G n v0 v1 h sz sl o ho _ hm kI kR)
      · rw [if_neg c3] at hm
        refine hv_iload_n 3 dX6_isLabel_84 rfl rfl ?_
        refine hv_bipush (45 : Int32) dX6_isLabel_85 (by decide) ?_
        refine hv_icmp_eq (tgt := 98) dX6_isLabel_87 (by decide) (fun c2 => ?_) (fun c2 => ?_)
        · rw [if_pos c2] at hm
          exact hv_sub [1, 2] rfl (q_X6_isLabel_98 G n v0 v1 h sz sl o ho _ hm kI kR)
        · rw [if_neg c2] at hm
          refine hv_iload_n 3 dX6_isLabel_90 rfl rfl ?_
          refine hv_bipush (95 : Int32) dX6_isLabel_91 (by decide) ?_
          refine hv_icmp_eq (tgt := 98) dX6_isLabel_93 (by decide) (fun c1 => ?_) (fun c1 => ?_)
          · rw [if_pos c1] at hm
            exact hv_sub [1, 2] rfl (q_X6_isLabel_98 G n v0 v1 h sz sl o ho _ hm kI kR)
          · rw [if_neg c1] at hm
            refine hv_iconst (0 : Int32) dX6_isLabel_96 (by decide) ?_
            obtain rfl := kR _ (Option.some.inj hm).symm
            exact hv_zret rfl (by decide) dX6_isLabel_97
def f_X6_isLabel_66 (n : Nat) (v0 : Nat) (v1 : Int32) (v2 : Int32) (v3 : Int32) (h : hp_H) : Option ((Int32) ⊕ (Int32)) :=
  f_X6_isLabel_67 n v0 v1 v2 v3 (0 : Int32) h
set_option maxHeartbeats 1000000 in
set_option maxRecDepth 4000 in
theorem q_X6_isLabel_66 (G : hp_G) (n : Nat) (v0 : Nat) (v1 : Int32) (v2 : Int32) (v3 : Int32) (h : hp_H) (sz sl : Nat) (o : hp_O) (ho : sz ≤ o.2.2.1 ∧ sl ≤ o.2.2.2) (res : (Int32) ⊕ (Int32)) (hm : f_X6_isLabel_66 n v0 v1 v2 v3 h = some res) (kI : ∀ y : Int32, res = .inl y → hp_V G m_X6_isLabel 5 [(0, .ref v0), (1, .int y)] [] h sz sl o) (kR : ∀ y : Int32, res = .inr y → o = (some (.int y), h, sz, sl)) : hp_V G m_X6_isLabel 66 [(0, .ref v0), (1, .int v1), (2, .int v2), (3, .int v3)] [] h sz sl o := by
  unfold f_X6_isLabel_66 at hm
  refine hv_iconst (0 : Int32) dX6_isLabel_66 (by decide) ?_
  exact hv_sub [0, 1, 2, 3] rfl (q_X6_isLabel_67 G n v0 v1 v2 v3 (0 : Int32) h sz sl o ho _ hm kI kR)
def f_X6_isLabel_49 (n : Nat) (v0 : Nat) (v1 : Int32) (v2 : Int32) (s0 : Int32) (h : hp_H) : Option ((Int32) ⊕ (Int32)) :=
  if v2 < (48 : Int32) then
    f_X6_isLabel_66 n v0 v1 v2 s0 h
  else
    if (57 : Int32) < v2 then
      f_X6_isLabel_66 n v0 v1 v2 s0 h
    else
      f_X6_isLabel_67 n v0 v1 v2 s0 (1 : Int32) h
set_option maxHeartbeats 1000000 in
set_option maxRecDepth 4000 in
theorem q_X6_isLabel_49 (G : hp_G) (n : Nat) (v0 : Nat) (v1 : Int32) (v2 : Int32) (s0 : Int32) (h : hp_H) (sz sl : Nat) (o : hp_O) (ho : sz ≤ o.2.2.1 ∧ sl ≤ o.2.2.2) (res : (Int32) ⊕ (Int32)) (hm : f_X6_isLabel_49 n v0 v1 v2 s0 h = some res) (kI : ∀ y : Int32, res = .inl y → hp_V G m_X6_isLabel 5 [(0, .ref v0), (1, .int y)] [] h sz sl o) (kR : ∀ y : Int32, res = .inr y → o = (some (.int y), h, sz, sl)) : hp_V G m_X6_isLabel 49 [(0, .ref v0), (1, .int v1), (2, .int v2)] [.int s0] h sz sl o := by
  unfold f_X6_isLabel_49 at hm
  refine hv_istore_n [(3, .int s0), (0, .ref v0), (1, .int v1), (2, .int v2)] dX6_isLabel_49 rfl (by decide) rfl ?_
  refine hv_iload_n 3 dX6_isLabel_50 rfl rfl ?_
  refine hv_bipush (48 : Int32) dX6_isLabel_51 (by decide) ?_
  refine hv_icmp_lt (tgt := 66) dX6_isLabel_53 (by decide) (fun c2 => ?_) (fun c2 => ?_)
  · rw [if_pos c2] at hm
    exact hv_sub [1, 2, 3, 0] rfl (q_X6_isLabel_66 G n v0 v1 v2 s0 h sz sl o ho _ hm kI kR)
  · rw [if_neg c2] at hm
    refine hv_iload_n 3 dX6_isLabel_56 rfl rfl ?_
    refine hv_bipush (57 : Int32) dX6_isLabel_57 (by decide) ?_
    refine hv_icmp_gt (tgt := 66) dX6_isLabel_59 (by decide) (fun c1 => ?_) (fun c1 => ?_)
    · rw [if_pos c1] at hm
      exact hv_sub [1, 2, 3, 0] rfl (q_X6_isLabel_66 G n v0 v1 v2 s0 h sz sl o ho _ hm kI kR)
    · rw [if_neg c1] at hm
      refine hv_iconst (1 : Int32) dX6_isLabel_62 (by decide) ?_
      refine hv_goto (tgt := 67) dX6_isLabel_63 (by decide) ?_
      exact hv_sub [1, 2, 3, 0] rfl (q_X6_isLabel_67 G n v0 v1 v2 s0 (1 : Int32) h sz sl o ho _ hm kI kR)
def f_X6_isLabel_48 (n : Nat) (v0 : Nat) (v1 : Int32) (v2 : Int32) (h : hp_H) : Option ((Int32) ⊕ (Int32)) :=
  f_X6_isLabel_49 n v0 v1 v2 (0 : Int32) h
set_option maxHeartbeats 1000000 in
set_option maxRecDepth 4000 in
theorem q_X6_isLabel_48 (G : hp_G) (n : Nat) (v0 : Nat) (v1 : Int32) (v2 : Int32) (h : hp_H) (sz sl : Nat) (o : hp_O) (ho : sz ≤ o.2.2.1 ∧ sl ≤ o.2.2.2) (res : (Int32) ⊕ (Int32)) (hm : f_X6_isLabel_48 n v0 v1 v2 h = some res) (kI : ∀ y : Int32, res = .inl y → hp_V G m_X6_isLabel 5 [(0, .ref v0), (1, .int y)] [] h sz sl o) (kR : ∀ y : Int32, res = .inr y → o = (some (.int y), h, sz, sl)) : hp_V G m_X6_isLabel 48 [(0, .ref v0), (1, .int v1), (2, .int v2)] [] h sz sl o := by
  unfold f_X6_isLabel_48 at hm
  refine hv_iconst (0 : Int32) dX6_isLabel_48 (by decide) ?_
  exact hv_sub [0, 1, 2] rfl (q_X6_isLabel_49 G n v0 v1 v2 (0 : Int32) h sz sl o ho _ hm kI kR)
def f_X6_isLabel_44 (n : Nat) (v0 : Nat) (v1 : Int32) (v2 : Int32) (h : hp_H) : Option ((Int32) ⊕ (Int32)) :=
  f_X6_isLabel_49 n v0 v1 v2 (1 : Int32) h
set_option maxHeartbeats 1000000 in
set_option maxRecDepth 4000 in
theorem q_X6_isLabel_44 (G : hp_G) (n : Nat) (v0 : Nat) (v1 : Int32) (v2 : Int32) (h : hp_H) (sz sl : Nat) (o : hp_O) (ho : sz ≤ o.2.2.1 ∧ sl ≤ o.2.2.2) (res : (Int32) ⊕ (Int32)) (hm : f_X6_isLabel_44 n v0 v1 v2 h = some res) (kI : ∀ y : Int32, res = .inl y → hp_V G m_X6_isLabel 5 [(0, .ref v0), (1, .int y)] [] h sz sl o) (kR : ∀ y : Int32, res = .inr y → o = (some (.int y), h, sz, sl)) : hp_V G m_X6_isLabel 44 [(0, .ref v0), (1, .int v1), (2, .int v2)] [] h sz sl o := by
  unfold f_X6_isLabel_44 at hm
  refine hv_iconst (1 : Int32) dX6_isLabel_44 (by decide) ?_
  refine hv_goto (tgt := 49) dX6_isLabel_45 (by decide) ?_
  exact hv_sub [0, 1, 2] rfl (q_X6_isLabel_49 G n v0 v1 v2 (1 : Int32) h sz sl o ho _ hm kI kR)
def f_X6_isLabel_32 (n : Nat) (v0 : Nat) (v1 : Int32) (v2 : Int32) (h : hp_H) : Option ((Int32) ⊕ (Int32)) :=
  if v2 < (65 : Int32) then
    f_X6_isLabel_48 n v0 v1 v2 h
  else
    if (90 : Int32) < v2 then
      f_X6_isLabel_48 n v0 v1 v2 h
    else
      f_X6_isLabel_44 n v0 v1 v2 h
set_option maxHeartbeats 1000000 in
set_option maxRecDepth 4000 in
theorem q_X6_isLabel_32 (G : hp_G) (n : Nat) (v0 : Nat) (v1 : Int32) (v2 : Int32) (h : hp_H) (sz sl : Nat) (o : hp_O) (ho : sz ≤ o.2.2.1 ∧ sl ≤ o.2.2.2) (res : (Int32) ⊕ (Int32)) (hm : f_X6_isLabel_32 n v0 v1 v2 h = some res) (kI : ∀ y : Int32, res = .inl y → hp_V G m_X6_isLabel 5 [(0, .ref v0), (1, .int y)] [] h sz sl o) (kR : ∀ y : Int32, res = .inr y → o = (some (.int y), h, sz, sl)) : hp_V G m_X6_isLabel 32 [(0, .ref v0), (1, .int v1), (2, .int v2)] [] h sz sl o := by
  unfold f_X6_isLabel_32 at hm
  refine hv_iload_n 2 dX6_isLabel_32 rfl rfl ?_
  refine hv_bipush (65 : Int32) dX6_isLabel_33 (by decide) ?_
  refine hv_icmp_lt (tgt := 48) dX6_isLabel_35 (by decide) (fun c2 => ?_) (fun c2 => ?_)
  · rw [if_pos c2] at hm
    exact hv_sub [0, 1, 2] rfl (q_X6_isLabel_48 G n v0 v1 v2 h sz sl o ho _ hm kI kR)
  · rw [if_neg c2] at hm
    refine hv_iload_n 2 dX6_isLabel_38 rfl rfl ?_
    refine hv_bipush (90 : Int32) dX6_isLabel_39 (by decide) ?_
    refine hv_icmp_gt (tgt := 48) dX6_isLabel_41 (by decide) (fun c1 => ?_) (fun c1 => ?_)
    · rw [if_pos c1] at hm
      exact hv_sub [0, 1, 2] rfl (q_X6_isLabel_48 G n v0 v1 v2 h sz sl o ho _ hm kI kR)
    · rw [if_neg c1] at hm
      exact hv_sub [0, 1, 2] rfl (q_X6_isLabel_44 G n v0 v1 v2 h sz sl o ho _ hm kI kR)
def f_X6_isLabel_5 (n : Nat) (v0 : Nat) (v1 : Int32) (h : hp_H) : Option ((Int32) ⊕ (Int32)) :=
  (hp_fI h 6 v0 1).bind fun x1 =>
  if x1 ≤ v1 then
    some (.inr (1 : Int32))
  else
    (hp_fR h 6 v0 3).bind fun x2 =>
    (hp_aI h 1 x2 v1).bind fun x3 =>
    if x3 < (97 : Int32) then
      f_X6_isLabel_32 n v0 v1 x3 h
    else
      if x3 ≤ (122 : Int32) then
        f_X6_isLabel_44 n v0 v1 x3 h
      else
        f_X6_isLabel_32 n v0 v1 x3 h
set_option maxHeartbeats 1000000 in
set_option maxRecDepth 4000 in
theorem q_X6_isLabel_5 (G : hp_G) (n : Nat) (v0 : Nat) (v1 : Int32) (h : hp_H) (sz sl : Nat) (o : hp_O) (ho : sz ≤ o.2.2.1 ∧ sl ≤ o.2.2.2) (res : (Int32) ⊕ (Int32)) (hm : f_X6_isLabel_5 n v0 v1 h = some res) (kI : ∀ y : Int32, res = .inl y → hp_V G m_X6_isLabel 5 [(0, .ref v0), (1, .int y)] [] h sz sl o) (kR : ∀ y : Int32, res = .inr y → o = (some (.int y), h, sz, sl)) : hp_V G m_X6_isLabel 5 [(0, .ref v0), (1, .int v1)] [] h sz sl o := by
  unfold f_X6_isLabel_5 at hm
  refine hv_iload_n 1 dX6_isLabel_5 rfl rfl ?_
  refine hv_aload_n 0 dX6_isLabel_6 rfl rfl ?_
  obtain ⟨x1, hx1, hm⟩ := hp_bd hm
  refine hv_get lk_f_X6_22 dX6_isLabel_7 (hp_fI_spec hx1) ?_
  refine hv_icmp_ge (tgt := 104) dX6_isLabel_10 (by decide) (fun c6 => ?_) (fun c6 => ?_)
  · rw [if_pos c6] at hm
    refine hv_iconst (1 : Int32) dX6_isLabel_104 (by decide) ?_
    obtain rfl := kR _ (Option.some.inj hm).symm
    exact hv_zret rfl (by decide) dX6_isLabel_105
  · rw [if_neg c6] at hm
    refine hv_aload_n 0 dX6_isLabel_13 rfl rfl ?_
    obtain ⟨x2, hx2, hm⟩ := hp_bd hm
    refine hv_get lk_f_X6_9 dX6_isLabel_14 (hp_fR_spec hx2) ?_
    refine hv_iload_n 1 dX6_isLabel_17 rfl rfl ?_
    obtain ⟨x3, hx3, hm⟩ := hp_bd hm
    refine hv_bald dX6_isLabel_18 hx3 ?_
    refine hv_istore_n [(2, .int x3), (0, .ref v0), (1, .int v1)] dX6_isLabel_19 rfl (by decide) rfl ?_
    refine hv_iload_n 0 dX6_isLabel_20 rfl rfl ?_
    refine hv_bipush (97 : Int32) dX6_isLabel_21 (by decide) ?_
    refine hv_icmp_lt (tgt := 32) dX6_isLabel_23 (by decide) (fun c5 => ?_) (fun c5 => ?_)
    · rw [if_pos c5] at hm
      exact hv_sub [1, 2, 0] rfl (q_X6_isLabel_32 G n v0 v1 x3 h sz sl o ho _ hm kI kR)
    · rw [if_neg c5] at hm
      refine hv_iload_n 0 dX6_isLabel_26 rfl rfl ?_
      refine hv_bipush (122 : Int32) dX6_isLabel_27 (by decide) ?_
      refine hv_icmp_le (tgt := 44) dX6_isLabel_29 (by decide) (fun c4 => ?_) (fun c4 => ?_)
      · rw [if_pos c4] at hm
        exact hv_sub [1, 2, 0] rfl (q_X6_isLabel_44 G n v0 v1 x3 h sz sl o ho _ hm kI kR)
      · rw [if_neg c4] at hm
        exact hv_sub [1, 2, 0] rfl (q_X6_isLabel_32 G n v0 v1 x3 h sz sl o ho _ hm kI kR)
def fL_X6_isLabel_5 (n : Nat) (v0 : Nat) (h : hp_H) (s : Int32) : Option ((Int32) ⊕ (Int32)) := f_X6_isLabel_5 n v0 s h
theorem l_X6_isLabel_5 (G : hp_G) (n : Nat) (v0 : Nat) (h : hp_H) (sz sl : Nat) (o : hp_O) (ho : sz ≤ o.2.2.1 ∧ sl ≤ o.2.2.2) : ∀ (k : Nat) (s : Int32) (x : Int32), hp_lp (fL_X6_isLabel_5 n v0 h) k s = some x → (∀ y : Int32, x = y → o = (some (.int y), h, sz, sl)) → hp_V G m_X6_isLabel 5 [(0, .ref v0), (1, .int s)] [] h sz sl o := by
  intro k
  induction k with
  | zero => intro s x hx; exact (hp_lp_0 hx).elim
  | succ k ih =>
    intro s x hx k0
    obtain ⟨r, hr, hc⟩ := hp_lp_1 hx
    refine q_X6_isLabel_5 G n v0 s h sz sl o ho r hr (fun s2 e => ?_) (fun y e => ?_)
    · rcases hc with ⟨s3, e3, hx3⟩ | e3
      · have e4 := Sum.inl.inj (e.symm.trans e3)
        subst e4
        exact ih _ _ hx3 k0
      · cases (e.symm.trans e3)
    · rcases hc with ⟨s3, e3, hx3⟩ | e3
      · cases (e.symm.trans e3)
      · exact k0 y (Sum.inr.inj (e3.symm.trans e))
def f_X6_isLabel_0 (n : Nat) (v0 : Nat) (h : hp_H) : Option (Int32) :=
  (hp_fI h 6 v0 0).bind fun x1 =>
  (hp_lp (fL_X6_isLabel_5 n v0 h) n x1).bind fun x2 =>
  some x2
set_option maxHeartbeats 1000000 in
set_option maxRecDepth 4000 in
theorem q_X6_isLabel_0 (G : hp_G) (n : Nat) (v0 : Nat) (h : hp_H) (sz sl : Nat) (res : Int32) (hm : f_X6_isLabel_0 n v0 h = some res) : hp_V G m_X6_isLabel 0 [(0, .ref v0)] [] h sz sl (some (.int res), h, sz, sl) := by
  have ho : sz ≤ sz ∧ sl ≤ sl := ⟨Nat.le_refl _, Nat.le_refl _⟩
  unfold f_X6_isLabel_0 at hm
  refine hv_aload_n 0 dX6_isLabel_0 rfl rfl ?_
  obtain ⟨x1, hx1, hm⟩ := hp_bd hm
  refine hv_get lk_f_X6_19 dX6_isLabel_1 (hp_fI_spec hx1) ?_
  refine hv_istore_n [(1, .int x1), (0, .ref v0)] dX6_isLabel_4 rfl (by decide) rfl ?_
  obtain ⟨x2, hx2, hm⟩ := hp_bd hm
  refine hv_sub [1, 0] rfl (l_X6_isLabel_5 G n v0 h sz sl _ ho n _ _ hx2 (fun y3 ey3 => ?_))
  · skip
    subst ey3
    obtain rfl := Option.some.inj hm
    rfl
def f_X6_isLabel (n : Nat) (v0 : Nat) (h : hp_H) : Option (Int32) := (hp_ck h 6 v0).bind fun _ => f_X6_isLabel_0 n v0 h
theorem c_X6_isLabel (G : hp_G) (n : Nat) (v0 : Nat) (h : hp_H) (sz sl : Nat) (res : Int32) (hm : f_X6_isLabel n v0 h = some res) : hp_C G m_X6_isLabel yX6_isLabel [.ref v0] h sz sl (some (.int res), h, sz, sl) := by
  unfold f_X6_isLabel at hm
  obtain ⟨_, _, hm⟩ := hp_bd hm
  exact hp_C_of (by decide) rfl rfl (Nat.le_of_ble_eq_true rfl) (Nat.le_refl _) (Nat.le_refl _) (hv_sub [0] rfl (q_X6_isLabel_0 G n v0 h sz sl res hm))
theorem k_X6_isLabel {n : Nat} {v0 : Nat} {h : hp_H} {res : Int32} (hm : f_X6_isLabel n v0 h = some res) : ∃ V, h v0 = some (.inr (.inr (6, V))) := by
  unfold f_X6_isLabel at hm
  obtain ⟨_, hu, _⟩ := hp_bd hm
  exact hp_ck_spec hu
