abbrev m_X1_addPartner : hp_M := (RX1, cX1_addPartner, 3, none, 0, 0, "addPartner")
theorem Z_X1_addPartner : hp_Y yX1_addPartner m_X1_addPartner 2 := Y_X1_addPartner
def f_X1_addPartner_0 (n : Nat) (v0 : Nat) (v1 : Int32) (v2 : Int32) (h : hp_H) : Option (hp_H) :=
  (hp_fR h 1 v0 4).bind fun x1 =>
  (hp_aJ h x1 ((v1 * (5 : Int32)) + (v2 / (64 : Int32)))).bind fun x2 =>
  (hp_sJ h x1 ((v1 * (5 : Int32)) + (v2 / (64 : Int32))) (x2 ||| ((1 : Int64) <<< (Int32.toInt64 (v2 - v2 / (64 : Int32) * (64 : Int32)) &&& 63)))).bind fun h3 =>
  some h3
set_option maxHeartbeats 1000000 in
set_option maxRecDepth 4000 in
theorem q_X1_addPartner_0 (G : hp_G) (n : Nat) (v0 : Nat) (v1 : Int32) (v2 : Int32) (h : hp_H) (sz sl : Nat) (res : hp_H) (hm : f_X1_addPartner_0 n v0 v1 v2 h = some res) : hp_V G m_X1_addPartner 0 [(0, .ref v0), (1, .int v1), (2, .int v2)] [] h sz sl (none, res, sz, sl) := by
  have ho : sz ≤ sz ∧ sl ≤ sl := ⟨Nat.le_refl _, Nat.le_refl _⟩
  unfold f_X1_addPartner_0 at hm
  refine hv_aload_n 0 dX1_addPartner_0 rfl rfl ?_
  obtain ⟨x1, hx1, hm⟩ := hp_bd hm
  refine hv_get lk_f_X1_27 dX1_addPartner_1 (hp_fR_spec hx1) ?_
  refine hv_iload_n 1 dX1_addPartner_4 rfl rfl ?_
  refine hv_iconst (5 : Int32) dX1_addPartner_5 (by decide) ?_
  refine hv_imul dX1_addPartner_6 ?_
  refine hv_iload_n 2 dX1_addPartner_7 rfl rfl ?_
  refine hv_bipush (64 : Int32) dX1_addPartner_8 (by decide) ?_
  refine hv_idiv dX1_addPartner_10 (by decide) ?_
  refine hv_iadd dX1_addPartner_11 ?_
  refine hv_dup2_11 dX1_addPartner_12 rfl rfl ?_
  obtain ⟨x2, hx2, hm⟩ := hp_bd hm
  refine hv_lald dX1_addPartner_13 hx2 ?_
  refine hv_lconst (1 : Int64) dX1_addPartner_14 (by decide) ?_
  refine hv_iload_n 2 dX1_addPartner_15 rfl rfl ?_
  refine hv_bipush (64 : Int32) dX1_addPartner_16 (by decide) ?_
  refine hv_irem dX1_addPartner_18 (by decide) ?_
  refine hv_lshl dX1_addPartner_19 ?_
  refine hv_lor dX1_addPartner_20 ?_
  obtain ⟨h3, hh3, hm⟩ := hp_bd hm
  refine hv_last dX1_addPartner_21 hh3 ?_
  obtain rfl := Option.some.inj hm
  exact hv_vret rfl dX1_addPartner_22
def f_X1_addPartner (n : Nat) (v0 : Nat) (v1 : Int32) (v2 : Int32) (h : hp_H) : Option (hp_H) := (hp_ck h 1 v0).bind fun _ => f_X1_addPartner_0 n v0 v1 v2 h
theorem c_X1_addPartner (G : hp_G) (n : Nat) (v0 : Nat) (v1 : Int32) (v2 : Int32) (h : hp_H) (sz sl : Nat) (res : hp_H) (hm : f_X1_addPartner n v0 v1 v2 h = some res) : hp_C G m_X1_addPartner yX1_addPartner [.ref v0, .int v1, .int v2] h sz sl (none, res, sz, sl) := by
  unfold f_X1_addPartner at hm
  obtain ⟨_, _, hm⟩ := hp_bd hm
  exact hp_C_of (by decide) rfl rfl (Nat.le_of_ble_eq_true rfl) (Nat.le_refl _) (Nat.le_refl _) (hv_sub [0, 1, 2] rfl (q_X1_addPartner_0 G n v0 v1 v2 h sz sl res hm))
theorem k_X1_addPartner {n : Nat} {v0 : Nat} {v1 : Int32} {v2 : Int32} {h : hp_H} {res : hp_H} (hm : f_X1_addPartner n v0 v1 v2 h = some res) : ∃ V, h v0 = some (.inr (.inr (1, V))) := by
  unfold f_X1_addPartner at hm
  obtain ⟨_, hu, _⟩ := hp_bd hm
  exact hp_ck_spec hu
abbrev m_X1_notePartners : hp_M := (RX1, cX1_notePartners, 5, none, 1, 24, "notePartners")
theorem Z_X1_notePartners : hp_Y yX1_notePartners m_X1_notePartners 1 := Y_X1_notePartners
def f_X1_notePartners_22 (n : Nat) (v0 : Nat) (v1 : Int32) (v2 : Int32) (v3 : Int32) (h : hp_H) : Option ((Int32 × hp_H) ⊕ (hp_H)) :=
  if v2 ≤ v3 then
    some (.inr h)
  else
    (hp_fR h 1 v0 2).bind fun x1 =>
    (hp_fR h 0 x1 14).bind fun x2 =>
    (f_X5_get n x2 v1 v3 h).bind fun x3 =>
    (f_X1_addPartner n v0 (x3 / (300 : Int32)) (x3 - x3 / (300 : Int32) * (300 : Int32)) h).bind fun x4 =>
    (f_X1_addPartner n v0 (x3 - x3 / (300 : Int32) * (300 : Int32)) (x3 / (300 : Int32)) x4).bind fun x5 =>
    some (.inl ((v3 + (1 : Int32)), x5))
set_option maxHeartbeats 1000000 in
set_option maxRecDepth 4000 in
theorem q_X1_notePartners_22 (G : hp_G) (n : Nat) (v0 : Nat) (v1 : Int32) (v2 : Int32) (v3 : Int32) (h : hp_H) (sz sl : Nat) (o : hp_O) (ho : sz ≤ o.2.2.1 ∧ sl ≤ o.2.2.2) (res : (Int32 × hp_H) ⊕ (hp_H)) (hm : f_X1_notePartners_22 n v0 v1 v2 v3 h = some res) (kI : ∀ y : Int32 × hp_H, res = .inl y → hp_V G m_X1_notePartners 22 [(0, .ref v0), (1, .int v1), (2, .int v2), (3, .int y.1)] [] y.2 sz sl o) (kR : ∀ y : hp_H, res = .inr y → o = (none, y, sz, sl)) : hp_V G m_X1_notePartners 22 [(0, .ref v0), (1, .int v1), (2, .int v2), (3, .int v3)] [] h sz sl o := by
  unfold f_X1_notePartners_22 at hm
  refine hv_iload_n 3 dX1_notePartners_22 rfl rfl ?_
  refine hv_iload_n 2 dX1_notePartners_23 rfl rfl ?_
  refine hv_icmp_ge (tgt := 79) dX1_notePartners_24 (by decide) (fun c6 => ?_) (fun c6 => ?_)
  · rw [if_pos c6] at hm
    obtain rfl := kR _ (Option.some.inj hm).symm
    exact hv_vret rfl dX1_notePartners_79
  · rw [if_neg c6] at hm
    refine hv_aload_n 0 dX1_notePartners_27 rfl rfl ?_
    obtain ⟨x1, hx1, hm⟩ := hp_bd hm
    refine hv_get lk_f_X1_34 dX1_notePartners_28 (hp_fR_spec hx1) ?_
    obtain ⟨x2, hx2, hm⟩ := hp_bd hm
    refine hv_get lk_f_X1_104 dX1_notePartners_31 (hp_fR_spec hx2) ?_
    refine hv_iload_n 1 dX1_notePartners_34 rfl rfl ?_
    refine hv_iload_n 3 dX1_notePartners_35 rfl rfl ?_
    obtain ⟨x3, hx3, hm⟩ := hp_bd hm
    obtain ⟨Vx3, hVx3⟩ := k_X5_get hx3
    refine hv_callV (As := [.int v1, .int v3]) (rest := []) Z_X5_get I_X5_get lk_m_X1_110 rfl hVx3 (c_X5_get G n x2 v1 v3 h sz sl _ hx3) rfl (Nat.le_of_ble_eq_true rfl) ⟨Nat.le_of_ble_eq_true rfl, Nat.le_of_ble_eq_true rfl⟩ ho.1 ho.2 rfl dX1_notePartners_36 ?_
    refine hv_as [.int x3] h rfl rfl ?_
    refine hv_istore [(4, .int x3), (0, .ref v0), (1, .int v1), (2, .int v2), (3, .int v3)] dX1_notePartners_39 (by decide) rfl ?_
    refine hv_aload_n 1 dX1_notePartners_41 rfl rfl ?_
    refine hv_iload 0 dX1_notePartners_42 rfl ?_
    refine hv_sipush (300 : Int32) dX1_notePartners_44 (by decide) ?_
    refine hv_idiv dX1_notePartners_47 (by decide) ?_
    refine hv_iload 0 dX1_notePartners_48 rfl ?_
    refine hv_sipush (300 : Int32) dX1_notePartners_50 (by decide) ?_
    refine hv_irem dX1_notePartners_53 (by decide) ?_
    obtain ⟨x4, hx4, hm⟩ := hp_bd hm
    obtain ⟨Vx4, hVx4⟩ := k_X1_addPartner hx4
    refine hv_callV (As := [.int (x3 / (300 : Int32)), .int (x3 - x3 / (300 : Int32) * (300 : Int32))]) (rest := []) Z_X1_addPartner I_X1_addPartner lk_m_X1_113 rfl hVx4 (c_X1_addPartner G n v0 (x3 / (300 : Int32)) (x3 - x3 / (300 : Int32) * (300 : Int32)) h sz sl _ hx4) rfl (Nat.le_of_ble_eq_true rfl) ⟨Nat.le_of_ble_eq_true rfl, Nat.le_of_ble_eq_true rfl⟩ ho.1 ho.2 rfl dX1_notePartners_54 ?_
    refine hv_as [] x4 rfl rfl ?_
    refine hv_aload_n 1 dX1_notePartners_57 rfl rfl ?_
    refine hv_iload 0 dX1_notePartners_58 rfl ?_
    refine hv_sipush (300 : Int32) dX1_notePartners_60 (by decide) ?_
    refine hv_irem dX1_notePartners_63 (by decide) ?_
    refine hv_iload 0 dX1_notePartners_64 rfl ?_
    refine hv_sipush (300 : Int32) dX1_notePartners_66 (by decide) ?_
    refine hv_idiv dX1_notePartners_69 (by decide) ?_
    obtain ⟨x5, hx5, hm⟩ := hp_bd hm
    obtain ⟨Vx5, hVx5⟩ := k_X1_addPartner hx5
    refine hv_callV (As := [.int (x3 - x3 / (300 : Int32) * (300 : Int32)), .int (x3 / (300 : Int32))]) (rest := []) Z_X1_addPartner I_X1_addPartner lk_m_X1_113 rfl hVx5 (c_X1_addPartner G n v0 (x3 - x3 / (300 : Int32) * (300 : Int32)) (x3 / (300 : Int32)) x4 sz sl _ hx5) rfl (Nat.le_of_ble_eq_true rfl) ⟨Nat.le_of_ble_eq_true rfl, Nat.le_of_ble_eq_true rfl⟩ ho.1 ho.2 rfl dX1_notePartners_70 ?_
    refine hv_as [] x5 rfl rfl ?_
    refine hv_iinc (v3 + (1 : Int32)) 4 [(3, .int (v3 + (1 : Int32))), (4, .int x3), (0, .ref v0), (1, .int v1), (2, .int v2)] dX1_notePartners_73 rfl rfl (by decide) rfl ?_
    refine hv_goto (tgt := 22) dX1_notePartners_76 (by decide) ?_
    exact hv_sub [2, 3, 4, 0] rfl (kI ((v3 + (1 : Int32)), x5) (Option.some.inj hm).symm)
def fL_X1_notePartners_22 (n : Nat) (v0 : Nat) (v1 : Int32) (v2 : Int32) (s : Int32 × hp_H) : Option ((Int32 × hp_H) ⊕ (hp_H)) := f_X1_notePartners_22 n v0 v1 v2 s.1 s.2
theorem l_X1_notePartners_22 (G : hp_G) (n : Nat) (v0 : Nat) (v1 : Int32) (v2 : Int32) (sz sl : Nat) (o : hp_O) (ho : sz ≤ o.2.2.1 ∧ sl ≤ o.2.2.2) : ∀ (k : Nat) (s : Int32 × hp_H) (x : hp_H), hp_lp (fL_X1_notePartners_22 n v0 v1 v2) k s = some x → (∀ y : hp_H, x = y → o = (none, y, sz, sl)) → hp_V G m_X1_notePartners 22 [(0, .ref v0), (1, .int v1), (2, .int v2), (3, .int s.1)] [] s.2 sz sl o := by
  intro k
  induction k with
  | zero => intro s x hx; exact (hp_lp_0 hx).elim
  | succ k ih =>
    intro s x hx k0
    obtain ⟨r, hr, hc⟩ := hp_lp_1 hx
    refine q_X1_notePartners_22 G n v0 v1 v2 s.1 s.2 sz sl o ho r hr (fun s2 e => ?_) (fun y e => ?_)
    · rcases hc with ⟨s3, e3, hx3⟩ | e3
      · have e4 := Sum.inl.inj (e.symm.trans e3)
        subst e4
        exact ih _ _ hx3 k0
      · cases (e.symm.trans e3)
    · rcases hc with ⟨s3, e3, hx3⟩ | e3
      · cases (e.symm.trans e3)
      · exact k0 y (Sum.inr.inj (e3.symm.trans e))
def f_X1_notePartners_0 (n : Nat) (v0 : Nat) (v1 : Int32) (h : hp_H) : Option (hp_H) :=
  (hp_fR h 1 v0 4).bind fun x1 =>
  (f_J7_fill_d0a16 n x1 (0 : Int64) h).bind fun x2 =>
  (hp_fR x2 1 v0 2).bind fun x3 =>
  (hp_fR x2 0 x3 14).bind fun x4 =>
  (f_X5_size n x4 v1 x2).bind fun x5 =>
  (hp_lp (fL_X1_notePartners_22 n v0 v1 x5) n ((0 : Int32), x2)).bind fun x6 =>
  some x6
set_option maxHeartbeats 1000000 in
set_option maxRecDepth 4000 in
theorem q_X1_notePartners_0 (G : hp_G) (n : Nat) (v0 : Nat) (v1 : Int32) (h : hp_H) (sz sl : Nat) (res : hp_H) (hm : f_X1_notePartners_0 n v0 v1 h = some res) : hp_V G m_X1_notePartners 0 [(0, .ref v0), (1, .int v1)] [] h sz sl (none, res, sz, sl) := by
  have ho : sz ≤ sz ∧ sl ≤ sl := ⟨Nat.le_refl _, Nat.le_refl _⟩
  unfold f_X1_notePartners_0 at hm
  refine hv_aload_n 0 dX1_notePartners_0 rfl rfl ?_
  obtain ⟨x1, hx1, hm⟩ := hp_bd hm
  refine hv_get lk_f_X1_27 dX1_notePartners_1 (hp_fR_spec hx1) ?_
  refine hv_lconst (0 : Int64) dX1_notePartners_4 (by decide) ?_
  obtain ⟨x2, hx2, hm⟩ := hp_bd hm
  refine hv_callS (As := [.ref x1, .long (0 : Int64)]) (rest := []) Z_J7_fill_d0a16 I_J7_fill_d0a16 lk_m_X1_98 (c_J7_fill_d0a16 G n x1 (0 : Int64) h sz sl _ hx2) rfl (Nat.le_of_ble_eq_true rfl) ⟨Nat.le_of_ble_eq_true rfl, Nat.le_of_ble_eq_true rfl⟩ ho.1 ho.2 rfl dX1_notePartners_5 ?_
  refine hv_as [] x2 rfl rfl ?_
  refine hv_aload_n 0 dX1_notePartners_8 rfl rfl ?_
  obtain ⟨x3, hx3, hm⟩ := hp_bd hm
  refine hv_get lk_f_X1_34 dX1_notePartners_9 (hp_fR_spec hx3) ?_
  obtain ⟨x4, hx4, hm⟩ := hp_bd hm
  refine hv_get lk_f_X1_104 dX1_notePartners_12 (hp_fR_spec hx4) ?_
  refine hv_iload_n 1 dX1_notePartners_15 rfl rfl ?_
  obtain ⟨x5, hx5, hm⟩ := hp_bd hm
  obtain ⟨Vx5, hVx5⟩ := k_X5_size hx5
  refine hv_callV (As := [.int v1]) (rest := []) Z_X5_size I_X5_size lk_m_X1_107 rfl hVx5 (c_X5_size G n x4 v1 x2 sz sl _ hx5) rfl (Nat.le_of_ble_eq_true rfl) ⟨Nat.le_of_ble_eq_true rfl, Nat.le_of_ble_eq_true rfl⟩ ho.1 ho.2 rfl dX1_notePartners_16 ?_
  refine hv_as [.int x5] x2 rfl rfl ?_
  refine hv_istore_n [(2, .int x5), (0, .ref v0), (1, .int v1)] dX1_notePartners_19 rfl (by decide) rfl ?_
  refine hv_iconst (0 : Int32) dX1_notePartners_20 (by decide) ?_
  refine hv_istore_n [(3, .int (0 : Int32)), (2, .int x5), (0, .ref v0), (1, .int v1)] dX1_notePartners_21 rfl (by decide) rfl ?_
  obtain ⟨x6, hx6, hm⟩ := hp_bd hm
  refine hv_sub [2, 3, 1, 0] rfl (l_X1_notePartners_22 G n v0 v1 x5 sz sl _ ho n _ _ hx6 (fun y7 ey7 => ?_))
  · subst ey7
    obtain rfl := Option.some.inj hm
    rfl
def f_X1_notePartners (n : Nat) (v0 : Nat) (v1 : Int32) (h : hp_H) : Option (hp_H) := (hp_ck h 1 v0).bind fun _ => f_X1_notePartners_0 n v0 v1 h
theorem c_X1_notePartners (G : hp_G) (n : Nat) (v0 : Nat) (v1 : Int32) (h : hp_H) (sz sl : Nat) (res : hp_H) (hm : f_X1_notePartners n v0 v1 h = some res) : hp_C G m_X1_notePartners yX1_notePartners [.ref v0, .int v1] h sz sl (none, res, sz, sl) := by
  unfold f_X1_notePartners at hm
  obtain ⟨_, _, hm⟩ := hp_bd hm
  exact hp_C_of (by decide) rfl rfl (Nat.le_of_ble_eq_true rfl) (Nat.le_refl _) (Nat.le_refl _) (hv_sub [0, 1] rfl (q_X1_notePartners_0 G n v0 v1 h sz sl res hm))
theorem k_X1_notePartners {n : Nat} {v0 : Nat} {v1 : Int32} {h : hp_H} {res : hp_H} (hm : f_X1_notePartners n v0 v1 h = some res) : ∃ V, h v0 = some (.inr (.inr (1, V))) := by
  unfold f_X1_notePartners at hm
  obtain ⟨_, hu, _⟩ := hp_bd hm
  exact hp_ck_spec hu
abbrev m_X1_isInstance : hp_M := (RX1, cX1_isInstance, 9, some .boolean, 1, 22, "isInstance")
theorem Z_X1_isInstance : hp_Y yX1_isInstance m_X1_isInstance 2 := Y_X1_isInstance
def f_X1_isInstance_93 (n : Nat) (v0 : Nat) (v1 : Int32) (v2 : Int32) (v3 : Int32) (v4 : Int32) (v5 : Int32) (v6 : Int32) (v7 : Int32) (v8 : Int32) (h : hp_H) : Option ((Int32 × Int32) ⊕ ((Int32) ⊕ (Int32))) :=
  if v7 ≤ v8 then
    some (.inr (.inl v3))
  else
    (hp_fR h 1 v0 0).bind fun x1 =>
    (f_X5_get n x1 v2 v3 h).bind fun x2 =>
    (hp_fR h 1 v0 0).bind fun x3 =>
    (hp_fR h 1 v0 3).bind fun x4 =>
    (hp_aI h 0 x4 v6).bind fun x5 =>
    (f_X5_get n x3 x5 v8 h).bind fun x6 =>
    if x2 = x6 then
      some (.inl ((v3 + (1 : Int32)), (v8 + (1 : Int32))))
    else
      some (.inr (.inr (0 : Int32)))
set_option maxHeartbeats 1000000 in
set_option maxRecDepth 4000 in
theorem q_X1_isInstance_93 (G : hp_G) (n : Nat) (v0 : Nat) (v1 : Int32) (v2 : Int32) (v3 : Int32) (v4 : Int32) (v5 : Int32) (v6 : Int32) (v7 : Int32) (v8 : Int32) (h : hp_H) (sz sl : Nat) (o : hp_O) (ho : sz ≤ o.2.2.1 ∧ sl ≤ o.2.2.2) (res : (Int32 × Int32) ⊕ ((Int32) ⊕ (Int32))) (hm : f_X1_isInstance_93 n v0 v1 v2 v3 v4 v5 v6 v7 v8 h = some res) (kI : ∀ y : Int32 × Int32, res = .inl y → hp_V G m_X1_isInstance 93 [(0, .ref v0), (1, .int v1), (2, .int v2), (3, .int y.1), (4, .int v4), (5, .int v5), (6, .int v6), (7, .int v7), (8, .int y.2)] [] h sz sl o) (kX0 : ∀ y : Int32, res = .inr (.inl y) → hp_V G m_X1_isInstance 139 [(0, .ref v0), (1, .int v1), (2, .int v2), (3, .int y), (4, .int v4), (5, .int v5)] [] h sz sl o) (kR : ∀ y : Int32, res = .inr (.inr y) → o = (some (.int y), h, sz, sl)) : hp_V G m_X1_isInstance 93 [(0, .ref v0), (1, .int v1), (2, .int v2), (3, .int v3), (4, .int v4), (5, .int v5), (6, .int v6), (7, .int v7), (8, .int v8)] [] h sz sl o := by
  unfold f_X1_isInstance_93 at hm
  refine hv_iload 8 dX1_isInstance_93 rfl ?_
  refine hv_iload 7 dX1_isInstance_95 rfl ?_
  refine hv_icmp_ge (tgt := 139) dX1_isInstance_97 (by decide) (fun c8 => ?_) (fun c8 => ?_)
  · rw [if_pos c8] at hm
    exact hv_sub [0, 1, 2, 3, 4, 5] rfl (kX0 v3 (Option.some.inj hm).symm)
  · rw [if_neg c8] at hm
    refine hv_aload_n 0 dX1_isInstance_100 rfl rfl ?_
    obtain ⟨x1, hx1, hm⟩ := hp_bd hm
    refine hv_get lk_f_X1_14 dX1_isInstance_101 (hp_fR_spec hx1) ?_
    refine hv_iload_n 2 dX1_isInstance_104 rfl rfl ?_
    refine hv_iload_n 3 dX1_isInstance_105 rfl rfl ?_
    obtain ⟨x2, hx2, hm⟩ := hp_bd hm
    obtain ⟨Vx2, hVx2⟩ := k_X5_get hx2
    refine hv_callV (As := [.int v2, .int v3]) (rest := []) Z_X5_get I_X5_get lk_m_X1_110 rfl hVx2 (c_X5_get G n x1 v2 v3 h sz sl _ hx2) rfl (Nat.le_of_ble_eq_true rfl) ⟨Nat.le_of_ble_eq_true rfl, Nat.le_of_ble_eq_true rfl⟩ ho.1 ho.2 rfl dX1_isInstance_106 ?_
    refine hv_as [.int x2] h rfl rfl ?_
    refine hv_aload_n 0 dX1_isInstance_109 rfl rfl ?_
    obtain ⟨x3, hx3, hm⟩ := hp_bd hm
    refine hv_get lk_f_X1_14 dX1_isInstance_110 (hp_fR_spec hx3) ?_
    refine hv_aload_n 0 dX1_isInstance_113 rfl rfl ?_
    obtain ⟨x4, hx4, hm⟩ := hp_bd hm
    refine hv_get lk_f_X1_23 dX1_isInstance_114 (hp_fR_spec hx4) ?_
    refine hv_iload 6 dX1_isInstance_117 rfl ?_
    obtain ⟨x5, hx5, hm⟩ := hp_bd hm
    refine hv_iald dX1_isInstance_119 hx5 ?_
    refine hv_iload 8 dX1_isInstance_120 rfl ?_
    obtain ⟨x6, hx6, hm⟩ := hp_bd hm
    obtain ⟨Vx6, hVx6⟩ := k_X5_get hx6
    refine hv_callV (As := [.int x5, .int v8]) (rest := [.int x2]) Z_X5_get I_X5_get lk_m_X1_110 rfl hVx6 (c_X5_get G n x3 x5 v8 h sz sl _ hx6) rfl (Nat.le_of_ble_eq_true rfl) ⟨Nat.le_of_ble_eq_true rfl, Nat.le_of_ble_eq_true rfl⟩ ho.1 ho.2 rfl dX1_isInstance_122 ?_
    refine hv_as [.int x6, .int x2] h rfl rfl ?_
    refine hv_icmp_eq (tgt := 130) dX1_isInstance_125 (by decide) (fun c7 => ?_) (fun c7 => ?_)
    · rw [if_pos c7] at hm
      refine hv_iinc (v3 + (1 : Int32)) 3 [(3, .int (v3 + (1 : Int32))), (0, .ref v0), (1, .int v1), (2, .int v2), (4, .int v4), (5, .int v5), (6, .int v6), (7, .int v7), (8, .int v8)] dX1_isInstance_130 rfl rfl (by decide) rfl ?_
      refine hv_iinc (v8 + (1 : Int32)) 8 [(8, .int (v8 + (1 : Int32))), (3, .int (v3 + (1 : Int32))), (0, .ref v0), (1, .int v1), (2, .int v2), (4, .int v4), (5, .int v5), (6, .int v6), (7, .int v7)] dX1_isInstance_133 rfl rfl (by decide) rfl ?_
      refine hv_goto (tgt := 93) dX1_isInstance_136 (by decide) ?_
      exact hv_sub [2, 3, 4, 1, 5, 6, 7, 8, 0] rfl (kI ((v3 + (1 : Int32)), (v8 + (1 : Int32))) (Option.some.inj hm).symm)
    · rw [if_neg c7] at hm
      refine hv_iconst (0 : Int32) dX1_isInstance_128 (by decide) ?_
      obtain rfl := kR _ (Option.some.inj hm).symm
      exact hv_zret rfl (by decide) dX1_isInstance_129
def fL_X1_isInstance_93 (n : Nat) (v0 : Nat) (v1 : Int32) (v2 : Int32) (v4 : Int32) (v5 : Int32) (v6 : Int32) (v7 : Int32) (h : hp_H) (s : Int32 × Int32) : Option ((Int32 × Int32) ⊕ ((Int32) ⊕ (Int32))) := f_X1_isInstance_93 n v0 v1 v2 s.1 v4 v5 v6 v7 s.2 h
theorem l_X1_isInstance_93 (G : hp_G) (n : Nat) (v0 : Nat) (v1 : Int32) (v2 : Int32) (v4 : Int32) (v5 : Int32) (v6 : Int32) (v7 : Int32) (h : hp_H) (sz sl : Nat) (o : hp_O) (ho : sz ≤ o.2.2.1 ∧ sl ≤ o.2.2.2) : ∀ (k : Nat) (s : Int32 × Int32) (x : (Int32) ⊕ (Int32)), hp_lp (fL_X1_isInstance_93 n v0 v1 v2 v4 v5 v6 v7 h) k s = some x → (∀ y : Int32, x = (.inl y) → hp_V G m_X1_isInstance 139 [(0, .ref v0), (1, .int v1), (2, .int v2), (3, .int y), (4, .int v4), (5, .int v5)] [] h sz sl o) → (∀ y : Int32, x = (.inr y) → o = (some (.int y), h, sz, sl)) → hp_V G m_X1_isInstance 93 [(0, .ref v0), (1, .int v1), (2, .int v2), (3, .int s.1), (4, .int v4), (5, .int v5), (6, .int v6), (7, .int v7), (8, .int s.2)] [] h sz sl o := by
  intro k
  induction k with
  | zero => intro s x hx; exact (hp_lp_0 hx).elim
  | succ k ih =>
    intro s x hx k0 k1
    obtain ⟨r, hr, hc⟩ := hp_lp_1 hx
    refine q_X1_isInstance_93 G n v0 v1 v2 s.1 v4 v5 v6 v7 s.2 h sz sl o ho r hr (fun s2 e => ?_) (fun y e => ?_) (fun y e => ?_)
    · rcases hc with ⟨s3, e3, hx3⟩ | e3
      · have e4 := Sum.inl.inj (e.symm.trans e3)
        subst e4
        exact ih _ _ hx3 k0 k1
      · cases (e.symm.trans e3)
    · rcases hc with ⟨s3, e3, hx3⟩ | e3
      · cases (e.symm.trans e3)
      · exact k0 y (Sum.inr.inj (e3.symm.trans e))
    · rcases hc with ⟨s3, e3, hx3⟩ | e3
      · cases (e.symm.trans e3)
      · exact k1 y (Sum.inr.inj (e3.symm.trans e))
def f_X1_isInstance_139 (n : Nat) (v0 : Nat) (v1 : Int32) (v2 : Int32) (v3 : Int32) (v4 : Int32) (v5 : Int32) (h : hp_H) : Option ((Int32 × Int32) ⊕ ((Int32) ⊕ (Int32))) :=
  some (.inl (v3, (v5 + (1 : Int32))))
set_option maxHeartbeats 1000000 in
set_option maxRecDepth 4000 in
theorem q_X1_isInstance_139 (G : hp_G) (n : Nat) (v0 : Nat) (v1 : Int32) (v2 : Int32) (v3 : Int32) (v4 : Int32) (v5 : Int32) (h : hp_H) (sz sl : Nat) (o : hp_O) (ho : sz ≤ o.2.2.1 ∧ sl ≤ o.2.2.2) (res : (Int32 × Int32) ⊕ ((Int32) ⊕ (Int32))) (hm : f_X1_isInstance_139 n v0 v1 v2 v3 v4 v5 h = some res) (kI : ∀ y : Int32 × Int32, res = .inl y → hp_V G m_X1_isInstance 18 [(0, .ref v0), (1, .int v1), (2, .int v2), (3, .int y.1), (4, .int v4), (5, .int y.2)] [] h sz sl o) (kX0 : ∀ y : Int32, res = .inr (.inl y) → hp_V G m_X1_isInstance 145 [(0, .ref v0), (2, .int v2), (3, .int y)] [] h sz sl o) (kR : ∀ y : Int32, res = .inr (.inr y) → o = (some (.int y), h, sz, sl)) : hp_V G m_X1_isInstance 139 [(0, .ref v0), (1, .int v1), (2, .int v2), (3, .int v3), (4, .int v4), (5, .int v5)] [] h sz sl o := by
  unfold f_X1_isInstance_139 at hm
  refine hv_iinc (v5 + (1 : Int32)) 5 [(5, .int (v5 + (1 : Int32))), (0, .ref v0), (1, .int v1), (2, .int v2), (3, .int v3), (4, .int v4)] dX1_isInstance_139 rfl rfl (by decide) rfl ?_
  refine hv_goto (tgt := 18) dX1_isInstance_142 (by decide) ?_
  exact hv_sub [1, 2, 3, 4, 5, 0] rfl (kI (v3, (v5 + (1 : Int32))) (Option.some.inj hm).symm)
def f_X1_isInstance_18 (n : Nat) (v0 : Nat) (v1 : Int32) (v2 : Int32) (v3 : Int32) (v4 : Int32) (v5 : Int32) (h : hp_H) : Option ((Int32 × Int32) ⊕ ((Int32) ⊕ (Int32))) :=
  if v4 ≤ v5 then
    some (.inr (.inl v3))
  else
    (hp_fR h 1 v0 2).bind fun x1 =>
    (hp_fR h 0 x1 9).bind fun x2 =>
    (f_X5_get n x2 v1 v5 h).bind fun x3 =>
    (hp_fR h 1 v0 2).bind fun x4 =>
    (f_X0_isVariable n x4 x3 h).bind fun x5 =>
    if x5 = 0 then
      (hp_fR h 1 v0 0).bind fun x13 =>
      (f_X5_get n x13 v2 v3 h).bind fun x14 =>
      if x14 = x3 then
        f_X1_isInstance_139 n v0 v1 v2 (v3 + (1 : Int32)) v4 v5 h
      else
        some (.inr (.inr (0 : Int32)))
    else
      (hp_fR h 1 v0 0).bind fun x6 =>
      (hp_fR h 1 v0 3).bind fun x7 =>
      (hp_aI h 0 x7 x3).bind fun x8 =>
      (f_X5_size n x6 x8 h).bind fun x9 =>
      (hp_lp (fL_X1_isInstance_93 n v0 v1 v2 v4 v5 x3 x9 h) n (v3, (1 : Int32))).bind fun x10 =>
      Sum.elim (fun y11 =>
        f_X1_isInstance_139 n v0 v1 v2 y11 v4 v5 h) (fun y12 =>
        some (.inr (.inr y12))) x10
set_option maxHeartbeats 1000000 in
set_option maxRecDepth 4000 in
theorem q_X1_isInstance_18 (G : hp_G) (n : Nat) (v0 : Nat) (v1 : Int32) (v2 : Int32) (v3 : Int32) (v4 : Int32) (v5 : Int32) (h : hp_H) (sz sl : Nat) (o : hp_O) (ho : sz ≤ o.2.2.1 ∧ sl ≤ o.2.2.2) (res : (Int32 × Int32) ⊕ ((Int32) ⊕ (Int32))) (hm : f_X1_isInstance_18 n v0 v1 v2 v3 v4 v5 h = some res) (kI : ∀ y : Int32 × Int32, res = .inl y → hp_V G m_X1_isInstance 18 [(0, .ref v0), (1, .int v1), (2, .int v2), (3, .int y.1), (4, .int v4), (5, .int y.2)] [] h sz sl o) (kX0 : ∀ y : Int32, res = .inr (.inl y) → hp_V G m_X1_isInstance 145 [(0, .ref v0), (2, .int v2), (3, .int y)] [] h sz sl o) (kR : ∀ y : Int32, res = .inr (.inr y) → o = (some (.int y), h, sz, sl)) : hp_V G m_X1_isInstance 18 [(0, .ref v0), (1, .int v1), (2, .int v2), (3, .int v3), (4, .int v4), (5, .int v5)] [] h sz sl o := by
  unfold f_X1_isInstance_18 at hm
  refine hv_iload 5 dX1_isInstance_18 rfl ?_
  refine hv_iload 4 dX1_isInstance_20 rfl ?_
  refine hv_icmp_ge (tgt := 145) dX1_isInstance_22 (by decide) (fun c17 => ?_) (fun c17 => ?_)
  · rw [if_pos c17] at hm
    exact hv_sub [0, 2, 3] rfl (kX0 v3 (Option.some.inj hm).symm)
  · rw [if_neg c17] at hm
    refine hv_aload_n 0 dX1_isInstance_25 rfl rfl ?_
    obtain ⟨x1, hx1, hm⟩ := hp_bd hm
    refine hv_get lk_f_X1_34 dX1_isInstance_26 (hp_fR_spec hx1) ?_
    obtain ⟨x2, hx2, hm⟩ := hp_bd hm
    refine hv_get lk_f_X1_91 dX1_isInstance_29 (hp_fR_spec hx2) ?_
    refine hv_iload_n 1 dX1_isInstance_32 rfl rfl ?_
    refine hv_iload 5 dX1_isInstance_33 rfl ?_
    obtain ⟨x3, hx3, hm⟩ := hp_bd hm
    obtain ⟨Vx3, hVx3⟩ := k_X5_get hx3
    refine hv_callV (As := [.int v1, .int v5]) (rest := []) Z_X5_get I_X5_get lk_m_X1_110 rfl hVx3 (c_X5_get G n x2 v1 v5 h sz sl _ hx3) rfl (Nat.le_of_ble_eq_true rfl) ⟨Nat.le_of_ble_eq_true rfl, Nat.le_of_ble_eq_true rfl⟩ ho.1 ho.2 rfl dX1_isInstance_35 ?_
    refine hv_as [.int x3] h rfl rfl ?_
    refine hv_istore [(6, .int x3), (0, .ref v0), (1, .int v1), (2, .int v2), (3, .int v3), (4, .int v4), (5, .int v5)] dX1_isInstance_38 (by decide) rfl ?_
    refine hv_aload_n 1 dX1_isInstance_40 rfl rfl ?_
    obtain ⟨x4, hx4, hm⟩ := hp_bd hm
    refine hv_get lk_f_X1_34 dX1_isInstance_41 (hp_fR_spec hx4) ?_
    refine hv_iload 0 dX1_isInstance_44 rfl ?_
    obtain ⟨x5, hx5, hm⟩ := hp_bd hm
    obtain ⟨Vx5, hVx5⟩ := k_X0_isVariable hx5
    refine hv_callV (As := [.int x3]) (rest := []) Z_X0_isVariable I_X0_isVariable lk_m_X1_140 rfl hVx5 (c_X0_isVariable G n x4 x3 h sz sl _ hx5) rfl (Nat.le_of_ble_eq_true rfl) ⟨Nat.le_of_ble_eq_true rfl, Nat.le_of_ble_eq_true rfl⟩ ho.1 ho.2 rfl dX1_isInstance_46 ?_
    refine hv_as [.int x5] h rfl rfl ?_
    refine hv_if_ne (tgt := 74) dX1_isInstance_49 (by decide) (fun c16 => ?_) (fun c16 => ?_)
    · rw [if_neg c16] at hm
      refine hv_aload_n 1 dX1_isInstance_74 rfl rfl ?_
      obtain ⟨x6, hx6, hm⟩ := hp_bd hm
      refine hv_get lk_f_X1_14 dX1_isInstance_75 (hp_fR_spec hx6) ?_
      refine hv_aload_n 1 dX1_isInstance_78 rfl rfl ?_
      obtain ⟨x7, hx7, hm⟩ := hp_bd hm
      refine hv_get lk_f_X1_23 dX1_isInstance_79 (hp_fR_spec hx7) ?_
      refine hv_iload 0 dX1_isInstance_82 rfl ?_
      obtain ⟨x8, hx8, hm⟩ := hp_bd hm
      refine hv_iald dX1_isInstance_84 hx8 ?_
      obtain ⟨x9, hx9, hm⟩ := hp_bd hm
      obtain ⟨Vx9, hVx9⟩ := k_X5_size hx9
      refine hv_callV (As := [.int x8]) (rest := []) Z_X5_size I_X5_size lk_m_X1_107 rfl hVx9 (c_X5_size G n x6 x8 h sz sl _ hx9) rfl (Nat.le_of_ble_eq_true rfl) ⟨Nat.le_of_ble_eq_true rfl, Nat.le_of_ble_eq_true rfl⟩ ho.1 ho.2 rfl dX1_isInstance_85 ?_
      refine hv_as [.int x9] h rfl rfl ?_
      refine hv_istore [(7, .int x9), (6, .int x3), (0, .ref v0), (1, .int v1), (2, .int v2), (3, .int v3), (4, .int v4), (5, .int v5)] dX1_isInstance_88 (by decide) rfl ?_
      refine hv_iconst (1 : Int32) dX1_isInstance_90 (by decide) ?_
      refine hv_istore [(8, .int (1 : Int32)), (7, .int x9), (6, .int x3), (0, .ref v0), (1, .int v1), (2, .int v2), (3, .int v3), (4, .int v4), (5, .int v5)] dX1_isInstance_91 (by decide) rfl ?_
      obtain ⟨x10, hx10, hm⟩ := hp_bd hm
      refine hv_sub [3, 4, 5, 6, 7, 8, 2, 1, 0] rfl (l_X1_isInstance_93 G n v0 v1 v2 v4 v5 x3 x9 h sz sl _ ho n _ _ hx10 (fun y11 ey11 => ?_) (fun y12 ey12 => ?_))
      · subst ey11
        simp only [Sum.elim_inl, Sum.elim_inr] at hm
        exact hv_sub [0, 1, 2, 3, 4, 5] rfl (q_X1_isInstance_139 G n v0 v1 v2 y11 v4 v5 h sz sl o ho _ hm kI kX0 kR)
      · subst ey12
        simp only [Sum.elim_inl, Sum.elim_inr] at hm
        exact kR _ (Option.some.inj hm).symm
    · rw [if_pos c16] at hm
      refine hv_aload_n 1 dX1_isInstance_52 rfl rfl ?_
      obtain ⟨x13, hx13, hm⟩ := hp_bd hm
      refine hv_get lk_f_X1_14 dX1_isInstance_53 (hp_fR_spec hx13) ?_
      refine hv_iload_n 3 dX1_isInstance_56 rfl rfl ?_
      refine hv_iload_n 4 dX1_isInstance_57 rfl rfl ?_
      obtain ⟨x14, hx14, hm⟩ := hp_bd hm
      obtain ⟨Vx14, hVx14⟩ := k_X5_get hx14
      refine hv_callV (As := [.int v2, .int v3]) (rest := []) Z_X5_get I_X5_get lk_m_X1_110 rfl hVx14 (c_X5_get G n x13 v2 v3 h sz sl _ hx14) rfl (Nat.le_of_ble_eq_true rfl) ⟨Nat.le_of_ble_eq_true rfl, Nat.le_of_ble_eq_true rfl⟩ ho.1 ho.2 rfl dX1_isInstance_58 ?_
      refine hv_as [.int x14] h rfl rfl ?_
      refine hv_iload 0 dX1_isInstance_61 rfl ?_
      refine hv_icmp_eq (tgt := 68) dX1_isInstance_63 (by decide) (fun c15 => ?_) (fun c15 => ?_)
      · rw [if_pos c15] at hm
        refine hv_iinc (v3 + (1 : Int32)) 4 [(3, .int (v3 + (1 : Int32))), (6, .int x3), (0, .ref v0), (1, .int v1), (2, .int v2), (4, .int v4), (5, .int v5)] dX1_isInstance_68 rfl rfl (by decide) rfl ?_
        refine hv_goto (tgt := 139) dX1_isInstance_71 (by decide) ?_
        exact hv_sub [2, 3, 4, 0, 5, 6] rfl (q_X1_isInstance_139 G n v0 v1 v2 (v3 + (1 : Int32)) v4 v5 h sz sl o ho _ hm kI kX0 kR)
      · rw [if_neg c15] at hm
        refine hv_iconst (0 : Int32) dX1_isInstance_66 (by decide) ?_
        obtain rfl := kR _ (Option.some.inj hm).symm
        exact hv_zret rfl (by decide) dX1_isInstance_67
def fL_X1_isInstance_18 (n : Nat) (v0 : Nat) (v1 : Int32) (v2 : Int32) (v4 : Int32) (h : hp_H) (s : Int32 × Int32) : Option ((Int32 × Int32) ⊕ ((Int32) ⊕ (Int32))) := f_X1_isInstance_18 n v0 v1 v2 s.1 v4 s.2 h
theorem l_X1_isInstance_18 (G : hp_G) (n : Nat) (v0 : Nat) (v1 : Int32) (v2 : Int32) (v4 : Int32) (h : hp_H) (sz sl : Nat) (o : hp_O) (ho : sz ≤ o.2.2.1 ∧ sl ≤ o.2.2.2) : ∀ (k : Nat) (s : Int32 × Int32) (x : (Int32) ⊕ (Int32)), hp_lp (fL_X1_isInstance_18 n v0 v1 v2 v4 h) k s = some x → (∀ y : Int32, x = (.inl y) → hp_V G m_X1_isInstance 145 [(0, .ref v0), (2, .int v2), (3, .int y)] [] h sz sl o) → (∀ y : Int32, x = (.inr y) → o = (some (.int y), h, sz, sl)) → hp_V G m_X1_isInstance 18 [(0, .ref v0), (1, .int v1), (2, .int v2), (3, .int s.1), (4, .int v4), (5, .int s.2)] [] h sz sl o := by
  intro k
  induction k with
  | zero => intro s x hx; exact (hp_lp_0 hx).elim
  | succ k ih =>
    intro s x hx k0 k1
    obtain ⟨r, hr, hc⟩ := hp_lp_1 hx
    refine q_X1_isInstance_18 G n v0 v1 v2 s.1 v4 s.2 h sz sl o ho r hr (fun s2 e => ?_) (fun y e => ?_) (fun y e => ?_)
    · rcases hc with ⟨s3, e3, hx3⟩ | e3
      · have e4 := Sum.inl.inj (e.symm.trans e3)
        subst e4
        exact ih _ _ hx3 k0 k1
      · cases (e.symm.trans e3)
    · rcases hc with ⟨s3, e3, hx3⟩ | e3
      · cases (e.symm.trans e3)
      · exact k0 y (Sum.inr.inj (e3.symm.trans e))
    · rcases hc with ⟨s3, e3, hx3⟩ | e3
      · cases (e.symm.trans e3)
      · exact k1 y (Sum.inr.inj (e3.symm.trans e))
def f_X1_isInstance_0 (n : Nat) (v0 : Nat) (v1 : Int32) (v2 : Int32) (h : hp_H) : Option (Int32) :=
  (hp_fR h 1 v0 2).bind fun x1 =>
  (hp_fR h 0 x1 9).bind fun x2 =>
  (f_X5_size n x2 v1 h).bind fun x3 =>
  (hp_lp (fL_X1_isInstance_18 n v0 v1 v2 x3 h) n ((0 : Int32), (0 : Int32))).bind fun x4 =>
  Sum.elim (fun y5 =>
    (hp_fR h 1 v0 0).bind fun x7 =>
    (f_X5_size n x7 v2 h).bind fun x8 =>
    if y5 = x8 then
      some (1 : Int32)
    else
      some (0 : Int32)) (fun y6 =>
    some y6) x4
set_option maxHeartbeats 1000000 in
set_option maxRecDepth 4000 in
theorem q_X1_isInstance_0 (G : hp_G) (n : Nat) (v0 : Nat) (v1 : Int32) (v2 : Int32) (h : hp_H) (sz sl : Nat) (res : Int32) (hm : f_X1_isInstance_0 n v0 v1 v2 h = some res) : hp_V G m_X1_isInstance 0 [(0, .ref v0), (1, .int v1), (2, .int v2)] [] h sz sl (some (.int res), h, sz, sl) := by
  have ho : sz ≤ sz ∧ sl ≤ sl := ⟨Nat.le_refl _, Nat.le_refl _⟩
  unfold f_X1_isInstance_0 at hm
  refine hv_iconst (0 : Int32) dX1_isInstance_0 (by decide) ?_
  refine hv_istore_n [(3, .int (0 : Int32)), (0, .ref v0), (1, .int v1), (2, .int v2)] dX1_isInstance_1 rfl (by decide) rfl ?_
  refine hv_aload_n 1 dX1_isInstance_2 rfl rfl ?_
  obtain ⟨x1, hx1, hm⟩ := hp_bd hm
  refine hv_get lk_f_X1_34 dX1_isInstance_3 (hp_fR_spec hx1) ?_
  obtain ⟨x2, hx2, hm⟩ := hp_bd hm
  refine hv_get lk_f_X1_91 dX1_isInstance_6 (hp_fR_spec hx2) ?_
  refine hv_iload_n 2 dX1_isInstance_9 rfl rfl ?_
  obtain ⟨x3, hx3, hm⟩ := hp_bd hm
  obtain ⟨Vx3, hVx3⟩ := k_X5_size hx3
  refine hv_callV (As := [.int v1]) (rest := []) Z_X5_size I_X5_size lk_m_X1_107 rfl hVx3 (c_X5_size G n x2 v1 h sz sl _ hx3) rfl (Nat.le_of_ble_eq_true rfl) ⟨Nat.le_of_ble_eq_true rfl, Nat.le_of_ble_eq_true rfl⟩ ho.1 ho.2 rfl dX1_isInstance_10 ?_
  refine hv_as [.int x3] h rfl rfl ?_
  refine hv_istore [(4, .int x3), (3, .int (0 : Int32)), (0, .ref v0), (1, .int v1), (2, .int v2)] dX1_isInstance_13 (by decide) rfl ?_
  refine hv_iconst (0 : Int32) dX1_isInstance_15 (by decide) ?_
  refine hv_istore [(5, .int (0 : Int32)), (4, .int x3), (3, .int (0 : Int32)), (0, .ref v0), (1, .int v1), (2, .int v2)] dX1_isInstance_16 (by decide) rfl ?_
  obtain ⟨x4, hx4, hm⟩ := hp_bd hm
  refine hv_sub [3, 4, 5, 2, 1, 0] rfl (l_X1_isInstance_18 G n v0 v1 v2 x3 h sz sl _ ho n _ _ hx4 (fun y5 ey5 => ?_) (fun y6 ey6 => ?_))
  · subst ey5
    simp only [Sum.elim_inl, Sum.elim_inr] at hm
    refine hv_iload_n 2 dX1_isInstance_145 rfl rfl ?_
    refine hv_aload_n 0 dX1_isInstance_146 rfl rfl ?_
    obtain ⟨x7, hx7, hm⟩ := hp_bd hm
    refine hv_get lk_f_X1_14 dX1_isInstance_147 (hp_fR_spec hx7) ?_
    refine hv_iload_n 1 dX1_isInstance_150 rfl rfl ?_
    obtain ⟨x8, hx8, hm⟩ := hp_bd hm
    obtain ⟨Vx8, hVx8⟩ := k_X5_size hx8
    refine hv_callV (As := [.int v2]) (rest := [.int y5]) Z_X5_size I_X5_size lk_m_X1_107 rfl hVx8 (c_X5_size G n x7 v2 h sz sl _ hx8) rfl (Nat.le_of_ble_eq_true rfl) ⟨Nat.le_of_ble_eq_true rfl, Nat.le_of_ble_eq_true rfl⟩ ho.1 ho.2 rfl dX1_isInstance_151 ?_
    refine hv_as [.int x8, .int y5] h rfl rfl ?_
    refine hv_icmp_ne (tgt := 161) dX1_isInstance_154 (by decide) (fun c9 => ?_) (fun c9 => ?_)
    · rw [if_neg c9] at hm
      refine hv_iconst (0 : Int32) dX1_isInstance_161 (by decide) ?_
      obtain rfl := Option.some.inj hm
      exact hv_zret rfl (by decide) dX1_isInstance_162
    · rw [if_pos c9] at hm
      refine hv_iconst (1 : Int32) dX1_isInstance_157 (by decide) ?_
      refine hv_goto (tgt := 162) dX1_isInstance_158 (by decide) ?_
      obtain rfl := Option.some.inj hm
      exact hv_zret rfl (by decide) dX1_isInstance_162
  · subst ey6
    simp only [Sum.elim_inl, Sum.elim_inr] at hm
    obtain rfl := Option.some.inj hm
    rfl
def f_X1_isInstance (n : Nat) (v0 : Nat) (v1 : Int32) (v2 : Int32) (h : hp_H) : Option (Int32) := (hp_ck h 1 v0).bind fun _ => f_X1_isInstance_0 n v0 v1 v2 h
theorem c_X1_isInstance (G : hp_G) (n : Nat) (v0 : Nat) (v1 : Int32) (v2 : Int32) (h : hp_H) (sz sl : Nat) (res : Int32) (hm : f_X1_isInstance n v0 v1 v2 h = some res) : hp_C G m_X1_isInstance yX1_isInstance [.ref v0, .int v1, .int v2] h sz sl (some (.int res), h, sz, sl) := by
  unfold f_X1_isInstance at hm
  obtain ⟨_, _, hm⟩ := hp_bd hm
  exact hp_C_of (by decide) rfl rfl (Nat.le_of_ble_eq_true rfl) (Nat.le_refl _) (Nat.le_refl _) (hv_sub [0, 1, 2] rfl (q_X1_isInstance_0 G n v0 v1 v2 h sz sl res hm))
theorem k_X1_isInstance {n : Nat} {v0 : Nat} {v1 : Int32} {v2 : Int32} {h : hp_H} {res : Int32} (hm : f_X1_isInstance n v0 v1 v2 h = some res) : ∃ V, h v0 = some (.inr (.inr (1, V))) := by
  unfold f_X1_isInstance at hm
  obtain ⟨_, hu, _⟩ := hp_bd hm
  exact hp_ck_spec hu
abbrev m_X1_fit : hp_M := (RX1, cX1_fit, 3, some .int, 2, 50, "fit")
theorem Z_X1_fit : hp_Y yX1_fit m_X1_fit 2 := Y_X1_fit
def f_X1_fit_0 (n : Nat) (v0 : Nat) (v1 : Int32) (v2 : Int32) (h : hp_H) : Option (Int32 × hp_H) :=
  (hp_fR h 1 v0 2).bind fun x1 =>
  (hp_fR h 0 x1 6).bind fun x2 =>
  (hp_aI h 0 x2 v1).bind fun x3 =>
  if x3 = (1 : Int32) then
    (f_X1_isInstance n v0 v1 v2 h).bind fun x15 =>
    if x15 = 0 then
      some ((-6 : Int32), h)
    else
      some ((0 : Int32), h)
  else
    (hp_fR h 1 v0 0).bind fun x4 =>
    (f_X5_get n x4 v2 (0 : Int32) h).bind fun x5 =>
    (hp_fR h 1 v0 2).bind fun x6 =>
    (hp_fR h 0 x6 9).bind fun x7 =>
    (f_X5_get n x7 v1 (0 : Int32) h).bind fun x8 =>
    if x5 = x8 then
      (hp_fR h 1 v0 3).bind fun x9 =>
      (hp_fR h 1 v0 2).bind fun x10 =>
      (hp_fR h 0 x10 9).bind fun x11 =>
      (f_X5_get n x11 v1 (1 : Int32) h).bind fun x12 =>
      (hp_sI h 0 x9 x12 v2).bind fun h13 =>
      some ((0 : Int32), h13)
    else
      some ((-5 : Int32), h)
set_option maxHeartbeats 1000000 in
set_option maxRecDepth 4000 in
theorem q_X1_fit_0 (G : hp_G) (n : Nat) (v0 : Nat) (v1 : Int32) (v2 : Int32) (h : hp_H) (sz sl : Nat) (res : Int32 × hp_H) (hm : f_X1_fit_0 n v0 v1 v2 h = some res) : hp_V G m_X1_fit 0 [(0, .ref v0), (1, .int v1), (2, .int v2)] [] h sz sl (some (.int res.1), res.2, sz, sl) := by
  have ho : sz ≤ sz ∧ sl ≤ sl := ⟨Nat.le_refl _, Nat.le_refl _⟩
  unfold f_X1_fit_0 at hm
  refine hv_aload_n 0 dX1_fit_0 rfl rfl ?_
  obtain ⟨x1, hx1, hm⟩ := hp_bd hm
  refine hv_get lk_f_X1_34 dX1_fit_1 (hp_fR_spec hx1) ?_
  obtain ⟨x2, hx2, hm⟩ := hp_bd hm
  refine hv_get lk_f_X1_62 dX1_fit_4 (hp_fR_spec hx2) ?_
  refine hv_iload_n 1 dX1_fit_7 rfl rfl ?_
  obtain ⟨x3, hx3, hm⟩ := hp_bd hm
  refine hv_iald dX1_fit_8 hx3 ?_
  refine hv_iconst (1 : Int32) dX1_fit_9 (by decide) ?_
  refine hv_icmp_ne (tgt := 29) dX1_fit_10 (by decide) (fun c17 => ?_) (fun c17 => ?_)
  · rw [if_neg c17] at hm
    refine hv_aload_n 0 dX1_fit_29 rfl rfl ?_
    obtain ⟨x4, hx4, hm⟩ := hp_bd hm
    refine hv_get lk_f_X1_14 dX1_fit_30 (hp_fR_spec hx4) ?_
    refine hv_iload_n 2 dX1_fit_33 rfl rfl ?_
    refine hv_iconst (0 : Int32) dX1_fit_34 (by decide) ?_
    obtain ⟨x5, hx5, hm⟩ := hp_bd hm
    obtain ⟨Vx5, hVx5⟩ := k_X5_get hx5
    refine hv_callV (As := [.int v2, .int (0 : Int32)]) (rest := []) Z_X5_get I_X5_get lk_m_X1_110 rfl hVx5 (c_X5_get G n x4 v2 (0 : Int32) h sz sl _ hx5) rfl (Nat.le_of_ble_eq_true rfl) ⟨Nat.le_of_ble_eq_true rfl, Nat.le_of_ble_eq_true rfl⟩ ho.1 ho.2 rfl dX1_fit_35 ?_
    refine hv_as [.int x5] h rfl rfl ?_
    refine hv_aload_n 0 dX1_fit_38 rfl rfl ?_
    obtain ⟨x6, hx6, hm⟩ := hp_bd hm
    refine hv_get lk_f_X1_34 dX1_fit_39 (hp_fR_spec hx6) ?_
    obtain ⟨x7, hx7, hm⟩ := hp_bd hm
    refine hv_get lk_f_X1_91 dX1_fit_42 (hp_fR_spec hx7) ?_
    refine hv_iload_n 1 dX1_fit_45 rfl rfl ?_
    refine hv_iconst (0 : Int32) dX1_fit_46 (by decide) ?_
    obtain ⟨x8, hx8, hm⟩ := hp_bd hm
    obtain ⟨Vx8, hVx8⟩ := k_X5_get hx8
    refine hv_callV (As := [.int v1, .int (0 : Int32)]) (rest := [.int x5]) Z_X5_get I_X5_get lk_m_X1_110 rfl hVx8 (c_X5_get G n x7 v1 (0 : Int32) h sz sl _ hx8) rfl (Nat.le_of_ble_eq_true rfl) ⟨Nat.le_of_ble_eq_true rfl, Nat.le_of_ble_eq_true rfl⟩ ho.1 ho.2 rfl dX1_fit_47 ?_
    refine hv_as [.int x8, .int x5] h rfl rfl ?_
    refine hv_icmp_eq (tgt := 56) dX1_fit_50 (by decide) (fun c14 => ?_) (fun c14 => ?_)
    · rw [if_pos c14] at hm
      refine hv_aload_n 0 dX1_fit_56 rfl rfl ?_
      obtain ⟨x9, hx9, hm⟩ := hp_bd hm
      refine hv_get lk_f_X1_23 dX1_fit_57 (hp_fR_spec hx9) ?_
      refine hv_aload_n 0 dX1_fit_60 rfl rfl ?_
      obtain ⟨x10, hx10, hm⟩ := hp_bd hm
      refine hv_get lk_f_X1_34 dX1_fit_61 (hp_fR_spec hx10) ?_
      obtain ⟨x11, hx11, hm⟩ := hp_bd hm
      refine hv_get lk_f_X1_91 dX1_fit_64 (hp_fR_spec hx11) ?_
      refine hv_iload_n 1 dX1_fit_67 rfl rfl ?_
      refine hv_iconst (1 : Int32) dX1_fit_68 (by decide) ?_
      obtain ⟨x12, hx12, hm⟩ := hp_bd hm
      obtain ⟨Vx12, hVx12⟩ := k_X5_get hx12
      refine hv_callV (As := [.int v1, .int (1 : Int32)]) (rest := [.ref x9]) Z_X5_get I_X5_get lk_m_X1_110 rfl hVx12 (c_X5_get G n x11 v1 (1 : Int32) h sz sl _ hx12) rfl (Nat.le_of_ble_eq_true rfl) ⟨Nat.le_of_ble_eq_true rfl, Nat.le_of_ble_eq_true rfl⟩ ho.1 ho.2 rfl dX1_fit_69 ?_
      refine hv_as [.int x12, .ref x9] h rfl rfl ?_
      refine hv_iload_n 2 dX1_fit_72 rfl rfl ?_
      obtain ⟨h13, hh13, hm⟩ := hp_bd hm
      refine hv_iast dX1_fit_73 hh13 ?_
      refine hv_iconst (0 : Int32) dX1_fit_74 (by decide) ?_
      obtain rfl := Option.some.inj hm
      exact hv_iret rfl dX1_fit_75
    · rw [if_neg c14] at hm
      refine hv_bipush (-5 : Int32) dX1_fit_53 (by decide) ?_
      obtain rfl := Option.some.inj hm
      exact hv_iret rfl dX1_fit_55
  · rw [if_pos c17] at hm
    refine hv_aload_n 0 dX1_fit_13 rfl rfl ?_
    refine hv_iload_n 1 dX1_fit_14 rfl rfl ?_
    refine hv_iload_n 2 dX1_fit_15 rfl rfl ?_
    obtain ⟨x15, hx15, hm⟩ := hp_bd hm
    obtain ⟨Vx15, hVx15⟩ := k_X1_isInstance hx15
    refine hv_callV (As := [.int v1, .int v2]) (rest := []) Z_X1_isInstance I_X1_isInstance lk_m_X1_136 rfl hVx15 (c_X1_isInstance G n v0 v1 v2 h sz sl _ hx15) rfl (Nat.le_of_ble_eq_true rfl) ⟨Nat.le_of_ble_eq_true rfl, Nat.le_of_ble_eq_true rfl⟩ ho.1 ho.2 rfl dX1_fit_16 ?_
    refine hv_as [.int x15] h rfl rfl ?_
    refine hv_if_eq (tgt := 26) dX1_fit_19 (by decide) (fun c16 => ?_) (fun c16 => ?_)
    · rw [if_pos c16] at hm
      refine hv_bipush (-6 : Int32) dX1_fit_26 (by decide) ?_
      obtain rfl := Option.some.inj hm
      exact hv_iret rfl dX1_fit_28
    · rw [if_neg c16] at hm
      refine hv_iconst (0 : Int32) dX1_fit_22 (by decide) ?_
      refine hv_goto (tgt := 28) dX1_fit_23 (by decide) ?_
      obtain rfl := Option.some.inj hm
      exact hv_iret rfl dX1_fit_28
def f_X1_fit (n : Nat) (v0 : Nat) (v1 : Int32) (v2 : Int32) (h : hp_H) : Option (Int32 × hp_H) := (hp_ck h 1 v0).bind fun _ => f_X1_fit_0 n v0 v1 v2 h
theorem c_X1_fit (G : hp_G) (n : Nat) (v0 : Nat) (v1 : Int32) (v2 : Int32) (h : hp_H) (sz sl : Nat) (res : Int32 × hp_H) (hm : f_X1_fit n v0 v1 v2 h = some res) : hp_C G m_X1_fit yX1_fit [.ref v0, .int v1, .int v2] h sz sl (some (.int res.1), res.2, sz, sl) := by
  unfold f_X1_fit at hm
  obtain ⟨_, _, hm⟩ := hp_bd hm
  exact hp_C_of (by decide) rfl rfl (Nat.le_of_ble_eq_true rfl) (Nat.le_refl _) (Nat.le_refl _) (hv_sub [0, 1, 2] rfl (q_X1_fit_0 G n v0 v1 v2 h sz sl res hm))
theorem k_X1_fit {n : Nat} {v0 : Nat} {v1 : Int32} {v2 : Int32} {h : hp_H} {res : Int32 × hp_H} (hm : f_X1_fit n v0 v1 v2 h = some res) : ∃ V, h v0 = some (.inr (.inr (1, V))) := by
  unfold f_X1_fit at hm
  obtain ⟨_, hu, _⟩ := hp_bd hm
  exact hp_ck_spec hu
abbrev m_X1_isPartnerOfOthers : hp_M := (RX1, cX1_isPartnerOfOthers, 3, some .boolean, 0, 0, "isPartnerOfOthers")
theorem Z_X1_isPartnerOfOthers : hp_Y yX1_isPartnerOfOthers m_X1_isPartnerOfOthers 1 := Y_X1_isPartnerOfOthers
def f_X1_isPartnerOfOthers_2 (n : Nat) (v0 : Nat) (v1 : Int32) (v2 : Int32) (h : hp_H) : Option ((Int32) ⊕ (Int32)) :=
  if (5 : Int32) ≤ v2 then
    some (.inr (1 : Int32))
  else
    (hp_fR h 1 v0 5).bind fun x1 =>
    (hp_aJ h x1 v2).bind fun x2 =>
    (hp_fR h 1 v0 4).bind fun x3 =>
    (hp_aJ h x3 ((v1 * (5 : Int32)) + v2)).bind fun x4 =>
    if (lg_cmp (x2 &&& (x4 ^^^ (-1 : Int64))) (0 : Int64)) = 0 then
      some (.inl (v2 + (1 : Int32)))
    else
      some (.inr (0 : Int32))
set_option maxHeartbeats 1000000 in
set_option maxRecDepth 4000 in
theorem q_X1_isPartnerOfOthers_2 (G : hp_G) (n : Nat) (v0 : Nat) (v1 : Int32) (v2 : Int32) (h : hp_H) (sz sl : Nat) (o : hp_O) (ho : sz ≤ o.2.2.1 ∧ sl ≤ o.2.2.2) (res : (Int32) ⊕ (Int32)) (hm : f_X1_isPartnerOfOthers_2 n v0 v1 v2 h = some res) (kI : ∀ y : Int32, res = .inl y → hp_V G m_X1_isPartnerOfOthers 2 [(0, .ref v0), (1, .int v1), (2, .int y)] [] h sz sl o) (kR : ∀ y : Int32, res = .inr y → o = (some (.int y), h, sz, sl)) : hp_V G m_X1_isPartnerOfOthers 2 [(0, .ref v0), (1, .int v1), (2, .int v2)] [] h sz sl o := by
  unfold f_X1_isPartnerOfOthers_2 at hm
  refine hv_iload_n 2 dX1_isPartnerOfOthers_2 rfl rfl ?_
  refine hv_iconst (5 : Int32) dX1_isPartnerOfOthers_3 (by decide) ?_
  refine hv_icmp_ge (tgt := 41) dX1_isPartnerOfOthers_4 (by decide) (fun c6 => ?_) (fun c6 => ?_)
  · rw [if_pos c6] at hm
    refine hv_iconst (1 : Int32) dX1_isPartnerOfOthers_41 (by decide) ?_
    obtain rfl := kR _ (Option.some.inj hm).symm
    exact hv_zret rfl (by decide) dX1_isPartnerOfOthers_42
  · rw [if_neg c6] at hm
    refine hv_aload_n 0 dX1_isPartnerOfOthers_7 rfl rfl ?_
    obtain ⟨x1, hx1, hm⟩ := hp_bd hm
    refine hv_get lk_f_X1_31 dX1_isPartnerOfOthers_8 (hp_fR_spec hx1) ?_
    refine hv_iload_n 2 dX1_isPartnerOfOthers_11 rfl rfl ?_
    obtain ⟨x2, hx2, hm⟩ := hp_bd hm
    refine hv_lald dX1_isPartnerOfOthers_12 hx2 ?_
    refine hv_aload_n 0 dX1_isPartnerOfOthers_13 rfl rfl ?_
    obtain ⟨x3, hx3, hm⟩ := hp_bd hm
    refine hv_get lk_f_X1_27 dX1_isPartnerOfOthers_14 (hp_fR_spec hx3) ?_
    refine hv_iload_n 1 dX1_isPartnerOfOthers_17 rfl rfl ?_
    refine hv_iconst (5 : Int32) dX1_isPartnerOfOthers_18 (by decide) ?_
    refine hv_imul dX1_isPartnerOfOthers_19 ?_
    refine hv_iload_n 2 dX1_isPartnerOfOthers_20 rfl rfl ?_
    refine hv_iadd dX1_isPartnerOfOthers_21 ?_
    obtain ⟨x4, hx4, hm⟩ := hp_bd hm
    refine hv_lald dX1_isPartnerOfOthers_22 hx4 ?_
    refine hv_ldc2 (-1 : Int64) dX1_isPartnerOfOthers_23 lk_c_X1_152 ?_
    refine hv_lxor dX1_isPartnerOfOthers_26 ?_
    refine hv_land dX1_isPartnerOfOthers_27 ?_
    refine hv_lconst (0 : Int64) dX1_isPartnerOfOthers_28 (by decide) ?_
    refine hv_lcmp dX1_isPartnerOfOthers_29 ?_
    refine hv_if_eq (tgt := 35) dX1_isPartnerOfOthers_30 (by decide) (fun c5 => ?_) (fun c5 => ?_)
    · rw [if_pos c5] at hm
      refine hv_iinc (v2 + (1 : Int32)) 2 [(2, .int (v2 + (1 : Int32))), (0, .ref v0), (1, .int v1)] dX1_isPartnerOfOthers_35 rfl rfl (by decide) rfl ?_
      refine hv_goto (tgt := 2) dX1_isPartnerOfOthers_38 (by decide) ?_
      exact hv_sub [1, 2, 0] rfl (kI (v2 + (1 : Int32)) (Option.some.inj hm).symm)
    · rw [if_neg c5] at hm
      refine hv_iconst (0 : Int32) dX1_isPartnerOfOthers_33 (by decide) ?_
      obtain rfl := kR _ (Option.some.inj hm).symm
      exact hv_zret rfl (by decide) dX1_isPartnerOfOthers_34
def fL_X1_isPartnerOfOthers_2 (n : Nat) (v0 : Nat) (v1 : Int32) (h : hp_H) (s : Int32) : Option ((Int32) ⊕ (Int32)) := f_X1_isPartnerOfOthers_2 n v0 v1 s h
theorem l_X1_isPartnerOfOthers_2 (G : hp_G) (n : Nat) (v0 : Nat) (v1 : Int32) (h : hp_H) (sz sl : Nat) (o : hp_O) (ho : sz ≤ o.2.2.1 ∧ sl ≤ o.2.2.2) : ∀ (k : Nat) (s : Int32) (x : Int32), hp_lp (fL_X1_isPartnerOfOthers_2 n v0 v1 h) k s = some x → (∀ y : Int32, x = y → o = (some (.int y), h, sz, sl)) → hp_V G m_X1_isPartnerOfOthers 2 [(0, .ref v0), (1, .int v1), (2, .int s)] [] h sz sl o := by
  intro k
  induction k with
  | zero => intro s x hx; exact (hp_lp_0 hx).elim
  | succ k ih =>
    intro s x hx k0
    obtain ⟨r, hr, hc⟩ := hp_lp_1 hx
    refine q_X1_isPartnerOfOthers_2 G n v0 v1 s h sz sl o ho r hr (fun s2 e => ?_) (fun y e => ?_)
    · rcases hc with ⟨s3, e3, hx3⟩ | e3
      · have e4 := Sum.inl.inj (e.symm.trans e3)
        subst e4
        exact ih _ _ hx3 k0
      · cases (e.symm.trans e3)
    · rcases hc with ⟨s3, e3, hx3⟩ | e3
      · cases (e.symm.trans e3)
      · exact k0 y (Sum.inr.inj (e3.symm.trans e))
def f_X1_isPartnerOfOthers_0 (n : Nat) (v0 : Nat) (v1 : Int32) (h : hp_H) : Option (Int32) :=
  (hp_lp (fL_X1_isPartnerOfOthers_2 n v0 v1 h) n (0 : Int32)).bind fun x1 =>
  some x1
set_option maxHeartbeats 1000000 in
set_option maxRecDepth 4000 in
theorem q_X1_isPartnerOfOthers_0 (G : hp_G) (n : Nat) (v0 : Nat) (v1 : Int32) (h : hp_H) (sz sl : Nat) (res : Int32) (hm : f_X1_isPartnerOfOthers_0 n v0 v1 h = some res) : hp_V G m_X1_isPartnerOfOthers 0 [(0, .ref v0), (1, .int v1)] [] h sz sl (some (.int res), h, sz, sl) := by
  have ho : sz ≤ sz ∧ sl ≤ sl := ⟨Nat.le_refl _, Nat.le_refl _⟩
  unfold f_X1_isPartnerOfOthers_0 at hm
  refine hv_iconst (0 : Int32) dX1_isPartnerOfOthers_0 (by decide) ?_
  refine hv_istore_n [(2, .int (0 : Int32)), (0, .ref v0), (1, .int v1)] dX1_isPartnerOfOthers_1 rfl (by decide) rfl ?_
  obtain ⟨x1, hx1, hm⟩ := hp_bd hm
  refine hv_sub [1, 2, 0] rfl (l_X1_isPartnerOfOthers_2 G n v0 v1 h sz sl _ ho n _ _ hx1 (fun y2 ey2 => ?_))
  · subst ey2
    obtain rfl := Option.some.inj hm
    rfl
def f_X1_isPartnerOfOthers (n : Nat) (v0 : Nat) (v1 : Int32) (h : hp_H) : Option (Int32) := (hp_ck h 1 v0).bind fun _ => f_X1_isPartnerOfOthers_0 n v0 v1 h
theorem c_X1_isPartnerOfOthers (G : hp_G) (n : Nat) (v0 : Nat) (v1 : Int32) (h : hp_H) (sz sl : Nat) (res : Int32) (hm : f_X1_isPartnerOfOthers n v0 v1 h = some res) : hp_C G m_X1_isPartnerOfOthers yX1_isPartnerOfOthers [.ref v0, .int v1] h sz sl (some (.int res), h, sz, sl) := by
  unfold f_X1_isPartnerOfOthers at hm
  obtain ⟨_, _, hm⟩ := hp_bd hm
  exact hp_C_of (by decide) rfl rfl (Nat.le_of_ble_eq_true rfl) (Nat.le_refl _) (Nat.le_refl _) (hv_sub [0, 1] rfl (q_X1_isPartnerOfOthers_0 G n v0 v1 h sz sl res hm))
theorem k_X1_isPartnerOfOthers {n : Nat} {v0 : Nat} {v1 : Int32} {h : hp_H} {res : Int32} (hm : f_X1_isPartnerOfOthers n v0 v1 h = some res) : ∃ V, h v0 = some (.inr (.inr (1, V))) := by
  unfold f_X1_isPartnerOfOthers at hm
  obtain ⟨_, hu, _⟩ := hp_bd hm
  exact hp_ck_spec hu
abbrev m_X1_areApart : hp_M := (RX1, cX1_areApart, 6, some .boolean, 1, 24, "areApart")
theorem Z_X1_areApart : hp_Y yX1_areApart m_X1_areApart 2 := Y_X1_areApart
def f_X1_areApart_70 (n : Nat) (v0 : Nat) (v1 : Int32) (v2 : Int32) (v3 : Int32) (v4 : Int32) (h : hp_H) : Option ((Int32 × hp_H) ⊕ (hp_H)) :=
  some (.inl ((v4 + (1 : Int32)), h))
set_option maxHeartbeats 1000000 in
set_option maxRecDepth 4000 in
theorem q_X1_areApart_70 (G : hp_G) (n : Nat) (v0 : Nat) (v1 : Int32) (v2 : Int32) (v3 : Int32) (v4 : Int32) (h : hp_H) (sz sl : Nat) (o : hp_O) (ho : sz ≤ o.2.2.1 ∧ sl ≤ o.2.2.2) (res : (Int32 × hp_H) ⊕ (hp_H)) (hm : f_X1_areApart_70 n v0 v1 v2 v3 v4 h = some res) (kI : ∀ y : Int32 × hp_H, res = .inl y → hp_V G m_X1_areApart 20 [(0, .ref v0), (1, .int v1), (2, .int v2), (3, .int v3), (4, .int y.1)] [] y.2 sz sl o) (kX0 : ∀ y : hp_H, res = .inr y → hp_V G m_X1_areApart 76 [(0, .ref v0), (1, .int v1)] [] y sz sl o) : hp_V G m_X1_areApart 70 [(0, .ref v0), (1, .int v1), (2, .int v2), (3, .int v3), (4, .int v4)] [] h sz sl o := by
  unfold f_X1_areApart_70 at hm
  refine hv_iinc (v4 + (1 : Int32)) 4 [(4, .int (v4 + (1 : Int32))), (0, .ref v0), (1, .int v1), (2, .int v2), (3, .int v3)] dX1_areApart_70 rfl rfl (by decide) rfl ?_
  refine hv_goto (tgt := 20) dX1_areApart_73 (by decide) ?_
  exact hv_sub [1, 2, 3, 4, 0] rfl (kI ((v4 + (1 : Int32)), h) (Option.some.inj hm).symm)
def f_X1_areApart_20 (n : Nat) (v0 : Nat) (v1 : Int32) (v2 : Int32) (v3 : Int32) (v4 : Int32) (h : hp_H) : Option ((Int32 × hp_H) ⊕ (hp_H)) :=
  if v3 ≤ v4 then
    some (.inr h)
  else
    (hp_fR h 1 v0 0).bind fun x1 =>
    (f_X5_get n x1 v2 v4 h).bind fun x2 =>
    (hp_fR h 1 v0 2).bind fun x3 =>
    (f_X0_isVariable n x3 x2 h).bind fun x4 =>
    if x4 = 0 then
      f_X1_areApart_70 n v0 v1 v2 v3 v4 h
    else
      (hp_fR h 1 v0 5).bind fun x5 =>
      (hp_aJ h x5 (x2 / (64 : Int32))).bind fun x6 =>
      (hp_sJ h x5 (x2 / (64 : Int32)) (x6 ||| ((1 : Int64) <<< (Int32.toInt64 (x2 - x2 / (64 : Int32) * (64 : Int32)) &&& 63)))).bind fun h7 =>
      f_X1_areApart_70 n v0 v1 v2 v3 v4 h7
set_option maxHeartbeats 1000000 in
set_option maxRecDepth 4000 in
theorem q_X1_areApart_20 (G : hp_G) (n : Nat) (v0 : Nat) (v1 : Int32) (v2 : Int32) (v3 : Int32) (v4 : Int32) (h : hp_H) (sz sl : Nat) (o : hp_O) (ho : sz ≤ o.2.2.1 ∧ sl ≤ o.2.2.2) (res : (Int32 × hp_H) ⊕ (hp_H)) (hm : f_X1_areApart_20 n v0 v1 v2 v3 v4 h = some res) (kI : ∀ y : Int32 × hp_H, res = .inl y → hp_V G m_X1_areApart 20 [(0, .ref v0), (1, .int v1), (2, .int v2), (3, .int v3), (4, .int y.1)] [] y.2 sz sl o) (kX0 : ∀ y : hp_H, res = .inr y → hp_V G m_X1_areApart 76 [(0, .ref v0), (1, .int v1)] [] y sz sl o) : hp_V G m_X1_areApart 20 [(0, .ref v0), (1, .int v1), (2, .int v2), (3, .int v3), (4, .int v4)] [] h sz sl o := by
  unfold f_X1_areApart_20 at hm
  refine hv_iload 4 dX1_areApart_20 rfl ?_
  refine hv_iload_n 3 dX1_areApart_22 rfl rfl ?_
  refine hv_icmp_ge (tgt := 76) dX1_areApart_23 (by decide) (fun c9 => ?_) (fun c9 => ?_)
  · rw [if_pos c9] at hm
    exact hv_sub [0, 1] rfl (kX0 h (Option.some.inj hm).symm)
  · rw [if_neg c9] at hm
    refine hv_aload_n 0 dX1_areApart_26 rfl rfl ?_
    obtain ⟨x1, hx1, hm⟩ := hp_bd hm
    refine hv_get lk_f_X1_14 dX1_areApart_27 (hp_fR_spec hx1) ?_
    refine hv_iload_n 2 dX1_areApart_30 rfl rfl ?_
    refine hv_iload 4 dX1_areApart_31 rfl ?_
    obtain ⟨x2, hx2, hm⟩ := hp_bd hm
    obtain ⟨Vx2, hVx2⟩ := k_X5_get hx2
    refine hv_callV (As := [.int v2, .int v4]) (rest := []) Z_X5_get I_X5_get lk_m_X1_110 rfl hVx2 (c_X5_get G n x1 v2 v4 h sz sl _ hx2) rfl (Nat.le_of_ble_eq_true rfl) ⟨Nat.le_of_ble_eq_true rfl, Nat.le_of_ble_eq_true rfl⟩ ho.1 ho.2 rfl dX1_areApart_33 ?_
    refine hv_as [.int x2] h rfl rfl ?_
    refine hv_istore [(5, .int x2), (0, .ref v0), (1, .int v1), (2, .int v2), (3, .int v3), (4, .int v4)] dX1_areApart_36 (by decide) rfl ?_
    refine hv_aload_n 1 dX1_areApart_38 rfl rfl ?_
    obtain ⟨x3, hx3, hm⟩ := hp_bd hm
    refine hv_get lk_f_X1_34 dX1_areApart_39 (hp_fR_spec hx3) ?_
    refine hv_iload 0 dX1_areApart_42 rfl ?_
    obtain ⟨x4, hx4, hm⟩ := hp_bd hm
    obtain ⟨Vx4, hVx4⟩ := k_X0_isVariable hx4
    refine hv_callV (As := [.int x2]) (rest := []) Z_X0_isVariable I_X0_isVariable lk_m_X1_140 rfl hVx4 (c_X0_isVariable G n x3 x2 h sz sl _ hx4) rfl (Nat.le_of_ble_eq_true rfl) ⟨Nat.le_of_ble_eq_true rfl, Nat.le_of_ble_eq_true rfl⟩ ho.1 ho.2 rfl dX1_areApart_44 ?_
    refine hv_as [.int x4] h rfl rfl ?_
    refine hv_if_eq (tgt := 70) dX1_areApart_47 (by decide) (fun c8 => ?_) (fun c8 => ?_)
    · rw [if_pos c8] at hm
      exact hv_sub [1, 2, 3, 4, 5] rfl (q_X1_areApart_70 G n v0 v1 v2 v3 v4 h sz sl o ho _ hm kI kX0)
    · rw [if_neg c8] at hm
      refine hv_aload_n 1 dX1_areApart_50 rfl rfl ?_
      obtain ⟨x5, hx5, hm⟩ := hp_bd hm
      refine hv_get lk_f_X1_31 dX1_areApart_51 (hp_fR_spec hx5) ?_
      refine hv_iload 0 dX1_areApart_54 rfl ?_
      refine hv_bipush (64 : Int32) dX1_areApart_56 (by decide) ?_
      refine hv_idiv dX1_areApart_58 (by decide) ?_
      refine hv_dup2_11 dX1_areApart_59 rfl rfl ?_
      obtain ⟨x6, hx6, hm⟩ := hp_bd hm
      refine hv_lald dX1_areApart_60 hx6 ?_
      refine hv_lconst (1 : Int64) dX1_areApart_61 (by decide) ?_
      refine hv_iload 0 dX1_areApart_62 rfl ?_
      refine hv_bipush (64 : Int32) dX1_areApart_64 (by decide) ?_
      refine hv_irem dX1_areApart_66 (by decide) ?_
      refine hv_lshl dX1_areApart_67 ?_
      refine hv_lor dX1_areApart_68 ?_
      obtain ⟨h7, hh7, hm⟩ := hp_bd hm
      refine hv_last dX1_areApart_69 hh7 ?_
      exact hv_sub [1, 2, 3, 4, 5] rfl (q_X1_areApart_70 G n v0 v1 v2 v3 v4 h7 sz sl o ho _ hm kI kX0)
def fL_X1_areApart_20 (n : Nat) (v0 : Nat) (v1 : Int32) (v2 : Int32) (v3 : Int32) (s : Int32 × hp_H) : Option ((Int32 × hp_H) ⊕ (hp_H)) := f_X1_areApart_20 n v0 v1 v2 v3 s.1 s.2
theorem l_X1_areApart_20 (G : hp_G) (n : Nat) (v0 : Nat) (v1 : Int32) (v2 : Int32) (v3 : Int32) (sz sl : Nat) (o : hp_O) (ho : sz ≤ o.2.2.1 ∧ sl ≤ o.2.2.2) : ∀ (k : Nat) (s : Int32 × hp_H) (x : hp_H), hp_lp (fL_X1_areApart_20 n v0 v1 v2 v3) k s = some x → (∀ y : hp_H, x = y → hp_V G m_X1_areApart 76 [(0, .ref v0), (1, .int v1)] [] y sz sl o) → hp_V G m_X1_areApart 20 [(0, .ref v0), (1, .int v1), (2, .int v2), (3, .int v3), (4, .int s.1)] [] s.2 sz sl o := by
  intro k
  induction k with
  | zero => intro s x hx; exact (hp_lp_0 hx).elim
  | succ k ih =>
    intro s x hx k0
    obtain ⟨r, hr, hc⟩ := hp_lp_1 hx
    refine q_X1_areApart_20 G n v0 v1 v2 v3 s.1 s.2 sz sl o ho r hr (fun s2 e => ?_) (fun y e => ?_)
    · rcases hc with ⟨s3, e3, hx3⟩ | e3
      · have e4 := Sum.inl.inj (e.symm.trans e3)
        subst e4
        exact ih _ _ hx3 k0
      · cases (e.symm.trans e3)
    · rcases hc with ⟨s3, e3, hx3⟩ | e3
      · cases (e.symm.trans e3)
      · exact k0 y (Sum.inr.inj (e3.symm.trans e))
def f_X1_areApart_129 (n : Nat) (v0 : Nat) (v1 : Int32) (v3 : Int32) (v4 : Int32) (h : hp_H) : Option ((Int32) ⊕ (Int32)) :=
  some (.inl (v4 + (1 : Int32)))
set_option maxHeartbeats 1000000 in
set_option maxRecDepth 4000 in
theorem q_X1_areApart_129 (G : hp_G) (n : Nat) (v0 : Nat) (v1 : Int32) (v3 : Int32) (v4 : Int32) (h : hp_H) (sz sl : Nat) (o : hp_O) (ho : sz ≤ o.2.2.1 ∧ sl ≤ o.2.2.2) (res : (Int32) ⊕ (Int32)) (hm : f_X1_areApart_129 n v0 v1 v3 v4 h = some res) (kI : ∀ y : Int32, res = .inl y → hp_V G m_X1_areApart 88 [(0, .ref v0), (1, .int v1), (3, .int v3), (4, .int y)] [] h sz sl o) (kR : ∀ y : Int32, res = .inr y → o = (some (.int y), h, sz, sl)) : hp_V G m_X1_areApart 129 [(0, .ref v0), (1, .int v1), (3, .int v3), (4, .int v4)] [] h sz sl o := by
  unfold f_X1_areApart_129 at hm
  refine hv_iinc (v4 + (1 : Int32)) 3 [(4, .int (v4 + (1 : Int32))), (0, .ref v0), (1, .int v1), (3, .int v3)] dX1_areApart_129 rfl rfl (by decide) rfl ?_
  refine hv_goto (tgt := 88) dX1_areApart_132 (by decide) ?_
  exact hv_sub [1, 2, 3, 0] rfl (kI (v4 + (1 : Int32)) (Option.some.inj hm).symm)
def f_X1_areApart_88 (n : Nat) (v0 : Nat) (v1 : Int32) (v3 : Int32) (v4 : Int32) (h : hp_H) : Option ((Int32) ⊕ (Int32)) :=
  if v3 ≤ v4 then
    some (.inr (1 : Int32))
  else
    (hp_fR h 1 v0 0).bind fun x1 =>
    (f_X5_get n x1 v1 v4 h).bind fun x2 =>
    (hp_fR h 1 v0 2).bind fun x3 =>
    (f_X0_isVariable n x3 x2 h).bind fun x4 =>
    if x4 = 0 then
      f_X1_areApart_129 n v0 v1 v3 v4 h
    else
      (f_X1_isPartnerOfOthers n v0 x2 h).bind fun x5 =>
      if x5 = 0 then
        some (.inr (0 : Int32))
      else
        f_X1_areApart_129 n v0 v1 v3 v4 h
set_option maxHeartbeats 1000000 in
set_option maxRecDepth 4000 in
theorem q_X1_areApart_88 (G : hp_G) (n : Nat) (v0 : Nat) (v1 : Int32) (v3 : Int32) (v4 : Int32) (h : hp_H) (sz sl : Nat) (o : hp_O) (ho : sz ≤ o.2.2.1 ∧ sl ≤ o.2.2.2) (res : (Int32) ⊕ (Int32)) (hm : f_X1_areApart_88 n v0 v1 v3 v4 h = some res) (kI : ∀ y : Int32, res = .inl y → hp_V G m_X1_areApart 88 [(0, .ref v0), (1, .int v1), (3, .int v3), (4, .int y)] [] h sz sl o) (kR : ∀ y : Int32, res = .inr y → o = (some (.int y), h, sz, sl)) : hp_V G m_X1_areApart 88 [(0, .ref v0), (1, .int v1), (3, .int v3), (4, .int v4)] [] h sz sl o := by
  unfold f_X1_areApart_88 at hm
  refine hv_iload 3 dX1_areApart_88 rfl ?_
  refine hv_iload_n 2 dX1_areApart_90 rfl rfl ?_
  refine hv_icmp_ge (tgt := 135) dX1_areApart_91 (by decide) (fun c8 => ?_) (fun c8 => ?_)
  · rw [if_pos c8] at hm
    refine hv_iconst (1 : Int32) dX1_areApart_135 (by decide) ?_
    obtain rfl := kR _ (Option.some.inj hm).symm
    exact hv_zret rfl (by decide) dX1_areApart_136
  · rw [if_neg c8] at hm
    refine hv_aload_n 0 dX1_areApart_94 rfl rfl ?_
    obtain ⟨x1, hx1, hm⟩ := hp_bd hm
    refine hv_get lk_f_X1_14 dX1_areApart_95 (hp_fR_spec hx1) ?_
    refine hv_iload_n 1 dX1_areApart_98 rfl rfl ?_
    refine hv_iload 3 dX1_areApart_99 rfl ?_
    obtain ⟨x2, hx2, hm⟩ := hp_bd hm
    obtain ⟨Vx2, hVx2⟩ := k_X5_get hx2
    refine hv_callV (As := [.int v1, .int v4]) (rest := []) Z_X5_get I_X5_get lk_m_X1_110 rfl hVx2 (c_X5_get G n x1 v1 v4 h sz sl _ hx2) rfl (Nat.le_of_ble_eq_true rfl) ⟨Nat.le_of_ble_eq_true rfl, Nat.le_of_ble_eq_true rfl⟩ ho.1 ho.2 rfl dX1_areApart_101 ?_
    refine hv_as [.int x2] h rfl rfl ?_
    refine hv_istore [(5, .int x2), (0, .ref v0), (1, .int v1), (3, .int v3), (4, .int v4)] dX1_areApart_104 (by decide) rfl ?_
    refine hv_aload_n 1 dX1_areApart_106 rfl rfl ?_
    obtain ⟨x3, hx3, hm⟩ := hp_bd hm
    refine hv_get lk_f_X1_34 dX1_areApart_107 (hp_fR_spec hx3) ?_
    refine hv_iload 0 dX1_areApart_110 rfl ?_
    obtain ⟨x4, hx4, hm⟩ := hp_bd hm
    obtain ⟨Vx4, hVx4⟩ := k_X0_isVariable hx4
    refine hv_callV (As := [.int x2]) (rest := []) Z_X0_isVariable I_X0_isVariable lk_m_X1_140 rfl hVx4 (c_X0_isVariable G n x3 x2 h sz sl _ hx4) rfl (Nat.le_of_ble_eq_true rfl) ⟨Nat.le_of_ble_eq_true rfl, Nat.le_of_ble_eq_true rfl⟩ ho.1 ho.2 rfl dX1_areApart_112 ?_
    refine hv_as [.int x4] h rfl rfl ?_
    refine hv_if_eq (tgt := 129) dX1_areApart_115 (by decide) (fun c7 => ?_) (fun c7 => ?_)
    · rw [if_pos c7] at hm
      exact hv_sub [1, 2, 3, 4] rfl (q_X1_areApart_129 G n v0 v1 v3 v4 h sz sl o ho _ hm kI kR)
    · rw [if_neg c7] at hm
      refine hv_aload_n 1 dX1_areApart_118 rfl rfl ?_
      refine hv_iload 0 dX1_areApart_119 rfl ?_
      obtain ⟨x5, hx5, hm⟩ := hp_bd hm
      obtain ⟨Vx5, hVx5⟩ := k_X1_isPartnerOfOthers hx5
      refine hv_callV (As := [.int x2]) (rest := []) Z_X1_isPartnerOfOthers I_X1_isPartnerOfOthers lk_m_X1_149 rfl hVx5 (c_X1_isPartnerOfOthers G n v0 x2 h sz sl _ hx5) rfl (Nat.le_of_ble_eq_true rfl) ⟨Nat.le_of_ble_eq_true rfl, Nat.le_of_ble_eq_true rfl⟩ ho.1 ho.2 rfl dX1_areApart_121 ?_
      refine hv_as [.int x5] h rfl rfl ?_
      refine hv_if_ne (tgt := 129) dX1_areApart_124 (by decide) (fun c6 => ?_) (fun c6 => ?_)
      · rw [if_neg c6] at hm
        exact hv_sub [1, 2, 3, 4] rfl (q_X1_areApart_129 G n v0 v1 v3 v4 h sz sl o ho _ hm kI kR)
      · rw [if_pos c6] at hm
        refine hv_iconst (0 : Int32) dX1_areApart_127 (by decide) ?_
        obtain rfl := kR _ (Option.some.inj hm).symm
        exact hv_zret rfl (by decide) dX1_areApart_128
def fL_X1_areApart_88 (n : Nat) (v0 : Nat) (v1 : Int32) (v3 : Int32) (h : hp_H) (s : Int32) : Option ((Int32) ⊕ (Int32)) := f_X1_areApart_88 n v0 v1 v3 s h
theorem l_X1_areApart_88 (G : hp_G) (n : Nat) (v0 : Nat) (v1 : Int32) (v3 : Int32) (h : hp_H) (sz sl : Nat) (o : hp_O) (ho : sz ≤ o.2.2.1 ∧ sl ≤ o.2.2.2) : ∀ (k : Nat) (s : Int32) (x : Int32), hp_lp (fL_X1_areApart_88 n v0 v1 v3 h) k s = some x → (∀ y : Int32, x = y → o = (some (.int y), h, sz, sl)) → hp_V G m_X1_areApart 88 [(0, .ref v0), (1, .int v1), (3, .int v3), (4, .int s)] [] h sz sl o := by
  intro k
  induction k with
  | zero => intro s x hx; exact (hp_lp_0 hx).elim
  | succ k ih =>
    intro s x hx k0
    obtain ⟨r, hr, hc⟩ := hp_lp_1 hx
    refine q_X1_areApart_88 G n v0 v1 v3 s h sz sl o ho r hr (fun s2 e => ?_) (fun y e => ?_)
    · rcases hc with ⟨s3, e3, hx3⟩ | e3
      · have e4 := Sum.inl.inj (e.symm.trans e3)
        subst e4
        exact ih _ _ hx3 k0
      · cases (e.symm.trans e3)
    · rcases hc with ⟨s3, e3, hx3⟩ | e3
      · cases (e.symm.trans e3)
      · exact k0 y (Sum.inr.inj (e3.symm.trans e))
def f_X1_areApart_0 (n : Nat) (v0 : Nat) (v1 : Int32) (v2 : Int32) (h : hp_H) : Option (Int32 × hp_H) :=
  (hp_fR h 1 v0 5).bind fun x1 =>
  (f_J7_fill_d0a16 n x1 (0 : Int64) h).bind fun x2 =>
  (hp_fR x2 1 v0 0).bind fun x3 =>
  (f_X5_size n x3 v2 x2).bind fun x4 =>
  (hp_lp (fL_X1_areApart_20 n v0 v1 v2 x4) n ((1 : Int32), x2)).bind fun x5 =>
  (hp_fR x5 1 v0 0).bind fun x7 =>
  (f_X5_size n x7 v1 x5).bind fun x8 =>
  (hp_lp (fL_X1_areApart_88 n v0 v1 x8 x5) n (1 : Int32)).bind fun x9 =>
  some (x9, x5)
set_option maxHeartbeats 1000000 in
set_option maxRecDepth 4000 in
theorem q_X1_areApart_0 (G : hp_G) (n : Nat) (v0 : Nat) (v1 : Int32) (v2 : Int32) (h : hp_H) (sz sl : Nat) (res : Int32 × hp_H) (hm : f_X1_areApart_0 n v0 v1 v2 h = some res) : hp_V G m_X1_areApart 0 [(0, .ref v0), (1, .int v1), (2, .int v2)] [] h sz sl (some (.int res.1), res.2, sz, sl) := by
  have ho : sz ≤ sz ∧ sl ≤ sl := ⟨Nat.le_refl _, Nat.le_refl _⟩
  unfold f_X1_areApart_0 at hm
  refine hv_aload_n 0 dX1_areApart_0 rfl rfl ?_
  obtain ⟨x1, hx1, hm⟩ := hp_bd hm
  refine hv_get lk_f_X1_31 dX1_areApart_1 (hp_fR_spec hx1) ?_
  refine hv_lconst (0 : Int64) dX1_areApart_4 (by decide) ?_
  obtain ⟨x2, hx2, hm⟩ := hp_bd hm
  refine hv_callS (As := [.ref x1, .long (0 : Int64)]) (rest := []) Z_J7_fill_d0a16 I_J7_fill_d0a16 lk_m_X1_98 (c_J7_fill_d0a16 G n x1 (0 : Int64) h sz sl _ hx2) rfl (Nat.le_of_ble_eq_true rfl) ⟨Nat.le_of_ble_eq_true rfl, Nat.le_of_ble_eq_true rfl⟩ ho.1 ho.2 rfl dX1_areApart_5 ?_
  refine hv_as [] x2 rfl rfl ?_
  refine hv_aload_n 0 dX1_areApart_8 rfl rfl ?_
  obtain ⟨x3, hx3, hm⟩ := hp_bd hm
  refine hv_get lk_f_X1_14 dX1_areApart_9 (hp_fR_spec hx3) ?_
  refine hv_iload_n 2 dX1_areApart_12 rfl rfl ?_
  obtain ⟨x4, hx4, hm⟩ := hp_bd hm
  obtain ⟨Vx4, hVx4⟩ := k_X5_size hx4
  refine hv_callV (As := [.int v2]) (rest := []) Z_X5_size I_X5_size lk_m_X1_107 rfl hVx4 (c_X5_size G n x3 v2 x2 sz sl _ hx4) rfl (Nat.le_of_ble_eq_true rfl) ⟨Nat.le_of_ble_eq_true rfl, Nat.le_of_ble_eq_true rfl⟩ ho.1 ho.2 rfl dX1_areApart_13 ?_
  refine hv_as [.int x4] x2 rfl rfl ?_
  refine hv_istore_n [(3, .int x4), (0, .ref v0), (1, .int v1), (2, .int v2)] dX1_areApart_16 rfl (by decide) rfl ?_
  refine hv_iconst (1 : Int32) dX1_areApart_17 (by decide) ?_
  refine hv_istore [(4, .int (1 : Int32)), (3, .int x4), (0, .ref v0), (1, .int v1), (2, .int v2)] dX1_areApart_18 (by decide) rfl ?_
  obtain ⟨x5, hx5, hm⟩ := hp_bd hm
  refine hv_sub [2, 3, 4, 1, 0] rfl (l_X1_areApart_20 G n v0 v1 v2 x4 sz sl _ ho n _ _ hx5 (fun y6 ey6 => ?_))
  · subst ey6
    refine hv_aload_n 0 dX1_areApart_76 rfl rfl ?_
    obtain ⟨x7, hx7, hm⟩ := hp_bd hm
    refine hv_get lk_f_X1_14 dX1_areApart_77 (hp_fR_spec hx7) ?_
    refine hv_iload_n 1 dX1_areApart_80 rfl rfl ?_
    obtain ⟨x8, hx8, hm⟩ := hp_bd hm
    obtain ⟨Vx8, hVx8⟩ := k_X5_size hx8
    refine hv_callV (As := [.int v1]) (rest := []) Z_X5_size I_X5_size lk_m_X1_107 rfl hVx8 (c_X5_size G n x7 v1 x5 sz sl _ hx8) rfl (Nat.le_of_ble_eq_true rfl) ⟨Nat.le_of_ble_eq_true rfl, Nat.le_of_ble_eq_true rfl⟩ ho.1 ho.2 rfl dX1_areApart_81 ?_
    refine hv_as [.int x8] x5 rfl rfl ?_
    refine hv_istore_n [(3, .int x8), (0, .ref v0), (1, .int v1)] dX1_areApart_84 rfl (by decide) rfl ?_
    refine hv_iconst (1 : Int32) dX1_areApart_85 (by decide) ?_
    refine hv_istore [(4, .int (1 : Int32)), (3, .int x8), (0, .ref v0), (1, .int v1)] dX1_areApart_86 (by decide) rfl ?_
    obtain ⟨x9, hx9, hm⟩ := hp_bd hm
    refine hv_sub [2, 3, 1, 0] rfl (l_X1_areApart_88 G n v0 v1 x8 x5 sz sl _ ho n _ _ hx9 (fun y10 ey10 => ?_))
    · subst ey10
      obtain rfl := Option.some.inj hm
      rfl
def f_X1_areApart (n : Nat) (v0 : Nat) (v1 : Int32) (v2 : Int32) (h : hp_H) : Option (Int32 × hp_H) := (hp_ck h 1 v0).bind fun _ => f_X1_areApart_0 n v0 v1 v2 h
theorem c_X1_areApart (G : hp_G) (n : Nat) (v0 : Nat) (v1 : Int32) (v2 : Int32) (h : hp_H) (sz sl : Nat) (res : Int32 × hp_H) (hm : f_X1_areApart n v0 v1 v2 h = some res) : hp_C G m_X1_areApart yX1_areApart [.ref v0, .int v1, .int v2] h sz sl (some (.int res.1), res.2, sz, sl) := by
  unfold f_X1_areApart at hm
  obtain ⟨_, _, hm⟩ := hp_bd hm
  exact hp_C_of (by decide) rfl rfl (Nat.le_of_ble_eq_true rfl) (Nat.le_refl _) (Nat.le_refl _) (hv_sub [0, 1, 2] rfl (q_X1_areApart_0 G n v0 v1 v2 h sz sl res hm))
theorem k_X1_areApart {n : Nat} {v0 : Nat} {v1 : Int32} {v2 : Int32} {h : hp_H} {res : Int32 × hp_H} (hm : f_X1_areApart n v0 v1 v2 h = some res) : ∃ V, h v0 = some (.inr (.inr (1, V))) := by
  unfold f_X1_areApart at hm
  obtain ⟨_, hu, _⟩ := hp_bd hm
  exact hp_ck_spec hu
abbrev m_X1_keepsApart : hp_M := (RX1, cX1_keepsApart, 5, some .boolean, 2, 49, "keepsApart")
theorem Z_X1_keepsApart : hp_Y yX1_keepsApart m_X1_keepsApart 1 := Y_X1_keepsApart
def f_X1_keepsApart_14 (n : Nat) (v0 : Nat) (v1 : Int32) (v2 : Int32) (v3 : Int32) (h : hp_H) : Option ((Int32 × hp_H) ⊕ (Int32 × hp_H)) :=
  if v2 ≤ v3 then
    some (.inr ((1 : Int32), h))
  else
    (hp_fR h 1 v0 2).bind fun x1 =>
    (hp_fR h 0 x1 13).bind fun x2 =>
    (f_X5_get n x2 v1 v3 h).bind fun x3 =>
    (hp_fR h 1 v0 3).bind fun x4 =>
    (hp_aI h 0 x4 (x3 / (300 : Int32))).bind fun x5 =>
    (hp_fR h 1 v0 3).bind fun x6 =>
    (hp_aI h 0 x6 (x3 - x3 / (300 : Int32) * (300 : Int32))).bind fun x7 =>
    (f_X1_areApart n v0 x5 x7 h).bind fun x8 =>
    if x8.1 = 0 then
      some (.inr ((0 : Int32), x8.2))
    else
      some (.inl ((v3 + (1 : Int32)), x8.2))
set_option maxHeartbeats 1000000 in
set_option maxRecDepth 4000 in
theorem q_X1_keepsApart_14 (G : hp_G) (n : Nat) (v0 : Nat) (v1 : Int32) (v2 : Int32) (v3 : Int32) (h : hp_H) (sz sl : Nat) (o : hp_O) (ho : sz ≤ o.2.2.1 ∧ sl ≤ o.2.2.2) (res : (Int32 × hp_H) ⊕ (Int32 × hp_H)) (hm : f_X1_keepsApart_14 n v0 v1 v2 v3 h = some res) (kI : ∀ y : Int32 × hp_H, res = .inl y → hp_V G m_X1_keepsApart 14 [(0, .ref v0), (1, .int v1), (2, .int v2), (3, .int y.1)] [] y.2 sz sl o) (kR : ∀ y : Int32 × hp_H, res = .inr y → o = (some (.int y.1), y.2, sz, sl)) : hp_V G m_X1_keepsApart 14 [(0, .ref v0), (1, .int v1), (2, .int v2), (3, .int v3)] [] h sz sl o := by
  unfold f_X1_keepsApart_14 at hm
  refine hv_iload_n 3 dX1_keepsApart_14 rfl rfl ?_
  refine hv_iload_n 2 dX1_keepsApart_15 rfl rfl ?_
  refine hv_icmp_ge (tgt := 70) dX1_keepsApart_16 (by decide) (fun c10 => ?_) (fun c10 => ?_)
  · rw [if_pos c10] at hm
    refine hv_iconst (1 : Int32) dX1_keepsApart_70 (by decide) ?_
    obtain rfl := kR _ (Option.some.inj hm).symm
    exact hv_zret rfl (by decide) dX1_keepsApart_71
  · rw [if_neg c10] at hm
    refine hv_aload_n 0 dX1_keepsApart_19 rfl rfl ?_
    obtain ⟨x1, hx1, hm⟩ := hp_bd hm
    refine hv_get lk_f_X1_34 dX1_keepsApart_20 (hp_fR_spec hx1) ?_
    obtain ⟨x2, hx2, hm⟩ := hp_bd hm
    refine hv_get lk_f_X1_143 dX1_keepsApart_23 (hp_fR_spec hx2) ?_
    refine hv_iload_n 1 dX1_keepsApart_26 rfl rfl ?_
    refine hv_iload_n 3 dX1_keepsApart_27 rfl rfl ?_
    obtain ⟨x3, hx3, hm⟩ := hp_bd hm
    obtain ⟨Vx3, hVx3⟩ := k_X5_get hx3
    refine hv_callV (As := [.int v1, .int v3]) (rest := []) Z_X5_get I_X5_get lk_m_X1_110 rfl hVx3 (c_X5_get G n x2 v1 v3 h sz sl _ hx3) rfl (Nat.le_of_ble_eq_true rfl) ⟨Nat.le_of_ble_eq_true rfl, Nat.le_of_ble_eq_true rfl⟩ ho.1 ho.2 rfl dX1_keepsApart_28 ?_
    refine hv_as [.int x3] h rfl rfl ?_
    refine hv_istore [(4, .int x3), (0, .ref v0), (1, .int v1), (2, .int v2), (3, .int v3)] dX1_keepsApart_31 (by decide) rfl ?_
    refine hv_aload_n 1 dX1_keepsApart_33 rfl rfl ?_
    refine hv_aload_n 1 dX1_keepsApart_34 rfl rfl ?_
    obtain ⟨x4, hx4, hm⟩ := hp_bd hm
    refine hv_get lk_f_X1_23 dX1_keepsApart_35 (hp_fR_spec hx4) ?_
    refine hv_iload 0 dX1_keepsApart_38 rfl ?_
    refine hv_sipush (300 : Int32) dX1_keepsApart_40 (by decide) ?_
    refine hv_idiv dX1_keepsApart_43 (by decide) ?_
    obtain ⟨x5, hx5, hm⟩ := hp_bd hm
    refine hv_iald dX1_keepsApart_44 hx5 ?_
    refine hv_aload_n 1 dX1_keepsApart_45 rfl rfl ?_
    obtain ⟨x6, hx6, hm⟩ := hp_bd hm
    refine hv_get lk_f_X1_23 dX1_keepsApart_46 (hp_fR_spec hx6) ?_
    refine hv_iload 0 dX1_keepsApart_49 rfl ?_
    refine hv_sipush (300 : Int32) dX1_keepsApart_51 (by decide) ?_
    refine hv_irem dX1_keepsApart_54 (by decide) ?_
    obtain ⟨x7, hx7, hm⟩ := hp_bd hm
    refine hv_iald dX1_keepsApart_55 hx7 ?_
    obtain ⟨x8, hx8, hm⟩ := hp_bd hm
    obtain ⟨Vx8, hVx8⟩ := k_X1_areApart hx8
    refine hv_callV (As := [.int x5, .int x7]) (rest := []) Z_X1_areApart I_X1_areApart lk_m_X1_146 rfl hVx8 (c_X1_areApart G n v0 x5 x7 h sz sl _ hx8) rfl (Nat.le_of_ble_eq_true rfl) ⟨Nat.le_of_ble_eq_true rfl, Nat.le_of_ble_eq_true rfl⟩ ho.1 ho.2 rfl dX1_keepsApart_56 ?_
    refine hv_as [.int x8.1] x8.2 rfl rfl ?_
    refine hv_if_ne (tgt := 64) dX1_keepsApart_59 (by decide) (fun c9 => ?_) (fun c9 => ?_)
    · rw [if_neg c9] at hm
      refine hv_iinc (v3 + (1 : Int32)) 4 [(3, .int (v3 + (1 : Int32))), (4, .int x3), (0, .ref v0), (1, .int v1), (2, .int v2)] dX1_keepsApart_64 rfl rfl (by decide) rfl ?_
      refine hv_goto (tgt := 14) dX1_keepsApart_67 (by decide) ?_
      exact hv_sub [2, 3, 4, 0] rfl (kI ((v3 + (1 : Int32)), x8.2) (Option.some.inj hm).symm)
    · rw [if_pos c9] at hm
      refine hv_iconst (0 : Int32) dX1_keepsApart_62 (by decide) ?_
      obtain rfl := kR _ (Option.some.inj hm).symm
      exact hv_zret rfl (by decide) dX1_keepsApart_63
def fL_X1_keepsApart_14 (n : Nat) (v0 : Nat) (v1 : Int32) (v2 : Int32) (s : Int32 × hp_H) : Option ((Int32 × hp_H) ⊕ (Int32 × hp_H)) := f_X1_keepsApart_14 n v0 v1 v2 s.1 s.2
theorem l_X1_keepsApart_14 (G : hp_G) (n : Nat) (v0 : Nat) (v1 : Int32) (v2 : Int32) (sz sl : Nat) (o : hp_O) (ho : sz ≤ o.2.2.1 ∧ sl ≤ o.2.2.2) : ∀ (k : Nat) (s : Int32 × hp_H) (x : Int32 × hp_H), hp_lp (fL_X1_keepsApart_14 n v0 v1 v2) k s = some x → (∀ y : Int32 × hp_H, x = y → o = (some (.int y.1), y.2, sz, sl)) → hp_V G m_X1_keepsApart 14 [(0, .ref v0), (1, .int v1), (2, .int v2), (3, .int s.1)] [] s.2 sz sl o := by
  intro k
  induction k with
  | zero => intro s x hx; exact (hp_lp_0 hx).elim
  | succ k ih =>
    intro s x hx k0
    obtain ⟨r, hr, hc⟩ := hp_lp_1 hx
    refine q_X1_keepsApart_14 G n v0 v1 v2 s.1 s.2 sz sl o ho r hr (fun s2 e => ?_) (fun y e => ?_)
    · rcases hc with ⟨s3, e3, hx3⟩ | e3
      · have e4 := Sum.inl.inj (e.symm.trans e3)
        subst e4
        exact ih _ _ hx3 k0
      · cases (e.symm.trans e3)
    · rcases hc with ⟨s3, e3, hx3⟩ | e3
      · cases (e.symm.trans e3)
      · exact k0 y (Sum.inr.inj (e3.symm.trans e))
def f_X1_keepsApart_0 (n : Nat) (v0 : Nat) (v1 : Int32) (h : hp_H) : Option (Int32 × hp_H) :=
  (hp_fR h 1 v0 2).bind fun x1 =>
  (hp_fR h 0 x1 13).bind fun x2 =>
  (f_X5_size n x2 v1 h).bind fun x3 =>
  (hp_lp (fL_X1_keepsApart_14 n v0 v1 x3) n ((0 : Int32), h)).bind fun x4 =>
  some (x4.1, x4.2)
set_option maxHeartbeats 1000000 in
set_option maxRecDepth 4000 in
theorem q_X1_keepsApart_0 (G : hp_G) (n : Nat) (v0 : Nat) (v1 : Int32) (h : hp_H) (sz sl : Nat) (res : Int32 × hp_H) (hm : f_X1_keepsApart_0 n v0 v1 h = some res) : hp_V G m_X1_keepsApart 0 [(0, .ref v0), (1, .int v1)] [] h sz sl (some (.int res.1), res.2, sz, sl) := by
  have ho : sz ≤ sz ∧ sl ≤ sl := ⟨Nat.le_refl _, Nat.le_refl _⟩
  unfold f_X1_keepsApart_0 at hm
  refine hv_aload_n 0 dX1_keepsApart_0 rfl rfl ?_
  obtain ⟨x1, hx1, hm⟩ := hp_bd hm
  refine hv_get lk_f_X1_34 dX1_keepsApart_1 (hp_fR_spec hx1) ?_
  obtain ⟨x2, hx2, hm⟩ := hp_bd hm
  refine hv_get lk_f_X1_143 dX1_keepsApart_4 (hp_fR_spec hx2) ?_
  refine hv_iload_n 1 dX1_keepsApart_7 rfl rfl ?_
  obtain ⟨x3, hx3, hm⟩ := hp_bd hm
  obtain ⟨Vx3, hVx3⟩ := k_X5_size hx3
  refine hv_callV (As := [.int v1]) (rest := []) Z_X5_size I_X5_size lk_m_X1_107 rfl hVx3 (c_X5_size G n x2 v1 h sz sl _ hx3) rfl (Nat.le_of_ble_eq_true rfl) ⟨Nat.le_of_ble_eq_true rfl, Nat.le_of_ble_eq_true rfl⟩ ho.1 ho.2 rfl dX1_keepsApart_8 ?_
  refine hv_as [.int x3] h rfl rfl ?_
  refine hv_istore_n [(2, .int x3), (0, .ref v0), (1, .int v1)] dX1_keepsApart_11 rfl (by decide) rfl ?_
  refine hv_iconst (0 : Int32) dX1_keepsApart_12 (by decide) ?_
  refine hv_istore_n [(3, .int (0 : Int32)), (2, .int x3), (0, .ref v0), (1, .int v1)] dX1_keepsApart_13 rfl (by decide) rfl ?_
  obtain ⟨x4, hx4, hm⟩ := hp_bd hm
  refine hv_sub [2, 3, 1, 0] rfl (l_X1_keepsApart_14 G n v0 v1 x3 sz sl _ ho n _ _ hx4 (fun y5 ey5 => ?_))
  · subst ey5
    obtain rfl := Option.some.inj hm
    rfl
def f_X1_keepsApart (n : Nat) (v0 : Nat) (v1 : Int32) (h : hp_H) : Option (Int32 × hp_H) := (hp_ck h 1 v0).bind fun _ => f_X1_keepsApart_0 n v0 v1 h
theorem c_X1_keepsApart (G : hp_G) (n : Nat) (v0 : Nat) (v1 : Int32) (h : hp_H) (sz sl : Nat) (res : Int32 × hp_H) (hm : f_X1_keepsApart n v0 v1 h = some res) : hp_C G m_X1_keepsApart yX1_keepsApart [.ref v0, .int v1] h sz sl (some (.int res.1), res.2, sz, sl) := by
  unfold f_X1_keepsApart at hm
  obtain ⟨_, _, hm⟩ := hp_bd hm
  exact hp_C_of (by decide) rfl rfl (Nat.le_of_ble_eq_true rfl) (Nat.le_refl _) (Nat.le_refl _) (hv_sub [0, 1] rfl (q_X1_keepsApart_0 G n v0 v1 h sz sl res hm))
theorem k_X1_keepsApart {n : Nat} {v0 : Nat} {v1 : Int32} {h : hp_H} {res : Int32 × hp_H} (hm : f_X1_keepsApart n v0 v1 h = some res) : ∃ V, h v0 = some (.inr (.inr (1, V))) := by
  unfold f_X1_keepsApart at hm
  obtain ⟨_, hu, _⟩ := hp_bd hm
  exact hp_ck_spec hu
abbrev m_X1_sizeOf : hp_M := (RX1, cX1_sizeOf, 6, some .int, 1, 22, "sizeOf")
theorem Z_X1_sizeOf : hp_Y yX1_sizeOf m_X1_sizeOf 1 := Y_X1_sizeOf
def f_X1_sizeOf_71 (n : Nat) (v0 : Nat) (v1 : Int32) (v3 : Int32) (v4 : Int32) (s0 : Int32) (s1 : Int32) (h : hp_H) : Option ((Int32 × Int32) ⊕ (Int32)) :=
  some (.inl ((s1 + s0), (v4 + (1 : Int32))))
set_option maxHeartbeats 1000000 in
set_option maxRecDepth 4000 in
theorem q_X1_sizeOf_71 (G : hp_G) (n : Nat) (v0 : Nat) (v1 : Int32) (v3 : Int32) (v4 : Int32) (s0 : Int32) (s1 : Int32) (h : hp_H) (sz sl : Nat) (o : hp_O) (ho : sz ≤ o.2.2.1 ∧ sl ≤ o.2.2.2) (res : (Int32 × Int32) ⊕ (Int32)) (hm : f_X1_sizeOf_71 n v0 v1 v3 v4 s0 s1 h = some res) (kI : ∀ y : Int32 × Int32, res = .inl y → hp_V G m_X1_sizeOf 17 [(0, .ref v0), (1, .int v1), (2, .int y.1), (3, .int v3), (4, .int y.2)] [] h sz sl o) (kR : ∀ y : Int32, res = .inr y → o = (some (.int y), h, sz, sl)) : hp_V G m_X1_sizeOf 71 [(0, .ref v0), (1, .int v1), (3, .int v3), (4, .int v4)] [.int s0, .int s1] h sz sl o := by
  unfold f_X1_sizeOf_71 at hm
  refine hv_iadd dX1_sizeOf_71 ?_
  refine hv_istore_n [(2, .int (s1 + s0)), (0, .ref v0), (1, .int v1), (3, .int v3), (4, .int v4)] dX1_sizeOf_72 rfl (by decide) rfl ?_
  refine hv_iinc (v4 + (1 : Int32)) 4 [(4, .int (v4 + (1 : Int32))), (2, .int (s1 + s0)), (0, .ref v0), (1, .int v1), (3, .int v3)] dX1_sizeOf_73 rfl rfl (by decide) rfl ?_
  refine hv_goto (tgt := 17) dX1_sizeOf_76 (by decide) ?_
  exact hv_sub [2, 3, 1, 4, 0] rfl (kI ((s1 + s0), (v4 + (1 : Int32))) (Option.some.inj hm).symm)
def f_X1_sizeOf_17 (n : Nat) (v0 : Nat) (v1 : Int32) (v2 : Int32) (v3 : Int32) (v4 : Int32) (h : hp_H) : Option ((Int32 × Int32) ⊕ (Int32)) :=
  if v3 ≤ v4 then
    some (.inr v2)
  else
    (hp_fR h 1 v0 2).bind fun x1 =>
    (hp_fR h 0 x1 9).bind fun x2 =>
    (f_X5_get n x2 v1 v4 h).bind fun x3 =>
    (hp_fR h 1 v0 2).bind fun x4 =>
    (f_X0_isVariable n x4 x3 h).bind fun x5 =>
    if x5 = 0 then
      f_X1_sizeOf_71 n v0 v1 v3 v4 (1 : Int32) v2 h
    else
      (hp_fR h 1 v0 0).bind fun x6 =>
      (hp_fR h 1 v0 3).bind fun x7 =>
      (hp_aI h 0 x7 x3).bind fun x8 =>
      (f_X5_size n x6 x8 h).bind fun x9 =>
      f_X1_sizeOf_71 n v0 v1 v3 v4 (x9 - (1 : Int32)) v2 h
set_option maxHeartbeats 1000000 in
set_option maxRecDepth 4000 in
theorem q_X1_sizeOf_17 (G : hp_G) (n : Nat) (v0 : Nat) (v1 : Int32) (v2 : Int32) (v3 : Int32) (v4 : Int32) (h : hp_H) (sz sl : Nat) (o : hp_O) (ho : sz ≤ o.2.2.1 ∧ sl ≤ o.2.2.2) (res : (Int32 × Int32) ⊕ (Int32)) (hm : f_X1_sizeOf_17 n v0 v1 v2 v3 v4 h = some res) (kI : ∀ y : Int32 × Int32, res = .inl y → hp_V G m_X1_sizeOf 17 [(0, .ref v0), (1, .int v1), (2, .int y.1), (3, .int v3), (4, .int y.2)] [] h sz sl o) (kR : ∀ y : Int32, res = .inr y → o = (some (.int y), h, sz, sl)) : hp_V G m_X1_sizeOf 17 [(0, .ref v0), (1, .int v1), (2, .int v2), (3, .int v3), (4, .int v4)] [] h sz sl o := by
  unfold f_X1_sizeOf_17 at hm
  refine hv_iload 4 dX1_sizeOf_17 rfl ?_
  refine hv_iload_n 3 dX1_sizeOf_19 rfl rfl ?_
  refine hv_icmp_ge (tgt := 79) dX1_sizeOf_20 (by decide) (fun c11 => ?_) (fun c11 => ?_)
  · rw [if_pos c11] at hm
    refine hv_iload_n 2 dX1_sizeOf_79 rfl rfl ?_
    obtain rfl := kR _ (Option.some.inj hm).symm
    exact hv_iret rfl dX1_sizeOf_80
  · rw [if_neg c11] at hm
    refine hv_aload_n 0 dX1_sizeOf_23 rfl rfl ?_
    obtain ⟨x1, hx1, hm⟩ := hp_bd hm
    refine hv_get lk_f_X1_34 dX1_sizeOf_24 (hp_fR_spec hx1) ?_
    obtain ⟨x2, hx2, hm⟩ := hp_bd hm
    refine hv_get lk_f_X1_91 dX1_sizeOf_27 (hp_fR_spec hx2) ?_
    refine hv_iload_n 1 dX1_sizeOf_30 rfl rfl ?_
    refine hv_iload 4 dX1_sizeOf_31 rfl ?_
    obtain ⟨x3, hx3, hm⟩ := hp_bd hm
    obtain ⟨Vx3, hVx3⟩ := k_X5_get hx3
    refine hv_callV (As := [.int v1, .int v4]) (rest := []) Z_X5_get I_X5_get lk_m_X1_110 rfl hVx3 (c_X5_get G n x2 v1 v4 h sz sl _ hx3) rfl (Nat.le_of_ble_eq_true rfl) ⟨Nat.le_of_ble_eq_true rfl, Nat.le_of_ble_eq_true rfl⟩ ho.1 ho.2 rfl dX1_sizeOf_33 ?_
    refine hv_as [.int x3] h rfl rfl ?_
    refine hv_istore [(5, .int x3), (0, .ref v0), (1, .int v1), (2, .int v2), (3, .int v3), (4, .int v4)] dX1_sizeOf_36 (by decide) rfl ?_
    refine hv_iload_n 3 dX1_sizeOf_38 rfl rfl ?_
    refine hv_aload_n 1 dX1_sizeOf_39 rfl rfl ?_
    obtain ⟨x4, hx4, hm⟩ := hp_bd hm
    refine hv_get lk_f_X1_34 dX1_sizeOf_40 (hp_fR_spec hx4) ?_
    refine hv_iload 0 dX1_sizeOf_43 rfl ?_
    obtain ⟨x5, hx5, hm⟩ := hp_bd hm
    obtain ⟨Vx5, hVx5⟩ := k_X0_isVariable hx5
    refine hv_callV (As := [.int x3]) (rest := [.int v2]) Z_X0_isVariable I_X0_isVariable lk_m_X1_140 rfl hVx5 (c_X0_isVariable G n x4 x3 h sz sl _ hx5) rfl (Nat.le_of_ble_eq_true rfl) ⟨Nat.le_of_ble_eq_true rfl, Nat.le_of_ble_eq_true rfl⟩ ho.1 ho.2 rfl dX1_sizeOf_45 ?_
    refine hv_as [.int x5, .int v2] h rfl rfl ?_
    refine hv_if_eq (tgt := 70) dX1_sizeOf_48 (by decide) (fun c10 => ?_) (fun c10 => ?_)
    · rw [if_pos c10] at hm
      refine hv_iconst (1 : Int32) dX1_sizeOf_70 (by decide) ?_
      exact hv_sub [1, 2, 4, 5] rfl (q_X1_sizeOf_71 G n v0 v1 v3 v4 (1 : Int32) v2 h sz sl o ho _ hm kI kR)
    · rw [if_neg c10] at hm
      refine hv_aload_n 1 dX1_sizeOf_51 rfl rfl ?_
      obtain ⟨x6, hx6, hm⟩ := hp_bd hm
      refine hv_get lk_f_X1_14 dX1_sizeOf_52 (hp_fR_spec hx6) ?_
      refine hv_aload_n 1 dX1_sizeOf_55 rfl rfl ?_
      obtain ⟨x7, hx7, hm⟩ := hp_bd hm
      refine hv_get lk_f_X1_23 dX1_sizeOf_56 (hp_fR_spec hx7) ?_
      refine hv_iload 0 dX1_sizeOf_59 rfl ?_
      obtain ⟨x8, hx8, hm⟩ := hp_bd hm
      refine hv_iald dX1_sizeOf_61 hx8 ?_
      obtain ⟨x9, hx9, hm⟩ := hp_bd hm
      obtain ⟨Vx9, hVx9⟩ := k_X5_size hx9
      refine hv_callV (As := [.int x8]) (rest := [.int v2]) Z_X5_size I_X5_size lk_m_X1_107 rfl hVx9 (c_X5_size G n x6 x8 h sz sl _ hx9) rfl (Nat.le_of_ble_eq_true rfl) ⟨Nat.le_of_ble_eq_true rfl, Nat.le_of_ble_eq_true rfl⟩ ho.1 ho.2 rfl dX1_sizeOf_62 ?_
      refine hv_as [.int x9, .int v2] h rfl rfl ?_
      refine hv_iconst (1 : Int32) dX1_sizeOf_65 (by decide) ?_
      refine hv_isub dX1_sizeOf_66 ?_
      refine hv_goto (tgt := 71) dX1_sizeOf_67 (by decide) ?_
      exact hv_sub [1, 2, 4, 5] rfl (q_X1_sizeOf_71 G n v0 v1 v3 v4 (x9 - (1 : Int32)) v2 h sz sl o ho _ hm kI kR)
def fL_X1_sizeOf_17 (n : Nat) (v0 : Nat) (v1 : Int32) (v3 : Int32) (h : hp_H) (s : Int32 × Int32) : Option ((Int32 × Int32) ⊕ (Int32)) := f_X1_sizeOf_17 n v0 v1 s.1 v3 s.2 h
theorem l_X1_sizeOf_17 (G : hp_G) (n : Nat) (v0 : Nat) (v1 : Int32) (v3 : Int32) (h : hp_H) (sz sl : Nat) (o : hp_O) (ho : sz ≤ o.2.2.1 ∧ sl ≤ o.2.2.2) : ∀ (k : Nat) (s : Int32 × Int32) (x : Int32), hp_lp (fL_X1_sizeOf_17 n v0 v1 v3 h) k s = some x → (∀ y : Int32, x = y → o = (some (.int y), h, sz, sl)) → hp_V G m_X1_sizeOf 17 [(0, .ref v0), (1, .int v1), (2, .int s.1), (3, .int v3), (4, .int s.2)] [] h sz sl o := by
  intro k
  induction k with
  | zero => intro s x hx; exact (hp_lp_0 hx).elim
  | succ k ih =>
    intro s x hx k0
    obtain ⟨r, hr, hc⟩ := hp_lp_1 hx
    refine q_X1_sizeOf_17 G n v0 v1 s.1 v3 s.2 h sz sl o ho r hr (fun s2 e => ?_) (fun y e => ?_)
    · rcases hc with ⟨s3, e3, hx3⟩ | e3
      · have e4 := Sum.inl.inj (e.symm.trans e3)
        subst e4
        exact ih _ _ hx3 k0
      · cases (e.symm.trans e3)
    · rcases hc with ⟨s3, e3, hx3⟩ | e3
      · cases (e.symm.trans e3)
      · exact k0 y (Sum.inr.inj (e3.symm.trans e))
def f_X1_sizeOf_0 (n : Nat) (v0 : Nat) (v1 : Int32) (h : hp_H) : Option (Int32) :=
  (hp_fR h 1 v0 2).bind fun x1 =>
  (hp_fR h 0 x1 9).bind fun x2 =>
  (f_X5_size n x2 v1 h).bind fun x3 =>
  (hp_lp (fL_X1_sizeOf_17 n v0 v1 x3 h) n ((0 : Int32), (0 : Int32))).bind fun x4 =>
  some x4
set_option maxHeartbeats 1000000 in
set_option maxRecDepth 4000 in
theorem q_X1_sizeOf_0 (G : hp_G) (n : Nat) (v0 : Nat) (v1 : Int32) (h : hp_H) (sz sl : Nat) (res : Int32) (hm : f_X1_sizeOf_0 n v0 v1 h = some res) : hp_V G m_X1_sizeOf 0 [(0, .ref v0), (1, .int v1)] [] h sz sl (some (.int res), h, sz, sl) := by
  have ho : sz ≤ sz ∧ sl ≤ sl := ⟨Nat.le_refl _, Nat.le_refl _⟩
  unfold f_X1_sizeOf_0 at hm
  refine hv_iconst (0 : Int32) dX1_sizeOf_0 (by decide) ?_
  refine hv_istore_n [(2, .int (0 : Int32)), (0, .ref v0), (1, .int v1)] dX1_sizeOf_1 rfl (by decide) rfl ?_
  refine hv_aload_n 1 dX1_sizeOf_2 rfl rfl ?_
  obtain ⟨x1, hx1, hm⟩ := hp_bd hm
  refine hv_get lk_f_X1_34 dX1_sizeOf_3 (hp_fR_spec hx1) ?_
  obtain ⟨x2, hx2, hm⟩ := hp_bd hm
  refine hv_get lk_f_X1_91 dX1_sizeOf_6 (hp_fR_spec hx2) ?_
  refine hv_iload_n 2 dX1_sizeOf_9 rfl rfl ?_
  obtain ⟨x3, hx3, hm⟩ := hp_bd hm
  obtain ⟨Vx3, hVx3⟩ := k_X5_size hx3
  refine hv_callV (As := [.int v1]) (rest := []) Z_X5_size I_X5_size lk_m_X1_107 rfl hVx3 (c_X5_size G n x2 v1 h sz sl _ hx3) rfl (Nat.le_of_ble_eq_true rfl) ⟨Nat.le_of_ble_eq_true rfl, Nat.le_of_ble_eq_true rfl⟩ ho.1 ho.2 rfl dX1_sizeOf_10 ?_
  refine hv_as [.int x3] h rfl rfl ?_
  refine hv_istore_n [(3, .int x3), (2, .int (0 : Int32)), (0, .ref v0), (1, .int v1)] dX1_sizeOf_13 rfl (by decide) rfl ?_
  refine hv_iconst (0 : Int32) dX1_sizeOf_14 (by decide) ?_
  refine hv_istore [(4, .int (0 : Int32)), (3, .int x3), (2, .int (0 : Int32)), (0, .ref v0), (1, .int v1)] dX1_sizeOf_15 (by decide) rfl ?_
  obtain ⟨x4, hx4, hm⟩ := hp_bd hm
  refine hv_sub [3, 4, 2, 1, 0] rfl (l_X1_sizeOf_17 G n v0 v1 x3 h sz sl _ ho n _ _ hx4 (fun y5 ey5 => ?_))
  · subst ey5
    obtain rfl := Option.some.inj hm
    rfl
def f_X1_sizeOf (n : Nat) (v0 : Nat) (v1 : Int32) (h : hp_H) : Option (Int32) := (hp_ck h 1 v0).bind fun _ => f_X1_sizeOf_0 n v0 v1 h
theorem c_X1_sizeOf (G : hp_G) (n : Nat) (v0 : Nat) (v1 : Int32) (h : hp_H) (sz sl : Nat) (res : Int32) (hm : f_X1_sizeOf n v0 v1 h = some res) : hp_C G m_X1_sizeOf yX1_sizeOf [.ref v0, .int v1] h sz sl (some (.int res), h, sz, sl) := by
  unfold f_X1_sizeOf at hm
  obtain ⟨_, _, hm⟩ := hp_bd hm
  exact hp_C_of (by decide) rfl rfl (Nat.le_of_ble_eq_true rfl) (Nat.le_refl _) (Nat.le_refl _) (hv_sub [0, 1] rfl (q_X1_sizeOf_0 G n v0 v1 h sz sl res hm))
theorem k_X1_sizeOf {n : Nat} {v0 : Nat} {v1 : Int32} {h : hp_H} {res : Int32} (hm : f_X1_sizeOf n v0 v1 h = some res) : ∃ V, h v0 = some (.inr (.inr (1, V))) := by
  unfold f_X1_sizeOf at hm
  obtain ⟨_, hu, _⟩ := hp_bd hm
  exact hp_ck_spec hu
abbrev m_X1_verdict : hp_M := (RX1, cX1_verdict, 3, some .int, 2, 47, "verdict")
theorem Z_X1_verdict : hp_Y yX1_verdict m_X1_verdict 2 := Y_X1_verdict
def f_X1_verdict_0 (n : Nat) (v0 : Nat) (v1 : Nat) (v2 : Nat) (h : hp_H) : Option (Int32) :=
  (hp_fR h 1 v0 0).bind fun x1 =>
  (hp_fI h 5 x1 3).bind fun x2 =>
  if x2 = (1 : Int32) then
    (hp_fR h 1 v0 0).bind fun x3 =>
    (hp_fR h 0 v1 9).bind fun x4 =>
    (hp_fI h 3 v2 0).bind fun x5 =>
    (f_X5_hasRow n x3 (0 : Int32) x4 x5 h).bind fun x6 =>
    if x6 = 0 then
      some (-9 : Int32)
    else
      some (0 : Int32)
  else
    some (-8 : Int32)
set_option maxHeartbeats 1000000 in
set_option maxRecDepth 4000 in
theorem q_X1_verdict_0 (G : hp_G) (n : Nat) (v0 : Nat) (v1 : Nat) (v2 : Nat) (h : hp_H) (sz sl : Nat) (res : Int32) (hm : f_X1_verdict_0 n v0 v1 v2 h = some res) : hp_V G m_X1_verdict 0 [(0, .ref v0), (1, .ref v1), (2, .ref v2)] [] h sz sl (some (.int res), h, sz, sl) := by
  have ho : sz ≤ sz ∧ sl ≤ sl := ⟨Nat.le_refl _, Nat.le_refl _⟩
  unfold f_X1_verdict_0 at hm
  refine hv_aload_n 0 dX1_verdict_0 rfl rfl ?_
  obtain ⟨x1, hx1, hm⟩ := hp_bd hm
  refine hv_get lk_f_X1_14 dX1_verdict_1 (hp_fR_spec hx1) ?_
  obtain ⟨x2, hx2, hm⟩ := hp_bd hm
  refine hv_get lk_f_X1_81 dX1_verdict_4 (hp_fI_spec hx2) ?_
  refine hv_iconst (1 : Int32) dX1_verdict_7 (by decide) ?_
  refine hv_icmp_eq (tgt := 14) dX1_verdict_8 (by decide) (fun c8 => ?_) (fun c8 => ?_)
  · rw [if_pos c8] at hm
    refine hv_aload_n 0 dX1_verdict_14 rfl rfl ?_
    obtain ⟨x3, hx3, hm⟩ := hp_bd hm
    refine hv_get lk_f_X1_14 dX1_verdict_15 (hp_fR_spec hx3) ?_
    refine hv_iconst (0 : Int32) dX1_verdict_18 (by decide) ?_
    refine hv_aload_n 1 dX1_verdict_19 rfl rfl ?_
    obtain ⟨x4, hx4, hm⟩ := hp_bd hm
    refine hv_get lk_f_X1_91 dX1_verdict_20 (hp_fR_spec hx4) ?_
    refine hv_aload_n 2 dX1_verdict_23 rfl rfl ?_
    obtain ⟨x5, hx5, hm⟩ := hp_bd hm
    refine hv_get lk_f_X1_41 dX1_verdict_24 (hp_fI_spec hx5) ?_
    obtain ⟨x6, hx6, hm⟩ := hp_bd hm
    obtain ⟨Vx6, hVx6⟩ := k_X5_hasRow hx6
    refine hv_callV (As := [.int (0 : Int32), .ref x4, .int x5]) (rest := []) Z_X5_hasRow I_X5_hasRow lk_m_X1_94 rfl hVx6 (c_X5_hasRow G n x3 (0 : Int32) x4 x5 h sz sl _ hx6) rfl (Nat.le_of_ble_eq_true rfl) ⟨Nat.le_of_ble_eq_true rfl, Nat.le_of_ble_eq_true rfl⟩ ho.1 ho.2 rfl dX1_verdict_27 ?_
    refine hv_as [.int x6] h rfl rfl ?_
    refine hv_if_eq (tgt := 37) dX1_verdict_30 (by decide) (fun c7 => ?_) (fun c7 => ?_)
    · rw [if_pos c7] at hm
      refine hv_bipush (-9 : Int32) dX1_verdict_37 (by decide) ?_
      obtain rfl := Option.some.inj hm
      exact hv_iret rfl dX1_verdict_39
    · rw [if_neg c7] at hm
      refine hv_iconst (0 : Int32) dX1_verdict_33 (by decide) ?_
      refine hv_goto (tgt := 39) dX1_verdict_34 (by decide) ?_
      obtain rfl := Option.some.inj hm
      exact hv_iret rfl dX1_verdict_39
  · rw [if_neg c8] at hm
    refine hv_bipush (-8 : Int32) dX1_verdict_11 (by decide) ?_
    obtain rfl := Option.some.inj hm
    exact hv_iret rfl dX1_verdict_13
def f_X1_verdict (n : Nat) (v0 : Nat) (v1 : Nat) (v2 : Nat) (h : hp_H) : Option (Int32) := (hp_ck h 1 v0).bind fun _ => f_X1_verdict_0 n v0 v1 v2 h
theorem c_X1_verdict (G : hp_G) (n : Nat) (v0 : Nat) (v1 : Nat) (v2 : Nat) (h : hp_H) (sz sl : Nat) (res : Int32) (hm : f_X1_verdict n v0 v1 v2 h = some res) : hp_C G m_X1_verdict yX1_verdict [.ref v0, .ref v1, .ref v2] h sz sl (some (.int res), h, sz, sl) := by
  unfold f_X1_verdict at hm
  obtain ⟨_, _, hm⟩ := hp_bd hm
  exact hp_C_of (by decide) rfl rfl (Nat.le_of_ble_eq_true rfl) (Nat.le_refl _) (Nat.le_refl _) (hv_sub [0, 1, 2] rfl (q_X1_verdict_0 G n v0 v1 v2 h sz sl res hm))
theorem k_X1_verdict {n : Nat} {v0 : Nat} {v1 : Nat} {v2 : Nat} {h : hp_H} {res : Int32} (hm : f_X1_verdict n v0 v1 v2 h = some res) : ∃ V, h v0 = some (.inr (.inr (1, V))) := by
  unfold f_X1_verdict at hm
  obtain ⟨_, hu, _⟩ := hp_bd hm
  exact hp_ck_spec hu
