abbrev m_J7_fill_53178 : hp_M := (RJ7, cJ7_fill_53178, 4, none, 0, 0, "fill")
theorem Z_J7_fill_53178 : hp_Y yJ7_fill_53178 m_J7_fill_53178 2 := Y_J7_fill_53178
def f_J7_fill_53178_5 (n : Nat) (v0 : Nat) (v1 : Int32) (v2 : Int32) (v3 : Int32) (h : hp_H) : Option ((Int32 × hp_H) ⊕ (hp_H)) :=
  if v3 ≤ v2 then
    some (.inr h)
  else
    (hp_sI h 0 v0 v2 v1).bind fun h1 =>
    some (.inl ((v2 + (1 : Int32)), h1))
set_option maxHeartbeats 1000000 in
set_option maxRecDepth 4000 in
theorem q_J7_fill_53178_5 (G : hp_G) (n : Nat) (v0 : Nat) (v1 : Int32) (v2 : Int32) (v3 : Int32) (h : hp_H) (sz sl : Nat) (o : hp_O) (ho : sz ≤ o.2.2.1 ∧ sl ≤ o.2.2.2) (res : (Int32 × hp_H) ⊕ (hp_H)) (hm : f_J7_fill_53178_5 n v0 v1 v2 v3 h = some res) (kI : ∀ y : Int32 × hp_H, res = .inl y → hp_V G m_J7_fill_53178 5 [(0, .ref v0), (1, .int v1), (2, .int y.1), (3, .int v3)] [] y.2 sz sl o) (kR : ∀ y : hp_H, res = .inr y → o = (none, y, sz, sl)) : hp_V G m_J7_fill_53178 5 [(0, .ref v0), (1, .int v1), (2, .int v2), (3, .int v3)] [] h sz sl o := by
  unfold f_J7_fill_53178_5 at hm
  refine hv_iload_n 2 dJ7_fill_53178_5 rfl rfl ?_
  refine hv_iload_n 3 dJ7_fill_53178_6 rfl rfl ?_
  refine hv_icmp_ge (tgt := 20) dJ7_fill_53178_7 (by decide) (fun c2 => ?_) (fun c2 => ?_)
  · rw [if_pos c2] at hm
    obtain rfl := kR _ (Option.some.inj hm).symm
    exact hv_vret rfl dJ7_fill_53178_20
  · rw [if_neg c2] at hm
    refine hv_aload_n 0 dJ7_fill_53178_10 rfl rfl ?_
    refine hv_iload_n 2 dJ7_fill_53178_11 rfl rfl ?_
    refine hv_iload_n 1 dJ7_fill_53178_12 rfl rfl ?_
    obtain ⟨h1, hh1, hm⟩ := hp_bd hm
    refine hv_iast dJ7_fill_53178_13 hh1 ?_
    refine hv_iinc (v2 + (1 : Int32)) 2 [(2, .int (v2 + (1 : Int32))), (0, .ref v0), (1, .int v1), (3, .int v3)] dJ7_fill_53178_14 rfl rfl (by decide) rfl ?_
    refine hv_goto (tgt := 5) dJ7_fill_53178_17 (by decide) ?_
    exact hv_sub [1, 2, 0, 3] rfl (kI ((v2 + (1 : Int32)), h1) (Option.some.inj hm).symm)
def fL_J7_fill_53178_5 (n : Nat) (v0 : Nat) (v1 : Int32) (v3 : Int32) (s : Int32 × hp_H) : Option ((Int32 × hp_H) ⊕ (hp_H)) := f_J7_fill_53178_5 n v0 v1 s.1 v3 s.2
theorem l_J7_fill_53178_5 (G : hp_G) (n : Nat) (v0 : Nat) (v1 : Int32) (v3 : Int32) (sz sl : Nat) (o : hp_O) (ho : sz ≤ o.2.2.1 ∧ sl ≤ o.2.2.2) : ∀ (k : Nat) (s : Int32 × hp_H) (x : hp_H), hp_lp (fL_J7_fill_53178_5 n v0 v1 v3) k s = some x → (∀ y : hp_H, x = y → o = (none, y, sz, sl)) → hp_V G m_J7_fill_53178 5 [(0, .ref v0), (1, .int v1), (2, .int s.1), (3, .int v3)] [] s.2 sz sl o := by
  intro k
  induction k with
  | zero => intro s x hx; exact (hp_lp_0 hx).elim
  | succ k ih =>
    intro s x hx k0
    obtain ⟨r, hr, hc⟩ := hp_lp_1 hx
    refine q_J7_fill_53178_5 G n v0 v1 s.1 v3 s.2 sz sl o ho r hr (fun s2 e => ?_) (fun y e => ?_)
    · rcases hc with ⟨s3, e3, hx3⟩ | e3
      · have e4 := Sum.inl.inj (e.symm.trans e3)
        subst e4
        exact ih _ _ hx3 k0
      · cases (e.symm.trans e3)
    · rcases hc with ⟨s3, e3, hx3⟩ | e3
      · cases (e.symm.trans e3)
      · exact k0 y (Sum.inr.inj (e3.symm.trans e))
def f_J7_fill_53178_0 (n : Nat) (v0 : Nat) (v1 : Int32) (h : hp_H) : Option (hp_H) :=
  (hp_len h v0).bind fun x1 =>
  (hp_lp (fL_J7_fill_53178_5 n v0 v1 x1) n ((0 : Int32), h)).bind fun x2 =>
  some x2
set_option maxHeartbeats 1000000 in
set_option maxRecDepth 4000 in
theorem q_J7_fill_53178_0 (G : hp_G) (n : Nat) (v0 : Nat) (v1 : Int32) (h : hp_H) (sz sl : Nat) (res : hp_H) (hm : f_J7_fill_53178_0 n v0 v1 h = some res) : hp_V G m_J7_fill_53178 0 [(0, .ref v0), (1, .int v1)] [] h sz sl (none, res, sz, sl) := by
  have ho : sz ≤ sz ∧ sl ≤ sl := ⟨Nat.le_refl _, Nat.le_refl _⟩
  unfold f_J7_fill_53178_0 at hm
  refine hv_iconst (0 : Int32) dJ7_fill_53178_0 (by decide) ?_
  refine hv_istore_n [(2, .int (0 : Int32)), (0, .ref v0), (1, .int v1)] dJ7_fill_53178_1 rfl (by decide) rfl ?_
  refine hv_aload_n 1 dJ7_fill_53178_2 rfl rfl ?_
  obtain ⟨x1, hx1, hm⟩ := hp_bd hm
  refine hv_alen dJ7_fill_53178_3 hx1 ?_
  refine hv_istore_n [(3, .int x1), (2, .int (0 : Int32)), (0, .ref v0), (1, .int v1)] dJ7_fill_53178_4 rfl (by decide) rfl ?_
  obtain ⟨x2, hx2, hm⟩ := hp_bd hm
  refine hv_sub [2, 3, 1, 0] rfl (l_J7_fill_53178_5 G n v0 v1 x1 sz sl _ ho n _ _ hx2 (fun y3 ey3 => ?_))
  · skip
    subst ey3
    obtain rfl := Option.some.inj hm
    rfl
def f_J7_fill_53178 (n : Nat) (v0 : Nat) (v1 : Int32) (h : hp_H) : Option (hp_H) := f_J7_fill_53178_0 n v0 v1 h
theorem c_J7_fill_53178 (G : hp_G) (n : Nat) (v0 : Nat) (v1 : Int32) (h : hp_H) (sz sl : Nat) (res : hp_H) (hm : f_J7_fill_53178 n v0 v1 h = some res) : hp_C G m_J7_fill_53178 yJ7_fill_53178 [.ref v0, .int v1] h sz sl (none, res, sz, sl) := by
  unfold f_J7_fill_53178 at hm
  exact hp_C_of (by decide) rfl rfl (Nat.le_of_ble_eq_true rfl) (Nat.le_refl _) (Nat.le_refl _) (hv_sub [0, 1] rfl (q_J7_fill_53178_0 G n v0 v1 h sz sl res hm))
abbrev m_J7_fill_d0a16 : hp_M := (RJ7, cJ7_fill_d0a16, 5, none, 0, 0, "fill")
theorem Z_J7_fill_d0a16 : hp_Y yJ7_fill_d0a16 m_J7_fill_d0a16 2 := Y_J7_fill_d0a16
def f_J7_fill_d0a16_6 (n : Nat) (v0 : Nat) (v1 : Int64) (v3 : Int32) (v4 : Int32) (h : hp_H) : Option ((Int32 × hp_H) ⊕ (hp_H)) :=
  if v4 ≤ v3 then
    some (.inr h)
  else
    (hp_sJ h v0 v3 v1).bind fun h1 =>
    some (.inl ((v3 + (1 : Int32)), h1))
set_option maxHeartbeats 1000000 in
set_option maxRecDepth 4000 in
theorem q_J7_fill_d0a16_6 (G : hp_G) (n : Nat) (v0 : Nat) (v1 : Int64) (v3 : Int32) (v4 : Int32) (h : hp_H) (sz sl : Nat) (o : hp_O) (ho : sz ≤ o.2.2.1 ∧ sl ≤ o.2.2.2) (res : (Int32 × hp_H) ⊕ (hp_H)) (hm : f_J7_fill_d0a16_6 n v0 v1 v3 v4 h = some res) (kI : ∀ y : Int32 × hp_H, res = .inl y → hp_V G m_J7_fill_d0a16 6 [(0, .ref v0), (1, .long v1), (3, .int y.1), (4, .int v4)] [] y.2 sz sl o) (kR : ∀ y : hp_H, res = .inr y → o = (none, y, sz, sl)) : hp_V G m_J7_fill_d0a16 6 [(0, .ref v0), (1, .long v1), (3, .int v3), (4, .int v4)] [] h sz sl o := by
  unfold f_J7_fill_d0a16_6 at hm
  refine hv_iload_n 2 dJ7_fill_d0a16_6 rfl rfl ?_
  refine hv_iload 3 dJ7_fill_d0a16_7 rfl ?_
  refine hv_icmp_ge (tgt := 22) dJ7_fill_d0a16_9 (by decide) (fun c2 => ?_) (fun c2 => ?_)
  · rw [if_pos c2] at hm
    obtain rfl := kR _ (Option.some.inj hm).symm
    exact hv_vret rfl dJ7_fill_d0a16_22
  · rw [if_neg c2] at hm
    refine hv_aload_n 0 dJ7_fill_d0a16_12 rfl rfl ?_
    refine hv_iload_n 2 dJ7_fill_d0a16_13 rfl rfl ?_
    refine hv_lload_n 1 dJ7_fill_d0a16_14 rfl rfl ?_
    obtain ⟨h1, hh1, hm⟩ := hp_bd hm
    refine hv_last dJ7_fill_d0a16_15 hh1 ?_
    refine hv_iinc (v3 + (1 : Int32)) 2 [(3, .int (v3 + (1 : Int32))), (0, .ref v0), (1, .long v1), (4, .int v4)] dJ7_fill_d0a16_16 rfl rfl (by decide) rfl ?_
    refine hv_goto (tgt := 6) dJ7_fill_d0a16_19 (by decide) ?_
    exact hv_sub [1, 2, 0, 3] rfl (kI ((v3 + (1 : Int32)), h1) (Option.some.inj hm).symm)
def fL_J7_fill_d0a16_6 (n : Nat) (v0 : Nat) (v1 : Int64) (v4 : Int32) (s : Int32 × hp_H) : Option ((Int32 × hp_H) ⊕ (hp_H)) := f_J7_fill_d0a16_6 n v0 v1 s.1 v4 s.2
theorem l_J7_fill_d0a16_6 (G : hp_G) (n : Nat) (v0 : Nat) (v1 : Int64) (v4 : Int32) (sz sl : Nat) (o : hp_O) (ho : sz ≤ o.2.2.1 ∧ sl ≤ o.2.2.2) : ∀ (k : Nat) (s : Int32 × hp_H) (x : hp_H), hp_lp (fL_J7_fill_d0a16_6 n v0 v1 v4) k s = some x → (∀ y : hp_H, x = y → o = (none, y, sz, sl)) → hp_V G m_J7_fill_d0a16 6 [(0, .ref v0), (1, .long v1), (3, .int s.1), (4, .int v4)] [] s.2 sz sl o := by
  intro k
  induction k with
  | zero => intro s x hx; exact (hp_lp_0 hx).elim
  | succ k ih =>
    intro s x hx k0
    obtain ⟨r, hr, hc⟩ := hp_lp_1 hx
    refine q_J7_fill_d0a16_6 G n v0 v1 s.1 v4 s.2 sz sl o ho r hr (fun s2 e => ?_) (fun y e => ?_)
    · rcases hc with ⟨s3, e3, hx3⟩ | e3
      · have e4 := Sum.inl.inj (e.symm.trans e3)
        subst e4
        exact ih _ _ hx3 k0
      · cases (e.symm.trans e3)
    · rcases hc with ⟨s3, e3, hx3⟩ | e3
      · cases (e.symm.trans e3)
      · exact k0 y (Sum.inr.inj (e3.symm.trans e))
def f_J7_fill_d0a16_0 (n : Nat) (v0 : Nat) (v1 : Int64) (h : hp_H) : Option (hp_H) :=
  (hp_len h v0).bind fun x1 =>
  (hp_lp (fL_J7_fill_d0a16_6 n v0 v1 x1) n ((0 : Int32), h)).bind fun x2 =>
  some x2
set_option maxHeartbeats 1000000 in
set_option maxRecDepth 4000 in
theorem q_J7_fill_d0a16_0 (G : hp_G) (n : Nat) (v0 : Nat) (v1 : Int64) (h : hp_H) (sz sl : Nat) (res : hp_H) (hm : f_J7_fill_d0a16_0 n v0 v1 h = some res) : hp_V G m_J7_fill_d0a16 0 [(0, .ref v0), (1, .long v1)] [] h sz sl (none, res, sz, sl) := by
  have ho : sz ≤ sz ∧ sl ≤ sl := ⟨Nat.le_refl _, Nat.le_refl _⟩
  unfold f_J7_fill_d0a16_0 at hm
  refine hv_iconst (0 : Int32) dJ7_fill_d0a16_0 (by decide) ?_
  refine hv_istore_n [(3, .int (0 : Int32)), (0, .ref v0), (1, .long v1)] dJ7_fill_d0a16_1 rfl (by decide) rfl ?_
  refine hv_aload_n 1 dJ7_fill_d0a16_2 rfl rfl ?_
  obtain ⟨x1, hx1, hm⟩ := hp_bd hm
  refine hv_alen dJ7_fill_d0a16_3 hx1 ?_
  refine hv_istore [(4, .int x1), (3, .int (0 : Int32)), (0, .ref v0), (1, .long v1)] dJ7_fill_d0a16_4 (by decide) rfl ?_
  obtain ⟨x2, hx2, hm⟩ := hp_bd hm
  refine hv_sub [2, 3, 1, 0] rfl (l_J7_fill_d0a16_6 G n v0 v1 x1 sz sl _ ho n _ _ hx2 (fun y3 ey3 => ?_))
  · skip
    subst ey3
    obtain rfl := Option.some.inj hm
    rfl
def f_J7_fill_d0a16 (n : Nat) (v0 : Nat) (v1 : Int64) (h : hp_H) : Option (hp_H) := f_J7_fill_d0a16_0 n v0 v1 h
theorem c_J7_fill_d0a16 (G : hp_G) (n : Nat) (v0 : Nat) (v1 : Int64) (h : hp_H) (sz sl : Nat) (res : hp_H) (hm : f_J7_fill_d0a16 n v0 v1 h = some res) : hp_C G m_J7_fill_d0a16 yJ7_fill_d0a16 [.ref v0, .long v1] h sz sl (none, res, sz, sl) := by
  unfold f_J7_fill_d0a16 at hm
  exact hp_C_of (by decide) rfl rfl (Nat.le_of_ble_eq_true rfl) (Nat.le_refl _) (Nat.le_refl _) (hv_sub [0, 1] rfl (q_J7_fill_d0a16_0 G n v0 v1 h sz sl res hm))
abbrev m_J7_copyOf_59c91 : hp_M := (RJ7, cJ7_copyOf_59c91, 3, some (.array .int), 1, 40, "copyOf")
theorem Z_J7_copyOf_59c91 : hp_Y yJ7_copyOf_59c91 m_J7_copyOf_59c91 2 := Y_J7_copyOf_59c91
def f_J7_copyOf_59c91_17 (n : Nat) (v0 : Nat) (v1 : Int32) (s0 : Nat) (h : hp_H) (sz sl : Nat) : Option (Nat × hp_H × Nat × Nat) :=
  (hp_len h v0).bind fun x1 =>
  (hp_cp h v0 (0 : Int32) s0 (0 : Int32) (hp_mn x1 v1)).bind fun h2 =>
  some (s0, h2, sz, sl)
set_option maxHeartbeats 1000000 in
set_option maxRecDepth 4000 in
theorem mo_J7_copyOf_59c91_17 {n : Nat} {v0 : Nat} {v1 : Int32} {s0 : Nat} {h : hp_H} {sz sl : Nat} {res : Nat × hp_H × Nat × Nat} (hm : f_J7_copyOf_59c91_17 n v0 v1 s0 h sz sl = some res) : sz ≤ res.2.2.1 ∧ sl ≤ res.2.2.2 := by
  unfold f_J7_copyOf_59c91_17 at hm
  obtain ⟨x1, hx1, hm⟩ := hp_bd hm
  obtain ⟨h2, hh2, hm⟩ := hp_bd hm
  obtain rfl := Option.some.inj hm
  exact ⟨Nat.le_refl _, Nat.le_refl _⟩
set_option maxHeartbeats 1000000 in
set_option maxRecDepth 4000 in
theorem q_J7_copyOf_59c91_17 (G : hp_G) (n : Nat) (v0 : Nat) (v1 : Int32) (s0 : Nat) (h : hp_H) (sz sl : Nat) (res : Nat × hp_H × Nat × Nat) (hm : f_J7_copyOf_59c91_17 n v0 v1 s0 h sz sl = some res) : hp_V G m_J7_copyOf_59c91 17 [(0, .ref v0), (1, .int v1)] [.ref s0] h sz sl (some (.ref res.1), res.2.1, res.2.2.1, res.2.2.2) := by
  have ho := mo_J7_copyOf_59c91_17 hm
  unfold f_J7_copyOf_59c91_17 at hm
  refine hv_astore_n [(2, .ref s0), (0, .ref v0), (1, .int v1)] dJ7_copyOf_59c91_17 rfl (by decide) rfl ?_
  refine hv_aload_n 1 dJ7_copyOf_59c91_18 rfl rfl ?_
  refine hv_iconst (0 : Int32) dJ7_copyOf_59c91_19 (by decide) ?_
  refine hv_aload_n 0 dJ7_copyOf_59c91_20 rfl rfl ?_
  refine hv_iconst (0 : Int32) dJ7_copyOf_59c91_21 (by decide) ?_
  refine hv_aload_n 1 dJ7_copyOf_59c91_22 rfl rfl ?_
  obtain ⟨x1, hx1, hm⟩ := hp_bd hm
  refine hv_alen dJ7_copyOf_59c91_23 hx1 ?_
  refine hv_iload_n 2 dJ7_copyOf_59c91_24 rfl rfl ?_
  refine hv_mmin lk_x_J7_304 ⟨Nat.le_of_ble_eq_true rfl, Nat.le_of_ble_eq_true rfl⟩ (Nat.le_of_ble_eq_true rfl) ho dJ7_copyOf_59c91_25 ?_
  obtain ⟨h2, hh2, hm⟩ := hp_bd hm
  refine hv_copy lk_a_J7_150 ⟨Nat.le_of_ble_eq_true rfl, by decide⟩ dJ7_copyOf_59c91_28 hh2 ?_
  refine hv_aload_n 0 dJ7_copyOf_59c91_31 rfl rfl ?_
  obtain rfl := Option.some.inj hm
  exact hv_aret rfl (Or.inr ⟨_, rfl⟩) dJ7_copyOf_59c91_32
def f_J7_copyOf_59c91_0 (n : Nat) (v0 : Nat) (v1 : Int32) (h : hp_H) (sz sl : Nat) : Option (Nat × hp_H × Nat × Nat) :=
  (hp_len h v0).bind fun x1 =>
  if v1 = x1 then
    none
  else
    (hp_cnt v1).bind fun N2 =>
    f_J7_copyOf_59c91_17 n v0 v1 sz (hp_na h sz 0 N2) (sz + 1) (sl + N2)
set_option maxHeartbeats 1000000 in
set_option maxRecDepth 4000 in
theorem mo_J7_copyOf_59c91_0 {n : Nat} {v0 : Nat} {v1 : Int32} {h : hp_H} {sz sl : Nat} {res : Nat × hp_H × Nat × Nat} (hm : f_J7_copyOf_59c91_0 n v0 v1 h sz sl = some res) : sz ≤ res.2.2.1 ∧ sl ≤ res.2.2.2 := by
  unfold f_J7_copyOf_59c91_0 at hm
  obtain ⟨x1, hx1, hm⟩ := hp_bd hm
  rcases (Decidable.em (v1 = x1)).symm with c3 | c3
  · rw [if_neg c3] at hm
    obtain ⟨N2, hN2, hm⟩ := hp_bd hm
    exact hp_tr ⟨Nat.le_add_right _ _, Nat.le_add_right _ _⟩ (mo_J7_copyOf_59c91_17 hm)
  · rw [if_pos c3] at hm
    cases hm
set_option maxHeartbeats 1000000 in
set_option maxRecDepth 4000 in
theorem q_J7_copyOf_59c91_0 (G : hp_G) (n : Nat) (v0 : Nat) (v1 : Int32) (h : hp_H) (sz sl : Nat) (res : Nat × hp_H × Nat × Nat) (hm : f_J7_copyOf_59c91_0 n v0 v1 h sz sl = some res) : hp_V G m_J7_copyOf_59c91 0 [(0, .ref v0), (1, .int v1)] [] h sz sl (some (.ref res.1), res.2.1, res.2.2.1, res.2.2.2) := by
  have ho := mo_J7_copyOf_59c91_0 hm
  unfold f_J7_copyOf_59c91_0 at hm
  refine hv_iload_n 1 dJ7_copyOf_59c91_0 rfl rfl ?_
  refine hv_aload_n 0 dJ7_copyOf_59c91_1 rfl rfl ?_
  obtain ⟨x1, hx1, hm⟩ := hp_bd hm
  refine hv_alen dJ7_copyOf_59c91_2 hx1 ?_
  refine hv_icmp_ne (tgt := 14) dJ7_copyOf_59c91_3 (by decide) (fun c3 => ?_) (fun c3 => ?_)
  · rw [if_neg c3] at hm
    refine hv_iload_n 1 dJ7_copyOf_59c91_14 rfl rfl ?_
    obtain ⟨N2, hN2, hm⟩ := hp_bd hm
    have hq := mo_J7_copyOf_59c91_17 hm
    refine hv_newI (N := N2) ac_int (hp_cnt_spec hN2).1 (hp_cnt_spec hN2).2 dJ7_copyOf_59c91_15 hq.1 hq.2 ?_
    exact hv_sub [0, 1] rfl (q_J7_copyOf_59c91_17 G n v0 v1 sz (hp_na h sz 0 N2) (sz + 1) (sl + N2) _ hm)
  · rw [if_pos c3] at hm
    refine hv_aload_n 0 dJ7_copyOf_59c91_6 rfl rfl ?_
    cases hm
def f_J7_copyOf_59c91 (n : Nat) (v0 : Nat) (v1 : Int32) (h : hp_H) (sz sl : Nat) : Option (Nat × hp_H × Nat × Nat) := f_J7_copyOf_59c91_0 n v0 v1 h sz sl
theorem c_J7_copyOf_59c91 (G : hp_G) (n : Nat) (v0 : Nat) (v1 : Int32) (h : hp_H) (sz sl : Nat) (res : Nat × hp_H × Nat × Nat) (hm : f_J7_copyOf_59c91 n v0 v1 h sz sl = some res) : hp_C G m_J7_copyOf_59c91 yJ7_copyOf_59c91 [.ref v0, .int v1] h sz sl (some (.ref res.1), res.2.1, res.2.2.1, res.2.2.2) := by
  unfold f_J7_copyOf_59c91 at hm
  exact hp_C_of (by decide) rfl rfl (Nat.le_of_ble_eq_true rfl) (mo_J7_copyOf_59c91_0 hm).1 (mo_J7_copyOf_59c91_0 hm).2 (hv_sub [0, 1] rfl (q_J7_copyOf_59c91_0 G n v0 v1 h sz sl res hm))
theorem mx_J7_copyOf_59c91 {n : Nat} {v0 : Nat} {v1 : Int32} {h : hp_H} {sz sl : Nat} {res : Nat × hp_H × Nat × Nat} (hm : f_J7_copyOf_59c91 n v0 v1 h sz sl = some res) : sz ≤ res.2.2.1 ∧ sl ≤ res.2.2.2 := by
  unfold f_J7_copyOf_59c91 at hm
  exact mo_J7_copyOf_59c91_0 hm
abbrev m_J7_fill_031fb : hp_M := (RJ7, cJ7_fill_031fb, 4, none, 0, 0, "fill")
theorem Z_J7_fill_031fb : hp_Y yJ7_fill_031fb m_J7_fill_031fb 2 := Y_J7_fill_031fb
def f_J7_fill_031fb_5 (n : Nat) (v0 : Nat) (v1 : Int32) (v2 : Int32) (v3 : Int32) (h : hp_H) : Option ((Int32 × hp_H) ⊕ (hp_H)) :=
  if v3 ≤ v2 then
    some (.inr h)
  else
    (hp_sI h 1 v0 v2 v1).bind fun h1 =>
    some (.inl ((v2 + (1 : Int32)), h1))
set_option maxHeartbeats 1000000 in
set_option maxRecDepth 4000 in
theorem q_J7_fill_031fb_5 (G : hp_G) (n : Nat) (v0 : Nat) (v1 : Int32) (v2 : Int32) (v3 : Int32) (h : hp_H) (sz sl : Nat) (o : hp_O) (ho : sz ≤ o.2.2.1 ∧ sl ≤ o.2.2.2) (res : (Int32 × hp_H) ⊕ (hp_H)) (hm : f_J7_fill_031fb_5 n v0 v1 v2 v3 h = some res) (kI : ∀ y : Int32 × hp_H, res = .inl y → hp_V G m_J7_fill_031fb 5 [(0, .ref v0), (1, .int v1), (2, .int y.1), (3, .int v3)] [] y.2 sz sl o) (kR : ∀ y : hp_H, res = .inr y → o = (none, y, sz, sl)) : hp_V G m_J7_fill_031fb 5 [(0, .ref v0), (1, .int v1), (2, .int v2), (3, .int v3)] [] h sz sl o := by
  unfold f_J7_fill_031fb_5 at hm
  refine hv_iload_n 2 dJ7_fill_031fb_5 rfl rfl ?_
  refine hv_iload_n 3 dJ7_fill_031fb_6 rfl rfl ?_
  refine hv_icmp_ge (tgt := 20) dJ7_fill_031fb_7 (by decide) (fun c2 => ?_) (fun c2 => ?_)
  · rw [if_pos c2] at hm
    obtain rfl := kR _ (Option.some.inj hm).symm
    exact hv_vret rfl dJ7_fill_031fb_20
  · rw [if_neg c2] at hm
    refine hv_aload_n 0 dJ7_fill_031fb_10 rfl rfl ?_
    refine hv_iload_n 2 dJ7_fill_031fb_11 rfl rfl ?_
    refine hv_iload_n 1 dJ7_fill_031fb_12 rfl rfl ?_
    obtain ⟨h1, hh1, hm⟩ := hp_bd hm
    refine hv_bast dJ7_fill_031fb_13 hh1 ?_
    refine hv_iinc (v2 + (1 : Int32)) 2 [(2, .int (v2 + (1 : Int32))), (0, .ref v0), (1, .int v1), (3, .int v3)] dJ7_fill_031fb_14 rfl rfl (by decide) rfl ?_
    refine hv_goto (tgt := 5) dJ7_fill_031fb_17 (by decide) ?_
    exact hv_sub [1, 2, 0, 3] rfl (kI ((v2 + (1 : Int32)), h1) (Option.some.inj hm).symm)
def fL_J7_fill_031fb_5 (n : Nat) (v0 : Nat) (v1 : Int32) (v3 : Int32) (s : Int32 × hp_H) : Option ((Int32 × hp_H) ⊕ (hp_H)) := f_J7_fill_031fb_5 n v0 v1 s.1 v3 s.2
theorem l_J7_fill_031fb_5 (G : hp_G) (n : Nat) (v0 : Nat) (v1 : Int32) (v3 : Int32) (sz sl : Nat) (o : hp_O) (ho : sz ≤ o.2.2.1 ∧ sl ≤ o.2.2.2) : ∀ (k : Nat) (s : Int32 × hp_H) (x : hp_H), hp_lp (fL_J7_fill_031fb_5 n v0 v1 v3) k s = some x → (∀ y : hp_H, x = y → o = (none, y, sz, sl)) → hp_V G m_J7_fill_031fb 5 [(0, .ref v0), (1, .int v1), (2, .int s.1), (3, .int v3)] [] s.2 sz sl o := by
  intro k
  induction k with
  | zero => intro s x hx; exact (hp_lp_0 hx).elim
  | succ k ih =>
    intro s x hx k0
    obtain ⟨r, hr, hc⟩ := hp_lp_1 hx
    refine q_J7_fill_031fb_5 G n v0 v1 s.1 v3 s.2 sz sl o ho r hr (fun s2 e => ?_) (fun y e => ?_)
    · rcases hc with ⟨s3, e3, hx3⟩ | e3
      · have e4 := Sum.inl.inj (e.symm.trans e3)
        subst e4
        exact ih _ _ hx3 k0
      · cases (e.symm.trans e3)
    · rcases hc with ⟨s3, e3, hx3⟩ | e3
      · cases (e.symm.trans e3)
      · exact k0 y (Sum.inr.inj (e3.symm.trans e))
def f_J7_fill_031fb_0 (n : Nat) (v0 : Nat) (v1 : Int32) (h : hp_H) : Option (hp_H) :=
  (hp_len h v0).bind fun x1 =>
  (hp_lp (fL_J7_fill_031fb_5 n v0 v1 x1) n ((0 : Int32), h)).bind fun x2 =>
  some x2
set_option maxHeartbeats 1000000 in
set_option maxRecDepth 4000 in
theorem q_J7_fill_031fb_0 (G : hp_G) (n : Nat) (v0 : Nat) (v1 : Int32) (h : hp_H) (sz sl : Nat) (res : hp_H) (hm : f_J7_fill_031fb_0 n v0 v1 h = some res) : hp_V G m_J7_fill_031fb 0 [(0, .ref v0), (1, .int v1)] [] h sz sl (none, res, sz, sl) := by
  have ho : sz ≤ sz ∧ sl ≤ sl := ⟨Nat.le_refl _, Nat.le_refl _⟩
  unfold f_J7_fill_031fb_0 at hm
  refine hv_iconst (0 : Int32) dJ7_fill_031fb_0 (by decide) ?_
  refine hv_istore_n [(2, .int (0 : Int32)), (0, .ref v0), (1, .int v1)] dJ7_fill_031fb_1 rfl (by decide) rfl ?_
  refine hv_aload_n 1 dJ7_fill_031fb_2 rfl rfl ?_
  obtain ⟨x1, hx1, hm⟩ := hp_bd hm
  refine hv_alen dJ7_fill_031fb_3 hx1 ?_
  refine hv_istore_n [(3, .int x1), (2, .int (0 : Int32)), (0, .ref v0), (1, .int v1)] dJ7_fill_031fb_4 rfl (by decide) rfl ?_
  obtain ⟨x2, hx2, hm⟩ := hp_bd hm
  refine hv_sub [2, 3, 1, 0] rfl (l_J7_fill_031fb_5 G n v0 v1 x1 sz sl _ ho n _ _ hx2 (fun y3 ey3 => ?_))
  · skip
    subst ey3
    obtain rfl := Option.some.inj hm
    rfl
def f_J7_fill_031fb (n : Nat) (v0 : Nat) (v1 : Int32) (h : hp_H) : Option (hp_H) := f_J7_fill_031fb_0 n v0 v1 h
theorem c_J7_fill_031fb (G : hp_G) (n : Nat) (v0 : Nat) (v1 : Int32) (h : hp_H) (sz sl : Nat) (res : hp_H) (hm : f_J7_fill_031fb n v0 v1 h = some res) : hp_C G m_J7_fill_031fb yJ7_fill_031fb [.ref v0, .int v1] h sz sl (none, res, sz, sl) := by
  unfold f_J7_fill_031fb at hm
  exact hp_C_of (by decide) rfl rfl (Nat.le_of_ble_eq_true rfl) (Nat.le_refl _) (Nat.le_refl _) (hv_sub [0, 1] rfl (q_J7_fill_031fb_0 G n v0 v1 h sz sl res hm))
