def g_X8_clear_0 (n : Nat) (v0 : Nat) (s : st_T) : Option (st_T) :=
  (wF s v0 1 (0 : Int32)).bind fun w1 =>
  (wF w1 v0 2 (0 : Int32)).bind fun w2 =>
  some w2
set_option maxHeartbeats 1000000 in
theorem t_X8_clear_0 {tg r : Nat → Nat} {h hb : hp_H} {s sb : st_T} {n : Nat} {v0 : Nat} (I : iso tg r h s) (F : isf tg r hb h sb s) (T_v0 : tg v0 = 18) {res : st_T} (hm : g_X8_clear_0 n v0 s = some res) : ∃ h2, f_X8_clear_0 n (r v0) h = some (h2) ∧ iso tg r h2 res ∧ isf tg r hb h2 sb res := by
  unfold g_X8_clear_0 at hm
  unfold f_X8_clear_0
  obtain ⟨w1, hw1, hm⟩ := hp_bd hm
  obtain ⟨_, e2, I, F⟩ := t_wF (c := 8) (k := 1) I F T_v0 (by decide) (by decide) rfl hw1
  refine tr_eq e2 ?_
  obtain ⟨w2, hw2, hm⟩ := hp_bd hm
  obtain ⟨_, e2, I, F⟩ := t_wF (c := 8) (k := 2) I F T_v0 (by decide) (by decide) rfl hw2
  refine tr_eq e2 ?_
  obtain rfl := Option.some.inj hm
  exact ⟨_, rfl, I, F⟩
def g_X8_clear (n : Nat) (v0 : Nat) (s : st_T) : Option (st_T) := g_X8_clear_0 n v0 s
theorem t_X8_clear {tg r : Nat → Nat} {h hb : hp_H} {s sb : st_T} {n : Nat} {v0 : Nat} (I : iso tg r h s) (F : isf tg r hb h sb s) (T_v0 : tg v0 = 18) {res : st_T} (hm : g_X8_clear n v0 s = some res) : ∃ h2, f_X8_clear n (r v0) h = some (h2) ∧ iso tg r h2 res ∧ isf tg r hb h2 sb res := by
  unfold g_X8_clear at hm
  unfold f_X8_clear
  refine tr_eq (t_ck I T_v0 (by decide)) ?_
  exact t_X8_clear_0 I F T_v0 hm
def g_X8_put_0 (n : Nat) (v0 : Nat) (v1 : Int32) (s : st_T) : Option (st_T) :=
  if (gF s v0 1) = (6000 : Int32) then
    (wF s v0 2 (1 : Int32)).bind fun w4 =>
    some w4
  else
    (uA 1 s (gP s v0 0) (gF s v0 1) ((Int32.toInt8 v1).toInt32)).bind fun w2 =>
    (wF w2 v0 1 ((gF w2 v0 1) + (1 : Int32))).bind fun w3 =>
    some w3
set_option maxHeartbeats 1000000 in
theorem t_X8_put_0 {tg r : Nat → Nat} {h hb : hp_H} {s sb : st_T} {n : Nat} {v0 : Nat} {v1 : Int32} (I : iso tg r h s) (F : isf tg r hb h sb s) (T_v0 : tg v0 = 18) {res : st_T} (hm : g_X8_put_0 n v0 v1 s = some res) : ∃ h2, f_X8_put_0 n (r v0) v1 h = some (h2) ∧ iso tg r h2 res ∧ isf tg r hb h2 sb res := by
  unfold g_X8_put_0 at hm
  unfold f_X8_put_0
  refine tr_eq (t_fI I T_v0 (by decide) (by decide) rfl) ?_
  by_cases c5 : (gF s v0 1) = (6000 : Int32)
  · rw [if_pos c5] at hm ⊢
    obtain ⟨w4, hw4, hm⟩ := hp_bd hm
    obtain ⟨_, e2, I, F⟩ := t_wF (c := 8) (k := 2) I F T_v0 (by decide) (by decide) rfl hw4
    refine tr_eq e2 ?_
    obtain rfl := Option.some.inj hm
    exact ⟨_, rfl, I, F⟩
  · rw [if_neg c5] at hm ⊢
    have T1 : tg (gP s v0 0) = 1 := t_tg (c := 8) I T_v0 (by decide) (by decide) rfl (by decide)
    refine tr_eq (t_fR I T_v0 (by decide) (by decide) (by decide)) ?_
    refine tr_eq (t_fI I T_v0 (by decide) (by decide) rfl) ?_
    obtain ⟨w2, hw2, hm⟩ := hp_bd hm
    obtain ⟨_, e2, I, F⟩ := t_sI I F T1 (by decide) rfl hw2
    refine tr_eq e2 ?_
    refine tr_eq (t_fI I T_v0 (by decide) (by decide) rfl) ?_
    obtain ⟨w3, hw3, hm⟩ := hp_bd hm
    obtain ⟨_, e2, I, F⟩ := t_wF (c := 8) (k := 1) I F T_v0 (by decide) (by decide) rfl hw3
    refine tr_eq e2 ?_
    obtain rfl := Option.some.inj hm
    exact ⟨_, rfl, I, F⟩
def g_X8_put (n : Nat) (v0 : Nat) (v1 : Int32) (s : st_T) : Option (st_T) := g_X8_put_0 n v0 v1 s
theorem t_X8_put {tg r : Nat → Nat} {h hb : hp_H} {s sb : st_T} {n : Nat} {v0 : Nat} {v1 : Int32} (I : iso tg r h s) (F : isf tg r hb h sb s) (T_v0 : tg v0 = 18) {res : st_T} (hm : g_X8_put n v0 v1 s = some res) : ∃ h2, f_X8_put n (r v0) v1 h = some (h2) ∧ iso tg r h2 res ∧ isf tg r hb h2 sb res := by
  unfold g_X8_put at hm
  unfold f_X8_put
  refine tr_eq (t_ck I T_v0 (by decide)) ?_
  exact t_X8_put_0 I F T_v0 hm
abbrev eX_X8_putName_9 (x : st_T) (h2 : hp_H) : hp_H := (fun y => h2) x
abbrev sX_X8_putName_9 (x : st_T) : st_T := (fun y => y) x
abbrev eR_X8_putName_9 (x : (Int32 × st_T) ⊕ (st_T)) (h2 : hp_H) : (Int32 × hp_H) ⊕ (hp_H) := Sum.elim (fun y => .inl (y.1, h2)) (fun y => .inr (eX_X8_putName_9 y h2)) x
abbrev sR_X8_putName_9 (x : (Int32 × st_T) ⊕ (st_T)) : st_T := Sum.elim (fun y => y.2) sX_X8_putName_9 x
def g_X8_putName_9 (n : Nat) (v0 : Nat) (v1 : Nat) (v2 : Int32) (v3 : Int32) (v4 : Int32) (s : st_T) : Option ((Int32 × st_T) ⊕ (st_T)) :=
  if v3 ≤ v4 then
    some (.inr s)
  else
    (g_X2_byteOf n v1 v2 v4 s).bind fun x1 =>
    (g_X8_put n v0 x1 s).bind fun x2 =>
    some (.inl ((v4 + (1 : Int32)), x2))
set_option maxHeartbeats 1000000 in
theorem t_X8_putName_9 {tg r : Nat → Nat} {h hb : hp_H} {s sb : st_T} {n : Nat} {v0 : Nat} {v1 : Nat} {v2 : Int32} {v3 : Int32} {v4 : Int32} (I : iso tg r h s) (F : isf tg r hb h sb s) (T_v0 : tg v0 = 18) (T_v1 : tg v1 = 12) {res : (Int32 × st_T) ⊕ (st_T)} (hm : g_X8_putName_9 n v0 v1 v2 v3 v4 s = some res) : ∃ h2, f_X8_putName_9 n (r v0) (r v1) v2 v3 v4 h = some (eR_X8_putName_9 res h2) ∧ iso tg r h2 (sR_X8_putName_9 res) ∧ isf tg r hb h2 sb (sR_X8_putName_9 res) := by
  unfold g_X8_putName_9 at hm
  unfold f_X8_putName_9
  by_cases c3 : v3 ≤ v4
  · rw [if_pos c3] at hm ⊢
    obtain rfl := Option.some.inj hm
    exact ⟨_, rfl, I, F⟩
  · rw [if_neg c3] at hm ⊢
    obtain ⟨x1, hx1, hm⟩ := hp_bd hm
    refine tr_eq (t_X2_byteOf I T_v1 hx1) ?_
    obtain ⟨x2, hx2, hm⟩ := hp_bd hm
    obtain ⟨_, e2, I, F⟩ := t_X8_put I F T_v0 hx2
    refine tr_eq e2 ?_
    obtain rfl := Option.some.inj hm
    exact ⟨_, rfl, I, F⟩
def gL_X8_putName_9 (n : Nat) (v0 : Nat) (v1 : Nat) (v2 : Int32) (v3 : Int32) (c : Int32 × st_T) : Option ((Int32 × st_T) ⊕ (st_T)) := g_X8_putName_9 n v0 v1 v2 v3 c.1 c.2
theorem tl_X8_putName_9 {tg r : Nat → Nat} {hb : hp_H} {sb : st_T} {n : Nat} {v0 : Nat} {v1 : Nat} {v2 : Int32} {v3 : Int32} (T_v0 : tg v0 = 18) (T_v1 : tg v1 = 12) : ∀ (k : Nat) (c0 : Int32) (h : hp_H) (s : st_T) (x : st_T), iso tg r h s → isf tg r hb h sb s → hp_lp (gL_X8_putName_9 n v0 v1 v2 v3) k (c0, s) = some x → ∃ h2, hp_lp (fL_X8_putName_9 n (r v0) (r v1) v2 v3) k (c0, h) = some (eX_X8_putName_9 x h2) ∧ iso tg r h2 (sX_X8_putName_9 x) ∧ isf tg r hb h2 sb (sX_X8_putName_9 x) := by
  intro k
  induction k with
  | zero => intro c0 h s x I F hx; exact (hp_lp_0 hx).elim
  | succ k ih =>
    intro c0 h s x I F hx
    obtain ⟨rr, hr, hc⟩ := hp_lp_1 hx
    obtain ⟨h2, e2, I2, F2⟩ := t_X8_putName_9 I F T_v0 T_v1 hr
    rcases hc with ⟨s3, e3, hx3⟩ | e3
    · subst e3
      obtain ⟨h3, e4, I3, F3⟩ := ih _ h2 _ x I2 F2 hx3
      exact ⟨h3, hp_lp_s e2 e4, I3, F3⟩
    · subst e3
      exact ⟨h2, hp_lp_x e2, I2, F2⟩
def g_X8_putName_0 (n : Nat) (v0 : Nat) (v1 : Nat) (v2 : Int32) (s : st_T) : Option (st_T) :=
  (g_X2_lengthOf n v1 v2 s).bind fun x1 =>
  (hp_lp (gL_X8_putName_9 n v0 v1 v2 x1) n ((0 : Int32), s)).bind fun x2 =>
  some x2
set_option maxHeartbeats 1000000 in
theorem t_X8_putName_0 {tg r : Nat → Nat} {h hb : hp_H} {s sb : st_T} {n : Nat} {v0 : Nat} {v1 : Nat} {v2 : Int32} (I : iso tg r h s) (F : isf tg r hb h sb s) (T_v0 : tg v0 = 18) (T_v1 : tg v1 = 12) {res : st_T} (hm : g_X8_putName_0 n v0 v1 v2 s = some res) : ∃ h2, f_X8_putName_0 n (r v0) (r v1) v2 h = some (h2) ∧ iso tg r h2 res ∧ isf tg r hb h2 sb res := by
  unfold g_X8_putName_0 at hm
  unfold f_X8_putName_0
  obtain ⟨x1, hx1, hm⟩ := hp_bd hm
  refine tr_eq (t_X2_lengthOf I T_v1 hx1) ?_
  obtain ⟨x2, hx2, hm⟩ := hp_bd hm
  obtain ⟨_, e2, I, F⟩ := tl_X8_putName_9 T_v0 T_v1 n _ _ _ _ I F hx2
  refine tr_eq e2 ?_
  try dsimp only [eX_X8_putName_9]
  replace I : iso tg _ _ x2 := I
  replace F : isf tg _ _ _ _ x2 := F
  obtain rfl := Option.some.inj hm
  exact ⟨_, rfl, I, F⟩
def g_X8_putName (n : Nat) (v0 : Nat) (v1 : Nat) (v2 : Int32) (s : st_T) : Option (st_T) := g_X8_putName_0 n v0 v1 v2 s
theorem t_X8_putName {tg r : Nat → Nat} {h hb : hp_H} {s sb : st_T} {n : Nat} {v0 : Nat} {v1 : Nat} {v2 : Int32} (I : iso tg r h s) (F : isf tg r hb h sb s) (T_v0 : tg v0 = 18) (T_v1 : tg v1 = 12) {res : st_T} (hm : g_X8_putName n v0 v1 v2 s = some res) : ∃ h2, f_X8_putName n (r v0) (r v1) v2 h = some (h2) ∧ iso tg r h2 res ∧ isf tg r hb h2 sb res := by
  unfold g_X8_putName at hm
  unfold f_X8_putName
  refine tr_eq (t_ck I T_v0 (by decide)) ?_
  exact t_X8_putName_0 I F T_v0 T_v1 hm
