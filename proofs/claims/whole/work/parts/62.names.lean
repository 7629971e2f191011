def g_X2_clear_0 (n : Nat) (v0 : Nat) (s : st_T) : Option (st_T) :=
  (g_J7_fill_53178 n (gP s v0 1) (-1 : Int32) s).bind fun x2 =>
  some x2
set_option maxHeartbeats 1000000 in
theorem t_X2_clear_0 {tg r : Nat → Nat} {h hb : hp_H} {s sb : st_T} {n : Nat} {v0 : Nat} (I : iso tg r h s) (F : isf tg r hb h sb s) (T_v0 : tg v0 = 12) {res : st_T} (hm : g_X2_clear_0 n v0 s = some res) : ∃ h2, f_X2_clear_0 n (r v0) h = some (h2) ∧ iso tg r h2 res ∧ isf tg r hb h2 sb res := by
  unfold g_X2_clear_0 at hm
  unfold f_X2_clear_0
  have T1 : tg (gP s v0 1) = 0 := t_tg (c := 2) I T_v0 (by decide) (by decide) rfl (by decide)
  refine tr_eq (t_fR I T_v0 (by decide) (by decide) (by decide)) ?_
  obtain ⟨x2, hx2, hm⟩ := hp_bd hm
  obtain ⟨_, e2, I, F⟩ := t_J7_fill_53178 I F T1 hx2
  refine tr_eq e2 ?_
  obtain rfl := Option.some.inj hm
  exact ⟨_, rfl, I, F⟩
def g_X2_clear (n : Nat) (v0 : Nat) (s : st_T) : Option (st_T) := g_X2_clear_0 n v0 s
theorem t_X2_clear {tg r : Nat → Nat} {h hb : hp_H} {s sb : st_T} {n : Nat} {v0 : Nat} (I : iso tg r h s) (F : isf tg r hb h sb s) (T_v0 : tg v0 = 12) {res : st_T} (hm : g_X2_clear n v0 s = some res) : ∃ h2, f_X2_clear n (r v0) h = some (h2) ∧ iso tg r h2 res ∧ isf tg r hb h2 sb res := by
  unfold g_X2_clear at hm
  unfold f_X2_clear
  refine tr_eq (t_ck I T_v0 (by decide)) ?_
  exact t_X2_clear_0 I F T_v0 hm
def g_X2_headOf_5 (n : Nat) (v0 : Nat) (v1 : Int32) (v2 : Int32) (v3 : Int32) (v4 : Int32) (s : st_T) : Option ((Int32 × Int32) ⊕ (Int32)) :=
  if v2 ≤ v4 then
    some (.inr v3)
  else
    (gA s v0 (v1 + v4)).bind fun x1 =>
    some (.inl ((((31 : Int32) * v3) + x1), (v4 + (1 : Int32))))
set_option maxHeartbeats 1000000 in
theorem t_X2_headOf_5 {tg r : Nat → Nat} {h : hp_H} {s : st_T} {n : Nat} {v0 : Nat} {v1 : Int32} {v2 : Int32} {v3 : Int32} {v4 : Int32} (I : iso tg r h s) (T_v0 : tg v0 = 1) {res : (Int32 × Int32) ⊕ (Int32)} (hm : g_X2_headOf_5 n v0 v1 v2 v3 v4 s = some res) : f_X2_headOf_5 n (r v0) v1 v2 v3 v4 h = some res := by
  unfold g_X2_headOf_5 at hm
  unfold f_X2_headOf_5
  by_cases c2 : v2 ≤ v4
  · rw [if_pos c2] at hm ⊢
    obtain rfl := Option.some.inj hm
    rfl
  · rw [if_neg c2] at hm ⊢
    obtain ⟨x1, hx1, hm⟩ := hp_bd hm
    refine tr_eq0 (t_aI I T_v0 (by decide) rfl hx1) ?_
    obtain rfl := Option.some.inj hm
    rfl
def gL_X2_headOf_5 (n : Nat) (v0 : Nat) (v1 : Int32) (v2 : Int32) (s : st_T) (c : Int32 × Int32) : Option ((Int32 × Int32) ⊕ (Int32)) := g_X2_headOf_5 n v0 v1 v2 c.1 c.2 s
theorem tl_X2_headOf_5 {tg r : Nat → Nat} {h : hp_H} {s : st_T} {n : Nat} {v0 : Nat} {v1 : Int32} {v2 : Int32} (I : iso tg r h s) (T_v0 : tg v0 = 1) : ∀ (k : Nat) (c : Int32 × Int32) (x : Int32), hp_lp (gL_X2_headOf_5 n v0 v1 v2 s) k c = some x → hp_lp (fL_X2_headOf_5 n (r v0) v1 v2 h) k c = some x := by
  intro k
  induction k with
  | zero => intro c x hx; exact (hp_lp_0 hx).elim
  | succ k ih =>
    intro c x hx
    obtain ⟨rr, hr, hc⟩ := hp_lp_1 hx
    have e2 := t_X2_headOf_5 I T_v0 hr
    rcases hc with ⟨s3, e3, hx3⟩ | e3
    · subst e3
      exact hp_lp_s e2 (ih _ _ hx3)
    · subst e3
      exact hp_lp_x e2
def g_X2_headOf_0 (n : Nat) (v0 : Nat) (v1 : Int32) (v2 : Int32) (s : st_T) : Option (Int32) :=
  (hp_lp (gL_X2_headOf_5 n v0 v1 v2 s) n (v2, (0 : Int32))).bind fun x1 =>
  some ((x1 ^^^ ((Int32.toUInt32 x1 >>> (Int32.toUInt32 (8 : Int32) &&& Int32.toUInt32 31)).toInt32)) &&& (255 : Int32))
set_option maxHeartbeats 1000000 in
theorem t_X2_headOf_0 {tg r : Nat → Nat} {h : hp_H} {s : st_T} {n : Nat} {v0 : Nat} {v1 : Int32} {v2 : Int32} (I : iso tg r h s) (T_v0 : tg v0 = 1) {res : Int32} (hm : g_X2_headOf_0 n v0 v1 v2 s = some res) : f_X2_headOf_0 n (r v0) v1 v2 h = some res := by
  unfold g_X2_headOf_0 at hm
  unfold f_X2_headOf_0
  obtain ⟨x1, hx1, hm⟩ := hp_bd hm
  refine tr_eq0 (tl_X2_headOf_5 I T_v0 n _ _ hx1) ?_
  obtain rfl := Option.some.inj hm
  rfl
def g_X2_headOf (n : Nat) (v0 : Nat) (v1 : Int32) (v2 : Int32) (s : st_T) : Option (Int32) := g_X2_headOf_0 n v0 v1 v2 s
theorem t_X2_headOf {tg r : Nat → Nat} {h : hp_H} {s : st_T} {n : Nat} {v0 : Nat} {v1 : Int32} {v2 : Int32} (I : iso tg r h s) (T_v0 : tg v0 = 1) {res : Int32} (hm : g_X2_headOf n v0 v1 v2 s = some res) : f_X2_headOf n (r v0) v1 v2 h = some res := by
  unfold g_X2_headOf at hm
  unfold f_X2_headOf
  exact t_X2_headOf_0 I T_v0 hm
def g_X2_add_0 (n : Nat) (v0 : Nat) (v1 : Int32) (v2 : Int32) (v3 : Int32) (s : st_T) : Option (st_T) :=
  (g_X2_headOf n (gP s v0 0) v2 v3 s).bind fun x2 =>
  (uA 0 s (gP s v0 3) v1 v2).bind fun w4 =>
  (uA 0 w4 (gP w4 v0 4) v1 v3).bind fun w6 =>
  (gA w6 (gP w6 v0 1) x2).bind fun x9 =>
  (uA 0 w6 (gP w6 v0 2) v1 x9).bind fun w10 =>
  (uA 0 w10 (gP w10 v0 1) x2 v1).bind fun w12 =>
  some w12
set_option maxHeartbeats 1000000 in
theorem t_X2_add_0 {tg r : Nat → Nat} {h hb : hp_H} {s sb : st_T} {n : Nat} {v0 : Nat} {v1 : Int32} {v2 : Int32} {v3 : Int32} (I : iso tg r h s) (F : isf tg r hb h sb s) (T_v0 : tg v0 = 12) {res : st_T} (hm : g_X2_add_0 n v0 v1 v2 v3 s = some res) : ∃ h2, f_X2_add_0 n (r v0) v1 v2 v3 h = some (h2) ∧ iso tg r h2 res ∧ isf tg r hb h2 sb res := by
  unfold g_X2_add_0 at hm
  unfold f_X2_add_0
  have T1 : tg (gP s v0 0) = 1 := t_tg (c := 2) I T_v0 (by decide) (by decide) rfl (by decide)
  refine tr_eq (t_fR I T_v0 (by decide) (by decide) (by decide)) ?_
  obtain ⟨x2, hx2, hm⟩ := hp_bd hm
  refine tr_eq (t_X2_headOf I T1 hx2) ?_
  have T3 : tg (gP s v0 3) = 0 := t_tg (c := 2) I T_v0 (by decide) (by decide) rfl (by decide)
  refine tr_eq (t_fR I T_v0 (by decide) (by decide) (by decide)) ?_
  obtain ⟨w4, hw4, hm⟩ := hp_bd hm
  obtain ⟨_, e2, I, F⟩ := t_sI I F T3 (by decide) rfl hw4
  refine tr_eq e2 ?_
  have T5 : tg (gP w4 v0 4) = 0 := t_tg (c := 2) I T_v0 (by decide) (by decide) rfl (by decide)
  refine tr_eq (t_fR I T_v0 (by decide) (by decide) (by decide)) ?_
  obtain ⟨w6, hw6, hm⟩ := hp_bd hm
  obtain ⟨_, e2, I, F⟩ := t_sI I F T5 (by decide) rfl hw6
  refine tr_eq e2 ?_
  have T7 : tg (gP w6 v0 2) = 0 := t_tg (c := 2) I T_v0 (by decide) (by decide) rfl (by decide)
  refine tr_eq (t_fR I T_v0 (by decide) (by decide) (by decide)) ?_
  have T8 : tg (gP w6 v0 1) = 0 := t_tg (c := 2) I T_v0 (by decide) (by decide) rfl (by decide)
  refine tr_eq (t_fR I T_v0 (by decide) (by decide) (by decide)) ?_
  obtain ⟨x9, hx9, hm⟩ := hp_bd hm
  refine tr_eq (t_aI I T8 (by decide) rfl hx9) ?_
  obtain ⟨w10, hw10, hm⟩ := hp_bd hm
  obtain ⟨_, e2, I, F⟩ := t_sI I F T7 (by decide) rfl hw10
  refine tr_eq e2 ?_
  have T11 : tg (gP w10 v0 1) = 0 := t_tg (c := 2) I T_v0 (by decide) (by decide) rfl (by decide)
  refine tr_eq (t_fR I T_v0 (by decide) (by decide) (by decide)) ?_
  obtain ⟨w12, hw12, hm⟩ := hp_bd hm
  obtain ⟨_, e2, I, F⟩ := t_sI I F T11 (by decide) rfl hw12
  refine tr_eq e2 ?_
  obtain rfl := Option.some.inj hm
  exact ⟨_, rfl, I, F⟩
def g_X2_add (n : Nat) (v0 : Nat) (v1 : Int32) (v2 : Int32) (v3 : Int32) (s : st_T) : Option (st_T) := g_X2_add_0 n v0 v1 v2 v3 s
theorem t_X2_add {tg r : Nat → Nat} {h hb : hp_H} {s sb : st_T} {n : Nat} {v0 : Nat} {v1 : Int32} {v2 : Int32} {v3 : Int32} (I : iso tg r h s) (F : isf tg r hb h sb s) (T_v0 : tg v0 = 12) {res : st_T} (hm : g_X2_add n v0 v1 v2 v3 s = some res) : ∃ h2, f_X2_add n (r v0) v1 v2 v3 h = some (h2) ∧ iso tg r h2 res ∧ isf tg r hb h2 sb res := by
  unfold g_X2_add at hm
  unfold f_X2_add
  refine tr_eq (t_ck I T_v0 (by decide)) ?_
  exact t_X2_add_0 I F T_v0 hm
def g_X2_isSame_3 (n : Nat) (v0 : Nat) (v1 : Int32) (v2 : Nat) (v3 : Int32) (v4 : Int32) (s : st_T) : Option ((Int32) ⊕ (Int32)) :=
  (gA s (gP s v0 4) v1).bind fun x2 =>
  if x2 ≤ v4 then
    some (.inr (1 : Int32))
  else
    (gA s (gP s v0 3) v1).bind fun x5 =>
    (gA s (gP s v0 0) (x5 + v4)).bind fun x6 =>
    (gA s v2 (v3 + v4)).bind fun x7 =>
    if x6 = x7 then
      some (.inl (v4 + (1 : Int32)))
    else
      some (.inr (0 : Int32))
set_option maxHeartbeats 1000000 in
theorem t_X2_isSame_3 {tg r : Nat → Nat} {h : hp_H} {s : st_T} {n : Nat} {v0 : Nat} {v1 : Int32} {v2 : Nat} {v3 : Int32} {v4 : Int32} (I : iso tg r h s) (T_v0 : tg v0 = 12) (T_v2 : tg v2 = 1) {res : (Int32) ⊕ (Int32)} (hm : g_X2_isSame_3 n v0 v1 v2 v3 v4 s = some res) : f_X2_isSame_3 n (r v0) v1 (r v2) v3 v4 h = some res := by
  unfold g_X2_isSame_3 at hm
  unfold f_X2_isSame_3
  have T1 : tg (gP s v0 4) = 0 := t_tg (c := 2) I T_v0 (by decide) (by decide) rfl (by decide)
  refine tr_eq0 (t_fR I T_v0 (by decide) (by decide) (by decide)) ?_
  obtain ⟨x2, hx2, hm⟩ := hp_bd hm
  refine tr_eq0 (t_aI I T1 (by decide) rfl hx2) ?_
  by_cases c9 : x2 ≤ v4
  · rw [if_pos c9] at hm ⊢
    obtain rfl := Option.some.inj hm
    rfl
  · rw [if_neg c9] at hm ⊢
    have T3 : tg (gP s v0 0) = 1 := t_tg (c := 2) I T_v0 (by decide) (by decide) rfl (by decide)
    refine tr_eq0 (t_fR I T_v0 (by decide) (by decide) (by decide)) ?_
    have T4 : tg (gP s v0 3) = 0 := t_tg (c := 2) I T_v0 (by decide) (by decide) rfl (by decide)
    refine tr_eq0 (t_fR I T_v0 (by decide) (by decide) (by decide)) ?_
    obtain ⟨x5, hx5, hm⟩ := hp_bd hm
    refine tr_eq0 (t_aI I T4 (by decide) rfl hx5) ?_
    obtain ⟨x6, hx6, hm⟩ := hp_bd hm
    refine tr_eq0 (t_aI I T3 (by decide) rfl hx6) ?_
    obtain ⟨x7, hx7, hm⟩ := hp_bd hm
    refine tr_eq0 (t_aI I T_v2 (by decide) rfl hx7) ?_
    by_cases c8 : x6 = x7
    · rw [if_pos c8] at hm ⊢
      obtain rfl := Option.some.inj hm
      rfl
    · rw [if_neg c8] at hm ⊢
      obtain rfl := Option.some.inj hm
      rfl
def gL_X2_isSame_3 (n : Nat) (v0 : Nat) (v1 : Int32) (v2 : Nat) (v3 : Int32) (s : st_T) (c : Int32) : Option ((Int32) ⊕ (Int32)) := g_X2_isSame_3 n v0 v1 v2 v3 c s
theorem tl_X2_isSame_3 {tg r : Nat → Nat} {h : hp_H} {s : st_T} {n : Nat} {v0 : Nat} {v1 : Int32} {v2 : Nat} {v3 : Int32} (I : iso tg r h s) (T_v0 : tg v0 = 12) (T_v2 : tg v2 = 1) : ∀ (k : Nat) (c : Int32) (x : Int32), hp_lp (gL_X2_isSame_3 n v0 v1 v2 v3 s) k c = some x → hp_lp (fL_X2_isSame_3 n (r v0) v1 (r v2) v3 h) k c = some x := by
  intro k
  induction k with
  | zero => intro c x hx; exact (hp_lp_0 hx).elim
  | succ k ih =>
    intro c x hx
    obtain ⟨rr, hr, hc⟩ := hp_lp_1 hx
    have e2 := t_X2_isSame_3 I T_v0 T_v2 hr
    rcases hc with ⟨s3, e3, hx3⟩ | e3
    · subst e3
      exact hp_lp_s e2 (ih _ _ hx3)
    · subst e3
      exact hp_lp_x e2
def g_X2_isSame_0 (n : Nat) (v0 : Nat) (v1 : Int32) (v2 : Nat) (v3 : Int32) (s : st_T) : Option (Int32) :=
  (hp_lp (gL_X2_isSame_3 n v0 v1 v2 v3 s) n (0 : Int32)).bind fun x1 =>
  some x1
set_option maxHeartbeats 1000000 in
theorem t_X2_isSame_0 {tg r : Nat → Nat} {h : hp_H} {s : st_T} {n : Nat} {v0 : Nat} {v1 : Int32} {v2 : Nat} {v3 : Int32} (I : iso tg r h s) (T_v0 : tg v0 = 12) (T_v2 : tg v2 = 1) {res : Int32} (hm : g_X2_isSame_0 n v0 v1 v2 v3 s = some res) : f_X2_isSame_0 n (r v0) v1 (r v2) v3 h = some res := by
  unfold g_X2_isSame_0 at hm
  unfold f_X2_isSame_0
  obtain ⟨x1, hx1, hm⟩ := hp_bd hm
  refine tr_eq0 (tl_X2_isSame_3 I T_v0 T_v2 n _ _ hx1) ?_
  obtain rfl := Option.some.inj hm
  rfl
def g_X2_isSame (n : Nat) (v0 : Nat) (v1 : Int32) (v2 : Nat) (v3 : Int32) (s : st_T) : Option (Int32) := g_X2_isSame_0 n v0 v1 v2 v3 s
theorem t_X2_isSame {tg r : Nat → Nat} {h : hp_H} {s : st_T} {n : Nat} {v0 : Nat} {v1 : Int32} {v2 : Nat} {v3 : Int32} (I : iso tg r h s) (T_v0 : tg v0 = 12) (T_v2 : tg v2 = 1) {res : Int32} (hm : g_X2_isSame n v0 v1 v2 v3 s = some res) : f_X2_isSame n (r v0) v1 (r v2) v3 h = some res := by
  unfold g_X2_isSame at hm
  unfold f_X2_isSame
  refine tr_eq0 (t_ck I T_v0 (by decide)) ?_
  exact t_X2_isSame_0 I T_v0 T_v2 hm
def g_X2_lookUp_55 (n : Nat) (v0 : Nat) (v1 : Nat) (v2 : Int32) (v3 : Int32) (v4 : Int32) (v5 : Int32) (s : st_T) : Option ((Int32 × Int32) ⊕ (Int32)) :=
  (gA s (gP s v0 2) v4).bind fun x2 =>
  some (.inl (x2, (v5 + (1 : Int32))))
set_option maxHeartbeats 1000000 in
theorem t_X2_lookUp_55 {tg r : Nat → Nat} {h : hp_H} {s : st_T} {n : Nat} {v0 : Nat} {v1 : Nat} {v2 : Int32} {v3 : Int32} {v4 : Int32} {v5 : Int32} (I : iso tg r h s) (T_v0 : tg v0 = 12) (T_v1 : tg v1 = 1) {res : (Int32 × Int32) ⊕ (Int32)} (hm : g_X2_lookUp_55 n v0 v1 v2 v3 v4 v5 s = some res) : f_X2_lookUp_55 n (r v0) (r v1) v2 v3 v4 v5 h = some res := by
  unfold g_X2_lookUp_55 at hm
  unfold f_X2_lookUp_55
  have T1 : tg (gP s v0 2) = 0 := t_tg (c := 2) I T_v0 (by decide) (by decide) rfl (by decide)
  refine tr_eq0 (t_fR I T_v0 (by decide) (by decide) (by decide)) ?_
  obtain ⟨x2, hx2, hm⟩ := hp_bd hm
  refine tr_eq0 (t_aI I T1 (by decide) rfl hx2) ?_
  obtain rfl := Option.some.inj hm
  rfl
def g_X2_lookUp_16 (n : Nat) (v0 : Nat) (v1 : Nat) (v2 : Int32) (v3 : Int32) (v4 : Int32) (v5 : Int32) (s : st_T) : Option ((Int32 × Int32) ⊕ (Int32)) :=
  if (500 : Int32) ≤ v5 then
    some (.inr (-1 : Int32))
  else
    if v4 = (-1 : Int32) then
      some (.inr (-1 : Int32))
    else
      (gA s (gP s v0 4) v4).bind fun x2 =>
      if x2 = v3 then
        (g_X2_isSame n v0 v4 v1 v2 s).bind fun x3 =>
        if x3 = 0 then
          g_X2_lookUp_55 n v0 v1 v2 v3 v4 v5 s
        else
          some (.inr v4)
      else
        g_X2_lookUp_55 n v0 v1 v2 v3 v4 v5 s
set_option maxHeartbeats 1000000 in
theorem t_X2_lookUp_16 {tg r : Nat → Nat} {h : hp_H} {s : st_T} {n : Nat} {v0 : Nat} {v1 : Nat} {v2 : Int32} {v3 : Int32} {v4 : Int32} {v5 : Int32} (I : iso tg r h s) (T_v0 : tg v0 = 12) (T_v1 : tg v1 = 1) {res : (Int32 × Int32) ⊕ (Int32)} (hm : g_X2_lookUp_16 n v0 v1 v2 v3 v4 v5 s = some res) : f_X2_lookUp_16 n (r v0) (r v1) v2 v3 v4 v5 h = some res := by
  unfold g_X2_lookUp_16 at hm
  unfold f_X2_lookUp_16
  by_cases c7 : (500 : Int32) ≤ v5
  · rw [if_pos c7] at hm ⊢
    obtain rfl := Option.some.inj hm
    rfl
  · rw [if_neg c7] at hm ⊢
    by_cases c6 : v4 = (-1 : Int32)
    · rw [if_pos c6] at hm ⊢
      obtain rfl := Option.some.inj hm
      rfl
    · rw [if_neg c6] at hm ⊢
      have T1 : tg (gP s v0 4) = 0 := t_tg (c := 2) I T_v0 (by decide) (by decide) rfl (by decide)
      refine tr_eq0 (t_fR I T_v0 (by decide) (by decide) (by decide)) ?_
      obtain ⟨x2, hx2, hm⟩ := hp_bd hm
      refine tr_eq0 (t_aI I T1 (by decide) rfl hx2) ?_
      by_cases c5 : x2 = v3
      · rw [if_pos c5] at hm ⊢
        obtain ⟨x3, hx3, hm⟩ := hp_bd hm
        refine tr_eq0 (t_X2_isSame I T_v0 T_v1 hx3) ?_
        by_cases c4 : x3 = 0
        · rw [if_pos c4] at hm ⊢
          exact t_X2_lookUp_55 I T_v0 T_v1 hm
        · rw [if_neg c4] at hm ⊢
          obtain rfl := Option.some.inj hm
          rfl
      · rw [if_neg c5] at hm ⊢
        exact t_X2_lookUp_55 I T_v0 T_v1 hm
def gL_X2_lookUp_16 (n : Nat) (v0 : Nat) (v1 : Nat) (v2 : Int32) (v3 : Int32) (s : st_T) (c : Int32 × Int32) : Option ((Int32 × Int32) ⊕ (Int32)) := g_X2_lookUp_16 n v0 v1 v2 v3 c.1 c.2 s
theorem tl_X2_lookUp_16 {tg r : Nat → Nat} {h : hp_H} {s : st_T} {n : Nat} {v0 : Nat} {v1 : Nat} {v2 : Int32} {v3 : Int32} (I : iso tg r h s) (T_v0 : tg v0 = 12) (T_v1 : tg v1 = 1) : ∀ (k : Nat) (c : Int32 × Int32) (x : Int32), hp_lp (gL_X2_lookUp_16 n v0 v1 v2 v3 s) k c = some x → hp_lp (fL_X2_lookUp_16 n (r v0) (r v1) v2 v3 h) k c = some x := by
  intro k
  induction k with
  | zero => intro c x hx; exact (hp_lp_0 hx).elim
  | succ k ih =>
    intro c x hx
    obtain ⟨rr, hr, hc⟩ := hp_lp_1 hx
    have e2 := t_X2_lookUp_16 I T_v0 T_v1 hr
    rcases hc with ⟨s3, e3, hx3⟩ | e3
    · subst e3
      exact hp_lp_s e2 (ih _ _ hx3)
    · subst e3
      exact hp_lp_x e2
def g_X2_lookUp_0 (n : Nat) (v0 : Nat) (v1 : Nat) (v2 : Int32) (v3 : Int32) (s : st_T) : Option (Int32) :=
  (g_X2_headOf n v1 v2 v3 s).bind fun x2 =>
  (gA s (gP s v0 1) x2).bind fun x3 =>
  (hp_lp (gL_X2_lookUp_16 n v0 v1 v2 v3 s) n (x3, (0 : Int32))).bind fun x4 =>
  some x4
set_option maxHeartbeats 1000000 in
theorem t_X2_lookUp_0 {tg r : Nat → Nat} {h : hp_H} {s : st_T} {n : Nat} {v0 : Nat} {v1 : Nat} {v2 : Int32} {v3 : Int32} (I : iso tg r h s) (T_v0 : tg v0 = 12) (T_v1 : tg v1 = 1) {res : Int32} (hm : g_X2_lookUp_0 n v0 v1 v2 v3 s = some res) : f_X2_lookUp_0 n (r v0) (r v1) v2 v3 h = some res := by
  unfold g_X2_lookUp_0 at hm
  unfold f_X2_lookUp_0
  have T1 : tg (gP s v0 1) = 0 := t_tg (c := 2) I T_v0 (by decide) (by decide) rfl (by decide)
  refine tr_eq0 (t_fR I T_v0 (by decide) (by decide) (by decide)) ?_
  obtain ⟨x2, hx2, hm⟩ := hp_bd hm
  refine tr_eq0 (t_X2_headOf I T_v1 hx2) ?_
  obtain ⟨x3, hx3, hm⟩ := hp_bd hm
  refine tr_eq0 (t_aI I T1 (by decide) rfl hx3) ?_
  obtain ⟨x4, hx4, hm⟩ := hp_bd hm
  refine tr_eq0 (tl_X2_lookUp_16 I T_v0 T_v1 n _ _ hx4) ?_
  obtain rfl := Option.some.inj hm
  rfl
def g_X2_lookUp (n : Nat) (v0 : Nat) (v1 : Nat) (v2 : Int32) (v3 : Int32) (s : st_T) : Option (Int32) := g_X2_lookUp_0 n v0 v1 v2 v3 s
theorem t_X2_lookUp {tg r : Nat → Nat} {h : hp_H} {s : st_T} {n : Nat} {v0 : Nat} {v1 : Nat} {v2 : Int32} {v3 : Int32} (I : iso tg r h s) (T_v0 : tg v0 = 12) (T_v1 : tg v1 = 1) {res : Int32} (hm : g_X2_lookUp n v0 v1 v2 v3 s = some res) : f_X2_lookUp n (r v0) (r v1) v2 v3 h = some res := by
  unfold g_X2_lookUp at hm
  unfold f_X2_lookUp
  refine tr_eq0 (t_ck I T_v0 (by decide)) ?_
  exact t_X2_lookUp_0 I T_v0 T_v1 hm
def g_X2_byteOf_0 (n : Nat) (v0 : Nat) (v1 : Int32) (v2 : Int32) (s : st_T) : Option (Int32) :=
  if v2 < 0 then
    some (-1 : Int32)
  else
    (gA s (gP s v0 4) v1).bind fun x2 =>
    if x2 ≤ v2 then
      some (-1 : Int32)
    else
      (gA s (gP s v0 3) v1).bind fun x5 =>
      (gA s (gP s v0 0) (x5 + v2)).bind fun x6 =>
      some x6
set_option maxHeartbeats 1000000 in
theorem t_X2_byteOf_0 {tg r : Nat → Nat} {h : hp_H} {s : st_T} {n : Nat} {v0 : Nat} {v1 : Int32} {v2 : Int32} (I : iso tg r h s) (T_v0 : tg v0 = 12) {res : Int32} (hm : g_X2_byteOf_0 n v0 v1 v2 s = some res) : f_X2_byteOf_0 n (r v0) v1 v2 h = some res := by
  unfold g_X2_byteOf_0 at hm
  unfold f_X2_byteOf_0
  by_cases c8 : v2 < 0
  · rw [if_pos c8] at hm ⊢
    obtain rfl := Option.some.inj hm
    rfl
  · rw [if_neg c8] at hm ⊢
    have T1 : tg (gP s v0 4) = 0 := t_tg (c := 2) I T_v0 (by decide) (by decide) rfl (by decide)
    refine tr_eq0 (t_fR I T_v0 (by decide) (by decide) (by decide)) ?_
    obtain ⟨x2, hx2, hm⟩ := hp_bd hm
    refine tr_eq0 (t_aI I T1 (by decide) rfl hx2) ?_
    by_cases c7 : x2 ≤ v2
    · rw [if_pos c7] at hm ⊢
      obtain rfl := Option.some.inj hm
      rfl
    · rw [if_neg c7] at hm ⊢
      have T3 : tg (gP s v0 0) = 1 := t_tg (c := 2) I T_v0 (by decide) (by decide) rfl (by decide)
      refine tr_eq0 (t_fR I T_v0 (by decide) (by decide) (by decide)) ?_
      have T4 : tg (gP s v0 3) = 0 := t_tg (c := 2) I T_v0 (by decide) (by decide) rfl (by decide)
      refine tr_eq0 (t_fR I T_v0 (by decide) (by decide) (by decide)) ?_
      obtain ⟨x5, hx5, hm⟩ := hp_bd hm
      refine tr_eq0 (t_aI I T4 (by decide) rfl hx5) ?_
      obtain ⟨x6, hx6, hm⟩ := hp_bd hm
      refine tr_eq0 (t_aI I T3 (by decide) rfl hx6) ?_
      obtain rfl := Option.some.inj hm
      rfl
def g_X2_byteOf (n : Nat) (v0 : Nat) (v1 : Int32) (v2 : Int32) (s : st_T) : Option (Int32) := g_X2_byteOf_0 n v0 v1 v2 s
theorem t_X2_byteOf {tg r : Nat → Nat} {h : hp_H} {s : st_T} {n : Nat} {v0 : Nat} {v1 : Int32} {v2 : Int32} (I : iso tg r h s) (T_v0 : tg v0 = 12) {res : Int32} (hm : g_X2_byteOf n v0 v1 v2 s = some res) : f_X2_byteOf n (r v0) v1 v2 h = some res := by
  unfold g_X2_byteOf at hm
  unfold f_X2_byteOf
  refine tr_eq0 (t_ck I T_v0 (by decide)) ?_
  exact t_X2_byteOf_0 I T_v0 hm
def g_X2_lengthOf_0 (n : Nat) (v0 : Nat) (v1 : Int32) (s : st_T) : Option (Int32) :=
  (gA s (gP s v0 4) v1).bind fun x2 =>
  some x2
set_option maxHeartbeats 1000000 in
theorem t_X2_lengthOf_0 {tg r : Nat → Nat} {h : hp_H} {s : st_T} {n : Nat} {v0 : Nat} {v1 : Int32} (I : iso tg r h s) (T_v0 : tg v0 = 12) {res : Int32} (hm : g_X2_lengthOf_0 n v0 v1 s = some res) : f_X2_lengthOf_0 n (r v0) v1 h = some res := by
  unfold g_X2_lengthOf_0 at hm
  unfold f_X2_lengthOf_0
  have T1 : tg (gP s v0 4) = 0 := t_tg (c := 2) I T_v0 (by decide) (by decide) rfl (by decide)
  refine tr_eq0 (t_fR I T_v0 (by decide) (by decide) (by decide)) ?_
  obtain ⟨x2, hx2, hm⟩ := hp_bd hm
  refine tr_eq0 (t_aI I T1 (by decide) rfl hx2) ?_
  obtain rfl := Option.some.inj hm
  rfl
def g_X2_lengthOf (n : Nat) (v0 : Nat) (v1 : Int32) (s : st_T) : Option (Int32) := g_X2_lengthOf_0 n v0 v1 s
theorem t_X2_lengthOf {tg r : Nat → Nat} {h : hp_H} {s : st_T} {n : Nat} {v0 : Nat} {v1 : Int32} (I : iso tg r h s) (T_v0 : tg v0 = 12) {res : Int32} (hm : g_X2_lengthOf n v0 v1 s = some res) : f_X2_lengthOf n (r v0) v1 h = some res := by
  unfold g_X2_lengthOf at hm
  unfold f_X2_lengthOf
  refine tr_eq0 (t_ck I T_v0 (by decide)) ?_
  exact t_X2_lengthOf_0 I T_v0 hm
