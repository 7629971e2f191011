def g_X10_bytesIn_24 (n : Nat) (v0 : Int64) (v2 : Int32) (v3 : Int32) (s : st_T) : Option ((Int32 × Int32) ⊕ (Int32)) :=
  some (.inl (v2, (v3 + (-8 : Int32))))
set_option maxHeartbeats 1000000 in
theorem t_X10_bytesIn_24 {tg r : Nat → Nat} {h : hp_H} {s : st_T} {n : Nat} {v0 : Int64} {v2 : Int32} {v3 : Int32} (I : iso tg r h s) {res : (Int32 × Int32) ⊕ (Int32)} (hm : g_X10_bytesIn_24 n v0 v2 v3 s = some res) : f_X10_bytesIn_24 n v0 v2 v3 h = some res := by
  unfold g_X10_bytesIn_24 at hm
  unfold f_X10_bytesIn_24
  obtain rfl := Option.some.inj hm
  rfl
def g_X10_bytesIn_5 (n : Nat) (v0 : Int64) (v2 : Int32) (v3 : Int32) (s : st_T) : Option ((Int32 × Int32) ⊕ (Int32)) :=
  if v3 < 0 then
    some (.inr v2)
  else
    if (lg_cmp (((Int64.toUInt64 v0 >>> (Int64.toUInt64 (Int32.toInt64 v3) &&& Int64.toUInt64 63)).toInt64) &&& (255 : Int64)) (0 : Int64)) = 0 then
      g_X10_bytesIn_24 n v0 v2 v3 s
    else
      g_X10_bytesIn_24 n v0 (v2 + (1 : Int32)) v3 s
set_option maxHeartbeats 1000000 in
theorem t_X10_bytesIn_5 {tg r : Nat → Nat} {h : hp_H} {s : st_T} {n : Nat} {v0 : Int64} {v2 : Int32} {v3 : Int32} (I : iso tg r h s) {res : (Int32 × Int32) ⊕ (Int32)} (hm : g_X10_bytesIn_5 n v0 v2 v3 s = some res) : f_X10_bytesIn_5 n v0 v2 v3 h = some res := by
  unfold g_X10_bytesIn_5 at hm
  unfold f_X10_bytesIn_5
  by_cases c2 : v3 < 0
  · rw [if_pos c2] at hm ⊢
    obtain rfl := Option.some.inj hm
    rfl
  · rw [if_neg c2] at hm ⊢
    by_cases c1 : (lg_cmp (((Int64.toUInt64 v0 >>> (Int64.toUInt64 (Int32.toInt64 v3) &&& Int64.toUInt64 63)).toInt64) &&& (255 : Int64)) (0 : Int64)) = 0
    · rw [if_pos c1] at hm ⊢
      exact t_X10_bytesIn_24 I  hm
    · rw [if_neg c1] at hm ⊢
      exact t_X10_bytesIn_24 I  hm
def gL_X10_bytesIn_5 (n : Nat) (v0 : Int64) (s : st_T) (c : Int32 × Int32) : Option ((Int32 × Int32) ⊕ (Int32)) := g_X10_bytesIn_5 n v0 c.1 c.2 s
theorem tl_X10_bytesIn_5 {tg r : Nat → Nat} {h : hp_H} {s : st_T} {n : Nat} {v0 : Int64} (I : iso tg r h s) : ∀ (k : Nat) (c : Int32 × Int32) (x : Int32), hp_lp (gL_X10_bytesIn_5 n v0 s) k c = some x → hp_lp (fL_X10_bytesIn_5 n v0 h) k c = some x := by
  intro k
  induction k with
  | zero => intro c x hx; exact (hp_lp_0 hx).elim
  | succ k ih =>
    intro c x hx
    obtain ⟨rr, hr, hc⟩ := hp_lp_1 hx
    have e2 := t_X10_bytesIn_5 I  hr
    rcases hc with ⟨s3, e3, hx3⟩ | e3
    · subst e3
      exact hp_lp_s e2 (ih _ _ hx3)
    · subst e3
      exact hp_lp_x e2
def g_X10_bytesIn_0 (n : Nat) (v0 : Int64) (s : st_T) : Option (Int32) :=
  (hp_lp (gL_X10_bytesIn_5 n v0 s) n ((0 : Int32), (56 : Int32))).bind fun x1 =>
  some x1
set_option maxHeartbeats 1000000 in
theorem t_X10_bytesIn_0 {tg r : Nat → Nat} {h : hp_H} {s : st_T} {n : Nat} {v0 : Int64} (I : iso tg r h s) {res : Int32} (hm : g_X10_bytesIn_0 n v0 s = some res) : f_X10_bytesIn_0 n v0 h = some res := by
  unfold g_X10_bytesIn_0 at hm
  unfold f_X10_bytesIn_0
  obtain ⟨x1, hx1, hm⟩ := hp_bd hm
  refine tr_eq0 (tl_X10_bytesIn_5 I  n _ _ hx1) ?_
  obtain rfl := Option.some.inj hm
  rfl
def g_X10_bytesIn (n : Nat) (v0 : Int64) (s : st_T) : Option (Int32) := g_X10_bytesIn_0 n v0 s
theorem t_X10_bytesIn {tg r : Nat → Nat} {h : hp_H} {s : st_T} {n : Nat} {v0 : Int64} (I : iso tg r h s) {res : Int32} (hm : g_X10_bytesIn n v0 s = some res) : f_X10_bytesIn n v0 h = some res := by
  unfold g_X10_bytesIn at hm
  unfold f_X10_bytesIn
  exact t_X10_bytesIn_0 I  hm
abbrev eX_X10_append_3 (x : st_T) (h2 : hp_H) : hp_H := (fun y => h2) x
abbrev sX_X10_append_3 (x : st_T) : st_T := (fun y => y) x
abbrev eR_X10_append_3 (x : (Int32 × st_T) ⊕ (st_T)) (h2 : hp_H) : (Int32 × hp_H) ⊕ (hp_H) := Sum.elim (fun y => .inl (y.1, h2)) (fun y => .inr (eX_X10_append_3 y h2)) x
abbrev sR_X10_append_3 (x : (Int32 × st_T) ⊕ (st_T)) : st_T := Sum.elim (fun y => y.2) sX_X10_append_3 x
def g_X10_append_66 (n : Nat) (v0 : Nat) (v1 : Int64) (v3 : Int32) (s : st_T) : Option ((Int32 × st_T) ⊕ (st_T)) :=
  some (.inl ((v3 + (-8 : Int32)), s))
set_option maxHeartbeats 1000000 in
theorem t_X10_append_66 {tg r : Nat → Nat} {h hb : hp_H} {s sb : st_T} {n : Nat} {v0 : Nat} {v1 : Int64} {v3 : Int32} (I : iso tg r h s) (F : isf tg r hb h sb s) (T_v0 : tg v0 = 20) {res : (Int32 × st_T) ⊕ (st_T)} (hm : g_X10_append_66 n v0 v1 v3 s = some res) : ∃ h2, f_X10_append_66 n (r v0) v1 v3 h = some (eR_X10_append_3 res h2) ∧ iso tg r h2 (sR_X10_append_3 res) ∧ isf tg r hb h2 sb (sR_X10_append_3 res) := by
  unfold g_X10_append_66 at hm
  unfold f_X10_append_66
  obtain rfl := Option.some.inj hm
  exact ⟨_, rfl, I, F⟩
def g_X10_append_3 (n : Nat) (v0 : Nat) (v1 : Int64) (v3 : Int32) (s : st_T) : Option ((Int32 × st_T) ⊕ (st_T)) :=
  if v3 < 0 then
    some (.inr s)
  else
    if (Int64.toInt32 (((Int64.toUInt64 v1 >>> (Int64.toUInt64 (Int32.toInt64 v3) &&& Int64.toUInt64 63)).toInt64) &&& (255 : Int64))) = 0 then
      g_X10_append_66 n v0 v1 v3 s
    else
      if (8192 : Int32) ≤ (gF s (gP s v0 1) 2) then
        g_X10_append_66 n v0 v1 v3 s
      else
        (uA 1 s (gP s (gP s v0 1) 1) (gF s (gP s v0 1) 2) ((Int32.toInt8 (Int64.toInt32 (((Int64.toUInt64 v1 >>> (Int64.toUInt64 (Int32.toInt64 v3) &&& Int64.toUInt64 63)).toInt64) &&& (255 : Int64)))).toInt32)).bind fun w5 =>
        (wF w5 (gP w5 v0 1) 2 ((gF w5 (gP w5 v0 1) 2) + (1 : Int32))).bind fun w7 =>
        g_X10_append_66 n v0 v1 v3 w7
set_option maxHeartbeats 1000000 in
theorem t_X10_append_3 {tg r : Nat → Nat} {h hb : hp_H} {s sb : st_T} {n : Nat} {v0 : Nat} {v1 : Int64} {v3 : Int32} (I : iso tg r h s) (F : isf tg r hb h sb s) (T_v0 : tg v0 = 20) {res : (Int32 × st_T) ⊕ (st_T)} (hm : g_X10_append_3 n v0 v1 v3 s = some res) : ∃ h2, f_X10_append_3 n (r v0) v1 v3 h = some (eR_X10_append_3 res h2) ∧ iso tg r h2 (sR_X10_append_3 res) ∧ isf tg r hb h2 sb (sR_X10_append_3 res) := by
  unfold g_X10_append_3 at hm
  unfold f_X10_append_3
  by_cases c10 : v3 < 0
  · rw [if_pos c10] at hm ⊢
    obtain rfl := Option.some.inj hm
    exact ⟨_, rfl, I, F⟩
  · rw [if_neg c10] at hm ⊢
    by_cases c9 : (Int64.toInt32 (((Int64.toUInt64 v1 >>> (Int64.toUInt64 (Int32.toInt64 v3) &&& Int64.toUInt64 63)).toInt64) &&& (255 : Int64))) = 0
    · rw [if_pos c9] at hm ⊢
      exact t_X10_append_66 I F T_v0 hm
    · rw [if_neg c9] at hm ⊢
      have T1 : tg (gP s v0 1) = 10 := t_tg (c := 10) I T_v0 (by decide) (by decide) rfl (by decide)
      refine tr_eq (t_fR I T_v0 (by decide) (by decide) (by decide)) ?_
      refine tr_eq (t_fI I T1 (by decide) (by decide) rfl) ?_
      by_cases c8 : (8192 : Int32) ≤ (gF s (gP s v0 1) 2)
      · rw [if_pos c8] at hm ⊢
        exact t_X10_append_66 I F T_v0 hm
      · rw [if_neg c8] at hm ⊢
        have T2 : tg (gP s v0 1) = 10 := t_tg (c := 10) I T_v0 (by decide) (by decide) rfl (by decide)
        refine tr_eq (t_fR I T_v0 (by decide) (by decide) (by decide)) ?_
        have T3 : tg (gP s (gP s v0 1) 1) = 1 := t_tg (c := 0) I T2 (by decide) (by decide) rfl (by decide)
        refine tr_eq (t_fR I T2 (by decide) (by decide) (by decide)) ?_
        have T4 : tg (gP s v0 1) = 10 := t_tg (c := 10) I T_v0 (by decide) (by decide) rfl (by decide)
        refine tr_eq (t_fR I T_v0 (by decide) (by decide) (by decide)) ?_
        refine tr_eq (t_fI I T4 (by decide) (by decide) rfl) ?_
        obtain ⟨w5, hw5, hm⟩ := hp_bd hm
        obtain ⟨_, e2, I, F⟩ := t_sI I F T3 (by decide) rfl hw5
        refine tr_eq e2 ?_
        have T6 : tg (gP w5 v0 1) = 10 := t_tg (c := 10) I T_v0 (by decide) (by decide) rfl (by decide)
        refine tr_eq (t_fR I T_v0 (by decide) (by decide) (by decide)) ?_
        refine tr_eq (t_fI I T6 (by decide) (by decide) rfl) ?_
        obtain ⟨w7, hw7, hm⟩ := hp_bd hm
        obtain ⟨_, e2, I, F⟩ := t_wF (c := 0) (k := 2) I F T6 (by decide) (by decide) rfl hw7
        refine tr_eq e2 ?_
        exact t_X10_append_66 I F T_v0 hm
def gL_X10_append_3 (n : Nat) (v0 : Nat) (v1 : Int64) (c : Int32 × st_T) : Option ((Int32 × st_T) ⊕ (st_T)) := g_X10_append_3 n v0 v1 c.1 c.2
theorem tl_X10_append_3 {tg r : Nat → Nat} {hb : hp_H} {sb : st_T} {n : Nat} {v0 : Nat} {v1 : Int64} (T_v0 : tg v0 = 20) : ∀ (k : Nat) (c0 : Int32) (h : hp_H) (s : st_T) (x : st_T), iso tg r h s → isf tg r hb h sb s → hp_lp (gL_X10_append_3 n v0 v1) k (c0, s) = some x → ∃ h2, hp_lp (fL_X10_append_3 n (r v0) v1) k (c0, h) = some (eX_X10_append_3 x h2) ∧ iso tg r h2 (sX_X10_append_3 x) ∧ isf tg r hb h2 sb (sX_X10_append_3 x) := by
  intro k
  induction k with
  | zero => intro c0 h s x I F hx; exact (hp_lp_0 hx).elim
  | succ k ih =>
    intro c0 h s x I F hx
    obtain ⟨rr, hr, hc⟩ := hp_lp_1 hx
    obtain ⟨h2, e2, I2, F2⟩ := t_X10_append_3 I F T_v0 hr
    rcases hc with ⟨s3, e3, hx3⟩ | e3
    · subst e3
      obtain ⟨h3, e4, I3, F3⟩ := ih _ h2 _ x I2 F2 hx3
      exact ⟨h3, hp_lp_s e2 e4, I3, F3⟩
    · subst e3
      exact ⟨h2, hp_lp_x e2, I2, F2⟩
def g_X10_append_0 (n : Nat) (v0 : Nat) (v1 : Int64) (s : st_T) : Option (st_T) :=
  (hp_lp (gL_X10_append_3 n v0 v1) n ((56 : Int32), s)).bind fun x1 =>
  some x1
set_option maxHeartbeats 1000000 in
theorem t_X10_append_0 {tg r : Nat → Nat} {h hb : hp_H} {s sb : st_T} {n : Nat} {v0 : Nat} {v1 : Int64} (I : iso tg r h s) (F : isf tg r hb h sb s) (T_v0 : tg v0 = 20) {res : st_T} (hm : g_X10_append_0 n v0 v1 s = some res) : ∃ h2, f_X10_append_0 n (r v0) v1 h = some (h2) ∧ iso tg r h2 res ∧ isf tg r hb h2 sb res := by
  unfold g_X10_append_0 at hm
  unfold f_X10_append_0
  obtain ⟨x1, hx1, hm⟩ := hp_bd hm
  obtain ⟨_, e2, I, F⟩ := tl_X10_append_3 T_v0 n _ _ _ _ I F hx1
  refine tr_eq e2 ?_
  try dsimp only [eX_X10_append_3]
  replace I : iso tg _ _ x1 := I
  replace F : isf tg _ _ _ _ x1 := F
  obtain rfl := Option.some.inj hm
  exact ⟨_, rfl, I, F⟩
def g_X10_append (n : Nat) (v0 : Nat) (v1 : Int64) (s : st_T) : Option (st_T) := g_X10_append_0 n v0 v1 s
theorem t_X10_append {tg r : Nat → Nat} {h hb : hp_H} {s sb : st_T} {n : Nat} {v0 : Nat} {v1 : Int64} (I : iso tg r h s) (F : isf tg r hb h sb s) (T_v0 : tg v0 = 20) {res : st_T} (hm : g_X10_append n v0 v1 s = some res) : ∃ h2, f_X10_append n (r v0) v1 h = some (h2) ∧ iso tg r h2 res ∧ isf tg r hb h2 sb res := by
  unfold g_X10_append at hm
  unfold f_X10_append
  refine tr_eq (t_ck I T_v0 (by decide)) ?_
  exact t_X10_append_0 I F T_v0 hm
def g_X10_feed_0 (n : Nat) (v0 : Nat) (v1 : Int64) (v3 : Int64) (s : st_T) : Option (Int32 × st_T) :=
  (g_X10_bytesIn n v1 s).bind fun x1 =>
  (g_X10_bytesIn n v3 s).bind fun x2 =>
  if ((gF s (gP s v0 1) 2) + (x1 + x2)) ≤ (8192 : Int32) then
    (g_X10_append n v0 v1 s).bind fun x4 =>
    (g_X10_append n v0 v3 x4).bind fun x5 =>
    some ((gF x5 (gP x5 v0 1) 2), x5)
  else
    some ((-3 : Int32), s)
set_option maxHeartbeats 1000000 in
theorem t_X10_feed_0 {tg r : Nat → Nat} {h hb : hp_H} {s sb : st_T} {n : Nat} {v0 : Nat} {v1 : Int64} {v3 : Int64} (I : iso tg r h s) (F : isf tg r hb h sb s) (T_v0 : tg v0 = 20) {res : Int32 × st_T} (hm : g_X10_feed_0 n v0 v1 v3 s = some res) : ∃ h2, f_X10_feed_0 n (r v0) v1 v3 h = some ((res.1, h2)) ∧ iso tg r h2 res.2 ∧ isf tg r hb h2 sb res.2 := by
  unfold g_X10_feed_0 at hm
  unfold f_X10_feed_0
  obtain ⟨x1, hx1, hm⟩ := hp_bd hm
  refine tr_eq (t_X10_bytesIn I  hx1) ?_
  obtain ⟨x2, hx2, hm⟩ := hp_bd hm
  refine tr_eq (t_X10_bytesIn I  hx2) ?_
  have T3 : tg (gP s v0 1) = 10 := t_tg (c := 10) I T_v0 (by decide) (by decide) rfl (by decide)
  refine tr_eq (t_fR I T_v0 (by decide) (by decide) (by decide)) ?_
  refine tr_eq (t_fI I T3 (by decide) (by decide) rfl) ?_
  by_cases c7 : ((gF s (gP s v0 1) 2) + (x1 + x2)) ≤ (8192 : Int32)
  · rw [if_pos c7] at hm ⊢
    obtain ⟨x4, hx4, hm⟩ := hp_bd hm
    obtain ⟨_, e2, I, F⟩ := t_X10_append I F T_v0 hx4
    refine tr_eq e2 ?_
    obtain ⟨x5, hx5, hm⟩ := hp_bd hm
    obtain ⟨_, e2, I, F⟩ := t_X10_append I F T_v0 hx5
    refine tr_eq e2 ?_
    have T6 : tg (gP x5 v0 1) = 10 := t_tg (c := 10) I T_v0 (by decide) (by decide) rfl (by decide)
    refine tr_eq (t_fR I T_v0 (by decide) (by decide) (by decide)) ?_
    refine tr_eq (t_fI I T6 (by decide) (by decide) rfl) ?_
    obtain rfl := Option.some.inj hm
    exact ⟨_, rfl, I, F⟩
  · rw [if_neg c7] at hm ⊢
    obtain rfl := Option.some.inj hm
    exact ⟨_, rfl, I, F⟩
def g_X10_feed (n : Nat) (v0 : Nat) (v1 : Int64) (v3 : Int64) (s : st_T) : Option (Int32 × st_T) := g_X10_feed_0 n v0 v1 v3 s
theorem t_X10_feed {tg r : Nat → Nat} {h hb : hp_H} {s sb : st_T} {n : Nat} {v0 : Nat} {v1 : Int64} {v3 : Int64} (I : iso tg r h s) (F : isf tg r hb h sb s) (T_v0 : tg v0 = 20) {res : Int32 × st_T} (hm : g_X10_feed n v0 v1 v3 s = some res) : ∃ h2, f_X10_feed n (r v0) v1 v3 h = some ((res.1, h2)) ∧ iso tg r h2 res.2 ∧ isf tg r hb h2 sb res.2 := by
  unfold g_X10_feed at hm
  unfold f_X10_feed
  refine tr_eq (t_ck I T_v0 (by decide)) ?_
  exact t_X10_feed_0 I F T_v0 hm
def g_X10_forgetAnswers_0 (n : Nat) (v0 : Nat) (s : st_T) : Option (st_T) :=
  (wF s v0 10 (0 : Int32)).bind fun w1 =>
  (g_X5_clear n (gP w1 (gP w1 v0 5) 0) w1).bind fun x4 =>
  (wF x4 (gP x4 v0 7) 1 (0 : Int32)).bind fun w6 =>
  some w6
set_option maxHeartbeats 1000000 in
theorem t_X10_forgetAnswers_0 {tg r : Nat → Nat} {h hb : hp_H} {s sb : st_T} {n : Nat} {v0 : Nat} (I : iso tg r h s) (F : isf tg r hb h sb s) (T_v0 : tg v0 = 20) {res : st_T} (hm : g_X10_forgetAnswers_0 n v0 s = some res) : ∃ h2, f_X10_forgetAnswers_0 n (r v0) h = some (h2) ∧ iso tg r h2 res ∧ isf tg r hb h2 sb res := by
  unfold g_X10_forgetAnswers_0 at hm
  unfold f_X10_forgetAnswers_0
  obtain ⟨w1, hw1, hm⟩ := hp_bd hm
  obtain ⟨_, e2, I, F⟩ := t_wF (c := 10) (k := 10) I F T_v0 (by decide) (by decide) rfl hw1
  refine tr_eq e2 ?_
  have T2 : tg (gP w1 v0 5) = 11 := t_tg (c := 10) I T_v0 (by decide) (by decide) rfl (by decide)
  refine tr_eq (t_fR I T_v0 (by decide) (by decide) (by decide)) ?_
  have T3 : tg (gP w1 (gP w1 v0 5) 0) = 15 := t_tg (c := 1) I T2 (by decide) (by decide) rfl (by decide)
  refine tr_eq (t_fR I T2 (by decide) (by decide) (by decide)) ?_
  obtain ⟨x4, hx4, hm⟩ := hp_bd hm
  obtain ⟨_, e2, I, F⟩ := t_X5_clear I F T3 hx4
  refine tr_eq e2 ?_
  have T5 : tg (gP x4 v0 7) = 18 := t_tg (c := 10) I T_v0 (by decide) (by decide) rfl (by decide)
  refine tr_eq (t_fR I T_v0 (by decide) (by decide) (by decide)) ?_
  obtain ⟨w6, hw6, hm⟩ := hp_bd hm
  obtain ⟨_, e2, I, F⟩ := t_wF (c := 8) (k := 1) I F T5 (by decide) (by decide) rfl hw6
  refine tr_eq e2 ?_
  obtain rfl := Option.some.inj hm
  exact ⟨_, rfl, I, F⟩
def g_X10_forgetAnswers (n : Nat) (v0 : Nat) (s : st_T) : Option (st_T) := g_X10_forgetAnswers_0 n v0 s
theorem t_X10_forgetAnswers {tg r : Nat → Nat} {h hb : hp_H} {s sb : st_T} {n : Nat} {v0 : Nat} (I : iso tg r h s) (F : isf tg r hb h sb s) (T_v0 : tg v0 = 20) {res : st_T} (hm : g_X10_forgetAnswers n v0 s = some res) : ∃ h2, f_X10_forgetAnswers n (r v0) h = some (h2) ∧ iso tg r h2 res ∧ isf tg r hb h2 sb res := by
  unfold g_X10_forgetAnswers at hm
  unfold f_X10_forgetAnswers
  refine tr_eq (t_ck I T_v0 (by decide)) ?_
  exact t_X10_forgetAnswers_0 I F T_v0 hm
def g_X10_read_49 (n : Nat) (v0 : Nat) (v1 : Int32) (s : st_T) : Option (Int32 × st_T) :=
  (wF s (gP s v0 1) 2 (0 : Int32)).bind fun w2 =>
  if v1 = 0 then
    some ((gF w2 (gP w2 v0 0) 5), w2)
  else
    some ((-v1), w2)
set_option maxHeartbeats 1000000 in
theorem t_X10_read_49 {tg r : Nat → Nat} {hb : hp_H} {zb c1 c2 : Nat} {r2 : Nat → Nat} {h : hp_H} {s : st_T} {sz sl n : Nat} {v0 : Nat} {v1 : Int32} (Z : iz tg r hb zb c1 c2 r2 h s sz sl) (T_v0 : tg v0 = 20) {res : Int32 × st_T} (hm : g_X10_read_49 n v0 v1 s = some res) : ∃ h2 sz2 sl2 r3, f_X10_read_49 n (r v0) v1 h sz sl = some ((res.1, h2, sz2, sl2)) ∧ iz tg r hb zb c1 c2 r3 h2 res.2 sz2 sl2 := by
  rw [← Z.2.1 v0 (by omega)]
  unfold g_X10_read_49 at hm
  unfold f_X10_read_49
  have T1 : tg (gP s v0 1) = 10 := t_tg (c := 10) Z.1 T_v0 (by decide) (by decide) rfl (by decide)
  refine tr_eq2 (t_fR Z.1 T_v0 (by decide) (by decide) (by decide)) ?_
  obtain ⟨w2, hw2, hm⟩ := hp_bd hm
  obtain ⟨_, e2, I, F⟩ := t_wF (c := 0) (k := 2) Z.1 isf.rf T1 (by decide) (by decide) rfl hw2
  replace Z := Z.step I F
  refine tr_eq2 e2 ?_
  by_cases c4 : v1 = 0
  · rw [if_pos c4] at hm ⊢
    have T3 : tg (gP w2 v0 0) = 10 := t_tg (c := 10) Z.1 T_v0 (by decide) (by decide) rfl (by decide)
    refine tr_eq2 (t_fR Z.1 T_v0 (by decide) (by decide) (by decide)) ?_
    refine tr_eq2 (t_fI Z.1 T3 (by decide) (by decide) rfl) ?_
    obtain rfl := Option.some.inj hm
    exact ⟨_, _, _, _, rfl, Z⟩
  · rw [if_neg c4] at hm ⊢
    obtain rfl := Option.some.inj hm
    exact ⟨_, _, _, _, rfl, Z⟩
def g_X10_read_15 (n : Nat) (v0 : Nat) (s0 : Int32) (s : st_T) : Option (Int32 × st_T) :=
  (wF s v0 9 (gF s (gP s v0 2) 0)).bind fun w2 =>
  if s0 = 0 then
    (wP w2 v0 0 (gP w2 v0 1)).bind fun w5 =>
    (wP w5 v0 1 (gP w2 v0 0)).bind fun w6 =>
    g_X10_read_49 n v0 s0 w6
  else
    g_X10_read_49 n v0 s0 w2
set_option maxHeartbeats 1000000 in
theorem t_X10_read_15 {tg r : Nat → Nat} {hb : hp_H} {zb c1 c2 : Nat} {r2 : Nat → Nat} {h : hp_H} {s : st_T} {sz sl n : Nat} {v0 : Nat} {s0 : Int32} (Z : iz tg r hb zb c1 c2 r2 h s sz sl) (T_v0 : tg v0 = 20) {res : Int32 × st_T} (hm : g_X10_read_15 n v0 s0 s = some res) : ∃ h2 sz2 sl2 r3, f_X10_read_15 n (r v0) s0 h sz sl = some ((res.1, h2, sz2, sl2)) ∧ iz tg r hb zb c1 c2 r3 h2 res.2 sz2 sl2 := by
  rw [← Z.2.1 v0 (by omega)]
  unfold g_X10_read_15 at hm
  unfold f_X10_read_15
  have T1 : tg (gP s v0 2) = 14 := t_tg (c := 10) Z.1 T_v0 (by decide) (by decide) rfl (by decide)
  refine tr_eq2 (t_fR Z.1 T_v0 (by decide) (by decide) (by decide)) ?_
  refine tr_eq2 (t_fI Z.1 T1 (by decide) (by decide) rfl) ?_
  obtain ⟨w2, hw2, hm⟩ := hp_bd hm
  obtain ⟨_, e2, I, F⟩ := t_wF (c := 10) (k := 9) Z.1 isf.rf T_v0 (by decide) (by decide) rfl hw2
  replace Z := Z.step I F
  refine tr_eq2 e2 ?_
  by_cases c7 : s0 = 0
  · rw [if_pos c7] at hm ⊢
    have T3 : tg (gP w2 v0 0) = 10 := t_tg (c := 10) Z.1 T_v0 (by decide) (by decide) rfl (by decide)
    refine tr_eq2 (t_fR Z.1 T_v0 (by decide) (by decide) (by decide)) ?_
    have T4 : tg (gP w2 v0 1) = 10 := t_tg (c := 10) Z.1 T_v0 (by decide) (by decide) rfl (by decide)
    refine tr_eq2 (t_fR Z.1 T_v0 (by decide) (by decide) (by decide)) ?_
    obtain ⟨w5, hw5, hm⟩ := hp_bd hm
    obtain ⟨_, e2, I, F⟩ := t_wP (c := 10) (k := 0) Z.1 isf.rf (by decide) T_v0 (by decide) (by decide) rfl (by decide) T4 hw5
    replace Z := Z.step I F
    refine tr_eq2 e2 ?_
    obtain ⟨w6, hw6, hm⟩ := hp_bd hm
    obtain ⟨_, e2, I, F⟩ := t_wP (c := 10) (k := 1) Z.1 isf.rf (by decide) T_v0 (by decide) (by decide) rfl (by decide) T3 hw6
    replace Z := Z.step I F
    refine tr_eq2 e2 ?_
    try simp only [Z.2.1 (gP w2 v0 0) (by omega), Z.2.1 v0 (by omega)]
    exact t_X10_read_49 Z T_v0 hm
  · rw [if_neg c7] at hm ⊢
    try simp only [Z.2.1 v0 (by omega)]
    exact t_X10_read_49 Z T_v0 hm
def g_X10_read_0 (n : Nat) (v0 : Nat) (s : st_T) : Option (Int32 × st_T) :=
  (g_X10_forgetAnswers n v0 s).bind fun x1 =>
  (g_X4_readBook n (gP x1 v0 2) (gP x1 v0 1) x1).bind fun x4 =>
  g_X10_read_15 n v0 x4.1 x4.2
set_option maxHeartbeats 1000000 in
theorem t_X10_read_0 {tg r : Nat → Nat} {hb : hp_H} {zb c1 c2 : Nat} {r2 : Nat → Nat} {h : hp_H} {s : st_T} {sz sl n : Nat} {v0 : Nat} (Z : iz tg r hb zb c1 c2 r2 h s sz sl) (T_v0 : tg v0 = 20) {res : Int32 × st_T} (hm : g_X10_read_0 n v0 s = some res) : ∃ h2 sz2 sl2 r3, f_X10_read_0 n (r v0) h sz sl = some ((res.1, h2, sz2, sl2)) ∧ iz tg r hb zb c1 c2 r3 h2 res.2 sz2 sl2 := by
  rw [← Z.2.1 v0 (by omega)]
  unfold g_X10_read_0 at hm
  unfold f_X10_read_0
  obtain ⟨x1, hx1, hm⟩ := hp_bd hm
  obtain ⟨_, e2, I, F⟩ := t_X10_forgetAnswers Z.1 isf.rf T_v0 hx1
  replace Z := Z.step I F
  refine tr_eq2 e2 ?_
  have T2 : tg (gP x1 v0 2) = 14 := t_tg (c := 10) Z.1 T_v0 (by decide) (by decide) rfl (by decide)
  refine tr_eq2 (t_fR Z.1 T_v0 (by decide) (by decide) (by decide)) ?_
  have T3 : tg (gP x1 v0 1) = 10 := t_tg (c := 10) Z.1 T_v0 (by decide) (by decide) rfl (by decide)
  refine tr_eq2 (t_fR Z.1 T_v0 (by decide) (by decide) (by decide)) ?_
  try simp only [Z.2.1 v0 (by omega), Z.2.1 (gP x1 v0 1) (by omega), Z.2.1 (gP x1 v0 2) (by omega)]
  obtain ⟨x4, hx4, hm⟩ := hp_bd hm
  obtain ⟨_, _, _, _, e2, Z⟩ := t2_X4_readBook Z T2 T3 hx4
  refine tr_eq2 e2 ?_
  try dsimp only
  try simp only [Z.2.1 v0 (by omega)]
  exact t_X10_read_15 Z T_v0 hm
def g_X10_read (n : Nat) (v0 : Nat) (s : st_T) : Option (Int32 × st_T) := g_X10_read_0 n v0 s
theorem t2_X10_read {tg r : Nat → Nat} {hb : hp_H} {zb c1 c2 : Nat} {r2 : Nat → Nat} {h : hp_H} {s : st_T} {sz sl n : Nat} {v0 : Nat} (Z : iz tg r hb zb c1 c2 r2 h s sz sl) (T_v0 : tg v0 = 20) {res : Int32 × st_T} (hm : g_X10_read n v0 s = some res) : ∃ h2 sz2 sl2 r3, f_X10_read n (r v0) h sz sl = some ((res.1, h2, sz2, sl2)) ∧ iz tg r hb zb c1 c2 r3 h2 res.2 sz2 sl2 := by
  unfold g_X10_read at hm
  unfold f_X10_read
  have e0 := t_ck (c := 10) Z.1 T_v0 (by decide)
  rw [Z.2.1 v0 (by omega)] at e0
  refine tr_eq2 e0 ?_
  exact t_X10_read_0 Z T_v0 hm
def g_X10_place_0 (n : Nat) (v0 : Nat) (s : st_T) : Option (Int32) :=
  some (gF s v0 9)
set_option maxHeartbeats 1000000 in
theorem t_X10_place_0 {tg r : Nat → Nat} {h : hp_H} {s : st_T} {n : Nat} {v0 : Nat} (I : iso tg r h s) (T_v0 : tg v0 = 20) {res : Int32} (hm : g_X10_place_0 n v0 s = some res) : f_X10_place_0 n (r v0) h = some res := by
  unfold g_X10_place_0 at hm
  unfold f_X10_place_0
  refine tr_eq0 (t_fI I T_v0 (by decide) (by decide) rfl) ?_
  obtain rfl := Option.some.inj hm
  rfl
def g_X10_place (n : Nat) (v0 : Nat) (s : st_T) : Option (Int32) := g_X10_place_0 n v0 s
theorem t_X10_place {tg r : Nat → Nat} {h : hp_H} {s : st_T} {n : Nat} {v0 : Nat} (I : iso tg r h s) (T_v0 : tg v0 = 20) {res : Int32} (hm : g_X10_place n v0 s = some res) : f_X10_place n (r v0) h = some res := by
  unfold g_X10_place at hm
  unfold f_X10_place
  refine tr_eq0 (t_ck I T_v0 (by decide)) ?_
  exact t_X10_place_0 I T_v0 hm
def g_X10_count_0 (n : Nat) (v0 : Nat) (v1 : Int32) (s : st_T) : Option (Int32) :=
  if v1 = (0 : Int32) then
    some (gF s (gP s v0 0) 3)
  else if v1 = (1 : Int32) then
    some (gF s (gP s v0 0) 5)
  else if v1 = (2 : Int32) then
    some (gF s (gP s v0 1) 2)
  else if v1 = (3 : Int32) then
    some (gF s (gP s v0 7) 1)
  else if v1 = (4 : Int32) then
    some (gF s (gP s (gP s v0 5) 0) 3)
  else 
    some (-1 : Int32)
set_option maxHeartbeats 1000000 in
theorem t_X10_count_0 {tg r : Nat → Nat} {h : hp_H} {s : st_T} {n : Nat} {v0 : Nat} {v1 : Int32} (I : iso tg r h s) (T_v0 : tg v0 = 20) {res : Int32} (hm : g_X10_count_0 n v0 v1 s = some res) : f_X10_count_0 n (r v0) v1 h = some res := by
  unfold g_X10_count_0 at hm
  unfold f_X10_count_0
  by_cases c1 : v1 = (0 : Int32)
  · rw [if_pos c1] at hm ⊢
    have T2 : tg (gP s v0 0) = 10 := t_tg (c := 10) I T_v0 (by decide) (by decide) rfl (by decide)
    refine tr_eq0 (t_fR I T_v0 (by decide) (by decide) (by decide)) ?_
    refine tr_eq0 (t_fI I T2 (by decide) (by decide) rfl) ?_
    obtain rfl := Option.some.inj hm
    rfl
  rw [if_neg c1] at hm ⊢
  by_cases c3 : v1 = (1 : Int32)
  · rw [if_pos c3] at hm ⊢
    have T4 : tg (gP s v0 0) = 10 := t_tg (c := 10) I T_v0 (by decide) (by decide) rfl (by decide)
    refine tr_eq0 (t_fR I T_v0 (by decide) (by decide) (by decide)) ?_
    refine tr_eq0 (t_fI I T4 (by decide) (by decide) rfl) ?_
    obtain rfl := Option.some.inj hm
    rfl
  rw [if_neg c3] at hm ⊢
  by_cases c5 : v1 = (2 : Int32)
  · rw [if_pos c5] at hm ⊢
    have T6 : tg (gP s v0 1) = 10 := t_tg (c := 10) I T_v0 (by decide) (by decide) rfl (by decide)
    refine tr_eq0 (t_fR I T_v0 (by decide) (by decide) (by decide)) ?_
    refine tr_eq0 (t_fI I T6 (by decide) (by decide) rfl) ?_
    obtain rfl := Option.some.inj hm
    rfl
  rw [if_neg c5] at hm ⊢
  by_cases c7 : v1 = (3 : Int32)
  · rw [if_pos c7] at hm ⊢
    have T8 : tg (gP s v0 7) = 18 := t_tg (c := 10) I T_v0 (by decide) (by decide) rfl (by decide)
    refine tr_eq0 (t_fR I T_v0 (by decide) (by decide) (by decide)) ?_
    refine tr_eq0 (t_fI I T8 (by decide) (by decide) rfl) ?_
    obtain rfl := Option.some.inj hm
    rfl
  rw [if_neg c7] at hm ⊢
  by_cases c9 : v1 = (4 : Int32)
  · rw [if_pos c9] at hm ⊢
    have T10 : tg (gP s v0 5) = 11 := t_tg (c := 10) I T_v0 (by decide) (by decide) rfl (by decide)
    refine tr_eq0 (t_fR I T_v0 (by decide) (by decide) (by decide)) ?_
    have T11 : tg (gP s (gP s v0 5) 0) = 15 := t_tg (c := 1) I T10 (by decide) (by decide) rfl (by decide)
    refine tr_eq0 (t_fR I T10 (by decide) (by decide) (by decide)) ?_
    refine tr_eq0 (t_fI I T11 (by decide) (by decide) rfl) ?_
    obtain rfl := Option.some.inj hm
    rfl
  rw [if_neg c9] at hm ⊢
  obtain rfl := Option.some.inj hm
  rfl
def g_X10_count (n : Nat) (v0 : Nat) (v1 : Int32) (s : st_T) : Option (Int32) := g_X10_count_0 n v0 v1 s
theorem t_X10_count {tg r : Nat → Nat} {h : hp_H} {s : st_T} {n : Nat} {v0 : Nat} {v1 : Int32} (I : iso tg r h s) (T_v0 : tg v0 = 20) {res : Int32} (hm : g_X10_count n v0 v1 s = some res) : f_X10_count n (r v0) v1 h = some res := by
  unfold g_X10_count at hm
  unfold f_X10_count
  refine tr_eq0 (t_ck I T_v0 (by decide)) ?_
  exact t_X10_count_0 I T_v0 hm
def g_X10_statement_0 (n : Nat) (v0 : Nat) (v1 : Int32) (v2 : Int32) (s : st_T) : Option (Int32) :=
  (g_X0_isStatement n (gP s v0 0) v1 s).bind fun x2 =>
  if x2 = 0 then
    some (-1 : Int32)
  else
    if v2 = (0 : Int32) then
      (gA s (gP s (gP s v0 0) 6) v1).bind fun x6 =>
      some x6
    else if v2 = (1 : Int32) then
      (g_X5_size n (gP s (gP s v0 0) 9) v1 s).bind fun x10 =>
      some x10
    else if v2 = (2 : Int32) then
      (gA s (gP s (gP s v0 0) 7) v1).bind fun x14 =>
      some x14
    else if v2 = (3 : Int32) then
      (g_X5_size n (gP s (gP s v0 0) 12) v1 s).bind fun x18 =>
      some x18
    else if v2 = (4 : Int32) then
      (g_X5_size n (gP s (gP s v0 0) 13) v1 s).bind fun x22 =>
      some x22
    else if v2 = (5 : Int32) then
      (g_X5_size n (gP s (gP s v0 0) 10) v1 s).bind fun x26 =>
      some x26
    else 
      some (-1 : Int32)
set_option maxHeartbeats 1000000 in
theorem t_X10_statement_0 {tg r : Nat → Nat} {h : hp_H} {s : st_T} {n : Nat} {v0 : Nat} {v1 : Int32} {v2 : Int32} (I : iso tg r h s) (T_v0 : tg v0 = 20) {res : Int32} (hm : g_X10_statement_0 n v0 v1 v2 s = some res) : f_X10_statement_0 n (r v0) v1 v2 h = some res := by
  unfold g_X10_statement_0 at hm
  unfold f_X10_statement_0
  have T1 : tg (gP s v0 0) = 10 := t_tg (c := 10) I T_v0 (by decide) (by decide) rfl (by decide)
  refine tr_eq0 (t_fR I T_v0 (by decide) (by decide) (by decide)) ?_
  obtain ⟨x2, hx2, hm⟩ := hp_bd hm
  refine tr_eq0 (t_X0_isStatement I T1 hx2) ?_
  by_cases c27 : x2 = 0
  · rw [if_pos c27] at hm ⊢
    obtain rfl := Option.some.inj hm
    rfl
  · rw [if_neg c27] at hm ⊢
    by_cases c3 : v2 = (0 : Int32)
    · rw [if_pos c3] at hm ⊢
      have T4 : tg (gP s v0 0) = 10 := t_tg (c := 10) I T_v0 (by decide) (by decide) rfl (by decide)
      refine tr_eq0 (t_fR I T_v0 (by decide) (by decide) (by decide)) ?_
      have T5 : tg (gP s (gP s v0 0) 6) = 0 := t_tg (c := 0) I T4 (by decide) (by decide) rfl (by decide)
      refine tr_eq0 (t_fR I T4 (by decide) (by decide) (by decide)) ?_
      obtain ⟨x6, hx6, hm⟩ := hp_bd hm
      refine tr_eq0 (t_aI I T5 (by decide) rfl hx6) ?_
      obtain rfl := Option.some.inj hm
      rfl
    rw [if_neg c3] at hm ⊢
    by_cases c7 : v2 = (1 : Int32)
    · rw [if_pos c7] at hm ⊢
      have T8 : tg (gP s v0 0) = 10 := t_tg (c := 10) I T_v0 (by decide) (by decide) rfl (by decide)
      refine tr_eq0 (t_fR I T_v0 (by decide) (by decide) (by decide)) ?_
      have T9 : tg (gP s (gP s v0 0) 9) = 15 := t_tg (c := 0) I T8 (by decide) (by decide) rfl (by decide)
      refine tr_eq0 (t_fR I T8 (by decide) (by decide) (by decide)) ?_
      obtain ⟨x10, hx10, hm⟩ := hp_bd hm
      refine tr_eq0 (t_X5_size I T9 hx10) ?_
      obtain rfl := Option.some.inj hm
      rfl
    rw [if_neg c7] at hm ⊢
    by_cases c11 : v2 = (2 : Int32)
    · rw [if_pos c11] at hm ⊢
      have T12 : tg (gP s v0 0) = 10 := t_tg (c := 10) I T_v0 (by decide) (by decide) rfl (by decide)
      refine tr_eq0 (t_fR I T_v0 (by decide) (by decide) (by decide)) ?_
      have T13 : tg (gP s (gP s v0 0) 7) = 0 := t_tg (c := 0) I T12 (by decide) (by decide) rfl (by decide)
      refine tr_eq0 (t_fR I T12 (by decide) (by decide) (by decide)) ?_
      obtain ⟨x14, hx14, hm⟩ := hp_bd hm
      refine tr_eq0 (t_aI I T13 (by decide) rfl hx14) ?_
      obtain rfl := Option.some.inj hm
      rfl
    rw [if_neg c11] at hm ⊢
    by_cases c15 : v2 = (3 : Int32)
    · rw [if_pos c15] at hm ⊢
      have T16 : tg (gP s v0 0) = 10 := t_tg (c := 10) I T_v0 (by decide) (by decide) rfl (by decide)
      refine tr_eq0 (t_fR I T_v0 (by decide) (by decide) (by decide)) ?_
      have T17 : tg (gP s (gP s v0 0) 12) = 15 := t_tg (c := 0) I T16 (by decide) (by decide) rfl (by decide)
      refine tr_eq0 (t_fR I T16 (by decide) (by decide) (by decide)) ?_
      obtain ⟨x18, hx18, hm⟩ := hp_bd hm
      refine tr_eq0 (t_X5_size I T17 hx18) ?_
      obtain rfl := Option.some.inj hm
      rfl
    rw [if_neg c15] at hm ⊢
    by_cases c19 : v2 = (4 : Int32)
    · rw [if_pos c19] at hm ⊢
      have T20 : tg (gP s v0 0) = 10 := t_tg (c := 10) I T_v0 (by decide) (by decide) rfl (by decide)
      refine tr_eq0 (t_fR I T_v0 (by decide) (by decide) (by decide)) ?_
      have T21 : tg (gP s (gP s v0 0) 13) = 15 := t_tg (c := 0) I T20 (by decide) (by decide) rfl (by decide)
      refine tr_eq0 (t_fR I T20 (by decide) (by decide) (by decide)) ?_
      obtain ⟨x22, hx22, hm⟩ := hp_bd hm
      refine tr_eq0 (t_X5_size I T21 hx22) ?_
      obtain rfl := Option.some.inj hm
      rfl
    rw [if_neg c19] at hm ⊢
    by_cases c23 : v2 = (5 : Int32)
    · rw [if_pos c23] at hm ⊢
      have T24 : tg (gP s v0 0) = 10 := t_tg (c := 10) I T_v0 (by decide) (by decide) rfl (by decide)
      refine tr_eq0 (t_fR I T_v0 (by decide) (by decide) (by decide)) ?_
      have T25 : tg (gP s (gP s v0 0) 10) = 15 := t_tg (c := 0) I T24 (by decide) (by decide) rfl (by decide)
      refine tr_eq0 (t_fR I T24 (by decide) (by decide) (by decide)) ?_
      obtain ⟨x26, hx26, hm⟩ := hp_bd hm
      refine tr_eq0 (t_X5_size I T25 hx26) ?_
      obtain rfl := Option.some.inj hm
      rfl
    rw [if_neg c23] at hm ⊢
    obtain rfl := Option.some.inj hm
    rfl
def g_X10_statement (n : Nat) (v0 : Nat) (v1 : Int32) (v2 : Int32) (s : st_T) : Option (Int32) := g_X10_statement_0 n v0 v1 v2 s
theorem t_X10_statement {tg r : Nat → Nat} {h : hp_H} {s : st_T} {n : Nat} {v0 : Nat} {v1 : Int32} {v2 : Int32} (I : iso tg r h s) (T_v0 : tg v0 = 20) {res : Int32} (hm : g_X10_statement n v0 v1 v2 s = some res) : f_X10_statement n (r v0) v1 v2 h = some res := by
  unfold g_X10_statement at hm
  unfold f_X10_statement
  refine tr_eq0 (t_ck I T_v0 (by decide)) ?_
  exact t_X10_statement_0 I T_v0 hm
def g_X10_symbol_0 (n : Nat) (v0 : Nat) (v1 : Int32) (v2 : Int32) (s : st_T) : Option (Int32) :=
  (g_X0_isStatement n (gP s v0 0) v1 s).bind fun x2 =>
  if x2 = 0 then
    some (-1 : Int32)
  else
    (g_X5_get n (gP s (gP s v0 0) 9) v1 v2 s).bind fun x5 =>
    some x5
set_option maxHeartbeats 1000000 in
theorem t_X10_symbol_0 {tg r : Nat → Nat} {h : hp_H} {s : st_T} {n : Nat} {v0 : Nat} {v1 : Int32} {v2 : Int32} (I : iso tg r h s) (T_v0 : tg v0 = 20) {res : Int32} (hm : g_X10_symbol_0 n v0 v1 v2 s = some res) : f_X10_symbol_0 n (r v0) v1 v2 h = some res := by
  unfold g_X10_symbol_0 at hm
  unfold f_X10_symbol_0
  have T1 : tg (gP s v0 0) = 10 := t_tg (c := 10) I T_v0 (by decide) (by decide) rfl (by decide)
  refine tr_eq0 (t_fR I T_v0 (by decide) (by decide) (by decide)) ?_
  obtain ⟨x2, hx2, hm⟩ := hp_bd hm
  refine tr_eq0 (t_X0_isStatement I T1 hx2) ?_
  by_cases c6 : x2 = 0
  · rw [if_pos c6] at hm ⊢
    obtain rfl := Option.some.inj hm
    rfl
  · rw [if_neg c6] at hm ⊢
    have T3 : tg (gP s v0 0) = 10 := t_tg (c := 10) I T_v0 (by decide) (by decide) rfl (by decide)
    refine tr_eq0 (t_fR I T_v0 (by decide) (by decide) (by decide)) ?_
    have T4 : tg (gP s (gP s v0 0) 9) = 15 := t_tg (c := 0) I T3 (by decide) (by decide) rfl (by decide)
    refine tr_eq0 (t_fR I T3 (by decide) (by decide) (by decide)) ?_
    obtain ⟨x5, hx5, hm⟩ := hp_bd hm
    refine tr_eq0 (t_X5_get I T4 hx5) ?_
    obtain rfl := Option.some.inj hm
    rfl
def g_X10_symbol (n : Nat) (v0 : Nat) (v1 : Int32) (v2 : Int32) (s : st_T) : Option (Int32) := g_X10_symbol_0 n v0 v1 v2 s
theorem t_X10_symbol {tg r : Nat → Nat} {h : hp_H} {s : st_T} {n : Nat} {v0 : Nat} {v1 : Int32} {v2 : Int32} (I : iso tg r h s) (T_v0 : tg v0 = 20) {res : Int32} (hm : g_X10_symbol n v0 v1 v2 s = some res) : f_X10_symbol n (r v0) v1 v2 h = some res := by
  unfold g_X10_symbol at hm
  unfold f_X10_symbol
  refine tr_eq0 (t_ck I T_v0 (by decide)) ?_
  exact t_X10_symbol_0 I T_v0 hm
def g_X10_name_32 (n : Nat) (v0 : Nat) (v1 : Int32) (v2 : Int32) (v3 : Int32) (s : st_T) : Option (Int32) :=
  if v1 = (1 : Int32) then
    (g_X0_isStatement n (gP s v0 0) v2 s).bind fun x2 =>
    if x2 = 0 then
      some (-1 : Int32)
    else
      (g_X2_byteOf n (gP s (gP s v0 0) 0) ((300 : Int32) + v2) v3 s).bind fun x5 =>
      some x5
  else
    some (-1 : Int32)
set_option maxHeartbeats 1000000 in
theorem t_X10_name_32 {tg r : Nat → Nat} {h : hp_H} {s : st_T} {n : Nat} {v0 : Nat} {v1 : Int32} {v2 : Int32} {v3 : Int32} (I : iso tg r h s) (T_v0 : tg v0 = 20) {res : Int32} (hm : g_X10_name_32 n v0 v1 v2 v3 s = some res) : f_X10_name_32 n (r v0) v1 v2 v3 h = some res := by
  unfold g_X10_name_32 at hm
  unfold f_X10_name_32
  by_cases c7 : v1 = (1 : Int32)
  · rw [if_pos c7] at hm ⊢
    have T1 : tg (gP s v0 0) = 10 := t_tg (c := 10) I T_v0 (by decide) (by decide) rfl (by decide)
    refine tr_eq0 (t_fR I T_v0 (by decide) (by decide) (by decide)) ?_
    obtain ⟨x2, hx2, hm⟩ := hp_bd hm
    refine tr_eq0 (t_X0_isStatement I T1 hx2) ?_
    by_cases c6 : x2 = 0
    · rw [if_pos c6] at hm ⊢
      obtain rfl := Option.some.inj hm
      rfl
    · rw [if_neg c6] at hm ⊢
      have T3 : tg (gP s v0 0) = 10 := t_tg (c := 10) I T_v0 (by decide) (by decide) rfl (by decide)
      refine tr_eq0 (t_fR I T_v0 (by decide) (by decide) (by decide)) ?_
      have T4 : tg (gP s (gP s v0 0) 0) = 12 := t_tg (c := 0) I T3 (by decide) (by decide) rfl (by decide)
      refine tr_eq0 (t_fR I T3 (by decide) (by decide) (by decide)) ?_
      obtain ⟨x5, hx5, hm⟩ := hp_bd hm
      refine tr_eq0 (t_X2_byteOf I T4 hx5) ?_
      obtain rfl := Option.some.inj hm
      rfl
  · rw [if_neg c7] at hm ⊢
    obtain rfl := Option.some.inj hm
    rfl
def g_X10_name_0 (n : Nat) (v0 : Nat) (v1 : Int32) (v2 : Int32) (v3 : Int32) (s : st_T) : Option (Int32) :=
  if v1 = 0 then
    if v2 < 0 then
      g_X10_name_32 n v0 v1 v2 v3 s
    else
      if (gF s (gP s v0 0) 3) ≤ v2 then
        g_X10_name_32 n v0 v1 v2 v3 s
      else
        (g_X2_byteOf n (gP s (gP s v0 0) 0) v2 v3 s).bind fun x4 =>
        some x4
  else
    g_X10_name_32 n v0 v1 v2 v3 s
set_option maxHeartbeats 1000000 in
theorem t_X10_name_0 {tg r : Nat → Nat} {h : hp_H} {s : st_T} {n : Nat} {v0 : Nat} {v1 : Int32} {v2 : Int32} {v3 : Int32} (I : iso tg r h s) (T_v0 : tg v0 = 20) {res : Int32} (hm : g_X10_name_0 n v0 v1 v2 v3 s = some res) : f_X10_name_0 n (r v0) v1 v2 v3 h = some res := by
  unfold g_X10_name_0 at hm
  unfold f_X10_name_0
  by_cases c7 : v1 = 0
  · rw [if_pos c7] at hm ⊢
    by_cases c6 : v2 < 0
    · rw [if_pos c6] at hm ⊢
      exact t_X10_name_32 I T_v0 hm
    · rw [if_neg c6] at hm ⊢
      have T1 : tg (gP s v0 0) = 10 := t_tg (c := 10) I T_v0 (by decide) (by decide) rfl (by decide)
      refine tr_eq0 (t_fR I T_v0 (by decide) (by decide) (by decide)) ?_
      refine tr_eq0 (t_fI I T1 (by decide) (by decide) rfl) ?_
      by_cases c5 : (gF s (gP s v0 0) 3) ≤ v2
      · rw [if_pos c5] at hm ⊢
        exact t_X10_name_32 I T_v0 hm
      · rw [if_neg c5] at hm ⊢
        have T2 : tg (gP s v0 0) = 10 := t_tg (c := 10) I T_v0 (by decide) (by decide) rfl (by decide)
        refine tr_eq0 (t_fR I T_v0 (by decide) (by decide) (by decide)) ?_
        have T3 : tg (gP s (gP s v0 0) 0) = 12 := t_tg (c := 0) I T2 (by decide) (by decide) rfl (by decide)
        refine tr_eq0 (t_fR I T2 (by decide) (by decide) (by decide)) ?_
        obtain ⟨x4, hx4, hm⟩ := hp_bd hm
        refine tr_eq0 (t_X2_byteOf I T3 hx4) ?_
        obtain rfl := Option.some.inj hm
        rfl
  · rw [if_neg c7] at hm ⊢
    exact t_X10_name_32 I T_v0 hm
def g_X10_name (n : Nat) (v0 : Nat) (v1 : Int32) (v2 : Int32) (v3 : Int32) (s : st_T) : Option (Int32) := g_X10_name_0 n v0 v1 v2 v3 s
theorem t_X10_name {tg r : Nat → Nat} {h : hp_H} {s : st_T} {n : Nat} {v0 : Nat} {v1 : Int32} {v2 : Int32} {v3 : Int32} (I : iso tg r h s) (T_v0 : tg v0 = 20) {res : Int32} (hm : g_X10_name n v0 v1 v2 v3 s = some res) : f_X10_name n (r v0) v1 v2 v3 h = some res := by
  unfold g_X10_name at hm
  unfold f_X10_name
  refine tr_eq0 (t_ck I T_v0 (by decide)) ?_
  exact t_X10_name_0 I T_v0 hm
def g_X10_frame_43 (n : Nat) (v1 : Int32) (v2 : Int32) (v3 : Int32) (s0 : Nat) (s : st_T) : Option (Int32) :=
  if v3 < 0 then
    some (-2 : Int32)
  else
    (g_X5_size n s0 v1 s).bind fun x1 =>
    if v3 < x1 then
      (g_X5_get n s0 v1 v3 s).bind fun x2 =>
      if v2 = 0 then
        some x2
      else
        if v2 = (1 : Int32) then
          some (x2 / (300 : Int32))
        else
          some (x2 - x2 / (300 : Int32) * (300 : Int32))
    else
      some (-2 : Int32)
set_option maxHeartbeats 1000000 in
theorem t_X10_frame_43 {tg r : Nat → Nat} {h : hp_H} {s : st_T} {n : Nat} {v1 : Int32} {v2 : Int32} {v3 : Int32} {s0 : Nat} (I : iso tg r h s) (T_s0 : tg s0 = 15) {res : Int32} (hm : g_X10_frame_43 n v1 v2 v3 s0 s = some res) : f_X10_frame_43 n v1 v2 v3 (r s0) h = some res := by
  unfold g_X10_frame_43 at hm
  unfold f_X10_frame_43
  by_cases c6 : v3 < 0
  · rw [if_pos c6] at hm ⊢
    obtain rfl := Option.some.inj hm
    rfl
  · rw [if_neg c6] at hm ⊢
    obtain ⟨x1, hx1, hm⟩ := hp_bd hm
    refine tr_eq0 (t_X5_size I T_s0 hx1) ?_
    by_cases c5 : v3 < x1
    · rw [if_pos c5] at hm ⊢
      obtain ⟨x2, hx2, hm⟩ := hp_bd hm
      refine tr_eq0 (t_X5_get I T_s0 hx2) ?_
      by_cases c4 : v2 = 0
      · rw [if_pos c4] at hm ⊢
        obtain rfl := Option.some.inj hm
        rfl
      · rw [if_neg c4] at hm ⊢
        by_cases c3 : v2 = (1 : Int32)
        · rw [if_pos c3] at hm ⊢
          obtain rfl := Option.some.inj hm
          rfl
        · rw [if_neg c3] at hm ⊢
          obtain rfl := Option.some.inj hm
          rfl
    · rw [if_neg c5] at hm ⊢
      obtain rfl := Option.some.inj hm
      rfl
def g_X10_frame_0 (n : Nat) (v0 : Nat) (v1 : Int32) (v2 : Int32) (v3 : Int32) (s : st_T) : Option (Int32) :=
  (g_X0_isAssertion n (gP s v0 0) v1 s).bind fun x2 =>
  if x2 = 0 then
    some (-1 : Int32)
  else
    if v2 < 0 then
      some (-1 : Int32)
    else
      if v2 ≤ (2 : Int32) then
        if v2 = 0 then
          g_X10_frame_43 n v1 v2 v3 (gP s (gP s v0 0) 12) s
        else
          g_X10_frame_43 n v1 v2 v3 (gP s (gP s v0 0) 13) s
      else
        some (-1 : Int32)
set_option maxHeartbeats 1000000 in
theorem t_X10_frame_0 {tg r : Nat → Nat} {h : hp_H} {s : st_T} {n : Nat} {v0 : Nat} {v1 : Int32} {v2 : Int32} {v3 : Int32} (I : iso tg r h s) (T_v0 : tg v0 = 20) {res : Int32} (hm : g_X10_frame_0 n v0 v1 v2 v3 s = some res) : f_X10_frame_0 n (r v0) v1 v2 v3 h = some res := by
  unfold g_X10_frame_0 at hm
  unfold f_X10_frame_0
  have T1 : tg (gP s v0 0) = 10 := t_tg (c := 10) I T_v0 (by decide) (by decide) rfl (by decide)
  refine tr_eq0 (t_fR I T_v0 (by decide) (by decide) (by decide)) ?_
  obtain ⟨x2, hx2, hm⟩ := hp_bd hm
  refine tr_eq0 (t_X0_isAssertion I T1 hx2) ?_
  by_cases c10 : x2 = 0
  · rw [if_pos c10] at hm ⊢
    obtain rfl := Option.some.inj hm
    rfl
  · rw [if_neg c10] at hm ⊢
    by_cases c9 : v2 < 0
    · rw [if_pos c9] at hm ⊢
      obtain rfl := Option.some.inj hm
      rfl
    · rw [if_neg c9] at hm ⊢
      by_cases c8 : v2 ≤ (2 : Int32)
      · rw [if_pos c8] at hm ⊢
        by_cases c7 : v2 = 0
        · rw [if_pos c7] at hm ⊢
          have T5 : tg (gP s v0 0) = 10 := t_tg (c := 10) I T_v0 (by decide) (by decide) rfl (by decide)
          refine tr_eq0 (t_fR I T_v0 (by decide) (by decide) (by decide)) ?_
          have T6 : tg (gP s (gP s v0 0) 12) = 15 := t_tg (c := 0) I T5 (by decide) (by decide) rfl (by decide)
          refine tr_eq0 (t_fR I T5 (by decide) (by decide) (by decide)) ?_
          exact t_X10_frame_43 I T6 hm
        · rw [if_neg c7] at hm ⊢
          have T3 : tg (gP s v0 0) = 10 := t_tg (c := 10) I T_v0 (by decide) (by decide) rfl (by decide)
          refine tr_eq0 (t_fR I T_v0 (by decide) (by decide) (by decide)) ?_
          have T4 : tg (gP s (gP s v0 0) 13) = 15 := t_tg (c := 0) I T3 (by decide) (by decide) rfl (by decide)
          refine tr_eq0 (t_fR I T3 (by decide) (by decide) (by decide)) ?_
          exact t_X10_frame_43 I T4 hm
      · rw [if_neg c8] at hm ⊢
        obtain rfl := Option.some.inj hm
        rfl
def g_X10_frame (n : Nat) (v0 : Nat) (v1 : Int32) (v2 : Int32) (v3 : Int32) (s : st_T) : Option (Int32) := g_X10_frame_0 n v0 v1 v2 v3 s
theorem t_X10_frame {tg r : Nat → Nat} {h : hp_H} {s : st_T} {n : Nat} {v0 : Nat} {v1 : Int32} {v2 : Int32} {v3 : Int32} (I : iso tg r h s) (T_v0 : tg v0 = 20) {res : Int32} (hm : g_X10_frame n v0 v1 v2 v3 s = some res) : f_X10_frame n (r v0) v1 v2 v3 h = some res := by
  unfold g_X10_frame at hm
  unfold f_X10_frame
  refine tr_eq0 (t_ck I T_v0 (by decide)) ?_
  exact t_X10_frame_0 I T_v0 hm
def g_X10_examine_40 (n : Nat) (v0 : Nat) (v2 : Int32) (s : st_T) : Option (Int32 × st_T) :=
  if v2 = 0 then
    (g_X1_verdict n (gP s v0 4) (gP s v0 0) (gP s v0 3) s).bind fun x4 =>
    some (x4, s)
  else
    some (v2, s)
set_option maxHeartbeats 1000000 in
theorem t_X10_examine_40 {tg r : Nat → Nat} {hb : hp_H} {zb c1 c2 : Nat} {r2 : Nat → Nat} {h : hp_H} {s : st_T} {sz sl n : Nat} {v0 : Nat} {v2 : Int32} (Z : iz tg r hb zb c1 c2 r2 h s sz sl) (T_v0 : tg v0 = 20) {res : Int32 × st_T} (hm : g_X10_examine_40 n v0 v2 s = some res) : ∃ h2 sz2 sl2 r3, f_X10_examine_40 n (r v0) v2 h sz sl = some ((res.1, h2, sz2, sl2)) ∧ iz tg r hb zb c1 c2 r3 h2 res.2 sz2 sl2 := by
  rw [← Z.2.1 v0 (by omega)]
  unfold g_X10_examine_40 at hm
  unfold f_X10_examine_40
  by_cases c5 : v2 = 0
  · rw [if_pos c5] at hm ⊢
    have T1 : tg (gP s v0 4) = 11 := t_tg (c := 10) Z.1 T_v0 (by decide) (by decide) rfl (by decide)
    refine tr_eq2 (t_fR Z.1 T_v0 (by decide) (by decide) (by decide)) ?_
    have T2 : tg (gP s v0 0) = 10 := t_tg (c := 10) Z.1 T_v0 (by decide) (by decide) rfl (by decide)
    refine tr_eq2 (t_fR Z.1 T_v0 (by decide) (by decide) (by decide)) ?_
    have T3 : tg (gP s v0 3) = 13 := t_tg (c := 10) Z.1 T_v0 (by decide) (by decide) rfl (by decide)
    refine tr_eq2 (t_fR Z.1 T_v0 (by decide) (by decide) (by decide)) ?_
    obtain ⟨x4, hx4, hm⟩ := hp_bd hm
    refine tr_eq2 (t_X1_verdict Z.1 T1 T2 T3 hx4) ?_
    obtain rfl := Option.some.inj hm
    exact ⟨_, _, _, _, rfl, Z⟩
  · rw [if_neg c5] at hm ⊢
    obtain rfl := Option.some.inj hm
    exact ⟨_, _, _, _, rfl, Z⟩
def g_X10_examine_39 (n : Nat) (v0 : Nat) (s0 : Int32) (s : st_T) : Option (Int32 × st_T) :=
  g_X10_examine_40 n v0 s0 s
set_option maxHeartbeats 1000000 in
theorem t_X10_examine_39 {tg r : Nat → Nat} {hb : hp_H} {zb c1 c2 : Nat} {r2 : Nat → Nat} {h : hp_H} {s : st_T} {sz sl n : Nat} {v0 : Nat} {s0 : Int32} (Z : iz tg r hb zb c1 c2 r2 h s sz sl) (T_v0 : tg v0 = 20) {res : Int32 × st_T} (hm : g_X10_examine_39 n v0 s0 s = some res) : ∃ h2 sz2 sl2 r3, f_X10_examine_39 n (r v0) s0 h sz sl = some ((res.1, h2, sz2, sl2)) ∧ iz tg r hb zb c1 c2 r3 h2 res.2 sz2 sl2 := by
  rw [← Z.2.1 v0 (by omega)]
  unfold g_X10_examine_39 at hm
  unfold f_X10_examine_39
  try simp only [Z.2.1 v0 (by omega)]
  exact t_X10_examine_40 Z T_v0 hm
def g_X10_examine_0 (n : Nat) (v0 : Nat) (v1 : Int32) (s : st_T) : Option (Int32 × st_T) :=
  (g_X3_decode n (gP s v0 3) (gP s v0 0) v1 s).bind fun x3 =>
  if x3.1 = 0 then
    (g_X1_run n (gP x3.2 v0 4) (gP x3.2 v0 0) (gP x3.2 v0 3) (gF x3.2 (gP x3.2 v0 3) 1) x3.2).bind fun x8 =>
    g_X10_examine_39 n v0 x8.1 x8.2
  else
    g_X10_examine_40 n v0 x3.1 x3.2
set_option maxHeartbeats 1000000 in
theorem t_X10_examine_0 {tg r : Nat → Nat} {hb : hp_H} {zb c1 c2 : Nat} {r2 : Nat → Nat} {h : hp_H} {s : st_T} {sz sl n : Nat} {v0 : Nat} {v1 : Int32} (Z : iz tg r hb zb c1 c2 r2 h s sz sl) (T_v0 : tg v0 = 20) {res : Int32 × st_T} (hm : g_X10_examine_0 n v0 v1 s = some res) : ∃ h2 sz2 sl2 r3, f_X10_examine_0 n (r v0) v1 h sz sl = some ((res.1, h2, sz2, sl2)) ∧ iz tg r hb zb c1 c2 r3 h2 res.2 sz2 sl2 := by
  rw [← Z.2.1 v0 (by omega)]
  unfold g_X10_examine_0 at hm
  unfold f_X10_examine_0
  have T1 : tg (gP s v0 3) = 13 := t_tg (c := 10) Z.1 T_v0 (by decide) (by decide) rfl (by decide)
  refine tr_eq2 (t_fR Z.1 T_v0 (by decide) (by decide) (by decide)) ?_
  have T2 : tg (gP s v0 0) = 10 := t_tg (c := 10) Z.1 T_v0 (by decide) (by decide) rfl (by decide)
  refine tr_eq2 (t_fR Z.1 T_v0 (by decide) (by decide) (by decide)) ?_
  obtain ⟨x3, hx3, hm⟩ := hp_bd hm
  obtain ⟨_, e2, I, F⟩ := t_X3_decode Z.1 isf.rf T1 T2 hx3
  replace Z := Z.step I F
  refine tr_eq2 e2 ?_
  try dsimp only
  by_cases c9 : x3.1 = 0
  · rw [if_pos c9] at hm ⊢
    have T4 : tg (gP x3.2 v0 4) = 11 := t_tg (c := 10) Z.1 T_v0 (by decide) (by decide) rfl (by decide)
    refine tr_eq2 (t_fR Z.1 T_v0 (by decide) (by decide) (by decide)) ?_
    have T5 : tg (gP x3.2 v0 0) = 10 := t_tg (c := 10) Z.1 T_v0 (by decide) (by decide) rfl (by decide)
    refine tr_eq2 (t_fR Z.1 T_v0 (by decide) (by decide) (by decide)) ?_
    have T6 : tg (gP x3.2 v0 3) = 13 := t_tg (c := 10) Z.1 T_v0 (by decide) (by decide) rfl (by decide)
    refine tr_eq2 (t_fR Z.1 T_v0 (by decide) (by decide) (by decide)) ?_
    have T7 : tg (gP x3.2 v0 3) = 13 := t_tg (c := 10) Z.1 T_v0 (by decide) (by decide) rfl (by decide)
    refine tr_eq2 (t_fR Z.1 T_v0 (by decide) (by decide) (by decide)) ?_
    refine tr_eq2 (t_fI Z.1 T7 (by decide) (by decide) rfl) ?_
    try simp only [Z.2.1 v0 (by omega), Z.2.1 (gP x3.2 v0 3) (by omega), Z.2.1 (gP x3.2 v0 0) (by omega), Z.2.1 (gP x3.2 v0 4) (by omega)]
    obtain ⟨x8, hx8, hm⟩ := hp_bd hm
    obtain ⟨_, _, _, _, e2, Z⟩ := t2_X1_run Z T4 T5 T7 hx8
    refine tr_eq2 e2 ?_
    try dsimp only
    try simp only [Z.2.1 v0 (by omega)]
    exact t_X10_examine_39 Z T_v0 hm
  · rw [if_neg c9] at hm ⊢
    try simp only [Z.2.1 v0 (by omega)]
    exact t_X10_examine_40 Z T_v0 hm
def g_X10_examine (n : Nat) (v0 : Nat) (v1 : Int32) (s : st_T) : Option (Int32 × st_T) := g_X10_examine_0 n v0 v1 s
theorem t2_X10_examine {tg r : Nat → Nat} {hb : hp_H} {zb c1 c2 : Nat} {r2 : Nat → Nat} {h : hp_H} {s : st_T} {sz sl n : Nat} {v0 : Nat} {v1 : Int32} (Z : iz tg r hb zb c1 c2 r2 h s sz sl) (T_v0 : tg v0 = 20) {res : Int32 × st_T} (hm : g_X10_examine n v0 v1 s = some res) : ∃ h2 sz2 sl2 r3, f_X10_examine n (r v0) v1 h sz sl = some ((res.1, h2, sz2, sl2)) ∧ iz tg r hb zb c1 c2 r3 h2 res.2 sz2 sl2 := by
  unfold g_X10_examine at hm
  unfold f_X10_examine
  have e0 := t_ck (c := 10) Z.1 T_v0 (by decide)
  rw [Z.2.1 v0 (by omega)] at e0
  refine tr_eq2 e0 ?_
  exact t_X10_examine_0 Z T_v0 hm
def g_X10_check_23 (n : Nat) (v0 : Nat) (s0 : Int32) (s : st_T) : Option (Int32 × st_T) :=
  (wF s v0 10 (gF s (gP s v0 3) 2)).bind fun w2 =>
  if 0 ≤ s0 then
    some (s0, w2)
  else
    some (((-100 : Int32) + s0), w2)
set_option maxHeartbeats 1000000 in
theorem t_X10_check_23 {tg r : Nat → Nat} {hb : hp_H} {zb c1 c2 : Nat} {r2 : Nat → Nat} {h : hp_H} {s : st_T} {sz sl n : Nat} {v0 : Nat} {s0 : Int32} (Z : iz tg r hb zb c1 c2 r2 h s sz sl) (T_v0 : tg v0 = 20) {res : Int32 × st_T} (hm : g_X10_check_23 n v0 s0 s = some res) : ∃ h2 sz2 sl2 r3, f_X10_check_23 n (r v0) s0 h sz sl = some ((res.1, h2, sz2, sl2)) ∧ iz tg r hb zb c1 c2 r3 h2 res.2 sz2 sl2 := by
  rw [← Z.2.1 v0 (by omega)]
  unfold g_X10_check_23 at hm
  unfold f_X10_check_23
  have T1 : tg (gP s v0 3) = 13 := t_tg (c := 10) Z.1 T_v0 (by decide) (by decide) rfl (by decide)
  refine tr_eq2 (t_fR Z.1 T_v0 (by decide) (by decide) (by decide)) ?_
  refine tr_eq2 (t_fI Z.1 T1 (by decide) (by decide) rfl) ?_
  obtain ⟨w2, hw2, hm⟩ := hp_bd hm
  obtain ⟨_, e2, I, F⟩ := t_wF (c := 10) (k := 10) Z.1 isf.rf T_v0 (by decide) (by decide) rfl hw2
  replace Z := Z.step I F
  refine tr_eq2 e2 ?_
  by_cases c3 : 0 ≤ s0
  · rw [if_pos c3] at hm ⊢
    obtain rfl := Option.some.inj hm
    exact ⟨_, _, _, _, rfl, Z⟩
  · rw [if_neg c3] at hm ⊢
    obtain rfl := Option.some.inj hm
    exact ⟨_, _, _, _, rfl, Z⟩
def g_X10_check_0 (n : Nat) (v0 : Nat) (v1 : Int32) (s : st_T) : Option (Int32 × st_T) :=
  (wF s v0 10 (0 : Int32)).bind fun w1 =>
  (g_X0_isProvable n (gP w1 v0 0) v1 w1).bind fun x3 =>
  if x3 = 0 then
    some ((-1 : Int32), w1)
  else
    (g_X10_examine n v0 v1 w1).bind fun x4 =>
    g_X10_check_23 n v0 x4.1 x4.2
set_option maxHeartbeats 1000000 in
theorem t_X10_check_0 {tg r : Nat → Nat} {hb : hp_H} {zb c1 c2 : Nat} {r2 : Nat → Nat} {h : hp_H} {s : st_T} {sz sl n : Nat} {v0 : Nat} {v1 : Int32} (Z : iz tg r hb zb c1 c2 r2 h s sz sl) (T_v0 : tg v0 = 20) {res : Int32 × st_T} (hm : g_X10_check_0 n v0 v1 s = some res) : ∃ h2 sz2 sl2 r3, f_X10_check_0 n (r v0) v1 h sz sl = some ((res.1, h2, sz2, sl2)) ∧ iz tg r hb zb c1 c2 r3 h2 res.2 sz2 sl2 := by
  rw [← Z.2.1 v0 (by omega)]
  unfold g_X10_check_0 at hm
  unfold f_X10_check_0
  obtain ⟨w1, hw1, hm⟩ := hp_bd hm
  obtain ⟨_, e2, I, F⟩ := t_wF (c := 10) (k := 10) Z.1 isf.rf T_v0 (by decide) (by decide) rfl hw1
  replace Z := Z.step I F
  refine tr_eq2 e2 ?_
  have T2 : tg (gP w1 v0 0) = 10 := t_tg (c := 10) Z.1 T_v0 (by decide) (by decide) rfl (by decide)
  refine tr_eq2 (t_fR Z.1 T_v0 (by decide) (by decide) (by decide)) ?_
  obtain ⟨x3, hx3, hm⟩ := hp_bd hm
  refine tr_eq2 (t_X0_isProvable Z.1 T2 hx3) ?_
  by_cases c5 : x3 = 0
  · rw [if_pos c5] at hm ⊢
    obtain rfl := Option.some.inj hm
    exact ⟨_, _, _, _, rfl, Z⟩
  · rw [if_neg c5] at hm ⊢
    try simp only [Z.2.1 v0 (by omega)]
    obtain ⟨x4, hx4, hm⟩ := hp_bd hm
    obtain ⟨_, _, _, _, e2, Z⟩ := t2_X10_examine Z T_v0 hx4
    refine tr_eq2 e2 ?_
    try dsimp only
    try simp only [Z.2.1 v0 (by omega)]
    exact t_X10_check_23 Z T_v0 hm
def g_X10_check (n : Nat) (v0 : Nat) (v1 : Int32) (s : st_T) : Option (Int32 × st_T) := g_X10_check_0 n v0 v1 s
theorem t2_X10_check {tg r : Nat → Nat} {hb : hp_H} {zb c1 c2 : Nat} {r2 : Nat → Nat} {h : hp_H} {s : st_T} {sz sl n : Nat} {v0 : Nat} {v1 : Int32} (Z : iz tg r hb zb c1 c2 r2 h s sz sl) (T_v0 : tg v0 = 20) {res : Int32 × st_T} (hm : g_X10_check n v0 v1 s = some res) : ∃ h2 sz2 sl2 r3, f_X10_check n (r v0) v1 h sz sl = some ((res.1, h2, sz2, sl2)) ∧ iz tg r hb zb c1 c2 r3 h2 res.2 sz2 sl2 := by
  unfold g_X10_check at hm
  unfold f_X10_check
  have e0 := t_ck (c := 10) Z.1 T_v0 (by decide)
  rw [Z.2.1 v0 (by omega)] at e0
  refine tr_eq2 e0 ?_
  exact t_X10_check_0 Z T_v0 hm
def g_X10_step_0 (n : Nat) (v0 : Nat) (s : st_T) : Option (Int32) :=
  some (gF s v0 10)
set_option maxHeartbeats 1000000 in
theorem t_X10_step_0 {tg r : Nat → Nat} {h : hp_H} {s : st_T} {n : Nat} {v0 : Nat} (I : iso tg r h s) (T_v0 : tg v0 = 20) {res : Int32} (hm : g_X10_step_0 n v0 s = some res) : f_X10_step_0 n (r v0) h = some res := by
  unfold g_X10_step_0 at hm
  unfold f_X10_step_0
  refine tr_eq0 (t_fI I T_v0 (by decide) (by decide) rfl) ?_
  obtain rfl := Option.some.inj hm
  rfl
def g_X10_step (n : Nat) (v0 : Nat) (s : st_T) : Option (Int32) := g_X10_step_0 n v0 s
theorem t_X10_step {tg r : Nat → Nat} {h : hp_H} {s : st_T} {n : Nat} {v0 : Nat} (I : iso tg r h s) (T_v0 : tg v0 = 20) {res : Int32} (hm : g_X10_step n v0 s = some res) : f_X10_step n (r v0) h = some res := by
  unfold g_X10_step at hm
  unfold f_X10_step
  refine tr_eq0 (t_ck I T_v0 (by decide)) ?_
  exact t_X10_step_0 I T_v0 hm
def g_X10_trace_74 (n : Nat) (v0 : Nat) (v3 : Int32) (s : st_T) : Option (Int32 × st_T) :=
  (wF s v0 10 (gF s (gP s v0 3) 2)).bind fun w2 =>
  if v3 = 0 then
    some ((gF w2 (gP w2 (gP w2 v0 5) 0) 3), w2)
  else
    (g_X5_clear n (gP w2 (gP w2 v0 5) 0) w2).bind fun x5 =>
    if v3 = (1 : Int32) then
      some ((-9 : Int32), x5)
    else
      some (((-100 : Int32) + v3), x5)
set_option maxHeartbeats 1000000 in
theorem t_X10_trace_74 {tg r : Nat → Nat} {hb : hp_H} {zb c1 c2 : Nat} {r2 : Nat → Nat} {h : hp_H} {s : st_T} {sz sl n : Nat} {v0 : Nat} {v3 : Int32} (Z : iz tg r hb zb c1 c2 r2 h s sz sl) (T_v0 : tg v0 = 20) {res : Int32 × st_T} (hm : g_X10_trace_74 n v0 v3 s = some res) : ∃ h2 sz2 sl2 r3, f_X10_trace_74 n (r v0) v3 h sz sl = some ((res.1, h2, sz2, sl2)) ∧ iz tg r hb zb c1 c2 r3 h2 res.2 sz2 sl2 := by
  rw [← Z.2.1 v0 (by omega)]
  unfold g_X10_trace_74 at hm
  unfold f_X10_trace_74
  have T1 : tg (gP s v0 3) = 13 := t_tg (c := 10) Z.1 T_v0 (by decide) (by decide) rfl (by decide)
  refine tr_eq2 (t_fR Z.1 T_v0 (by decide) (by decide) (by decide)) ?_
  refine tr_eq2 (t_fI Z.1 T1 (by decide) (by decide) rfl) ?_
  obtain ⟨w2, hw2, hm⟩ := hp_bd hm
  obtain ⟨_, e2, I, F⟩ := t_wF (c := 10) (k := 10) Z.1 isf.rf T_v0 (by decide) (by decide) rfl hw2
  replace Z := Z.step I F
  refine tr_eq2 e2 ?_
  by_cases c9 : v3 = 0
  · rw [if_pos c9] at hm ⊢
    have T7 : tg (gP w2 v0 5) = 11 := t_tg (c := 10) Z.1 T_v0 (by decide) (by decide) rfl (by decide)
    refine tr_eq2 (t_fR Z.1 T_v0 (by decide) (by decide) (by decide)) ?_
    have T8 : tg (gP w2 (gP w2 v0 5) 0) = 15 := t_tg (c := 1) Z.1 T7 (by decide) (by decide) rfl (by decide)
    refine tr_eq2 (t_fR Z.1 T7 (by decide) (by decide) (by decide)) ?_
    refine tr_eq2 (t_fI Z.1 T8 (by decide) (by decide) rfl) ?_
    obtain rfl := Option.some.inj hm
    exact ⟨_, _, _, _, rfl, Z⟩
  · rw [if_neg c9] at hm ⊢
    have T3 : tg (gP w2 v0 5) = 11 := t_tg (c := 10) Z.1 T_v0 (by decide) (by decide) rfl (by decide)
    refine tr_eq2 (t_fR Z.1 T_v0 (by decide) (by decide) (by decide)) ?_
    have T4 : tg (gP w2 (gP w2 v0 5) 0) = 15 := t_tg (c := 1) Z.1 T3 (by decide) (by decide) rfl (by decide)
    refine tr_eq2 (t_fR Z.1 T3 (by decide) (by decide) (by decide)) ?_
    obtain ⟨x5, hx5, hm⟩ := hp_bd hm
    obtain ⟨_, e2, I, F⟩ := t_X5_clear Z.1 isf.rf T4 hx5
    replace Z := Z.step I F
    refine tr_eq2 e2 ?_
    by_cases c6 : v3 = (1 : Int32)
    · rw [if_pos c6] at hm ⊢
      obtain rfl := Option.some.inj hm
      exact ⟨_, _, _, _, rfl, Z⟩
    · rw [if_neg c6] at hm ⊢
      obtain rfl := Option.some.inj hm
      exact ⟨_, _, _, _, rfl, Z⟩
def g_X10_trace_73 (n : Nat) (v0 : Nat) (s0 : Int32) (s : st_T) : Option (Int32 × st_T) :=
  g_X10_trace_74 n v0 s0 s
set_option maxHeartbeats 1000000 in
theorem t_X10_trace_73 {tg r : Nat → Nat} {hb : hp_H} {zb c1 c2 : Nat} {r2 : Nat → Nat} {h : hp_H} {s : st_T} {sz sl n : Nat} {v0 : Nat} {s0 : Int32} (Z : iz tg r hb zb c1 c2 r2 h s sz sl) (T_v0 : tg v0 = 20) {res : Int32 × st_T} (hm : g_X10_trace_73 n v0 s0 s = some res) : ∃ h2 sz2 sl2 r3, f_X10_trace_73 n (r v0) s0 h sz sl = some ((res.1, h2, sz2, sl2)) ∧ iz tg r hb zb c1 c2 r3 h2 res.2 sz2 sl2 := by
  rw [← Z.2.1 v0 (by omega)]
  unfold g_X10_trace_73 at hm
  unfold f_X10_trace_73
  try simp only [Z.2.1 v0 (by omega)]
  exact t_X10_trace_74 Z T_v0 hm
def g_X10_trace_0 (n : Nat) (v0 : Nat) (v1 : Int32) (v2 : Int32) (s : st_T) : Option (Int32 × st_T) :=
  (wF s v0 10 (0 : Int32)).bind fun w1 =>
  (g_X5_clear n (gP w1 (gP w1 v0 5) 0) w1).bind fun x4 =>
  (g_X0_isProvable n (gP x4 v0 0) v1 x4).bind fun x6 =>
  if x6 = 0 then
    some ((-1 : Int32), x4)
  else
    if 0 ≤ v2 then
      (g_X3_decode n (gP x4 v0 3) (gP x4 v0 0) v1 x4).bind fun x9 =>
      if x9.1 = 0 then
        (g_X1_run n (gP x9.2 v0 5) (gP x9.2 v0 0) (gP x9.2 v0 3) ((hp_mn v2 (1000 : Int32)) + (1 : Int32)) x9.2).bind fun x13 =>
        g_X10_trace_73 n v0 x13.1 x13.2
      else
        g_X10_trace_74 n v0 x9.1 x9.2
    else
      some ((-1 : Int32), x4)
set_option maxHeartbeats 1000000 in
theorem t_X10_trace_0 {tg r : Nat → Nat} {hb : hp_H} {zb c1 c2 : Nat} {r2 : Nat → Nat} {h : hp_H} {s : st_T} {sz sl n : Nat} {v0 : Nat} {v1 : Int32} {v2 : Int32} (Z : iz tg r hb zb c1 c2 r2 h s sz sl) (T_v0 : tg v0 = 20) {res : Int32 × st_T} (hm : g_X10_trace_0 n v0 v1 v2 s = some res) : ∃ h2 sz2 sl2 r3, f_X10_trace_0 n (r v0) v1 v2 h sz sl = some ((res.1, h2, sz2, sl2)) ∧ iz tg r hb zb c1 c2 r3 h2 res.2 sz2 sl2 := by
  rw [← Z.2.1 v0 (by omega)]
  unfold g_X10_trace_0 at hm
  unfold f_X10_trace_0
  obtain ⟨w1, hw1, hm⟩ := hp_bd hm
  obtain ⟨_, e2, I, F⟩ := t_wF (c := 10) (k := 10) Z.1 isf.rf T_v0 (by decide) (by decide) rfl hw1
  replace Z := Z.step I F
  refine tr_eq2 e2 ?_
  have T2 : tg (gP w1 v0 5) = 11 := t_tg (c := 10) Z.1 T_v0 (by decide) (by decide) rfl (by decide)
  refine tr_eq2 (t_fR Z.1 T_v0 (by decide) (by decide) (by decide)) ?_
  have T3 : tg (gP w1 (gP w1 v0 5) 0) = 15 := t_tg (c := 1) Z.1 T2 (by decide) (by decide) rfl (by decide)
  refine tr_eq2 (t_fR Z.1 T2 (by decide) (by decide) (by decide)) ?_
  obtain ⟨x4, hx4, hm⟩ := hp_bd hm
  obtain ⟨_, e2, I, F⟩ := t_X5_clear Z.1 isf.rf T3 hx4
  replace Z := Z.step I F
  refine tr_eq2 e2 ?_
  have T5 : tg (gP x4 v0 0) = 10 := t_tg (c := 10) Z.1 T_v0 (by decide) (by decide) rfl (by decide)
  refine tr_eq2 (t_fR Z.1 T_v0 (by decide) (by decide) (by decide)) ?_
  obtain ⟨x6, hx6, hm⟩ := hp_bd hm
  refine tr_eq2 (t_X0_isProvable Z.1 T5 hx6) ?_
  by_cases c16 : x6 = 0
  · rw [if_pos c16] at hm ⊢
    obtain rfl := Option.some.inj hm
    exact ⟨_, _, _, _, rfl, Z⟩
  · rw [if_neg c16] at hm ⊢
    by_cases c15 : 0 ≤ v2
    · rw [if_pos c15] at hm ⊢
      have T7 : tg (gP x4 v0 3) = 13 := t_tg (c := 10) Z.1 T_v0 (by decide) (by decide) rfl (by decide)
      refine tr_eq2 (t_fR Z.1 T_v0 (by decide) (by decide) (by decide)) ?_
      have T8 : tg (gP x4 v0 0) = 10 := t_tg (c := 10) Z.1 T_v0 (by decide) (by decide) rfl (by decide)
      refine tr_eq2 (t_fR Z.1 T_v0 (by decide) (by decide) (by decide)) ?_
      obtain ⟨x9, hx9, hm⟩ := hp_bd hm
      obtain ⟨_, e2, I, F⟩ := t_X3_decode Z.1 isf.rf T7 T8 hx9
      replace Z := Z.step I F
      refine tr_eq2 e2 ?_
      try dsimp only
      by_cases c14 : x9.1 = 0
      · rw [if_pos c14] at hm ⊢
        have T10 : tg (gP x9.2 v0 5) = 11 := t_tg (c := 10) Z.1 T_v0 (by decide) (by decide) rfl (by decide)
        refine tr_eq2 (t_fR Z.1 T_v0 (by decide) (by decide) (by decide)) ?_
        have T11 : tg (gP x9.2 v0 0) = 10 := t_tg (c := 10) Z.1 T_v0 (by decide) (by decide) rfl (by decide)
        refine tr_eq2 (t_fR Z.1 T_v0 (by decide) (by decide) (by decide)) ?_
        have T12 : tg (gP x9.2 v0 3) = 13 := t_tg (c := 10) Z.1 T_v0 (by decide) (by decide) rfl (by decide)
        refine tr_eq2 (t_fR Z.1 T_v0 (by decide) (by decide) (by decide)) ?_
        try simp only [Z.2.1 v0 (by omega), Z.2.1 (gP x9.2 v0 3) (by omega), Z.2.1 (gP x9.2 v0 0) (by omega), Z.2.1 (gP x9.2 v0 5) (by omega)]
        obtain ⟨x13, hx13, hm⟩ := hp_bd hm
        obtain ⟨_, _, _, _, e2, Z⟩ := t2_X1_run Z T10 T11 T12 hx13
        refine tr_eq2 e2 ?_
        try dsimp only
        try simp only [Z.2.1 v0 (by omega)]
        exact t_X10_trace_73 Z T_v0 hm
      · rw [if_neg c14] at hm ⊢
        try simp only [Z.2.1 v0 (by omega)]
        exact t_X10_trace_74 Z T_v0 hm
    · rw [if_neg c15] at hm ⊢
      obtain rfl := Option.some.inj hm
      exact ⟨_, _, _, _, rfl, Z⟩
def g_X10_trace (n : Nat) (v0 : Nat) (v1 : Int32) (v2 : Int32) (s : st_T) : Option (Int32 × st_T) := g_X10_trace_0 n v0 v1 v2 s
theorem t2_X10_trace {tg r : Nat → Nat} {hb : hp_H} {zb c1 c2 : Nat} {r2 : Nat → Nat} {h : hp_H} {s : st_T} {sz sl n : Nat} {v0 : Nat} {v1 : Int32} {v2 : Int32} (Z : iz tg r hb zb c1 c2 r2 h s sz sl) (T_v0 : tg v0 = 20) {res : Int32 × st_T} (hm : g_X10_trace n v0 v1 v2 s = some res) : ∃ h2 sz2 sl2 r3, f_X10_trace n (r v0) v1 v2 h sz sl = some ((res.1, h2, sz2, sl2)) ∧ iz tg r hb zb c1 c2 r3 h2 res.2 sz2 sl2 := by
  unfold g_X10_trace at hm
  unfold f_X10_trace
  have e0 := t_ck (c := 10) Z.1 T_v0 (by decide)
  rw [Z.2.1 v0 (by omega)] at e0
  refine tr_eq2 e0 ?_
  exact t_X10_trace_0 Z T_v0 hm
def g_X10_thing_0 (n : Nat) (v0 : Nat) (v1 : Int32) (v2 : Int32) (s : st_T) : Option (Int32) :=
  if v1 < 0 then
    some (-1 : Int32)
  else
    if v1 < (gF s (gP s (gP s v0 5) 0) 3) then
      if v2 = (-1 : Int32) then
        (g_X5_size n (gP s (gP s v0 5) 0) (((gF s (gP s (gP s v0 5) 0) 3) - (1 : Int32)) - v1) s).bind fun x4 =>
        some x4
      else
        (g_X5_get n (gP s (gP s v0 5) 0) (((gF s (gP s (gP s v0 5) 0) 3) - (1 : Int32)) - v1) v2 s).bind fun x3 =>
        some x3
    else
      some (-1 : Int32)
set_option maxHeartbeats 1000000 in
theorem t_X10_thing_0 {tg r : Nat → Nat} {h : hp_H} {s : st_T} {n : Nat} {v0 : Nat} {v1 : Int32} {v2 : Int32} (I : iso tg r h s) (T_v0 : tg v0 = 20) {res : Int32} (hm : g_X10_thing_0 n v0 v1 v2 s = some res) : f_X10_thing_0 n (r v0) v1 v2 h = some res := by
  unfold g_X10_thing_0 at hm
  unfold f_X10_thing_0
  have T1 : tg (gP s v0 5) = 11 := t_tg (c := 10) I T_v0 (by decide) (by decide) rfl (by decide)
  refine tr_eq0 (t_fR I T_v0 (by decide) (by decide) (by decide)) ?_
  have T2 : tg (gP s (gP s v0 5) 0) = 15 := t_tg (c := 1) I T1 (by decide) (by decide) rfl (by decide)
  refine tr_eq0 (t_fR I T1 (by decide) (by decide) (by decide)) ?_
  by_cases c7 : v1 < 0
  · rw [if_pos c7] at hm ⊢
    obtain rfl := Option.some.inj hm
    rfl
  · rw [if_neg c7] at hm ⊢
    refine tr_eq0 (t_fI I T2 (by decide) (by decide) rfl) ?_
    by_cases c6 : v1 < (gF s (gP s (gP s v0 5) 0) 3)
    · rw [if_pos c6] at hm ⊢
      refine tr_eq0 (t_fI I T2 (by decide) (by decide) rfl) ?_
      by_cases c5 : v2 = (-1 : Int32)
      · rw [if_pos c5] at hm ⊢
        obtain ⟨x4, hx4, hm⟩ := hp_bd hm
        refine tr_eq0 (t_X5_size I T2 hx4) ?_
        obtain rfl := Option.some.inj hm
        rfl
      · rw [if_neg c5] at hm ⊢
        obtain ⟨x3, hx3, hm⟩ := hp_bd hm
        refine tr_eq0 (t_X5_get I T2 hx3) ?_
        obtain rfl := Option.some.inj hm
        rfl
    · rw [if_neg c6] at hm ⊢
      obtain rfl := Option.some.inj hm
      rfl
def g_X10_thing (n : Nat) (v0 : Nat) (v1 : Int32) (v2 : Int32) (s : st_T) : Option (Int32) := g_X10_thing_0 n v0 v1 v2 s
theorem t_X10_thing {tg r : Nat → Nat} {h : hp_H} {s : st_T} {n : Nat} {v0 : Nat} {v1 : Int32} {v2 : Int32} (I : iso tg r h s) (T_v0 : tg v0 = 20) {res : Int32} (hm : g_X10_thing n v0 v1 v2 s = some res) : f_X10_thing n (r v0) v1 v2 h = some res := by
  unfold g_X10_thing at hm
  unfold f_X10_thing
  refine tr_eq0 (t_ck I T_v0 (by decide)) ?_
  exact t_X10_thing_0 I T_v0 hm
def g_X10_publish_0 (n : Nat) (v0 : Nat) (s : st_T) : Option (Int32 × st_T) :=
  if (gF s (gP s v0 8) 2) = 0 then
    (wP s v0 7 (gP s v0 8)).bind fun w4 =>
    (wP w4 v0 8 (gP s v0 7)).bind fun w5 =>
    some ((gF w5 (gP w5 v0 7) 1), w5)
  else
    some ((-3 : Int32), s)
set_option maxHeartbeats 1000000 in
theorem t_X10_publish_0 {tg r : Nat → Nat} {h hb : hp_H} {s sb : st_T} {n : Nat} {v0 : Nat} (I : iso tg r h s) (F : isf tg r hb h sb s) (T_v0 : tg v0 = 20) {res : Int32 × st_T} (hm : g_X10_publish_0 n v0 s = some res) : ∃ h2, f_X10_publish_0 n (r v0) h = some ((res.1, h2)) ∧ iso tg r h2 res.2 ∧ isf tg r hb h2 sb res.2 := by
  unfold g_X10_publish_0 at hm
  unfold f_X10_publish_0
  have T1 : tg (gP s v0 8) = 18 := t_tg (c := 10) I T_v0 (by decide) (by decide) rfl (by decide)
  refine tr_eq (t_fR I T_v0 (by decide) (by decide) (by decide)) ?_
  refine tr_eq (t_fI I T1 (by decide) (by decide) rfl) ?_
  by_cases c7 : (gF s (gP s v0 8) 2) = 0
  · rw [if_pos c7] at hm ⊢
    have T2 : tg (gP s v0 7) = 18 := t_tg (c := 10) I T_v0 (by decide) (by decide) rfl (by decide)
    refine tr_eq (t_fR I T_v0 (by decide) (by decide) (by decide)) ?_
    have T3 : tg (gP s v0 8) = 18 := t_tg (c := 10) I T_v0 (by decide) (by decide) rfl (by decide)
    refine tr_eq (t_fR I T_v0 (by decide) (by decide) (by decide)) ?_
    obtain ⟨w4, hw4, hm⟩ := hp_bd hm
    obtain ⟨_, e2, I, F⟩ := t_wP (c := 10) (k := 7) I F (by decide) T_v0 (by decide) (by decide) rfl (by decide) T3 hw4
    refine tr_eq e2 ?_
    obtain ⟨w5, hw5, hm⟩ := hp_bd hm
    obtain ⟨_, e2, I, F⟩ := t_wP (c := 10) (k := 8) I F (by decide) T_v0 (by decide) (by decide) rfl (by decide) T2 hw5
    refine tr_eq e2 ?_
    have T6 : tg (gP w5 v0 7) = 18 := t_tg (c := 10) I T_v0 (by decide) (by decide) rfl (by decide)
    refine tr_eq (t_fR I T_v0 (by decide) (by decide) (by decide)) ?_
    refine tr_eq (t_fI I T6 (by decide) (by decide) rfl) ?_
    obtain rfl := Option.some.inj hm
    exact ⟨_, rfl, I, F⟩
  · rw [if_neg c7] at hm ⊢
    obtain rfl := Option.some.inj hm
    exact ⟨_, rfl, I, F⟩
def g_X10_publish (n : Nat) (v0 : Nat) (s : st_T) : Option (Int32 × st_T) := g_X10_publish_0 n v0 s
theorem t_X10_publish {tg r : Nat → Nat} {h hb : hp_H} {s sb : st_T} {n : Nat} {v0 : Nat} (I : iso tg r h s) (F : isf tg r hb h sb s) (T_v0 : tg v0 = 20) {res : Int32 × st_T} (hm : g_X10_publish n v0 s = some res) : ∃ h2, f_X10_publish n (r v0) h = some ((res.1, h2)) ∧ iso tg r h2 res.2 ∧ isf tg r hb h2 sb res.2 := by
  unfold g_X10_publish at hm
  unfold f_X10_publish
  refine tr_eq (t_ck I T_v0 (by decide)) ?_
  exact t_X10_publish_0 I F T_v0 hm
def g_X10_tell_55 (n : Nat) (v0 : Nat) (v2 : Int32) (s : st_T) : Option (Int32 × st_T) :=
  if v2 = (1 : Int32) then
    (g_X9_compress n (gP s v0 6) (gP s v0 8) s).bind fun x8 =>
    (g_X10_publish n v0 x8).bind fun x9 =>
    some (x9.1, x9.2)
  else
    (g_X9_writeOut n (gP s v0 6) (gP s v0 8) s).bind fun x3 =>
    if x3.1 = 0 then
      some ((-3 : Int32), x3.2)
    else
      (g_X10_publish n v0 x3.2).bind fun x4 =>
      some (x4.1, x4.2)
set_option maxHeartbeats 1000000 in
theorem t_X10_tell_55 {tg r : Nat → Nat} {hb : hp_H} {zb c1 c2 : Nat} {r2 : Nat → Nat} {h : hp_H} {s : st_T} {sz sl n : Nat} {v0 : Nat} {v2 : Int32} (Z : iz tg r hb zb c1 c2 r2 h s sz sl) (T_v0 : tg v0 = 20) {res : Int32 × st_T} (hm : g_X10_tell_55 n v0 v2 s = some res) : ∃ h2 sz2 sl2 r3, f_X10_tell_55 n (r v0) v2 h sz sl = some ((res.1, h2, sz2, sl2)) ∧ iz tg r hb zb c1 c2 r3 h2 res.2 sz2 sl2 := by
  rw [← Z.2.1 v0 (by omega)]
  unfold g_X10_tell_55 at hm
  unfold f_X10_tell_55
  by_cases c10 : v2 = (1 : Int32)
  · rw [if_pos c10] at hm ⊢
    have T6 : tg (gP s v0 6) = 19 := t_tg (c := 10) Z.1 T_v0 (by decide) (by decide) rfl (by decide)
    refine tr_eq2 (t_fR Z.1 T_v0 (by decide) (by decide) (by decide)) ?_
    have T7 : tg (gP s v0 8) = 18 := t_tg (c := 10) Z.1 T_v0 (by decide) (by decide) rfl (by decide)
    refine tr_eq2 (t_fR Z.1 T_v0 (by decide) (by decide) (by decide)) ?_
    obtain ⟨x8, hx8, hm⟩ := hp_bd hm
    obtain ⟨_, e2, I, F⟩ := t_X9_compress Z.1 isf.rf T6 T7 hx8
    replace Z := Z.step I F
    refine tr_eq2 e2 ?_
    obtain ⟨x9, hx9, hm⟩ := hp_bd hm
    obtain ⟨_, e2, I, F⟩ := t_X10_publish Z.1 isf.rf T_v0 hx9
    replace Z := Z.step I F
    refine tr_eq2 e2 ?_
    try dsimp only
    obtain rfl := Option.some.inj hm
    exact ⟨_, _, _, _, rfl, Z⟩
  · rw [if_neg c10] at hm ⊢
    have T1 : tg (gP s v0 6) = 19 := t_tg (c := 10) Z.1 T_v0 (by decide) (by decide) rfl (by decide)
    refine tr_eq2 (t_fR Z.1 T_v0 (by decide) (by decide) (by decide)) ?_
    have T2 : tg (gP s v0 8) = 18 := t_tg (c := 10) Z.1 T_v0 (by decide) (by decide) rfl (by decide)
    refine tr_eq2 (t_fR Z.1 T_v0 (by decide) (by decide) (by decide)) ?_
    obtain ⟨x3, hx3, hm⟩ := hp_bd hm
    obtain ⟨_, e2, I, F⟩ := t_X9_writeOut Z.1 isf.rf T1 T2 hx3
    replace Z := Z.step I F
    refine tr_eq2 e2 ?_
    try dsimp only
    by_cases c5 : x3.1 = 0
    · rw [if_pos c5] at hm ⊢
      obtain rfl := Option.some.inj hm
      exact ⟨_, _, _, _, rfl, Z⟩
    · rw [if_neg c5] at hm ⊢
      obtain ⟨x4, hx4, hm⟩ := hp_bd hm
      obtain ⟨_, e2, I, F⟩ := t_X10_publish Z.1 isf.rf T_v0 hx4
      replace Z := Z.step I F
      refine tr_eq2 e2 ?_
      try dsimp only
      obtain rfl := Option.some.inj hm
      exact ⟨_, _, _, _, rfl, Z⟩
def g_X10_tell_27 (n : Nat) (v0 : Nat) (v2 : Int32) (s0 : Int32) (s : st_T) : Option (Int32 × st_T) :=
  if s0 = 0 then
    (g_X8_clear n (gP s v0 8) s).bind fun x2 =>
    (g_X9_plant n (gP x2 v0 6) (gP x2 v0 0) (gP x2 v0 3) x2).bind fun x6 =>
    g_X10_tell_55 n v0 v2 x6
  else
    some ((-2 : Int32), s)
set_option maxHeartbeats 1000000 in
theorem t_X10_tell_27 {tg r : Nat → Nat} {hb : hp_H} {zb c1 c2 : Nat} {r2 : Nat → Nat} {h : hp_H} {s : st_T} {sz sl n : Nat} {v0 : Nat} {v2 : Int32} {s0 : Int32} (Z : iz tg r hb zb c1 c2 r2 h s sz sl) (T_v0 : tg v0 = 20) {res : Int32 × st_T} (hm : g_X10_tell_27 n v0 v2 s0 s = some res) : ∃ h2 sz2 sl2 r3, f_X10_tell_27 n (r v0) v2 s0 h sz sl = some ((res.1, h2, sz2, sl2)) ∧ iz tg r hb zb c1 c2 r3 h2 res.2 sz2 sl2 := by
  rw [← Z.2.1 v0 (by omega)]
  unfold g_X10_tell_27 at hm
  unfold f_X10_tell_27
  by_cases c7 : s0 = 0
  · rw [if_pos c7] at hm ⊢
    have T1 : tg (gP s v0 8) = 18 := t_tg (c := 10) Z.1 T_v0 (by decide) (by decide) rfl (by decide)
    refine tr_eq2 (t_fR Z.1 T_v0 (by decide) (by decide) (by decide)) ?_
    obtain ⟨x2, hx2, hm⟩ := hp_bd hm
    obtain ⟨_, e2, I, F⟩ := t_X8_clear Z.1 isf.rf T1 hx2
    replace Z := Z.step I F
    refine tr_eq2 e2 ?_
    have T3 : tg (gP x2 v0 6) = 19 := t_tg (c := 10) Z.1 T_v0 (by decide) (by decide) rfl (by decide)
    refine tr_eq2 (t_fR Z.1 T_v0 (by decide) (by decide) (by decide)) ?_
    have T4 : tg (gP x2 v0 0) = 10 := t_tg (c := 10) Z.1 T_v0 (by decide) (by decide) rfl (by decide)
    refine tr_eq2 (t_fR Z.1 T_v0 (by decide) (by decide) (by decide)) ?_
    have T5 : tg (gP x2 v0 3) = 13 := t_tg (c := 10) Z.1 T_v0 (by decide) (by decide) rfl (by decide)
    refine tr_eq2 (t_fR Z.1 T_v0 (by decide) (by decide) (by decide)) ?_
    try simp only [Z.2.1 v0 (by omega), Z.2.1 (gP x2 v0 3) (by omega), Z.2.1 (gP x2 v0 0) (by omega), Z.2.1 (gP x2 v0 6) (by omega)]
    obtain ⟨x6, hx6, hm⟩ := hp_bd hm
    obtain ⟨_, _, _, _, e2, Z⟩ := t2_X9_plant Z T3 T4 T5 hx6
    refine tr_eq2 e2 ?_
    try dsimp only
    try simp only [Z.2.1 v0 (by omega)]
    exact t_X10_tell_55 Z T_v0 hm
  · rw [if_neg c7] at hm ⊢
    obtain rfl := Option.some.inj hm
    exact ⟨_, _, _, _, rfl, Z⟩
def g_X10_tell_0 (n : Nat) (v0 : Nat) (v1 : Int32) (v2 : Int32) (s : st_T) : Option (Int32 × st_T) :=
  (g_X0_isProvable n (gP s v0 0) v1 s).bind fun x2 =>
  if x2 = 0 then
    some ((-1 : Int32), s)
  else
    if v2 < 0 then
      some ((-1 : Int32), s)
    else
      if v2 ≤ (1 : Int32) then
        (g_X10_examine n v0 v1 s).bind fun x3 =>
        g_X10_tell_27 n v0 v2 x3.1 x3.2
      else
        some ((-1 : Int32), s)
set_option maxHeartbeats 1000000 in
theorem t_X10_tell_0 {tg r : Nat → Nat} {hb : hp_H} {zb c1 c2 : Nat} {r2 : Nat → Nat} {h : hp_H} {s : st_T} {sz sl n : Nat} {v0 : Nat} {v1 : Int32} {v2 : Int32} (Z : iz tg r hb zb c1 c2 r2 h s sz sl) (T_v0 : tg v0 = 20) {res : Int32 × st_T} (hm : g_X10_tell_0 n v0 v1 v2 s = some res) : ∃ h2 sz2 sl2 r3, f_X10_tell_0 n (r v0) v1 v2 h sz sl = some ((res.1, h2, sz2, sl2)) ∧ iz tg r hb zb c1 c2 r3 h2 res.2 sz2 sl2 := by
  rw [← Z.2.1 v0 (by omega)]
  unfold g_X10_tell_0 at hm
  unfold f_X10_tell_0
  have T1 : tg (gP s v0 0) = 10 := t_tg (c := 10) Z.1 T_v0 (by decide) (by decide) rfl (by decide)
  refine tr_eq2 (t_fR Z.1 T_v0 (by decide) (by decide) (by decide)) ?_
  obtain ⟨x2, hx2, hm⟩ := hp_bd hm
  refine tr_eq2 (t_X0_isProvable Z.1 T1 hx2) ?_
  by_cases c6 : x2 = 0
  · rw [if_pos c6] at hm ⊢
    obtain rfl := Option.some.inj hm
    exact ⟨_, _, _, _, rfl, Z⟩
  · rw [if_neg c6] at hm ⊢
    by_cases c5 : v2 < 0
    · rw [if_pos c5] at hm ⊢
      obtain rfl := Option.some.inj hm
      exact ⟨_, _, _, _, rfl, Z⟩
    · rw [if_neg c5] at hm ⊢
      by_cases c4 : v2 ≤ (1 : Int32)
      · rw [if_pos c4] at hm ⊢
        try simp only [Z.2.1 v0 (by omega)]
        obtain ⟨x3, hx3, hm⟩ := hp_bd hm
        obtain ⟨_, _, _, _, e2, Z⟩ := t2_X10_examine Z T_v0 hx3
        refine tr_eq2 e2 ?_
        try dsimp only
        try simp only [Z.2.1 v0 (by omega)]
        exact t_X10_tell_27 Z T_v0 hm
      · rw [if_neg c4] at hm ⊢
        obtain rfl := Option.some.inj hm
        exact ⟨_, _, _, _, rfl, Z⟩
def g_X10_tell (n : Nat) (v0 : Nat) (v1 : Int32) (v2 : Int32) (s : st_T) : Option (Int32 × st_T) := g_X10_tell_0 n v0 v1 v2 s
theorem t2_X10_tell {tg r : Nat → Nat} {hb : hp_H} {zb c1 c2 : Nat} {r2 : Nat → Nat} {h : hp_H} {s : st_T} {sz sl n : Nat} {v0 : Nat} {v1 : Int32} {v2 : Int32} (Z : iz tg r hb zb c1 c2 r2 h s sz sl) (T_v0 : tg v0 = 20) {res : Int32 × st_T} (hm : g_X10_tell n v0 v1 v2 s = some res) : ∃ h2 sz2 sl2 r3, f_X10_tell n (r v0) v1 v2 h sz sl = some ((res.1, h2, sz2, sl2)) ∧ iz tg r hb zb c1 c2 r3 h2 res.2 sz2 sl2 := by
  unfold g_X10_tell at hm
  unfold f_X10_tell
  have e0 := t_ck (c := 10) Z.1 T_v0 (by decide)
  rw [Z.2.1 v0 (by omega)] at e0
  refine tr_eq2 e0 ?_
  exact t_X10_tell_0 Z T_v0 hm
def g_X10_keywordOf_0 (n : Nat) (v0 : Int32) (s : st_T) : Option (Int32) :=
  if v0 = (0 : Int32) then
    some (102 : Int32)
  else if v0 = (1 : Int32) then
    some (101 : Int32)
  else if v0 = (2 : Int32) then
    some (97 : Int32)
  else 
    some (112 : Int32)
set_option maxHeartbeats 1000000 in
theorem t_X10_keywordOf_0 {tg r : Nat → Nat} {h : hp_H} {s : st_T} {n : Nat} {v0 : Int32} (I : iso tg r h s) {res : Int32} (hm : g_X10_keywordOf_0 n v0 s = some res) : f_X10_keywordOf_0 n v0 h = some res := by
  unfold g_X10_keywordOf_0 at hm
  unfold f_X10_keywordOf_0
  by_cases c1 : v0 = (0 : Int32)
  · rw [if_pos c1] at hm ⊢
    obtain rfl := Option.some.inj hm
    rfl
  rw [if_neg c1] at hm ⊢
  by_cases c2 : v0 = (1 : Int32)
  · rw [if_pos c2] at hm ⊢
    obtain rfl := Option.some.inj hm
    rfl
  rw [if_neg c2] at hm ⊢
  by_cases c3 : v0 = (2 : Int32)
  · rw [if_pos c3] at hm ⊢
    obtain rfl := Option.some.inj hm
    rfl
  rw [if_neg c3] at hm ⊢
  obtain rfl := Option.some.inj hm
  rfl
def g_X10_keywordOf (n : Nat) (v0 : Int32) (s : st_T) : Option (Int32) := g_X10_keywordOf_0 n v0 s
theorem t_X10_keywordOf {tg r : Nat → Nat} {h : hp_H} {s : st_T} {n : Nat} {v0 : Int32} (I : iso tg r h s) {res : Int32} (hm : g_X10_keywordOf n v0 s = some res) : f_X10_keywordOf n v0 h = some res := by
  unfold g_X10_keywordOf at hm
  unfold f_X10_keywordOf
  exact t_X10_keywordOf_0 I  hm
abbrev eX_X10_writeStatement_65 (x : st_T) (h2 : hp_H) : hp_H := (fun y => h2) x
abbrev sX_X10_writeStatement_65 (x : st_T) : st_T := (fun y => y) x
abbrev eR_X10_writeStatement_65 (x : (Int32 × st_T) ⊕ (st_T)) (h2 : hp_H) : (Int32 × hp_H) ⊕ (hp_H) := Sum.elim (fun y => .inl (y.1, h2)) (fun y => .inr (eX_X10_writeStatement_65 y h2)) x
abbrev sR_X10_writeStatement_65 (x : (Int32 × st_T) ⊕ (st_T)) : st_T := Sum.elim (fun y => y.2) sX_X10_writeStatement_65 x
def g_X10_writeStatement_65 (n : Nat) (v0 : Nat) (v1 : Nat) (v2 : Int32) (v3 : Int32) (v4 : Int32) (s : st_T) : Option ((Int32 × st_T) ⊕ (st_T)) :=
  if v3 ≤ v4 then
    some (.inr s)
  else
    (g_X5_get n (gP s (gP s v0 0) 9) v2 v4 s).bind fun x5 =>
    (g_X8_putName n v1 (gP s (gP s v0 0) 0) x5 s).bind fun x6 =>
    (g_X8_put n v1 (32 : Int32) x6).bind fun x7 =>
    some (.inl ((v4 + (1 : Int32)), x7))
set_option maxHeartbeats 1000000 in
theorem t_X10_writeStatement_65 {tg r : Nat → Nat} {h hb : hp_H} {s sb : st_T} {n : Nat} {v0 : Nat} {v1 : Nat} {v2 : Int32} {v3 : Int32} {v4 : Int32} (I : iso tg r h s) (F : isf tg r hb h sb s) (T_v0 : tg v0 = 20) (T_v1 : tg v1 = 18) {res : (Int32 × st_T) ⊕ (st_T)} (hm : g_X10_writeStatement_65 n v0 v1 v2 v3 v4 s = some res) : ∃ h2, f_X10_writeStatement_65 n (r v0) (r v1) v2 v3 v4 h = some (eR_X10_writeStatement_65 res h2) ∧ iso tg r h2 (sR_X10_writeStatement_65 res) ∧ isf tg r hb h2 sb (sR_X10_writeStatement_65 res) := by
  unfold g_X10_writeStatement_65 at hm
  unfold f_X10_writeStatement_65
  by_cases c8 : v3 ≤ v4
  · rw [if_pos c8] at hm ⊢
    obtain rfl := Option.some.inj hm
    exact ⟨_, rfl, I, F⟩
  · rw [if_neg c8] at hm ⊢
    have T1 : tg (gP s v0 0) = 10 := t_tg (c := 10) I T_v0 (by decide) (by decide) rfl (by decide)
    refine tr_eq (t_fR I T_v0 (by decide) (by decide) (by decide)) ?_
    have T2 : tg (gP s (gP s v0 0) 0) = 12 := t_tg (c := 0) I T1 (by decide) (by decide) rfl (by decide)
    refine tr_eq (t_fR I T1 (by decide) (by decide) (by decide)) ?_
    have T3 : tg (gP s v0 0) = 10 := t_tg (c := 10) I T_v0 (by decide) (by decide) rfl (by decide)
    refine tr_eq (t_fR I T_v0 (by decide) (by decide) (by decide)) ?_
    have T4 : tg (gP s (gP s v0 0) 9) = 15 := t_tg (c := 0) I T3 (by decide) (by decide) rfl (by decide)
    refine tr_eq (t_fR I T3 (by decide) (by decide) (by decide)) ?_
    obtain ⟨x5, hx5, hm⟩ := hp_bd hm
    refine tr_eq (t_X5_get I T4 hx5) ?_
    obtain ⟨x6, hx6, hm⟩ := hp_bd hm
    obtain ⟨_, e2, I, F⟩ := t_X8_putName I F T_v1 T2 hx6
    refine tr_eq e2 ?_
    obtain ⟨x7, hx7, hm⟩ := hp_bd hm
    obtain ⟨_, e2, I, F⟩ := t_X8_put I F T_v1 hx7
    refine tr_eq e2 ?_
    obtain rfl := Option.some.inj hm
    exact ⟨_, rfl, I, F⟩
def gL_X10_writeStatement_65 (n : Nat) (v0 : Nat) (v1 : Nat) (v2 : Int32) (v3 : Int32) (c : Int32 × st_T) : Option ((Int32 × st_T) ⊕ (st_T)) := g_X10_writeStatement_65 n v0 v1 v2 v3 c.1 c.2
theorem tl_X10_writeStatement_65 {tg r : Nat → Nat} {hb : hp_H} {sb : st_T} {n : Nat} {v0 : Nat} {v1 : Nat} {v2 : Int32} {v3 : Int32} (T_v0 : tg v0 = 20) (T_v1 : tg v1 = 18) : ∀ (k : Nat) (c0 : Int32) (h : hp_H) (s : st_T) (x : st_T), iso tg r h s → isf tg r hb h sb s → hp_lp (gL_X10_writeStatement_65 n v0 v1 v2 v3) k (c0, s) = some x → ∃ h2, hp_lp (fL_X10_writeStatement_65 n (r v0) (r v1) v2 v3) k (c0, h) = some (eX_X10_writeStatement_65 x h2) ∧ iso tg r h2 (sX_X10_writeStatement_65 x) ∧ isf tg r hb h2 sb (sX_X10_writeStatement_65 x) := by
  intro k
  induction k with
  | zero => intro c0 h s x I F hx; exact (hp_lp_0 hx).elim
  | succ k ih =>
    intro c0 h s x I F hx
    obtain ⟨rr, hr, hc⟩ := hp_lp_1 hx
    obtain ⟨h2, e2, I2, F2⟩ := t_X10_writeStatement_65 I F T_v0 T_v1 hr
    rcases hc with ⟨s3, e3, hx3⟩ | e3
    · subst e3
      obtain ⟨h3, e4, I3, F3⟩ := ih _ h2 _ x I2 F2 hx3
      exact ⟨h3, hp_lp_s e2 e4, I3, F3⟩
    · subst e3
      exact ⟨h2, hp_lp_x e2, I2, F2⟩
def g_X10_writeStatement_0 (n : Nat) (v0 : Nat) (v1 : Nat) (v2 : Int32) (s : st_T) : Option (st_T) :=
  (g_X8_putName n v1 (gP s (gP s v0 0) 0) ((300 : Int32) + v2) s).bind fun x3 =>
  (g_X8_put n v1 (32 : Int32) x3).bind fun x4 =>
  (g_X8_put n v1 (36 : Int32) x4).bind fun x5 =>
  (gA x5 (gP x5 (gP x5 v0 0) 6) v2).bind fun x8 =>
  (g_X10_keywordOf n x8 x5).bind fun x9 =>
  (g_X8_put n v1 x9 x5).bind fun x10 =>
  (g_X8_put n v1 (32 : Int32) x10).bind fun x11 =>
  (g_X5_size n (gP x11 (gP x11 v0 0) 9) v2 x11).bind fun x14 =>
  (hp_lp (gL_X10_writeStatement_65 n v0 v1 v2 x14) n ((0 : Int32), x11)).bind fun x15 =>
  (g_X8_put n v1 (36 : Int32) x15).bind fun x17 =>
  (g_X8_put n v1 (46 : Int32) x17).bind fun x18 =>
  some x18
set_option maxHeartbeats 1000000 in
theorem t_X10_writeStatement_0 {tg r : Nat → Nat} {h hb : hp_H} {s sb : st_T} {n : Nat} {v0 : Nat} {v1 : Nat} {v2 : Int32} (I : iso tg r h s) (F : isf tg r hb h sb s) (T_v0 : tg v0 = 20) (T_v1 : tg v1 = 18) {res : st_T} (hm : g_X10_writeStatement_0 n v0 v1 v2 s = some res) : ∃ h2, f_X10_writeStatement_0 n (r v0) (r v1) v2 h = some (h2) ∧ iso tg r h2 res ∧ isf tg r hb h2 sb res := by
  unfold g_X10_writeStatement_0 at hm
  unfold f_X10_writeStatement_0
  have T1 : tg (gP s v0 0) = 10 := t_tg (c := 10) I T_v0 (by decide) (by decide) rfl (by decide)
  refine tr_eq (t_fR I T_v0 (by decide) (by decide) (by decide)) ?_
  have T2 : tg (gP s (gP s v0 0) 0) = 12 := t_tg (c := 0) I T1 (by decide) (by decide) rfl (by decide)
  refine tr_eq (t_fR I T1 (by decide) (by decide) (by decide)) ?_
  obtain ⟨x3, hx3, hm⟩ := hp_bd hm
  obtain ⟨_, e2, I, F⟩ := t_X8_putName I F T_v1 T2 hx3
  refine tr_eq e2 ?_
  obtain ⟨x4, hx4, hm⟩ := hp_bd hm
  obtain ⟨_, e2, I, F⟩ := t_X8_put I F T_v1 hx4
  refine tr_eq e2 ?_
  obtain ⟨x5, hx5, hm⟩ := hp_bd hm
  obtain ⟨_, e2, I, F⟩ := t_X8_put I F T_v1 hx5
  refine tr_eq e2 ?_
  have T6 : tg (gP x5 v0 0) = 10 := t_tg (c := 10) I T_v0 (by decide) (by decide) rfl (by decide)
  refine tr_eq (t_fR I T_v0 (by decide) (by decide) (by decide)) ?_
  have T7 : tg (gP x5 (gP x5 v0 0) 6) = 0 := t_tg (c := 0) I T6 (by decide) (by decide) rfl (by decide)
  refine tr_eq (t_fR I T6 (by decide) (by decide) (by decide)) ?_
  obtain ⟨x8, hx8, hm⟩ := hp_bd hm
  refine tr_eq (t_aI I T7 (by decide) rfl hx8) ?_
  obtain ⟨x9, hx9, hm⟩ := hp_bd hm
  refine tr_eq (t_X10_keywordOf I  hx9) ?_
  obtain ⟨x10, hx10, hm⟩ := hp_bd hm
  obtain ⟨_, e2, I, F⟩ := t_X8_put I F T_v1 hx10
  refine tr_eq e2 ?_
  obtain ⟨x11, hx11, hm⟩ := hp_bd hm
  obtain ⟨_, e2, I, F⟩ := t_X8_put I F T_v1 hx11
  refine tr_eq e2 ?_
  have T12 : tg (gP x11 v0 0) = 10 := t_tg (c := 10) I T_v0 (by decide) (by decide) rfl (by decide)
  refine tr_eq (t_fR I T_v0 (by decide) (by decide) (by decide)) ?_
  have T13 : tg (gP x11 (gP x11 v0 0) 9) = 15 := t_tg (c := 0) I T12 (by decide) (by decide) rfl (by decide)
  refine tr_eq (t_fR I T12 (by decide) (by decide) (by decide)) ?_
  obtain ⟨x14, hx14, hm⟩ := hp_bd hm
  refine tr_eq (t_X5_size I T13 hx14) ?_
  obtain ⟨x15, hx15, hm⟩ := hp_bd hm
  obtain ⟨_, e2, I, F⟩ := tl_X10_writeStatement_65 T_v0 T_v1 n _ _ _ _ I F hx15
  refine tr_eq e2 ?_
  try dsimp only [eX_X10_writeStatement_65]
  replace I : iso tg _ _ x15 := I
  replace F : isf tg _ _ _ _ x15 := F
  obtain ⟨x17, hx17, hm⟩ := hp_bd hm
  obtain ⟨_, e2, I, F⟩ := t_X8_put I F T_v1 hx17
  refine tr_eq e2 ?_
  obtain ⟨x18, hx18, hm⟩ := hp_bd hm
  obtain ⟨_, e2, I, F⟩ := t_X8_put I F T_v1 hx18
  refine tr_eq e2 ?_
  obtain rfl := Option.some.inj hm
  exact ⟨_, rfl, I, F⟩
def g_X10_writeStatement (n : Nat) (v0 : Nat) (v1 : Nat) (v2 : Int32) (s : st_T) : Option (st_T) := g_X10_writeStatement_0 n v0 v1 v2 s
theorem t_X10_writeStatement {tg r : Nat → Nat} {h hb : hp_H} {s sb : st_T} {n : Nat} {v0 : Nat} {v1 : Nat} {v2 : Int32} (I : iso tg r h s) (F : isf tg r hb h sb s) (T_v0 : tg v0 = 20) (T_v1 : tg v1 = 18) {res : st_T} (hm : g_X10_writeStatement n v0 v1 v2 s = some res) : ∃ h2, f_X10_writeStatement n (r v0) (r v1) v2 h = some (h2) ∧ iso tg r h2 res ∧ isf tg r hb h2 sb res := by
  unfold g_X10_writeStatement at hm
  unfold f_X10_writeStatement
  refine tr_eq (t_ck I T_v0 (by decide)) ?_
  exact t_X10_writeStatement_0 I F T_v0 T_v1 hm
def g_X10_print_0 (n : Nat) (v0 : Nat) (v1 : Int32) (s : st_T) : Option (Int32 × st_T) :=
  (g_X0_isStatement n (gP s v0 0) v1 s).bind fun x2 =>
  if x2 = 0 then
    some ((-1 : Int32), s)
  else
    (g_X8_clear n (gP s v0 8) s).bind fun x4 =>
    (g_X10_writeStatement n v0 (gP x4 v0 8) v1 x4).bind fun x6 =>
    (g_X10_publish n v0 x6).bind fun x7 =>
    some (x7.1, x7.2)
set_option maxHeartbeats 1000000 in
theorem t_X10_print_0 {tg r : Nat → Nat} {h hb : hp_H} {s sb : st_T} {n : Nat} {v0 : Nat} {v1 : Int32} (I : iso tg r h s) (F : isf tg r hb h sb s) (T_v0 : tg v0 = 20) {res : Int32 × st_T} (hm : g_X10_print_0 n v0 v1 s = some res) : ∃ h2, f_X10_print_0 n (r v0) v1 h = some ((res.1, h2)) ∧ iso tg r h2 res.2 ∧ isf tg r hb h2 sb res.2 := by
  unfold g_X10_print_0 at hm
  unfold f_X10_print_0
  have T1 : tg (gP s v0 0) = 10 := t_tg (c := 10) I T_v0 (by decide) (by decide) rfl (by decide)
  refine tr_eq (t_fR I T_v0 (by decide) (by decide) (by decide)) ?_
  obtain ⟨x2, hx2, hm⟩ := hp_bd hm
  refine tr_eq (t_X0_isStatement I T1 hx2) ?_
  by_cases c8 : x2 = 0
  · rw [if_pos c8] at hm ⊢
    obtain rfl := Option.some.inj hm
    exact ⟨_, rfl, I, F⟩
  · rw [if_neg c8] at hm ⊢
    have T3 : tg (gP s v0 8) = 18 := t_tg (c := 10) I T_v0 (by decide) (by decide) rfl (by decide)
    refine tr_eq (t_fR I T_v0 (by decide) (by decide) (by decide)) ?_
    obtain ⟨x4, hx4, hm⟩ := hp_bd hm
    obtain ⟨_, e2, I, F⟩ := t_X8_clear I F T3 hx4
    refine tr_eq e2 ?_
    have T5 : tg (gP x4 v0 8) = 18 := t_tg (c := 10) I T_v0 (by decide) (by decide) rfl (by decide)
    refine tr_eq (t_fR I T_v0 (by decide) (by decide) (by decide)) ?_
    obtain ⟨x6, hx6, hm⟩ := hp_bd hm
    obtain ⟨_, e2, I, F⟩ := t_X10_writeStatement I F T_v0 T5 hx6
    refine tr_eq e2 ?_
    obtain ⟨x7, hx7, hm⟩ := hp_bd hm
    obtain ⟨_, e2, I, F⟩ := t_X10_publish I F T_v0 hx7
    refine tr_eq e2 ?_
    try dsimp only
    obtain rfl := Option.some.inj hm
    exact ⟨_, rfl, I, F⟩
def g_X10_print (n : Nat) (v0 : Nat) (v1 : Int32) (s : st_T) : Option (Int32 × st_T) := g_X10_print_0 n v0 v1 s
theorem t_X10_print {tg r : Nat → Nat} {h hb : hp_H} {s sb : st_T} {n : Nat} {v0 : Nat} {v1 : Int32} (I : iso tg r h s) (F : isf tg r hb h sb s) (T_v0 : tg v0 = 20) {res : Int32 × st_T} (hm : g_X10_print n v0 v1 s = some res) : ∃ h2, f_X10_print n (r v0) v1 h = some ((res.1, h2)) ∧ iso tg r h2 res.2 ∧ isf tg r hb h2 sb res.2 := by
  unfold g_X10_print at hm
  unfold f_X10_print
  refine tr_eq (t_ck I T_v0 (by decide)) ?_
  exact t_X10_print_0 I F T_v0 hm
def g_X10_out_0 (n : Nat) (v0 : Nat) (v1 : Int32) (s : st_T) : Option (Int32) :=
  if v1 < 0 then
    some (-1 : Int32)
  else
    if (gF s (gP s v0 7) 1) ≤ v1 then
      some (-1 : Int32)
    else
      (gA s (gP s (gP s v0 7) 0) v1).bind fun x4 =>
      some x4
set_option maxHeartbeats 1000000 in
theorem t_X10_out_0 {tg r : Nat → Nat} {h : hp_H} {s : st_T} {n : Nat} {v0 : Nat} {v1 : Int32} (I : iso tg r h s) (T_v0 : tg v0 = 20) {res : Int32} (hm : g_X10_out_0 n v0 v1 s = some res) : f_X10_out_0 n (r v0) v1 h = some res := by
  unfold g_X10_out_0 at hm
  unfold f_X10_out_0
  by_cases c6 : v1 < 0
  · rw [if_pos c6] at hm ⊢
    obtain rfl := Option.some.inj hm
    rfl
  · rw [if_neg c6] at hm ⊢
    have T1 : tg (gP s v0 7) = 18 := t_tg (c := 10) I T_v0 (by decide) (by decide) rfl (by decide)
    refine tr_eq0 (t_fR I T_v0 (by decide) (by decide) (by decide)) ?_
    refine tr_eq0 (t_fI I T1 (by decide) (by decide) rfl) ?_
    by_cases c5 : (gF s (gP s v0 7) 1) ≤ v1
    · rw [if_pos c5] at hm ⊢
      obtain rfl := Option.some.inj hm
      rfl
    · rw [if_neg c5] at hm ⊢
      have T2 : tg (gP s v0 7) = 18 := t_tg (c := 10) I T_v0 (by decide) (by decide) rfl (by decide)
      refine tr_eq0 (t_fR I T_v0 (by decide) (by decide) (by decide)) ?_
      have T3 : tg (gP s (gP s v0 7) 0) = 1 := t_tg (c := 8) I T2 (by decide) (by decide) rfl (by decide)
      refine tr_eq0 (t_fR I T2 (by decide) (by decide) (by decide)) ?_
      obtain ⟨x4, hx4, hm⟩ := hp_bd hm
      refine tr_eq0 (t_aI I T3 (by decide) rfl hx4) ?_
      obtain rfl := Option.some.inj hm
      rfl
def g_X10_out (n : Nat) (v0 : Nat) (v1 : Int32) (s : st_T) : Option (Int32) := g_X10_out_0 n v0 v1 s
theorem t_X10_out {tg r : Nat → Nat} {h : hp_H} {s : st_T} {n : Nat} {v0 : Nat} {v1 : Int32} (I : iso tg r h s) (T_v0 : tg v0 = 20) {res : Int32} (hm : g_X10_out n v0 v1 s = some res) : f_X10_out n (r v0) v1 h = some res := by
  unfold g_X10_out at hm
  unfold f_X10_out
  refine tr_eq0 (t_ck I T_v0 (by decide)) ?_
  exact t_X10_out_0 I T_v0 hm
def g_X10_rests_0 (n : Nat) (v0 : Nat) (v1 : Int32) (v2 : Int32) (s : st_T) : Option (Int32) :=
  (g_X0_isProvable n (gP s v0 0) v1 s).bind fun x2 =>
  if x2 = 0 then
    some (-1 : Int32)
  else
    (g_X0_axiomUnder n (gP s v0 0) v1 v2 s).bind fun x4 =>
    some x4
set_option maxHeartbeats 1000000 in
theorem t_X10_rests_0 {tg r : Nat → Nat} {h : hp_H} {s : st_T} {n : Nat} {v0 : Nat} {v1 : Int32} {v2 : Int32} (I : iso tg r h s) (T_v0 : tg v0 = 20) {res : Int32} (hm : g_X10_rests_0 n v0 v1 v2 s = some res) : f_X10_rests_0 n (r v0) v1 v2 h = some res := by
  unfold g_X10_rests_0 at hm
  unfold f_X10_rests_0
  have T1 : tg (gP s v0 0) = 10 := t_tg (c := 10) I T_v0 (by decide) (by decide) rfl (by decide)
  refine tr_eq0 (t_fR I T_v0 (by decide) (by decide) (by decide)) ?_
  obtain ⟨x2, hx2, hm⟩ := hp_bd hm
  refine tr_eq0 (t_X0_isProvable I T1 hx2) ?_
  by_cases c5 : x2 = 0
  · rw [if_pos c5] at hm ⊢
    obtain rfl := Option.some.inj hm
    rfl
  · rw [if_neg c5] at hm ⊢
    have T3 : tg (gP s v0 0) = 10 := t_tg (c := 10) I T_v0 (by decide) (by decide) rfl (by decide)
    refine tr_eq0 (t_fR I T_v0 (by decide) (by decide) (by decide)) ?_
    obtain ⟨x4, hx4, hm⟩ := hp_bd hm
    refine tr_eq0 (t_X0_axiomUnder I T3 hx4) ?_
    obtain rfl := Option.some.inj hm
    rfl
def g_X10_rests (n : Nat) (v0 : Nat) (v1 : Int32) (v2 : Int32) (s : st_T) : Option (Int32) := g_X10_rests_0 n v0 v1 v2 s
theorem t_X10_rests {tg r : Nat → Nat} {h : hp_H} {s : st_T} {n : Nat} {v0 : Nat} {v1 : Int32} {v2 : Int32} (I : iso tg r h s) (T_v0 : tg v0 = 20) {res : Int32} (hm : g_X10_rests n v0 v1 v2 s = some res) : f_X10_rests n (r v0) v1 v2 h = some res := by
  unfold g_X10_rests at hm
  unfold f_X10_rests
  refine tr_eq0 (t_ck I T_v0 (by decide)) ?_
  exact t_X10_rests_0 I T_v0 hm
def g_X10_find_0 (n : Nat) (v0 : Nat) (s : st_T) : Option (Int32 × st_T) :=
  (g_X2_lookUp n (gP s (gP s v0 0) 0) (gP s (gP s v0 1) 1) (0 : Int32) (gF s (gP s v0 1) 2) s).bind fun x6 =>
  (wF s (gP s v0 1) 2 (0 : Int32)).bind fun w8 =>
  if x6 < (300 : Int32) then
    some ((-2 : Int32), w8)
  else
    some ((x6 - (300 : Int32)), w8)
set_option maxHeartbeats 1000000 in
theorem t_X10_find_0 {tg r : Nat → Nat} {h hb : hp_H} {s sb : st_T} {n : Nat} {v0 : Nat} (I : iso tg r h s) (F : isf tg r hb h sb s) (T_v0 : tg v0 = 20) {res : Int32 × st_T} (hm : g_X10_find_0 n v0 s = some res) : ∃ h2, f_X10_find_0 n (r v0) h = some ((res.1, h2)) ∧ iso tg r h2 res.2 ∧ isf tg r hb h2 sb res.2 := by
  unfold g_X10_find_0 at hm
  unfold f_X10_find_0
  have T1 : tg (gP s v0 0) = 10 := t_tg (c := 10) I T_v0 (by decide) (by decide) rfl (by decide)
  refine tr_eq (t_fR I T_v0 (by decide) (by decide) (by decide)) ?_
  have T2 : tg (gP s (gP s v0 0) 0) = 12 := t_tg (c := 0) I T1 (by decide) (by decide) rfl (by decide)
  refine tr_eq (t_fR I T1 (by decide) (by decide) (by decide)) ?_
  have T3 : tg (gP s v0 1) = 10 := t_tg (c := 10) I T_v0 (by decide) (by decide) rfl (by decide)
  refine tr_eq (t_fR I T_v0 (by decide) (by decide) (by decide)) ?_
  have T4 : tg (gP s (gP s v0 1) 1) = 1 := t_tg (c := 0) I T3 (by decide) (by decide) rfl (by decide)
  refine tr_eq (t_fR I T3 (by decide) (by decide) (by decide)) ?_
  have T5 : tg (gP s v0 1) = 10 := t_tg (c := 10) I T_v0 (by decide) (by decide) rfl (by decide)
  refine tr_eq (t_fR I T_v0 (by decide) (by decide) (by decide)) ?_
  refine tr_eq (t_fI I T5 (by decide) (by decide) rfl) ?_
  obtain ⟨x6, hx6, hm⟩ := hp_bd hm
  refine tr_eq (t_X2_lookUp I T2 T4 hx6) ?_
  have T7 : tg (gP s v0 1) = 10 := t_tg (c := 10) I T_v0 (by decide) (by decide) rfl (by decide)
  refine tr_eq (t_fR I T_v0 (by decide) (by decide) (by decide)) ?_
  obtain ⟨w8, hw8, hm⟩ := hp_bd hm
  obtain ⟨_, e2, I, F⟩ := t_wF (c := 0) (k := 2) I F T7 (by decide) (by decide) rfl hw8
  refine tr_eq e2 ?_
  by_cases c9 : x6 < (300 : Int32)
  · rw [if_pos c9] at hm ⊢
    obtain rfl := Option.some.inj hm
    exact ⟨_, rfl, I, F⟩
  · rw [if_neg c9] at hm ⊢
    obtain rfl := Option.some.inj hm
    exact ⟨_, rfl, I, F⟩
def g_X10_find (n : Nat) (v0 : Nat) (s : st_T) : Option (Int32 × st_T) := g_X10_find_0 n v0 s
theorem t_X10_find {tg r : Nat → Nat} {h hb : hp_H} {s sb : st_T} {n : Nat} {v0 : Nat} (I : iso tg r h s) (F : isf tg r hb h sb s) (T_v0 : tg v0 = 20) {res : Int32 × st_T} (hm : g_X10_find n v0 s = some res) : ∃ h2, f_X10_find n (r v0) h = some ((res.1, h2)) ∧ iso tg r h2 res.2 ∧ isf tg r hb h2 sb res.2 := by
  unfold g_X10_find at hm
  unfold f_X10_find
  refine tr_eq (t_ck I T_v0 (by decide)) ?_
  exact t_X10_find_0 I F T_v0 hm
