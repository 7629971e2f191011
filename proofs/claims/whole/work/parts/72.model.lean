def g_X11_byteOf_12 (n : Nat) (v4 : Int32) (s0 : Int64) (s : st_T) : Option (Int32) :=
  some (Int64.toInt32 (((Int64.toUInt64 s0 >>> (Int64.toUInt64 (Int32.toInt64 ((56 : Int32) - ((8 : Int32) * (v4 - v4 / (8 : Int32) * (8 : Int32))))) &&& Int64.toUInt64 63)).toInt64) &&& (255 : Int64)))
set_option maxHeartbeats 1000000 in
theorem t_X11_byteOf_12 {tg r : Nat → Nat} {h : hp_H} {s : st_T} {n : Nat} {v4 : Int32} {s0 : Int64} (I : iso tg r h s) {res : Int32} (hm : g_X11_byteOf_12 n v4 s0 s = some res) : f_X11_byteOf_12 n v4 s0 h = some res := by
  unfold g_X11_byteOf_12 at hm
  unfold f_X11_byteOf_12
  obtain rfl := Option.some.inj hm
  rfl
def g_X11_byteOf_0 (n : Nat) (v0 : Int64) (v2 : Int64) (v4 : Int32) (s : st_T) : Option (Int32) :=
  if (8 : Int32) ≤ v4 then
    g_X11_byteOf_12 n v4 v2 s
  else
    g_X11_byteOf_12 n v4 v0 s
set_option maxHeartbeats 1000000 in
theorem t_X11_byteOf_0 {tg r : Nat → Nat} {h : hp_H} {s : st_T} {n : Nat} {v0 : Int64} {v2 : Int64} {v4 : Int32} (I : iso tg r h s) {res : Int32} (hm : g_X11_byteOf_0 n v0 v2 v4 s = some res) : f_X11_byteOf_0 n v0 v2 v4 h = some res := by
  unfold g_X11_byteOf_0 at hm
  unfold f_X11_byteOf_0
  by_cases c1 : (8 : Int32) ≤ v4
  · rw [if_pos c1] at hm ⊢
    exact t_X11_byteOf_12 I  hm
  · rw [if_neg c1] at hm ⊢
    exact t_X11_byteOf_12 I  hm
def g_X11_byteOf (n : Nat) (v0 : Int64) (v2 : Int64) (v4 : Int32) (s : st_T) : Option (Int32) := g_X11_byteOf_0 n v0 v2 v4 s
theorem t_X11_byteOf {tg r : Nat → Nat} {h : hp_H} {s : st_T} {n : Nat} {v0 : Int64} {v2 : Int64} {v4 : Int32} (I : iso tg r h s) {res : Int32} (hm : g_X11_byteOf n v0 v2 v4 s = some res) : f_X11_byteOf n v0 v2 v4 h = some res := by
  unfold g_X11_byteOf at hm
  unfold f_X11_byteOf
  exact t_X11_byteOf_0 I  hm
def g_X11_feed_32 (n : Nat) (v0 : Nat) (v1 : Int64) (v3 : Int64) (v6 : Int32) (s0 : Int32) (s : st_T) : Option ((Int32 × Int32) ⊕ (Int32)) :=
  some (.inl (s0, (v6 + (1 : Int32))))
set_option maxHeartbeats 1000000 in
theorem t_X11_feed_32 {tg r : Nat → Nat} {h : hp_H} {s : st_T} {n : Nat} {v0 : Nat} {v1 : Int64} {v3 : Int64} {v6 : Int32} {s0 : Int32} (I : iso tg r h s) (T_v0 : tg v0 = 21) {res : (Int32 × Int32) ⊕ (Int32)} (hm : g_X11_feed_32 n v0 v1 v3 v6 s0 s = some res) : f_X11_feed_32 n (r v0) v1 v3 v6 s0 h = some res := by
  unfold g_X11_feed_32 at hm
  unfold f_X11_feed_32
  obtain rfl := Option.some.inj hm
  rfl
def g_X11_feed_6 (n : Nat) (v0 : Nat) (v1 : Int64) (v3 : Int64) (v5 : Int32) (v6 : Int32) (s : st_T) : Option ((Int32 × Int32) ⊕ (Int32)) :=
  if (16 : Int32) ≤ v6 then
    some (.inr v5)
  else
    (g_X11_byteOf n v1 v3 v6 s).bind fun x1 =>
    if x1 = 0 then
      g_X11_feed_32 n v0 v1 v3 v6 v5 s
    else
      g_X11_feed_32 n v0 v1 v3 v6 (v5 + (1 : Int32)) s
set_option maxHeartbeats 1000000 in
theorem t_X11_feed_6 {tg r : Nat → Nat} {h : hp_H} {s : st_T} {n : Nat} {v0 : Nat} {v1 : Int64} {v3 : Int64} {v5 : Int32} {v6 : Int32} (I : iso tg r h s) (T_v0 : tg v0 = 21) {res : (Int32 × Int32) ⊕ (Int32)} (hm : g_X11_feed_6 n v0 v1 v3 v5 v6 s = some res) : f_X11_feed_6 n (r v0) v1 v3 v5 v6 h = some res := by
  unfold g_X11_feed_6 at hm
  unfold f_X11_feed_6
  by_cases c3 : (16 : Int32) ≤ v6
  · rw [if_pos c3] at hm ⊢
    obtain rfl := Option.some.inj hm
    rfl
  · rw [if_neg c3] at hm ⊢
    obtain ⟨x1, hx1, hm⟩ := hp_bd hm
    refine tr_eq0 (t_X11_byteOf I  hx1) ?_
    by_cases c2 : x1 = 0
    · rw [if_pos c2] at hm ⊢
      exact t_X11_feed_32 I T_v0 hm
    · rw [if_neg c2] at hm ⊢
      exact t_X11_feed_32 I T_v0 hm
def gL_X11_feed_6 (n : Nat) (v0 : Nat) (v1 : Int64) (v3 : Int64) (s : st_T) (c : Int32 × Int32) : Option ((Int32 × Int32) ⊕ (Int32)) := g_X11_feed_6 n v0 v1 v3 c.1 c.2 s
theorem tl_X11_feed_6 {tg r : Nat → Nat} {h : hp_H} {s : st_T} {n : Nat} {v0 : Nat} {v1 : Int64} {v3 : Int64} (I : iso tg r h s) (T_v0 : tg v0 = 21) : ∀ (k : Nat) (c : Int32 × Int32) (x : Int32), hp_lp (gL_X11_feed_6 n v0 v1 v3 s) k c = some x → hp_lp (fL_X11_feed_6 n (r v0) v1 v3 h) k c = some x := by
  intro k
  induction k with
  | zero => intro c x hx; exact (hp_lp_0 hx).elim
  | succ k ih =>
    intro c x hx
    obtain ⟨rr, hr, hc⟩ := hp_lp_1 hx
    have e2 := t_X11_feed_6 I T_v0 hr
    rcases hc with ⟨s3, e3, hx3⟩ | e3
    · subst e3
      exact hp_lp_s e2 (ih _ _ hx3)
    · subst e3
      exact hp_lp_x e2
abbrev eX_X11_feed_59 (x : st_T) (h2 : hp_H) : hp_H := (fun y => h2) x
abbrev sX_X11_feed_59 (x : st_T) : st_T := (fun y => y) x
abbrev eR_X11_feed_59 (x : (Int32 × st_T) ⊕ (st_T)) (h2 : hp_H) : (Int32 × hp_H) ⊕ (hp_H) := Sum.elim (fun y => .inl (y.1, h2)) (fun y => .inr (eX_X11_feed_59 y h2)) x
abbrev sR_X11_feed_59 (x : (Int32 × st_T) ⊕ (st_T)) : st_T := Sum.elim (fun y => y.2) sX_X11_feed_59 x
def g_X11_feed_101 (n : Nat) (v0 : Nat) (v1 : Int64) (v3 : Int64) (v6 : Int32) (s : st_T) : Option ((Int32 × st_T) ⊕ (st_T)) :=
  some (.inl ((v6 + (1 : Int32)), s))
set_option maxHeartbeats 1000000 in
theorem t_X11_feed_101 {tg r : Nat → Nat} {h hb : hp_H} {s sb : st_T} {n : Nat} {v0 : Nat} {v1 : Int64} {v3 : Int64} {v6 : Int32} (I : iso tg r h s) (F : isf tg r hb h sb s) (T_v0 : tg v0 = 21) {res : (Int32 × st_T) ⊕ (st_T)} (hm : g_X11_feed_101 n v0 v1 v3 v6 s = some res) : ∃ h2, f_X11_feed_101 n (r v0) v1 v3 v6 h = some (eR_X11_feed_59 res h2) ∧ iso tg r h2 (sR_X11_feed_59 res) ∧ isf tg r hb h2 sb (sR_X11_feed_59 res) := by
  unfold g_X11_feed_101 at hm
  unfold f_X11_feed_101
  obtain rfl := Option.some.inj hm
  exact ⟨_, rfl, I, F⟩
def g_X11_feed_59 (n : Nat) (v0 : Nat) (v1 : Int64) (v3 : Int64) (v6 : Int32) (s : st_T) : Option ((Int32 × st_T) ⊕ (st_T)) :=
  if (16 : Int32) ≤ v6 then
    some (.inr s)
  else
    (g_X11_byteOf n v1 v3 v6 s).bind fun x1 =>
    if x1 = 0 then
      g_X11_feed_101 n v0 v1 v3 v6 s
    else
      (uA 0 s (gP s v0 0) (gF s v0 1) x1).bind fun w3 =>
      (wF w3 v0 1 ((gF w3 v0 1) + (1 : Int32))).bind fun w4 =>
      g_X11_feed_101 n v0 v1 v3 v6 w4
set_option maxHeartbeats 1000000 in
theorem t_X11_feed_59 {tg r : Nat → Nat} {h hb : hp_H} {s sb : st_T} {n : Nat} {v0 : Nat} {v1 : Int64} {v3 : Int64} {v6 : Int32} (I : iso tg r h s) (F : isf tg r hb h sb s) (T_v0 : tg v0 = 21) {res : (Int32 × st_T) ⊕ (st_T)} (hm : g_X11_feed_59 n v0 v1 v3 v6 s = some res) : ∃ h2, f_X11_feed_59 n (r v0) v1 v3 v6 h = some (eR_X11_feed_59 res h2) ∧ iso tg r h2 (sR_X11_feed_59 res) ∧ isf tg r hb h2 sb (sR_X11_feed_59 res) := by
  unfold g_X11_feed_59 at hm
  unfold f_X11_feed_59
  by_cases c6 : (16 : Int32) ≤ v6
  · rw [if_pos c6] at hm ⊢
    obtain rfl := Option.some.inj hm
    exact ⟨_, rfl, I, F⟩
  · rw [if_neg c6] at hm ⊢
    obtain ⟨x1, hx1, hm⟩ := hp_bd hm
    refine tr_eq (t_X11_byteOf I  hx1) ?_
    by_cases c5 : x1 = 0
    · rw [if_pos c5] at hm ⊢
      exact t_X11_feed_101 I F T_v0 hm
    · rw [if_neg c5] at hm ⊢
      have T2 : tg (gP s v0 0) = 0 := t_tg (c := 11) I T_v0 (by decide) (by decide) rfl (by decide)
      refine tr_eq (t_fR I T_v0 (by decide) (by decide) (by decide)) ?_
      refine tr_eq (t_fI I T_v0 (by decide) (by decide) rfl) ?_
      obtain ⟨w3, hw3, hm⟩ := hp_bd hm
      obtain ⟨_, e2, I, F⟩ := t_sI I F T2 (by decide) rfl hw3
      refine tr_eq e2 ?_
      refine tr_eq (t_fI I T_v0 (by decide) (by decide) rfl) ?_
      obtain ⟨w4, hw4, hm⟩ := hp_bd hm
      obtain ⟨_, e2, I, F⟩ := t_wF (c := 11) (k := 1) I F T_v0 (by decide) (by decide) rfl hw4
      refine tr_eq e2 ?_
      exact t_X11_feed_101 I F T_v0 hm
def gL_X11_feed_59 (n : Nat) (v0 : Nat) (v1 : Int64) (v3 : Int64) (c : Int32 × st_T) : Option ((Int32 × st_T) ⊕ (st_T)) := g_X11_feed_59 n v0 v1 v3 c.1 c.2
theorem tl_X11_feed_59 {tg r : Nat → Nat} {hb : hp_H} {sb : st_T} {n : Nat} {v0 : Nat} {v1 : Int64} {v3 : Int64} (T_v0 : tg v0 = 21) : ∀ (k : Nat) (c0 : Int32) (h : hp_H) (s : st_T) (x : st_T), iso tg r h s → isf tg r hb h sb s → hp_lp (gL_X11_feed_59 n v0 v1 v3) k (c0, s) = some x → ∃ h2, hp_lp (fL_X11_feed_59 n (r v0) v1 v3) k (c0, h) = some (eX_X11_feed_59 x h2) ∧ iso tg r h2 (sX_X11_feed_59 x) ∧ isf tg r hb h2 sb (sX_X11_feed_59 x) := by
  intro k
  induction k with
  | zero => intro c0 h s x I F hx; exact (hp_lp_0 hx).elim
  | succ k ih =>
    intro c0 h s x I F hx
    obtain ⟨rr, hr, hc⟩ := hp_lp_1 hx
    obtain ⟨h2, e2, I2, F2⟩ := t_X11_feed_59 I F T_v0 hr
    rcases hc with ⟨s3, e3, hx3⟩ | e3
    · subst e3
      obtain ⟨h3, e4, I3, F3⟩ := ih _ h2 _ x I2 F2 hx3
      exact ⟨h3, hp_lp_s e2 e4, I3, F3⟩
    · subst e3
      exact ⟨h2, hp_lp_x e2, I2, F2⟩
def g_X11_feed_0 (n : Nat) (v0 : Nat) (v1 : Int64) (v3 : Int64) (s : st_T) : Option (Int32 × st_T) :=
  (hp_lp (gL_X11_feed_6 n v0 v1 v3 s) n ((0 : Int32), (0 : Int32))).bind fun x1 =>
  if ((gF s v0 1) + x1) ≤ (8192 : Int32) then
    (hp_lp (gL_X11_feed_59 n v0 v1 v3) n ((0 : Int32), s)).bind fun x3 =>
    some ((gF x3 v0 1), x3)
  else
    some ((-3 : Int32), s)
set_option maxHeartbeats 1000000 in
theorem t_X11_feed_0 {tg r : Nat → Nat} {h hb : hp_H} {s sb : st_T} {n : Nat} {v0 : Nat} {v1 : Int64} {v3 : Int64} (I : iso tg r h s) (F : isf tg r hb h sb s) (T_v0 : tg v0 = 21) {res : Int32 × st_T} (hm : g_X11_feed_0 n v0 v1 v3 s = some res) : ∃ h2, f_X11_feed_0 n (r v0) v1 v3 h = some ((res.1, h2)) ∧ iso tg r h2 res.2 ∧ isf tg r hb h2 sb res.2 := by
  unfold g_X11_feed_0 at hm
  unfold f_X11_feed_0
  obtain ⟨x1, hx1, hm⟩ := hp_bd hm
  refine tr_eq (tl_X11_feed_6 I T_v0 n _ _ hx1) ?_
  refine tr_eq (t_fI I T_v0 (by decide) (by decide) rfl) ?_
  by_cases c5 : ((gF s v0 1) + x1) ≤ (8192 : Int32)
  · rw [if_pos c5] at hm ⊢
    obtain ⟨x3, hx3, hm⟩ := hp_bd hm
    obtain ⟨_, e2, I, F⟩ := tl_X11_feed_59 T_v0 n _ _ _ _ I F hx3
    refine tr_eq e2 ?_
    try dsimp only [eX_X11_feed_59]
    replace I : iso tg _ _ x3 := I
    replace F : isf tg _ _ _ _ x3 := F
    refine tr_eq (t_fI I T_v0 (by decide) (by decide) rfl) ?_
    obtain rfl := Option.some.inj hm
    exact ⟨_, rfl, I, F⟩
  · rw [if_neg c5] at hm ⊢
    obtain rfl := Option.some.inj hm
    exact ⟨_, rfl, I, F⟩
def g_X11_feed (n : Nat) (v0 : Nat) (v1 : Int64) (v3 : Int64) (s : st_T) : Option (Int32 × st_T) := g_X11_feed_0 n v0 v1 v3 s
theorem t_X11_feed {tg r : Nat → Nat} {h hb : hp_H} {s sb : st_T} {n : Nat} {v0 : Nat} {v1 : Int64} {v3 : Int64} (I : iso tg r h s) (F : isf tg r hb h sb s) (T_v0 : tg v0 = 21) {res : Int32 × st_T} (hm : g_X11_feed n v0 v1 v3 s = some res) : ∃ h2, f_X11_feed n (r v0) v1 v3 h = some ((res.1, h2)) ∧ iso tg r h2 res.2 ∧ isf tg r hb h2 sb res.2 := by
  unfold g_X11_feed at hm
  unfold f_X11_feed
  refine tr_eq (t_ck I T_v0 (by decide)) ?_
  exact t_X11_feed_0 I F T_v0 hm
def g_X11_isBlank_30 (n : Nat) (s : st_T) : Option (Int32) :=
  some (1 : Int32)
set_option maxHeartbeats 1000000 in
theorem t_X11_isBlank_30 {tg r : Nat → Nat} {h : hp_H} {s : st_T} {n : Nat} (I : iso tg r h s) {res : Int32} (hm : g_X11_isBlank_30 n  s = some res) : f_X11_isBlank_30 n  h = some res := by
  unfold g_X11_isBlank_30 at hm
  unfold f_X11_isBlank_30
  obtain rfl := Option.some.inj hm
  rfl
def g_X11_isBlank_0 (n : Nat) (v0 : Int32) (s : st_T) : Option (Int32) :=
  if v0 = (9 : Int32) then
    g_X11_isBlank_30 n  s
  else
    if v0 = (10 : Int32) then
      g_X11_isBlank_30 n  s
    else
      if v0 = (12 : Int32) then
        g_X11_isBlank_30 n  s
      else
        if v0 = (13 : Int32) then
          g_X11_isBlank_30 n  s
        else
          if v0 = (32 : Int32) then
            g_X11_isBlank_30 n  s
          else
            some (0 : Int32)
set_option maxHeartbeats 1000000 in
theorem t_X11_isBlank_0 {tg r : Nat → Nat} {h : hp_H} {s : st_T} {n : Nat} {v0 : Int32} (I : iso tg r h s) {res : Int32} (hm : g_X11_isBlank_0 n v0 s = some res) : f_X11_isBlank_0 n v0 h = some res := by
  unfold g_X11_isBlank_0 at hm
  unfold f_X11_isBlank_0
  by_cases c5 : v0 = (9 : Int32)
  · rw [if_pos c5] at hm ⊢
    exact t_X11_isBlank_30 I  hm
  · rw [if_neg c5] at hm ⊢
    by_cases c4 : v0 = (10 : Int32)
    · rw [if_pos c4] at hm ⊢
      exact t_X11_isBlank_30 I  hm
    · rw [if_neg c4] at hm ⊢
      by_cases c3 : v0 = (12 : Int32)
      · rw [if_pos c3] at hm ⊢
        exact t_X11_isBlank_30 I  hm
      · rw [if_neg c3] at hm ⊢
        by_cases c2 : v0 = (13 : Int32)
        · rw [if_pos c2] at hm ⊢
          exact t_X11_isBlank_30 I  hm
        · rw [if_neg c2] at hm ⊢
          by_cases c1 : v0 = (32 : Int32)
          · rw [if_pos c1] at hm ⊢
            exact t_X11_isBlank_30 I  hm
          · rw [if_neg c1] at hm ⊢
            obtain rfl := Option.some.inj hm
            rfl
def g_X11_isBlank (n : Nat) (v0 : Int32) (s : st_T) : Option (Int32) := g_X11_isBlank_0 n v0 s
theorem t_X11_isBlank {tg r : Nat → Nat} {h : hp_H} {s : st_T} {n : Nat} {v0 : Int32} (I : iso tg r h s) {res : Int32} (hm : g_X11_isBlank n v0 s = some res) : f_X11_isBlank n v0 h = some res := by
  unfold g_X11_isBlank at hm
  unfold f_X11_isBlank
  exact t_X11_isBlank_0 I  hm
abbrev eX_X11_nextToken_0 (x : st_T) (h2 : hp_H) : hp_H := (fun y => h2) x
abbrev sX_X11_nextToken_0 (x : st_T) : st_T := (fun y => y) x
abbrev eR_X11_nextToken_0 (x : (st_T) ⊕ (st_T)) (h2 : hp_H) : (hp_H) ⊕ (hp_H) := Sum.elim (fun y => .inl h2) (fun y => .inr (eX_X11_nextToken_0 y h2)) x
abbrev sR_X11_nextToken_0 (x : (st_T) ⊕ (st_T)) : st_T := Sum.elim (fun y => y) sX_X11_nextToken_0 x
def g_X11_nextToken_0 (n : Nat) (v0 : Nat) (s : st_T) : Option ((st_T) ⊕ (st_T)) :=
  if (gF s v0 1) ≤ (gF s v0 31) then
    some (.inr s)
  else
    (gA s (gP s v0 0) (gF s v0 31)).bind fun x2 =>
    (g_X11_isBlank n x2 s).bind fun x3 =>
    if x3 = 0 then
      some (.inr s)
    else
      (wF s v0 31 ((gF s v0 31) + (1 : Int32))).bind fun w4 =>
      some (.inl w4)
set_option maxHeartbeats 1000000 in
theorem t_X11_nextToken_0 {tg r : Nat → Nat} {h hb : hp_H} {s sb : st_T} {n : Nat} {v0 : Nat} (I : iso tg r h s) (F : isf tg r hb h sb s) (T_v0 : tg v0 = 21) {res : (st_T) ⊕ (st_T)} (hm : g_X11_nextToken_0 n v0 s = some res) : ∃ h2, f_X11_nextToken_0 n (r v0) h = some (eR_X11_nextToken_0 res h2) ∧ iso tg r h2 (sR_X11_nextToken_0 res) ∧ isf tg r hb h2 sb (sR_X11_nextToken_0 res) := by
  unfold g_X11_nextToken_0 at hm
  unfold f_X11_nextToken_0
  refine tr_eq (t_fI I T_v0 (by decide) (by decide) rfl) ?_
  refine tr_eq (t_fI I T_v0 (by decide) (by decide) rfl) ?_
  by_cases c6 : (gF s v0 1) ≤ (gF s v0 31)
  · rw [if_pos c6] at hm ⊢
    obtain rfl := Option.some.inj hm
    exact ⟨_, rfl, I, F⟩
  · rw [if_neg c6] at hm ⊢
    have T1 : tg (gP s v0 0) = 0 := t_tg (c := 11) I T_v0 (by decide) (by decide) rfl (by decide)
    refine tr_eq (t_fR I T_v0 (by decide) (by decide) (by decide)) ?_
    refine tr_eq (t_fI I T_v0 (by decide) (by decide) rfl) ?_
    obtain ⟨x2, hx2, hm⟩ := hp_bd hm
    refine tr_eq (t_aI I T1 (by decide) rfl hx2) ?_
    obtain ⟨x3, hx3, hm⟩ := hp_bd hm
    refine tr_eq (t_X11_isBlank I  hx3) ?_
    by_cases c5 : x3 = 0
    · rw [if_pos c5] at hm ⊢
      obtain rfl := Option.some.inj hm
      exact ⟨_, rfl, I, F⟩
    · rw [if_neg c5] at hm ⊢
      refine tr_eq (t_fI I T_v0 (by decide) (by decide) rfl) ?_
      obtain ⟨w4, hw4, hm⟩ := hp_bd hm
      obtain ⟨_, e2, I, F⟩ := t_wF (c := 11) (k := 31) I F T_v0 (by decide) (by decide) rfl hw4
      refine tr_eq e2 ?_
      obtain rfl := Option.some.inj hm
      exact ⟨_, rfl, I, F⟩
def gL_X11_nextToken_0 (n : Nat) (v0 : Nat) (c : st_T) : Option ((st_T) ⊕ (st_T)) := g_X11_nextToken_0 n v0 c
theorem tl_X11_nextToken_0 {tg r : Nat → Nat} {hb : hp_H} {sb : st_T} {n : Nat} {v0 : Nat} (T_v0 : tg v0 = 21) : ∀ (k : Nat)  (h : hp_H) (s : st_T) (x : st_T), iso tg r h s → isf tg r hb h sb s → hp_lp (gL_X11_nextToken_0 n v0) k s = some x → ∃ h2, hp_lp (fL_X11_nextToken_0 n (r v0)) k h = some (eX_X11_nextToken_0 x h2) ∧ iso tg r h2 (sX_X11_nextToken_0 x) ∧ isf tg r hb h2 sb (sX_X11_nextToken_0 x) := by
  intro k
  induction k with
  | zero => intro  h s x I F hx; exact (hp_lp_0 hx).elim
  | succ k ih =>
    intro  h s x I F hx
    obtain ⟨rr, hr, hc⟩ := hp_lp_1 hx
    obtain ⟨h2, e2, I2, F2⟩ := t_X11_nextToken_0 I F T_v0 hr
    rcases hc with ⟨s3, e3, hx3⟩ | e3
    · subst e3
      obtain ⟨h3, e4, I3, F3⟩ := ih  h2 _ x I2 F2 hx3
      exact ⟨h3, hp_lp_s e2 e4, I3, F3⟩
    · subst e3
      exact ⟨h2, hp_lp_x e2, I2, F2⟩
abbrev eX_X11_nextToken_47 (x : st_T) (h2 : hp_H) : hp_H := (fun y => h2) x
abbrev sX_X11_nextToken_47 (x : st_T) : st_T := (fun y => y) x
abbrev eR_X11_nextToken_47 (x : (st_T) ⊕ (st_T)) (h2 : hp_H) : (hp_H) ⊕ (hp_H) := Sum.elim (fun y => .inl h2) (fun y => .inr (eX_X11_nextToken_47 y h2)) x
abbrev sR_X11_nextToken_47 (x : (st_T) ⊕ (st_T)) : st_T := Sum.elim (fun y => y) sX_X11_nextToken_47 x
def g_X11_nextToken_47 (n : Nat) (v0 : Nat) (s : st_T) : Option ((st_T) ⊕ (st_T)) :=
  if (gF s v0 1) ≤ (gF s v0 31) then
    some (.inr s)
  else
    (gA s (gP s v0 0) (gF s v0 31)).bind fun x2 =>
    (g_X11_isBlank n x2 s).bind fun x3 =>
    if x3 = 0 then
      (wF s v0 31 ((gF s v0 31) + (1 : Int32))).bind fun w4 =>
      some (.inl w4)
    else
      some (.inr s)
set_option maxHeartbeats 1000000 in
theorem t_X11_nextToken_47 {tg r : Nat → Nat} {h hb : hp_H} {s sb : st_T} {n : Nat} {v0 : Nat} (I : iso tg r h s) (F : isf tg r hb h sb s) (T_v0 : tg v0 = 21) {res : (st_T) ⊕ (st_T)} (hm : g_X11_nextToken_47 n v0 s = some res) : ∃ h2, f_X11_nextToken_47 n (r v0) h = some (eR_X11_nextToken_47 res h2) ∧ iso tg r h2 (sR_X11_nextToken_47 res) ∧ isf tg r hb h2 sb (sR_X11_nextToken_47 res) := by
  unfold g_X11_nextToken_47 at hm
  unfold f_X11_nextToken_47
  refine tr_eq (t_fI I T_v0 (by decide) (by decide) rfl) ?_
  refine tr_eq (t_fI I T_v0 (by decide) (by decide) rfl) ?_
  by_cases c6 : (gF s v0 1) ≤ (gF s v0 31)
  · rw [if_pos c6] at hm ⊢
    obtain rfl := Option.some.inj hm
    exact ⟨_, rfl, I, F⟩
  · rw [if_neg c6] at hm ⊢
    have T1 : tg (gP s v0 0) = 0 := t_tg (c := 11) I T_v0 (by decide) (by decide) rfl (by decide)
    refine tr_eq (t_fR I T_v0 (by decide) (by decide) (by decide)) ?_
    refine tr_eq (t_fI I T_v0 (by decide) (by decide) rfl) ?_
    obtain ⟨x2, hx2, hm⟩ := hp_bd hm
    refine tr_eq (t_aI I T1 (by decide) rfl hx2) ?_
    obtain ⟨x3, hx3, hm⟩ := hp_bd hm
    refine tr_eq (t_X11_isBlank I  hx3) ?_
    by_cases c5 : x3 = 0
    · rw [if_pos c5] at hm ⊢
      refine tr_eq (t_fI I T_v0 (by decide) (by decide) rfl) ?_
      obtain ⟨w4, hw4, hm⟩ := hp_bd hm
      obtain ⟨_, e2, I, F⟩ := t_wF (c := 11) (k := 31) I F T_v0 (by decide) (by decide) rfl hw4
      refine tr_eq e2 ?_
      obtain rfl := Option.some.inj hm
      exact ⟨_, rfl, I, F⟩
    · rw [if_neg c5] at hm ⊢
      obtain rfl := Option.some.inj hm
      exact ⟨_, rfl, I, F⟩
def gL_X11_nextToken_47 (n : Nat) (v0 : Nat) (c : st_T) : Option ((st_T) ⊕ (st_T)) := g_X11_nextToken_47 n v0 c
theorem tl_X11_nextToken_47 {tg r : Nat → Nat} {hb : hp_H} {sb : st_T} {n : Nat} {v0 : Nat} (T_v0 : tg v0 = 21) : ∀ (k : Nat)  (h : hp_H) (s : st_T) (x : st_T), iso tg r h s → isf tg r hb h sb s → hp_lp (gL_X11_nextToken_47 n v0) k s = some x → ∃ h2, hp_lp (fL_X11_nextToken_47 n (r v0)) k h = some (eX_X11_nextToken_47 x h2) ∧ iso tg r h2 (sX_X11_nextToken_47 x) ∧ isf tg r hb h2 sb (sX_X11_nextToken_47 x) := by
  intro k
  induction k with
  | zero => intro  h s x I F hx; exact (hp_lp_0 hx).elim
  | succ k ih =>
    intro  h s x I F hx
    obtain ⟨rr, hr, hc⟩ := hp_lp_1 hx
    obtain ⟨h2, e2, I2, F2⟩ := t_X11_nextToken_47 I F T_v0 hr
    rcases hc with ⟨s3, e3, hx3⟩ | e3
    · subst e3
      obtain ⟨h3, e4, I3, F3⟩ := ih  h2 _ x I2 F2 hx3
      exact ⟨h3, hp_lp_s e2 e4, I3, F3⟩
    · subst e3
      exact ⟨h2, hp_lp_x e2, I2, F2⟩
def g_X11_nextToken_86 (n : Nat) (v0 : Nat) (s : st_T) : Option (Int32 × st_T) :=
  (wF s v0 30 ((gF s v0 31) - (gF s v0 29))).bind fun w1 =>
  if (gF w1 v0 30) ≤ 0 then
    some ((0 : Int32), w1)
  else
    some ((1 : Int32), w1)
set_option maxHeartbeats 1000000 in
theorem t_X11_nextToken_86 {tg r : Nat → Nat} {h hb : hp_H} {s sb : st_T} {n : Nat} {v0 : Nat} (I : iso tg r h s) (F : isf tg r hb h sb s) (T_v0 : tg v0 = 21) {res : Int32 × st_T} (hm : g_X11_nextToken_86 n v0 s = some res) : ∃ h2, f_X11_nextToken_86 n (r v0) h = some ((res.1, h2)) ∧ iso tg r h2 res.2 ∧ isf tg r hb h2 sb res.2 := by
  unfold g_X11_nextToken_86 at hm
  unfold f_X11_nextToken_86
  refine tr_eq (t_fI I T_v0 (by decide) (by decide) rfl) ?_
  refine tr_eq (t_fI I T_v0 (by decide) (by decide) rfl) ?_
  obtain ⟨w1, hw1, hm⟩ := hp_bd hm
  obtain ⟨_, e2, I, F⟩ := t_wF (c := 11) (k := 30) I F T_v0 (by decide) (by decide) rfl hw1
  refine tr_eq e2 ?_
  refine tr_eq (t_fI I T_v0 (by decide) (by decide) rfl) ?_
  by_cases c2 : (gF w1 v0 30) ≤ 0
  · rw [if_pos c2] at hm ⊢
    obtain rfl := Option.some.inj hm
    exact ⟨_, rfl, I, F⟩
  · rw [if_neg c2] at hm ⊢
    obtain rfl := Option.some.inj hm
    exact ⟨_, rfl, I, F⟩
def g_X11_nextToken_39 (n : Nat) (v0 : Nat) (s : st_T) : Option (Int32 × st_T) :=
  (wF s v0 29 (gF s v0 31)).bind fun w1 =>
  (hp_lp (gL_X11_nextToken_47 n v0) n w1).bind fun x2 =>
  g_X11_nextToken_86 n v0 x2
set_option maxHeartbeats 1000000 in
theorem t_X11_nextToken_39 {tg r : Nat → Nat} {h hb : hp_H} {s sb : st_T} {n : Nat} {v0 : Nat} (I : iso tg r h s) (F : isf tg r hb h sb s) (T_v0 : tg v0 = 21) {res : Int32 × st_T} (hm : g_X11_nextToken_39 n v0 s = some res) : ∃ h2, f_X11_nextToken_39 n (r v0) h = some ((res.1, h2)) ∧ iso tg r h2 res.2 ∧ isf tg r hb h2 sb res.2 := by
  unfold g_X11_nextToken_39 at hm
  unfold f_X11_nextToken_39
  refine tr_eq (t_fI I T_v0 (by decide) (by decide) rfl) ?_
  obtain ⟨w1, hw1, hm⟩ := hp_bd hm
  obtain ⟨_, e2, I, F⟩ := t_wF (c := 11) (k := 29) I F T_v0 (by decide) (by decide) rfl hw1
  refine tr_eq e2 ?_
  obtain ⟨x2, hx2, hm⟩ := hp_bd hm
  obtain ⟨_, e2, I, F⟩ := tl_X11_nextToken_47 T_v0 n  _ _ _ I F hx2
  refine tr_eq e2 ?_
  try dsimp only [eX_X11_nextToken_47]
  replace I : iso tg _ _ x2 := I
  replace F : isf tg _ _ _ _ x2 := F
  exact t_X11_nextToken_86 I F T_v0 hm
def g_X11_nextToken_e (n : Nat) (v0 : Nat) (s : st_T) : Option (Int32 × st_T) :=
  (hp_lp (gL_X11_nextToken_0 n v0) n s).bind fun x1 =>
  g_X11_nextToken_39 n v0 x1
set_option maxHeartbeats 1000000 in
theorem t_X11_nextToken_e {tg r : Nat → Nat} {h hb : hp_H} {s sb : st_T} {n : Nat} {v0 : Nat} (I : iso tg r h s) (F : isf tg r hb h sb s) (T_v0 : tg v0 = 21) {res : Int32 × st_T} (hm : g_X11_nextToken_e n v0 s = some res) : ∃ h2, f_X11_nextToken_e n (r v0) h = some ((res.1, h2)) ∧ iso tg r h2 res.2 ∧ isf tg r hb h2 sb res.2 := by
  unfold g_X11_nextToken_e at hm
  unfold f_X11_nextToken_e
  obtain ⟨x1, hx1, hm⟩ := hp_bd hm
  obtain ⟨_, e2, I, F⟩ := tl_X11_nextToken_0 T_v0 n  _ _ _ I F hx1
  refine tr_eq e2 ?_
  try dsimp only [eX_X11_nextToken_0]
  replace I : iso tg _ _ x1 := I
  replace F : isf tg _ _ _ _ x1 := F
  exact t_X11_nextToken_39 I F T_v0 hm
def g_X11_nextToken (n : Nat) (v0 : Nat) (s : st_T) : Option (Int32 × st_T) := g_X11_nextToken_e n v0 s
theorem t_X11_nextToken {tg r : Nat → Nat} {h hb : hp_H} {s sb : st_T} {n : Nat} {v0 : Nat} (I : iso tg r h s) (F : isf tg r hb h sb s) (T_v0 : tg v0 = 21) {res : Int32 × st_T} (hm : g_X11_nextToken n v0 s = some res) : ∃ h2, f_X11_nextToken n (r v0) h = some ((res.1, h2)) ∧ iso tg r h2 res.2 ∧ isf tg r hb h2 sb res.2 := by
  unfold g_X11_nextToken at hm
  unfold f_X11_nextToken
  refine tr_eq (t_ck I T_v0 (by decide)) ?_
  exact t_X11_nextToken_e I F T_v0 hm
def g_X11_hasBad_51 (n : Nat) (v0 : Nat) (v2 : Int32) (s0 : Int32) (s : st_T) : Option ((Int32 × Int32) ⊕ (Int32)) :=
  some (.inl (s0, (v2 + (1 : Int32))))
set_option maxHeartbeats 1000000 in
theorem t_X11_hasBad_51 {tg r : Nat → Nat} {h : hp_H} {s : st_T} {n : Nat} {v0 : Nat} {v2 : Int32} {s0 : Int32} (I : iso tg r h s) (T_v0 : tg v0 = 21) {res : (Int32 × Int32) ⊕ (Int32)} (hm : g_X11_hasBad_51 n v0 v2 s0 s = some res) : f_X11_hasBad_51 n (r v0) v2 s0 h = some res := by
  unfold g_X11_hasBad_51 at hm
  unfold f_X11_hasBad_51
  obtain rfl := Option.some.inj hm
  rfl
def g_X11_hasBad_46 (n : Nat) (v0 : Nat) (v2 : Int32) (s : st_T) : Option ((Int32 × Int32) ⊕ (Int32)) :=
  g_X11_hasBad_51 n v0 v2 (1 : Int32) s
set_option maxHeartbeats 1000000 in
theorem t_X11_hasBad_46 {tg r : Nat → Nat} {h : hp_H} {s : st_T} {n : Nat} {v0 : Nat} {v2 : Int32} (I : iso tg r h s) (T_v0 : tg v0 = 21) {res : (Int32 × Int32) ⊕ (Int32)} (hm : g_X11_hasBad_46 n v0 v2 s = some res) : f_X11_hasBad_46 n (r v0) v2 h = some res := by
  unfold g_X11_hasBad_46 at hm
  unfold f_X11_hasBad_46
  exact t_X11_hasBad_51 I T_v0 hm
def g_X11_hasBad_7 (n : Nat) (v0 : Nat) (v1 : Int32) (v2 : Int32) (s : st_T) : Option ((Int32 × Int32) ⊕ (Int32)) :=
  if ((gF s v0 29) + (gF s v0 30)) ≤ v2 then
    (hp_bz v1).bind fun _ =>
    some (.inr v1)
  else
    if v1 = 0 then
      (gA s (gP s v0 0) v2).bind fun x3 =>
      if x3 < (33 : Int32) then
        g_X11_hasBad_46 n v0 v2 s
      else
        (gA s (gP s v0 0) v2).bind fun x5 =>
        if x5 ≤ (126 : Int32) then
          g_X11_hasBad_51 n v0 v2 (0 : Int32) s
        else
          g_X11_hasBad_46 n v0 v2 s
    else
      g_X11_hasBad_46 n v0 v2 s
set_option maxHeartbeats 1000000 in
theorem t_X11_hasBad_7 {tg r : Nat → Nat} {h : hp_H} {s : st_T} {n : Nat} {v0 : Nat} {v1 : Int32} {v2 : Int32} (I : iso tg r h s) (T_v0 : tg v0 = 21) {res : (Int32 × Int32) ⊕ (Int32)} (hm : g_X11_hasBad_7 n v0 v1 v2 s = some res) : f_X11_hasBad_7 n (r v0) v1 v2 h = some res := by
  unfold g_X11_hasBad_7 at hm
  unfold f_X11_hasBad_7
  refine tr_eq0 (t_fI I T_v0 (by decide) (by decide) rfl) ?_
  refine tr_eq0 (t_fI I T_v0 (by decide) (by decide) rfl) ?_
  by_cases c9 : ((gF s v0 29) + (gF s v0 30)) ≤ v2
  · rw [if_pos c9] at hm ⊢
    obtain ⟨_, hu1, hm⟩ := hp_bd hm
    refine tr_eq0 hu1 ?_
    obtain rfl := Option.some.inj hm
    rfl
  · rw [if_neg c9] at hm ⊢
    by_cases c8 : v1 = 0
    · rw [if_pos c8] at hm ⊢
      have T2 : tg (gP s v0 0) = 0 := t_tg (c := 11) I T_v0 (by decide) (by decide) rfl (by decide)
      refine tr_eq0 (t_fR I T_v0 (by decide) (by decide) (by decide)) ?_
      obtain ⟨x3, hx3, hm⟩ := hp_bd hm
      refine tr_eq0 (t_aI I T2 (by decide) rfl hx3) ?_
      by_cases c7 : x3 < (33 : Int32)
      · rw [if_pos c7] at hm ⊢
        exact t_X11_hasBad_46 I T_v0 hm
      · rw [if_neg c7] at hm ⊢
        have T4 : tg (gP s v0 0) = 0 := t_tg (c := 11) I T_v0 (by decide) (by decide) rfl (by decide)
        refine tr_eq0 (t_fR I T_v0 (by decide) (by decide) (by decide)) ?_
        obtain ⟨x5, hx5, hm⟩ := hp_bd hm
        refine tr_eq0 (t_aI I T4 (by decide) rfl hx5) ?_
        by_cases c6 : x5 ≤ (126 : Int32)
        · rw [if_pos c6] at hm ⊢
          exact t_X11_hasBad_51 I T_v0 hm
        · rw [if_neg c6] at hm ⊢
          exact t_X11_hasBad_46 I T_v0 hm
    · rw [if_neg c8] at hm ⊢
      exact t_X11_hasBad_46 I T_v0 hm
def gL_X11_hasBad_7 (n : Nat) (v0 : Nat) (s : st_T) (c : Int32 × Int32) : Option ((Int32 × Int32) ⊕ (Int32)) := g_X11_hasBad_7 n v0 c.1 c.2 s
theorem tl_X11_hasBad_7 {tg r : Nat → Nat} {h : hp_H} {s : st_T} {n : Nat} {v0 : Nat} (I : iso tg r h s) (T_v0 : tg v0 = 21) : ∀ (k : Nat) (c : Int32 × Int32) (x : Int32), hp_lp (gL_X11_hasBad_7 n v0 s) k c = some x → hp_lp (fL_X11_hasBad_7 n (r v0) h) k c = some x := by
  intro k
  induction k with
  | zero => intro c x hx; exact (hp_lp_0 hx).elim
  | succ k ih =>
    intro c x hx
    obtain ⟨rr, hr, hc⟩ := hp_lp_1 hx
    have e2 := t_X11_hasBad_7 I T_v0 hr
    rcases hc with ⟨s3, e3, hx3⟩ | e3
    · subst e3
      exact hp_lp_s e2 (ih _ _ hx3)
    · subst e3
      exact hp_lp_x e2
def g_X11_hasBad_0 (n : Nat) (v0 : Nat) (s : st_T) : Option (Int32) :=
  (hp_lp (gL_X11_hasBad_7 n v0 s) n ((0 : Int32), (gF s v0 29))).bind fun x1 =>
  some x1
set_option maxHeartbeats 1000000 in
theorem t_X11_hasBad_0 {tg r : Nat → Nat} {h : hp_H} {s : st_T} {n : Nat} {v0 : Nat} (I : iso tg r h s) (T_v0 : tg v0 = 21) {res : Int32} (hm : g_X11_hasBad_0 n v0 s = some res) : f_X11_hasBad_0 n (r v0) h = some res := by
  unfold g_X11_hasBad_0 at hm
  unfold f_X11_hasBad_0
  refine tr_eq0 (t_fI I T_v0 (by decide) (by decide) rfl) ?_
  obtain ⟨x1, hx1, hm⟩ := hp_bd hm
  refine tr_eq0 (tl_X11_hasBad_7 I T_v0 n _ _ hx1) ?_
  obtain rfl := Option.some.inj hm
  rfl
def g_X11_hasBad (n : Nat) (v0 : Nat) (s : st_T) : Option (Int32) := g_X11_hasBad_0 n v0 s
theorem t_X11_hasBad {tg r : Nat → Nat} {h : hp_H} {s : st_T} {n : Nat} {v0 : Nat} (I : iso tg r h s) (T_v0 : tg v0 = 21) {res : Int32} (hm : g_X11_hasBad n v0 s = some res) : f_X11_hasBad n (r v0) h = some res := by
  unfold g_X11_hasBad at hm
  unfold f_X11_hasBad
  refine tr_eq0 (t_ck I T_v0 (by decide)) ?_
  exact t_X11_hasBad_0 I T_v0 hm
def g_X11_hasDollar_40 (n : Nat) (v0 : Nat) (v2 : Int32) (s0 : Int32) (s : st_T) : Option ((Int32 × Int32) ⊕ (Int32)) :=
  some (.inl (s0, (v2 + (1 : Int32))))
set_option maxHeartbeats 1000000 in
theorem t_X11_hasDollar_40 {tg r : Nat → Nat} {h : hp_H} {s : st_T} {n : Nat} {v0 : Nat} {v2 : Int32} {s0 : Int32} (I : iso tg r h s) (T_v0 : tg v0 = 21) {res : (Int32 × Int32) ⊕ (Int32)} (hm : g_X11_hasDollar_40 n v0 v2 s0 s = some res) : f_X11_hasDollar_40 n (r v0) v2 s0 h = some res := by
  unfold g_X11_hasDollar_40 at hm
  unfold f_X11_hasDollar_40
  obtain rfl := Option.some.inj hm
  rfl
def g_X11_hasDollar_35 (n : Nat) (v0 : Nat) (v2 : Int32) (s : st_T) : Option ((Int32 × Int32) ⊕ (Int32)) :=
  g_X11_hasDollar_40 n v0 v2 (1 : Int32) s
set_option maxHeartbeats 1000000 in
theorem t_X11_hasDollar_35 {tg r : Nat → Nat} {h : hp_H} {s : st_T} {n : Nat} {v0 : Nat} {v2 : Int32} (I : iso tg r h s) (T_v0 : tg v0 = 21) {res : (Int32 × Int32) ⊕ (Int32)} (hm : g_X11_hasDollar_35 n v0 v2 s = some res) : f_X11_hasDollar_35 n (r v0) v2 h = some res := by
  unfold g_X11_hasDollar_35 at hm
  unfold f_X11_hasDollar_35
  exact t_X11_hasDollar_40 I T_v0 hm
def g_X11_hasDollar_7 (n : Nat) (v0 : Nat) (v1 : Int32) (v2 : Int32) (s : st_T) : Option ((Int32 × Int32) ⊕ (Int32)) :=
  if ((gF s v0 29) + (gF s v0 30)) ≤ v2 then
    (hp_bz v1).bind fun _ =>
    some (.inr v1)
  else
    if v1 = 0 then
      (gA s (gP s v0 0) v2).bind fun x3 =>
      if x3 = (36 : Int32) then
        g_X11_hasDollar_35 n v0 v2 s
      else
        g_X11_hasDollar_40 n v0 v2 (0 : Int32) s
    else
      g_X11_hasDollar_35 n v0 v2 s
set_option maxHeartbeats 1000000 in
theorem t_X11_hasDollar_7 {tg r : Nat → Nat} {h : hp_H} {s : st_T} {n : Nat} {v0 : Nat} {v1 : Int32} {v2 : Int32} (I : iso tg r h s) (T_v0 : tg v0 = 21) {res : (Int32 × Int32) ⊕ (Int32)} (hm : g_X11_hasDollar_7 n v0 v1 v2 s = some res) : f_X11_hasDollar_7 n (r v0) v1 v2 h = some res := by
  unfold g_X11_hasDollar_7 at hm
  unfold f_X11_hasDollar_7
  refine tr_eq0 (t_fI I T_v0 (by decide) (by decide) rfl) ?_
  refine tr_eq0 (t_fI I T_v0 (by decide) (by decide) rfl) ?_
  by_cases c6 : ((gF s v0 29) + (gF s v0 30)) ≤ v2
  · rw [if_pos c6] at hm ⊢
    obtain ⟨_, hu1, hm⟩ := hp_bd hm
    refine tr_eq0 hu1 ?_
    obtain rfl := Option.some.inj hm
    rfl
  · rw [if_neg c6] at hm ⊢
    by_cases c5 : v1 = 0
    · rw [if_pos c5] at hm ⊢
      have T2 : tg (gP s v0 0) = 0 := t_tg (c := 11) I T_v0 (by decide) (by decide) rfl (by decide)
      refine tr_eq0 (t_fR I T_v0 (by decide) (by decide) (by decide)) ?_
      obtain ⟨x3, hx3, hm⟩ := hp_bd hm
      refine tr_eq0 (t_aI I T2 (by decide) rfl hx3) ?_
      by_cases c4 : x3 = (36 : Int32)
      · rw [if_pos c4] at hm ⊢
        exact t_X11_hasDollar_35 I T_v0 hm
      · rw [if_neg c4] at hm ⊢
        exact t_X11_hasDollar_40 I T_v0 hm
    · rw [if_neg c5] at hm ⊢
      exact t_X11_hasDollar_35 I T_v0 hm
def gL_X11_hasDollar_7 (n : Nat) (v0 : Nat) (s : st_T) (c : Int32 × Int32) : Option ((Int32 × Int32) ⊕ (Int32)) := g_X11_hasDollar_7 n v0 c.1 c.2 s
theorem tl_X11_hasDollar_7 {tg r : Nat → Nat} {h : hp_H} {s : st_T} {n : Nat} {v0 : Nat} (I : iso tg r h s) (T_v0 : tg v0 = 21) : ∀ (k : Nat) (c : Int32 × Int32) (x : Int32), hp_lp (gL_X11_hasDollar_7 n v0 s) k c = some x → hp_lp (fL_X11_hasDollar_7 n (r v0) h) k c = some x := by
  intro k
  induction k with
  | zero => intro c x hx; exact (hp_lp_0 hx).elim
  | succ k ih =>
    intro c x hx
    obtain ⟨rr, hr, hc⟩ := hp_lp_1 hx
    have e2 := t_X11_hasDollar_7 I T_v0 hr
    rcases hc with ⟨s3, e3, hx3⟩ | e3
    · subst e3
      exact hp_lp_s e2 (ih _ _ hx3)
    · subst e3
      exact hp_lp_x e2
def g_X11_hasDollar_0 (n : Nat) (v0 : Nat) (s : st_T) : Option (Int32) :=
  (hp_lp (gL_X11_hasDollar_7 n v0 s) n ((0 : Int32), (gF s v0 29))).bind fun x1 =>
  some x1
set_option maxHeartbeats 1000000 in
theorem t_X11_hasDollar_0 {tg r : Nat → Nat} {h : hp_H} {s : st_T} {n : Nat} {v0 : Nat} (I : iso tg r h s) (T_v0 : tg v0 = 21) {res : Int32} (hm : g_X11_hasDollar_0 n v0 s = some res) : f_X11_hasDollar_0 n (r v0) h = some res := by
  unfold g_X11_hasDollar_0 at hm
  unfold f_X11_hasDollar_0
  refine tr_eq0 (t_fI I T_v0 (by decide) (by decide) rfl) ?_
  obtain ⟨x1, hx1, hm⟩ := hp_bd hm
  refine tr_eq0 (tl_X11_hasDollar_7 I T_v0 n _ _ hx1) ?_
  obtain rfl := Option.some.inj hm
  rfl
def g_X11_hasDollar (n : Nat) (v0 : Nat) (s : st_T) : Option (Int32) := g_X11_hasDollar_0 n v0 s
theorem t_X11_hasDollar {tg r : Nat → Nat} {h : hp_H} {s : st_T} {n : Nat} {v0 : Nat} (I : iso tg r h s) (T_v0 : tg v0 = 21) {res : Int32} (hm : g_X11_hasDollar n v0 s = some res) : f_X11_hasDollar n (r v0) h = some res := by
  unfold g_X11_hasDollar at hm
  unfold f_X11_hasDollar
  refine tr_eq0 (t_ck I T_v0 (by decide)) ?_
  exact t_X11_hasDollar_0 I T_v0 hm
def g_X11_hasPart_54 (n : Nat) (v0 : Nat) (v1 : Int32) (v3 : Int32) (s0 : Int32) (s : st_T) : Option ((Int32 × Int32) ⊕ (Int32)) :=
  some (.inl (s0, (v3 + (1 : Int32))))
set_option maxHeartbeats 1000000 in
theorem t_X11_hasPart_54 {tg r : Nat → Nat} {h : hp_H} {s : st_T} {n : Nat} {v0 : Nat} {v1 : Int32} {v3 : Int32} {s0 : Int32} (I : iso tg r h s) (T_v0 : tg v0 = 21) {res : (Int32 × Int32) ⊕ (Int32)} (hm : g_X11_hasPart_54 n v0 v1 v3 s0 s = some res) : f_X11_hasPart_54 n (r v0) v1 v3 s0 h = some res := by
  unfold g_X11_hasPart_54 at hm
  unfold f_X11_hasPart_54
  obtain rfl := Option.some.inj hm
  rfl
def g_X11_hasPart_49 (n : Nat) (v0 : Nat) (v1 : Int32) (v3 : Int32) (s : st_T) : Option ((Int32 × Int32) ⊕ (Int32)) :=
  g_X11_hasPart_54 n v0 v1 v3 (1 : Int32) s
set_option maxHeartbeats 1000000 in
theorem t_X11_hasPart_49 {tg r : Nat → Nat} {h : hp_H} {s : st_T} {n : Nat} {v0 : Nat} {v1 : Int32} {v3 : Int32} (I : iso tg r h s) (T_v0 : tg v0 = 21) {res : (Int32 × Int32) ⊕ (Int32)} (hm : g_X11_hasPart_49 n v0 v1 v3 s = some res) : f_X11_hasPart_49 n (r v0) v1 v3 h = some res := by
  unfold g_X11_hasPart_49 at hm
  unfold f_X11_hasPart_49
  exact t_X11_hasPart_54 I T_v0 hm
def g_X11_hasPart_53 (n : Nat) (v0 : Nat) (v1 : Int32) (v3 : Int32) (s : st_T) : Option ((Int32 × Int32) ⊕ (Int32)) :=
  g_X11_hasPart_54 n v0 v1 v3 (0 : Int32) s
set_option maxHeartbeats 1000000 in
theorem t_X11_hasPart_53 {tg r : Nat → Nat} {h : hp_H} {s : st_T} {n : Nat} {v0 : Nat} {v1 : Int32} {v3 : Int32} (I : iso tg r h s) (T_v0 : tg v0 = 21) {res : (Int32 × Int32) ⊕ (Int32)} (hm : g_X11_hasPart_53 n v0 v1 v3 s = some res) : f_X11_hasPart_53 n (r v0) v1 v3 h = some res := by
  unfold g_X11_hasPart_53 at hm
  unfold f_X11_hasPart_53
  exact t_X11_hasPart_54 I T_v0 hm
def g_X11_hasPart_7 (n : Nat) (v0 : Nat) (v1 : Int32) (v2 : Int32) (v3 : Int32) (s : st_T) : Option ((Int32 × Int32) ⊕ (Int32)) :=
  if ((gF s v0 29) + (gF s v0 30)) ≤ (v3 + (1 : Int32)) then
    (hp_bz v2).bind fun _ =>
    some (.inr v2)
  else
    if v2 = 0 then
      (gA s (gP s v0 0) v3).bind fun x3 =>
      if x3 = (36 : Int32) then
        (gA s (gP s v0 0) (v3 + (1 : Int32))).bind fun x5 =>
        if x5 = v1 then
          g_X11_hasPart_49 n v0 v1 v3 s
        else
          g_X11_hasPart_53 n v0 v1 v3 s
      else
        g_X11_hasPart_53 n v0 v1 v3 s
    else
      g_X11_hasPart_49 n v0 v1 v3 s
set_option maxHeartbeats 1000000 in
theorem t_X11_hasPart_7 {tg r : Nat → Nat} {h : hp_H} {s : st_T} {n : Nat} {v0 : Nat} {v1 : Int32} {v2 : Int32} {v3 : Int32} (I : iso tg r h s) (T_v0 : tg v0 = 21) {res : (Int32 × Int32) ⊕ (Int32)} (hm : g_X11_hasPart_7 n v0 v1 v2 v3 s = some res) : f_X11_hasPart_7 n (r v0) v1 v2 v3 h = some res := by
  unfold g_X11_hasPart_7 at hm
  unfold f_X11_hasPart_7
  refine tr_eq0 (t_fI I T_v0 (by decide) (by decide) rfl) ?_
  refine tr_eq0 (t_fI I T_v0 (by decide) (by decide) rfl) ?_
  by_cases c9 : ((gF s v0 29) + (gF s v0 30)) ≤ (v3 + (1 : Int32))
  · rw [if_pos c9] at hm ⊢
    obtain ⟨_, hu1, hm⟩ := hp_bd hm
    refine tr_eq0 hu1 ?_
    obtain rfl := Option.some.inj hm
    rfl
  · rw [if_neg c9] at hm ⊢
    by_cases c8 : v2 = 0
    · rw [if_pos c8] at hm ⊢
      have T2 : tg (gP s v0 0) = 0 := t_tg (c := 11) I T_v0 (by decide) (by decide) rfl (by decide)
      refine tr_eq0 (t_fR I T_v0 (by decide) (by decide) (by decide)) ?_
      obtain ⟨x3, hx3, hm⟩ := hp_bd hm
      refine tr_eq0 (t_aI I T2 (by decide) rfl hx3) ?_
      by_cases c7 : x3 = (36 : Int32)
      · rw [if_pos c7] at hm ⊢
        have T4 : tg (gP s v0 0) = 0 := t_tg (c := 11) I T_v0 (by decide) (by decide) rfl (by decide)
        refine tr_eq0 (t_fR I T_v0 (by decide) (by decide) (by decide)) ?_
        obtain ⟨x5, hx5, hm⟩ := hp_bd hm
        refine tr_eq0 (t_aI I T4 (by decide) rfl hx5) ?_
        by_cases c6 : x5 = v1
        · rw [if_pos c6] at hm ⊢
          exact t_X11_hasPart_49 I T_v0 hm
        · rw [if_neg c6] at hm ⊢
          exact t_X11_hasPart_53 I T_v0 hm
      · rw [if_neg c7] at hm ⊢
        exact t_X11_hasPart_53 I T_v0 hm
    · rw [if_neg c8] at hm ⊢
      exact t_X11_hasPart_49 I T_v0 hm
def gL_X11_hasPart_7 (n : Nat) (v0 : Nat) (v1 : Int32) (s : st_T) (c : Int32 × Int32) : Option ((Int32 × Int32) ⊕ (Int32)) := g_X11_hasPart_7 n v0 v1 c.1 c.2 s
theorem tl_X11_hasPart_7 {tg r : Nat → Nat} {h : hp_H} {s : st_T} {n : Nat} {v0 : Nat} {v1 : Int32} (I : iso tg r h s) (T_v0 : tg v0 = 21) : ∀ (k : Nat) (c : Int32 × Int32) (x : Int32), hp_lp (gL_X11_hasPart_7 n v0 v1 s) k c = some x → hp_lp (fL_X11_hasPart_7 n (r v0) v1 h) k c = some x := by
  intro k
  induction k with
  | zero => intro c x hx; exact (hp_lp_0 hx).elim
  | succ k ih =>
    intro c x hx
    obtain ⟨rr, hr, hc⟩ := hp_lp_1 hx
    have e2 := t_X11_hasPart_7 I T_v0 hr
    rcases hc with ⟨s3, e3, hx3⟩ | e3
    · subst e3
      exact hp_lp_s e2 (ih _ _ hx3)
    · subst e3
      exact hp_lp_x e2
def g_X11_hasPart_0 (n : Nat) (v0 : Nat) (v1 : Int32) (s : st_T) : Option (Int32) :=
  (hp_lp (gL_X11_hasPart_7 n v0 v1 s) n ((0 : Int32), (gF s v0 29))).bind fun x1 =>
  some x1
set_option maxHeartbeats 1000000 in
theorem t_X11_hasPart_0 {tg r : Nat → Nat} {h : hp_H} {s : st_T} {n : Nat} {v0 : Nat} {v1 : Int32} (I : iso tg r h s) (T_v0 : tg v0 = 21) {res : Int32} (hm : g_X11_hasPart_0 n v0 v1 s = some res) : f_X11_hasPart_0 n (r v0) v1 h = some res := by
  unfold g_X11_hasPart_0 at hm
  unfold f_X11_hasPart_0
  refine tr_eq0 (t_fI I T_v0 (by decide) (by decide) rfl) ?_
  obtain ⟨x1, hx1, hm⟩ := hp_bd hm
  refine tr_eq0 (tl_X11_hasPart_7 I T_v0 n _ _ hx1) ?_
  obtain rfl := Option.some.inj hm
  rfl
def g_X11_hasPart (n : Nat) (v0 : Nat) (v1 : Int32) (s : st_T) : Option (Int32) := g_X11_hasPart_0 n v0 v1 s
theorem t_X11_hasPart {tg r : Nat → Nat} {h : hp_H} {s : st_T} {n : Nat} {v0 : Nat} {v1 : Int32} (I : iso tg r h s) (T_v0 : tg v0 = 21) {res : Int32} (hm : g_X11_hasPart n v0 v1 s = some res) : f_X11_hasPart n (r v0) v1 h = some res := by
  unfold g_X11_hasPart at hm
  unfold f_X11_hasPart
  refine tr_eq0 (t_ck I T_v0 (by decide)) ?_
  exact t_X11_hasPart_0 I T_v0 hm
def g_X11_isWord_0 (n : Nat) (v0 : Nat) (v1 : Int32) (s : st_T) : Option (Int32) :=
  if (gF s v0 30) = (2 : Int32) then
    (gA s (gP s v0 0) (gF s v0 29)).bind fun x2 =>
    if x2 = (36 : Int32) then
      (gA s (gP s v0 0) ((gF s v0 29) + (1 : Int32))).bind fun x4 =>
      if x4 = v1 then
        some (1 : Int32)
      else
        some (0 : Int32)
    else
      some (0 : Int32)
  else
    some (0 : Int32)
set_option maxHeartbeats 1000000 in
theorem t_X11_isWord_0 {tg r : Nat → Nat} {h : hp_H} {s : st_T} {n : Nat} {v0 : Nat} {v1 : Int32} (I : iso tg r h s) (T_v0 : tg v0 = 21) {res : Int32} (hm : g_X11_isWord_0 n v0 v1 s = some res) : f_X11_isWord_0 n (r v0) v1 h = some res := by
  unfold g_X11_isWord_0 at hm
  unfold f_X11_isWord_0
  refine tr_eq0 (t_fI I T_v0 (by decide) (by decide) rfl) ?_
  by_cases c7 : (gF s v0 30) = (2 : Int32)
  · rw [if_pos c7] at hm ⊢
    have T1 : tg (gP s v0 0) = 0 := t_tg (c := 11) I T_v0 (by decide) (by decide) rfl (by decide)
    refine tr_eq0 (t_fR I T_v0 (by decide) (by decide) (by decide)) ?_
    refine tr_eq0 (t_fI I T_v0 (by decide) (by decide) rfl) ?_
    obtain ⟨x2, hx2, hm⟩ := hp_bd hm
    refine tr_eq0 (t_aI I T1 (by decide) rfl hx2) ?_
    by_cases c6 : x2 = (36 : Int32)
    · rw [if_pos c6] at hm ⊢
      have T3 : tg (gP s v0 0) = 0 := t_tg (c := 11) I T_v0 (by decide) (by decide) rfl (by decide)
      refine tr_eq0 (t_fR I T_v0 (by decide) (by decide) (by decide)) ?_
      refine tr_eq0 (t_fI I T_v0 (by decide) (by decide) rfl) ?_
      obtain ⟨x4, hx4, hm⟩ := hp_bd hm
      refine tr_eq0 (t_aI I T3 (by decide) rfl hx4) ?_
      by_cases c5 : x4 = v1
      · rw [if_pos c5] at hm ⊢
        obtain rfl := Option.some.inj hm
        rfl
      · rw [if_neg c5] at hm ⊢
        obtain rfl := Option.some.inj hm
        rfl
    · rw [if_neg c6] at hm ⊢
      obtain rfl := Option.some.inj hm
      rfl
  · rw [if_neg c7] at hm ⊢
    obtain rfl := Option.some.inj hm
    rfl
def g_X11_isWord (n : Nat) (v0 : Nat) (v1 : Int32) (s : st_T) : Option (Int32) := g_X11_isWord_0 n v0 v1 s
theorem t_X11_isWord {tg r : Nat → Nat} {h : hp_H} {s : st_T} {n : Nat} {v0 : Nat} {v1 : Int32} (I : iso tg r h s) (T_v0 : tg v0 = 21) {res : Int32} (hm : g_X11_isWord n v0 v1 s = some res) : f_X11_isWord n (r v0) v1 h = some res := by
  unfold g_X11_isWord at hm
  unfold f_X11_isWord
  refine tr_eq0 (t_ck I T_v0 (by decide)) ?_
  exact t_X11_isWord_0 I T_v0 hm
def g_X11_isKeyword_99 (n : Nat) (s : st_T) : Option (Int32) :=
  some (1 : Int32)
set_option maxHeartbeats 1000000 in
theorem t_X11_isKeyword_99 {tg r : Nat → Nat} {h : hp_H} {s : st_T} {n : Nat} (I : iso tg r h s) {res : Int32} (hm : g_X11_isKeyword_99 n  s = some res) : f_X11_isKeyword_99 n  h = some res := by
  unfold g_X11_isKeyword_99 at hm
  unfold f_X11_isKeyword_99
  obtain rfl := Option.some.inj hm
  rfl
def g_X11_isKeyword_0 (n : Nat) (v0 : Nat) (s : st_T) : Option (Int32) :=
  (g_X11_isWord n v0 (99 : Int32) s).bind fun x1 =>
  if x1 = 0 then
    (g_X11_isWord n v0 (118 : Int32) s).bind fun x2 =>
    if x2 = 0 then
      (g_X11_isWord n v0 (102 : Int32) s).bind fun x3 =>
      if x3 = 0 then
        (g_X11_isWord n v0 (101 : Int32) s).bind fun x4 =>
        if x4 = 0 then
          (g_X11_isWord n v0 (100 : Int32) s).bind fun x5 =>
          if x5 = 0 then
            (g_X11_isWord n v0 (97 : Int32) s).bind fun x6 =>
            if x6 = 0 then
              (g_X11_isWord n v0 (112 : Int32) s).bind fun x7 =>
              if x7 = 0 then
                (g_X11_isWord n v0 (61 : Int32) s).bind fun x8 =>
                if x8 = 0 then
                  (g_X11_isWord n v0 (46 : Int32) s).bind fun x9 =>
                  if x9 = 0 then
                    (g_X11_isWord n v0 (123 : Int32) s).bind fun x10 =>
                    if x10 = 0 then
                      (g_X11_isWord n v0 (125 : Int32) s).bind fun x11 =>
                      if x11 = 0 then
                        some (0 : Int32)
                      else
                        g_X11_isKeyword_99 n  s
                    else
                      g_X11_isKeyword_99 n  s
                  else
                    g_X11_isKeyword_99 n  s
                else
                  g_X11_isKeyword_99 n  s
              else
                g_X11_isKeyword_99 n  s
            else
              g_X11_isKeyword_99 n  s
          else
            g_X11_isKeyword_99 n  s
        else
          g_X11_isKeyword_99 n  s
      else
        g_X11_isKeyword_99 n  s
    else
      g_X11_isKeyword_99 n  s
  else
    g_X11_isKeyword_99 n  s
set_option maxHeartbeats 1000000 in
theorem t_X11_isKeyword_0 {tg r : Nat → Nat} {h : hp_H} {s : st_T} {n : Nat} {v0 : Nat} (I : iso tg r h s) (T_v0 : tg v0 = 21) {res : Int32} (hm : g_X11_isKeyword_0 n v0 s = some res) : f_X11_isKeyword_0 n (r v0) h = some res := by
  unfold g_X11_isKeyword_0 at hm
  unfold f_X11_isKeyword_0
  obtain ⟨x1, hx1, hm⟩ := hp_bd hm
  refine tr_eq0 (t_X11_isWord I T_v0 hx1) ?_
  by_cases c22 : x1 = 0
  · rw [if_pos c22] at hm ⊢
    obtain ⟨x2, hx2, hm⟩ := hp_bd hm
    refine tr_eq0 (t_X11_isWord I T_v0 hx2) ?_
    by_cases c21 : x2 = 0
    · rw [if_pos c21] at hm ⊢
      obtain ⟨x3, hx3, hm⟩ := hp_bd hm
      refine tr_eq0 (t_X11_isWord I T_v0 hx3) ?_
      by_cases c20 : x3 = 0
      · rw [if_pos c20] at hm ⊢
        obtain ⟨x4, hx4, hm⟩ := hp_bd hm
        refine tr_eq0 (t_X11_isWord I T_v0 hx4) ?_
        by_cases c19 : x4 = 0
        · rw [if_pos c19] at hm ⊢
          obtain ⟨x5, hx5, hm⟩ := hp_bd hm
          refine tr_eq0 (t_X11_isWord I T_v0 hx5) ?_
          by_cases c18 : x5 = 0
          · rw [if_pos c18] at hm ⊢
            obtain ⟨x6, hx6, hm⟩ := hp_bd hm
            refine tr_eq0 (t_X11_isWord I T_v0 hx6) ?_
            by_cases c17 : x6 = 0
            · rw [if_pos c17] at hm ⊢
              obtain ⟨x7, hx7, hm⟩ := hp_bd hm
              refine tr_eq0 (t_X11_isWord I T_v0 hx7) ?_
              by_cases c16 : x7 = 0
              · rw [if_pos c16] at hm ⊢
                obtain ⟨x8, hx8, hm⟩ := hp_bd hm
                refine tr_eq0 (t_X11_isWord I T_v0 hx8) ?_
                by_cases c15 : x8 = 0
                · rw [if_pos c15] at hm ⊢
                  obtain ⟨x9, hx9, hm⟩ := hp_bd hm
                  refine tr_eq0 (t_X11_isWord I T_v0 hx9) ?_
                  by_cases c14 : x9 = 0
                  · rw [if_pos c14] at hm ⊢
                    obtain ⟨x10, hx10, hm⟩ := hp_bd hm
                    refine tr_eq0 (t_X11_isWord I T_v0 hx10) ?_
                    by_cases c13 : x10 = 0
                    · rw [if_pos c13] at hm ⊢
                      obtain ⟨x11, hx11, hm⟩ := hp_bd hm
                      refine tr_eq0 (t_X11_isWord I T_v0 hx11) ?_
                      by_cases c12 : x11 = 0
                      · rw [if_pos c12] at hm ⊢
                        obtain rfl := Option.some.inj hm
                        rfl
                      · rw [if_neg c12] at hm ⊢
                        exact t_X11_isKeyword_99 I  hm
                    · rw [if_neg c13] at hm ⊢
                      exact t_X11_isKeyword_99 I  hm
                  · rw [if_neg c14] at hm ⊢
                    exact t_X11_isKeyword_99 I  hm
                · rw [if_neg c15] at hm ⊢
                  exact t_X11_isKeyword_99 I  hm
              · rw [if_neg c16] at hm ⊢
                exact t_X11_isKeyword_99 I  hm
            · rw [if_neg c17] at hm ⊢
              exact t_X11_isKeyword_99 I  hm
          · rw [if_neg c18] at hm ⊢
            exact t_X11_isKeyword_99 I  hm
        · rw [if_neg c19] at hm ⊢
          exact t_X11_isKeyword_99 I  hm
      · rw [if_neg c20] at hm ⊢
        exact t_X11_isKeyword_99 I  hm
    · rw [if_neg c21] at hm ⊢
      exact t_X11_isKeyword_99 I  hm
  · rw [if_neg c22] at hm ⊢
    exact t_X11_isKeyword_99 I  hm
def g_X11_isKeyword (n : Nat) (v0 : Nat) (s : st_T) : Option (Int32) := g_X11_isKeyword_0 n v0 s
theorem t_X11_isKeyword {tg r : Nat → Nat} {h : hp_H} {s : st_T} {n : Nat} {v0 : Nat} (I : iso tg r h s) (T_v0 : tg v0 = 21) {res : Int32} (hm : g_X11_isKeyword n v0 s = some res) : f_X11_isKeyword n (r v0) h = some res := by
  unfold g_X11_isKeyword at hm
  unfold f_X11_isKeyword
  refine tr_eq0 (t_ck I T_v0 (by decide)) ?_
  exact t_X11_isKeyword_0 I T_v0 hm
def g_X11_isLabel_102 (n : Nat) (v0 : Nat) (v2 : Int32) (s0 : Int32) (s : st_T) : Option ((Int32 × Int32) ⊕ (Int32)) :=
  some (.inl (s0, (v2 + (1 : Int32))))
set_option maxHeartbeats 1000000 in
theorem t_X11_isLabel_102 {tg r : Nat → Nat} {h : hp_H} {s : st_T} {n : Nat} {v0 : Nat} {v2 : Int32} {s0 : Int32} (I : iso tg r h s) (T_v0 : tg v0 = 21) {res : (Int32 × Int32) ⊕ (Int32)} (hm : g_X11_isLabel_102 n v0 v2 s0 s = some res) : f_X11_isLabel_102 n (r v0) v2 s0 h = some res := by
  unfold g_X11_isLabel_102 at hm
  unfold f_X11_isLabel_102
  obtain rfl := Option.some.inj hm
  rfl
def g_X11_isLabel_101 (n : Nat) (v0 : Nat) (v2 : Int32) (s : st_T) : Option ((Int32 × Int32) ⊕ (Int32)) :=
  g_X11_isLabel_102 n v0 v2 (0 : Int32) s
set_option maxHeartbeats 1000000 in
theorem t_X11_isLabel_101 {tg r : Nat → Nat} {h : hp_H} {s : st_T} {n : Nat} {v0 : Nat} {v2 : Int32} (I : iso tg r h s) (T_v0 : tg v0 = 21) {res : (Int32 × Int32) ⊕ (Int32)} (hm : g_X11_isLabel_101 n v0 v2 s = some res) : f_X11_isLabel_101 n (r v0) v2 h = some res := by
  unfold g_X11_isLabel_101 at hm
  unfold f_X11_isLabel_101
  exact t_X11_isLabel_102 I T_v0 hm
def g_X11_isLabel_86 (n : Nat) (v0 : Nat) (v1 : Int32) (v2 : Int32) (s0 : Int32) (s : st_T) : Option ((Int32 × Int32) ⊕ (Int32)) :=
  if v1 = 0 then
    g_X11_isLabel_101 n v0 v2 s
  else
    if s0 = 0 then
      g_X11_isLabel_101 n v0 v2 s
    else
      g_X11_isLabel_102 n v0 v2 (1 : Int32) s
set_option maxHeartbeats 1000000 in
theorem t_X11_isLabel_86 {tg r : Nat → Nat} {h : hp_H} {s : st_T} {n : Nat} {v0 : Nat} {v1 : Int32} {v2 : Int32} {s0 : Int32} (I : iso tg r h s) (T_v0 : tg v0 = 21) {res : (Int32 × Int32) ⊕ (Int32)} (hm : g_X11_isLabel_86 n v0 v1 v2 s0 s = some res) : f_X11_isLabel_86 n (r v0) v1 v2 s0 h = some res := by
  unfold g_X11_isLabel_86 at hm
  unfold f_X11_isLabel_86
  by_cases c2 : v1 = 0
  · rw [if_pos c2] at hm ⊢
    exact t_X11_isLabel_101 I T_v0 hm
  · rw [if_neg c2] at hm ⊢
    by_cases c1 : s0 = 0
    · rw [if_pos c1] at hm ⊢
      exact t_X11_isLabel_101 I T_v0 hm
    · rw [if_neg c1] at hm ⊢
      exact t_X11_isLabel_102 I T_v0 hm
def g_X11_isLabel_81 (n : Nat) (v0 : Nat) (v1 : Int32) (v2 : Int32) (s : st_T) : Option ((Int32 × Int32) ⊕ (Int32)) :=
  g_X11_isLabel_86 n v0 v1 v2 (1 : Int32) s
set_option maxHeartbeats 1000000 in
theorem t_X11_isLabel_81 {tg r : Nat → Nat} {h : hp_H} {s : st_T} {n : Nat} {v0 : Nat} {v1 : Int32} {v2 : Int32} (I : iso tg r h s) (T_v0 : tg v0 = 21) {res : (Int32 × Int32) ⊕ (Int32)} (hm : g_X11_isLabel_81 n v0 v1 v2 s = some res) : f_X11_isLabel_81 n (r v0) v1 v2 h = some res := by
  unfold g_X11_isLabel_81 at hm
  unfold f_X11_isLabel_81
  exact t_X11_isLabel_86 I T_v0 hm
def g_X11_isLabel_63 (n : Nat) (v0 : Nat) (v1 : Int32) (v2 : Int32) (v3 : Int32) (s : st_T) : Option ((Int32 × Int32) ⊕ (Int32)) :=
  if v3 = (46 : Int32) then
    g_X11_isLabel_81 n v0 v1 v2 s
  else
    if v3 = (45 : Int32) then
      g_X11_isLabel_81 n v0 v1 v2 s
    else
      if v3 = (95 : Int32) then
        g_X11_isLabel_81 n v0 v1 v2 s
      else
        g_X11_isLabel_86 n v0 v1 v2 (0 : Int32) s
set_option maxHeartbeats 1000000 in
theorem t_X11_isLabel_63 {tg r : Nat → Nat} {h : hp_H} {s : st_T} {n : Nat} {v0 : Nat} {v1 : Int32} {v2 : Int32} {v3 : Int32} (I : iso tg r h s) (T_v0 : tg v0 = 21) {res : (Int32 × Int32) ⊕ (Int32)} (hm : g_X11_isLabel_63 n v0 v1 v2 v3 s = some res) : f_X11_isLabel_63 n (r v0) v1 v2 v3 h = some res := by
  unfold g_X11_isLabel_63 at hm
  unfold f_X11_isLabel_63
  by_cases c3 : v3 = (46 : Int32)
  · rw [if_pos c3] at hm ⊢
    exact t_X11_isLabel_81 I T_v0 hm
  · rw [if_neg c3] at hm ⊢
    by_cases c2 : v3 = (45 : Int32)
    · rw [if_pos c2] at hm ⊢
      exact t_X11_isLabel_81 I T_v0 hm
    · rw [if_neg c2] at hm ⊢
      by_cases c1 : v3 = (95 : Int32)
      · rw [if_pos c1] at hm ⊢
        exact t_X11_isLabel_81 I T_v0 hm
      · rw [if_neg c1] at hm ⊢
        exact t_X11_isLabel_86 I T_v0 hm
def g_X11_isLabel_51 (n : Nat) (v0 : Nat) (v1 : Int32) (v2 : Int32) (v3 : Int32) (s : st_T) : Option ((Int32 × Int32) ⊕ (Int32)) :=
  if v3 < (48 : Int32) then
    g_X11_isLabel_63 n v0 v1 v2 v3 s
  else
    if v3 ≤ (57 : Int32) then
      g_X11_isLabel_81 n v0 v1 v2 s
    else
      g_X11_isLabel_63 n v0 v1 v2 v3 s
set_option maxHeartbeats 1000000 in
theorem t_X11_isLabel_51 {tg r : Nat → Nat} {h : hp_H} {s : st_T} {n : Nat} {v0 : Nat} {v1 : Int32} {v2 : Int32} {v3 : Int32} (I : iso tg r h s) (T_v0 : tg v0 = 21) {res : (Int32 × Int32) ⊕ (Int32)} (hm : g_X11_isLabel_51 n v0 v1 v2 v3 s = some res) : f_X11_isLabel_51 n (r v0) v1 v2 v3 h = some res := by
  unfold g_X11_isLabel_51 at hm
  unfold f_X11_isLabel_51
  by_cases c2 : v3 < (48 : Int32)
  · rw [if_pos c2] at hm ⊢
    exact t_X11_isLabel_63 I T_v0 hm
  · rw [if_neg c2] at hm ⊢
    by_cases c1 : v3 ≤ (57 : Int32)
    · rw [if_pos c1] at hm ⊢
      exact t_X11_isLabel_81 I T_v0 hm
    · rw [if_neg c1] at hm ⊢
      exact t_X11_isLabel_63 I T_v0 hm
def g_X11_isLabel_39 (n : Nat) (v0 : Nat) (v1 : Int32) (v2 : Int32) (v3 : Int32) (s : st_T) : Option ((Int32 × Int32) ⊕ (Int32)) :=
  if v3 < (65 : Int32) then
    g_X11_isLabel_51 n v0 v1 v2 v3 s
  else
    if v3 ≤ (90 : Int32) then
      g_X11_isLabel_81 n v0 v1 v2 s
    else
      g_X11_isLabel_51 n v0 v1 v2 v3 s
set_option maxHeartbeats 1000000 in
theorem t_X11_isLabel_39 {tg r : Nat → Nat} {h : hp_H} {s : st_T} {n : Nat} {v0 : Nat} {v1 : Int32} {v2 : Int32} {v3 : Int32} (I : iso tg r h s) (T_v0 : tg v0 = 21) {res : (Int32 × Int32) ⊕ (Int32)} (hm : g_X11_isLabel_39 n v0 v1 v2 v3 s = some res) : f_X11_isLabel_39 n (r v0) v1 v2 v3 h = some res := by
  unfold g_X11_isLabel_39 at hm
  unfold f_X11_isLabel_39
  by_cases c2 : v3 < (65 : Int32)
  · rw [if_pos c2] at hm ⊢
    exact t_X11_isLabel_51 I T_v0 hm
  · rw [if_neg c2] at hm ⊢
    by_cases c1 : v3 ≤ (90 : Int32)
    · rw [if_pos c1] at hm ⊢
      exact t_X11_isLabel_81 I T_v0 hm
    · rw [if_neg c1] at hm ⊢
      exact t_X11_isLabel_51 I T_v0 hm
def g_X11_isLabel_7 (n : Nat) (v0 : Nat) (v1 : Int32) (v2 : Int32) (s : st_T) : Option ((Int32 × Int32) ⊕ (Int32)) :=
  if ((gF s v0 29) + (gF s v0 30)) ≤ v2 then
    (hp_bz v1).bind fun _ =>
    some (.inr v1)
  else
    (gA s (gP s v0 0) v2).bind fun x3 =>
    if x3 < (97 : Int32) then
      g_X11_isLabel_39 n v0 v1 v2 x3 s
    else
      if x3 ≤ (122 : Int32) then
        g_X11_isLabel_81 n v0 v1 v2 s
      else
        g_X11_isLabel_39 n v0 v1 v2 x3 s
set_option maxHeartbeats 1000000 in
theorem t_X11_isLabel_7 {tg r : Nat → Nat} {h : hp_H} {s : st_T} {n : Nat} {v0 : Nat} {v1 : Int32} {v2 : Int32} (I : iso tg r h s) (T_v0 : tg v0 = 21) {res : (Int32 × Int32) ⊕ (Int32)} (hm : g_X11_isLabel_7 n v0 v1 v2 s = some res) : f_X11_isLabel_7 n (r v0) v1 v2 h = some res := by
  unfold g_X11_isLabel_7 at hm
  unfold f_X11_isLabel_7
  refine tr_eq0 (t_fI I T_v0 (by decide) (by decide) rfl) ?_
  refine tr_eq0 (t_fI I T_v0 (by decide) (by decide) rfl) ?_
  by_cases c6 : ((gF s v0 29) + (gF s v0 30)) ≤ v2
  · rw [if_pos c6] at hm ⊢
    obtain ⟨_, hu1, hm⟩ := hp_bd hm
    refine tr_eq0 hu1 ?_
    obtain rfl := Option.some.inj hm
    rfl
  · rw [if_neg c6] at hm ⊢
    have T2 : tg (gP s v0 0) = 0 := t_tg (c := 11) I T_v0 (by decide) (by decide) rfl (by decide)
    refine tr_eq0 (t_fR I T_v0 (by decide) (by decide) (by decide)) ?_
    obtain ⟨x3, hx3, hm⟩ := hp_bd hm
    refine tr_eq0 (t_aI I T2 (by decide) rfl hx3) ?_
    by_cases c5 : x3 < (97 : Int32)
    · rw [if_pos c5] at hm ⊢
      exact t_X11_isLabel_39 I T_v0 hm
    · rw [if_neg c5] at hm ⊢
      by_cases c4 : x3 ≤ (122 : Int32)
      · rw [if_pos c4] at hm ⊢
        exact t_X11_isLabel_81 I T_v0 hm
      · rw [if_neg c4] at hm ⊢
        exact t_X11_isLabel_39 I T_v0 hm
def gL_X11_isLabel_7 (n : Nat) (v0 : Nat) (s : st_T) (c : Int32 × Int32) : Option ((Int32 × Int32) ⊕ (Int32)) := g_X11_isLabel_7 n v0 c.1 c.2 s
theorem tl_X11_isLabel_7 {tg r : Nat → Nat} {h : hp_H} {s : st_T} {n : Nat} {v0 : Nat} (I : iso tg r h s) (T_v0 : tg v0 = 21) : ∀ (k : Nat) (c : Int32 × Int32) (x : Int32), hp_lp (gL_X11_isLabel_7 n v0 s) k c = some x → hp_lp (fL_X11_isLabel_7 n (r v0) h) k c = some x := by
  intro k
  induction k with
  | zero => intro c x hx; exact (hp_lp_0 hx).elim
  | succ k ih =>
    intro c x hx
    obtain ⟨rr, hr, hc⟩ := hp_lp_1 hx
    have e2 := t_X11_isLabel_7 I T_v0 hr
    rcases hc with ⟨s3, e3, hx3⟩ | e3
    · subst e3
      exact hp_lp_s e2 (ih _ _ hx3)
    · subst e3
      exact hp_lp_x e2
def g_X11_isLabel_0 (n : Nat) (v0 : Nat) (s : st_T) : Option (Int32) :=
  (hp_lp (gL_X11_isLabel_7 n v0 s) n ((1 : Int32), (gF s v0 29))).bind fun x1 =>
  some x1
set_option maxHeartbeats 1000000 in
theorem t_X11_isLabel_0 {tg r : Nat → Nat} {h : hp_H} {s : st_T} {n : Nat} {v0 : Nat} (I : iso tg r h s) (T_v0 : tg v0 = 21) {res : Int32} (hm : g_X11_isLabel_0 n v0 s = some res) : f_X11_isLabel_0 n (r v0) h = some res := by
  unfold g_X11_isLabel_0 at hm
  unfold f_X11_isLabel_0
  refine tr_eq0 (t_fI I T_v0 (by decide) (by decide) rfl) ?_
  obtain ⟨x1, hx1, hm⟩ := hp_bd hm
  refine tr_eq0 (tl_X11_isLabel_7 I T_v0 n _ _ hx1) ?_
  obtain rfl := Option.some.inj hm
  rfl
def g_X11_isLabel (n : Nat) (v0 : Nat) (s : st_T) : Option (Int32) := g_X11_isLabel_0 n v0 s
theorem t_X11_isLabel {tg r : Nat → Nat} {h : hp_H} {s : st_T} {n : Nat} {v0 : Nat} (I : iso tg r h s) (T_v0 : tg v0 = 21) {res : Int32} (hm : g_X11_isLabel n v0 s = some res) : f_X11_isLabel n (r v0) h = some res := by
  unfold g_X11_isLabel at hm
  unfold f_X11_isLabel
  refine tr_eq0 (t_ck I T_v0 (by decide)) ?_
  exact t_X11_isLabel_0 I T_v0 hm
def g_X11_same_59 (n : Nat) (v0 : Nat) (v1 : Int32) (v4 : Int32) (s0 : Int32) (s : st_T) : Option ((Int32 × Int32) ⊕ (Int32)) :=
  some (.inl (s0, (v4 + (1 : Int32))))
set_option maxHeartbeats 1000000 in
theorem t_X11_same_59 {tg r : Nat → Nat} {h : hp_H} {s : st_T} {n : Nat} {v0 : Nat} {v1 : Int32} {v4 : Int32} {s0 : Int32} (I : iso tg r h s) (T_v0 : tg v0 = 21) {res : (Int32 × Int32) ⊕ (Int32)} (hm : g_X11_same_59 n v0 v1 v4 s0 s = some res) : f_X11_same_59 n (r v0) v1 v4 s0 h = some res := by
  unfold g_X11_same_59 at hm
  unfold f_X11_same_59
  obtain rfl := Option.some.inj hm
  rfl
def g_X11_same_17 (n : Nat) (v0 : Nat) (v1 : Int32) (v3 : Int32) (v4 : Int32) (s : st_T) : Option ((Int32 × Int32) ⊕ (Int32)) :=
  if (gF s v0 30) ≤ v4 then
    (hp_bz v3).bind fun _ =>
    some (.inr v3)
  else
    if v3 = 0 then
      (hp_bz v3).bind fun _ =>
      some (.inr v3)
    else
      (gA s (gP s v0 0) ((gF s v0 29) + v4)).bind fun x4 =>
      (gA s (gP s v0 0) (v1 + v4)).bind fun x6 =>
      if x4 = x6 then
        g_X11_same_59 n v0 v1 v4 (1 : Int32) s
      else
        g_X11_same_59 n v0 v1 v4 (0 : Int32) s
set_option maxHeartbeats 1000000 in
theorem t_X11_same_17 {tg r : Nat → Nat} {h : hp_H} {s : st_T} {n : Nat} {v0 : Nat} {v1 : Int32} {v3 : Int32} {v4 : Int32} (I : iso tg r h s) (T_v0 : tg v0 = 21) {res : (Int32 × Int32) ⊕ (Int32)} (hm : g_X11_same_17 n v0 v1 v3 v4 s = some res) : f_X11_same_17 n (r v0) v1 v3 v4 h = some res := by
  unfold g_X11_same_17 at hm
  unfold f_X11_same_17
  refine tr_eq0 (t_fI I T_v0 (by decide) (by decide) rfl) ?_
  by_cases c9 : (gF s v0 30) ≤ v4
  · rw [if_pos c9] at hm ⊢
    obtain ⟨_, hu1, hm⟩ := hp_bd hm
    refine tr_eq0 hu1 ?_
    obtain rfl := Option.some.inj hm
    rfl
  · rw [if_neg c9] at hm ⊢
    by_cases c8 : v3 = 0
    · rw [if_pos c8] at hm ⊢
      obtain ⟨_, hu2, hm⟩ := hp_bd hm
      refine tr_eq0 hu2 ?_
      obtain rfl := Option.some.inj hm
      rfl
    · rw [if_neg c8] at hm ⊢
      have T3 : tg (gP s v0 0) = 0 := t_tg (c := 11) I T_v0 (by decide) (by decide) rfl (by decide)
      refine tr_eq0 (t_fR I T_v0 (by decide) (by decide) (by decide)) ?_
      refine tr_eq0 (t_fI I T_v0 (by decide) (by decide) rfl) ?_
      obtain ⟨x4, hx4, hm⟩ := hp_bd hm
      refine tr_eq0 (t_aI I T3 (by decide) rfl hx4) ?_
      have T5 : tg (gP s v0 0) = 0 := t_tg (c := 11) I T_v0 (by decide) (by decide) rfl (by decide)
      refine tr_eq0 (t_fR I T_v0 (by decide) (by decide) (by decide)) ?_
      obtain ⟨x6, hx6, hm⟩ := hp_bd hm
      refine tr_eq0 (t_aI I T5 (by decide) rfl hx6) ?_
      by_cases c7 : x4 = x6
      · rw [if_pos c7] at hm ⊢
        exact t_X11_same_59 I T_v0 hm
      · rw [if_neg c7] at hm ⊢
        exact t_X11_same_59 I T_v0 hm
def gL_X11_same_17 (n : Nat) (v0 : Nat) (v1 : Int32) (s : st_T) (c : Int32 × Int32) : Option ((Int32 × Int32) ⊕ (Int32)) := g_X11_same_17 n v0 v1 c.1 c.2 s
theorem tl_X11_same_17 {tg r : Nat → Nat} {h : hp_H} {s : st_T} {n : Nat} {v0 : Nat} {v1 : Int32} (I : iso tg r h s) (T_v0 : tg v0 = 21) : ∀ (k : Nat) (c : Int32 × Int32) (x : Int32), hp_lp (gL_X11_same_17 n v0 v1 s) k c = some x → hp_lp (fL_X11_same_17 n (r v0) v1 h) k c = some x := by
  intro k
  induction k with
  | zero => intro c x hx; exact (hp_lp_0 hx).elim
  | succ k ih =>
    intro c x hx
    obtain ⟨rr, hr, hc⟩ := hp_lp_1 hx
    have e2 := t_X11_same_17 I T_v0 hr
    rcases hc with ⟨s3, e3, hx3⟩ | e3
    · subst e3
      exact hp_lp_s e2 (ih _ _ hx3)
    · subst e3
      exact hp_lp_x e2
def g_X11_same_13 (n : Nat) (v0 : Nat) (v1 : Int32) (s0 : Int32) (s : st_T) : Option (Int32) :=
  (hp_lp (gL_X11_same_17 n v0 v1 s) n (s0, (0 : Int32))).bind fun x1 =>
  some x1
set_option maxHeartbeats 1000000 in
theorem t_X11_same_13 {tg r : Nat → Nat} {h : hp_H} {s : st_T} {n : Nat} {v0 : Nat} {v1 : Int32} {s0 : Int32} (I : iso tg r h s) (T_v0 : tg v0 = 21) {res : Int32} (hm : g_X11_same_13 n v0 v1 s0 s = some res) : f_X11_same_13 n (r v0) v1 s0 h = some res := by
  unfold g_X11_same_13 at hm
  unfold f_X11_same_13
  obtain ⟨x1, hx1, hm⟩ := hp_bd hm
  refine tr_eq0 (tl_X11_same_17 I T_v0 n _ _ hx1) ?_
  obtain rfl := Option.some.inj hm
  rfl
def g_X11_same_0 (n : Nat) (v0 : Nat) (v1 : Int32) (v2 : Int32) (s : st_T) : Option (Int32) :=
  if v2 = (gF s v0 30) then
    g_X11_same_13 n v0 v1 (1 : Int32) s
  else
    g_X11_same_13 n v0 v1 (0 : Int32) s
set_option maxHeartbeats 1000000 in
theorem t_X11_same_0 {tg r : Nat → Nat} {h : hp_H} {s : st_T} {n : Nat} {v0 : Nat} {v1 : Int32} {v2 : Int32} (I : iso tg r h s) (T_v0 : tg v0 = 21) {res : Int32} (hm : g_X11_same_0 n v0 v1 v2 s = some res) : f_X11_same_0 n (r v0) v1 v2 h = some res := by
  unfold g_X11_same_0 at hm
  unfold f_X11_same_0
  refine tr_eq0 (t_fI I T_v0 (by decide) (by decide) rfl) ?_
  by_cases c1 : v2 = (gF s v0 30)
  · rw [if_pos c1] at hm ⊢
    exact t_X11_same_13 I T_v0 hm
  · rw [if_neg c1] at hm ⊢
    exact t_X11_same_13 I T_v0 hm
def g_X11_same (n : Nat) (v0 : Nat) (v1 : Int32) (v2 : Int32) (s : st_T) : Option (Int32) := g_X11_same_0 n v0 v1 v2 s
theorem t_X11_same {tg r : Nat → Nat} {h : hp_H} {s : st_T} {n : Nat} {v0 : Nat} {v1 : Int32} {v2 : Int32} (I : iso tg r h s) (T_v0 : tg v0 = 21) {res : Int32} (hm : g_X11_same n v0 v1 v2 s = some res) : f_X11_same n (r v0) v1 v2 h = some res := by
  unfold g_X11_same at hm
  unfold f_X11_same
  refine tr_eq0 (t_ck I T_v0 (by decide)) ?_
  exact t_X11_same_0 I T_v0 hm
def g_X11_symbolHere_2 (n : Nat) (v0 : Nat) (v1 : Int32) (s : st_T) : Option ((Int32) ⊕ (Int32)) :=
  (gA s (gP s v0 9) (gF s v0 32)).bind fun x2 =>
  if x2 ≤ v1 then
    some (.inr (-1 : Int32))
  else
    (gA s (gP s v0 6) (((300 : Int32) * (gF s v0 32)) + v1)).bind fun x4 =>
    (gA s (gP s v0 7) (((300 : Int32) * (gF s v0 32)) + v1)).bind fun x6 =>
    (g_X11_same n v0 x4 x6 s).bind fun x7 =>
    if x7 = 0 then
      some (.inl (v1 + (1 : Int32)))
    else
      some (.inr v1)
set_option maxHeartbeats 1000000 in
theorem t_X11_symbolHere_2 {tg r : Nat → Nat} {h : hp_H} {s : st_T} {n : Nat} {v0 : Nat} {v1 : Int32} (I : iso tg r h s) (T_v0 : tg v0 = 21) {res : (Int32) ⊕ (Int32)} (hm : g_X11_symbolHere_2 n v0 v1 s = some res) : f_X11_symbolHere_2 n (r v0) v1 h = some res := by
  unfold g_X11_symbolHere_2 at hm
  unfold f_X11_symbolHere_2
  have T1 : tg (gP s v0 9) = 0 := t_tg (c := 11) I T_v0 (by decide) (by decide) rfl (by decide)
  refine tr_eq0 (t_fR I T_v0 (by decide) (by decide) (by decide)) ?_
  refine tr_eq0 (t_fI I T_v0 (by decide) (by decide) rfl) ?_
  obtain ⟨x2, hx2, hm⟩ := hp_bd hm
  refine tr_eq0 (t_aI I T1 (by decide) rfl hx2) ?_
  by_cases c9 : x2 ≤ v1
  · rw [if_pos c9] at hm ⊢
    obtain rfl := Option.some.inj hm
    rfl
  · rw [if_neg c9] at hm ⊢
    have T3 : tg (gP s v0 6) = 0 := t_tg (c := 11) I T_v0 (by decide) (by decide) rfl (by decide)
    refine tr_eq0 (t_fR I T_v0 (by decide) (by decide) (by decide)) ?_
    refine tr_eq0 (t_fI I T_v0 (by decide) (by decide) rfl) ?_
    obtain ⟨x4, hx4, hm⟩ := hp_bd hm
    refine tr_eq0 (t_aI I T3 (by decide) rfl hx4) ?_
    have T5 : tg (gP s v0 7) = 0 := t_tg (c := 11) I T_v0 (by decide) (by decide) rfl (by decide)
    refine tr_eq0 (t_fR I T_v0 (by decide) (by decide) (by decide)) ?_
    refine tr_eq0 (t_fI I T_v0 (by decide) (by decide) rfl) ?_
    obtain ⟨x6, hx6, hm⟩ := hp_bd hm
    refine tr_eq0 (t_aI I T5 (by decide) rfl hx6) ?_
    obtain ⟨x7, hx7, hm⟩ := hp_bd hm
    refine tr_eq0 (t_X11_same I T_v0 hx7) ?_
    by_cases c8 : x7 = 0
    · rw [if_pos c8] at hm ⊢
      obtain rfl := Option.some.inj hm
      rfl
    · rw [if_neg c8] at hm ⊢
      obtain rfl := Option.some.inj hm
      rfl
def gL_X11_symbolHere_2 (n : Nat) (v0 : Nat) (s : st_T) (c : Int32) : Option ((Int32) ⊕ (Int32)) := g_X11_symbolHere_2 n v0 c s
theorem tl_X11_symbolHere_2 {tg r : Nat → Nat} {h : hp_H} {s : st_T} {n : Nat} {v0 : Nat} (I : iso tg r h s) (T_v0 : tg v0 = 21) : ∀ (k : Nat) (c : Int32) (x : Int32), hp_lp (gL_X11_symbolHere_2 n v0 s) k c = some x → hp_lp (fL_X11_symbolHere_2 n (r v0) h) k c = some x := by
  intro k
  induction k with
  | zero => intro c x hx; exact (hp_lp_0 hx).elim
  | succ k ih =>
    intro c x hx
    obtain ⟨rr, hr, hc⟩ := hp_lp_1 hx
    have e2 := t_X11_symbolHere_2 I T_v0 hr
    rcases hc with ⟨s3, e3, hx3⟩ | e3
    · subst e3
      exact hp_lp_s e2 (ih _ _ hx3)
    · subst e3
      exact hp_lp_x e2
def g_X11_symbolHere_0 (n : Nat) (v0 : Nat) (s : st_T) : Option (Int32) :=
  (hp_lp (gL_X11_symbolHere_2 n v0 s) n (0 : Int32)).bind fun x1 =>
  some x1
set_option maxHeartbeats 1000000 in
theorem t_X11_symbolHere_0 {tg r : Nat → Nat} {h : hp_H} {s : st_T} {n : Nat} {v0 : Nat} (I : iso tg r h s) (T_v0 : tg v0 = 21) {res : Int32} (hm : g_X11_symbolHere_0 n v0 s = some res) : f_X11_symbolHere_0 n (r v0) h = some res := by
  unfold g_X11_symbolHere_0 at hm
  unfold f_X11_symbolHere_0
  obtain ⟨x1, hx1, hm⟩ := hp_bd hm
  refine tr_eq0 (tl_X11_symbolHere_2 I T_v0 n _ _ hx1) ?_
  obtain rfl := Option.some.inj hm
  rfl
def g_X11_symbolHere (n : Nat) (v0 : Nat) (s : st_T) : Option (Int32) := g_X11_symbolHere_0 n v0 s
theorem t_X11_symbolHere {tg r : Nat → Nat} {h : hp_H} {s : st_T} {n : Nat} {v0 : Nat} (I : iso tg r h s) (T_v0 : tg v0 = 21) {res : Int32} (hm : g_X11_symbolHere n v0 s = some res) : f_X11_symbolHere n (r v0) h = some res := by
  unfold g_X11_symbolHere at hm
  unfold f_X11_symbolHere
  refine tr_eq0 (t_ck I T_v0 (by decide)) ?_
  exact t_X11_symbolHere_0 I T_v0 hm
def g_X11_labelHere_2 (n : Nat) (v0 : Nat) (v1 : Int32) (s : st_T) : Option ((Int32) ⊕ (Int32)) :=
  (gA s (gP s v0 18) (gF s v0 32)).bind fun x2 =>
  if x2 ≤ v1 then
    some (.inr (-1 : Int32))
  else
    (gA s (gP s v0 11) (((200 : Int32) * (gF s v0 32)) + v1)).bind fun x4 =>
    (gA s (gP s v0 12) (((200 : Int32) * (gF s v0 32)) + v1)).bind fun x6 =>
    (g_X11_same n v0 x4 x6 s).bind fun x7 =>
    if x7 = 0 then
      some (.inl (v1 + (1 : Int32)))
    else
      some (.inr v1)
set_option maxHeartbeats 1000000 in
theorem t_X11_labelHere_2 {tg r : Nat → Nat} {h : hp_H} {s : st_T} {n : Nat} {v0 : Nat} {v1 : Int32} (I : iso tg r h s) (T_v0 : tg v0 = 21) {res : (Int32) ⊕ (Int32)} (hm : g_X11_labelHere_2 n v0 v1 s = some res) : f_X11_labelHere_2 n (r v0) v1 h = some res := by
  unfold g_X11_labelHere_2 at hm
  unfold f_X11_labelHere_2
  have T1 : tg (gP s v0 18) = 0 := t_tg (c := 11) I T_v0 (by decide) (by decide) rfl (by decide)
  refine tr_eq0 (t_fR I T_v0 (by decide) (by decide) (by decide)) ?_
  refine tr_eq0 (t_fI I T_v0 (by decide) (by decide) rfl) ?_
  obtain ⟨x2, hx2, hm⟩ := hp_bd hm
  refine tr_eq0 (t_aI I T1 (by decide) rfl hx2) ?_
  by_cases c9 : x2 ≤ v1
  · rw [if_pos c9] at hm ⊢
    obtain rfl := Option.some.inj hm
    rfl
  · rw [if_neg c9] at hm ⊢
    have T3 : tg (gP s v0 11) = 0 := t_tg (c := 11) I T_v0 (by decide) (by decide) rfl (by decide)
    refine tr_eq0 (t_fR I T_v0 (by decide) (by decide) (by decide)) ?_
    refine tr_eq0 (t_fI I T_v0 (by decide) (by decide) rfl) ?_
    obtain ⟨x4, hx4, hm⟩ := hp_bd hm
    refine tr_eq0 (t_aI I T3 (by decide) rfl hx4) ?_
    have T5 : tg (gP s v0 12) = 0 := t_tg (c := 11) I T_v0 (by decide) (by decide) rfl (by decide)
    refine tr_eq0 (t_fR I T_v0 (by decide) (by decide) (by decide)) ?_
    refine tr_eq0 (t_fI I T_v0 (by decide) (by decide) rfl) ?_
    obtain ⟨x6, hx6, hm⟩ := hp_bd hm
    refine tr_eq0 (t_aI I T5 (by decide) rfl hx6) ?_
    obtain ⟨x7, hx7, hm⟩ := hp_bd hm
    refine tr_eq0 (t_X11_same I T_v0 hx7) ?_
    by_cases c8 : x7 = 0
    · rw [if_pos c8] at hm ⊢
      obtain rfl := Option.some.inj hm
      rfl
    · rw [if_neg c8] at hm ⊢
      obtain rfl := Option.some.inj hm
      rfl
def gL_X11_labelHere_2 (n : Nat) (v0 : Nat) (s : st_T) (c : Int32) : Option ((Int32) ⊕ (Int32)) := g_X11_labelHere_2 n v0 c s
theorem tl_X11_labelHere_2 {tg r : Nat → Nat} {h : hp_H} {s : st_T} {n : Nat} {v0 : Nat} (I : iso tg r h s) (T_v0 : tg v0 = 21) : ∀ (k : Nat) (c : Int32) (x : Int32), hp_lp (gL_X11_labelHere_2 n v0 s) k c = some x → hp_lp (fL_X11_labelHere_2 n (r v0) h) k c = some x := by
  intro k
  induction k with
  | zero => intro c x hx; exact (hp_lp_0 hx).elim
  | succ k ih =>
    intro c x hx
    obtain ⟨rr, hr, hc⟩ := hp_lp_1 hx
    have e2 := t_X11_labelHere_2 I T_v0 hr
    rcases hc with ⟨s3, e3, hx3⟩ | e3
    · subst e3
      exact hp_lp_s e2 (ih _ _ hx3)
    · subst e3
      exact hp_lp_x e2
def g_X11_labelHere_0 (n : Nat) (v0 : Nat) (s : st_T) : Option (Int32) :=
  (hp_lp (gL_X11_labelHere_2 n v0 s) n (0 : Int32)).bind fun x1 =>
  some x1
set_option maxHeartbeats 1000000 in
theorem t_X11_labelHere_0 {tg r : Nat → Nat} {h : hp_H} {s : st_T} {n : Nat} {v0 : Nat} (I : iso tg r h s) (T_v0 : tg v0 = 21) {res : Int32} (hm : g_X11_labelHere_0 n v0 s = some res) : f_X11_labelHere_0 n (r v0) h = some res := by
  unfold g_X11_labelHere_0 at hm
  unfold f_X11_labelHere_0
  obtain ⟨x1, hx1, hm⟩ := hp_bd hm
  refine tr_eq0 (tl_X11_labelHere_2 I T_v0 n _ _ hx1) ?_
  obtain rfl := Option.some.inj hm
  rfl
def g_X11_labelHere (n : Nat) (v0 : Nat) (s : st_T) : Option (Int32) := g_X11_labelHere_0 n v0 s
theorem t_X11_labelHere {tg r : Nat → Nat} {h : hp_H} {s : st_T} {n : Nat} {v0 : Nat} (I : iso tg r h s) (T_v0 : tg v0 = 21) {res : Int32} (hm : g_X11_labelHere n v0 s = some res) : f_X11_labelHere n (r v0) h = some res := by
  unfold g_X11_labelHere at hm
  unfold f_X11_labelHere
  refine tr_eq0 (t_ck I T_v0 (by decide)) ?_
  exact t_X11_labelHere_0 I T_v0 hm
abbrev eX_X11_beginBook_72 (x : st_T) (h2 : hp_H) : hp_H := (fun y => h2) x
abbrev sX_X11_beginBook_72 (x : st_T) : st_T := (fun y => y) x
abbrev eR_X11_beginBook_72 (x : (Int32 × st_T) ⊕ (st_T)) (h2 : hp_H) : (Int32 × hp_H) ⊕ (hp_H) := Sum.elim (fun y => .inl (y.1, h2)) (fun y => .inr (eX_X11_beginBook_72 y h2)) x
abbrev sR_X11_beginBook_72 (x : (Int32 × st_T) ⊕ (st_T)) : st_T := Sum.elim (fun y => y.2) sX_X11_beginBook_72 x
def g_X11_beginBook_72 (n : Nat) (v0 : Nat) (v1 : Int32) (s : st_T) : Option ((Int32 × st_T) ⊕ (st_T)) :=
  if (300 : Int32) ≤ v1 then
    some (.inr s)
  else
    (uA 0 s (gP s v0 38) v1 (-1 : Int32)).bind fun w2 =>
    (uA 0 w2 (gP w2 v0 39) v1 (-1 : Int32)).bind fun w4 =>
    some (.inl ((v1 + (1 : Int32)), w4))
set_option maxHeartbeats 1000000 in
theorem t_X11_beginBook_72 {tg r : Nat → Nat} {h hb : hp_H} {s sb : st_T} {n : Nat} {v0 : Nat} {v1 : Int32} (I : iso tg r h s) (F : isf tg r hb h sb s) (T_v0 : tg v0 = 21) {res : (Int32 × st_T) ⊕ (st_T)} (hm : g_X11_beginBook_72 n v0 v1 s = some res) : ∃ h2, f_X11_beginBook_72 n (r v0) v1 h = some (eR_X11_beginBook_72 res h2) ∧ iso tg r h2 (sR_X11_beginBook_72 res) ∧ isf tg r hb h2 sb (sR_X11_beginBook_72 res) := by
  unfold g_X11_beginBook_72 at hm
  unfold f_X11_beginBook_72
  by_cases c5 : (300 : Int32) ≤ v1
  · rw [if_pos c5] at hm ⊢
    obtain rfl := Option.some.inj hm
    exact ⟨_, rfl, I, F⟩
  · rw [if_neg c5] at hm ⊢
    have T1 : tg (gP s v0 38) = 0 := t_tg (c := 11) I T_v0 (by decide) (by decide) rfl (by decide)
    refine tr_eq (t_fR I T_v0 (by decide) (by decide) (by decide)) ?_
    obtain ⟨w2, hw2, hm⟩ := hp_bd hm
    obtain ⟨_, e2, I, F⟩ := t_sI I F T1 (by decide) rfl hw2
    refine tr_eq e2 ?_
    have T3 : tg (gP w2 v0 39) = 0 := t_tg (c := 11) I T_v0 (by decide) (by decide) rfl (by decide)
    refine tr_eq (t_fR I T_v0 (by decide) (by decide) (by decide)) ?_
    obtain ⟨w4, hw4, hm⟩ := hp_bd hm
    obtain ⟨_, e2, I, F⟩ := t_sI I F T3 (by decide) rfl hw4
    refine tr_eq e2 ?_
    obtain rfl := Option.some.inj hm
    exact ⟨_, rfl, I, F⟩
def gL_X11_beginBook_72 (n : Nat) (v0 : Nat) (c : Int32 × st_T) : Option ((Int32 × st_T) ⊕ (st_T)) := g_X11_beginBook_72 n v0 c.1 c.2
theorem tl_X11_beginBook_72 {tg r : Nat → Nat} {hb : hp_H} {sb : st_T} {n : Nat} {v0 : Nat} (T_v0 : tg v0 = 21) : ∀ (k : Nat) (c0 : Int32) (h : hp_H) (s : st_T) (x : st_T), iso tg r h s → isf tg r hb h sb s → hp_lp (gL_X11_beginBook_72 n v0) k (c0, s) = some x → ∃ h2, hp_lp (fL_X11_beginBook_72 n (r v0)) k (c0, h) = some (eX_X11_beginBook_72 x h2) ∧ iso tg r h2 (sX_X11_beginBook_72 x) ∧ isf tg r hb h2 sb (sX_X11_beginBook_72 x) := by
  intro k
  induction k with
  | zero => intro c0 h s x I F hx; exact (hp_lp_0 hx).elim
  | succ k ih =>
    intro c0 h s x I F hx
    obtain ⟨rr, hr, hc⟩ := hp_lp_1 hx
    obtain ⟨h2, e2, I2, F2⟩ := t_X11_beginBook_72 I F T_v0 hr
    rcases hc with ⟨s3, e3, hx3⟩ | e3
    · subst e3
      obtain ⟨h3, e4, I3, F3⟩ := ih _ h2 _ x I2 F2 hx3
      exact ⟨h3, hp_lp_s e2 e4, I3, F3⟩
    · subst e3
      exact ⟨h2, hp_lp_x e2, I2, F2⟩
abbrev eX_X11_beginBook_101 (x : st_T) (h2 : hp_H) : hp_H := (fun y => h2) x
abbrev sX_X11_beginBook_101 (x : st_T) : st_T := (fun y => y) x
abbrev eR_X11_beginBook_101 (x : (Int32 × st_T) ⊕ (st_T)) (h2 : hp_H) : (Int32 × hp_H) ⊕ (hp_H) := Sum.elim (fun y => .inl (y.1, h2)) (fun y => .inr (eX_X11_beginBook_101 y h2)) x
abbrev sR_X11_beginBook_101 (x : (Int32 × st_T) ⊕ (st_T)) : st_T := Sum.elim (fun y => y.2) sX_X11_beginBook_101 x
def g_X11_beginBook_101 (n : Nat) (v0 : Nat) (v1 : Int32) (s : st_T) : Option ((Int32 × st_T) ⊕ (st_T)) :=
  if (200 : Int32) ≤ v1 then
    some (.inr s)
  else
    (uA 2 s (gP s v0 40) v1 (0 : Int32)).bind fun w2 =>
    some (.inl ((v1 + (1 : Int32)), w2))
set_option maxHeartbeats 1000000 in
theorem t_X11_beginBook_101 {tg r : Nat → Nat} {h hb : hp_H} {s sb : st_T} {n : Nat} {v0 : Nat} {v1 : Int32} (I : iso tg r h s) (F : isf tg r hb h sb s) (T_v0 : tg v0 = 21) {res : (Int32 × st_T) ⊕ (st_T)} (hm : g_X11_beginBook_101 n v0 v1 s = some res) : ∃ h2, f_X11_beginBook_101 n (r v0) v1 h = some (eR_X11_beginBook_101 res h2) ∧ iso tg r h2 (sR_X11_beginBook_101 res) ∧ isf tg r hb h2 sb (sR_X11_beginBook_101 res) := by
  unfold g_X11_beginBook_101 at hm
  unfold f_X11_beginBook_101
  by_cases c3 : (200 : Int32) ≤ v1
  · rw [if_pos c3] at hm ⊢
    obtain rfl := Option.some.inj hm
    exact ⟨_, rfl, I, F⟩
  · rw [if_neg c3] at hm ⊢
    have T1 : tg (gP s v0 40) = 2 := t_tg (c := 11) I T_v0 (by decide) (by decide) rfl (by decide)
    refine tr_eq (t_fR I T_v0 (by decide) (by decide) (by decide)) ?_
    obtain ⟨w2, hw2, hm⟩ := hp_bd hm
    obtain ⟨_, e2, I, F⟩ := t_sI I F T1 (by decide) rfl hw2
    refine tr_eq e2 ?_
    obtain rfl := Option.some.inj hm
    exact ⟨_, rfl, I, F⟩
def gL_X11_beginBook_101 (n : Nat) (v0 : Nat) (c : Int32 × st_T) : Option ((Int32 × st_T) ⊕ (st_T)) := g_X11_beginBook_101 n v0 c.1 c.2
theorem tl_X11_beginBook_101 {tg r : Nat → Nat} {hb : hp_H} {sb : st_T} {n : Nat} {v0 : Nat} (T_v0 : tg v0 = 21) : ∀ (k : Nat) (c0 : Int32) (h : hp_H) (s : st_T) (x : st_T), iso tg r h s → isf tg r hb h sb s → hp_lp (gL_X11_beginBook_101 n v0) k (c0, s) = some x → ∃ h2, hp_lp (fL_X11_beginBook_101 n (r v0)) k (c0, h) = some (eX_X11_beginBook_101 x h2) ∧ iso tg r h2 (sX_X11_beginBook_101 x) ∧ isf tg r hb h2 sb (sX_X11_beginBook_101 x) := by
  intro k
  induction k with
  | zero => intro c0 h s x I F hx; exact (hp_lp_0 hx).elim
  | succ k ih =>
    intro c0 h s x I F hx
    obtain ⟨rr, hr, hc⟩ := hp_lp_1 hx
    obtain ⟨h2, e2, I2, F2⟩ := t_X11_beginBook_101 I F T_v0 hr
    rcases hc with ⟨s3, e3, hx3⟩ | e3
    · subst e3
      obtain ⟨h3, e4, I3, F3⟩ := ih _ h2 _ x I2 F2 hx3
      exact ⟨h3, hp_lp_s e2 e4, I3, F3⟩
    · subst e3
      exact ⟨h2, hp_lp_x e2, I2, F2⟩
def g_X11_beginBook_0 (n : Nat) (v0 : Nat) (s : st_T) : Option (st_T) :=
  (wF s v0 32 ((1 : Int32) - (gF s v0 4))).bind fun w1 =>
  (uA 0 w1 (gP w1 v0 9) (gF w1 v0 32) (0 : Int32)).bind fun w3 =>
  (uA 0 w3 (gP w3 v0 18) (gF w3 v0 32) (0 : Int32)).bind fun w5 =>
  (uA 0 w5 (gP w5 v0 28) (gF w5 v0 32) (0 : Int32)).bind fun w7 =>
  (wF w7 v0 31 (0 : Int32)).bind fun w8 =>
  (wF w8 v0 33 (0 : Int32)).bind fun w9 =>
  (wF w9 v0 34 (0 : Int32)).bind fun w10 =>
  (wF w10 v0 36 (0 : Int32)).bind fun w11 =>
  (wF w11 v0 37 (0 : Int32)).bind fun w12 =>
  (wF w12 v0 43 (0 : Int32)).bind fun w13 =>
  (hp_lp (gL_X11_beginBook_72 n v0) n ((0 : Int32), w13)).bind fun x14 =>
  (hp_lp (gL_X11_beginBook_101 n v0) n ((0 : Int32), x14)).bind fun x16 =>
  some x16
set_option maxHeartbeats 1000000 in
theorem t_X11_beginBook_0 {tg r : Nat → Nat} {h hb : hp_H} {s sb : st_T} {n : Nat} {v0 : Nat} (I : iso tg r h s) (F : isf tg r hb h sb s) (T_v0 : tg v0 = 21) {res : st_T} (hm : g_X11_beginBook_0 n v0 s = some res) : ∃ h2, f_X11_beginBook_0 n (r v0) h = some (h2) ∧ iso tg r h2 res ∧ isf tg r hb h2 sb res := by
  unfold g_X11_beginBook_0 at hm
  unfold f_X11_beginBook_0
  refine tr_eq (t_fI I T_v0 (by decide) (by decide) rfl) ?_
  obtain ⟨w1, hw1, hm⟩ := hp_bd hm
  obtain ⟨_, e2, I, F⟩ := t_wF (c := 11) (k := 32) I F T_v0 (by decide) (by decide) rfl hw1
  refine tr_eq e2 ?_
  have T2 : tg (gP w1 v0 9) = 0 := t_tg (c := 11) I T_v0 (by decide) (by decide) rfl (by decide)
  refine tr_eq (t_fR I T_v0 (by decide) (by decide) (by decide)) ?_
  refine tr_eq (t_fI I T_v0 (by decide) (by decide) rfl) ?_
  obtain ⟨w3, hw3, hm⟩ := hp_bd hm
  obtain ⟨_, e2, I, F⟩ := t_sI I F T2 (by decide) rfl hw3
  refine tr_eq e2 ?_
  have T4 : tg (gP w3 v0 18) = 0 := t_tg (c := 11) I T_v0 (by decide) (by decide) rfl (by decide)
  refine tr_eq (t_fR I T_v0 (by decide) (by decide) (by decide)) ?_
  refine tr_eq (t_fI I T_v0 (by decide) (by decide) rfl) ?_
  obtain ⟨w5, hw5, hm⟩ := hp_bd hm
  obtain ⟨_, e2, I, F⟩ := t_sI I F T4 (by decide) rfl hw5
  refine tr_eq e2 ?_
  have T6 : tg (gP w5 v0 28) = 0 := t_tg (c := 11) I T_v0 (by decide) (by decide) rfl (by decide)
  refine tr_eq (t_fR I T_v0 (by decide) (by decide) (by decide)) ?_
  refine tr_eq (t_fI I T_v0 (by decide) (by decide) rfl) ?_
  obtain ⟨w7, hw7, hm⟩ := hp_bd hm
  obtain ⟨_, e2, I, F⟩ := t_sI I F T6 (by decide) rfl hw7
  refine tr_eq e2 ?_
  obtain ⟨w8, hw8, hm⟩ := hp_bd hm
  obtain ⟨_, e2, I, F⟩ := t_wF (c := 11) (k := 31) I F T_v0 (by decide) (by decide) rfl hw8
  refine tr_eq e2 ?_
  obtain ⟨w9, hw9, hm⟩ := hp_bd hm
  obtain ⟨_, e2, I, F⟩ := t_wF (c := 11) (k := 33) I F T_v0 (by decide) (by decide) rfl hw9
  refine tr_eq e2 ?_
  obtain ⟨w10, hw10, hm⟩ := hp_bd hm
  obtain ⟨_, e2, I, F⟩ := t_wF (c := 11) (k := 34) I F T_v0 (by decide) (by decide) rfl hw10
  refine tr_eq e2 ?_
  obtain ⟨w11, hw11, hm⟩ := hp_bd hm
  obtain ⟨_, e2, I, F⟩ := t_wF (c := 11) (k := 36) I F T_v0 (by decide) (by decide) rfl hw11
  refine tr_eq e2 ?_
  obtain ⟨w12, hw12, hm⟩ := hp_bd hm
  obtain ⟨_, e2, I, F⟩ := t_wF (c := 11) (k := 37) I F T_v0 (by decide) (by decide) rfl hw12
  refine tr_eq e2 ?_
  obtain ⟨w13, hw13, hm⟩ := hp_bd hm
  obtain ⟨_, e2, I, F⟩ := t_wF (c := 11) (k := 43) I F T_v0 (by decide) (by decide) rfl hw13
  refine tr_eq e2 ?_
  obtain ⟨x14, hx14, hm⟩ := hp_bd hm
  obtain ⟨_, e2, I, F⟩ := tl_X11_beginBook_72 T_v0 n _ _ _ _ I F hx14
  refine tr_eq e2 ?_
  try dsimp only [eX_X11_beginBook_72]
  replace I : iso tg _ _ x14 := I
  replace F : isf tg _ _ _ _ x14 := F
  obtain ⟨x16, hx16, hm⟩ := hp_bd hm
  obtain ⟨_, e2, I, F⟩ := tl_X11_beginBook_101 T_v0 n _ _ _ _ I F hx16
  refine tr_eq e2 ?_
  try dsimp only [eX_X11_beginBook_101]
  replace I : iso tg _ _ x16 := I
  replace F : isf tg _ _ _ _ x16 := F
  obtain rfl := Option.some.inj hm
  exact ⟨_, rfl, I, F⟩
def g_X11_beginBook (n : Nat) (v0 : Nat) (s : st_T) : Option (st_T) := g_X11_beginBook_0 n v0 s
theorem t_X11_beginBook {tg r : Nat → Nat} {h hb : hp_H} {s sb : st_T} {n : Nat} {v0 : Nat} (I : iso tg r h s) (F : isf tg r hb h sb s) (T_v0 : tg v0 = 21) {res : st_T} (hm : g_X11_beginBook n v0 s = some res) : ∃ h2, f_X11_beginBook n (r v0) h = some (h2) ∧ iso tg r h2 res ∧ isf tg r hb h2 sb res := by
  unfold g_X11_beginBook at hm
  unfold f_X11_beginBook
  refine tr_eq (t_ck I T_v0 (by decide)) ?_
  exact t_X11_beginBook_0 I F T_v0 hm
abbrev eX_X11_closeBlock_2 (x : st_T) (h2 : hp_H) : hp_H := (fun y => h2) x
abbrev sX_X11_closeBlock_2 (x : st_T) : st_T := (fun y => y) x
abbrev eR_X11_closeBlock_2 (x : (Int32 × st_T) ⊕ (st_T)) (h2 : hp_H) : (Int32 × hp_H) ⊕ (hp_H) := Sum.elim (fun y => .inl (y.1, h2)) (fun y => .inr (eX_X11_closeBlock_2 y h2)) x
abbrev sR_X11_closeBlock_2 (x : (Int32 × st_T) ⊕ (st_T)) : st_T := Sum.elim (fun y => y.2) sX_X11_closeBlock_2 x
def g_X11_closeBlock_43 (n : Nat) (v0 : Nat) (v1 : Int32) (s0 : Int32) (s1 : Int32) (s2 : Nat) (s : st_T) : Option ((Int32 × st_T) ⊕ (st_T)) :=
  (uA 0 s s2 s1 s0).bind fun w1 =>
  some (.inl ((v1 + (1 : Int32)), w1))
set_option maxHeartbeats 1000000 in
theorem t_X11_closeBlock_43 {tg r : Nat → Nat} {h hb : hp_H} {s sb : st_T} {n : Nat} {v0 : Nat} {v1 : Int32} {s0 : Int32} {s1 : Int32} {s2 : Nat} (I : iso tg r h s) (F : isf tg r hb h sb s) (T_v0 : tg v0 = 21) (T_s2 : tg s2 = 0) {res : (Int32 × st_T) ⊕ (st_T)} (hm : g_X11_closeBlock_43 n v0 v1 s0 s1 s2 s = some res) : ∃ h2, f_X11_closeBlock_43 n (r v0) v1 s0 s1 (r s2) h = some (eR_X11_closeBlock_2 res h2) ∧ iso tg r h2 (sR_X11_closeBlock_2 res) ∧ isf tg r hb h2 sb (sR_X11_closeBlock_2 res) := by
  unfold g_X11_closeBlock_43 at hm
  unfold f_X11_closeBlock_43
  obtain ⟨w1, hw1, hm⟩ := hp_bd hm
  obtain ⟨_, e2, I, F⟩ := t_sI I F T_s2 (by decide) rfl hw1
  refine tr_eq e2 ?_
  obtain rfl := Option.some.inj hm
  exact ⟨_, rfl, I, F⟩
def g_X11_closeBlock_2 (n : Nat) (v0 : Nat) (v1 : Int32) (s : st_T) : Option ((Int32 × st_T) ⊕ (st_T)) :=
  (gA s (gP s v0 9) (gF s v0 32)).bind fun x2 =>
  if x2 ≤ v1 then
    some (.inr s)
  else
    (gA s (gP s v0 38) v1).bind fun x5 =>
    if x5 = (gF s v0 33) then
      g_X11_closeBlock_43 n v0 v1 (-1 : Int32) v1 (gP s v0 38) s
    else
      (gA s (gP s v0 38) v1).bind fun x7 =>
      g_X11_closeBlock_43 n v0 v1 x7 v1 (gP s v0 38) s
set_option maxHeartbeats 1000000 in
theorem t_X11_closeBlock_2 {tg r : Nat → Nat} {h hb : hp_H} {s sb : st_T} {n : Nat} {v0 : Nat} {v1 : Int32} (I : iso tg r h s) (F : isf tg r hb h sb s) (T_v0 : tg v0 = 21) {res : (Int32 × st_T) ⊕ (st_T)} (hm : g_X11_closeBlock_2 n v0 v1 s = some res) : ∃ h2, f_X11_closeBlock_2 n (r v0) v1 h = some (eR_X11_closeBlock_2 res h2) ∧ iso tg r h2 (sR_X11_closeBlock_2 res) ∧ isf tg r hb h2 sb (sR_X11_closeBlock_2 res) := by
  unfold g_X11_closeBlock_2 at hm
  unfold f_X11_closeBlock_2
  have T1 : tg (gP s v0 9) = 0 := t_tg (c := 11) I T_v0 (by decide) (by decide) rfl (by decide)
  refine tr_eq (t_fR I T_v0 (by decide) (by decide) (by decide)) ?_
  refine tr_eq (t_fI I T_v0 (by decide) (by decide) rfl) ?_
  obtain ⟨x2, hx2, hm⟩ := hp_bd hm
  refine tr_eq (t_aI I T1 (by decide) rfl hx2) ?_
  by_cases c9 : x2 ≤ v1
  · rw [if_pos c9] at hm ⊢
    obtain rfl := Option.some.inj hm
    exact ⟨_, rfl, I, F⟩
  · rw [if_neg c9] at hm ⊢
    have T3 : tg (gP s v0 38) = 0 := t_tg (c := 11) I T_v0 (by decide) (by decide) rfl (by decide)
    refine tr_eq (t_fR I T_v0 (by decide) (by decide) (by decide)) ?_
    have T4 : tg (gP s v0 38) = 0 := t_tg (c := 11) I T_v0 (by decide) (by decide) rfl (by decide)
    refine tr_eq (t_fR I T_v0 (by decide) (by decide) (by decide)) ?_
    obtain ⟨x5, hx5, hm⟩ := hp_bd hm
    refine tr_eq (t_aI I T4 (by decide) rfl hx5) ?_
    refine tr_eq (t_fI I T_v0 (by decide) (by decide) rfl) ?_
    by_cases c8 : x5 = (gF s v0 33)
    · rw [if_pos c8] at hm ⊢
      exact t_X11_closeBlock_43 I F T_v0 T4 hm
    · rw [if_neg c8] at hm ⊢
      have T6 : tg (gP s v0 38) = 0 := t_tg (c := 11) I T_v0 (by decide) (by decide) rfl (by decide)
      refine tr_eq (t_fR I T_v0 (by decide) (by decide) (by decide)) ?_
      obtain ⟨x7, hx7, hm⟩ := hp_bd hm
      refine tr_eq (t_aI I T6 (by decide) rfl hx7) ?_
      exact t_X11_closeBlock_43 I F T_v0 T6 hm
def gL_X11_closeBlock_2 (n : Nat) (v0 : Nat) (c : Int32 × st_T) : Option ((Int32 × st_T) ⊕ (st_T)) := g_X11_closeBlock_2 n v0 c.1 c.2
theorem tl_X11_closeBlock_2 {tg r : Nat → Nat} {hb : hp_H} {sb : st_T} {n : Nat} {v0 : Nat} (T_v0 : tg v0 = 21) : ∀ (k : Nat) (c0 : Int32) (h : hp_H) (s : st_T) (x : st_T), iso tg r h s → isf tg r hb h sb s → hp_lp (gL_X11_closeBlock_2 n v0) k (c0, s) = some x → ∃ h2, hp_lp (fL_X11_closeBlock_2 n (r v0)) k (c0, h) = some (eX_X11_closeBlock_2 x h2) ∧ iso tg r h2 (sX_X11_closeBlock_2 x) ∧ isf tg r hb h2 sb (sX_X11_closeBlock_2 x) := by
  intro k
  induction k with
  | zero => intro c0 h s x I F hx; exact (hp_lp_0 hx).elim
  | succ k ih =>
    intro c0 h s x I F hx
    obtain ⟨rr, hr, hc⟩ := hp_lp_1 hx
    obtain ⟨h2, e2, I2, F2⟩ := t_X11_closeBlock_2 I F T_v0 hr
    rcases hc with ⟨s3, e3, hx3⟩ | e3
    · subst e3
      obtain ⟨h3, e4, I3, F3⟩ := ih _ h2 _ x I2 F2 hx3
      exact ⟨h3, hp_lp_s e2 e4, I3, F3⟩
    · subst e3
      exact ⟨h2, hp_lp_x e2, I2, F2⟩
abbrev eX_X11_closeBlock_52 (x : st_T) (h2 : hp_H) : hp_H := (fun y => h2) x
abbrev sX_X11_closeBlock_52 (x : st_T) : st_T := (fun y => y) x
abbrev eR_X11_closeBlock_52 (x : (Int32 × st_T) ⊕ (st_T)) (h2 : hp_H) : (Int32 × hp_H) ⊕ (hp_H) := Sum.elim (fun y => .inl (y.1, h2)) (fun y => .inr (eX_X11_closeBlock_52 y h2)) x
abbrev sR_X11_closeBlock_52 (x : (Int32 × st_T) ⊕ (st_T)) : st_T := Sum.elim (fun y => y.2) sX_X11_closeBlock_52 x
def g_X11_closeBlock_142 (n : Nat) (v0 : Nat) (v1 : Int32) (s : st_T) : Option ((Int32 × st_T) ⊕ (st_T)) :=
  some (.inl ((v1 + (1 : Int32)), s))
set_option maxHeartbeats 1000000 in
theorem t_X11_closeBlock_142 {tg r : Nat → Nat} {h hb : hp_H} {s sb : st_T} {n : Nat} {v0 : Nat} {v1 : Int32} (I : iso tg r h s) (F : isf tg r hb h sb s) (T_v0 : tg v0 = 21) {res : (Int32 × st_T) ⊕ (st_T)} (hm : g_X11_closeBlock_142 n v0 v1 s = some res) : ∃ h2, f_X11_closeBlock_142 n (r v0) v1 h = some (eR_X11_closeBlock_52 res h2) ∧ iso tg r h2 (sR_X11_closeBlock_52 res) ∧ isf tg r hb h2 sb (sR_X11_closeBlock_52 res) := by
  unfold g_X11_closeBlock_142 at hm
  unfold f_X11_closeBlock_142
  obtain rfl := Option.some.inj hm
  exact ⟨_, rfl, I, F⟩
def g_X11_closeBlock_52 (n : Nat) (v0 : Nat) (v1 : Int32) (s : st_T) : Option ((Int32 × st_T) ⊕ (st_T)) :=
  (gA s (gP s v0 18) (gF s v0 32)).bind fun x2 =>
  if x2 ≤ v1 then
    some (.inr s)
  else
    (gA s (gP s v0 40) v1).bind fun x4 =>
    if x4 = 0 then
      g_X11_closeBlock_142 n v0 v1 s
    else
      (gA s (gP s v0 13) (((200 : Int32) * (gF s v0 32)) + v1)).bind fun x6 =>
      if x6 = (gF s v0 33) then
        (uA 2 s (gP s v0 40) v1 (0 : Int32)).bind fun w8 =>
        (gA w8 (gP w8 v0 10) (((200 : Int32) * (gF s v0 32)) + v1)).bind fun x10 =>
        if x10 = 0 then
          (gA w8 (gP w8 v0 14) (((200 : Int32) * (gF s v0 32)) + v1)).bind fun x14 =>
          (gA w8 (gP w8 v0 19) ((((4096 : Int32) * (gF w8 v0 32)) + x14) + (1 : Int32))).bind fun x15 =>
          (uA 0 w8 (gP w8 v0 39) x15 (-1 : Int32)).bind fun w16 =>
          g_X11_closeBlock_142 n v0 v1 w16
        else
          g_X11_closeBlock_142 n v0 v1 w8
      else
        g_X11_closeBlock_142 n v0 v1 s
set_option maxHeartbeats 1000000 in
theorem t_X11_closeBlock_52 {tg r : Nat → Nat} {h hb : hp_H} {s sb : st_T} {n : Nat} {v0 : Nat} {v1 : Int32} (I : iso tg r h s) (F : isf tg r hb h sb s) (T_v0 : tg v0 = 21) {res : (Int32 × st_T) ⊕ (st_T)} (hm : g_X11_closeBlock_52 n v0 v1 s = some res) : ∃ h2, f_X11_closeBlock_52 n (r v0) v1 h = some (eR_X11_closeBlock_52 res h2) ∧ iso tg r h2 (sR_X11_closeBlock_52 res) ∧ isf tg r hb h2 sb (sR_X11_closeBlock_52 res) := by
  unfold g_X11_closeBlock_52 at hm
  unfold f_X11_closeBlock_52
  have T1 : tg (gP s v0 18) = 0 := t_tg (c := 11) I T_v0 (by decide) (by decide) rfl (by decide)
  refine tr_eq (t_fR I T_v0 (by decide) (by decide) (by decide)) ?_
  refine tr_eq (t_fI I T_v0 (by decide) (by decide) rfl) ?_
  obtain ⟨x2, hx2, hm⟩ := hp_bd hm
  refine tr_eq (t_aI I T1 (by decide) rfl hx2) ?_
  by_cases c20 : x2 ≤ v1
  · rw [if_pos c20] at hm ⊢
    obtain rfl := Option.some.inj hm
    exact ⟨_, rfl, I, F⟩
  · rw [if_neg c20] at hm ⊢
    refine tr_eq (t_fI I T_v0 (by decide) (by decide) rfl) ?_
    have T3 : tg (gP s v0 40) = 2 := t_tg (c := 11) I T_v0 (by decide) (by decide) rfl (by decide)
    refine tr_eq (t_fR I T_v0 (by decide) (by decide) (by decide)) ?_
    obtain ⟨x4, hx4, hm⟩ := hp_bd hm
    refine tr_eq (t_aI I T3 (by decide) rfl hx4) ?_
    by_cases c19 : x4 = 0
    · rw [if_pos c19] at hm ⊢
      exact t_X11_closeBlock_142 I F T_v0 hm
    · rw [if_neg c19] at hm ⊢
      have T5 : tg (gP s v0 13) = 0 := t_tg (c := 11) I T_v0 (by decide) (by decide) rfl (by decide)
      refine tr_eq (t_fR I T_v0 (by decide) (by decide) (by decide)) ?_
      obtain ⟨x6, hx6, hm⟩ := hp_bd hm
      refine tr_eq (t_aI I T5 (by decide) rfl hx6) ?_
      refine tr_eq (t_fI I T_v0 (by decide) (by decide) rfl) ?_
      by_cases c18 : x6 = (gF s v0 33)
      · rw [if_pos c18] at hm ⊢
        have T7 : tg (gP s v0 40) = 2 := t_tg (c := 11) I T_v0 (by decide) (by decide) rfl (by decide)
        refine tr_eq (t_fR I T_v0 (by decide) (by decide) (by decide)) ?_
        obtain ⟨w8, hw8, hm⟩ := hp_bd hm
        obtain ⟨_, e2, I, F⟩ := t_sI I F T7 (by decide) rfl hw8
        refine tr_eq e2 ?_
        have T9 : tg (gP w8 v0 10) = 0 := t_tg (c := 11) I T_v0 (by decide) (by decide) rfl (by decide)
        refine tr_eq (t_fR I T_v0 (by decide) (by decide) (by decide)) ?_
        obtain ⟨x10, hx10, hm⟩ := hp_bd hm
        refine tr_eq (t_aI I T9 (by decide) rfl hx10) ?_
        by_cases c17 : x10 = 0
        · rw [if_pos c17] at hm ⊢
          have T11 : tg (gP w8 v0 39) = 0 := t_tg (c := 11) I T_v0 (by decide) (by decide) rfl (by decide)
          refine tr_eq (t_fR I T_v0 (by decide) (by decide) (by decide)) ?_
          have T12 : tg (gP w8 v0 19) = 0 := t_tg (c := 11) I T_v0 (by decide) (by decide) rfl (by decide)
          refine tr_eq (t_fR I T_v0 (by decide) (by decide) (by decide)) ?_
          refine tr_eq (t_fI I T_v0 (by decide) (by decide) rfl) ?_
          have T13 : tg (gP w8 v0 14) = 0 := t_tg (c := 11) I T_v0 (by decide) (by decide) rfl (by decide)
          refine tr_eq (t_fR I T_v0 (by decide) (by decide) (by decide)) ?_
          obtain ⟨x14, hx14, hm⟩ := hp_bd hm
          refine tr_eq (t_aI I T13 (by decide) rfl hx14) ?_
          obtain ⟨x15, hx15, hm⟩ := hp_bd hm
          refine tr_eq (t_aI I T12 (by decide) rfl hx15) ?_
          obtain ⟨w16, hw16, hm⟩ := hp_bd hm
          obtain ⟨_, e2, I, F⟩ := t_sI I F T11 (by decide) rfl hw16
          refine tr_eq e2 ?_
          exact t_X11_closeBlock_142 I F T_v0 hm
        · rw [if_neg c17] at hm ⊢
          exact t_X11_closeBlock_142 I F T_v0 hm
      · rw [if_neg c18] at hm ⊢
        exact t_X11_closeBlock_142 I F T_v0 hm
def gL_X11_closeBlock_52 (n : Nat) (v0 : Nat) (c : Int32 × st_T) : Option ((Int32 × st_T) ⊕ (st_T)) := g_X11_closeBlock_52 n v0 c.1 c.2
theorem tl_X11_closeBlock_52 {tg r : Nat → Nat} {hb : hp_H} {sb : st_T} {n : Nat} {v0 : Nat} (T_v0 : tg v0 = 21) : ∀ (k : Nat) (c0 : Int32) (h : hp_H) (s : st_T) (x : st_T), iso tg r h s → isf tg r hb h sb s → hp_lp (gL_X11_closeBlock_52 n v0) k (c0, s) = some x → ∃ h2, hp_lp (fL_X11_closeBlock_52 n (r v0)) k (c0, h) = some (eX_X11_closeBlock_52 x h2) ∧ iso tg r h2 (sX_X11_closeBlock_52 x) ∧ isf tg r hb h2 sb (sX_X11_closeBlock_52 x) := by
  intro k
  induction k with
  | zero => intro c0 h s x I F hx; exact (hp_lp_0 hx).elim
  | succ k ih =>
    intro c0 h s x I F hx
    obtain ⟨rr, hr, hc⟩ := hp_lp_1 hx
    obtain ⟨h2, e2, I2, F2⟩ := t_X11_closeBlock_52 I F T_v0 hr
    rcases hc with ⟨s3, e3, hx3⟩ | e3
    · subst e3
      obtain ⟨h3, e4, I3, F3⟩ := ih _ h2 _ x I2 F2 hx3
      exact ⟨h3, hp_lp_s e2 e4, I3, F3⟩
    · subst e3
      exact ⟨h2, hp_lp_x e2, I2, F2⟩
abbrev eX_X11_closeBlock_148 (x : st_T) (h2 : hp_H) : hp_H := (fun y => h2) x
abbrev sX_X11_closeBlock_148 (x : st_T) : st_T := (fun y => y) x
abbrev eR_X11_closeBlock_148 (x : (st_T) ⊕ (st_T)) (h2 : hp_H) : (hp_H) ⊕ (hp_H) := Sum.elim (fun y => .inl h2) (fun y => .inr (eX_X11_closeBlock_148 y h2)) x
abbrev sR_X11_closeBlock_148 (x : (st_T) ⊕ (st_T)) : st_T := Sum.elim (fun y => y) sX_X11_closeBlock_148 x
def g_X11_closeBlock_148 (n : Nat) (v0 : Nat) (s : st_T) : Option ((st_T) ⊕ (st_T)) :=
  if (gF s v0 43) ≤ 0 then
    some (.inr s)
  else
    (gA s (gP s v0 42) ((gF s v0 43) - (1 : Int32))).bind fun x2 =>
    if x2 = (gF s v0 33) then
      (wF s v0 43 ((gF s v0 43) - (1 : Int32))).bind fun w3 =>
      (gA w3 (gP w3 v0 41) (gF w3 v0 43)).bind fun x6 =>
      (gA w3 (gP w3 v0 18) (gF w3 v0 32)).bind fun x8 =>
      (uA 0 w3 (gP w3 v0 27) x6 x8).bind fun w9 =>
      some (.inl w9)
    else
      some (.inr s)
set_option maxHeartbeats 1000000 in
theorem t_X11_closeBlock_148 {tg r : Nat → Nat} {h hb : hp_H} {s sb : st_T} {n : Nat} {v0 : Nat} (I : iso tg r h s) (F : isf tg r hb h sb s) (T_v0 : tg v0 = 21) {res : (st_T) ⊕ (st_T)} (hm : g_X11_closeBlock_148 n v0 s = some res) : ∃ h2, f_X11_closeBlock_148 n (r v0) h = some (eR_X11_closeBlock_148 res h2) ∧ iso tg r h2 (sR_X11_closeBlock_148 res) ∧ isf tg r hb h2 sb (sR_X11_closeBlock_148 res) := by
  unfold g_X11_closeBlock_148 at hm
  unfold f_X11_closeBlock_148
  refine tr_eq (t_fI I T_v0 (by decide) (by decide) rfl) ?_
  by_cases c11 : (gF s v0 43) ≤ 0
  · rw [if_pos c11] at hm ⊢
    obtain rfl := Option.some.inj hm
    exact ⟨_, rfl, I, F⟩
  · rw [if_neg c11] at hm ⊢
    have T1 : tg (gP s v0 42) = 0 := t_tg (c := 11) I T_v0 (by decide) (by decide) rfl (by decide)
    refine tr_eq (t_fR I T_v0 (by decide) (by decide) (by decide)) ?_
    refine tr_eq (t_fI I T_v0 (by decide) (by decide) rfl) ?_
    obtain ⟨x2, hx2, hm⟩ := hp_bd hm
    refine tr_eq (t_aI I T1 (by decide) rfl hx2) ?_
    refine tr_eq (t_fI I T_v0 (by decide) (by decide) rfl) ?_
    by_cases c10 : x2 = (gF s v0 33)
    · rw [if_pos c10] at hm ⊢
      refine tr_eq (t_fI I T_v0 (by decide) (by decide) rfl) ?_
      obtain ⟨w3, hw3, hm⟩ := hp_bd hm
      obtain ⟨_, e2, I, F⟩ := t_wF (c := 11) (k := 43) I F T_v0 (by decide) (by decide) rfl hw3
      refine tr_eq e2 ?_
      have T4 : tg (gP w3 v0 27) = 0 := t_tg (c := 11) I T_v0 (by decide) (by decide) rfl (by decide)
      refine tr_eq (t_fR I T_v0 (by decide) (by decide) (by decide)) ?_
      have T5 : tg (gP w3 v0 41) = 0 := t_tg (c := 11) I T_v0 (by decide) (by decide) rfl (by decide)
      refine tr_eq (t_fR I T_v0 (by decide) (by decide) (by decide)) ?_
      refine tr_eq (t_fI I T_v0 (by decide) (by decide) rfl) ?_
      obtain ⟨x6, hx6, hm⟩ := hp_bd hm
      refine tr_eq (t_aI I T5 (by decide) rfl hx6) ?_
      have T7 : tg (gP w3 v0 18) = 0 := t_tg (c := 11) I T_v0 (by decide) (by decide) rfl (by decide)
      refine tr_eq (t_fR I T_v0 (by decide) (by decide) (by decide)) ?_
      refine tr_eq (t_fI I T_v0 (by decide) (by decide) rfl) ?_
      obtain ⟨x8, hx8, hm⟩ := hp_bd hm
      refine tr_eq (t_aI I T7 (by decide) rfl hx8) ?_
      obtain ⟨w9, hw9, hm⟩ := hp_bd hm
      obtain ⟨_, e2, I, F⟩ := t_sI I F T4 (by decide) rfl hw9
      refine tr_eq e2 ?_
      obtain rfl := Option.some.inj hm
      exact ⟨_, rfl, I, F⟩
    · rw [if_neg c10] at hm ⊢
      obtain rfl := Option.some.inj hm
      exact ⟨_, rfl, I, F⟩
def gL_X11_closeBlock_148 (n : Nat) (v0 : Nat) (c : st_T) : Option ((st_T) ⊕ (st_T)) := g_X11_closeBlock_148 n v0 c
theorem tl_X11_closeBlock_148 {tg r : Nat → Nat} {hb : hp_H} {sb : st_T} {n : Nat} {v0 : Nat} (T_v0 : tg v0 = 21) : ∀ (k : Nat)  (h : hp_H) (s : st_T) (x : st_T), iso tg r h s → isf tg r hb h sb s → hp_lp (gL_X11_closeBlock_148 n v0) k s = some x → ∃ h2, hp_lp (fL_X11_closeBlock_148 n (r v0)) k h = some (eX_X11_closeBlock_148 x h2) ∧ iso tg r h2 (sX_X11_closeBlock_148 x) ∧ isf tg r hb h2 sb (sX_X11_closeBlock_148 x) := by
  intro k
  induction k with
  | zero => intro  h s x I F hx; exact (hp_lp_0 hx).elim
  | succ k ih =>
    intro  h s x I F hx
    obtain ⟨rr, hr, hc⟩ := hp_lp_1 hx
    obtain ⟨h2, e2, I2, F2⟩ := t_X11_closeBlock_148 I F T_v0 hr
    rcases hc with ⟨s3, e3, hx3⟩ | e3
    · subst e3
      obtain ⟨h3, e4, I3, F3⟩ := ih  h2 _ x I2 F2 hx3
      exact ⟨h3, hp_lp_s e2 e4, I3, F3⟩
    · subst e3
      exact ⟨h2, hp_lp_x e2, I2, F2⟩
def g_X11_closeBlock_209 (n : Nat) (v0 : Nat) (s : st_T) : Option (st_T) :=
  (wF s v0 33 ((gF s v0 33) - (1 : Int32))).bind fun w1 =>
  some w1
set_option maxHeartbeats 1000000 in
theorem t_X11_closeBlock_209 {tg r : Nat → Nat} {h hb : hp_H} {s sb : st_T} {n : Nat} {v0 : Nat} (I : iso tg r h s) (F : isf tg r hb h sb s) (T_v0 : tg v0 = 21) {res : st_T} (hm : g_X11_closeBlock_209 n v0 s = some res) : ∃ h2, f_X11_closeBlock_209 n (r v0) h = some (h2) ∧ iso tg r h2 res ∧ isf tg r hb h2 sb res := by
  unfold g_X11_closeBlock_209 at hm
  unfold f_X11_closeBlock_209
  refine tr_eq (t_fI I T_v0 (by decide) (by decide) rfl) ?_
  obtain ⟨w1, hw1, hm⟩ := hp_bd hm
  obtain ⟨_, e2, I, F⟩ := t_wF (c := 11) (k := 33) I F T_v0 (by decide) (by decide) rfl hw1
  refine tr_eq e2 ?_
  obtain rfl := Option.some.inj hm
  exact ⟨_, rfl, I, F⟩
def g_X11_closeBlock_0 (n : Nat) (v0 : Nat) (s : st_T) : Option (st_T) :=
  (hp_lp (gL_X11_closeBlock_2 n v0) n ((0 : Int32), s)).bind fun x1 =>
  (hp_lp (gL_X11_closeBlock_52 n v0) n ((0 : Int32), x1)).bind fun x3 =>
  (hp_lp (gL_X11_closeBlock_148 n v0) n x3).bind fun x5 =>
  g_X11_closeBlock_209 n v0 x5
set_option maxHeartbeats 1000000 in
theorem t_X11_closeBlock_0 {tg r : Nat → Nat} {h hb : hp_H} {s sb : st_T} {n : Nat} {v0 : Nat} (I : iso tg r h s) (F : isf tg r hb h sb s) (T_v0 : tg v0 = 21) {res : st_T} (hm : g_X11_closeBlock_0 n v0 s = some res) : ∃ h2, f_X11_closeBlock_0 n (r v0) h = some (h2) ∧ iso tg r h2 res ∧ isf tg r hb h2 sb res := by
  unfold g_X11_closeBlock_0 at hm
  unfold f_X11_closeBlock_0
  obtain ⟨x1, hx1, hm⟩ := hp_bd hm
  obtain ⟨_, e2, I, F⟩ := tl_X11_closeBlock_2 T_v0 n _ _ _ _ I F hx1
  refine tr_eq e2 ?_
  try dsimp only [eX_X11_closeBlock_2]
  replace I : iso tg _ _ x1 := I
  replace F : isf tg _ _ _ _ x1 := F
  obtain ⟨x3, hx3, hm⟩ := hp_bd hm
  obtain ⟨_, e2, I, F⟩ := tl_X11_closeBlock_52 T_v0 n _ _ _ _ I F hx3
  refine tr_eq e2 ?_
  try dsimp only [eX_X11_closeBlock_52]
  replace I : iso tg _ _ x3 := I
  replace F : isf tg _ _ _ _ x3 := F
  obtain ⟨x5, hx5, hm⟩ := hp_bd hm
  obtain ⟨_, e2, I, F⟩ := tl_X11_closeBlock_148 T_v0 n  _ _ _ I F hx5
  refine tr_eq e2 ?_
  try dsimp only [eX_X11_closeBlock_148]
  replace I : iso tg _ _ x5 := I
  replace F : isf tg _ _ _ _ x5 := F
  exact t_X11_closeBlock_209 I F T_v0 hm
def g_X11_closeBlock (n : Nat) (v0 : Nat) (s : st_T) : Option (st_T) := g_X11_closeBlock_0 n v0 s
theorem t_X11_closeBlock {tg r : Nat → Nat} {h hb : hp_H} {s sb : st_T} {n : Nat} {v0 : Nat} (I : iso tg r h s) (F : isf tg r hb h sb s) (T_v0 : tg v0 = 21) {res : st_T} (hm : g_X11_closeBlock n v0 s = some res) : ∃ h2, f_X11_closeBlock n (r v0) h = some (h2) ∧ iso tg r h2 res ∧ isf tg r hb h2 sb res := by
  unfold g_X11_closeBlock at hm
  unfold f_X11_closeBlock
  refine tr_eq (t_ck I T_v0 (by decide)) ?_
  exact t_X11_closeBlock_0 I F T_v0 hm
def g_X11_outside_65 (n : Nat) (s0 : Int32) (s1 : Nat) (s : st_T) : Option (Int32 × st_T) :=
  (wF s s1 34 s0).bind fun w1 =>
  some ((0 : Int32), w1)
set_option maxHeartbeats 1000000 in
theorem t_X11_outside_65 {tg r : Nat → Nat} {h hb : hp_H} {s sb : st_T} {n : Nat} {s0 : Int32} {s1 : Nat} (I : iso tg r h s) (F : isf tg r hb h sb s) (T_s1 : tg s1 = 21) {res : Int32 × st_T} (hm : g_X11_outside_65 n s0 s1 s = some res) : ∃ h2, f_X11_outside_65 n s0 (r s1) h = some ((res.1, h2)) ∧ iso tg r h2 res.2 ∧ isf tg r hb h2 sb res.2 := by
  unfold g_X11_outside_65 at hm
  unfold f_X11_outside_65
  obtain ⟨w1, hw1, hm⟩ := hp_bd hm
  obtain ⟨_, e2, I, F⟩ := t_wF (c := 11) (k := 34) I F T_s1 (by decide) (by decide) rfl hw1
  refine tr_eq e2 ?_
  obtain rfl := Option.some.inj hm
  exact ⟨_, rfl, I, F⟩
def g_X11_outside_50 (n : Nat) (v0 : Nat) (s : st_T) : Option (Int32 × st_T) :=
  (g_X11_isWord n v0 (118 : Int32) s).bind fun x1 =>
  if x1 = 0 then
    g_X11_outside_65 n (4 : Int32) v0 s
  else
    g_X11_outside_65 n (3 : Int32) v0 s
set_option maxHeartbeats 1000000 in
theorem t_X11_outside_50 {tg r : Nat → Nat} {h hb : hp_H} {s sb : st_T} {n : Nat} {v0 : Nat} (I : iso tg r h s) (F : isf tg r hb h sb s) (T_v0 : tg v0 = 21) {res : Int32 × st_T} (hm : g_X11_outside_50 n v0 s = some res) : ∃ h2, f_X11_outside_50 n (r v0) h = some ((res.1, h2)) ∧ iso tg r h2 res.2 ∧ isf tg r hb h2 sb res.2 := by
  unfold g_X11_outside_50 at hm
  unfold f_X11_outside_50
  obtain ⟨x1, hx1, hm⟩ := hp_bd hm
  refine tr_eq (t_X11_isWord I T_v0 hx1) ?_
  by_cases c2 : x1 = 0
  · rw [if_pos c2] at hm ⊢
    exact t_X11_outside_65 I F T_v0 hm
  · rw [if_neg c2] at hm ⊢
    exact t_X11_outside_65 I F T_v0 hm
def g_X11_outside_0 (n : Nat) (v0 : Nat) (s : st_T) : Option (Int32 × st_T) :=
  (wF s v0 35 (0 : Int32)).bind fun w1 =>
  (g_X11_isWord n v0 (99 : Int32) w1).bind fun x2 =>
  if x2 = 0 then
    (g_X11_isWord n v0 (118 : Int32) w1).bind fun x3 =>
    if x3 = 0 then
      (g_X11_isWord n v0 (100 : Int32) w1).bind fun x4 =>
      if x4 = 0 then
        (g_X11_isWord n v0 (123 : Int32) w1).bind fun x5 =>
        if x5 = 0 then
          (g_X11_isWord n v0 (125 : Int32) w1).bind fun x6 =>
          if x6 = 0 then
            (g_X11_hasDollar n v0 w1).bind fun x7 =>
            if x7 = 0 then
              (gA w1 (gP w1 v0 18) (gF w1 v0 32)).bind fun x9 =>
              if x9 = (200 : Int32) then
                some ((7 : Int32), w1)
              else
                (g_X11_isLabel n v0 w1).bind fun x10 =>
                if x10 = 0 then
                  some ((4 : Int32), w1)
                else
                  (g_X11_labelHere n v0 w1).bind fun x11 =>
                  if 0 ≤ x11 then
                    some ((4 : Int32), w1)
                  else
                    (g_X11_symbolHere n v0 w1).bind fun x12 =>
                    if x12 < 0 then
                      (gA w1 (gP w1 v0 18) (gF w1 v0 32)).bind fun x14 =>
                      (uA 0 w1 (gP w1 v0 11) (((200 : Int32) * (gF w1 v0 32)) + x14) (gF w1 v0 29)).bind fun w16 =>
                      (uA 0 w16 (gP w16 v0 12) (((200 : Int32) * (gF w1 v0 32)) + x14) (gF w16 v0 30)).bind fun w18 =>
                      (wF w18 v0 34 (1 : Int32)).bind fun w19 =>
                      some ((0 : Int32), w19)
                    else
                      some ((4 : Int32), w1)
            else
              some ((3 : Int32), w1)
          else
            if (gF w1 v0 33) = 0 then
              some ((3 : Int32), w1)
            else
              (g_X11_closeBlock n v0 w1).bind fun x25 =>
              some ((0 : Int32), x25)
        else
          (wF w1 v0 33 ((gF w1 v0 33) + (1 : Int32))).bind fun w28 =>
          if (gF w28 v0 33) ≤ (16 : Int32) then
            some ((0 : Int32), w28)
          else
            some ((7 : Int32), w28)
      else
        g_X11_outside_50 n v0 w1
    else
      g_X11_outside_50 n v0 w1
  else
    (wF w1 v0 34 (2 : Int32)).bind fun w33 =>
    if (gF w33 v0 33) ≤ 0 then
      some ((0 : Int32), w33)
    else
      some ((3 : Int32), w33)
set_option maxHeartbeats 1000000 in
theorem t_X11_outside_0 {tg r : Nat → Nat} {h hb : hp_H} {s sb : st_T} {n : Nat} {v0 : Nat} (I : iso tg r h s) (F : isf tg r hb h sb s) (T_v0 : tg v0 = 21) {res : Int32 × st_T} (hm : g_X11_outside_0 n v0 s = some res) : ∃ h2, f_X11_outside_0 n (r v0) h = some ((res.1, h2)) ∧ iso tg r h2 res.2 ∧ isf tg r hb h2 sb res.2 := by
  unfold g_X11_outside_0 at hm
  unfold f_X11_outside_0
  obtain ⟨w1, hw1, hm⟩ := hp_bd hm
  obtain ⟨_, e2, I, F⟩ := t_wF (c := 11) (k := 35) I F T_v0 (by decide) (by decide) rfl hw1
  refine tr_eq e2 ?_
  obtain ⟨x2, hx2, hm⟩ := hp_bd hm
  refine tr_eq (t_X11_isWord I T_v0 hx2) ?_
  by_cases c35 : x2 = 0
  · rw [if_pos c35] at hm ⊢
    obtain ⟨x3, hx3, hm⟩ := hp_bd hm
    refine tr_eq (t_X11_isWord I T_v0 hx3) ?_
    by_cases c32 : x3 = 0
    · rw [if_pos c32] at hm ⊢
      obtain ⟨x4, hx4, hm⟩ := hp_bd hm
      refine tr_eq (t_X11_isWord I T_v0 hx4) ?_
      by_cases c31 : x4 = 0
      · rw [if_pos c31] at hm ⊢
        obtain ⟨x5, hx5, hm⟩ := hp_bd hm
        refine tr_eq (t_X11_isWord I T_v0 hx5) ?_
        by_cases c30 : x5 = 0
        · rw [if_pos c30] at hm ⊢
          obtain ⟨x6, hx6, hm⟩ := hp_bd hm
          refine tr_eq (t_X11_isWord I T_v0 hx6) ?_
          by_cases c27 : x6 = 0
          · rw [if_pos c27] at hm ⊢
            obtain ⟨x7, hx7, hm⟩ := hp_bd hm
            refine tr_eq (t_X11_hasDollar I T_v0 hx7) ?_
            by_cases c24 : x7 = 0
            · rw [if_pos c24] at hm ⊢
              have T8 : tg (gP w1 v0 18) = 0 := t_tg (c := 11) I T_v0 (by decide) (by decide) rfl (by decide)
              refine tr_eq (t_fR I T_v0 (by decide) (by decide) (by decide)) ?_
              refine tr_eq (t_fI I T_v0 (by decide) (by decide) rfl) ?_
              obtain ⟨x9, hx9, hm⟩ := hp_bd hm
              refine tr_eq (t_aI I T8 (by decide) rfl hx9) ?_
              by_cases c23 : x9 = (200 : Int32)
              · rw [if_pos c23] at hm ⊢
                obtain rfl := Option.some.inj hm
                exact ⟨_, rfl, I, F⟩
              · rw [if_neg c23] at hm ⊢
                obtain ⟨x10, hx10, hm⟩ := hp_bd hm
                refine tr_eq (t_X11_isLabel I T_v0 hx10) ?_
                by_cases c22 : x10 = 0
                · rw [if_pos c22] at hm ⊢
                  obtain rfl := Option.some.inj hm
                  exact ⟨_, rfl, I, F⟩
                · rw [if_neg c22] at hm ⊢
                  obtain ⟨x11, hx11, hm⟩ := hp_bd hm
                  refine tr_eq (t_X11_labelHere I T_v0 hx11) ?_
                  by_cases c21 : 0 ≤ x11
                  · rw [if_pos c21] at hm ⊢
                    obtain rfl := Option.some.inj hm
                    exact ⟨_, rfl, I, F⟩
                  · rw [if_neg c21] at hm ⊢
                    obtain ⟨x12, hx12, hm⟩ := hp_bd hm
                    refine tr_eq (t_X11_symbolHere I T_v0 hx12) ?_
                    by_cases c20 : x12 < 0
                    · rw [if_pos c20] at hm ⊢
                      refine tr_eq (t_fI I T_v0 (by decide) (by decide) rfl) ?_
                      have T13 : tg (gP w1 v0 18) = 0 := t_tg (c := 11) I T_v0 (by decide) (by decide) rfl (by decide)
                      refine tr_eq (t_fR I T_v0 (by decide) (by decide) (by decide)) ?_
                      refine tr_eq (t_fI I T_v0 (by decide) (by decide) rfl) ?_
                      obtain ⟨x14, hx14, hm⟩ := hp_bd hm
                      refine tr_eq (t_aI I T13 (by decide) rfl hx14) ?_
                      have T15 : tg (gP w1 v0 11) = 0 := t_tg (c := 11) I T_v0 (by decide) (by decide) rfl (by decide)
                      refine tr_eq (t_fR I T_v0 (by decide) (by decide) (by decide)) ?_
                      refine tr_eq (t_fI I T_v0 (by decide) (by decide) rfl) ?_
                      obtain ⟨w16, hw16, hm⟩ := hp_bd hm
                      obtain ⟨_, e2, I, F⟩ := t_sI I F T15 (by decide) rfl hw16
                      refine tr_eq e2 ?_
                      have T17 : tg (gP w16 v0 12) = 0 := t_tg (c := 11) I T_v0 (by decide) (by decide) rfl (by decide)
                      refine tr_eq (t_fR I T_v0 (by decide) (by decide) (by decide)) ?_
                      refine tr_eq (t_fI I T_v0 (by decide) (by decide) rfl) ?_
                      obtain ⟨w18, hw18, hm⟩ := hp_bd hm
                      obtain ⟨_, e2, I, F⟩ := t_sI I F T17 (by decide) rfl hw18
                      refine tr_eq e2 ?_
                      obtain ⟨w19, hw19, hm⟩ := hp_bd hm
                      obtain ⟨_, e2, I, F⟩ := t_wF (c := 11) (k := 34) I F T_v0 (by decide) (by decide) rfl hw19
                      refine tr_eq e2 ?_
                      obtain rfl := Option.some.inj hm
                      exact ⟨_, rfl, I, F⟩
                    · rw [if_neg c20] at hm ⊢
                      obtain rfl := Option.some.inj hm
                      exact ⟨_, rfl, I, F⟩
            · rw [if_neg c24] at hm ⊢
              obtain rfl := Option.some.inj hm
              exact ⟨_, rfl, I, F⟩
          · rw [if_neg c27] at hm ⊢
            refine tr_eq (t_fI I T_v0 (by decide) (by decide) rfl) ?_
            by_cases c26 : (gF w1 v0 33) = 0
            · rw [if_pos c26] at hm ⊢
              obtain rfl := Option.some.inj hm
              exact ⟨_, rfl, I, F⟩
            · rw [if_neg c26] at hm ⊢
              obtain ⟨x25, hx25, hm⟩ := hp_bd hm
              obtain ⟨_, e2, I, F⟩ := t_X11_closeBlock I F T_v0 hx25
              refine tr_eq e2 ?_
              obtain rfl := Option.some.inj hm
              exact ⟨_, rfl, I, F⟩
        · rw [if_neg c30] at hm ⊢
          refine tr_eq (t_fI I T_v0 (by decide) (by decide) rfl) ?_
          obtain ⟨w28, hw28, hm⟩ := hp_bd hm
          obtain ⟨_, e2, I, F⟩ := t_wF (c := 11) (k := 33) I F T_v0 (by decide) (by decide) rfl hw28
          refine tr_eq e2 ?_
          refine tr_eq (t_fI I T_v0 (by decide) (by decide) rfl) ?_
          by_cases c29 : (gF w28 v0 33) ≤ (16 : Int32)
          · rw [if_pos c29] at hm ⊢
            obtain rfl := Option.some.inj hm
            exact ⟨_, rfl, I, F⟩
          · rw [if_neg c29] at hm ⊢
            obtain rfl := Option.some.inj hm
            exact ⟨_, rfl, I, F⟩
      · rw [if_neg c31] at hm ⊢
        exact t_X11_outside_50 I F T_v0 hm
    · rw [if_neg c32] at hm ⊢
      exact t_X11_outside_50 I F T_v0 hm
  · rw [if_neg c35] at hm ⊢
    obtain ⟨w33, hw33, hm⟩ := hp_bd hm
    obtain ⟨_, e2, I, F⟩ := t_wF (c := 11) (k := 34) I F T_v0 (by decide) (by decide) rfl hw33
    refine tr_eq e2 ?_
    refine tr_eq (t_fI I T_v0 (by decide) (by decide) rfl) ?_
    by_cases c34 : (gF w33 v0 33) ≤ 0
    · rw [if_pos c34] at hm ⊢
      obtain rfl := Option.some.inj hm
      exact ⟨_, rfl, I, F⟩
    · rw [if_neg c34] at hm ⊢
      obtain rfl := Option.some.inj hm
      exact ⟨_, rfl, I, F⟩
def g_X11_outside (n : Nat) (v0 : Nat) (s : st_T) : Option (Int32 × st_T) := g_X11_outside_0 n v0 s
theorem t_X11_outside {tg r : Nat → Nat} {h hb : hp_H} {s sb : st_T} {n : Nat} {v0 : Nat} (I : iso tg r h s) (F : isf tg r hb h sb s) (T_v0 : tg v0 = 21) {res : Int32 × st_T} (hm : g_X11_outside n v0 s = some res) : ∃ h2, f_X11_outside n (r v0) h = some ((res.1, h2)) ∧ iso tg r h2 res.2 ∧ isf tg r hb h2 sb res.2 := by
  unfold g_X11_outside at hm
  unfold f_X11_outside
  refine tr_eq (t_ck I T_v0 (by decide)) ?_
  exact t_X11_outside_0 I F T_v0 hm
def g_X11_kindOf_141 (n : Nat) (s0 : Int32) (s1 : Nat) (s : st_T) : Option (Int32 × st_T) :=
  (wF s s1 34 s0).bind fun w1 =>
  some ((0 : Int32), w1)
set_option maxHeartbeats 1000000 in
theorem t_X11_kindOf_141 {tg r : Nat → Nat} {h hb : hp_H} {s sb : st_T} {n : Nat} {s0 : Int32} {s1 : Nat} (I : iso tg r h s) (F : isf tg r hb h sb s) (T_s1 : tg s1 = 21) {res : Int32 × st_T} (hm : g_X11_kindOf_141 n s0 s1 s = some res) : ∃ h2, f_X11_kindOf_141 n s0 (r s1) h = some ((res.1, h2)) ∧ iso tg r h2 res.2 ∧ isf tg r hb h2 sb res.2 := by
  unfold g_X11_kindOf_141 at hm
  unfold f_X11_kindOf_141
  obtain ⟨w1, hw1, hm⟩ := hp_bd hm
  obtain ⟨_, e2, I, F⟩ := t_wF (c := 11) (k := 34) I F T_s1 (by decide) (by decide) rfl hw1
  refine tr_eq e2 ?_
  obtain rfl := Option.some.inj hm
  exact ⟨_, rfl, I, F⟩
def g_X11_kindOf_53 (n : Nat) (v0 : Nat) (s0 : Int32) (s : st_T) : Option (Int32 × st_T) :=
  if 0 ≤ s0 then
    (gA s (gP s v0 18) (gF s v0 32)).bind fun x2 =>
    (uA 0 s (gP s v0 10) (((200 : Int32) * (gF s v0 32)) + x2) s0).bind fun w4 =>
    (uA 0 w4 (gP w4 v0 13) (((200 : Int32) * (gF s v0 32)) + x2) (gF w4 v0 33)).bind fun w6 =>
    (uA 0 w6 (gP w6 v0 14) (((200 : Int32) * (gF s v0 32)) + x2) (gF w6 v0 36)).bind fun w8 =>
    (uA 0 w8 (gP w8 v0 15) (((200 : Int32) * (gF s v0 32)) + x2) (0 : Int32)).bind fun w10 =>
    (uA 0 w10 (gP w10 v0 16) (((200 : Int32) * (gF s v0 32)) + x2) (gF w10 v0 37)).bind fun w12 =>
    (uA 0 w12 (gP w12 v0 17) (((200 : Int32) * (gF s v0 32)) + x2) (0 : Int32)).bind fun w14 =>
    if s0 = 0 then
      g_X11_kindOf_141 n (5 : Int32) v0 w14
    else
      g_X11_kindOf_141 n (6 : Int32) v0 w14
  else
    some ((3 : Int32), s)
set_option maxHeartbeats 1000000 in
theorem t_X11_kindOf_53 {tg r : Nat → Nat} {h hb : hp_H} {s sb : st_T} {n : Nat} {v0 : Nat} {s0 : Int32} (I : iso tg r h s) (F : isf tg r hb h sb s) (T_v0 : tg v0 = 21) {res : Int32 × st_T} (hm : g_X11_kindOf_53 n v0 s0 s = some res) : ∃ h2, f_X11_kindOf_53 n (r v0) s0 h = some ((res.1, h2)) ∧ iso tg r h2 res.2 ∧ isf tg r hb h2 sb res.2 := by
  unfold g_X11_kindOf_53 at hm
  unfold f_X11_kindOf_53
  by_cases c16 : 0 ≤ s0
  · rw [if_pos c16] at hm ⊢
    refine tr_eq (t_fI I T_v0 (by decide) (by decide) rfl) ?_
    have T1 : tg (gP s v0 18) = 0 := t_tg (c := 11) I T_v0 (by decide) (by decide) rfl (by decide)
    refine tr_eq (t_fR I T_v0 (by decide) (by decide) (by decide)) ?_
    refine tr_eq (t_fI I T_v0 (by decide) (by decide) rfl) ?_
    obtain ⟨x2, hx2, hm⟩ := hp_bd hm
    refine tr_eq (t_aI I T1 (by decide) rfl hx2) ?_
    have T3 : tg (gP s v0 10) = 0 := t_tg (c := 11) I T_v0 (by decide) (by decide) rfl (by decide)
    refine tr_eq (t_fR I T_v0 (by decide) (by decide) (by decide)) ?_
    obtain ⟨w4, hw4, hm⟩ := hp_bd hm
    obtain ⟨_, e2, I, F⟩ := t_sI I F T3 (by decide) rfl hw4
    refine tr_eq e2 ?_
    have T5 : tg (gP w4 v0 13) = 0 := t_tg (c := 11) I T_v0 (by decide) (by decide) rfl (by decide)
    refine tr_eq (t_fR I T_v0 (by decide) (by decide) (by decide)) ?_
    refine tr_eq (t_fI I T_v0 (by decide) (by decide) rfl) ?_
    obtain ⟨w6, hw6, hm⟩ := hp_bd hm
    obtain ⟨_, e2, I, F⟩ := t_sI I F T5 (by decide) rfl hw6
    refine tr_eq e2 ?_
    have T7 : tg (gP w6 v0 14) = 0 := t_tg (c := 11) I T_v0 (by decide) (by decide) rfl (by decide)
    refine tr_eq (t_fR I T_v0 (by decide) (by decide) (by decide)) ?_
    refine tr_eq (t_fI I T_v0 (by decide) (by decide) rfl) ?_
    obtain ⟨w8, hw8, hm⟩ := hp_bd hm
    obtain ⟨_, e2, I, F⟩ := t_sI I F T7 (by decide) rfl hw8
    refine tr_eq e2 ?_
    have T9 : tg (gP w8 v0 15) = 0 := t_tg (c := 11) I T_v0 (by decide) (by decide) rfl (by decide)
    refine tr_eq (t_fR I T_v0 (by decide) (by decide) (by decide)) ?_
    obtain ⟨w10, hw10, hm⟩ := hp_bd hm
    obtain ⟨_, e2, I, F⟩ := t_sI I F T9 (by decide) rfl hw10
    refine tr_eq e2 ?_
    have T11 : tg (gP w10 v0 16) = 0 := t_tg (c := 11) I T_v0 (by decide) (by decide) rfl (by decide)
    refine tr_eq (t_fR I T_v0 (by decide) (by decide) (by decide)) ?_
    refine tr_eq (t_fI I T_v0 (by decide) (by decide) rfl) ?_
    obtain ⟨w12, hw12, hm⟩ := hp_bd hm
    obtain ⟨_, e2, I, F⟩ := t_sI I F T11 (by decide) rfl hw12
    refine tr_eq e2 ?_
    have T13 : tg (gP w12 v0 17) = 0 := t_tg (c := 11) I T_v0 (by decide) (by decide) rfl (by decide)
    refine tr_eq (t_fR I T_v0 (by decide) (by decide) (by decide)) ?_
    obtain ⟨w14, hw14, hm⟩ := hp_bd hm
    obtain ⟨_, e2, I, F⟩ := t_sI I F T13 (by decide) rfl hw14
    refine tr_eq e2 ?_
    by_cases c15 : s0 = 0
    · rw [if_pos c15] at hm ⊢
      exact t_X11_kindOf_141 I F T_v0 hm
    · rw [if_neg c15] at hm ⊢
      exact t_X11_kindOf_141 I F T_v0 hm
  · rw [if_neg c16] at hm ⊢
    obtain rfl := Option.some.inj hm
    exact ⟨_, rfl, I, F⟩
def g_X11_kindOf_0 (n : Nat) (v0 : Nat) (s : st_T) : Option (Int32 × st_T) :=
  (g_X11_isWord n v0 (102 : Int32) s).bind fun x1 =>
  if x1 = 0 then
    (g_X11_isWord n v0 (101 : Int32) s).bind fun x2 =>
    if x2 = 0 then
      (g_X11_isWord n v0 (97 : Int32) s).bind fun x3 =>
      if x3 = 0 then
        (g_X11_isWord n v0 (112 : Int32) s).bind fun x4 =>
        if x4 = 0 then
          g_X11_kindOf_53 n v0 (-1 : Int32) s
        else
          g_X11_kindOf_53 n v0 (3 : Int32) s
      else
        g_X11_kindOf_53 n v0 (2 : Int32) s
    else
      g_X11_kindOf_53 n v0 (1 : Int32) s
  else
    g_X11_kindOf_53 n v0 (0 : Int32) s
set_option maxHeartbeats 1000000 in
theorem t_X11_kindOf_0 {tg r : Nat → Nat} {h hb : hp_H} {s sb : st_T} {n : Nat} {v0 : Nat} (I : iso tg r h s) (F : isf tg r hb h sb s) (T_v0 : tg v0 = 21) {res : Int32 × st_T} (hm : g_X11_kindOf_0 n v0 s = some res) : ∃ h2, f_X11_kindOf_0 n (r v0) h = some ((res.1, h2)) ∧ iso tg r h2 res.2 ∧ isf tg r hb h2 sb res.2 := by
  unfold g_X11_kindOf_0 at hm
  unfold f_X11_kindOf_0
  obtain ⟨x1, hx1, hm⟩ := hp_bd hm
  refine tr_eq (t_X11_isWord I T_v0 hx1) ?_
  by_cases c8 : x1 = 0
  · rw [if_pos c8] at hm ⊢
    obtain ⟨x2, hx2, hm⟩ := hp_bd hm
    refine tr_eq (t_X11_isWord I T_v0 hx2) ?_
    by_cases c7 : x2 = 0
    · rw [if_pos c7] at hm ⊢
      obtain ⟨x3, hx3, hm⟩ := hp_bd hm
      refine tr_eq (t_X11_isWord I T_v0 hx3) ?_
      by_cases c6 : x3 = 0
      · rw [if_pos c6] at hm ⊢
        obtain ⟨x4, hx4, hm⟩ := hp_bd hm
        refine tr_eq (t_X11_isWord I T_v0 hx4) ?_
        by_cases c5 : x4 = 0
        · rw [if_pos c5] at hm ⊢
          exact t_X11_kindOf_53 I F T_v0 hm
        · rw [if_neg c5] at hm ⊢
          exact t_X11_kindOf_53 I F T_v0 hm
      · rw [if_neg c6] at hm ⊢
        exact t_X11_kindOf_53 I F T_v0 hm
    · rw [if_neg c7] at hm ⊢
      exact t_X11_kindOf_53 I F T_v0 hm
  · rw [if_neg c8] at hm ⊢
    exact t_X11_kindOf_53 I F T_v0 hm
def g_X11_kindOf (n : Nat) (v0 : Nat) (s : st_T) : Option (Int32 × st_T) := g_X11_kindOf_0 n v0 s
theorem t_X11_kindOf {tg r : Nat → Nat} {h hb : hp_H} {s sb : st_T} {n : Nat} {v0 : Nat} (I : iso tg r h s) (F : isf tg r hb h sb s) (T_v0 : tg v0 = 21) {res : Int32 × st_T} (hm : g_X11_kindOf n v0 s = some res) : ∃ h2, f_X11_kindOf n (r v0) h = some ((res.1, h2)) ∧ iso tg r h2 res.2 ∧ isf tg r hb h2 sb res.2 := by
  unfold g_X11_kindOf at hm
  unfold f_X11_kindOf
  refine tr_eq (t_ck I T_v0 (by decide)) ?_
  exact t_X11_kindOf_0 I F T_v0 hm
def g_X11_declared_254 (n : Nat) (v0 : Nat) (s : st_T) : Option (Int32 × st_T) :=
  (wF s v0 35 ((gF s v0 35) + (1 : Int32))).bind fun w1 =>
  some ((0 : Int32), w1)
set_option maxHeartbeats 1000000 in
theorem t_X11_declared_254 {tg r : Nat → Nat} {h hb : hp_H} {s sb : st_T} {n : Nat} {v0 : Nat} (I : iso tg r h s) (F : isf tg r hb h sb s) (T_v0 : tg v0 = 21) {res : Int32 × st_T} (hm : g_X11_declared_254 n v0 s = some res) : ∃ h2, f_X11_declared_254 n (r v0) h = some ((res.1, h2)) ∧ iso tg r h2 res.2 ∧ isf tg r hb h2 sb res.2 := by
  unfold g_X11_declared_254 at hm
  unfold f_X11_declared_254
  refine tr_eq (t_fI I T_v0 (by decide) (by decide) rfl) ?_
  obtain ⟨w1, hw1, hm⟩ := hp_bd hm
  obtain ⟨_, e2, I, F⟩ := t_wF (c := 11) (k := 35) I F T_v0 (by decide) (by decide) rfl hw1
  refine tr_eq e2 ?_
  obtain rfl := Option.some.inj hm
  exact ⟨_, rfl, I, F⟩
def g_X11_declared_236 (n : Nat) (v0 : Nat) (v1 : Int32) (s : st_T) : Option (Int32 × st_T) :=
  if (gF s v0 34) = (3 : Int32) then
    (uA 0 s (gP s v0 38) v1 (gF s v0 33)).bind fun w2 =>
    g_X11_declared_254 n v0 w2
  else
    g_X11_declared_254 n v0 s
set_option maxHeartbeats 1000000 in
theorem t_X11_declared_236 {tg r : Nat → Nat} {h hb : hp_H} {s sb : st_T} {n : Nat} {v0 : Nat} {v1 : Int32} (I : iso tg r h s) (F : isf tg r hb h sb s) (T_v0 : tg v0 = 21) {res : Int32 × st_T} (hm : g_X11_declared_236 n v0 v1 s = some res) : ∃ h2, f_X11_declared_236 n (r v0) v1 h = some ((res.1, h2)) ∧ iso tg r h2 res.2 ∧ isf tg r hb h2 sb res.2 := by
  unfold g_X11_declared_236 at hm
  unfold f_X11_declared_236
  refine tr_eq (t_fI I T_v0 (by decide) (by decide) rfl) ?_
  by_cases c3 : (gF s v0 34) = (3 : Int32)
  · rw [if_pos c3] at hm ⊢
    have T1 : tg (gP s v0 38) = 0 := t_tg (c := 11) I T_v0 (by decide) (by decide) rfl (by decide)
    refine tr_eq (t_fR I T_v0 (by decide) (by decide) (by decide)) ?_
    refine tr_eq (t_fI I T_v0 (by decide) (by decide) rfl) ?_
    obtain ⟨w2, hw2, hm⟩ := hp_bd hm
    obtain ⟨_, e2, I, F⟩ := t_sI I F T1 (by decide) rfl hw2
    refine tr_eq e2 ?_
    exact t_X11_declared_254 I F T_v0 hm
  · rw [if_neg c3] at hm ⊢
    exact t_X11_declared_254 I F T_v0 hm
def g_X11_declared_222 (n : Nat) (v0 : Nat) (v1 : Int32) (s0 : Int32) (s1 : Int32) (s2 : Nat) (s : st_T) : Option (Int32 × st_T) :=
  (uA 2 s s2 s1 s0).bind fun w1 =>
  (gA w1 (gP w1 v0 9) (gF w1 v0 32)).bind fun x3 =>
  (uA 0 w1 (gP w1 v0 9) (gF w1 v0 32) (x3 + (1 : Int32))).bind fun w4 =>
  g_X11_declared_236 n v0 v1 w4
set_option maxHeartbeats 1000000 in
theorem t_X11_declared_222 {tg r : Nat → Nat} {h hb : hp_H} {s sb : st_T} {n : Nat} {v0 : Nat} {v1 : Int32} {s0 : Int32} {s1 : Int32} {s2 : Nat} (I : iso tg r h s) (F : isf tg r hb h sb s) (T_v0 : tg v0 = 21) (T_s2 : tg s2 = 2) {res : Int32 × st_T} (hm : g_X11_declared_222 n v0 v1 s0 s1 s2 s = some res) : ∃ h2, f_X11_declared_222 n (r v0) v1 s0 s1 (r s2) h = some ((res.1, h2)) ∧ iso tg r h2 res.2 ∧ isf tg r hb h2 sb res.2 := by
  unfold g_X11_declared_222 at hm
  unfold f_X11_declared_222
  obtain ⟨w1, hw1, hm⟩ := hp_bd hm
  obtain ⟨_, e2, I, F⟩ := t_sI I F T_s2 (by decide) rfl hw1
  refine tr_eq e2 ?_
  have T2 : tg (gP w1 v0 9) = 0 := t_tg (c := 11) I T_v0 (by decide) (by decide) rfl (by decide)
  refine tr_eq (t_fR I T_v0 (by decide) (by decide) (by decide)) ?_
  refine tr_eq (t_fI I T_v0 (by decide) (by decide) rfl) ?_
  obtain ⟨x3, hx3, hm⟩ := hp_bd hm
  refine tr_eq (t_aI I T2 (by decide) rfl hx3) ?_
  obtain ⟨w4, hw4, hm⟩ := hp_bd hm
  obtain ⟨_, e2, I, F⟩ := t_sI I F T2 (by decide) rfl hw4
  refine tr_eq e2 ?_
  exact t_X11_declared_236 I F T_v0 hm
def g_X11_declared_125 (n : Nat) (v0 : Nat) (v1 : Int32) (v2 : Int32) (s0 : Int32) (s : st_T) : Option (Int32 × st_T) :=
  if v2 = 0 then
    if s0 = 0 then
      (g_X11_labelHere n v0 s).bind fun x1 =>
      if x1 < 0 then
        if 0 ≤ v1 then
          g_X11_declared_236 n v0 v1 s
        else
          (gA s (gP s v0 9) (gF s v0 32)).bind fun x3 =>
          (uA 0 s (gP s v0 6) (((300 : Int32) * (gF s v0 32)) + x3) (gF s v0 29)).bind fun w5 =>
          (uA 0 w5 (gP w5 v0 7) (((300 : Int32) * (gF w5 v0 32)) + x3) (gF w5 v0 30)).bind fun w7 =>
          if (gF w7 v0 34) = (3 : Int32) then
            g_X11_declared_222 n v0 x3 (1 : Int32) (((300 : Int32) * (gF w7 v0 32)) + x3) (gP w7 v0 8) w7
          else
            g_X11_declared_222 n v0 x3 (0 : Int32) (((300 : Int32) * (gF w7 v0 32)) + x3) (gP w7 v0 8) w7
      else
        some ((5 : Int32), s)
    else
      some ((5 : Int32), s)
  else
    some ((5 : Int32), s)
set_option maxHeartbeats 1000000 in
theorem t_X11_declared_125 {tg r : Nat → Nat} {h hb : hp_H} {s sb : st_T} {n : Nat} {v0 : Nat} {v1 : Int32} {v2 : Int32} {s0 : Int32} (I : iso tg r h s) (F : isf tg r hb h sb s) (T_v0 : tg v0 = 21) {res : Int32 × st_T} (hm : g_X11_declared_125 n v0 v1 v2 s0 s = some res) : ∃ h2, f_X11_declared_125 n (r v0) v1 v2 s0 h = some ((res.1, h2)) ∧ iso tg r h2 res.2 ∧ isf tg r hb h2 sb res.2 := by
  unfold g_X11_declared_125 at hm
  unfold f_X11_declared_125
  by_cases c13 : v2 = 0
  · rw [if_pos c13] at hm ⊢
    by_cases c12 : s0 = 0
    · rw [if_pos c12] at hm ⊢
      obtain ⟨x1, hx1, hm⟩ := hp_bd hm
      refine tr_eq (t_X11_labelHere I T_v0 hx1) ?_
      by_cases c11 : x1 < 0
      · rw [if_pos c11] at hm ⊢
        by_cases c10 : 0 ≤ v1
        · rw [if_pos c10] at hm ⊢
          exact t_X11_declared_236 I F T_v0 hm
        · rw [if_neg c10] at hm ⊢
          have T2 : tg (gP s v0 9) = 0 := t_tg (c := 11) I T_v0 (by decide) (by decide) rfl (by decide)
          refine tr_eq (t_fR I T_v0 (by decide) (by decide) (by decide)) ?_
          refine tr_eq (t_fI I T_v0 (by decide) (by decide) rfl) ?_
          obtain ⟨x3, hx3, hm⟩ := hp_bd hm
          refine tr_eq (t_aI I T2 (by decide) rfl hx3) ?_
          have T4 : tg (gP s v0 6) = 0 := t_tg (c := 11) I T_v0 (by decide) (by decide) rfl (by decide)
          refine tr_eq (t_fR I T_v0 (by decide) (by decide) (by decide)) ?_
          refine tr_eq (t_fI I T_v0 (by decide) (by decide) rfl) ?_
          refine tr_eq (t_fI I T_v0 (by decide) (by decide) rfl) ?_
          obtain ⟨w5, hw5, hm⟩ := hp_bd hm
          obtain ⟨_, e2, I, F⟩ := t_sI I F T4 (by decide) rfl hw5
          refine tr_eq e2 ?_
          have T6 : tg (gP w5 v0 7) = 0 := t_tg (c := 11) I T_v0 (by decide) (by decide) rfl (by decide)
          refine tr_eq (t_fR I T_v0 (by decide) (by decide) (by decide)) ?_
          refine tr_eq (t_fI I T_v0 (by decide) (by decide) rfl) ?_
          refine tr_eq (t_fI I T_v0 (by decide) (by decide) rfl) ?_
          obtain ⟨w7, hw7, hm⟩ := hp_bd hm
          obtain ⟨_, e2, I, F⟩ := t_sI I F T6 (by decide) rfl hw7
          refine tr_eq e2 ?_
          have T8 : tg (gP w7 v0 8) = 2 := t_tg (c := 11) I T_v0 (by decide) (by decide) rfl (by decide)
          refine tr_eq (t_fR I T_v0 (by decide) (by decide) (by decide)) ?_
          refine tr_eq (t_fI I T_v0 (by decide) (by decide) rfl) ?_
          refine tr_eq (t_fI I T_v0 (by decide) (by decide) rfl) ?_
          by_cases c9 : (gF w7 v0 34) = (3 : Int32)
          · rw [if_pos c9] at hm ⊢
            exact t_X11_declared_222 I F T_v0 T8 hm
          · rw [if_neg c9] at hm ⊢
            exact t_X11_declared_222 I F T_v0 T8 hm
      · rw [if_neg c11] at hm ⊢
        obtain rfl := Option.some.inj hm
        exact ⟨_, rfl, I, F⟩
    · rw [if_neg c12] at hm ⊢
      obtain rfl := Option.some.inj hm
      exact ⟨_, rfl, I, F⟩
  · rw [if_neg c13] at hm ⊢
    obtain rfl := Option.some.inj hm
    exact ⟨_, rfl, I, F⟩
def g_X11_declared_124 (n : Nat) (v0 : Nat) (v1 : Int32) (v2 : Int32) (s : st_T) : Option (Int32 × st_T) :=
  g_X11_declared_125 n v0 v1 v2 (0 : Int32) s
set_option maxHeartbeats 1000000 in
theorem t_X11_declared_124 {tg r : Nat → Nat} {h hb : hp_H} {s sb : st_T} {n : Nat} {v0 : Nat} {v1 : Int32} {v2 : Int32} (I : iso tg r h s) (F : isf tg r hb h sb s) (T_v0 : tg v0 = 21) {res : Int32 × st_T} (hm : g_X11_declared_124 n v0 v1 v2 s = some res) : ∃ h2, f_X11_declared_124 n (r v0) v1 v2 h = some ((res.1, h2)) ∧ iso tg r h2 res.2 ∧ isf tg r hb h2 sb res.2 := by
  unfold g_X11_declared_124 at hm
  unfold f_X11_declared_124
  exact t_X11_declared_125 I F T_v0 hm
def g_X11_declared_86 (n : Nat) (v0 : Nat) (v1 : Int32) (s0 : Int32) (s : st_T) : Option (Int32 × st_T) :=
  if (gF s v0 34) = (2 : Int32) then
    if v1 < 0 then
      g_X11_declared_125 n v0 v1 s0 (0 : Int32) s
    else
      g_X11_declared_125 n v0 v1 s0 (1 : Int32) s
  else
    if v1 < 0 then
      g_X11_declared_124 n v0 v1 s0 s
    else
      (gA s (gP s v0 38) v1).bind fun x2 =>
      if x2 < 0 then
        g_X11_declared_124 n v0 v1 s0 s
      else
        g_X11_declared_125 n v0 v1 s0 (1 : Int32) s
set_option maxHeartbeats 1000000 in
theorem t_X11_declared_86 {tg r : Nat → Nat} {h hb : hp_H} {s sb : st_T} {n : Nat} {v0 : Nat} {v1 : Int32} {s0 : Int32} (I : iso tg r h s) (F : isf tg r hb h sb s) (T_v0 : tg v0 = 21) {res : Int32 × st_T} (hm : g_X11_declared_86 n v0 v1 s0 s = some res) : ∃ h2, f_X11_declared_86 n (r v0) v1 s0 h = some ((res.1, h2)) ∧ iso tg r h2 res.2 ∧ isf tg r hb h2 sb res.2 := by
  unfold g_X11_declared_86 at hm
  unfold f_X11_declared_86
  refine tr_eq (t_fI I T_v0 (by decide) (by decide) rfl) ?_
  by_cases c6 : (gF s v0 34) = (2 : Int32)
  · rw [if_pos c6] at hm ⊢
    by_cases c5 : v1 < 0
    · rw [if_pos c5] at hm ⊢
      exact t_X11_declared_125 I F T_v0 hm
    · rw [if_neg c5] at hm ⊢
      exact t_X11_declared_125 I F T_v0 hm
  · rw [if_neg c6] at hm ⊢
    by_cases c4 : v1 < 0
    · rw [if_pos c4] at hm ⊢
      exact t_X11_declared_124 I F T_v0 hm
    · rw [if_neg c4] at hm ⊢
      have T1 : tg (gP s v0 38) = 0 := t_tg (c := 11) I T_v0 (by decide) (by decide) rfl (by decide)
      refine tr_eq (t_fR I T_v0 (by decide) (by decide) (by decide)) ?_
      obtain ⟨x2, hx2, hm⟩ := hp_bd hm
      refine tr_eq (t_aI I T1 (by decide) rfl hx2) ?_
      by_cases c3 : x2 < 0
      · rw [if_pos c3] at hm ⊢
        exact t_X11_declared_124 I F T_v0 hm
      · rw [if_neg c3] at hm ⊢
        exact t_X11_declared_125 I F T_v0 hm
def g_X11_declared_85 (n : Nat) (v0 : Nat) (v1 : Int32) (s : st_T) : Option (Int32 × st_T) :=
  g_X11_declared_86 n v0 v1 (0 : Int32) s
set_option maxHeartbeats 1000000 in
theorem t_X11_declared_85 {tg r : Nat → Nat} {h hb : hp_H} {s sb : st_T} {n : Nat} {v0 : Nat} {v1 : Int32} (I : iso tg r h s) (F : isf tg r hb h sb s) (T_v0 : tg v0 = 21) {res : Int32 × st_T} (hm : g_X11_declared_85 n v0 v1 s = some res) : ∃ h2, f_X11_declared_85 n (r v0) v1 h = some ((res.1, h2)) ∧ iso tg r h2 res.2 ∧ isf tg r hb h2 sb res.2 := by
  unfold g_X11_declared_85 at hm
  unfold f_X11_declared_85
  exact t_X11_declared_86 I F T_v0 hm
def g_X11_declared_59 (n : Nat) (v0 : Nat) (v1 : Int32) (s : st_T) : Option (Int32 × st_T) :=
  if v1 < 0 then
    g_X11_declared_85 n v0 v1 s
  else
    (gA s (gP s v0 8) (((300 : Int32) * (gF s v0 32)) + v1)).bind fun x2 =>
    if x2 = 0 then
      g_X11_declared_86 n v0 v1 (1 : Int32) s
    else
      g_X11_declared_85 n v0 v1 s
set_option maxHeartbeats 1000000 in
theorem t_X11_declared_59 {tg r : Nat → Nat} {h hb : hp_H} {s sb : st_T} {n : Nat} {v0 : Nat} {v1 : Int32} (I : iso tg r h s) (F : isf tg r hb h sb s) (T_v0 : tg v0 = 21) {res : Int32 × st_T} (hm : g_X11_declared_59 n v0 v1 s = some res) : ∃ h2, f_X11_declared_59 n (r v0) v1 h = some ((res.1, h2)) ∧ iso tg r h2 res.2 ∧ isf tg r hb h2 sb res.2 := by
  unfold g_X11_declared_59 at hm
  unfold f_X11_declared_59
  by_cases c4 : v1 < 0
  · rw [if_pos c4] at hm ⊢
    exact t_X11_declared_85 I F T_v0 hm
  · rw [if_neg c4] at hm ⊢
    have T1 : tg (gP s v0 8) = 2 := t_tg (c := 11) I T_v0 (by decide) (by decide) rfl (by decide)
    refine tr_eq (t_fR I T_v0 (by decide) (by decide) (by decide)) ?_
    refine tr_eq (t_fI I T_v0 (by decide) (by decide) rfl) ?_
    obtain ⟨x2, hx2, hm⟩ := hp_bd hm
    refine tr_eq (t_aI I T1 (by decide) rfl hx2) ?_
    by_cases c3 : x2 = 0
    · rw [if_pos c3] at hm ⊢
      exact t_X11_declared_86 I F T_v0 hm
    · rw [if_neg c3] at hm ⊢
      exact t_X11_declared_85 I F T_v0 hm
def g_X11_declared_23 (n : Nat) (v0 : Nat) (s : st_T) : Option (Int32 × st_T) :=
  (g_X11_hasDollar n v0 s).bind fun x1 =>
  if x1 = 0 then
    (g_X11_symbolHere n v0 s).bind fun x2 =>
    if 0 ≤ x2 then
      g_X11_declared_59 n v0 x2 s
    else
      (gA s (gP s v0 9) (gF s v0 32)).bind fun x4 =>
      if x4 = (300 : Int32) then
        some ((7 : Int32), s)
      else
        g_X11_declared_59 n v0 x2 s
  else
    some ((3 : Int32), s)
set_option maxHeartbeats 1000000 in
theorem t_X11_declared_23 {tg r : Nat → Nat} {h hb : hp_H} {s sb : st_T} {n : Nat} {v0 : Nat} (I : iso tg r h s) (F : isf tg r hb h sb s) (T_v0 : tg v0 = 21) {res : Int32 × st_T} (hm : g_X11_declared_23 n v0 s = some res) : ∃ h2, f_X11_declared_23 n (r v0) h = some ((res.1, h2)) ∧ iso tg r h2 res.2 ∧ isf tg r hb h2 sb res.2 := by
  unfold g_X11_declared_23 at hm
  unfold f_X11_declared_23
  obtain ⟨x1, hx1, hm⟩ := hp_bd hm
  refine tr_eq (t_X11_hasDollar I T_v0 hx1) ?_
  by_cases c7 : x1 = 0
  · rw [if_pos c7] at hm ⊢
    obtain ⟨x2, hx2, hm⟩ := hp_bd hm
    refine tr_eq (t_X11_symbolHere I T_v0 hx2) ?_
    by_cases c6 : 0 ≤ x2
    · rw [if_pos c6] at hm ⊢
      exact t_X11_declared_59 I F T_v0 hm
    · rw [if_neg c6] at hm ⊢
      have T3 : tg (gP s v0 9) = 0 := t_tg (c := 11) I T_v0 (by decide) (by decide) rfl (by decide)
      refine tr_eq (t_fR I T_v0 (by decide) (by decide) (by decide)) ?_
      refine tr_eq (t_fI I T_v0 (by decide) (by decide) rfl) ?_
      obtain ⟨x4, hx4, hm⟩ := hp_bd hm
      refine tr_eq (t_aI I T3 (by decide) rfl hx4) ?_
      by_cases c5 : x4 = (300 : Int32)
      · rw [if_pos c5] at hm ⊢
        obtain rfl := Option.some.inj hm
        exact ⟨_, rfl, I, F⟩
      · rw [if_neg c5] at hm ⊢
        exact t_X11_declared_59 I F T_v0 hm
  · rw [if_neg c7] at hm ⊢
    obtain rfl := Option.some.inj hm
    exact ⟨_, rfl, I, F⟩
def g_X11_declared_0 (n : Nat) (v0 : Nat) (s : st_T) : Option (Int32 × st_T) :=
  (g_X11_isWord n v0 (46 : Int32) s).bind fun x1 =>
  if x1 = 0 then
    g_X11_declared_23 n v0 s
  else
    if (gF s v0 35) ≤ 0 then
      g_X11_declared_23 n v0 s
    else
      (wF s v0 34 (0 : Int32)).bind fun w2 =>
      some ((0 : Int32), w2)
set_option maxHeartbeats 1000000 in
theorem t_X11_declared_0 {tg r : Nat → Nat} {h hb : hp_H} {s sb : st_T} {n : Nat} {v0 : Nat} (I : iso tg r h s) (F : isf tg r hb h sb s) (T_v0 : tg v0 = 21) {res : Int32 × st_T} (hm : g_X11_declared_0 n v0 s = some res) : ∃ h2, f_X11_declared_0 n (r v0) h = some ((res.1, h2)) ∧ iso tg r h2 res.2 ∧ isf tg r hb h2 sb res.2 := by
  unfold g_X11_declared_0 at hm
  unfold f_X11_declared_0
  obtain ⟨x1, hx1, hm⟩ := hp_bd hm
  refine tr_eq (t_X11_isWord I T_v0 hx1) ?_
  by_cases c4 : x1 = 0
  · rw [if_pos c4] at hm ⊢
    exact t_X11_declared_23 I F T_v0 hm
  · rw [if_neg c4] at hm ⊢
    refine tr_eq (t_fI I T_v0 (by decide) (by decide) rfl) ?_
    by_cases c3 : (gF s v0 35) ≤ 0
    · rw [if_pos c3] at hm ⊢
      exact t_X11_declared_23 I F T_v0 hm
    · rw [if_neg c3] at hm ⊢
      obtain ⟨w2, hw2, hm⟩ := hp_bd hm
      obtain ⟨_, e2, I, F⟩ := t_wF (c := 11) (k := 34) I F T_v0 (by decide) (by decide) rfl hw2
      refine tr_eq e2 ?_
      obtain rfl := Option.some.inj hm
      exact ⟨_, rfl, I, F⟩
def g_X11_declared (n : Nat) (v0 : Nat) (s : st_T) : Option (Int32 × st_T) := g_X11_declared_0 n v0 s
theorem t_X11_declared {tg r : Nat → Nat} {h hb : hp_H} {s sb : st_T} {n : Nat} {v0 : Nat} (I : iso tg r h s) (F : isf tg r hb h sb s) (T_v0 : tg v0 = 21) {res : Int32 × st_T} (hm : g_X11_declared n v0 s = some res) : ∃ h2, f_X11_declared n (r v0) h = some ((res.1, h2)) ∧ iso tg r h2 res.2 ∧ isf tg r hb h2 sb res.2 := by
  unfold g_X11_declared at hm
  unfold f_X11_declared
  refine tr_eq (t_ck I T_v0 (by decide)) ?_
  exact t_X11_declared_0 I F T_v0 hm
def g_X11_isOpenPair_55 (n : Nat) (v0 : Nat) (v1 : Int32) (v2 : Int32) (v4 : Int32) (s0 : Int32) (s : st_T) : Option ((Int32 × Int32) ⊕ (Int32)) :=
  some (.inl (s0, (v4 + (1 : Int32))))
set_option maxHeartbeats 1000000 in
theorem t_X11_isOpenPair_55 {tg r : Nat → Nat} {h : hp_H} {s : st_T} {n : Nat} {v0 : Nat} {v1 : Int32} {v2 : Int32} {v4 : Int32} {s0 : Int32} (I : iso tg r h s) (T_v0 : tg v0 = 21) {res : (Int32 × Int32) ⊕ (Int32)} (hm : g_X11_isOpenPair_55 n v0 v1 v2 v4 s0 s = some res) : f_X11_isOpenPair_55 n (r v0) v1 v2 v4 s0 h = some res := by
  unfold g_X11_isOpenPair_55 at hm
  unfold f_X11_isOpenPair_55
  obtain rfl := Option.some.inj hm
  rfl
def g_X11_isOpenPair_50 (n : Nat) (v0 : Nat) (v1 : Int32) (v2 : Int32) (v4 : Int32) (s : st_T) : Option ((Int32 × Int32) ⊕ (Int32)) :=
  g_X11_isOpenPair_55 n v0 v1 v2 v4 (1 : Int32) s
set_option maxHeartbeats 1000000 in
theorem t_X11_isOpenPair_50 {tg r : Nat → Nat} {h : hp_H} {s : st_T} {n : Nat} {v0 : Nat} {v1 : Int32} {v2 : Int32} {v4 : Int32} (I : iso tg r h s) (T_v0 : tg v0 = 21) {res : (Int32 × Int32) ⊕ (Int32)} (hm : g_X11_isOpenPair_50 n v0 v1 v2 v4 s = some res) : f_X11_isOpenPair_50 n (r v0) v1 v2 v4 h = some res := by
  unfold g_X11_isOpenPair_50 at hm
  unfold f_X11_isOpenPair_50
  exact t_X11_isOpenPair_55 I T_v0 hm
def g_X11_isOpenPair_54 (n : Nat) (v0 : Nat) (v1 : Int32) (v2 : Int32) (v4 : Int32) (s : st_T) : Option ((Int32 × Int32) ⊕ (Int32)) :=
  g_X11_isOpenPair_55 n v0 v1 v2 v4 (0 : Int32) s
set_option maxHeartbeats 1000000 in
theorem t_X11_isOpenPair_54 {tg r : Nat → Nat} {h : hp_H} {s : st_T} {n : Nat} {v0 : Nat} {v1 : Int32} {v2 : Int32} {v4 : Int32} (I : iso tg r h s) (T_v0 : tg v0 = 21) {res : (Int32 × Int32) ⊕ (Int32)} (hm : g_X11_isOpenPair_54 n v0 v1 v2 v4 s = some res) : f_X11_isOpenPair_54 n (r v0) v1 v2 v4 h = some res := by
  unfold g_X11_isOpenPair_54 at hm
  unfold f_X11_isOpenPair_54
  exact t_X11_isOpenPair_55 I T_v0 hm
def g_X11_isOpenPair_5 (n : Nat) (v0 : Nat) (v1 : Int32) (v2 : Int32) (v3 : Int32) (v4 : Int32) (s : st_T) : Option ((Int32 × Int32) ⊕ (Int32)) :=
  if (gF s v0 43) ≤ v4 then
    (hp_bz v3).bind fun _ =>
    some (.inr v3)
  else
    if v3 = 0 then
      (gA s (gP s v0 41) v4).bind fun x4 =>
      (gA s (gP s v0 24) x4).bind fun x5 =>
      if x5 = v1 then
        (gA s (gP s v0 41) v4).bind fun x8 =>
        (gA s (gP s v0 25) x8).bind fun x9 =>
        if x9 = v2 then
          g_X11_isOpenPair_50 n v0 v1 v2 v4 s
        else
          g_X11_isOpenPair_54 n v0 v1 v2 v4 s
      else
        g_X11_isOpenPair_54 n v0 v1 v2 v4 s
    else
      g_X11_isOpenPair_50 n v0 v1 v2 v4 s
set_option maxHeartbeats 1000000 in
theorem t_X11_isOpenPair_5 {tg r : Nat → Nat} {h : hp_H} {s : st_T} {n : Nat} {v0 : Nat} {v1 : Int32} {v2 : Int32} {v3 : Int32} {v4 : Int32} (I : iso tg r h s) (T_v0 : tg v0 = 21) {res : (Int32 × Int32) ⊕ (Int32)} (hm : g_X11_isOpenPair_5 n v0 v1 v2 v3 v4 s = some res) : f_X11_isOpenPair_5 n (r v0) v1 v2 v3 v4 h = some res := by
  unfold g_X11_isOpenPair_5 at hm
  unfold f_X11_isOpenPair_5
  refine tr_eq0 (t_fI I T_v0 (by decide) (by decide) rfl) ?_
  by_cases c13 : (gF s v0 43) ≤ v4
  · rw [if_pos c13] at hm ⊢
    obtain ⟨_, hu1, hm⟩ := hp_bd hm
    refine tr_eq0 hu1 ?_
    obtain rfl := Option.some.inj hm
    rfl
  · rw [if_neg c13] at hm ⊢
    by_cases c12 : v3 = 0
    · rw [if_pos c12] at hm ⊢
      have T2 : tg (gP s v0 24) = 0 := t_tg (c := 11) I T_v0 (by decide) (by decide) rfl (by decide)
      refine tr_eq0 (t_fR I T_v0 (by decide) (by decide) (by decide)) ?_
      have T3 : tg (gP s v0 41) = 0 := t_tg (c := 11) I T_v0 (by decide) (by decide) rfl (by decide)
      refine tr_eq0 (t_fR I T_v0 (by decide) (by decide) (by decide)) ?_
      obtain ⟨x4, hx4, hm⟩ := hp_bd hm
      refine tr_eq0 (t_aI I T3 (by decide) rfl hx4) ?_
      obtain ⟨x5, hx5, hm⟩ := hp_bd hm
      refine tr_eq0 (t_aI I T2 (by decide) rfl hx5) ?_
      by_cases c11 : x5 = v1
      · rw [if_pos c11] at hm ⊢
        have T6 : tg (gP s v0 25) = 0 := t_tg (c := 11) I T_v0 (by decide) (by decide) rfl (by decide)
        refine tr_eq0 (t_fR I T_v0 (by decide) (by decide) (by decide)) ?_
        have T7 : tg (gP s v0 41) = 0 := t_tg (c := 11) I T_v0 (by decide) (by decide) rfl (by decide)
        refine tr_eq0 (t_fR I T_v0 (by decide) (by decide) (by decide)) ?_
        obtain ⟨x8, hx8, hm⟩ := hp_bd hm
        refine tr_eq0 (t_aI I T7 (by decide) rfl hx8) ?_
        obtain ⟨x9, hx9, hm⟩ := hp_bd hm
        refine tr_eq0 (t_aI I T6 (by decide) rfl hx9) ?_
        by_cases c10 : x9 = v2
        · rw [if_pos c10] at hm ⊢
          exact t_X11_isOpenPair_50 I T_v0 hm
        · rw [if_neg c10] at hm ⊢
          exact t_X11_isOpenPair_54 I T_v0 hm
      · rw [if_neg c11] at hm ⊢
        exact t_X11_isOpenPair_54 I T_v0 hm
    · rw [if_neg c12] at hm ⊢
      exact t_X11_isOpenPair_50 I T_v0 hm
def gL_X11_isOpenPair_5 (n : Nat) (v0 : Nat) (v1 : Int32) (v2 : Int32) (s : st_T) (c : Int32 × Int32) : Option ((Int32 × Int32) ⊕ (Int32)) := g_X11_isOpenPair_5 n v0 v1 v2 c.1 c.2 s
theorem tl_X11_isOpenPair_5 {tg r : Nat → Nat} {h : hp_H} {s : st_T} {n : Nat} {v0 : Nat} {v1 : Int32} {v2 : Int32} (I : iso tg r h s) (T_v0 : tg v0 = 21) : ∀ (k : Nat) (c : Int32 × Int32) (x : Int32), hp_lp (gL_X11_isOpenPair_5 n v0 v1 v2 s) k c = some x → hp_lp (fL_X11_isOpenPair_5 n (r v0) v1 v2 h) k c = some x := by
  intro k
  induction k with
  | zero => intro c x hx; exact (hp_lp_0 hx).elim
  | succ k ih =>
    intro c x hx
    obtain ⟨rr, hr, hc⟩ := hp_lp_1 hx
    have e2 := t_X11_isOpenPair_5 I T_v0 hr
    rcases hc with ⟨s3, e3, hx3⟩ | e3
    · subst e3
      exact hp_lp_s e2 (ih _ _ hx3)
    · subst e3
      exact hp_lp_x e2
def g_X11_isOpenPair_0 (n : Nat) (v0 : Nat) (v1 : Int32) (v2 : Int32) (s : st_T) : Option (Int32) :=
  (hp_lp (gL_X11_isOpenPair_5 n v0 v1 v2 s) n ((0 : Int32), (0 : Int32))).bind fun x1 =>
  some x1
set_option maxHeartbeats 1000000 in
theorem t_X11_isOpenPair_0 {tg r : Nat → Nat} {h : hp_H} {s : st_T} {n : Nat} {v0 : Nat} {v1 : Int32} {v2 : Int32} (I : iso tg r h s) (T_v0 : tg v0 = 21) {res : Int32} (hm : g_X11_isOpenPair_0 n v0 v1 v2 s = some res) : f_X11_isOpenPair_0 n (r v0) v1 v2 h = some res := by
  unfold g_X11_isOpenPair_0 at hm
  unfold f_X11_isOpenPair_0
  obtain ⟨x1, hx1, hm⟩ := hp_bd hm
  refine tr_eq0 (tl_X11_isOpenPair_5 I T_v0 n _ _ hx1) ?_
  obtain rfl := Option.some.inj hm
  rfl
def g_X11_isOpenPair (n : Nat) (v0 : Nat) (v1 : Int32) (v2 : Int32) (s : st_T) : Option (Int32) := g_X11_isOpenPair_0 n v0 v1 v2 s
theorem t_X11_isOpenPair {tg r : Nat → Nat} {h : hp_H} {s : st_T} {n : Nat} {v0 : Nat} {v1 : Int32} {v2 : Int32} (I : iso tg r h s) (T_v0 : tg v0 = 21) {res : Int32} (hm : g_X11_isOpenPair n v0 v1 v2 s = some res) : f_X11_isOpenPair n (r v0) v1 v2 h = some res := by
  unfold g_X11_isOpenPair at hm
  unfold f_X11_isOpenPair
  refine tr_eq0 (t_ck I T_v0 (by decide)) ?_
  exact t_X11_isOpenPair_0 I T_v0 hm
def g_X11_openPair_0 (n : Nat) (v0 : Nat) (v1 : Int32) (v2 : Int32) (s : st_T) : Option (st_T) :=
  (gA s (gP s v0 28) (gF s v0 32)).bind fun x2 =>
  (uA 0 s (gP s v0 24) (((10240 : Int32) * (gF s v0 32)) + x2) v1).bind fun w4 =>
  (uA 0 w4 (gP w4 v0 25) (((10240 : Int32) * (gF s v0 32)) + x2) v2).bind fun w6 =>
  (gA w6 (gP w6 v0 18) (gF w6 v0 32)).bind fun x9 =>
  (uA 0 w6 (gP w6 v0 26) (((10240 : Int32) * (gF s v0 32)) + x2) x9).bind fun w10 =>
  (uA 0 w10 (gP w10 v0 27) (((10240 : Int32) * (gF s v0 32)) + x2) (200 : Int32)).bind fun w12 =>
  (gA w12 (gP w12 v0 28) (gF w12 v0 32)).bind fun x14 =>
  (uA 0 w12 (gP w12 v0 28) (gF w12 v0 32) (x14 + (1 : Int32))).bind fun w15 =>
  (uA 0 w15 (gP w15 v0 41) (gF w15 v0 43) (((10240 : Int32) * (gF s v0 32)) + x2)).bind fun w17 =>
  (uA 0 w17 (gP w17 v0 42) (gF w17 v0 43) (gF w17 v0 33)).bind fun w19 =>
  (wF w19 v0 43 ((gF w19 v0 43) + (1 : Int32))).bind fun w20 =>
  some w20
set_option maxHeartbeats 1000000 in
theorem t_X11_openPair_0 {tg r : Nat → Nat} {h hb : hp_H} {s sb : st_T} {n : Nat} {v0 : Nat} {v1 : Int32} {v2 : Int32} (I : iso tg r h s) (F : isf tg r hb h sb s) (T_v0 : tg v0 = 21) {res : st_T} (hm : g_X11_openPair_0 n v0 v1 v2 s = some res) : ∃ h2, f_X11_openPair_0 n (r v0) v1 v2 h = some (h2) ∧ iso tg r h2 res ∧ isf tg r hb h2 sb res := by
  unfold g_X11_openPair_0 at hm
  unfold f_X11_openPair_0
  refine tr_eq (t_fI I T_v0 (by decide) (by decide) rfl) ?_
  have T1 : tg (gP s v0 28) = 0 := t_tg (c := 11) I T_v0 (by decide) (by decide) rfl (by decide)
  refine tr_eq (t_fR I T_v0 (by decide) (by decide) (by decide)) ?_
  refine tr_eq (t_fI I T_v0 (by decide) (by decide) rfl) ?_
  obtain ⟨x2, hx2, hm⟩ := hp_bd hm
  refine tr_eq (t_aI I T1 (by decide) rfl hx2) ?_
  have T3 : tg (gP s v0 24) = 0 := t_tg (c := 11) I T_v0 (by decide) (by decide) rfl (by decide)
  refine tr_eq (t_fR I T_v0 (by decide) (by decide) (by decide)) ?_
  obtain ⟨w4, hw4, hm⟩ := hp_bd hm
  obtain ⟨_, e2, I, F⟩ := t_sI I F T3 (by decide) rfl hw4
  refine tr_eq e2 ?_
  have T5 : tg (gP w4 v0 25) = 0 := t_tg (c := 11) I T_v0 (by decide) (by decide) rfl (by decide)
  refine tr_eq (t_fR I T_v0 (by decide) (by decide) (by decide)) ?_
  obtain ⟨w6, hw6, hm⟩ := hp_bd hm
  obtain ⟨_, e2, I, F⟩ := t_sI I F T5 (by decide) rfl hw6
  refine tr_eq e2 ?_
  have T7 : tg (gP w6 v0 26) = 0 := t_tg (c := 11) I T_v0 (by decide) (by decide) rfl (by decide)
  refine tr_eq (t_fR I T_v0 (by decide) (by decide) (by decide)) ?_
  have T8 : tg (gP w6 v0 18) = 0 := t_tg (c := 11) I T_v0 (by decide) (by decide) rfl (by decide)
  refine tr_eq (t_fR I T_v0 (by decide) (by decide) (by decide)) ?_
  refine tr_eq (t_fI I T_v0 (by decide) (by decide) rfl) ?_
  obtain ⟨x9, hx9, hm⟩ := hp_bd hm
  refine tr_eq (t_aI I T8 (by decide) rfl hx9) ?_
  obtain ⟨w10, hw10, hm⟩ := hp_bd hm
  obtain ⟨_, e2, I, F⟩ := t_sI I F T7 (by decide) rfl hw10
  refine tr_eq e2 ?_
  have T11 : tg (gP w10 v0 27) = 0 := t_tg (c := 11) I T_v0 (by decide) (by decide) rfl (by decide)
  refine tr_eq (t_fR I T_v0 (by decide) (by decide) (by decide)) ?_
  obtain ⟨w12, hw12, hm⟩ := hp_bd hm
  obtain ⟨_, e2, I, F⟩ := t_sI I F T11 (by decide) rfl hw12
  refine tr_eq e2 ?_
  have T13 : tg (gP w12 v0 28) = 0 := t_tg (c := 11) I T_v0 (by decide) (by decide) rfl (by decide)
  refine tr_eq (t_fR I T_v0 (by decide) (by decide) (by decide)) ?_
  refine tr_eq (t_fI I T_v0 (by decide) (by decide) rfl) ?_
  obtain ⟨x14, hx14, hm⟩ := hp_bd hm
  refine tr_eq (t_aI I T13 (by decide) rfl hx14) ?_
  obtain ⟨w15, hw15, hm⟩ := hp_bd hm
  obtain ⟨_, e2, I, F⟩ := t_sI I F T13 (by decide) rfl hw15
  refine tr_eq e2 ?_
  have T16 : tg (gP w15 v0 41) = 0 := t_tg (c := 11) I T_v0 (by decide) (by decide) rfl (by decide)
  refine tr_eq (t_fR I T_v0 (by decide) (by decide) (by decide)) ?_
  refine tr_eq (t_fI I T_v0 (by decide) (by decide) rfl) ?_
  obtain ⟨w17, hw17, hm⟩ := hp_bd hm
  obtain ⟨_, e2, I, F⟩ := t_sI I F T16 (by decide) rfl hw17
  refine tr_eq e2 ?_
  have T18 : tg (gP w17 v0 42) = 0 := t_tg (c := 11) I T_v0 (by decide) (by decide) rfl (by decide)
  refine tr_eq (t_fR I T_v0 (by decide) (by decide) (by decide)) ?_
  refine tr_eq (t_fI I T_v0 (by decide) (by decide) rfl) ?_
  refine tr_eq (t_fI I T_v0 (by decide) (by decide) rfl) ?_
  obtain ⟨w19, hw19, hm⟩ := hp_bd hm
  obtain ⟨_, e2, I, F⟩ := t_sI I F T18 (by decide) rfl hw19
  refine tr_eq e2 ?_
  refine tr_eq (t_fI I T_v0 (by decide) (by decide) rfl) ?_
  obtain ⟨w20, hw20, hm⟩ := hp_bd hm
  obtain ⟨_, e2, I, F⟩ := t_wF (c := 11) (k := 43) I F T_v0 (by decide) (by decide) rfl hw20
  refine tr_eq e2 ?_
  obtain rfl := Option.some.inj hm
  exact ⟨_, rfl, I, F⟩
def g_X11_openPair (n : Nat) (v0 : Nat) (v1 : Int32) (v2 : Int32) (s : st_T) : Option (st_T) := g_X11_openPair_0 n v0 v1 v2 s
theorem t_X11_openPair {tg r : Nat → Nat} {h hb : hp_H} {s sb : st_T} {n : Nat} {v0 : Nat} {v1 : Int32} {v2 : Int32} (I : iso tg r h s) (F : isf tg r hb h sb s) (T_v0 : tg v0 = 21) {res : st_T} (hm : g_X11_openPair n v0 v1 v2 s = some res) : ∃ h2, f_X11_openPair n (r v0) v1 v2 h = some (h2) ∧ iso tg r h2 res ∧ isf tg r hb h2 sb res := by
  unfold g_X11_openPair at hm
  unfold f_X11_openPair
  refine tr_eq (t_ck I T_v0 (by decide)) ?_
  exact t_X11_openPair_0 I F T_v0 hm
def g_X11_distinct_68 (n : Nat) (v0 : Nat) (v1 : Int32) (v2 : Int32) (s : st_T) : Option ((Int32) ⊕ ((Unit) ⊕ (Int32))) :=
  if (gF s v0 35) ≤ v2 then
    some (.inr (.inl ()))
  else
    (gA s (gP s v0 44) v2).bind fun x2 =>
    if x2 = v1 then
      some (.inr (.inr (6 : Int32)))
    else
      some (.inl (v2 + (1 : Int32)))
set_option maxHeartbeats 1000000 in
theorem t_X11_distinct_68 {tg r : Nat → Nat} {h : hp_H} {s : st_T} {n : Nat} {v0 : Nat} {v1 : Int32} {v2 : Int32} (I : iso tg r h s) (T_v0 : tg v0 = 21) {res : (Int32) ⊕ ((Unit) ⊕ (Int32))} (hm : g_X11_distinct_68 n v0 v1 v2 s = some res) : f_X11_distinct_68 n (r v0) v1 v2 h = some res := by
  unfold g_X11_distinct_68 at hm
  unfold f_X11_distinct_68
  refine tr_eq0 (t_fI I T_v0 (by decide) (by decide) rfl) ?_
  by_cases c4 : (gF s v0 35) ≤ v2
  · rw [if_pos c4] at hm ⊢
    obtain rfl := Option.some.inj hm
    rfl
  · rw [if_neg c4] at hm ⊢
    have T1 : tg (gP s v0 44) = 0 := t_tg (c := 11) I T_v0 (by decide) (by decide) rfl (by decide)
    refine tr_eq0 (t_fR I T_v0 (by decide) (by decide) (by decide)) ?_
    obtain ⟨x2, hx2, hm⟩ := hp_bd hm
    refine tr_eq0 (t_aI I T1 (by decide) rfl hx2) ?_
    by_cases c3 : x2 = v1
    · rw [if_pos c3] at hm ⊢
      obtain rfl := Option.some.inj hm
      rfl
    · rw [if_neg c3] at hm ⊢
      obtain rfl := Option.some.inj hm
      rfl
def gL_X11_distinct_68 (n : Nat) (v0 : Nat) (v1 : Int32) (s : st_T) (c : Int32) : Option ((Int32) ⊕ ((Unit) ⊕ (Int32))) := g_X11_distinct_68 n v0 v1 c s
theorem tl_X11_distinct_68 {tg r : Nat → Nat} {h : hp_H} {s : st_T} {n : Nat} {v0 : Nat} {v1 : Int32} (I : iso tg r h s) (T_v0 : tg v0 = 21) : ∀ (k : Nat) (c : Int32) (x : (Unit) ⊕ (Int32)), hp_lp (gL_X11_distinct_68 n v0 v1 s) k c = some x → hp_lp (fL_X11_distinct_68 n (r v0) v1 h) k c = some x := by
  intro k
  induction k with
  | zero => intro c x hx; exact (hp_lp_0 hx).elim
  | succ k ih =>
    intro c x hx
    obtain ⟨rr, hr, hc⟩ := hp_lp_1 hx
    have e2 := t_X11_distinct_68 I T_v0 hr
    rcases hc with ⟨s3, e3, hx3⟩ | e3
    · subst e3
      exact hp_lp_s e2 (ih _ _ hx3)
    · subst e3
      exact hp_lp_x e2
abbrev eX_X11_distinct_97 (x : (st_T) ⊕ (Int32 × st_T)) (h2 : hp_H) : (hp_H) ⊕ (Int32 × hp_H) := (Sum.elim (fun y => (.inl h2)) (fun y => (.inr (y.1, h2)))) x
abbrev sX_X11_distinct_97 (x : (st_T) ⊕ (Int32 × st_T)) : st_T := (Sum.elim (fun y => y) (fun y => y.2)) x
abbrev eR_X11_distinct_97 (x : (Int32 × st_T) ⊕ ((st_T) ⊕ (Int32 × st_T))) (h2 : hp_H) : (Int32 × hp_H) ⊕ ((hp_H) ⊕ (Int32 × hp_H)) := Sum.elim (fun y => .inl (y.1, h2)) (fun y => .inr (eX_X11_distinct_97 y h2)) x
abbrev sR_X11_distinct_97 (x : (Int32 × st_T) ⊕ ((st_T) ⊕ (Int32 × st_T))) : st_T := Sum.elim (fun y => y.2) sX_X11_distinct_97 x
def g_X11_distinct_178 (n : Nat) (v0 : Nat) (v1 : Int32) (v2 : Int32) (s : st_T) : Option ((Int32 × st_T) ⊕ ((st_T) ⊕ (Int32 × st_T))) :=
  some (.inl ((v2 + (1 : Int32)), s))
set_option maxHeartbeats 1000000 in
theorem t_X11_distinct_178 {tg r : Nat → Nat} {h hb : hp_H} {s sb : st_T} {n : Nat} {v0 : Nat} {v1 : Int32} {v2 : Int32} (I : iso tg r h s) (F : isf tg r hb h sb s) (T_v0 : tg v0 = 21) {res : (Int32 × st_T) ⊕ ((st_T) ⊕ (Int32 × st_T))} (hm : g_X11_distinct_178 n v0 v1 v2 s = some res) : ∃ h2, f_X11_distinct_178 n (r v0) v1 v2 h = some (eR_X11_distinct_97 res h2) ∧ iso tg r h2 (sR_X11_distinct_97 res) ∧ isf tg r hb h2 sb (sR_X11_distinct_97 res) := by
  unfold g_X11_distinct_178 at hm
  unfold f_X11_distinct_178
  obtain rfl := Option.some.inj hm
  exact ⟨_, rfl, I, F⟩
def g_X11_distinct_146 (n : Nat) (v0 : Nat) (v1 : Int32) (v2 : Int32) (v3 : Int32) (s0 : Int32) (s : st_T) : Option ((Int32 × st_T) ⊕ ((st_T) ⊕ (Int32 × st_T))) :=
  (g_X11_isOpenPair n v0 v3 s0 s).bind fun x1 =>
  if x1 = 0 then
    if (gF s v0 43) = (200 : Int32) then
      some (.inr (.inr ((7 : Int32), s)))
    else
      (g_X11_openPair n v0 v3 s0 s).bind fun x2 =>
      g_X11_distinct_178 n v0 v1 v2 x2
  else
    g_X11_distinct_178 n v0 v1 v2 s
set_option maxHeartbeats 1000000 in
theorem t_X11_distinct_146 {tg r : Nat → Nat} {h hb : hp_H} {s sb : st_T} {n : Nat} {v0 : Nat} {v1 : Int32} {v2 : Int32} {v3 : Int32} {s0 : Int32} (I : iso tg r h s) (F : isf tg r hb h sb s) (T_v0 : tg v0 = 21) {res : (Int32 × st_T) ⊕ ((st_T) ⊕ (Int32 × st_T))} (hm : g_X11_distinct_146 n v0 v1 v2 v3 s0 s = some res) : ∃ h2, f_X11_distinct_146 n (r v0) v1 v2 v3 s0 h = some (eR_X11_distinct_97 res h2) ∧ iso tg r h2 (sR_X11_distinct_97 res) ∧ isf tg r hb h2 sb (sR_X11_distinct_97 res) := by
  unfold g_X11_distinct_146 at hm
  unfold f_X11_distinct_146
  obtain ⟨x1, hx1, hm⟩ := hp_bd hm
  refine tr_eq (t_X11_isOpenPair I T_v0 hx1) ?_
  by_cases c4 : x1 = 0
  · rw [if_pos c4] at hm ⊢
    refine tr_eq (t_fI I T_v0 (by decide) (by decide) rfl) ?_
    by_cases c3 : (gF s v0 43) = (200 : Int32)
    · rw [if_pos c3] at hm ⊢
      obtain rfl := Option.some.inj hm
      exact ⟨_, rfl, I, F⟩
    · rw [if_neg c3] at hm ⊢
      obtain ⟨x2, hx2, hm⟩ := hp_bd hm
      obtain ⟨_, e2, I, F⟩ := t_X11_openPair I F T_v0 hx2
      refine tr_eq e2 ?_
      exact t_X11_distinct_178 I F T_v0 hm
  · rw [if_neg c4] at hm ⊢
    exact t_X11_distinct_178 I F T_v0 hm
def g_X11_distinct_125 (n : Nat) (v0 : Nat) (v1 : Int32) (v2 : Int32) (s0 : Int32) (s : st_T) : Option ((Int32 × st_T) ⊕ ((st_T) ⊕ (Int32 × st_T))) :=
  (gA s (gP s v0 44) v2).bind fun x2 =>
  if v1 ≤ x2 then
    (gA s (gP s v0 44) v2).bind fun x4 =>
    g_X11_distinct_146 n v0 v1 v2 s0 x4 s
  else
    g_X11_distinct_146 n v0 v1 v2 s0 v1 s
set_option maxHeartbeats 1000000 in
theorem t_X11_distinct_125 {tg r : Nat → Nat} {h hb : hp_H} {s sb : st_T} {n : Nat} {v0 : Nat} {v1 : Int32} {v2 : Int32} {s0 : Int32} (I : iso tg r h s) (F : isf tg r hb h sb s) (T_v0 : tg v0 = 21) {res : (Int32 × st_T) ⊕ ((st_T) ⊕ (Int32 × st_T))} (hm : g_X11_distinct_125 n v0 v1 v2 s0 s = some res) : ∃ h2, f_X11_distinct_125 n (r v0) v1 v2 s0 h = some (eR_X11_distinct_97 res h2) ∧ iso tg r h2 (sR_X11_distinct_97 res) ∧ isf tg r hb h2 sb (sR_X11_distinct_97 res) := by
  unfold g_X11_distinct_125 at hm
  unfold f_X11_distinct_125
  have T1 : tg (gP s v0 44) = 0 := t_tg (c := 11) I T_v0 (by decide) (by decide) rfl (by decide)
  refine tr_eq (t_fR I T_v0 (by decide) (by decide) (by decide)) ?_
  obtain ⟨x2, hx2, hm⟩ := hp_bd hm
  refine tr_eq (t_aI I T1 (by decide) rfl hx2) ?_
  by_cases c5 : v1 ≤ x2
  · rw [if_pos c5] at hm ⊢
    have T3 : tg (gP s v0 44) = 0 := t_tg (c := 11) I T_v0 (by decide) (by decide) rfl (by decide)
    refine tr_eq (t_fR I T_v0 (by decide) (by decide) (by decide)) ?_
    obtain ⟨x4, hx4, hm⟩ := hp_bd hm
    refine tr_eq (t_aI I T3 (by decide) rfl hx4) ?_
    exact t_X11_distinct_146 I F T_v0 hm
  · rw [if_neg c5] at hm ⊢
    exact t_X11_distinct_146 I F T_v0 hm
def g_X11_distinct_97 (n : Nat) (v0 : Nat) (v1 : Int32) (v2 : Int32) (s : st_T) : Option ((Int32 × st_T) ⊕ ((st_T) ⊕ (Int32 × st_T))) :=
  if (gF s v0 35) ≤ v2 then
    some (.inr (.inl s))
  else
    (gA s (gP s v0 44) v2).bind fun x2 =>
    if v1 ≤ x2 then
      g_X11_distinct_125 n v0 v1 v2 v1 s
    else
      (gA s (gP s v0 44) v2).bind fun x4 =>
      g_X11_distinct_125 n v0 v1 v2 x4 s
set_option maxHeartbeats 1000000 in
theorem t_X11_distinct_97 {tg r : Nat → Nat} {h hb : hp_H} {s sb : st_T} {n : Nat} {v0 : Nat} {v1 : Int32} {v2 : Int32} (I : iso tg r h s) (F : isf tg r hb h sb s) (T_v0 : tg v0 = 21) {res : (Int32 × st_T) ⊕ ((st_T) ⊕ (Int32 × st_T))} (hm : g_X11_distinct_97 n v0 v1 v2 s = some res) : ∃ h2, f_X11_distinct_97 n (r v0) v1 v2 h = some (eR_X11_distinct_97 res h2) ∧ iso tg r h2 (sR_X11_distinct_97 res) ∧ isf tg r hb h2 sb (sR_X11_distinct_97 res) := by
  unfold g_X11_distinct_97 at hm
  unfold f_X11_distinct_97
  refine tr_eq (t_fI I T_v0 (by decide) (by decide) rfl) ?_
  by_cases c6 : (gF s v0 35) ≤ v2
  · rw [if_pos c6] at hm ⊢
    obtain rfl := Option.some.inj hm
    exact ⟨_, rfl, I, F⟩
  · rw [if_neg c6] at hm ⊢
    have T1 : tg (gP s v0 44) = 0 := t_tg (c := 11) I T_v0 (by decide) (by decide) rfl (by decide)
    refine tr_eq (t_fR I T_v0 (by decide) (by decide) (by decide)) ?_
    obtain ⟨x2, hx2, hm⟩ := hp_bd hm
    refine tr_eq (t_aI I T1 (by decide) rfl hx2) ?_
    by_cases c5 : v1 ≤ x2
    · rw [if_pos c5] at hm ⊢
      exact t_X11_distinct_125 I F T_v0 hm
    · rw [if_neg c5] at hm ⊢
      have T3 : tg (gP s v0 44) = 0 := t_tg (c := 11) I T_v0 (by decide) (by decide) rfl (by decide)
      refine tr_eq (t_fR I T_v0 (by decide) (by decide) (by decide)) ?_
      obtain ⟨x4, hx4, hm⟩ := hp_bd hm
      refine tr_eq (t_aI I T3 (by decide) rfl hx4) ?_
      exact t_X11_distinct_125 I F T_v0 hm
def gL_X11_distinct_97 (n : Nat) (v0 : Nat) (v1 : Int32) (c : Int32 × st_T) : Option ((Int32 × st_T) ⊕ ((st_T) ⊕ (Int32 × st_T))) := g_X11_distinct_97 n v0 v1 c.1 c.2
theorem tl_X11_distinct_97 {tg r : Nat → Nat} {hb : hp_H} {sb : st_T} {n : Nat} {v0 : Nat} {v1 : Int32} (T_v0 : tg v0 = 21) : ∀ (k : Nat) (c0 : Int32) (h : hp_H) (s : st_T) (x : (st_T) ⊕ (Int32 × st_T)), iso tg r h s → isf tg r hb h sb s → hp_lp (gL_X11_distinct_97 n v0 v1) k (c0, s) = some x → ∃ h2, hp_lp (fL_X11_distinct_97 n (r v0) v1) k (c0, h) = some (eX_X11_distinct_97 x h2) ∧ iso tg r h2 (sX_X11_distinct_97 x) ∧ isf tg r hb h2 sb (sX_X11_distinct_97 x) := by
  intro k
  induction k with
  | zero => intro c0 h s x I F hx; exact (hp_lp_0 hx).elim
  | succ k ih =>
    intro c0 h s x I F hx
    obtain ⟨rr, hr, hc⟩ := hp_lp_1 hx
    obtain ⟨h2, e2, I2, F2⟩ := t_X11_distinct_97 I F T_v0 hr
    rcases hc with ⟨s3, e3, hx3⟩ | e3
    · subst e3
      obtain ⟨h3, e4, I3, F3⟩ := ih _ h2 _ x I2 F2 hx3
      exact ⟨h3, hp_lp_s e2 e4, I3, F3⟩
    · subst e3
      exact ⟨h2, hp_lp_x e2, I2, F2⟩
def g_X11_distinct_24 (n : Nat) (v0 : Nat) (s : st_T) : Option (Int32 × st_T) :=
  (g_X11_hasDollar n v0 s).bind fun x1 =>
  if x1 = 0 then
    if (gF s v0 35) = (8 : Int32) then
      some ((7 : Int32), s)
    else
      (g_X11_symbolHere n v0 s).bind fun x2 =>
      if x2 < 0 then
        some ((6 : Int32), s)
      else
        (gA s (gP s v0 38) x2).bind fun x4 =>
        if 0 ≤ x4 then
          (hp_lp (gL_X11_distinct_68 n v0 x2 s) n (0 : Int32)).bind fun x5 =>
          Sum.elim (fun y6 =>
            (hp_lp (gL_X11_distinct_97 n v0 x2) n ((0 : Int32), s)).bind fun x8 =>
            Sum.elim (fun y9 =>
              (uA 0 y9 (gP y9 v0 44) (gF y9 v0 35) x2).bind fun w12 =>
              (wF w12 v0 35 ((gF w12 v0 35) + (1 : Int32))).bind fun w13 =>
              some ((0 : Int32), w13)) (fun y10 =>
              some (y10.1, y10.2)) x8) (fun y7 =>
            some (y7, s)) x5
        else
          some ((6 : Int32), s)
  else
    some ((3 : Int32), s)
set_option maxHeartbeats 1000000 in
theorem t_X11_distinct_24 {tg r : Nat → Nat} {h hb : hp_H} {s sb : st_T} {n : Nat} {v0 : Nat} (I : iso tg r h s) (F : isf tg r hb h sb s) (T_v0 : tg v0 = 21) {res : Int32 × st_T} (hm : g_X11_distinct_24 n v0 s = some res) : ∃ h2, f_X11_distinct_24 n (r v0) h = some ((res.1, h2)) ∧ iso tg r h2 res.2 ∧ isf tg r hb h2 sb res.2 := by
  unfold g_X11_distinct_24 at hm
  unfold f_X11_distinct_24
  obtain ⟨x1, hx1, hm⟩ := hp_bd hm
  refine tr_eq (t_X11_hasDollar I T_v0 hx1) ?_
  by_cases c17 : x1 = 0
  · rw [if_pos c17] at hm ⊢
    refine tr_eq (t_fI I T_v0 (by decide) (by decide) rfl) ?_
    by_cases c16 : (gF s v0 35) = (8 : Int32)
    · rw [if_pos c16] at hm ⊢
      obtain rfl := Option.some.inj hm
      exact ⟨_, rfl, I, F⟩
    · rw [if_neg c16] at hm ⊢
      obtain ⟨x2, hx2, hm⟩ := hp_bd hm
      refine tr_eq (t_X11_symbolHere I T_v0 hx2) ?_
      by_cases c15 : x2 < 0
      · rw [if_pos c15] at hm ⊢
        obtain rfl := Option.some.inj hm
        exact ⟨_, rfl, I, F⟩
      · rw [if_neg c15] at hm ⊢
        have T3 : tg (gP s v0 38) = 0 := t_tg (c := 11) I T_v0 (by decide) (by decide) rfl (by decide)
        refine tr_eq (t_fR I T_v0 (by decide) (by decide) (by decide)) ?_
        obtain ⟨x4, hx4, hm⟩ := hp_bd hm
        refine tr_eq (t_aI I T3 (by decide) rfl hx4) ?_
        by_cases c14 : 0 ≤ x4
        · rw [if_pos c14] at hm ⊢
          obtain ⟨x5, hx5, hm⟩ := hp_bd hm
          refine tr_eq (tl_X11_distinct_68 I T_v0 n _ _ hx5) ?_
          rcases x5 with y6 | y7
          · simp only [Sum.elim_inl, Sum.elim_inr] at hm ⊢
            obtain ⟨x8, hx8, hm⟩ := hp_bd hm
            obtain ⟨_, e2, I, F⟩ := tl_X11_distinct_97 T_v0 n _ _ _ _ I F hx8
            refine tr_eq e2 ?_
            rcases x8 with y9 | y10
            · simp only [eX_X11_distinct_97, Sum.elim_inl, Sum.elim_inr] at hm ⊢
              replace I : iso tg _ _ y9 := I
              replace F : isf tg _ _ _ _ y9 := F
              have T11 : tg (gP y9 v0 44) = 0 := t_tg (c := 11) I T_v0 (by decide) (by decide) rfl (by decide)
              refine tr_eq (t_fR I T_v0 (by decide) (by decide) (by decide)) ?_
              refine tr_eq (t_fI I T_v0 (by decide) (by decide) rfl) ?_
              obtain ⟨w12, hw12, hm⟩ := hp_bd hm
              obtain ⟨_, e2, I, F⟩ := t_sI I F T11 (by decide) rfl hw12
              refine tr_eq e2 ?_
              refine tr_eq (t_fI I T_v0 (by decide) (by decide) rfl) ?_
              obtain ⟨w13, hw13, hm⟩ := hp_bd hm
              obtain ⟨_, e2, I, F⟩ := t_wF (c := 11) (k := 35) I F T_v0 (by decide) (by decide) rfl hw13
              refine tr_eq e2 ?_
              obtain rfl := Option.some.inj hm
              exact ⟨_, rfl, I, F⟩
            · simp only [eX_X11_distinct_97, Sum.elim_inl, Sum.elim_inr] at hm ⊢
              replace I : iso tg _ _ y10.2 := I
              replace F : isf tg _ _ _ _ y10.2 := F
              obtain rfl := Option.some.inj hm
              exact ⟨_, rfl, I, F⟩
          · simp only [Sum.elim_inl, Sum.elim_inr] at hm ⊢
            obtain rfl := Option.some.inj hm
            exact ⟨_, rfl, I, F⟩
        · rw [if_neg c14] at hm ⊢
          obtain rfl := Option.some.inj hm
          exact ⟨_, rfl, I, F⟩
  · rw [if_neg c17] at hm ⊢
    obtain rfl := Option.some.inj hm
    exact ⟨_, rfl, I, F⟩
def g_X11_distinct_0 (n : Nat) (v0 : Nat) (s : st_T) : Option (Int32 × st_T) :=
  (g_X11_isWord n v0 (46 : Int32) s).bind fun x1 =>
  if x1 = 0 then
    g_X11_distinct_24 n v0 s
  else
    if (gF s v0 35) ≤ (1 : Int32) then
      g_X11_distinct_24 n v0 s
    else
      (wF s v0 34 (0 : Int32)).bind fun w2 =>
      some ((0 : Int32), w2)
set_option maxHeartbeats 1000000 in
theorem t_X11_distinct_0 {tg r : Nat → Nat} {h hb : hp_H} {s sb : st_T} {n : Nat} {v0 : Nat} (I : iso tg r h s) (F : isf tg r hb h sb s) (T_v0 : tg v0 = 21) {res : Int32 × st_T} (hm : g_X11_distinct_0 n v0 s = some res) : ∃ h2, f_X11_distinct_0 n (r v0) h = some ((res.1, h2)) ∧ iso tg r h2 res.2 ∧ isf tg r hb h2 sb res.2 := by
  unfold g_X11_distinct_0 at hm
  unfold f_X11_distinct_0
  obtain ⟨x1, hx1, hm⟩ := hp_bd hm
  refine tr_eq (t_X11_isWord I T_v0 hx1) ?_
  by_cases c4 : x1 = 0
  · rw [if_pos c4] at hm ⊢
    exact t_X11_distinct_24 I F T_v0 hm
  · rw [if_neg c4] at hm ⊢
    refine tr_eq (t_fI I T_v0 (by decide) (by decide) rfl) ?_
    by_cases c3 : (gF s v0 35) ≤ (1 : Int32)
    · rw [if_pos c3] at hm ⊢
      exact t_X11_distinct_24 I F T_v0 hm
    · rw [if_neg c3] at hm ⊢
      obtain ⟨w2, hw2, hm⟩ := hp_bd hm
      obtain ⟨_, e2, I, F⟩ := t_wF (c := 11) (k := 34) I F T_v0 (by decide) (by decide) rfl hw2
      refine tr_eq e2 ?_
      obtain rfl := Option.some.inj hm
      exact ⟨_, rfl, I, F⟩
def g_X11_distinct (n : Nat) (v0 : Nat) (s : st_T) : Option (Int32 × st_T) := g_X11_distinct_0 n v0 s
theorem t_X11_distinct {tg r : Nat → Nat} {h hb : hp_H} {s sb : st_T} {n : Nat} {v0 : Nat} (I : iso tg r h s) (F : isf tg r hb h sb s) (T_v0 : tg v0 = 21) {res : Int32 × st_T} (hm : g_X11_distinct n v0 s = some res) : ∃ h2, f_X11_distinct n (r v0) h = some ((res.1, h2)) ∧ iso tg r h2 res.2 ∧ isf tg r hb h2 sb res.2 := by
  unfold g_X11_distinct at hm
  unfold f_X11_distinct
  refine tr_eq (t_ck I T_v0 (by decide)) ?_
  exact t_X11_distinct_0 I F T_v0 hm
abbrev eX_X11_needs_2 (x : st_T) (h2 : hp_H) : hp_H := (fun y => h2) x
abbrev sX_X11_needs_2 (x : st_T) : st_T := (fun y => y) x
abbrev eR_X11_needs_2 (x : (Int32 × st_T) ⊕ (st_T)) (h2 : hp_H) : (Int32 × hp_H) ⊕ (hp_H) := Sum.elim (fun y => .inl (y.1, h2)) (fun y => .inr (eX_X11_needs_2 y h2)) x
abbrev sR_X11_needs_2 (x : (Int32 × st_T) ⊕ (st_T)) : st_T := Sum.elim (fun y => y.2) sX_X11_needs_2 x
def g_X11_needs_88 (n : Nat) (v0 : Nat) (v1 : Int32) (v2 : Int32) (v3 : Int32) (s : st_T) : Option ((Int32 × st_T) ⊕ (st_T)) :=
  some (.inl ((v3 + (1 : Int32)), s))
set_option maxHeartbeats 1000000 in
theorem t_X11_needs_88 {tg r : Nat → Nat} {h hb : hp_H} {s sb : st_T} {n : Nat} {v0 : Nat} {v1 : Int32} {v2 : Int32} {v3 : Int32} (I : iso tg r h s) (F : isf tg r hb h sb s) (T_v0 : tg v0 = 21) {res : (Int32 × st_T) ⊕ (st_T)} (hm : g_X11_needs_88 n v0 v1 v2 v3 s = some res) : ∃ h2, f_X11_needs_88 n (r v0) v1 v2 v3 h = some (eR_X11_needs_2 res h2) ∧ iso tg r h2 (sR_X11_needs_2 res) ∧ isf tg r hb h2 sb (sR_X11_needs_2 res) := by
  unfold g_X11_needs_88 at hm
  unfold f_X11_needs_88
  obtain rfl := Option.some.inj hm
  exact ⟨_, rfl, I, F⟩
def g_X11_needs_2 (n : Nat) (v0 : Nat) (v1 : Int32) (v2 : Int32) (v3 : Int32) (s : st_T) : Option ((Int32 × st_T) ⊕ (st_T)) :=
  (gA s (gP s v0 15) v2).bind fun x2 =>
  if x2 ≤ v3 then
    some (.inr s)
  else
    (gA s (gP s v0 14) v2).bind fun x5 =>
    (gA s (gP s v0 19) ((((4096 : Int32) * (gF s v0 32)) + x5) + v3)).bind fun x6 =>
    (gA s (gP s v0 8) (((300 : Int32) * (gF s v0 32)) + x6)).bind fun x8 =>
    if x8 = 0 then
      g_X11_needs_88 n v0 v1 v2 v3 s
    else
      (gA s (gP s v0 39) x6).bind fun x10 =>
      (gJ s (gP s v0 23) (((4 : Int32) * v1) + (x10 / (64 : Int32)))).bind fun x12 =>
      (uJ s (gP s v0 23) (((4 : Int32) * v1) + (x10 / (64 : Int32))) (x12 ||| ((1 : Int64) <<< (Int32.toInt64 (x10 - x10 / (64 : Int32) * (64 : Int32)) &&& 63)))).bind fun w13 =>
      g_X11_needs_88 n v0 v1 v2 v3 w13
set_option maxHeartbeats 1000000 in
theorem t_X11_needs_2 {tg r : Nat → Nat} {h hb : hp_H} {s sb : st_T} {n : Nat} {v0 : Nat} {v1 : Int32} {v2 : Int32} {v3 : Int32} (I : iso tg r h s) (F : isf tg r hb h sb s) (T_v0 : tg v0 = 21) {res : (Int32 × st_T) ⊕ (st_T)} (hm : g_X11_needs_2 n v0 v1 v2 v3 s = some res) : ∃ h2, f_X11_needs_2 n (r v0) v1 v2 v3 h = some (eR_X11_needs_2 res h2) ∧ iso tg r h2 (sR_X11_needs_2 res) ∧ isf tg r hb h2 sb (sR_X11_needs_2 res) := by
  unfold g_X11_needs_2 at hm
  unfold f_X11_needs_2
  have T1 : tg (gP s v0 15) = 0 := t_tg (c := 11) I T_v0 (by decide) (by decide) rfl (by decide)
  refine tr_eq (t_fR I T_v0 (by decide) (by decide) (by decide)) ?_
  obtain ⟨x2, hx2, hm⟩ := hp_bd hm
  refine tr_eq (t_aI I T1 (by decide) rfl hx2) ?_
  by_cases c15 : x2 ≤ v3
  · rw [if_pos c15] at hm ⊢
    obtain rfl := Option.some.inj hm
    exact ⟨_, rfl, I, F⟩
  · rw [if_neg c15] at hm ⊢
    have T3 : tg (gP s v0 19) = 0 := t_tg (c := 11) I T_v0 (by decide) (by decide) rfl (by decide)
    refine tr_eq (t_fR I T_v0 (by decide) (by decide) (by decide)) ?_
    refine tr_eq (t_fI I T_v0 (by decide) (by decide) rfl) ?_
    have T4 : tg (gP s v0 14) = 0 := t_tg (c := 11) I T_v0 (by decide) (by decide) rfl (by decide)
    refine tr_eq (t_fR I T_v0 (by decide) (by decide) (by decide)) ?_
    obtain ⟨x5, hx5, hm⟩ := hp_bd hm
    refine tr_eq (t_aI I T4 (by decide) rfl hx5) ?_
    obtain ⟨x6, hx6, hm⟩ := hp_bd hm
    refine tr_eq (t_aI I T3 (by decide) rfl hx6) ?_
    have T7 : tg (gP s v0 8) = 2 := t_tg (c := 11) I T_v0 (by decide) (by decide) rfl (by decide)
    refine tr_eq (t_fR I T_v0 (by decide) (by decide) (by decide)) ?_
    refine tr_eq (t_fI I T_v0 (by decide) (by decide) rfl) ?_
    obtain ⟨x8, hx8, hm⟩ := hp_bd hm
    refine tr_eq (t_aI I T7 (by decide) rfl hx8) ?_
    by_cases c14 : x8 = 0
    · rw [if_pos c14] at hm ⊢
      exact t_X11_needs_88 I F T_v0 hm
    · rw [if_neg c14] at hm ⊢
      have T9 : tg (gP s v0 39) = 0 := t_tg (c := 11) I T_v0 (by decide) (by decide) rfl (by decide)
      refine tr_eq (t_fR I T_v0 (by decide) (by decide) (by decide)) ?_
      obtain ⟨x10, hx10, hm⟩ := hp_bd hm
      refine tr_eq (t_aI I T9 (by decide) rfl hx10) ?_
      have T11 : tg (gP s v0 23) = 3 := t_tg (c := 11) I T_v0 (by decide) (by decide) rfl (by decide)
      refine tr_eq (t_fR I T_v0 (by decide) (by decide) (by decide)) ?_
      obtain ⟨x12, hx12, hm⟩ := hp_bd hm
      refine tr_eq (t_aJ I T11 hx12) ?_
      obtain ⟨w13, hw13, hm⟩ := hp_bd hm
      obtain ⟨_, e2, I, F⟩ := t_sJ I F T11 hw13
      refine tr_eq e2 ?_
      exact t_X11_needs_88 I F T_v0 hm
def gL_X11_needs_2 (n : Nat) (v0 : Nat) (v1 : Int32) (v2 : Int32) (c : Int32 × st_T) : Option ((Int32 × st_T) ⊕ (st_T)) := g_X11_needs_2 n v0 v1 v2 c.1 c.2
theorem tl_X11_needs_2 {tg r : Nat → Nat} {hb : hp_H} {sb : st_T} {n : Nat} {v0 : Nat} {v1 : Int32} {v2 : Int32} (T_v0 : tg v0 = 21) : ∀ (k : Nat) (c0 : Int32) (h : hp_H) (s : st_T) (x : st_T), iso tg r h s → isf tg r hb h sb s → hp_lp (gL_X11_needs_2 n v0 v1 v2) k (c0, s) = some x → ∃ h2, hp_lp (fL_X11_needs_2 n (r v0) v1 v2) k (c0, h) = some (eX_X11_needs_2 x h2) ∧ iso tg r h2 (sX_X11_needs_2 x) ∧ isf tg r hb h2 sb (sX_X11_needs_2 x) := by
  intro k
  induction k with
  | zero => intro c0 h s x I F hx; exact (hp_lp_0 hx).elim
  | succ k ih =>
    intro c0 h s x I F hx
    obtain ⟨rr, hr, hc⟩ := hp_lp_1 hx
    obtain ⟨h2, e2, I2, F2⟩ := t_X11_needs_2 I F T_v0 hr
    rcases hc with ⟨s3, e3, hx3⟩ | e3
    · subst e3
      obtain ⟨h3, e4, I3, F3⟩ := ih _ h2 _ x I2 F2 hx3
      exact ⟨h3, hp_lp_s e2 e4, I3, F3⟩
    · subst e3
      exact ⟨h2, hp_lp_x e2, I2, F2⟩
def g_X11_needs_0 (n : Nat) (v0 : Nat) (v1 : Int32) (v2 : Int32) (s : st_T) : Option (st_T) :=
  (hp_lp (gL_X11_needs_2 n v0 v1 v2) n ((0 : Int32), s)).bind fun x1 =>
  some x1
set_option maxHeartbeats 1000000 in
theorem t_X11_needs_0 {tg r : Nat → Nat} {h hb : hp_H} {s sb : st_T} {n : Nat} {v0 : Nat} {v1 : Int32} {v2 : Int32} (I : iso tg r h s) (F : isf tg r hb h sb s) (T_v0 : tg v0 = 21) {res : st_T} (hm : g_X11_needs_0 n v0 v1 v2 s = some res) : ∃ h2, f_X11_needs_0 n (r v0) v1 v2 h = some (h2) ∧ iso tg r h2 res ∧ isf tg r hb h2 sb res := by
  unfold g_X11_needs_0 at hm
  unfold f_X11_needs_0
  obtain ⟨x1, hx1, hm⟩ := hp_bd hm
  obtain ⟨_, e2, I, F⟩ := tl_X11_needs_2 T_v0 n _ _ _ _ I F hx1
  refine tr_eq e2 ?_
  try dsimp only [eX_X11_needs_2]
  replace I : iso tg _ _ x1 := I
  replace F : isf tg _ _ _ _ x1 := F
  obtain rfl := Option.some.inj hm
  exact ⟨_, rfl, I, F⟩
def g_X11_needs (n : Nat) (v0 : Nat) (v1 : Int32) (v2 : Int32) (s : st_T) : Option (st_T) := g_X11_needs_0 n v0 v1 v2 s
theorem t_X11_needs {tg r : Nat → Nat} {h hb : hp_H} {s sb : st_T} {n : Nat} {v0 : Nat} {v1 : Int32} {v2 : Int32} (I : iso tg r h s) (F : isf tg r hb h sb s) (T_v0 : tg v0 = 21) {res : st_T} (hm : g_X11_needs n v0 v1 v2 s = some res) : ∃ h2, f_X11_needs n (r v0) v1 v2 h = some (h2) ∧ iso tg r h2 res ∧ isf tg r hb h2 sb res := by
  unfold g_X11_needs at hm
  unfold f_X11_needs
  refine tr_eq (t_ck I T_v0 (by decide)) ?_
  exact t_X11_needs_0 I F T_v0 hm
abbrev eX_X11_frameOf_19 (x : st_T) (h2 : hp_H) : hp_H := (fun y => h2) x
abbrev sX_X11_frameOf_19 (x : st_T) : st_T := (fun y => y) x
abbrev eR_X11_frameOf_19 (x : (Int32 × st_T) ⊕ (st_T)) (h2 : hp_H) : (Int32 × hp_H) ⊕ (hp_H) := Sum.elim (fun y => .inl (y.1, h2)) (fun y => .inr (eX_X11_frameOf_19 y h2)) x
abbrev sR_X11_frameOf_19 (x : (Int32 × st_T) ⊕ (st_T)) : st_T := Sum.elim (fun y => y.2) sX_X11_frameOf_19 x
def g_X11_frameOf_89 (n : Nat) (v0 : Nat) (v1 : Int32) (v2 : Int32) (v3 : Int32) (s : st_T) : Option ((Int32 × st_T) ⊕ (st_T)) :=
  some (.inl ((v3 + (1 : Int32)), s))
set_option maxHeartbeats 1000000 in
theorem t_X11_frameOf_89 {tg r : Nat → Nat} {h hb : hp_H} {s sb : st_T} {n : Nat} {v0 : Nat} {v1 : Int32} {v2 : Int32} {v3 : Int32} (I : iso tg r h s) (F : isf tg r hb h sb s) (T_v0 : tg v0 = 21) {res : (Int32 × st_T) ⊕ (st_T)} (hm : g_X11_frameOf_89 n v0 v1 v2 v3 s = some res) : ∃ h2, f_X11_frameOf_89 n (r v0) v1 v2 v3 h = some (eR_X11_frameOf_19 res h2) ∧ iso tg r h2 (sR_X11_frameOf_19 res) ∧ isf tg r hb h2 sb (sR_X11_frameOf_19 res) := by
  unfold g_X11_frameOf_89 at hm
  unfold f_X11_frameOf_89
  obtain rfl := Option.some.inj hm
  exact ⟨_, rfl, I, F⟩
def g_X11_frameOf_19 (n : Nat) (v0 : Nat) (v1 : Int32) (v2 : Int32) (v3 : Int32) (s : st_T) : Option ((Int32 × st_T) ⊕ (st_T)) :=
  if v1 ≤ v3 then
    some (.inr s)
  else
    (gA s (gP s v0 40) v3).bind fun x2 =>
    if x2 = 0 then
      g_X11_frameOf_89 n v0 v1 v2 v3 s
    else
      (gA s (gP s v0 10) (((200 : Int32) * (gF s v0 32)) + v3)).bind fun x4 =>
      if x4 = (1 : Int32) then
        (gJ s (gP s v0 23) (((4 : Int32) * v2) + (v3 / (64 : Int32)))).bind fun x6 =>
        (uJ s (gP s v0 23) (((4 : Int32) * v2) + (v3 / (64 : Int32))) (x6 ||| ((1 : Int64) <<< (Int32.toInt64 (v3 - v3 / (64 : Int32) * (64 : Int32)) &&& 63)))).bind fun w7 =>
        (g_X11_needs n v0 v2 (((200 : Int32) * (gF w7 v0 32)) + v3) w7).bind fun x8 =>
        g_X11_frameOf_89 n v0 v1 v2 v3 x8
      else
        g_X11_frameOf_89 n v0 v1 v2 v3 s
set_option maxHeartbeats 1000000 in
theorem t_X11_frameOf_19 {tg r : Nat → Nat} {h hb : hp_H} {s sb : st_T} {n : Nat} {v0 : Nat} {v1 : Int32} {v2 : Int32} {v3 : Int32} (I : iso tg r h s) (F : isf tg r hb h sb s) (T_v0 : tg v0 = 21) {res : (Int32 × st_T) ⊕ (st_T)} (hm : g_X11_frameOf_19 n v0 v1 v2 v3 s = some res) : ∃ h2, f_X11_frameOf_19 n (r v0) v1 v2 v3 h = some (eR_X11_frameOf_19 res h2) ∧ iso tg r h2 (sR_X11_frameOf_19 res) ∧ isf tg r hb h2 sb (sR_X11_frameOf_19 res) := by
  unfold g_X11_frameOf_19 at hm
  unfold f_X11_frameOf_19
  by_cases c11 : v1 ≤ v3
  · rw [if_pos c11] at hm ⊢
    obtain rfl := Option.some.inj hm
    exact ⟨_, rfl, I, F⟩
  · rw [if_neg c11] at hm ⊢
    have T1 : tg (gP s v0 40) = 2 := t_tg (c := 11) I T_v0 (by decide) (by decide) rfl (by decide)
    refine tr_eq (t_fR I T_v0 (by decide) (by decide) (by decide)) ?_
    obtain ⟨x2, hx2, hm⟩ := hp_bd hm
    refine tr_eq (t_aI I T1 (by decide) rfl hx2) ?_
    by_cases c10 : x2 = 0
    · rw [if_pos c10] at hm ⊢
      exact t_X11_frameOf_89 I F T_v0 hm
    · rw [if_neg c10] at hm ⊢
      have T3 : tg (gP s v0 10) = 0 := t_tg (c := 11) I T_v0 (by decide) (by decide) rfl (by decide)
      refine tr_eq (t_fR I T_v0 (by decide) (by decide) (by decide)) ?_
      refine tr_eq (t_fI I T_v0 (by decide) (by decide) rfl) ?_
      obtain ⟨x4, hx4, hm⟩ := hp_bd hm
      refine tr_eq (t_aI I T3 (by decide) rfl hx4) ?_
      by_cases c9 : x4 = (1 : Int32)
      · rw [if_pos c9] at hm ⊢
        have T5 : tg (gP s v0 23) = 3 := t_tg (c := 11) I T_v0 (by decide) (by decide) rfl (by decide)
        refine tr_eq (t_fR I T_v0 (by decide) (by decide) (by decide)) ?_
        obtain ⟨x6, hx6, hm⟩ := hp_bd hm
        refine tr_eq (t_aJ I T5 hx6) ?_
        obtain ⟨w7, hw7, hm⟩ := hp_bd hm
        obtain ⟨_, e2, I, F⟩ := t_sJ I F T5 hw7
        refine tr_eq e2 ?_
        refine tr_eq (t_fI I T_v0 (by decide) (by decide) rfl) ?_
        obtain ⟨x8, hx8, hm⟩ := hp_bd hm
        obtain ⟨_, e2, I, F⟩ := t_X11_needs I F T_v0 hx8
        refine tr_eq e2 ?_
        exact t_X11_frameOf_89 I F T_v0 hm
      · rw [if_neg c9] at hm ⊢
        exact t_X11_frameOf_89 I F T_v0 hm
def gL_X11_frameOf_19 (n : Nat) (v0 : Nat) (v1 : Int32) (v2 : Int32) (c : Int32 × st_T) : Option ((Int32 × st_T) ⊕ (st_T)) := g_X11_frameOf_19 n v0 v1 v2 c.1 c.2
theorem tl_X11_frameOf_19 {tg r : Nat → Nat} {hb : hp_H} {sb : st_T} {n : Nat} {v0 : Nat} {v1 : Int32} {v2 : Int32} (T_v0 : tg v0 = 21) : ∀ (k : Nat) (c0 : Int32) (h : hp_H) (s : st_T) (x : st_T), iso tg r h s → isf tg r hb h sb s → hp_lp (gL_X11_frameOf_19 n v0 v1 v2) k (c0, s) = some x → ∃ h2, hp_lp (fL_X11_frameOf_19 n (r v0) v1 v2) k (c0, h) = some (eX_X11_frameOf_19 x h2) ∧ iso tg r h2 (sX_X11_frameOf_19 x) ∧ isf tg r hb h2 sb (sX_X11_frameOf_19 x) := by
  intro k
  induction k with
  | zero => intro c0 h s x I F hx; exact (hp_lp_0 hx).elim
  | succ k ih =>
    intro c0 h s x I F hx
    obtain ⟨rr, hr, hc⟩ := hp_lp_1 hx
    obtain ⟨h2, e2, I2, F2⟩ := t_X11_frameOf_19 I F T_v0 hr
    rcases hc with ⟨s3, e3, hx3⟩ | e3
    · subst e3
      obtain ⟨h3, e4, I3, F3⟩ := ih _ h2 _ x I2 F2 hx3
      exact ⟨h3, hp_lp_s e2 e4, I3, F3⟩
    · subst e3
      exact ⟨h2, hp_lp_x e2, I2, F2⟩
def g_X11_frameOf_0 (n : Nat) (v0 : Nat) (v1 : Int32) (s : st_T) : Option (st_T) :=
  (g_X11_needs n v0 (((200 : Int32) * (gF s v0 32)) + v1) (((200 : Int32) * (gF s v0 32)) + v1) s).bind fun x1 =>
  (hp_lp (gL_X11_frameOf_19 n v0 v1 (((200 : Int32) * (gF s v0 32)) + v1)) n ((0 : Int32), x1)).bind fun x2 =>
  some x2
set_option maxHeartbeats 1000000 in
theorem t_X11_frameOf_0 {tg r : Nat → Nat} {h hb : hp_H} {s sb : st_T} {n : Nat} {v0 : Nat} {v1 : Int32} (I : iso tg r h s) (F : isf tg r hb h sb s) (T_v0 : tg v0 = 21) {res : st_T} (hm : g_X11_frameOf_0 n v0 v1 s = some res) : ∃ h2, f_X11_frameOf_0 n (r v0) v1 h = some (h2) ∧ iso tg r h2 res ∧ isf tg r hb h2 sb res := by
  unfold g_X11_frameOf_0 at hm
  unfold f_X11_frameOf_0
  refine tr_eq (t_fI I T_v0 (by decide) (by decide) rfl) ?_
  obtain ⟨x1, hx1, hm⟩ := hp_bd hm
  obtain ⟨_, e2, I, F⟩ := t_X11_needs I F T_v0 hx1
  refine tr_eq e2 ?_
  obtain ⟨x2, hx2, hm⟩ := hp_bd hm
  obtain ⟨_, e2, I, F⟩ := tl_X11_frameOf_19 T_v0 n _ _ _ _ I F hx2
  refine tr_eq e2 ?_
  try dsimp only [eX_X11_frameOf_19]
  replace I : iso tg _ _ x2 := I
  replace F : isf tg _ _ _ _ x2 := F
  obtain rfl := Option.some.inj hm
  exact ⟨_, rfl, I, F⟩
def g_X11_frameOf (n : Nat) (v0 : Nat) (v1 : Int32) (s : st_T) : Option (st_T) := g_X11_frameOf_0 n v0 v1 s
theorem t_X11_frameOf {tg r : Nat → Nat} {h hb : hp_H} {s sb : st_T} {n : Nat} {v0 : Nat} {v1 : Int32} (I : iso tg r h s) (F : isf tg r hb h sb s) (T_v0 : tg v0 = 21) {res : st_T} (hm : g_X11_frameOf n v0 v1 s = some res) : ∃ h2, f_X11_frameOf n (r v0) v1 h = some (h2) ∧ iso tg r h2 res ∧ isf tg r hb h2 sb res := by
  unfold g_X11_frameOf at hm
  unfold f_X11_frameOf
  refine tr_eq (t_ck I T_v0 (by decide)) ?_
  exact t_X11_frameOf_0 I F T_v0 hm
abbrev eX_X11_endStatement_23 (x : st_T) (h2 : hp_H) : hp_H := (fun y => h2) x
abbrev sX_X11_endStatement_23 (x : st_T) : st_T := (fun y => y) x
abbrev eR_X11_endStatement_23 (x : (Int32 × st_T) ⊕ (st_T)) (h2 : hp_H) : (Int32 × hp_H) ⊕ (hp_H) := Sum.elim (fun y => .inl (y.1, h2)) (fun y => .inr (eX_X11_endStatement_23 y h2)) x
abbrev sR_X11_endStatement_23 (x : (Int32 × st_T) ⊕ (st_T)) : st_T := Sum.elim (fun y => y.2) sX_X11_endStatement_23 x
def g_X11_endStatement_23 (n : Nat) (v0 : Nat) (v1 : Int32) (v2 : Int32) (v3 : Int32) (s : st_T) : Option ((Int32 × st_T) ⊕ (st_T)) :=
  if (4 : Int32) ≤ v3 then
    some (.inr s)
  else
    (uJ s (gP s v0 22) (((4 : Int32) * v2) + v3) (0 : Int64)).bind fun w2 =>
    (uJ w2 (gP w2 v0 23) (((4 : Int32) * v2) + v3) (0 : Int64)).bind fun w4 =>
    some (.inl ((v3 + (1 : Int32)), w4))
set_option maxHeartbeats 1000000 in
theorem t_X11_endStatement_23 {tg r : Nat → Nat} {h hb : hp_H} {s sb : st_T} {n : Nat} {v0 : Nat} {v1 : Int32} {v2 : Int32} {v3 : Int32} (I : iso tg r h s) (F : isf tg r hb h sb s) (T_v0 : tg v0 = 21) {res : (Int32 × st_T) ⊕ (st_T)} (hm : g_X11_endStatement_23 n v0 v1 v2 v3 s = some res) : ∃ h2, f_X11_endStatement_23 n (r v0) v1 v2 v3 h = some (eR_X11_endStatement_23 res h2) ∧ iso tg r h2 (sR_X11_endStatement_23 res) ∧ isf tg r hb h2 sb (sR_X11_endStatement_23 res) := by
  unfold g_X11_endStatement_23 at hm
  unfold f_X11_endStatement_23
  by_cases c5 : (4 : Int32) ≤ v3
  · rw [if_pos c5] at hm ⊢
    obtain rfl := Option.some.inj hm
    exact ⟨_, rfl, I, F⟩
  · rw [if_neg c5] at hm ⊢
    have T1 : tg (gP s v0 22) = 3 := t_tg (c := 11) I T_v0 (by decide) (by decide) rfl (by decide)
    refine tr_eq (t_fR I T_v0 (by decide) (by decide) (by decide)) ?_
    obtain ⟨w2, hw2, hm⟩ := hp_bd hm
    obtain ⟨_, e2, I, F⟩ := t_sJ I F T1 hw2
    refine tr_eq e2 ?_
    have T3 : tg (gP w2 v0 23) = 3 := t_tg (c := 11) I T_v0 (by decide) (by decide) rfl (by decide)
    refine tr_eq (t_fR I T_v0 (by decide) (by decide) (by decide)) ?_
    obtain ⟨w4, hw4, hm⟩ := hp_bd hm
    obtain ⟨_, e2, I, F⟩ := t_sJ I F T3 hw4
    refine tr_eq e2 ?_
    obtain rfl := Option.some.inj hm
    exact ⟨_, rfl, I, F⟩
def gL_X11_endStatement_23 (n : Nat) (v0 : Nat) (v1 : Int32) (v2 : Int32) (c : Int32 × st_T) : Option ((Int32 × st_T) ⊕ (st_T)) := g_X11_endStatement_23 n v0 v1 v2 c.1 c.2
theorem tl_X11_endStatement_23 {tg r : Nat → Nat} {hb : hp_H} {sb : st_T} {n : Nat} {v0 : Nat} {v1 : Int32} {v2 : Int32} (T_v0 : tg v0 = 21) : ∀ (k : Nat) (c0 : Int32) (h : hp_H) (s : st_T) (x : st_T), iso tg r h s → isf tg r hb h sb s → hp_lp (gL_X11_endStatement_23 n v0 v1 v2) k (c0, s) = some x → ∃ h2, hp_lp (fL_X11_endStatement_23 n (r v0) v1 v2) k (c0, h) = some (eX_X11_endStatement_23 x h2) ∧ iso tg r h2 (sX_X11_endStatement_23 x) ∧ isf tg r hb h2 sb (sX_X11_endStatement_23 x) := by
  intro k
  induction k with
  | zero => intro c0 h s x I F hx; exact (hp_lp_0 hx).elim
  | succ k ih =>
    intro c0 h s x I F hx
    obtain ⟨rr, hr, hc⟩ := hp_lp_1 hx
    obtain ⟨h2, e2, I2, F2⟩ := t_X11_endStatement_23 I F T_v0 hr
    rcases hc with ⟨s3, e3, hx3⟩ | e3
    · subst e3
      obtain ⟨h3, e4, I3, F3⟩ := ih _ h2 _ x I2 F2 hx3
      exact ⟨h3, hp_lp_s e2 e4, I3, F3⟩
    · subst e3
      exact ⟨h2, hp_lp_x e2, I2, F2⟩
abbrev eX_X11_endStatement_58 (x : st_T) (h2 : hp_H) : hp_H := (fun y => h2) x
abbrev sX_X11_endStatement_58 (x : st_T) : st_T := (fun y => y) x
abbrev eR_X11_endStatement_58 (x : (Int32 × st_T) ⊕ (st_T)) (h2 : hp_H) : (Int32 × hp_H) ⊕ (hp_H) := Sum.elim (fun y => .inl (y.1, h2)) (fun y => .inr (eX_X11_endStatement_58 y h2)) x
abbrev sR_X11_endStatement_58 (x : (Int32 × st_T) ⊕ (st_T)) : st_T := Sum.elim (fun y => y.2) sX_X11_endStatement_58 x
def g_X11_endStatement_94 (n : Nat) (v0 : Nat) (v1 : Int32) (v2 : Int32) (v3 : Int32) (s : st_T) : Option ((Int32 × st_T) ⊕ (st_T)) :=
  some (.inl ((v3 + (1 : Int32)), s))
set_option maxHeartbeats 1000000 in
theorem t_X11_endStatement_94 {tg r : Nat → Nat} {h hb : hp_H} {s sb : st_T} {n : Nat} {v0 : Nat} {v1 : Int32} {v2 : Int32} {v3 : Int32} (I : iso tg r h s) (F : isf tg r hb h sb s) (T_v0 : tg v0 = 21) {res : (Int32 × st_T) ⊕ (st_T)} (hm : g_X11_endStatement_94 n v0 v1 v2 v3 s = some res) : ∃ h2, f_X11_endStatement_94 n (r v0) v1 v2 v3 h = some (eR_X11_endStatement_58 res h2) ∧ iso tg r h2 (sR_X11_endStatement_58 res) ∧ isf tg r hb h2 sb (sR_X11_endStatement_58 res) := by
  unfold g_X11_endStatement_94 at hm
  unfold f_X11_endStatement_94
  obtain rfl := Option.some.inj hm
  exact ⟨_, rfl, I, F⟩
def g_X11_endStatement_58 (n : Nat) (v0 : Nat) (v1 : Int32) (v2 : Int32) (v3 : Int32) (s : st_T) : Option ((Int32 × st_T) ⊕ (st_T)) :=
  if v1 ≤ v3 then
    some (.inr s)
  else
    (gA s (gP s v0 40) v3).bind fun x2 =>
    if x2 = 0 then
      g_X11_endStatement_94 n v0 v1 v2 v3 s
    else
      (gJ s (gP s v0 22) (((4 : Int32) * v2) + (v3 / (64 : Int32)))).bind fun x4 =>
      (uJ s (gP s v0 22) (((4 : Int32) * v2) + (v3 / (64 : Int32))) (x4 ||| ((1 : Int64) <<< (Int32.toInt64 (v3 - v3 / (64 : Int32) * (64 : Int32)) &&& 63)))).bind fun w5 =>
      g_X11_endStatement_94 n v0 v1 v2 v3 w5
set_option maxHeartbeats 1000000 in
theorem t_X11_endStatement_58 {tg r : Nat → Nat} {h hb : hp_H} {s sb : st_T} {n : Nat} {v0 : Nat} {v1 : Int32} {v2 : Int32} {v3 : Int32} (I : iso tg r h s) (F : isf tg r hb h sb s) (T_v0 : tg v0 = 21) {res : (Int32 × st_T) ⊕ (st_T)} (hm : g_X11_endStatement_58 n v0 v1 v2 v3 s = some res) : ∃ h2, f_X11_endStatement_58 n (r v0) v1 v2 v3 h = some (eR_X11_endStatement_58 res h2) ∧ iso tg r h2 (sR_X11_endStatement_58 res) ∧ isf tg r hb h2 sb (sR_X11_endStatement_58 res) := by
  unfold g_X11_endStatement_58 at hm
  unfold f_X11_endStatement_58
  by_cases c7 : v1 ≤ v3
  · rw [if_pos c7] at hm ⊢
    obtain rfl := Option.some.inj hm
    exact ⟨_, rfl, I, F⟩
  · rw [if_neg c7] at hm ⊢
    have T1 : tg (gP s v0 40) = 2 := t_tg (c := 11) I T_v0 (by decide) (by decide) rfl (by decide)
    refine tr_eq (t_fR I T_v0 (by decide) (by decide) (by decide)) ?_
    obtain ⟨x2, hx2, hm⟩ := hp_bd hm
    refine tr_eq (t_aI I T1 (by decide) rfl hx2) ?_
    by_cases c6 : x2 = 0
    · rw [if_pos c6] at hm ⊢
      exact t_X11_endStatement_94 I F T_v0 hm
    · rw [if_neg c6] at hm ⊢
      have T3 : tg (gP s v0 22) = 3 := t_tg (c := 11) I T_v0 (by decide) (by decide) rfl (by decide)
      refine tr_eq (t_fR I T_v0 (by decide) (by decide) (by decide)) ?_
      obtain ⟨x4, hx4, hm⟩ := hp_bd hm
      refine tr_eq (t_aJ I T3 hx4) ?_
      obtain ⟨w5, hw5, hm⟩ := hp_bd hm
      obtain ⟨_, e2, I, F⟩ := t_sJ I F T3 hw5
      refine tr_eq e2 ?_
      exact t_X11_endStatement_94 I F T_v0 hm
def gL_X11_endStatement_58 (n : Nat) (v0 : Nat) (v1 : Int32) (v2 : Int32) (c : Int32 × st_T) : Option ((Int32 × st_T) ⊕ (st_T)) := g_X11_endStatement_58 n v0 v1 v2 c.1 c.2
theorem tl_X11_endStatement_58 {tg r : Nat → Nat} {hb : hp_H} {sb : st_T} {n : Nat} {v0 : Nat} {v1 : Int32} {v2 : Int32} (T_v0 : tg v0 = 21) : ∀ (k : Nat) (c0 : Int32) (h : hp_H) (s : st_T) (x : st_T), iso tg r h s → isf tg r hb h sb s → hp_lp (gL_X11_endStatement_58 n v0 v1 v2) k (c0, s) = some x → ∃ h2, hp_lp (fL_X11_endStatement_58 n (r v0) v1 v2) k (c0, h) = some (eX_X11_endStatement_58 x h2) ∧ iso tg r h2 (sX_X11_endStatement_58 x) ∧ isf tg r hb h2 sb (sX_X11_endStatement_58 x) := by
  intro k
  induction k with
  | zero => intro c0 h s x I F hx; exact (hp_lp_0 hx).elim
  | succ k ih =>
    intro c0 h s x I F hx
    obtain ⟨rr, hr, hc⟩ := hp_lp_1 hx
    obtain ⟨h2, e2, I2, F2⟩ := t_X11_endStatement_58 I F T_v0 hr
    rcases hc with ⟨s3, e3, hx3⟩ | e3
    · subst e3
      obtain ⟨h3, e4, I3, F3⟩ := ih _ h2 _ x I2 F2 hx3
      exact ⟨h3, hp_lp_s e2 e4, I3, F3⟩
    · subst e3
      exact ⟨h2, hp_lp_x e2, I2, F2⟩
def g_X11_endStatement_162 (n : Nat) (v0 : Nat) (s : st_T) : Option (st_T) :=
  (gA s (gP s v0 18) (gF s v0 32)).bind fun x2 =>
  (uA 0 s (gP s v0 18) (gF s v0 32) (x2 + (1 : Int32))).bind fun w3 =>
  (wF w3 v0 34 (0 : Int32)).bind fun w4 =>
  some w4
set_option maxHeartbeats 1000000 in
theorem t_X11_endStatement_162 {tg r : Nat → Nat} {h hb : hp_H} {s sb : st_T} {n : Nat} {v0 : Nat} (I : iso tg r h s) (F : isf tg r hb h sb s) (T_v0 : tg v0 = 21) {res : st_T} (hm : g_X11_endStatement_162 n v0 s = some res) : ∃ h2, f_X11_endStatement_162 n (r v0) h = some (h2) ∧ iso tg r h2 res ∧ isf tg r hb h2 sb res := by
  unfold g_X11_endStatement_162 at hm
  unfold f_X11_endStatement_162
  have T1 : tg (gP s v0 18) = 0 := t_tg (c := 11) I T_v0 (by decide) (by decide) rfl (by decide)
  refine tr_eq (t_fR I T_v0 (by decide) (by decide) (by decide)) ?_
  refine tr_eq (t_fI I T_v0 (by decide) (by decide) rfl) ?_
  obtain ⟨x2, hx2, hm⟩ := hp_bd hm
  refine tr_eq (t_aI I T1 (by decide) rfl hx2) ?_
  obtain ⟨w3, hw3, hm⟩ := hp_bd hm
  obtain ⟨_, e2, I, F⟩ := t_sI I F T1 (by decide) rfl hw3
  refine tr_eq e2 ?_
  obtain ⟨w4, hw4, hm⟩ := hp_bd hm
  obtain ⟨_, e2, I, F⟩ := t_wF (c := 11) (k := 34) I F T_v0 (by decide) (by decide) rfl hw4
  refine tr_eq e2 ?_
  obtain rfl := Option.some.inj hm
  exact ⟨_, rfl, I, F⟩
def g_X11_endStatement_0 (n : Nat) (v0 : Nat) (s : st_T) : Option (st_T) :=
  (gA s (gP s v0 18) (gF s v0 32)).bind fun x2 =>
  (hp_lp (gL_X11_endStatement_23 n v0 x2 (((200 : Int32) * (gF s v0 32)) + x2)) n ((0 : Int32), s)).bind fun x3 =>
  (hp_lp (gL_X11_endStatement_58 n v0 x2 (((200 : Int32) * (gF s v0 32)) + x2)) n ((0 : Int32), x3)).bind fun x5 =>
  (gA x5 (gP x5 v0 10) (((200 : Int32) * (gF s v0 32)) + x2)).bind fun x8 =>
  if x8 < (2 : Int32) then
    (uA 2 x5 (gP x5 v0 40) x2 (1 : Int32)).bind fun w10 =>
    (gA w10 (gP w10 v0 10) (((200 : Int32) * (gF s v0 32)) + x2)).bind fun x12 =>
    if x12 = 0 then
      (gA w10 (gP w10 v0 14) (((200 : Int32) * (gF s v0 32)) + x2)).bind fun x16 =>
      (gA w10 (gP w10 v0 19) ((((4096 : Int32) * (gF w10 v0 32)) + x16) + (1 : Int32))).bind fun x17 =>
      (uA 0 w10 (gP w10 v0 39) x17 x2).bind fun w18 =>
      g_X11_endStatement_162 n v0 w18
    else
      g_X11_endStatement_162 n v0 w10
  else
    (g_X11_frameOf n v0 x2 x5).bind fun x20 =>
    g_X11_endStatement_162 n v0 x20
set_option maxHeartbeats 1000000 in
theorem t_X11_endStatement_0 {tg r : Nat → Nat} {h hb : hp_H} {s sb : st_T} {n : Nat} {v0 : Nat} (I : iso tg r h s) (F : isf tg r hb h sb s) (T_v0 : tg v0 = 21) {res : st_T} (hm : g_X11_endStatement_0 n v0 s = some res) : ∃ h2, f_X11_endStatement_0 n (r v0) h = some (h2) ∧ iso tg r h2 res ∧ isf tg r hb h2 sb res := by
  unfold g_X11_endStatement_0 at hm
  unfold f_X11_endStatement_0
  have T1 : tg (gP s v0 18) = 0 := t_tg (c := 11) I T_v0 (by decide) (by decide) rfl (by decide)
  refine tr_eq (t_fR I T_v0 (by decide) (by decide) (by decide)) ?_
  refine tr_eq (t_fI I T_v0 (by decide) (by decide) rfl) ?_
  obtain ⟨x2, hx2, hm⟩ := hp_bd hm
  refine tr_eq (t_aI I T1 (by decide) rfl hx2) ?_
  refine tr_eq (t_fI I T_v0 (by decide) (by decide) rfl) ?_
  obtain ⟨x3, hx3, hm⟩ := hp_bd hm
  obtain ⟨_, e2, I, F⟩ := tl_X11_endStatement_23 T_v0 n _ _ _ _ I F hx3
  refine tr_eq e2 ?_
  try dsimp only [eX_X11_endStatement_23]
  replace I : iso tg _ _ x3 := I
  replace F : isf tg _ _ _ _ x3 := F
  obtain ⟨x5, hx5, hm⟩ := hp_bd hm
  obtain ⟨_, e2, I, F⟩ := tl_X11_endStatement_58 T_v0 n _ _ _ _ I F hx5
  refine tr_eq e2 ?_
  try dsimp only [eX_X11_endStatement_58]
  replace I : iso tg _ _ x5 := I
  replace F : isf tg _ _ _ _ x5 := F
  have T7 : tg (gP x5 v0 10) = 0 := t_tg (c := 11) I T_v0 (by decide) (by decide) rfl (by decide)
  refine tr_eq (t_fR I T_v0 (by decide) (by decide) (by decide)) ?_
  obtain ⟨x8, hx8, hm⟩ := hp_bd hm
  refine tr_eq (t_aI I T7 (by decide) rfl hx8) ?_
  by_cases c21 : x8 < (2 : Int32)
  · rw [if_pos c21] at hm ⊢
    have T9 : tg (gP x5 v0 40) = 2 := t_tg (c := 11) I T_v0 (by decide) (by decide) rfl (by decide)
    refine tr_eq (t_fR I T_v0 (by decide) (by decide) (by decide)) ?_
    obtain ⟨w10, hw10, hm⟩ := hp_bd hm
    obtain ⟨_, e2, I, F⟩ := t_sI I F T9 (by decide) rfl hw10
    refine tr_eq e2 ?_
    have T11 : tg (gP w10 v0 10) = 0 := t_tg (c := 11) I T_v0 (by decide) (by decide) rfl (by decide)
    refine tr_eq (t_fR I T_v0 (by decide) (by decide) (by decide)) ?_
    obtain ⟨x12, hx12, hm⟩ := hp_bd hm
    refine tr_eq (t_aI I T11 (by decide) rfl hx12) ?_
    by_cases c19 : x12 = 0
    · rw [if_pos c19] at hm ⊢
      have T13 : tg (gP w10 v0 39) = 0 := t_tg (c := 11) I T_v0 (by decide) (by decide) rfl (by decide)
      refine tr_eq (t_fR I T_v0 (by decide) (by decide) (by decide)) ?_
      have T14 : tg (gP w10 v0 19) = 0 := t_tg (c := 11) I T_v0 (by decide) (by decide) rfl (by decide)
      refine tr_eq (t_fR I T_v0 (by decide) (by decide) (by decide)) ?_
      refine tr_eq (t_fI I T_v0 (by decide) (by decide) rfl) ?_
      have T15 : tg (gP w10 v0 14) = 0 := t_tg (c := 11) I T_v0 (by decide) (by decide) rfl (by decide)
      refine tr_eq (t_fR I T_v0 (by decide) (by decide) (by decide)) ?_
      obtain ⟨x16, hx16, hm⟩ := hp_bd hm
      refine tr_eq (t_aI I T15 (by decide) rfl hx16) ?_
      obtain ⟨x17, hx17, hm⟩ := hp_bd hm
      refine tr_eq (t_aI I T14 (by decide) rfl hx17) ?_
      obtain ⟨w18, hw18, hm⟩ := hp_bd hm
      obtain ⟨_, e2, I, F⟩ := t_sI I F T13 (by decide) rfl hw18
      refine tr_eq e2 ?_
      exact t_X11_endStatement_162 I F T_v0 hm
    · rw [if_neg c19] at hm ⊢
      exact t_X11_endStatement_162 I F T_v0 hm
  · rw [if_neg c21] at hm ⊢
    obtain ⟨x20, hx20, hm⟩ := hp_bd hm
    obtain ⟨_, e2, I, F⟩ := t_X11_frameOf I F T_v0 hx20
    refine tr_eq e2 ?_
    exact t_X11_endStatement_162 I F T_v0 hm
def g_X11_endStatement (n : Nat) (v0 : Nat) (s : st_T) : Option (st_T) := g_X11_endStatement_0 n v0 s
theorem t_X11_endStatement {tg r : Nat → Nat} {h hb : hp_H} {s sb : st_T} {n : Nat} {v0 : Nat} (I : iso tg r h s) (F : isf tg r hb h sb s) (T_v0 : tg v0 = 21) {res : st_T} (hm : g_X11_endStatement n v0 s = some res) : ∃ h2, f_X11_endStatement n (r v0) h = some (h2) ∧ iso tg r h2 res ∧ isf tg r hb h2 sb res := by
  unfold g_X11_endStatement at hm
  unfold f_X11_endStatement
  refine tr_eq (t_ck I T_v0 (by decide)) ?_
  exact t_X11_endStatement_0 I F T_v0 hm
def g_X11_isConstant_0 (n : Nat) (v0 : Nat) (v1 : Int32) (s : st_T) : Option (Int32) :=
  if v1 < 0 then
    some (0 : Int32)
  else
    (gA s (gP s v0 8) (((300 : Int32) * (gF s v0 32)) + v1)).bind fun x2 =>
    if x2 = 0 then
      some (1 : Int32)
    else
      some (0 : Int32)
set_option maxHeartbeats 1000000 in
theorem t_X11_isConstant_0 {tg r : Nat → Nat} {h : hp_H} {s : st_T} {n : Nat} {v0 : Nat} {v1 : Int32} (I : iso tg r h s) (T_v0 : tg v0 = 21) {res : Int32} (hm : g_X11_isConstant_0 n v0 v1 s = some res) : f_X11_isConstant_0 n (r v0) v1 h = some res := by
  unfold g_X11_isConstant_0 at hm
  unfold f_X11_isConstant_0
  by_cases c4 : v1 < 0
  · rw [if_pos c4] at hm ⊢
    obtain rfl := Option.some.inj hm
    rfl
  · rw [if_neg c4] at hm ⊢
    have T1 : tg (gP s v0 8) = 2 := t_tg (c := 11) I T_v0 (by decide) (by decide) rfl (by decide)
    refine tr_eq0 (t_fR I T_v0 (by decide) (by decide) (by decide)) ?_
    refine tr_eq0 (t_fI I T_v0 (by decide) (by decide) rfl) ?_
    obtain ⟨x2, hx2, hm⟩ := hp_bd hm
    refine tr_eq0 (t_aI I T1 (by decide) rfl hx2) ?_
    by_cases c3 : x2 = 0
    · rw [if_pos c3] at hm ⊢
      obtain rfl := Option.some.inj hm
      rfl
    · rw [if_neg c3] at hm ⊢
      obtain rfl := Option.some.inj hm
      rfl
def g_X11_isConstant (n : Nat) (v0 : Nat) (v1 : Int32) (s : st_T) : Option (Int32) := g_X11_isConstant_0 n v0 v1 s
theorem t_X11_isConstant {tg r : Nat → Nat} {h : hp_H} {s : st_T} {n : Nat} {v0 : Nat} {v1 : Int32} (I : iso tg r h s) (T_v0 : tg v0 = 21) {res : Int32} (hm : g_X11_isConstant n v0 v1 s = some res) : f_X11_isConstant n (r v0) v1 h = some res := by
  unfold g_X11_isConstant at hm
  unfold f_X11_isConstant
  refine tr_eq0 (t_ck I T_v0 (by decide)) ?_
  exact t_X11_isConstant_0 I T_v0 hm
def g_X11_takeSymbol_0 (n : Nat) (v0 : Nat) (v1 : Int32) (s : st_T) : Option (st_T) :=
  (gA s (gP s v0 18) (gF s v0 32)).bind fun x2 =>
  (uA 0 s (gP s v0 19) (((4096 : Int32) * (gF s v0 32)) + (gF s v0 36)) v1).bind fun w4 =>
  (wF w4 v0 36 ((gF w4 v0 36) + (1 : Int32))).bind fun w5 =>
  (gA w5 (gP w5 v0 15) (((200 : Int32) * (gF s v0 32)) + x2)).bind fun x7 =>
  (uA 0 w5 (gP w5 v0 15) (((200 : Int32) * (gF s v0 32)) + x2) (x7 + (1 : Int32))).bind fun w8 =>
  some w8
set_option maxHeartbeats 1000000 in
theorem t_X11_takeSymbol_0 {tg r : Nat → Nat} {h hb : hp_H} {s sb : st_T} {n : Nat} {v0 : Nat} {v1 : Int32} (I : iso tg r h s) (F : isf tg r hb h sb s) (T_v0 : tg v0 = 21) {res : st_T} (hm : g_X11_takeSymbol_0 n v0 v1 s = some res) : ∃ h2, f_X11_takeSymbol_0 n (r v0) v1 h = some (h2) ∧ iso tg r h2 res ∧ isf tg r hb h2 sb res := by
  unfold g_X11_takeSymbol_0 at hm
  unfold f_X11_takeSymbol_0
  refine tr_eq (t_fI I T_v0 (by decide) (by decide) rfl) ?_
  have T1 : tg (gP s v0 18) = 0 := t_tg (c := 11) I T_v0 (by decide) (by decide) rfl (by decide)
  refine tr_eq (t_fR I T_v0 (by decide) (by decide) (by decide)) ?_
  refine tr_eq (t_fI I T_v0 (by decide) (by decide) rfl) ?_
  obtain ⟨x2, hx2, hm⟩ := hp_bd hm
  refine tr_eq (t_aI I T1 (by decide) rfl hx2) ?_
  have T3 : tg (gP s v0 19) = 0 := t_tg (c := 11) I T_v0 (by decide) (by decide) rfl (by decide)
  refine tr_eq (t_fR I T_v0 (by decide) (by decide) (by decide)) ?_
  refine tr_eq (t_fI I T_v0 (by decide) (by decide) rfl) ?_
  refine tr_eq (t_fI I T_v0 (by decide) (by decide) rfl) ?_
  obtain ⟨w4, hw4, hm⟩ := hp_bd hm
  obtain ⟨_, e2, I, F⟩ := t_sI I F T3 (by decide) rfl hw4
  refine tr_eq e2 ?_
  refine tr_eq (t_fI I T_v0 (by decide) (by decide) rfl) ?_
  obtain ⟨w5, hw5, hm⟩ := hp_bd hm
  obtain ⟨_, e2, I, F⟩ := t_wF (c := 11) (k := 36) I F T_v0 (by decide) (by decide) rfl hw5
  refine tr_eq e2 ?_
  have T6 : tg (gP w5 v0 15) = 0 := t_tg (c := 11) I T_v0 (by decide) (by decide) rfl (by decide)
  refine tr_eq (t_fR I T_v0 (by decide) (by decide) (by decide)) ?_
  obtain ⟨x7, hx7, hm⟩ := hp_bd hm
  refine tr_eq (t_aI I T6 (by decide) rfl hx7) ?_
  obtain ⟨w8, hw8, hm⟩ := hp_bd hm
  obtain ⟨_, e2, I, F⟩ := t_sI I F T6 (by decide) rfl hw8
  refine tr_eq e2 ?_
  obtain rfl := Option.some.inj hm
  exact ⟨_, rfl, I, F⟩
def g_X11_takeSymbol (n : Nat) (v0 : Nat) (v1 : Int32) (s : st_T) : Option (st_T) := g_X11_takeSymbol_0 n v0 v1 s
theorem t_X11_takeSymbol {tg r : Nat → Nat} {h hb : hp_H} {s sb : st_T} {n : Nat} {v0 : Nat} {v1 : Int32} (I : iso tg r h s) (F : isf tg r hb h sb s) (T_v0 : tg v0 = 21) {res : st_T} (hm : g_X11_takeSymbol n v0 v1 s = some res) : ∃ h2, f_X11_takeSymbol n (r v0) v1 h = some (h2) ∧ iso tg r h2 res ∧ isf tg r hb h2 sb res := by
  unfold g_X11_takeSymbol at hm
  unfold f_X11_takeSymbol
  refine tr_eq (t_ck I T_v0 (by decide)) ?_
  exact t_X11_takeSymbol_0 I F T_v0 hm
def g_X11_typed_100 (n : Nat) (v0 : Nat) (v2 : Int32) (s : st_T) : Option (Int32 × st_T) :=
  (g_X11_takeSymbol n v0 v2 s).bind fun x1 =>
  some ((0 : Int32), x1)
set_option maxHeartbeats 1000000 in
theorem t_X11_typed_100 {tg r : Nat → Nat} {h hb : hp_H} {s sb : st_T} {n : Nat} {v0 : Nat} {v2 : Int32} (I : iso tg r h s) (F : isf tg r hb h sb s) (T_v0 : tg v0 = 21) {res : Int32 × st_T} (hm : g_X11_typed_100 n v0 v2 s = some res) : ∃ h2, f_X11_typed_100 n (r v0) v2 h = some ((res.1, h2)) ∧ iso tg r h2 res.2 ∧ isf tg r hb h2 sb res.2 := by
  unfold g_X11_typed_100 at hm
  unfold f_X11_typed_100
  obtain ⟨x1, hx1, hm⟩ := hp_bd hm
  obtain ⟨_, e2, I, F⟩ := t_X11_takeSymbol I F T_v0 hx1
  refine tr_eq e2 ?_
  obtain rfl := Option.some.inj hm
  exact ⟨_, rfl, I, F⟩
def g_X11_typed_0 (n : Nat) (v0 : Nat) (s : st_T) : Option (Int32 × st_T) :=
  (gA s (gP s v0 18) (gF s v0 32)).bind fun x3 =>
  (gA s (gP s v0 15) (((200 : Int32) * (gF s v0 32)) + x3)).bind fun x4 =>
  if x4 = (2 : Int32) then
    (g_X11_isWord n v0 (46 : Int32) s).bind fun x18 =>
    if x18 = 0 then
      some ((3 : Int32), s)
    else
      (g_X11_endStatement n v0 s).bind fun x19 =>
      some ((0 : Int32), x19)
  else
    (g_X11_hasDollar n v0 s).bind fun x5 =>
    if x5 = 0 then
      (g_X11_symbolHere n v0 s).bind fun x6 =>
      if x4 = 0 then
        (g_X11_isConstant n v0 x6 s).bind fun x14 =>
        if x14 = 0 then
          some ((6 : Int32), s)
        else
          g_X11_typed_100 n v0 x6 s
      else
        if x6 < 0 then
          some ((6 : Int32), s)
        else
          (gA s (gP s v0 38) x6).bind fun x8 =>
          if x8 < 0 then
            some ((6 : Int32), s)
          else
            (gA s (gP s v0 39) x6).bind fun x10 =>
            if x10 < 0 then
              g_X11_typed_100 n v0 x6 s
            else
              some ((6 : Int32), s)
    else
      some ((3 : Int32), s)
set_option maxHeartbeats 1000000 in
theorem t_X11_typed_0 {tg r : Nat → Nat} {h hb : hp_H} {s sb : st_T} {n : Nat} {v0 : Nat} (I : iso tg r h s) (F : isf tg r hb h sb s) (T_v0 : tg v0 = 21) {res : Int32 × st_T} (hm : g_X11_typed_0 n v0 s = some res) : ∃ h2, f_X11_typed_0 n (r v0) h = some ((res.1, h2)) ∧ iso tg r h2 res.2 ∧ isf tg r hb h2 sb res.2 := by
  unfold g_X11_typed_0 at hm
  unfold f_X11_typed_0
  have T1 : tg (gP s v0 15) = 0 := t_tg (c := 11) I T_v0 (by decide) (by decide) rfl (by decide)
  refine tr_eq (t_fR I T_v0 (by decide) (by decide) (by decide)) ?_
  refine tr_eq (t_fI I T_v0 (by decide) (by decide) rfl) ?_
  have T2 : tg (gP s v0 18) = 0 := t_tg (c := 11) I T_v0 (by decide) (by decide) rfl (by decide)
  refine tr_eq (t_fR I T_v0 (by decide) (by decide) (by decide)) ?_
  refine tr_eq (t_fI I T_v0 (by decide) (by decide) rfl) ?_
  obtain ⟨x3, hx3, hm⟩ := hp_bd hm
  refine tr_eq (t_aI I T2 (by decide) rfl hx3) ?_
  obtain ⟨x4, hx4, hm⟩ := hp_bd hm
  refine tr_eq (t_aI I T1 (by decide) rfl hx4) ?_
  by_cases c21 : x4 = (2 : Int32)
  · rw [if_pos c21] at hm ⊢
    obtain ⟨x18, hx18, hm⟩ := hp_bd hm
    refine tr_eq (t_X11_isWord I T_v0 hx18) ?_
    by_cases c20 : x18 = 0
    · rw [if_pos c20] at hm ⊢
      obtain rfl := Option.some.inj hm
      exact ⟨_, rfl, I, F⟩
    · rw [if_neg c20] at hm ⊢
      obtain ⟨x19, hx19, hm⟩ := hp_bd hm
      obtain ⟨_, e2, I, F⟩ := t_X11_endStatement I F T_v0 hx19
      refine tr_eq e2 ?_
      obtain rfl := Option.some.inj hm
      exact ⟨_, rfl, I, F⟩
  · rw [if_neg c21] at hm ⊢
    obtain ⟨x5, hx5, hm⟩ := hp_bd hm
    refine tr_eq (t_X11_hasDollar I T_v0 hx5) ?_
    by_cases c17 : x5 = 0
    · rw [if_pos c17] at hm ⊢
      obtain ⟨x6, hx6, hm⟩ := hp_bd hm
      refine tr_eq (t_X11_symbolHere I T_v0 hx6) ?_
      by_cases c16 : x4 = 0
      · rw [if_pos c16] at hm ⊢
        obtain ⟨x14, hx14, hm⟩ := hp_bd hm
        refine tr_eq (t_X11_isConstant I T_v0 hx14) ?_
        by_cases c15 : x14 = 0
        · rw [if_pos c15] at hm ⊢
          obtain rfl := Option.some.inj hm
          exact ⟨_, rfl, I, F⟩
        · rw [if_neg c15] at hm ⊢
          exact t_X11_typed_100 I F T_v0 hm
      · rw [if_neg c16] at hm ⊢
        by_cases c13 : x6 < 0
        · rw [if_pos c13] at hm ⊢
          obtain rfl := Option.some.inj hm
          exact ⟨_, rfl, I, F⟩
        · rw [if_neg c13] at hm ⊢
          have T7 : tg (gP s v0 38) = 0 := t_tg (c := 11) I T_v0 (by decide) (by decide) rfl (by decide)
          refine tr_eq (t_fR I T_v0 (by decide) (by decide) (by decide)) ?_
          obtain ⟨x8, hx8, hm⟩ := hp_bd hm
          refine tr_eq (t_aI I T7 (by decide) rfl hx8) ?_
          by_cases c12 : x8 < 0
          · rw [if_pos c12] at hm ⊢
            obtain rfl := Option.some.inj hm
            exact ⟨_, rfl, I, F⟩
          · rw [if_neg c12] at hm ⊢
            have T9 : tg (gP s v0 39) = 0 := t_tg (c := 11) I T_v0 (by decide) (by decide) rfl (by decide)
            refine tr_eq (t_fR I T_v0 (by decide) (by decide) (by decide)) ?_
            obtain ⟨x10, hx10, hm⟩ := hp_bd hm
            refine tr_eq (t_aI I T9 (by decide) rfl hx10) ?_
            by_cases c11 : x10 < 0
            · rw [if_pos c11] at hm ⊢
              exact t_X11_typed_100 I F T_v0 hm
            · rw [if_neg c11] at hm ⊢
              obtain rfl := Option.some.inj hm
              exact ⟨_, rfl, I, F⟩
    · rw [if_neg c17] at hm ⊢
      obtain rfl := Option.some.inj hm
      exact ⟨_, rfl, I, F⟩
def g_X11_typed (n : Nat) (v0 : Nat) (s : st_T) : Option (Int32 × st_T) := g_X11_typed_0 n v0 s
theorem t_X11_typed {tg r : Nat → Nat} {h hb : hp_H} {s sb : st_T} {n : Nat} {v0 : Nat} (I : iso tg r h s) (F : isf tg r hb h sb s) (T_v0 : tg v0 = 21) {res : Int32 × st_T} (hm : g_X11_typed n v0 s = some res) : ∃ h2, f_X11_typed n (r v0) h = some ((res.1, h2)) ∧ iso tg r h2 res.2 ∧ isf tg r hb h2 sb res.2 := by
  unfold g_X11_typed at hm
  unfold f_X11_typed
  refine tr_eq (t_ck I T_v0 (by decide)) ?_
  exact t_X11_typed_0 I F T_v0 hm
def g_X11_formula_149 (n : Nat) (v0 : Nat) (v2 : Int32) (s0 : Int32) (s : st_T) : Option (Int32 × st_T) :=
  if s0 = 0 then
    some ((6 : Int32), s)
  else
    (g_X11_takeSymbol n v0 v2 s).bind fun x1 =>
    some ((0 : Int32), x1)
set_option maxHeartbeats 1000000 in
theorem t_X11_formula_149 {tg r : Nat → Nat} {h hb : hp_H} {s sb : st_T} {n : Nat} {v0 : Nat} {v2 : Int32} {s0 : Int32} (I : iso tg r h s) (F : isf tg r hb h sb s) (T_v0 : tg v0 = 21) {res : Int32 × st_T} (hm : g_X11_formula_149 n v0 v2 s0 s = some res) : ∃ h2, f_X11_formula_149 n (r v0) v2 s0 h = some ((res.1, h2)) ∧ iso tg r h2 res.2 ∧ isf tg r hb h2 sb res.2 := by
  unfold g_X11_formula_149 at hm
  unfold f_X11_formula_149
  by_cases c2 : s0 = 0
  · rw [if_pos c2] at hm ⊢
    obtain rfl := Option.some.inj hm
    exact ⟨_, rfl, I, F⟩
  · rw [if_neg c2] at hm ⊢
    obtain ⟨x1, hx1, hm⟩ := hp_bd hm
    obtain ⟨_, e2, I, F⟩ := t_X11_takeSymbol I F T_v0 hx1
    refine tr_eq e2 ?_
    obtain rfl := Option.some.inj hm
    exact ⟨_, rfl, I, F⟩
def g_X11_formula_144 (n : Nat) (v0 : Nat) (v2 : Int32) (s : st_T) : Option (Int32 × st_T) :=
  g_X11_formula_149 n v0 v2 (1 : Int32) s
set_option maxHeartbeats 1000000 in
theorem t_X11_formula_144 {tg r : Nat → Nat} {h hb : hp_H} {s sb : st_T} {n : Nat} {v0 : Nat} {v2 : Int32} (I : iso tg r h s) (F : isf tg r hb h sb s) (T_v0 : tg v0 = 21) {res : Int32 × st_T} (hm : g_X11_formula_144 n v0 v2 s = some res) : ∃ h2, f_X11_formula_144 n (r v0) v2 h = some ((res.1, h2)) ∧ iso tg r h2 res.2 ∧ isf tg r hb h2 sb res.2 := by
  unfold g_X11_formula_144 at hm
  unfold f_X11_formula_144
  exact t_X11_formula_149 I F T_v0 hm
def g_X11_formula_148 (n : Nat) (v0 : Nat) (v2 : Int32) (s : st_T) : Option (Int32 × st_T) :=
  g_X11_formula_149 n v0 v2 (0 : Int32) s
set_option maxHeartbeats 1000000 in
theorem t_X11_formula_148 {tg r : Nat → Nat} {h hb : hp_H} {s sb : st_T} {n : Nat} {v0 : Nat} {v2 : Int32} (I : iso tg r h s) (F : isf tg r hb h sb s) (T_v0 : tg v0 = 21) {res : Int32 × st_T} (hm : g_X11_formula_148 n v0 v2 s = some res) : ∃ h2, f_X11_formula_148 n (r v0) v2 h = some ((res.1, h2)) ∧ iso tg r h2 res.2 ∧ isf tg r hb h2 sb res.2 := by
  unfold g_X11_formula_148 at hm
  unfold f_X11_formula_148
  exact t_X11_formula_149 I F T_v0 hm
def g_X11_formula_77 (n : Nat) (v0 : Nat) (v1 : Int32) (s : st_T) : Option (Int32 × st_T) :=
  (g_X11_hasDollar n v0 s).bind fun x1 =>
  if x1 = 0 then
    (gA s (gP s v0 15) v1).bind fun x3 =>
    if x3 = (60 : Int32) then
      some ((7 : Int32), s)
    else
      (g_X11_symbolHere n v0 s).bind fun x4 =>
      (g_X11_isConstant n v0 x4 s).bind fun x5 =>
      if x5 = 0 then
        (gA s (gP s v0 15) v1).bind fun x7 =>
        if x7 ≤ 0 then
          g_X11_formula_148 n v0 x4 s
        else
          if x4 < 0 then
            g_X11_formula_148 n v0 x4 s
          else
            (gA s (gP s v0 38) x4).bind fun x9 =>
            if x9 < 0 then
              g_X11_formula_148 n v0 x4 s
            else
              (gA s (gP s v0 39) x4).bind fun x11 =>
              if x11 < 0 then
                g_X11_formula_148 n v0 x4 s
              else
                g_X11_formula_144 n v0 x4 s
      else
        g_X11_formula_144 n v0 x4 s
  else
    some ((3 : Int32), s)
set_option maxHeartbeats 1000000 in
theorem t_X11_formula_77 {tg r : Nat → Nat} {h hb : hp_H} {s sb : st_T} {n : Nat} {v0 : Nat} {v1 : Int32} (I : iso tg r h s) (F : isf tg r hb h sb s) (T_v0 : tg v0 = 21) {res : Int32 × st_T} (hm : g_X11_formula_77 n v0 v1 s = some res) : ∃ h2, f_X11_formula_77 n (r v0) v1 h = some ((res.1, h2)) ∧ iso tg r h2 res.2 ∧ isf tg r hb h2 sb res.2 := by
  unfold g_X11_formula_77 at hm
  unfold f_X11_formula_77
  obtain ⟨x1, hx1, hm⟩ := hp_bd hm
  refine tr_eq (t_X11_hasDollar I T_v0 hx1) ?_
  by_cases c18 : x1 = 0
  · rw [if_pos c18] at hm ⊢
    have T2 : tg (gP s v0 15) = 0 := t_tg (c := 11) I T_v0 (by decide) (by decide) rfl (by decide)
    refine tr_eq (t_fR I T_v0 (by decide) (by decide) (by decide)) ?_
    obtain ⟨x3, hx3, hm⟩ := hp_bd hm
    refine tr_eq (t_aI I T2 (by decide) rfl hx3) ?_
    by_cases c17 : x3 = (60 : Int32)
    · rw [if_pos c17] at hm ⊢
      obtain rfl := Option.some.inj hm
      exact ⟨_, rfl, I, F⟩
    · rw [if_neg c17] at hm ⊢
      obtain ⟨x4, hx4, hm⟩ := hp_bd hm
      refine tr_eq (t_X11_symbolHere I T_v0 hx4) ?_
      obtain ⟨x5, hx5, hm⟩ := hp_bd hm
      refine tr_eq (t_X11_isConstant I T_v0 hx5) ?_
      by_cases c16 : x5 = 0
      · rw [if_pos c16] at hm ⊢
        have T6 : tg (gP s v0 15) = 0 := t_tg (c := 11) I T_v0 (by decide) (by decide) rfl (by decide)
        refine tr_eq (t_fR I T_v0 (by decide) (by decide) (by decide)) ?_
        obtain ⟨x7, hx7, hm⟩ := hp_bd hm
        refine tr_eq (t_aI I T6 (by decide) rfl hx7) ?_
        by_cases c15 : x7 ≤ 0
        · rw [if_pos c15] at hm ⊢
          exact t_X11_formula_148 I F T_v0 hm
        · rw [if_neg c15] at hm ⊢
          by_cases c14 : x4 < 0
          · rw [if_pos c14] at hm ⊢
            exact t_X11_formula_148 I F T_v0 hm
          · rw [if_neg c14] at hm ⊢
            have T8 : tg (gP s v0 38) = 0 := t_tg (c := 11) I T_v0 (by decide) (by decide) rfl (by decide)
            refine tr_eq (t_fR I T_v0 (by decide) (by decide) (by decide)) ?_
            obtain ⟨x9, hx9, hm⟩ := hp_bd hm
            refine tr_eq (t_aI I T8 (by decide) rfl hx9) ?_
            by_cases c13 : x9 < 0
            · rw [if_pos c13] at hm ⊢
              exact t_X11_formula_148 I F T_v0 hm
            · rw [if_neg c13] at hm ⊢
              have T10 : tg (gP s v0 39) = 0 := t_tg (c := 11) I T_v0 (by decide) (by decide) rfl (by decide)
              refine tr_eq (t_fR I T_v0 (by decide) (by decide) (by decide)) ?_
              obtain ⟨x11, hx11, hm⟩ := hp_bd hm
              refine tr_eq (t_aI I T10 (by decide) rfl hx11) ?_
              by_cases c12 : x11 < 0
              · rw [if_pos c12] at hm ⊢
                exact t_X11_formula_148 I F T_v0 hm
              · rw [if_neg c12] at hm ⊢
                exact t_X11_formula_144 I F T_v0 hm
      · rw [if_neg c16] at hm ⊢
        exact t_X11_formula_144 I F T_v0 hm
  · rw [if_neg c18] at hm ⊢
    obtain rfl := Option.some.inj hm
    exact ⟨_, rfl, I, F⟩
def g_X11_formula_37 (n : Nat) (v0 : Nat) (v1 : Int32) (s0 : Int32) (s1 : Nat) (s : st_T) : Option (Int32 × st_T) :=
  (g_X11_isWord n s1 s0 s).bind fun x1 =>
  if x1 = 0 then
    g_X11_formula_77 n v0 v1 s
  else
    (gA s (gP s v0 15) v1).bind fun x3 =>
    if x3 ≤ 0 then
      g_X11_formula_77 n v0 v1 s
    else
      (gA s (gP s v0 10) v1).bind fun x5 =>
      if x5 = (3 : Int32) then
        (wF s v0 34 (7 : Int32)).bind fun w7 =>
        some ((0 : Int32), w7)
      else
        (g_X11_endStatement n v0 s).bind fun x6 =>
        some ((0 : Int32), x6)
set_option maxHeartbeats 1000000 in
theorem t_X11_formula_37 {tg r : Nat → Nat} {h hb : hp_H} {s sb : st_T} {n : Nat} {v0 : Nat} {v1 : Int32} {s0 : Int32} {s1 : Nat} (I : iso tg r h s) (F : isf tg r hb h sb s) (T_v0 : tg v0 = 21) (T_s1 : tg s1 = 21) {res : Int32 × st_T} (hm : g_X11_formula_37 n v0 v1 s0 s1 s = some res) : ∃ h2, f_X11_formula_37 n (r v0) v1 s0 (r s1) h = some ((res.1, h2)) ∧ iso tg r h2 res.2 ∧ isf tg r hb h2 sb res.2 := by
  unfold g_X11_formula_37 at hm
  unfold f_X11_formula_37
  obtain ⟨x1, hx1, hm⟩ := hp_bd hm
  refine tr_eq (t_X11_isWord I T_s1 hx1) ?_
  by_cases c10 : x1 = 0
  · rw [if_pos c10] at hm ⊢
    exact t_X11_formula_77 I F T_v0 hm
  · rw [if_neg c10] at hm ⊢
    have T2 : tg (gP s v0 15) = 0 := t_tg (c := 11) I T_v0 (by decide) (by decide) rfl (by decide)
    refine tr_eq (t_fR I T_v0 (by decide) (by decide) (by decide)) ?_
    obtain ⟨x3, hx3, hm⟩ := hp_bd hm
    refine tr_eq (t_aI I T2 (by decide) rfl hx3) ?_
    by_cases c9 : x3 ≤ 0
    · rw [if_pos c9] at hm ⊢
      exact t_X11_formula_77 I F T_v0 hm
    · rw [if_neg c9] at hm ⊢
      have T4 : tg (gP s v0 10) = 0 := t_tg (c := 11) I T_v0 (by decide) (by decide) rfl (by decide)
      refine tr_eq (t_fR I T_v0 (by decide) (by decide) (by decide)) ?_
      obtain ⟨x5, hx5, hm⟩ := hp_bd hm
      refine tr_eq (t_aI I T4 (by decide) rfl hx5) ?_
      by_cases c8 : x5 = (3 : Int32)
      · rw [if_pos c8] at hm ⊢
        obtain ⟨w7, hw7, hm⟩ := hp_bd hm
        obtain ⟨_, e2, I, F⟩ := t_wF (c := 11) (k := 34) I F T_v0 (by decide) (by decide) rfl hw7
        refine tr_eq e2 ?_
        obtain rfl := Option.some.inj hm
        exact ⟨_, rfl, I, F⟩
      · rw [if_neg c8] at hm ⊢
        obtain ⟨x6, hx6, hm⟩ := hp_bd hm
        obtain ⟨_, e2, I, F⟩ := t_X11_endStatement I F T_v0 hx6
        refine tr_eq e2 ?_
        obtain rfl := Option.some.inj hm
        exact ⟨_, rfl, I, F⟩
def g_X11_formula_0 (n : Nat) (v0 : Nat) (s : st_T) : Option (Int32 × st_T) :=
  (gA s (gP s v0 18) (gF s v0 32)).bind fun x2 =>
  (gA s (gP s v0 10) (((200 : Int32) * (gF s v0 32)) + x2)).bind fun x4 =>
  if x4 = (3 : Int32) then
    g_X11_formula_37 n v0 (((200 : Int32) * (gF s v0 32)) + x2) (61 : Int32) v0 s
  else
    g_X11_formula_37 n v0 (((200 : Int32) * (gF s v0 32)) + x2) (46 : Int32) v0 s
set_option maxHeartbeats 1000000 in
theorem t_X11_formula_0 {tg r : Nat → Nat} {h hb : hp_H} {s sb : st_T} {n : Nat} {v0 : Nat} (I : iso tg r h s) (F : isf tg r hb h sb s) (T_v0 : tg v0 = 21) {res : Int32 × st_T} (hm : g_X11_formula_0 n v0 s = some res) : ∃ h2, f_X11_formula_0 n (r v0) h = some ((res.1, h2)) ∧ iso tg r h2 res.2 ∧ isf tg r hb h2 sb res.2 := by
  unfold g_X11_formula_0 at hm
  unfold f_X11_formula_0
  refine tr_eq (t_fI I T_v0 (by decide) (by decide) rfl) ?_
  have T1 : tg (gP s v0 18) = 0 := t_tg (c := 11) I T_v0 (by decide) (by decide) rfl (by decide)
  refine tr_eq (t_fR I T_v0 (by decide) (by decide) (by decide)) ?_
  refine tr_eq (t_fI I T_v0 (by decide) (by decide) rfl) ?_
  obtain ⟨x2, hx2, hm⟩ := hp_bd hm
  refine tr_eq (t_aI I T1 (by decide) rfl hx2) ?_
  have T3 : tg (gP s v0 10) = 0 := t_tg (c := 11) I T_v0 (by decide) (by decide) rfl (by decide)
  refine tr_eq (t_fR I T_v0 (by decide) (by decide) (by decide)) ?_
  obtain ⟨x4, hx4, hm⟩ := hp_bd hm
  refine tr_eq (t_aI I T3 (by decide) rfl hx4) ?_
  by_cases c5 : x4 = (3 : Int32)
  · rw [if_pos c5] at hm ⊢
    exact t_X11_formula_37 I F T_v0 T_v0 hm
  · rw [if_neg c5] at hm ⊢
    exact t_X11_formula_37 I F T_v0 T_v0 hm
def g_X11_formula (n : Nat) (v0 : Nat) (s : st_T) : Option (Int32 × st_T) := g_X11_formula_0 n v0 s
theorem t_X11_formula {tg r : Nat → Nat} {h hb : hp_H} {s sb : st_T} {n : Nat} {v0 : Nat} (I : iso tg r h s) (F : isf tg r hb h sb s) (T_v0 : tg v0 = 21) {res : Int32 × st_T} (hm : g_X11_formula n v0 s = some res) : ∃ h2, f_X11_formula n (r v0) h = some ((res.1, h2)) ∧ iso tg r h2 res.2 ∧ isf tg r hb h2 sb res.2 := by
  unfold g_X11_formula at hm
  unfold f_X11_formula
  refine tr_eq (t_ck I T_v0 (by decide)) ?_
  exact t_X11_formula_0 I F T_v0 hm
def g_X11_proof_0 (n : Nat) (v0 : Nat) (s : st_T) : Option (Int32 × st_T) :=
  (gA s (gP s v0 18) (gF s v0 32)).bind fun x2 =>
  (g_X11_isWord n v0 (46 : Int32) s).bind fun x3 =>
  if x3 = 0 then
    (g_X11_hasDollar n v0 s).bind fun x4 =>
    if x4 = 0 then
      (gA s (gP s v0 17) (((200 : Int32) * (gF s v0 32)) + x2)).bind fun x6 =>
      if x6 = (400 : Int32) then
        some ((7 : Int32), s)
      else
        (uA 0 s (gP s v0 20) (((4096 : Int32) * (gF s v0 32)) + (gF s v0 37)) (gF s v0 29)).bind fun w8 =>
        (uA 0 w8 (gP w8 v0 21) (((4096 : Int32) * (gF w8 v0 32)) + (gF w8 v0 37)) (gF w8 v0 30)).bind fun w10 =>
        (wF w10 v0 37 ((gF w10 v0 37) + (1 : Int32))).bind fun w11 =>
        (gA w11 (gP w11 v0 17) (((200 : Int32) * (gF s v0 32)) + x2)).bind fun x13 =>
        (uA 0 w11 (gP w11 v0 17) (((200 : Int32) * (gF s v0 32)) + x2) (x13 + (1 : Int32))).bind fun w14 =>
        some ((0 : Int32), w14)
    else
      some ((3 : Int32), s)
  else
    (g_X11_endStatement n v0 s).bind fun x17 =>
    some ((0 : Int32), x17)
set_option maxHeartbeats 1000000 in
theorem t_X11_proof_0 {tg r : Nat → Nat} {h hb : hp_H} {s sb : st_T} {n : Nat} {v0 : Nat} (I : iso tg r h s) (F : isf tg r hb h sb s) (T_v0 : tg v0 = 21) {res : Int32 × st_T} (hm : g_X11_proof_0 n v0 s = some res) : ∃ h2, f_X11_proof_0 n (r v0) h = some ((res.1, h2)) ∧ iso tg r h2 res.2 ∧ isf tg r hb h2 sb res.2 := by
  unfold g_X11_proof_0 at hm
  unfold f_X11_proof_0
  refine tr_eq (t_fI I T_v0 (by decide) (by decide) rfl) ?_
  have T1 : tg (gP s v0 18) = 0 := t_tg (c := 11) I T_v0 (by decide) (by decide) rfl (by decide)
  refine tr_eq (t_fR I T_v0 (by decide) (by decide) (by decide)) ?_
  refine tr_eq (t_fI I T_v0 (by decide) (by decide) rfl) ?_
  obtain ⟨x2, hx2, hm⟩ := hp_bd hm
  refine tr_eq (t_aI I T1 (by decide) rfl hx2) ?_
  obtain ⟨x3, hx3, hm⟩ := hp_bd hm
  refine tr_eq (t_X11_isWord I T_v0 hx3) ?_
  by_cases c18 : x3 = 0
  · rw [if_pos c18] at hm ⊢
    obtain ⟨x4, hx4, hm⟩ := hp_bd hm
    refine tr_eq (t_X11_hasDollar I T_v0 hx4) ?_
    by_cases c16 : x4 = 0
    · rw [if_pos c16] at hm ⊢
      have T5 : tg (gP s v0 17) = 0 := t_tg (c := 11) I T_v0 (by decide) (by decide) rfl (by decide)
      refine tr_eq (t_fR I T_v0 (by decide) (by decide) (by decide)) ?_
      obtain ⟨x6, hx6, hm⟩ := hp_bd hm
      refine tr_eq (t_aI I T5 (by decide) rfl hx6) ?_
      by_cases c15 : x6 = (400 : Int32)
      · rw [if_pos c15] at hm ⊢
        obtain rfl := Option.some.inj hm
        exact ⟨_, rfl, I, F⟩
      · rw [if_neg c15] at hm ⊢
        have T7 : tg (gP s v0 20) = 0 := t_tg (c := 11) I T_v0 (by decide) (by decide) rfl (by decide)
        refine tr_eq (t_fR I T_v0 (by decide) (by decide) (by decide)) ?_
        refine tr_eq (t_fI I T_v0 (by decide) (by decide) rfl) ?_
        refine tr_eq (t_fI I T_v0 (by decide) (by decide) rfl) ?_
        refine tr_eq (t_fI I T_v0 (by decide) (by decide) rfl) ?_
        obtain ⟨w8, hw8, hm⟩ := hp_bd hm
        obtain ⟨_, e2, I, F⟩ := t_sI I F T7 (by decide) rfl hw8
        refine tr_eq e2 ?_
        have T9 : tg (gP w8 v0 21) = 0 := t_tg (c := 11) I T_v0 (by decide) (by decide) rfl (by decide)
        refine tr_eq (t_fR I T_v0 (by decide) (by decide) (by decide)) ?_
        refine tr_eq (t_fI I T_v0 (by decide) (by decide) rfl) ?_
        refine tr_eq (t_fI I T_v0 (by decide) (by decide) rfl) ?_
        refine tr_eq (t_fI I T_v0 (by decide) (by decide) rfl) ?_
        obtain ⟨w10, hw10, hm⟩ := hp_bd hm
        obtain ⟨_, e2, I, F⟩ := t_sI I F T9 (by decide) rfl hw10
        refine tr_eq e2 ?_
        refine tr_eq (t_fI I T_v0 (by decide) (by decide) rfl) ?_
        obtain ⟨w11, hw11, hm⟩ := hp_bd hm
        obtain ⟨_, e2, I, F⟩ := t_wF (c := 11) (k := 37) I F T_v0 (by decide) (by decide) rfl hw11
        refine tr_eq e2 ?_
        have T12 : tg (gP w11 v0 17) = 0 := t_tg (c := 11) I T_v0 (by decide) (by decide) rfl (by decide)
        refine tr_eq (t_fR I T_v0 (by decide) (by decide) (by decide)) ?_
        obtain ⟨x13, hx13, hm⟩ := hp_bd hm
        refine tr_eq (t_aI I T12 (by decide) rfl hx13) ?_
        obtain ⟨w14, hw14, hm⟩ := hp_bd hm
        obtain ⟨_, e2, I, F⟩ := t_sI I F T12 (by decide) rfl hw14
        refine tr_eq e2 ?_
        obtain rfl := Option.some.inj hm
        exact ⟨_, rfl, I, F⟩
    · rw [if_neg c16] at hm ⊢
      obtain rfl := Option.some.inj hm
      exact ⟨_, rfl, I, F⟩
  · rw [if_neg c18] at hm ⊢
    obtain ⟨x17, hx17, hm⟩ := hp_bd hm
    obtain ⟨_, e2, I, F⟩ := t_X11_endStatement I F T_v0 hx17
    refine tr_eq e2 ?_
    obtain rfl := Option.some.inj hm
    exact ⟨_, rfl, I, F⟩
def g_X11_proof (n : Nat) (v0 : Nat) (s : st_T) : Option (Int32 × st_T) := g_X11_proof_0 n v0 s
theorem t_X11_proof {tg r : Nat → Nat} {h hb : hp_H} {s sb : st_T} {n : Nat} {v0 : Nat} (I : iso tg r h s) (F : isf tg r hb h sb s) (T_v0 : tg v0 = 21) {res : Int32 × st_T} (hm : g_X11_proof n v0 s = some res) : ∃ h2, f_X11_proof n (r v0) h = some ((res.1, h2)) ∧ iso tg r h2 res.2 ∧ isf tg r hb h2 sb res.2 := by
  unfold g_X11_proof at hm
  unfold f_X11_proof
  refine tr_eq (t_ck I T_v0 (by decide)) ?_
  exact t_X11_proof_0 I F T_v0 hm
def g_X11_token_58 (n : Nat) (v0 : Nat) (s : st_T) : Option (Int32 × st_T) :=
  (g_X11_declared n v0 s).bind fun x1 =>
  some (x1.1, x1.2)
set_option maxHeartbeats 1000000 in
theorem t_X11_token_58 {tg r : Nat → Nat} {h hb : hp_H} {s sb : st_T} {n : Nat} {v0 : Nat} (I : iso tg r h s) (F : isf tg r hb h sb s) (T_v0 : tg v0 = 21) {res : Int32 × st_T} (hm : g_X11_token_58 n v0 s = some res) : ∃ h2, f_X11_token_58 n (r v0) h = some ((res.1, h2)) ∧ iso tg r h2 res.2 ∧ isf tg r hb h2 sb res.2 := by
  unfold g_X11_token_58 at hm
  unfold f_X11_token_58
  obtain ⟨x1, hx1, hm⟩ := hp_bd hm
  obtain ⟨_, e2, I, F⟩ := t_X11_declared I F T_v0 hx1
  refine tr_eq e2 ?_
  try dsimp only
  obtain rfl := Option.some.inj hm
  exact ⟨_, rfl, I, F⟩
def g_X11_token_0 (n : Nat) (v0 : Nat) (s : st_T) : Option (Int32 × st_T) :=
  if (gF s v0 34) = (0 : Int32) then
    (g_X11_outside n v0 s).bind fun x2 =>
    some (x2.1, x2.2)
  else if (gF s v0 34) = (1 : Int32) then
    (g_X11_kindOf n v0 s).bind fun x4 =>
    some (x4.1, x4.2)
  else if (gF s v0 34) = (2 : Int32) then
    g_X11_token_58 n v0 s
  else if (gF s v0 34) = (3 : Int32) then
    g_X11_token_58 n v0 s
  else if (gF s v0 34) = (4 : Int32) then
    (g_X11_distinct n v0 s).bind fun x8 =>
    some (x8.1, x8.2)
  else if (gF s v0 34) = (5 : Int32) then
    (g_X11_typed n v0 s).bind fun x10 =>
    some (x10.1, x10.2)
  else if (gF s v0 34) = (6 : Int32) then
    (g_X11_formula n v0 s).bind fun x12 =>
    some (x12.1, x12.2)
  else 
    (g_X11_proof n v0 s).bind fun x13 =>
    some (x13.1, x13.2)
set_option maxHeartbeats 1000000 in
theorem t_X11_token_0 {tg r : Nat → Nat} {h hb : hp_H} {s sb : st_T} {n : Nat} {v0 : Nat} (I : iso tg r h s) (F : isf tg r hb h sb s) (T_v0 : tg v0 = 21) {res : Int32 × st_T} (hm : g_X11_token_0 n v0 s = some res) : ∃ h2, f_X11_token_0 n (r v0) h = some ((res.1, h2)) ∧ iso tg r h2 res.2 ∧ isf tg r hb h2 sb res.2 := by
  unfold g_X11_token_0 at hm
  unfold f_X11_token_0
  refine tr_eq (t_fI I T_v0 (by decide) (by decide) rfl) ?_
  by_cases c1 : (gF s v0 34) = (0 : Int32)
  · rw [if_pos c1] at hm ⊢
    obtain ⟨x2, hx2, hm⟩ := hp_bd hm
    obtain ⟨_, e2, I, F⟩ := t_X11_outside I F T_v0 hx2
    refine tr_eq e2 ?_
    try dsimp only
    obtain rfl := Option.some.inj hm
    exact ⟨_, rfl, I, F⟩
  rw [if_neg c1] at hm ⊢
  by_cases c3 : (gF s v0 34) = (1 : Int32)
  · rw [if_pos c3] at hm ⊢
    obtain ⟨x4, hx4, hm⟩ := hp_bd hm
    obtain ⟨_, e2, I, F⟩ := t_X11_kindOf I F T_v0 hx4
    refine tr_eq e2 ?_
    try dsimp only
    obtain rfl := Option.some.inj hm
    exact ⟨_, rfl, I, F⟩
  rw [if_neg c3] at hm ⊢
  by_cases c5 : (gF s v0 34) = (2 : Int32)
  · rw [if_pos c5] at hm ⊢
    exact t_X11_token_58 I F T_v0 hm
  rw [if_neg c5] at hm ⊢
  by_cases c6 : (gF s v0 34) = (3 : Int32)
  · rw [if_pos c6] at hm ⊢
    exact t_X11_token_58 I F T_v0 hm
  rw [if_neg c6] at hm ⊢
  by_cases c7 : (gF s v0 34) = (4 : Int32)
  · rw [if_pos c7] at hm ⊢
    obtain ⟨x8, hx8, hm⟩ := hp_bd hm
    obtain ⟨_, e2, I, F⟩ := t_X11_distinct I F T_v0 hx8
    refine tr_eq e2 ?_
    try dsimp only
    obtain rfl := Option.some.inj hm
    exact ⟨_, rfl, I, F⟩
  rw [if_neg c7] at hm ⊢
  by_cases c9 : (gF s v0 34) = (5 : Int32)
  · rw [if_pos c9] at hm ⊢
    obtain ⟨x10, hx10, hm⟩ := hp_bd hm
    obtain ⟨_, e2, I, F⟩ := t_X11_typed I F T_v0 hx10
    refine tr_eq e2 ?_
    try dsimp only
    obtain rfl := Option.some.inj hm
    exact ⟨_, rfl, I, F⟩
  rw [if_neg c9] at hm ⊢
  by_cases c11 : (gF s v0 34) = (6 : Int32)
  · rw [if_pos c11] at hm ⊢
    obtain ⟨x12, hx12, hm⟩ := hp_bd hm
    obtain ⟨_, e2, I, F⟩ := t_X11_formula I F T_v0 hx12
    refine tr_eq e2 ?_
    try dsimp only
    obtain rfl := Option.some.inj hm
    exact ⟨_, rfl, I, F⟩
  rw [if_neg c11] at hm ⊢
  obtain ⟨x13, hx13, hm⟩ := hp_bd hm
  obtain ⟨_, e2, I, F⟩ := t_X11_proof I F T_v0 hx13
  refine tr_eq e2 ?_
  try dsimp only
  obtain rfl := Option.some.inj hm
  exact ⟨_, rfl, I, F⟩
def g_X11_token (n : Nat) (v0 : Nat) (s : st_T) : Option (Int32 × st_T) := g_X11_token_0 n v0 s
theorem t_X11_token {tg r : Nat → Nat} {h hb : hp_H} {s sb : st_T} {n : Nat} {v0 : Nat} (I : iso tg r h s) (F : isf tg r hb h sb s) (T_v0 : tg v0 = 21) {res : Int32 × st_T} (hm : g_X11_token n v0 s = some res) : ∃ h2, f_X11_token n (r v0) h = some ((res.1, h2)) ∧ iso tg r h2 res.2 ∧ isf tg r hb h2 sb res.2 := by
  unfold g_X11_token at hm
  unfold f_X11_token
  refine tr_eq (t_ck I T_v0 (by decide)) ?_
  exact t_X11_token_0 I F T_v0 hm
abbrev eX_X11_readBook_6 (x : (Int32 × st_T) ⊕ (Int32 × st_T)) (h2 : hp_H) : (Int32 × hp_H) ⊕ (Int32 × hp_H) := (Sum.elim (fun y => (.inl (y.1, h2))) (fun y => (.inr (y.1, h2)))) x
abbrev sX_X11_readBook_6 (x : (Int32 × st_T) ⊕ (Int32 × st_T)) : st_T := (Sum.elim (fun y => y.2) (fun y => y.2)) x
abbrev eR_X11_readBook_6 (x : (Int32 × st_T) ⊕ ((Int32 × st_T) ⊕ (Int32 × st_T))) (h2 : hp_H) : (Int32 × hp_H) ⊕ ((Int32 × hp_H) ⊕ (Int32 × hp_H)) := Sum.elim (fun y => .inl (y.1, h2)) (fun y => .inr (eX_X11_readBook_6 y h2)) x
abbrev sR_X11_readBook_6 (x : (Int32 × st_T) ⊕ ((Int32 × st_T) ⊕ (Int32 × st_T))) : st_T := Sum.elim (fun y => y.2) sX_X11_readBook_6 x
def g_X11_readBook_100 (n : Nat) (v0 : Nat) (v1 : Int32) (s : st_T) : Option ((Int32 × st_T) ⊕ ((Int32 × st_T) ⊕ (Int32 × st_T))) :=
  (g_X11_token n v0 s).bind fun x1 =>
  if x1.1 ≤ 0 then
    some (.inl (v1, x1.2))
  else
    some (.inr (.inr (x1.1, x1.2)))
set_option maxHeartbeats 1000000 in
theorem t_X11_readBook_100 {tg r : Nat → Nat} {h hb : hp_H} {s sb : st_T} {n : Nat} {v0 : Nat} {v1 : Int32} (I : iso tg r h s) (F : isf tg r hb h sb s) (T_v0 : tg v0 = 21) {res : (Int32 × st_T) ⊕ ((Int32 × st_T) ⊕ (Int32 × st_T))} (hm : g_X11_readBook_100 n v0 v1 s = some res) : ∃ h2, f_X11_readBook_100 n (r v0) v1 h = some (eR_X11_readBook_6 res h2) ∧ iso tg r h2 (sR_X11_readBook_6 res) ∧ isf tg r hb h2 sb (sR_X11_readBook_6 res) := by
  unfold g_X11_readBook_100 at hm
  unfold f_X11_readBook_100
  obtain ⟨x1, hx1, hm⟩ := hp_bd hm
  obtain ⟨_, e2, I, F⟩ := t_X11_token I F T_v0 hx1
  refine tr_eq e2 ?_
  try dsimp only
  by_cases c2 : x1.1 ≤ 0
  · rw [if_pos c2] at hm ⊢
    obtain rfl := Option.some.inj hm
    exact ⟨_, rfl, I, F⟩
  · rw [if_neg c2] at hm ⊢
    obtain rfl := Option.some.inj hm
    exact ⟨_, rfl, I, F⟩
def g_X11_readBook_66 (n : Nat) (v0 : Nat) (s0 : Int32) (s : st_T) : Option ((Int32 × st_T) ⊕ ((Int32 × st_T) ⊕ (Int32 × st_T))) :=
  some (.inl (s0, s))
set_option maxHeartbeats 1000000 in
theorem t_X11_readBook_66 {tg r : Nat → Nat} {h hb : hp_H} {s sb : st_T} {n : Nat} {v0 : Nat} {s0 : Int32} (I : iso tg r h s) (F : isf tg r hb h sb s) (T_v0 : tg v0 = 21) {res : (Int32 × st_T) ⊕ ((Int32 × st_T) ⊕ (Int32 × st_T))} (hm : g_X11_readBook_66 n v0 s0 s = some res) : ∃ h2, f_X11_readBook_66 n (r v0) s0 h = some (eR_X11_readBook_6 res h2) ∧ iso tg r h2 (sR_X11_readBook_6 res) ∧ isf tg r hb h2 sb (sR_X11_readBook_6 res) := by
  unfold g_X11_readBook_66 at hm
  unfold f_X11_readBook_66
  obtain rfl := Option.some.inj hm
  exact ⟨_, rfl, I, F⟩
def g_X11_readBook_57 (n : Nat) (v0 : Nat) (v2 : Int32) (s : st_T) : Option ((Int32 × st_T) ⊕ ((Int32 × st_T) ⊕ (Int32 × st_T))) :=
  if v2 = 0 then
    g_X11_readBook_66 n v0 (1 : Int32) s
  else
    g_X11_readBook_66 n v0 (0 : Int32) s
set_option maxHeartbeats 1000000 in
theorem t_X11_readBook_57 {tg r : Nat → Nat} {h hb : hp_H} {s sb : st_T} {n : Nat} {v0 : Nat} {v2 : Int32} (I : iso tg r h s) (F : isf tg r hb h sb s) (T_v0 : tg v0 = 21) {res : (Int32 × st_T) ⊕ ((Int32 × st_T) ⊕ (Int32 × st_T))} (hm : g_X11_readBook_57 n v0 v2 s = some res) : ∃ h2, f_X11_readBook_57 n (r v0) v2 h = some (eR_X11_readBook_6 res h2) ∧ iso tg r h2 (sR_X11_readBook_6 res) ∧ isf tg r hb h2 sb (sR_X11_readBook_6 res) := by
  unfold g_X11_readBook_57 at hm
  unfold f_X11_readBook_57
  by_cases c1 : v2 = 0
  · rw [if_pos c1] at hm ⊢
    exact t_X11_readBook_66 I F T_v0 hm
  · rw [if_neg c1] at hm ⊢
    exact t_X11_readBook_66 I F T_v0 hm
def g_X11_readBook_6 (n : Nat) (v0 : Nat) (v1 : Int32) (s : st_T) : Option ((Int32 × st_T) ⊕ ((Int32 × st_T) ⊕ (Int32 × st_T))) :=
  (g_X11_nextToken n v0 s).bind fun x1 =>
  if x1.1 = 0 then
    some (.inr (.inl (v1, x1.2)))
  else
    (g_X11_hasBad n v0 x1.2).bind fun x2 =>
    if x2 = 0 then
      if v1 = 0 then
        (g_X11_isWord n v0 (40 : Int32) x1.2).bind fun x3 =>
        if x3 = 0 then
          (g_X11_hasDollar n v0 x1.2).bind fun x4 =>
          if x4 = 0 then
            g_X11_readBook_100 n v0 v1 x1.2
          else
            (g_X11_isKeyword n v0 x1.2).bind fun x5 =>
            if x5 = 0 then
              some (.inr (.inr ((3 : Int32), x1.2)))
            else
              g_X11_readBook_100 n v0 v1 x1.2
        else
          some (.inl ((1 : Int32), x1.2))
      else
        (g_X11_isWord n v0 (41 : Int32) x1.2).bind fun x9 =>
        if x9 = 0 then
          (g_X11_hasPart n v0 (40 : Int32) x1.2).bind fun x10 =>
          if x10 = 0 then
            (g_X11_hasPart n v0 (41 : Int32) x1.2).bind fun x11 =>
            if x11 = 0 then
              g_X11_readBook_57 n v0 x9 x1.2
            else
              some (.inr (.inr ((3 : Int32), x1.2)))
          else
            some (.inr (.inr ((3 : Int32), x1.2)))
        else
          g_X11_readBook_57 n v0 x9 x1.2
    else
      some (.inr (.inr ((1 : Int32), x1.2)))
set_option maxHeartbeats 1000000 in
theorem t_X11_readBook_6 {tg r : Nat → Nat} {h hb : hp_H} {s sb : st_T} {n : Nat} {v0 : Nat} {v1 : Int32} (I : iso tg r h s) (F : isf tg r hb h sb s) (T_v0 : tg v0 = 21) {res : (Int32 × st_T) ⊕ ((Int32 × st_T) ⊕ (Int32 × st_T))} (hm : g_X11_readBook_6 n v0 v1 s = some res) : ∃ h2, f_X11_readBook_6 n (r v0) v1 h = some (eR_X11_readBook_6 res h2) ∧ iso tg r h2 (sR_X11_readBook_6 res) ∧ isf tg r hb h2 sb (sR_X11_readBook_6 res) := by
  unfold g_X11_readBook_6 at hm
  unfold f_X11_readBook_6
  obtain ⟨x1, hx1, hm⟩ := hp_bd hm
  obtain ⟨_, e2, I, F⟩ := t_X11_nextToken I F T_v0 hx1
  refine tr_eq e2 ?_
  try dsimp only
  by_cases c17 : x1.1 = 0
  · rw [if_pos c17] at hm ⊢
    obtain rfl := Option.some.inj hm
    exact ⟨_, rfl, I, F⟩
  · rw [if_neg c17] at hm ⊢
    obtain ⟨x2, hx2, hm⟩ := hp_bd hm
    refine tr_eq (t_X11_hasBad I T_v0 hx2) ?_
    by_cases c16 : x2 = 0
    · rw [if_pos c16] at hm ⊢
      by_cases c15 : v1 = 0
      · rw [if_pos c15] at hm ⊢
        obtain ⟨x3, hx3, hm⟩ := hp_bd hm
        refine tr_eq (t_X11_isWord I T_v0 hx3) ?_
        by_cases c8 : x3 = 0
        · rw [if_pos c8] at hm ⊢
          obtain ⟨x4, hx4, hm⟩ := hp_bd hm
          refine tr_eq (t_X11_hasDollar I T_v0 hx4) ?_
          by_cases c7 : x4 = 0
          · rw [if_pos c7] at hm ⊢
            exact t_X11_readBook_100 I F T_v0 hm
          · rw [if_neg c7] at hm ⊢
            obtain ⟨x5, hx5, hm⟩ := hp_bd hm
            refine tr_eq (t_X11_isKeyword I T_v0 hx5) ?_
            by_cases c6 : x5 = 0
            · rw [if_pos c6] at hm ⊢
              obtain rfl := Option.some.inj hm
              exact ⟨_, rfl, I, F⟩
            · rw [if_neg c6] at hm ⊢
              exact t_X11_readBook_100 I F T_v0 hm
        · rw [if_neg c8] at hm ⊢
          obtain rfl := Option.some.inj hm
          exact ⟨_, rfl, I, F⟩
      · rw [if_neg c15] at hm ⊢
        obtain ⟨x9, hx9, hm⟩ := hp_bd hm
        refine tr_eq (t_X11_isWord I T_v0 hx9) ?_
        by_cases c14 : x9 = 0
        · rw [if_pos c14] at hm ⊢
          obtain ⟨x10, hx10, hm⟩ := hp_bd hm
          refine tr_eq (t_X11_hasPart I T_v0 hx10) ?_
          by_cases c13 : x10 = 0
          · rw [if_pos c13] at hm ⊢
            obtain ⟨x11, hx11, hm⟩ := hp_bd hm
            refine tr_eq (t_X11_hasPart I T_v0 hx11) ?_
            by_cases c12 : x11 = 0
            · rw [if_pos c12] at hm ⊢
              exact t_X11_readBook_57 I F T_v0 hm
            · rw [if_neg c12] at hm ⊢
              obtain rfl := Option.some.inj hm
              exact ⟨_, rfl, I, F⟩
          · rw [if_neg c13] at hm ⊢
            obtain rfl := Option.some.inj hm
            exact ⟨_, rfl, I, F⟩
        · rw [if_neg c14] at hm ⊢
          exact t_X11_readBook_57 I F T_v0 hm
    · rw [if_neg c16] at hm ⊢
      obtain rfl := Option.some.inj hm
      exact ⟨_, rfl, I, F⟩
def gL_X11_readBook_6 (n : Nat) (v0 : Nat) (c : Int32 × st_T) : Option ((Int32 × st_T) ⊕ ((Int32 × st_T) ⊕ (Int32 × st_T))) := g_X11_readBook_6 n v0 c.1 c.2
theorem tl_X11_readBook_6 {tg r : Nat → Nat} {hb : hp_H} {sb : st_T} {n : Nat} {v0 : Nat} (T_v0 : tg v0 = 21) : ∀ (k : Nat) (c0 : Int32) (h : hp_H) (s : st_T) (x : (Int32 × st_T) ⊕ (Int32 × st_T)), iso tg r h s → isf tg r hb h sb s → hp_lp (gL_X11_readBook_6 n v0) k (c0, s) = some x → ∃ h2, hp_lp (fL_X11_readBook_6 n (r v0)) k (c0, h) = some (eX_X11_readBook_6 x h2) ∧ iso tg r h2 (sX_X11_readBook_6 x) ∧ isf tg r hb h2 sb (sX_X11_readBook_6 x) := by
  intro k
  induction k with
  | zero => intro c0 h s x I F hx; exact (hp_lp_0 hx).elim
  | succ k ih =>
    intro c0 h s x I F hx
    obtain ⟨rr, hr, hc⟩ := hp_lp_1 hx
    obtain ⟨h2, e2, I2, F2⟩ := t_X11_readBook_6 I F T_v0 hr
    rcases hc with ⟨s3, e3, hx3⟩ | e3
    · subst e3
      obtain ⟨h3, e4, I3, F3⟩ := ih _ h2 _ x I2 F2 hx3
      exact ⟨h3, hp_lp_s e2 e4, I3, F3⟩
    · subst e3
      exact ⟨h2, hp_lp_x e2, I2, F2⟩
def g_X11_readBook_140 (n : Nat) (s : st_T) : Option (Int32 × st_T) :=
  some ((2 : Int32), s)
set_option maxHeartbeats 1000000 in
theorem t_X11_readBook_140 {tg r : Nat → Nat} {h hb : hp_H} {s sb : st_T} {n : Nat} (I : iso tg r h s) (F : isf tg r hb h sb s) {res : Int32 × st_T} (hm : g_X11_readBook_140 n  s = some res) : ∃ h2, f_X11_readBook_140 n  h = some ((res.1, h2)) ∧ iso tg r h2 res.2 ∧ isf tg r hb h2 sb res.2 := by
  unfold g_X11_readBook_140 at hm
  unfold f_X11_readBook_140
  obtain rfl := Option.some.inj hm
  exact ⟨_, rfl, I, F⟩
def g_X11_readBook_0 (n : Nat) (v0 : Nat) (s : st_T) : Option (Int32 × st_T) :=
  (g_X11_beginBook n v0 s).bind fun x1 =>
  (hp_lp (gL_X11_readBook_6 n v0) n ((0 : Int32), x1)).bind fun x2 =>
  Sum.elim (fun y3 =>
    (wF y3.2 v0 29 (gF y3.2 v0 1)).bind fun w5 =>
    if y3.1 = 0 then
      if (gF w5 v0 34) = 0 then
        if (gF w5 v0 33) ≤ 0 then
          some ((0 : Int32), w5)
        else
          g_X11_readBook_140 n  w5
      else
        g_X11_readBook_140 n  w5
    else
      g_X11_readBook_140 n  w5) (fun y4 =>
    some (y4.1, y4.2)) x2
set_option maxHeartbeats 1000000 in
theorem t_X11_readBook_0 {tg r : Nat → Nat} {h hb : hp_H} {s sb : st_T} {n : Nat} {v0 : Nat} (I : iso tg r h s) (F : isf tg r hb h sb s) (T_v0 : tg v0 = 21) {res : Int32 × st_T} (hm : g_X11_readBook_0 n v0 s = some res) : ∃ h2, f_X11_readBook_0 n (r v0) h = some ((res.1, h2)) ∧ iso tg r h2 res.2 ∧ isf tg r hb h2 sb res.2 := by
  unfold g_X11_readBook_0 at hm
  unfold f_X11_readBook_0
  obtain ⟨x1, hx1, hm⟩ := hp_bd hm
  obtain ⟨_, e2, I, F⟩ := t_X11_beginBook I F T_v0 hx1
  refine tr_eq e2 ?_
  obtain ⟨x2, hx2, hm⟩ := hp_bd hm
  obtain ⟨_, e2, I, F⟩ := tl_X11_readBook_6 T_v0 n _ _ _ _ I F hx2
  refine tr_eq e2 ?_
  rcases x2 with y3 | y4
  · simp only [eX_X11_readBook_6, Sum.elim_inl, Sum.elim_inr] at hm ⊢
    replace I : iso tg _ _ y3.2 := I
    replace F : isf tg _ _ _ _ y3.2 := F
    refine tr_eq (t_fI I T_v0 (by decide) (by decide) rfl) ?_
    obtain ⟨w5, hw5, hm⟩ := hp_bd hm
    obtain ⟨_, e2, I, F⟩ := t_wF (c := 11) (k := 29) I F T_v0 (by decide) (by decide) rfl hw5
    refine tr_eq e2 ?_
    by_cases c8 : y3.1 = 0
    · rw [if_pos c8] at hm ⊢
      refine tr_eq (t_fI I T_v0 (by decide) (by decide) rfl) ?_
      by_cases c7 : (gF w5 v0 34) = 0
      · rw [if_pos c7] at hm ⊢
        refine tr_eq (t_fI I T_v0 (by decide) (by decide) rfl) ?_
        by_cases c6 : (gF w5 v0 33) ≤ 0
        · rw [if_pos c6] at hm ⊢
          obtain rfl := Option.some.inj hm
          exact ⟨_, rfl, I, F⟩
        · rw [if_neg c6] at hm ⊢
          exact t_X11_readBook_140 I F  hm
      · rw [if_neg c7] at hm ⊢
        exact t_X11_readBook_140 I F  hm
    · rw [if_neg c8] at hm ⊢
      exact t_X11_readBook_140 I F  hm
  · simp only [eX_X11_readBook_6, Sum.elim_inl, Sum.elim_inr] at hm ⊢
    replace I : iso tg _ _ y4.2 := I
    replace F : isf tg _ _ _ _ y4.2 := F
    obtain rfl := Option.some.inj hm
    exact ⟨_, rfl, I, F⟩
def g_X11_readBook (n : Nat) (v0 : Nat) (s : st_T) : Option (Int32 × st_T) := g_X11_readBook_0 n v0 s
theorem t_X11_readBook {tg r : Nat → Nat} {h hb : hp_H} {s sb : st_T} {n : Nat} {v0 : Nat} (I : iso tg r h s) (F : isf tg r hb h sb s) (T_v0 : tg v0 = 21) {res : Int32 × st_T} (hm : g_X11_readBook n v0 s = some res) : ∃ h2, f_X11_readBook n (r v0) h = some ((res.1, h2)) ∧ iso tg r h2 res.2 ∧ isf tg r hb h2 sb res.2 := by
  unfold g_X11_readBook at hm
  unfold f_X11_readBook
  refine tr_eq (t_ck I T_v0 (by decide)) ?_
  exact t_X11_readBook_0 I F T_v0 hm
def g_X11_forgetWork_0 (n : Nat) (v0 : Nat) (s : st_T) : Option (st_T) :=
  (wF s v0 3 (0 : Int32)).bind fun w1 =>
  (wF w1 v0 71 (0 : Int32)).bind fun w2 =>
  (wF w2 v0 80 (0 : Int32)).bind fun w3 =>
  some w3
set_option maxHeartbeats 1000000 in
theorem t_X11_forgetWork_0 {tg r : Nat → Nat} {h hb : hp_H} {s sb : st_T} {n : Nat} {v0 : Nat} (I : iso tg r h s) (F : isf tg r hb h sb s) (T_v0 : tg v0 = 21) {res : st_T} (hm : g_X11_forgetWork_0 n v0 s = some res) : ∃ h2, f_X11_forgetWork_0 n (r v0) h = some (h2) ∧ iso tg r h2 res ∧ isf tg r hb h2 sb res := by
  unfold g_X11_forgetWork_0 at hm
  unfold f_X11_forgetWork_0
  obtain ⟨w1, hw1, hm⟩ := hp_bd hm
  obtain ⟨_, e2, I, F⟩ := t_wF (c := 11) (k := 3) I F T_v0 (by decide) (by decide) rfl hw1
  refine tr_eq e2 ?_
  obtain ⟨w2, hw2, hm⟩ := hp_bd hm
  obtain ⟨_, e2, I, F⟩ := t_wF (c := 11) (k := 71) I F T_v0 (by decide) (by decide) rfl hw2
  refine tr_eq e2 ?_
  obtain ⟨w3, hw3, hm⟩ := hp_bd hm
  obtain ⟨_, e2, I, F⟩ := t_wF (c := 11) (k := 80) I F T_v0 (by decide) (by decide) rfl hw3
  refine tr_eq e2 ?_
  obtain rfl := Option.some.inj hm
  exact ⟨_, rfl, I, F⟩
def g_X11_forgetWork (n : Nat) (v0 : Nat) (s : st_T) : Option (st_T) := g_X11_forgetWork_0 n v0 s
theorem t_X11_forgetWork {tg r : Nat → Nat} {h hb : hp_H} {s sb : st_T} {n : Nat} {v0 : Nat} (I : iso tg r h s) (F : isf tg r hb h sb s) (T_v0 : tg v0 = 21) {res : st_T} (hm : g_X11_forgetWork n v0 s = some res) : ∃ h2, f_X11_forgetWork n (r v0) h = some (h2) ∧ iso tg r h2 res ∧ isf tg r hb h2 sb res := by
  unfold g_X11_forgetWork at hm
  unfold f_X11_forgetWork
  refine tr_eq (t_ck I T_v0 (by decide)) ?_
  exact t_X11_forgetWork_0 I F T_v0 hm
def g_X11_read_78 (n : Nat) (v0 : Nat) (v1 : Int32) (s : st_T) : Option (Int32 × st_T) :=
  (wF s v0 1 (0 : Int32)).bind fun w1 =>
  (g_X11_forgetWork n v0 w1).bind fun x2 =>
  if v1 ≤ 0 then
    (gA x2 (gP x2 v0 18) (gF x2 v0 4)).bind fun x4 =>
    some (x4, x2)
  else
    some ((-v1), x2)
set_option maxHeartbeats 1000000 in
theorem t_X11_read_78 {tg r : Nat → Nat} {h hb : hp_H} {s sb : st_T} {n : Nat} {v0 : Nat} {v1 : Int32} (I : iso tg r h s) (F : isf tg r hb h sb s) (T_v0 : tg v0 = 21) {res : Int32 × st_T} (hm : g_X11_read_78 n v0 v1 s = some res) : ∃ h2, f_X11_read_78 n (r v0) v1 h = some ((res.1, h2)) ∧ iso tg r h2 res.2 ∧ isf tg r hb h2 sb res.2 := by
  unfold g_X11_read_78 at hm
  unfold f_X11_read_78
  obtain ⟨w1, hw1, hm⟩ := hp_bd hm
  obtain ⟨_, e2, I, F⟩ := t_wF (c := 11) (k := 1) I F T_v0 (by decide) (by decide) rfl hw1
  refine tr_eq e2 ?_
  obtain ⟨x2, hx2, hm⟩ := hp_bd hm
  obtain ⟨_, e2, I, F⟩ := t_X11_forgetWork I F T_v0 hx2
  refine tr_eq e2 ?_
  by_cases c5 : v1 ≤ 0
  · rw [if_pos c5] at hm ⊢
    have T3 : tg (gP x2 v0 18) = 0 := t_tg (c := 11) I T_v0 (by decide) (by decide) rfl (by decide)
    refine tr_eq (t_fR I T_v0 (by decide) (by decide) (by decide)) ?_
    refine tr_eq (t_fI I T_v0 (by decide) (by decide) rfl) ?_
    obtain ⟨x4, hx4, hm⟩ := hp_bd hm
    refine tr_eq (t_aI I T3 (by decide) rfl hx4) ?_
    obtain rfl := Option.some.inj hm
    exact ⟨_, rfl, I, F⟩
  · rw [if_neg c5] at hm ⊢
    obtain rfl := Option.some.inj hm
    exact ⟨_, rfl, I, F⟩
abbrev eX_X11_read_35 (x : st_T) (h2 : hp_H) : hp_H := (fun y => h2) x
abbrev sX_X11_read_35 (x : st_T) : st_T := (fun y => y) x
abbrev eR_X11_read_35 (x : (Int32 × st_T) ⊕ (st_T)) (h2 : hp_H) : (Int32 × hp_H) ⊕ (hp_H) := Sum.elim (fun y => .inl (y.1, h2)) (fun y => .inr (eX_X11_read_35 y h2)) x
abbrev sR_X11_read_35 (x : (Int32 × st_T) ⊕ (st_T)) : st_T := Sum.elim (fun y => y.2) sX_X11_read_35 x
def g_X11_read_35 (n : Nat) (v0 : Nat) (v1 : Int32) (v2 : Int32) (s : st_T) : Option ((Int32 × st_T) ⊕ (st_T)) :=
  if (gF s v0 1) ≤ v2 then
    some (.inr s)
  else
    (gA s (gP s v0 0) v2).bind fun x3 =>
    (uA 0 s (gP s v0 5) (((8192 : Int32) * (gF s v0 32)) + v2) x3).bind fun w4 =>
    some (.inl ((v2 + (1 : Int32)), w4))
set_option maxHeartbeats 1000000 in
theorem t_X11_read_35 {tg r : Nat → Nat} {h hb : hp_H} {s sb : st_T} {n : Nat} {v0 : Nat} {v1 : Int32} {v2 : Int32} (I : iso tg r h s) (F : isf tg r hb h sb s) (T_v0 : tg v0 = 21) {res : (Int32 × st_T) ⊕ (st_T)} (hm : g_X11_read_35 n v0 v1 v2 s = some res) : ∃ h2, f_X11_read_35 n (r v0) v1 v2 h = some (eR_X11_read_35 res h2) ∧ iso tg r h2 (sR_X11_read_35 res) ∧ isf tg r hb h2 sb (sR_X11_read_35 res) := by
  unfold g_X11_read_35 at hm
  unfold f_X11_read_35
  refine tr_eq (t_fI I T_v0 (by decide) (by decide) rfl) ?_
  by_cases c5 : (gF s v0 1) ≤ v2
  · rw [if_pos c5] at hm ⊢
    obtain rfl := Option.some.inj hm
    exact ⟨_, rfl, I, F⟩
  · rw [if_neg c5] at hm ⊢
    have T1 : tg (gP s v0 5) = 0 := t_tg (c := 11) I T_v0 (by decide) (by decide) rfl (by decide)
    refine tr_eq (t_fR I T_v0 (by decide) (by decide) (by decide)) ?_
    refine tr_eq (t_fI I T_v0 (by decide) (by decide) rfl) ?_
    have T2 : tg (gP s v0 0) = 0 := t_tg (c := 11) I T_v0 (by decide) (by decide) rfl (by decide)
    refine tr_eq (t_fR I T_v0 (by decide) (by decide) (by decide)) ?_
    obtain ⟨x3, hx3, hm⟩ := hp_bd hm
    refine tr_eq (t_aI I T2 (by decide) rfl hx3) ?_
    obtain ⟨w4, hw4, hm⟩ := hp_bd hm
    obtain ⟨_, e2, I, F⟩ := t_sI I F T1 (by decide) rfl hw4
    refine tr_eq e2 ?_
    obtain rfl := Option.some.inj hm
    exact ⟨_, rfl, I, F⟩
def gL_X11_read_35 (n : Nat) (v0 : Nat) (v1 : Int32) (c : Int32 × st_T) : Option ((Int32 × st_T) ⊕ (st_T)) := g_X11_read_35 n v0 v1 c.1 c.2
theorem tl_X11_read_35 {tg r : Nat → Nat} {hb : hp_H} {sb : st_T} {n : Nat} {v0 : Nat} {v1 : Int32} (T_v0 : tg v0 = 21) : ∀ (k : Nat) (c0 : Int32) (h : hp_H) (s : st_T) (x : st_T), iso tg r h s → isf tg r hb h sb s → hp_lp (gL_X11_read_35 n v0 v1) k (c0, s) = some x → ∃ h2, hp_lp (fL_X11_read_35 n (r v0) v1) k (c0, h) = some (eX_X11_read_35 x h2) ∧ iso tg r h2 (sX_X11_read_35 x) ∧ isf tg r hb h2 sb (sX_X11_read_35 x) := by
  intro k
  induction k with
  | zero => intro c0 h s x I F hx; exact (hp_lp_0 hx).elim
  | succ k ih =>
    intro c0 h s x I F hx
    obtain ⟨rr, hr, hc⟩ := hp_lp_1 hx
    obtain ⟨h2, e2, I2, F2⟩ := t_X11_read_35 I F T_v0 hr
    rcases hc with ⟨s3, e3, hx3⟩ | e3
    · subst e3
      obtain ⟨h3, e4, I3, F3⟩ := ih _ h2 _ x I2 F2 hx3
      exact ⟨h3, hp_lp_s e2 e4, I3, F3⟩
    · subst e3
      exact ⟨h2, hp_lp_x e2, I2, F2⟩
def g_X11_read_26 (n : Nat) (v0 : Nat) (v1 : Int32) (s0 : Int32) (s1 : Nat) (s : st_T) : Option (Int32 × st_T) :=
  (wF s s1 2 s0).bind fun w1 =>
  if v1 = 0 then
    (hp_lp (gL_X11_read_35 n v0 v1) n ((0 : Int32), w1)).bind fun x2 =>
    (wF x2 v0 4 (gF x2 v0 32)).bind fun w4 =>
    g_X11_read_78 n v0 v1 w4
  else
    g_X11_read_78 n v0 v1 w1
set_option maxHeartbeats 1000000 in
theorem t_X11_read_26 {tg r : Nat → Nat} {h hb : hp_H} {s sb : st_T} {n : Nat} {v0 : Nat} {v1 : Int32} {s0 : Int32} {s1 : Nat} (I : iso tg r h s) (F : isf tg r hb h sb s) (T_v0 : tg v0 = 21) (T_s1 : tg s1 = 21) {res : Int32 × st_T} (hm : g_X11_read_26 n v0 v1 s0 s1 s = some res) : ∃ h2, f_X11_read_26 n (r v0) v1 s0 (r s1) h = some ((res.1, h2)) ∧ iso tg r h2 res.2 ∧ isf tg r hb h2 sb res.2 := by
  unfold g_X11_read_26 at hm
  unfold f_X11_read_26
  obtain ⟨w1, hw1, hm⟩ := hp_bd hm
  obtain ⟨_, e2, I, F⟩ := t_wF (c := 11) (k := 2) I F T_s1 (by decide) (by decide) rfl hw1
  refine tr_eq e2 ?_
  by_cases c5 : v1 = 0
  · rw [if_pos c5] at hm ⊢
    obtain ⟨x2, hx2, hm⟩ := hp_bd hm
    obtain ⟨_, e2, I, F⟩ := tl_X11_read_35 T_v0 n _ _ _ _ I F hx2
    refine tr_eq e2 ?_
    try dsimp only [eX_X11_read_35]
    replace I : iso tg _ _ x2 := I
    replace F : isf tg _ _ _ _ x2 := F
    refine tr_eq (t_fI I T_v0 (by decide) (by decide) rfl) ?_
    obtain ⟨w4, hw4, hm⟩ := hp_bd hm
    obtain ⟨_, e2, I, F⟩ := t_wF (c := 11) (k := 4) I F T_v0 (by decide) (by decide) rfl hw4
    refine tr_eq e2 ?_
    exact t_X11_read_78 I F T_v0 hm
  · rw [if_neg c5] at hm ⊢
    exact t_X11_read_78 I F T_v0 hm
def g_X11_read_15 (n : Nat) (v0 : Nat) (v1 : Int32) (s0 : Nat) (s : st_T) : Option (Int32 × st_T) :=
  g_X11_read_26 n v0 v1 (gF s v0 1) s0 s
set_option maxHeartbeats 1000000 in
theorem t_X11_read_15 {tg r : Nat → Nat} {h hb : hp_H} {s sb : st_T} {n : Nat} {v0 : Nat} {v1 : Int32} {s0 : Nat} (I : iso tg r h s) (F : isf tg r hb h sb s) (T_v0 : tg v0 = 21) (T_s0 : tg s0 = 21) {res : Int32 × st_T} (hm : g_X11_read_15 n v0 v1 s0 s = some res) : ∃ h2, f_X11_read_15 n (r v0) v1 (r s0) h = some ((res.1, h2)) ∧ iso tg r h2 res.2 ∧ isf tg r hb h2 sb res.2 := by
  unfold g_X11_read_15 at hm
  unfold f_X11_read_15
  refine tr_eq (t_fI I T_v0 (by decide) (by decide) rfl) ?_
  exact t_X11_read_26 I F T_v0 T_s0 hm
def g_X11_read_0 (n : Nat) (v0 : Nat) (s : st_T) : Option (Int32 × st_T) :=
  (g_X11_readBook n v0 s).bind fun x1 =>
  if x1.1 = (2 : Int32) then
    g_X11_read_15 n v0 x1.1 v0 x1.2
  else
    if x1.1 = 0 then
      g_X11_read_15 n v0 x1.1 v0 x1.2
    else
      g_X11_read_26 n v0 x1.1 (gF x1.2 v0 29) v0 x1.2
set_option maxHeartbeats 1000000 in
theorem t_X11_read_0 {tg r : Nat → Nat} {h hb : hp_H} {s sb : st_T} {n : Nat} {v0 : Nat} (I : iso tg r h s) (F : isf tg r hb h sb s) (T_v0 : tg v0 = 21) {res : Int32 × st_T} (hm : g_X11_read_0 n v0 s = some res) : ∃ h2, f_X11_read_0 n (r v0) h = some ((res.1, h2)) ∧ iso tg r h2 res.2 ∧ isf tg r hb h2 sb res.2 := by
  unfold g_X11_read_0 at hm
  unfold f_X11_read_0
  obtain ⟨x1, hx1, hm⟩ := hp_bd hm
  obtain ⟨_, e2, I, F⟩ := t_X11_readBook I F T_v0 hx1
  refine tr_eq e2 ?_
  try dsimp only
  by_cases c3 : x1.1 = (2 : Int32)
  · rw [if_pos c3] at hm ⊢
    exact t_X11_read_15 I F T_v0 T_v0 hm
  · rw [if_neg c3] at hm ⊢
    by_cases c2 : x1.1 = 0
    · rw [if_pos c2] at hm ⊢
      exact t_X11_read_15 I F T_v0 T_v0 hm
    · rw [if_neg c2] at hm ⊢
      refine tr_eq (t_fI I T_v0 (by decide) (by decide) rfl) ?_
      exact t_X11_read_26 I F T_v0 T_v0 hm
def g_X11_read (n : Nat) (v0 : Nat) (s : st_T) : Option (Int32 × st_T) := g_X11_read_0 n v0 s
theorem t_X11_read {tg r : Nat → Nat} {h hb : hp_H} {s sb : st_T} {n : Nat} {v0 : Nat} (I : iso tg r h s) (F : isf tg r hb h sb s) (T_v0 : tg v0 = 21) {res : Int32 × st_T} (hm : g_X11_read n v0 s = some res) : ∃ h2, f_X11_read n (r v0) h = some ((res.1, h2)) ∧ iso tg r h2 res.2 ∧ isf tg r hb h2 sb res.2 := by
  unfold g_X11_read at hm
  unfold f_X11_read
  refine tr_eq (t_ck I T_v0 (by decide)) ?_
  exact t_X11_read_0 I F T_v0 hm
def g_X11_place_0 (n : Nat) (v0 : Nat) (s : st_T) : Option (Int32) :=
  some (gF s v0 2)
set_option maxHeartbeats 1000000 in
theorem t_X11_place_0 {tg r : Nat → Nat} {h : hp_H} {s : st_T} {n : Nat} {v0 : Nat} (I : iso tg r h s) (T_v0 : tg v0 = 21) {res : Int32} (hm : g_X11_place_0 n v0 s = some res) : f_X11_place_0 n (r v0) h = some res := by
  unfold g_X11_place_0 at hm
  unfold f_X11_place_0
  refine tr_eq0 (t_fI I T_v0 (by decide) (by decide) rfl) ?_
  obtain rfl := Option.some.inj hm
  rfl
def g_X11_place (n : Nat) (v0 : Nat) (s : st_T) : Option (Int32) := g_X11_place_0 n v0 s
theorem t_X11_place {tg r : Nat → Nat} {h : hp_H} {s : st_T} {n : Nat} {v0 : Nat} (I : iso tg r h s) (T_v0 : tg v0 = 21) {res : Int32} (hm : g_X11_place n v0 s = some res) : f_X11_place n (r v0) h = some res := by
  unfold g_X11_place at hm
  unfold f_X11_place
  refine tr_eq0 (t_ck I T_v0 (by decide)) ?_
  exact t_X11_place_0 I T_v0 hm
def g_X11_isStatement_0 (n : Nat) (v0 : Nat) (v1 : Int32) (s : st_T) : Option (Int32) :=
  if v1 < 0 then
    some (0 : Int32)
  else
    (gA s (gP s v0 18) (gF s v0 4)).bind fun x2 =>
    if x2 ≤ v1 then
      some (0 : Int32)
    else
      some (1 : Int32)
set_option maxHeartbeats 1000000 in
theorem t_X11_isStatement_0 {tg r : Nat → Nat} {h : hp_H} {s : st_T} {n : Nat} {v0 : Nat} {v1 : Int32} (I : iso tg r h s) (T_v0 : tg v0 = 21) {res : Int32} (hm : g_X11_isStatement_0 n v0 v1 s = some res) : f_X11_isStatement_0 n (r v0) v1 h = some res := by
  unfold g_X11_isStatement_0 at hm
  unfold f_X11_isStatement_0
  by_cases c4 : v1 < 0
  · rw [if_pos c4] at hm ⊢
    obtain rfl := Option.some.inj hm
    rfl
  · rw [if_neg c4] at hm ⊢
    have T1 : tg (gP s v0 18) = 0 := t_tg (c := 11) I T_v0 (by decide) (by decide) rfl (by decide)
    refine tr_eq0 (t_fR I T_v0 (by decide) (by decide) (by decide)) ?_
    refine tr_eq0 (t_fI I T_v0 (by decide) (by decide) rfl) ?_
    obtain ⟨x2, hx2, hm⟩ := hp_bd hm
    refine tr_eq0 (t_aI I T1 (by decide) rfl hx2) ?_
    by_cases c3 : x2 ≤ v1
    · rw [if_pos c3] at hm ⊢
      obtain rfl := Option.some.inj hm
      rfl
    · rw [if_neg c3] at hm ⊢
      obtain rfl := Option.some.inj hm
      rfl
def g_X11_isStatement (n : Nat) (v0 : Nat) (v1 : Int32) (s : st_T) : Option (Int32) := g_X11_isStatement_0 n v0 v1 s
theorem t_X11_isStatement {tg r : Nat → Nat} {h : hp_H} {s : st_T} {n : Nat} {v0 : Nat} {v1 : Int32} (I : iso tg r h s) (T_v0 : tg v0 = 21) {res : Int32} (hm : g_X11_isStatement n v0 v1 s = some res) : f_X11_isStatement n (r v0) v1 h = some res := by
  unfold g_X11_isStatement at hm
  unfold f_X11_isStatement
  refine tr_eq0 (t_ck I T_v0 (by decide)) ?_
  exact t_X11_isStatement_0 I T_v0 hm
def g_X11_at_0 (n : Nat) (v0 : Nat) (v1 : Int32) (s : st_T) : Option (Int32) :=
  some (((200 : Int32) * (gF s v0 4)) + v1)
set_option maxHeartbeats 1000000 in
theorem t_X11_at_0 {tg r : Nat → Nat} {h : hp_H} {s : st_T} {n : Nat} {v0 : Nat} {v1 : Int32} (I : iso tg r h s) (T_v0 : tg v0 = 21) {res : Int32} (hm : g_X11_at_0 n v0 v1 s = some res) : f_X11_at_0 n (r v0) v1 h = some res := by
  unfold g_X11_at_0 at hm
  unfold f_X11_at_0
  refine tr_eq0 (t_fI I T_v0 (by decide) (by decide) rfl) ?_
  obtain rfl := Option.some.inj hm
  rfl
def g_X11_at (n : Nat) (v0 : Nat) (v1 : Int32) (s : st_T) : Option (Int32) := g_X11_at_0 n v0 v1 s
theorem t_X11_at {tg r : Nat → Nat} {h : hp_H} {s : st_T} {n : Nat} {v0 : Nat} {v1 : Int32} (I : iso tg r h s) (T_v0 : tg v0 = 21) {res : Int32} (hm : g_X11_at n v0 v1 s = some res) : f_X11_at n (r v0) v1 h = some res := by
  unfold g_X11_at at hm
  unfold f_X11_at
  refine tr_eq0 (t_ck I T_v0 (by decide)) ?_
  exact t_X11_at_0 I T_v0 hm
def g_X11_isBit_0 (n : Nat) (v0 : Nat) (v1 : Nat) (v2 : Int32) (v3 : Int32) (s : st_T) : Option (Int32) :=
  (g_X11_at n v0 v2 s).bind fun x1 =>
  (gJ s v1 (((4 : Int32) * x1) + (v3 / (64 : Int32)))).bind fun x2 =>
  if (lg_cmp (((Int64.toUInt64 x2 >>> (Int64.toUInt64 (Int32.toInt64 (v3 - v3 / (64 : Int32) * (64 : Int32))) &&& Int64.toUInt64 63)).toInt64) &&& (1 : Int64)) (1 : Int64)) = 0 then
    some (1 : Int32)
  else
    some (0 : Int32)
set_option maxHeartbeats 1000000 in
theorem t_X11_isBit_0 {tg r : Nat → Nat} {h : hp_H} {s : st_T} {n : Nat} {v0 : Nat} {v1 : Nat} {v2 : Int32} {v3 : Int32} (I : iso tg r h s) (T_v0 : tg v0 = 21) (T_v1 : tg v1 = 3) {res : Int32} (hm : g_X11_isBit_0 n v0 v1 v2 v3 s = some res) : f_X11_isBit_0 n (r v0) (r v1) v2 v3 h = some res := by
  unfold g_X11_isBit_0 at hm
  unfold f_X11_isBit_0
  obtain ⟨x1, hx1, hm⟩ := hp_bd hm
  refine tr_eq0 (t_X11_at I T_v0 hx1) ?_
  obtain ⟨x2, hx2, hm⟩ := hp_bd hm
  refine tr_eq0 (t_aJ I T_v1 hx2) ?_
  by_cases c3 : (lg_cmp (((Int64.toUInt64 x2 >>> (Int64.toUInt64 (Int32.toInt64 (v3 - v3 / (64 : Int32) * (64 : Int32))) &&& Int64.toUInt64 63)).toInt64) &&& (1 : Int64)) (1 : Int64)) = 0
  · rw [if_pos c3] at hm ⊢
    obtain rfl := Option.some.inj hm
    rfl
  · rw [if_neg c3] at hm ⊢
    obtain rfl := Option.some.inj hm
    rfl
def g_X11_isBit (n : Nat) (v0 : Nat) (v1 : Nat) (v2 : Int32) (v3 : Int32) (s : st_T) : Option (Int32) := g_X11_isBit_0 n v0 v1 v2 v3 s
theorem t_X11_isBit {tg r : Nat → Nat} {h : hp_H} {s : st_T} {n : Nat} {v0 : Nat} {v1 : Nat} {v2 : Int32} {v3 : Int32} (I : iso tg r h s) (T_v0 : tg v0 = 21) (T_v1 : tg v1 = 3) {res : Int32} (hm : g_X11_isBit n v0 v1 v2 v3 s = some res) : f_X11_isBit n (r v0) (r v1) v2 v3 h = some res := by
  unfold g_X11_isBit at hm
  unfold f_X11_isBit
  refine tr_eq0 (t_ck I T_v0 (by decide)) ?_
  exact t_X11_isBit_0 I T_v0 T_v1 hm
def g_X11_isKind_0 (n : Nat) (v0 : Nat) (v1 : Int32) (v2 : Int32) (s : st_T) : Option (Int32) :=
  (g_X11_isStatement n v0 v1 s).bind fun x1 =>
  if x1 = 0 then
    some (0 : Int32)
  else
    (g_X11_at n v0 v1 s).bind fun x3 =>
    (gA s (gP s v0 10) x3).bind fun x4 =>
    if x4 < v2 then
      some (0 : Int32)
    else
      some (1 : Int32)
set_option maxHeartbeats 1000000 in
theorem t_X11_isKind_0 {tg r : Nat → Nat} {h : hp_H} {s : st_T} {n : Nat} {v0 : Nat} {v1 : Int32} {v2 : Int32} (I : iso tg r h s) (T_v0 : tg v0 = 21) {res : Int32} (hm : g_X11_isKind_0 n v0 v1 v2 s = some res) : f_X11_isKind_0 n (r v0) v1 v2 h = some res := by
  unfold g_X11_isKind_0 at hm
  unfold f_X11_isKind_0
  obtain ⟨x1, hx1, hm⟩ := hp_bd hm
  refine tr_eq0 (t_X11_isStatement I T_v0 hx1) ?_
  by_cases c6 : x1 = 0
  · rw [if_pos c6] at hm ⊢
    obtain rfl := Option.some.inj hm
    rfl
  · rw [if_neg c6] at hm ⊢
    have T2 : tg (gP s v0 10) = 0 := t_tg (c := 11) I T_v0 (by decide) (by decide) rfl (by decide)
    refine tr_eq0 (t_fR I T_v0 (by decide) (by decide) (by decide)) ?_
    obtain ⟨x3, hx3, hm⟩ := hp_bd hm
    refine tr_eq0 (t_X11_at I T_v0 hx3) ?_
    obtain ⟨x4, hx4, hm⟩ := hp_bd hm
    refine tr_eq0 (t_aI I T2 (by decide) rfl hx4) ?_
    by_cases c5 : x4 < v2
    · rw [if_pos c5] at hm ⊢
      obtain rfl := Option.some.inj hm
      rfl
    · rw [if_neg c5] at hm ⊢
      obtain rfl := Option.some.inj hm
      rfl
def g_X11_isKind (n : Nat) (v0 : Nat) (v1 : Int32) (v2 : Int32) (s : st_T) : Option (Int32) := g_X11_isKind_0 n v0 v1 v2 s
theorem t_X11_isKind {tg r : Nat → Nat} {h : hp_H} {s : st_T} {n : Nat} {v0 : Nat} {v1 : Int32} {v2 : Int32} (I : iso tg r h s) (T_v0 : tg v0 = 21) {res : Int32} (hm : g_X11_isKind n v0 v1 v2 s = some res) : f_X11_isKind n (r v0) v1 v2 h = some res := by
  unfold g_X11_isKind at hm
  unfold f_X11_isKind
  refine tr_eq0 (t_ck I T_v0 (by decide)) ?_
  exact t_X11_isKind_0 I T_v0 hm
def g_X11_hypotheses_31 (n : Nat) (v0 : Nat) (v1 : Int32) (v3 : Int32) (s0 : Int32) (s : st_T) : Option ((Int32 × Int32) ⊕ (Int32)) :=
  some (.inl (s0, (v3 + (1 : Int32))))
set_option maxHeartbeats 1000000 in
theorem t_X11_hypotheses_31 {tg r : Nat → Nat} {h : hp_H} {s : st_T} {n : Nat} {v0 : Nat} {v1 : Int32} {v3 : Int32} {s0 : Int32} (I : iso tg r h s) (T_v0 : tg v0 = 21) {res : (Int32 × Int32) ⊕ (Int32)} (hm : g_X11_hypotheses_31 n v0 v1 v3 s0 s = some res) : f_X11_hypotheses_31 n (r v0) v1 v3 s0 h = some res := by
  unfold g_X11_hypotheses_31 at hm
  unfold f_X11_hypotheses_31
  obtain rfl := Option.some.inj hm
  rfl
def g_X11_hypotheses_4 (n : Nat) (v0 : Nat) (v1 : Int32) (v2 : Int32) (v3 : Int32) (s : st_T) : Option ((Int32 × Int32) ⊕ (Int32)) :=
  if (200 : Int32) ≤ v3 then
    some (.inr v2)
  else
    (g_X11_isBit n v0 (gP s v0 23) v1 v3 s).bind fun x2 =>
    if x2 = 0 then
      g_X11_hypotheses_31 n v0 v1 v3 v2 s
    else
      g_X11_hypotheses_31 n v0 v1 v3 (v2 + (1 : Int32)) s
set_option maxHeartbeats 1000000 in
theorem t_X11_hypotheses_4 {tg r : Nat → Nat} {h : hp_H} {s : st_T} {n : Nat} {v0 : Nat} {v1 : Int32} {v2 : Int32} {v3 : Int32} (I : iso tg r h s) (T_v0 : tg v0 = 21) {res : (Int32 × Int32) ⊕ (Int32)} (hm : g_X11_hypotheses_4 n v0 v1 v2 v3 s = some res) : f_X11_hypotheses_4 n (r v0) v1 v2 v3 h = some res := by
  unfold g_X11_hypotheses_4 at hm
  unfold f_X11_hypotheses_4
  by_cases c4 : (200 : Int32) ≤ v3
  · rw [if_pos c4] at hm ⊢
    obtain rfl := Option.some.inj hm
    rfl
  · rw [if_neg c4] at hm ⊢
    have T1 : tg (gP s v0 23) = 3 := t_tg (c := 11) I T_v0 (by decide) (by decide) rfl (by decide)
    refine tr_eq0 (t_fR I T_v0 (by decide) (by decide) (by decide)) ?_
    obtain ⟨x2, hx2, hm⟩ := hp_bd hm
    refine tr_eq0 (t_X11_isBit I T_v0 T1 hx2) ?_
    by_cases c3 : x2 = 0
    · rw [if_pos c3] at hm ⊢
      exact t_X11_hypotheses_31 I T_v0 hm
    · rw [if_neg c3] at hm ⊢
      exact t_X11_hypotheses_31 I T_v0 hm
def gL_X11_hypotheses_4 (n : Nat) (v0 : Nat) (v1 : Int32) (s : st_T) (c : Int32 × Int32) : Option ((Int32 × Int32) ⊕ (Int32)) := g_X11_hypotheses_4 n v0 v1 c.1 c.2 s
theorem tl_X11_hypotheses_4 {tg r : Nat → Nat} {h : hp_H} {s : st_T} {n : Nat} {v0 : Nat} {v1 : Int32} (I : iso tg r h s) (T_v0 : tg v0 = 21) : ∀ (k : Nat) (c : Int32 × Int32) (x : Int32), hp_lp (gL_X11_hypotheses_4 n v0 v1 s) k c = some x → hp_lp (fL_X11_hypotheses_4 n (r v0) v1 h) k c = some x := by
  intro k
  induction k with
  | zero => intro c x hx; exact (hp_lp_0 hx).elim
  | succ k ih =>
    intro c x hx
    obtain ⟨rr, hr, hc⟩ := hp_lp_1 hx
    have e2 := t_X11_hypotheses_4 I T_v0 hr
    rcases hc with ⟨s3, e3, hx3⟩ | e3
    · subst e3
      exact hp_lp_s e2 (ih _ _ hx3)
    · subst e3
      exact hp_lp_x e2
def g_X11_hypotheses_0 (n : Nat) (v0 : Nat) (v1 : Int32) (s : st_T) : Option (Int32) :=
  (hp_lp (gL_X11_hypotheses_4 n v0 v1 s) n ((0 : Int32), (0 : Int32))).bind fun x1 =>
  some x1
set_option maxHeartbeats 1000000 in
theorem t_X11_hypotheses_0 {tg r : Nat → Nat} {h : hp_H} {s : st_T} {n : Nat} {v0 : Nat} {v1 : Int32} (I : iso tg r h s) (T_v0 : tg v0 = 21) {res : Int32} (hm : g_X11_hypotheses_0 n v0 v1 s = some res) : f_X11_hypotheses_0 n (r v0) v1 h = some res := by
  unfold g_X11_hypotheses_0 at hm
  unfold f_X11_hypotheses_0
  obtain ⟨x1, hx1, hm⟩ := hp_bd hm
  refine tr_eq0 (tl_X11_hypotheses_4 I T_v0 n _ _ hx1) ?_
  obtain rfl := Option.some.inj hm
  rfl
def g_X11_hypotheses (n : Nat) (v0 : Nat) (v1 : Int32) (s : st_T) : Option (Int32) := g_X11_hypotheses_0 n v0 v1 s
theorem t_X11_hypotheses {tg r : Nat → Nat} {h : hp_H} {s : st_T} {n : Nat} {v0 : Nat} {v1 : Int32} (I : iso tg r h s) (T_v0 : tg v0 = 21) {res : Int32} (hm : g_X11_hypotheses n v0 v1 s = some res) : f_X11_hypotheses n (r v0) v1 h = some res := by
  unfold g_X11_hypotheses at hm
  unfold f_X11_hypotheses
  refine tr_eq0 (t_ck I T_v0 (by decide)) ?_
  exact t_X11_hypotheses_0 I T_v0 hm
def g_X11_hypothesis_32 (n : Nat) (v0 : Nat) (v1 : Int32) (v2 : Int32) (v4 : Int32) (s0 : Int32) (s : st_T) : Option ((Int32 × Int32) ⊕ (Int32)) :=
  if s0 = v2 then
    some (.inr v4)
  else
    some (.inl (s0, (v4 + (1 : Int32))))
set_option maxHeartbeats 1000000 in
theorem t_X11_hypothesis_32 {tg r : Nat → Nat} {h : hp_H} {s : st_T} {n : Nat} {v0 : Nat} {v1 : Int32} {v2 : Int32} {v4 : Int32} {s0 : Int32} (I : iso tg r h s) (T_v0 : tg v0 = 21) {res : (Int32 × Int32) ⊕ (Int32)} (hm : g_X11_hypothesis_32 n v0 v1 v2 v4 s0 s = some res) : f_X11_hypothesis_32 n (r v0) v1 v2 v4 s0 h = some res := by
  unfold g_X11_hypothesis_32 at hm
  unfold f_X11_hypothesis_32
  by_cases c1 : s0 = v2
  · rw [if_pos c1] at hm ⊢
    obtain rfl := Option.some.inj hm
    rfl
  · rw [if_neg c1] at hm ⊢
    obtain rfl := Option.some.inj hm
    rfl
def g_X11_hypothesis_5 (n : Nat) (v0 : Nat) (v1 : Int32) (v2 : Int32) (v3 : Int32) (v4 : Int32) (s : st_T) : Option ((Int32 × Int32) ⊕ (Int32)) :=
  if v1 ≤ v4 then
    some (.inr (-2 : Int32))
  else
    (g_X11_isBit n v0 (gP s v0 23) v1 v4 s).bind fun x2 =>
    if x2 = 0 then
      g_X11_hypothesis_32 n v0 v1 v2 v4 v3 s
    else
      g_X11_hypothesis_32 n v0 v1 v2 v4 (v3 + (1 : Int32)) s
set_option maxHeartbeats 1000000 in
theorem t_X11_hypothesis_5 {tg r : Nat → Nat} {h : hp_H} {s : st_T} {n : Nat} {v0 : Nat} {v1 : Int32} {v2 : Int32} {v3 : Int32} {v4 : Int32} (I : iso tg r h s) (T_v0 : tg v0 = 21) {res : (Int32 × Int32) ⊕ (Int32)} (hm : g_X11_hypothesis_5 n v0 v1 v2 v3 v4 s = some res) : f_X11_hypothesis_5 n (r v0) v1 v2 v3 v4 h = some res := by
  unfold g_X11_hypothesis_5 at hm
  unfold f_X11_hypothesis_5
  by_cases c4 : v1 ≤ v4
  · rw [if_pos c4] at hm ⊢
    obtain rfl := Option.some.inj hm
    rfl
  · rw [if_neg c4] at hm ⊢
    have T1 : tg (gP s v0 23) = 3 := t_tg (c := 11) I T_v0 (by decide) (by decide) rfl (by decide)
    refine tr_eq0 (t_fR I T_v0 (by decide) (by decide) (by decide)) ?_
    obtain ⟨x2, hx2, hm⟩ := hp_bd hm
    refine tr_eq0 (t_X11_isBit I T_v0 T1 hx2) ?_
    by_cases c3 : x2 = 0
    · rw [if_pos c3] at hm ⊢
      exact t_X11_hypothesis_32 I T_v0 hm
    · rw [if_neg c3] at hm ⊢
      exact t_X11_hypothesis_32 I T_v0 hm
def gL_X11_hypothesis_5 (n : Nat) (v0 : Nat) (v1 : Int32) (v2 : Int32) (s : st_T) (c : Int32 × Int32) : Option ((Int32 × Int32) ⊕ (Int32)) := g_X11_hypothesis_5 n v0 v1 v2 c.1 c.2 s
theorem tl_X11_hypothesis_5 {tg r : Nat → Nat} {h : hp_H} {s : st_T} {n : Nat} {v0 : Nat} {v1 : Int32} {v2 : Int32} (I : iso tg r h s) (T_v0 : tg v0 = 21) : ∀ (k : Nat) (c : Int32 × Int32) (x : Int32), hp_lp (gL_X11_hypothesis_5 n v0 v1 v2 s) k c = some x → hp_lp (fL_X11_hypothesis_5 n (r v0) v1 v2 h) k c = some x := by
  intro k
  induction k with
  | zero => intro c x hx; exact (hp_lp_0 hx).elim
  | succ k ih =>
    intro c x hx
    obtain ⟨rr, hr, hc⟩ := hp_lp_1 hx
    have e2 := t_X11_hypothesis_5 I T_v0 hr
    rcases hc with ⟨s3, e3, hx3⟩ | e3
    · subst e3
      exact hp_lp_s e2 (ih _ _ hx3)
    · subst e3
      exact hp_lp_x e2
def g_X11_hypothesis_0 (n : Nat) (v0 : Nat) (v1 : Int32) (v2 : Int32) (s : st_T) : Option (Int32) :=
  (hp_lp (gL_X11_hypothesis_5 n v0 v1 v2 s) n ((-1 : Int32), (0 : Int32))).bind fun x1 =>
  some x1
set_option maxHeartbeats 1000000 in
theorem t_X11_hypothesis_0 {tg r : Nat → Nat} {h : hp_H} {s : st_T} {n : Nat} {v0 : Nat} {v1 : Int32} {v2 : Int32} (I : iso tg r h s) (T_v0 : tg v0 = 21) {res : Int32} (hm : g_X11_hypothesis_0 n v0 v1 v2 s = some res) : f_X11_hypothesis_0 n (r v0) v1 v2 h = some res := by
  unfold g_X11_hypothesis_0 at hm
  unfold f_X11_hypothesis_0
  obtain ⟨x1, hx1, hm⟩ := hp_bd hm
  refine tr_eq0 (tl_X11_hypothesis_5 I T_v0 n _ _ hx1) ?_
  obtain rfl := Option.some.inj hm
  rfl
def g_X11_hypothesis (n : Nat) (v0 : Nat) (v1 : Int32) (v2 : Int32) (s : st_T) : Option (Int32) := g_X11_hypothesis_0 n v0 v1 v2 s
theorem t_X11_hypothesis {tg r : Nat → Nat} {h : hp_H} {s : st_T} {n : Nat} {v0 : Nat} {v1 : Int32} {v2 : Int32} (I : iso tg r h s) (T_v0 : tg v0 = 21) {res : Int32} (hm : g_X11_hypothesis n v0 v1 v2 s = some res) : f_X11_hypothesis n (r v0) v1 v2 h = some res := by
  unfold g_X11_hypothesis at hm
  unfold f_X11_hypothesis
  refine tr_eq0 (t_ck I T_v0 (by decide)) ?_
  exact t_X11_hypothesis_0 I T_v0 hm
def g_X11_isPairAt_0 (n : Nat) (v0 : Nat) (v1 : Int32) (v2 : Int32) (s : st_T) : Option (Int32) :=
  (gA s (gP s v0 26) v1).bind fun x2 =>
  if v2 < x2 then
    some (0 : Int32)
  else
    (gA s (gP s v0 27) v1).bind fun x4 =>
    if x4 ≤ v2 then
      some (0 : Int32)
    else
      some (1 : Int32)
set_option maxHeartbeats 1000000 in
theorem t_X11_isPairAt_0 {tg r : Nat → Nat} {h : hp_H} {s : st_T} {n : Nat} {v0 : Nat} {v1 : Int32} {v2 : Int32} (I : iso tg r h s) (T_v0 : tg v0 = 21) {res : Int32} (hm : g_X11_isPairAt_0 n v0 v1 v2 s = some res) : f_X11_isPairAt_0 n (r v0) v1 v2 h = some res := by
  unfold g_X11_isPairAt_0 at hm
  unfold f_X11_isPairAt_0
  have T1 : tg (gP s v0 26) = 0 := t_tg (c := 11) I T_v0 (by decide) (by decide) rfl (by decide)
  refine tr_eq0 (t_fR I T_v0 (by decide) (by decide) (by decide)) ?_
  obtain ⟨x2, hx2, hm⟩ := hp_bd hm
  refine tr_eq0 (t_aI I T1 (by decide) rfl hx2) ?_
  by_cases c6 : v2 < x2
  · rw [if_pos c6] at hm ⊢
    obtain rfl := Option.some.inj hm
    rfl
  · rw [if_neg c6] at hm ⊢
    have T3 : tg (gP s v0 27) = 0 := t_tg (c := 11) I T_v0 (by decide) (by decide) rfl (by decide)
    refine tr_eq0 (t_fR I T_v0 (by decide) (by decide) (by decide)) ?_
    obtain ⟨x4, hx4, hm⟩ := hp_bd hm
    refine tr_eq0 (t_aI I T3 (by decide) rfl hx4) ?_
    by_cases c5 : x4 ≤ v2
    · rw [if_pos c5] at hm ⊢
      obtain rfl := Option.some.inj hm
      rfl
    · rw [if_neg c5] at hm ⊢
      obtain rfl := Option.some.inj hm
      rfl
def g_X11_isPairAt (n : Nat) (v0 : Nat) (v1 : Int32) (v2 : Int32) (s : st_T) : Option (Int32) := g_X11_isPairAt_0 n v0 v1 v2 s
theorem t_X11_isPairAt {tg r : Nat → Nat} {h : hp_H} {s : st_T} {n : Nat} {v0 : Nat} {v1 : Int32} {v2 : Int32} (I : iso tg r h s) (T_v0 : tg v0 = 21) {res : Int32} (hm : g_X11_isPairAt n v0 v1 v2 s = some res) : f_X11_isPairAt n (r v0) v1 v2 h = some res := by
  unfold g_X11_isPairAt at hm
  unfold f_X11_isPairAt
  refine tr_eq0 (t_ck I T_v0 (by decide)) ?_
  exact t_X11_isPairAt_0 I T_v0 hm
def g_X11_apart_104 (n : Nat) (v0 : Nat) (v1 : Int32) (v4 : Int32) (v5 : Int32) (v7 : Int32) (s0 : Int32) (s : st_T) : Option ((Int32 × Int32) ⊕ (Int32)) :=
  some (.inl (s0, (v7 + (1 : Int32))))
set_option maxHeartbeats 1000000 in
theorem t_X11_apart_104 {tg r : Nat → Nat} {h : hp_H} {s : st_T} {n : Nat} {v0 : Nat} {v1 : Int32} {v4 : Int32} {v5 : Int32} {v7 : Int32} {s0 : Int32} (I : iso tg r h s) (T_v0 : tg v0 = 21) {res : (Int32 × Int32) ⊕ (Int32)} (hm : g_X11_apart_104 n v0 v1 v4 v5 v7 s0 s = some res) : f_X11_apart_104 n (r v0) v1 v4 v5 v7 s0 h = some res := by
  unfold g_X11_apart_104 at hm
  unfold f_X11_apart_104
  obtain rfl := Option.some.inj hm
  rfl
def g_X11_apart_103 (n : Nat) (v0 : Nat) (v1 : Int32) (v4 : Int32) (v5 : Int32) (v7 : Int32) (s : st_T) : Option ((Int32 × Int32) ⊕ (Int32)) :=
  g_X11_apart_104 n v0 v1 v4 v5 v7 (0 : Int32) s
set_option maxHeartbeats 1000000 in
theorem t_X11_apart_103 {tg r : Nat → Nat} {h : hp_H} {s : st_T} {n : Nat} {v0 : Nat} {v1 : Int32} {v4 : Int32} {v5 : Int32} {v7 : Int32} (I : iso tg r h s) (T_v0 : tg v0 = 21) {res : (Int32 × Int32) ⊕ (Int32)} (hm : g_X11_apart_103 n v0 v1 v4 v5 v7 s = some res) : f_X11_apart_103 n (r v0) v1 v4 v5 v7 h = some res := by
  unfold g_X11_apart_103 at hm
  unfold f_X11_apart_103
  exact t_X11_apart_104 I T_v0 hm
def g_X11_apart_37 (n : Nat) (v0 : Nat) (v1 : Int32) (v4 : Int32) (v5 : Int32) (v6 : Int32) (v7 : Int32) (s : st_T) : Option ((Int32 × Int32) ⊕ (Int32)) :=
  (gA s (gP s v0 28) (gF s v0 4)).bind fun x2 =>
  if (((10240 : Int32) * (gF s v0 4)) + x2) ≤ v7 then
    (hp_bz v6).bind fun _ =>
    some (.inr v6)
  else
    if v6 = 0 then
      (gA s (gP s v0 24) v7).bind fun x6 =>
      if x6 = v4 then
        (gA s (gP s v0 25) v7).bind fun x8 =>
        if x8 = v5 then
          (g_X11_isPairAt n v0 v7 v1 s).bind fun x9 =>
          if x9 = 0 then
            g_X11_apart_103 n v0 v1 v4 v5 v7 s
          else
            g_X11_apart_104 n v0 v1 v4 v5 v7 (1 : Int32) s
        else
          g_X11_apart_103 n v0 v1 v4 v5 v7 s
      else
        g_X11_apart_103 n v0 v1 v4 v5 v7 s
    else
      (hp_bz v6).bind fun _ =>
      some (.inr v6)
set_option maxHeartbeats 1000000 in
theorem t_X11_apart_37 {tg r : Nat → Nat} {h : hp_H} {s : st_T} {n : Nat} {v0 : Nat} {v1 : Int32} {v4 : Int32} {v5 : Int32} {v6 : Int32} {v7 : Int32} (I : iso tg r h s) (T_v0 : tg v0 = 21) {res : (Int32 × Int32) ⊕ (Int32)} (hm : g_X11_apart_37 n v0 v1 v4 v5 v6 v7 s = some res) : f_X11_apart_37 n (r v0) v1 v4 v5 v6 v7 h = some res := by
  unfold g_X11_apart_37 at hm
  unfold f_X11_apart_37
  refine tr_eq0 (t_fI I T_v0 (by decide) (by decide) rfl) ?_
  have T1 : tg (gP s v0 28) = 0 := t_tg (c := 11) I T_v0 (by decide) (by decide) rfl (by decide)
  refine tr_eq0 (t_fR I T_v0 (by decide) (by decide) (by decide)) ?_
  refine tr_eq0 (t_fI I T_v0 (by decide) (by decide) rfl) ?_
  obtain ⟨x2, hx2, hm⟩ := hp_bd hm
  refine tr_eq0 (t_aI I T1 (by decide) rfl hx2) ?_
  by_cases c14 : (((10240 : Int32) * (gF s v0 4)) + x2) ≤ v7
  · rw [if_pos c14] at hm ⊢
    obtain ⟨_, hu3, hm⟩ := hp_bd hm
    refine tr_eq0 hu3 ?_
    obtain rfl := Option.some.inj hm
    rfl
  · rw [if_neg c14] at hm ⊢
    by_cases c13 : v6 = 0
    · rw [if_pos c13] at hm ⊢
      have T5 : tg (gP s v0 24) = 0 := t_tg (c := 11) I T_v0 (by decide) (by decide) rfl (by decide)
      refine tr_eq0 (t_fR I T_v0 (by decide) (by decide) (by decide)) ?_
      obtain ⟨x6, hx6, hm⟩ := hp_bd hm
      refine tr_eq0 (t_aI I T5 (by decide) rfl hx6) ?_
      by_cases c12 : x6 = v4
      · rw [if_pos c12] at hm ⊢
        have T7 : tg (gP s v0 25) = 0 := t_tg (c := 11) I T_v0 (by decide) (by decide) rfl (by decide)
        refine tr_eq0 (t_fR I T_v0 (by decide) (by decide) (by decide)) ?_
        obtain ⟨x8, hx8, hm⟩ := hp_bd hm
        refine tr_eq0 (t_aI I T7 (by decide) rfl hx8) ?_
        by_cases c11 : x8 = v5
        · rw [if_pos c11] at hm ⊢
          obtain ⟨x9, hx9, hm⟩ := hp_bd hm
          refine tr_eq0 (t_X11_isPairAt I T_v0 hx9) ?_
          by_cases c10 : x9 = 0
          · rw [if_pos c10] at hm ⊢
            exact t_X11_apart_103 I T_v0 hm
          · rw [if_neg c10] at hm ⊢
            exact t_X11_apart_104 I T_v0 hm
        · rw [if_neg c11] at hm ⊢
          exact t_X11_apart_103 I T_v0 hm
      · rw [if_neg c12] at hm ⊢
        exact t_X11_apart_103 I T_v0 hm
    · rw [if_neg c13] at hm ⊢
      obtain ⟨_, hu4, hm⟩ := hp_bd hm
      refine tr_eq0 hu4 ?_
      obtain rfl := Option.some.inj hm
      rfl
def gL_X11_apart_37 (n : Nat) (v0 : Nat) (v1 : Int32) (v4 : Int32) (v5 : Int32) (s : st_T) (c : Int32 × Int32) : Option ((Int32 × Int32) ⊕ (Int32)) := g_X11_apart_37 n v0 v1 v4 v5 c.1 c.2 s
theorem tl_X11_apart_37 {tg r : Nat → Nat} {h : hp_H} {s : st_T} {n : Nat} {v0 : Nat} {v1 : Int32} {v4 : Int32} {v5 : Int32} (I : iso tg r h s) (T_v0 : tg v0 = 21) : ∀ (k : Nat) (c : Int32 × Int32) (x : Int32), hp_lp (gL_X11_apart_37 n v0 v1 v4 v5 s) k c = some x → hp_lp (fL_X11_apart_37 n (r v0) v1 v4 v5 h) k c = some x := by
  intro k
  induction k with
  | zero => intro c x hx; exact (hp_lp_0 hx).elim
  | succ k ih =>
    intro c x hx
    obtain ⟨rr, hr, hc⟩ := hp_lp_1 hx
    have e2 := t_X11_apart_37 I T_v0 hr
    rcases hc with ⟨s3, e3, hx3⟩ | e3
    · subst e3
      exact hp_lp_s e2 (ih _ _ hx3)
    · subst e3
      exact hp_lp_x e2
def g_X11_apart_22 (n : Nat) (v0 : Nat) (v1 : Int32) (v4 : Int32) (s0 : Int32) (s : st_T) : Option (Int32) :=
  (hp_lp (gL_X11_apart_37 n v0 v1 v4 s0 s) n ((0 : Int32), ((10240 : Int32) * (gF s v0 4)))).bind fun x1 =>
  some x1
set_option maxHeartbeats 1000000 in
theorem t_X11_apart_22 {tg r : Nat → Nat} {h : hp_H} {s : st_T} {n : Nat} {v0 : Nat} {v1 : Int32} {v4 : Int32} {s0 : Int32} (I : iso tg r h s) (T_v0 : tg v0 = 21) {res : Int32} (hm : g_X11_apart_22 n v0 v1 v4 s0 s = some res) : f_X11_apart_22 n (r v0) v1 v4 s0 h = some res := by
  unfold g_X11_apart_22 at hm
  unfold f_X11_apart_22
  refine tr_eq0 (t_fI I T_v0 (by decide) (by decide) rfl) ?_
  obtain ⟨x1, hx1, hm⟩ := hp_bd hm
  refine tr_eq0 (tl_X11_apart_37 I T_v0 n _ _ hx1) ?_
  obtain rfl := Option.some.inj hm
  rfl
def g_X11_apart_10 (n : Nat) (v0 : Nat) (v1 : Int32) (v2 : Int32) (v3 : Int32) (s0 : Int32) (s : st_T) : Option (Int32) :=
  if v3 ≤ v2 then
    g_X11_apart_22 n v0 v1 s0 v2 s
  else
    g_X11_apart_22 n v0 v1 s0 v3 s
set_option maxHeartbeats 1000000 in
theorem t_X11_apart_10 {tg r : Nat → Nat} {h : hp_H} {s : st_T} {n : Nat} {v0 : Nat} {v1 : Int32} {v2 : Int32} {v3 : Int32} {s0 : Int32} (I : iso tg r h s) (T_v0 : tg v0 = 21) {res : Int32} (hm : g_X11_apart_10 n v0 v1 v2 v3 s0 s = some res) : f_X11_apart_10 n (r v0) v1 v2 v3 s0 h = some res := by
  unfold g_X11_apart_10 at hm
  unfold f_X11_apart_10
  by_cases c1 : v3 ≤ v2
  · rw [if_pos c1] at hm ⊢
    exact t_X11_apart_22 I T_v0 hm
  · rw [if_neg c1] at hm ⊢
    exact t_X11_apart_22 I T_v0 hm
def g_X11_apart_0 (n : Nat) (v0 : Nat) (v1 : Int32) (v2 : Int32) (v3 : Int32) (s : st_T) : Option (Int32) :=
  if v3 ≤ v2 then
    g_X11_apart_10 n v0 v1 v2 v3 v3 s
  else
    g_X11_apart_10 n v0 v1 v2 v3 v2 s
set_option maxHeartbeats 1000000 in
theorem t_X11_apart_0 {tg r : Nat → Nat} {h : hp_H} {s : st_T} {n : Nat} {v0 : Nat} {v1 : Int32} {v2 : Int32} {v3 : Int32} (I : iso tg r h s) (T_v0 : tg v0 = 21) {res : Int32} (hm : g_X11_apart_0 n v0 v1 v2 v3 s = some res) : f_X11_apart_0 n (r v0) v1 v2 v3 h = some res := by
  unfold g_X11_apart_0 at hm
  unfold f_X11_apart_0
  by_cases c1 : v3 ≤ v2
  · rw [if_pos c1] at hm ⊢
    exact t_X11_apart_10 I T_v0 hm
  · rw [if_neg c1] at hm ⊢
    exact t_X11_apart_10 I T_v0 hm
def g_X11_apart (n : Nat) (v0 : Nat) (v1 : Int32) (v2 : Int32) (v3 : Int32) (s : st_T) : Option (Int32) := g_X11_apart_0 n v0 v1 v2 v3 s
theorem t_X11_apart {tg r : Nat → Nat} {h : hp_H} {s : st_T} {n : Nat} {v0 : Nat} {v1 : Int32} {v2 : Int32} {v3 : Int32} (I : iso tg r h s) (T_v0 : tg v0 = 21) {res : Int32} (hm : g_X11_apart n v0 v1 v2 v3 s = some res) : f_X11_apart n (r v0) v1 v2 v3 h = some res := by
  unfold g_X11_apart at hm
  unfold f_X11_apart
  refine tr_eq0 (t_ck I T_v0 (by decide)) ?_
  exact t_X11_apart_0 I T_v0 hm
def g_X11_isMandatory_79 (n : Nat) (v0 : Nat) (v1 : Int32) (v2 : Int32) (v4 : Int32) (s0 : Int32) (s : st_T) : Option ((Int32 × Int32) ⊕ (Int32)) :=
  some (.inl (s0, (v4 + (1 : Int32))))
set_option maxHeartbeats 1000000 in
theorem t_X11_isMandatory_79 {tg r : Nat → Nat} {h : hp_H} {s : st_T} {n : Nat} {v0 : Nat} {v1 : Int32} {v2 : Int32} {v4 : Int32} {s0 : Int32} (I : iso tg r h s) (T_v0 : tg v0 = 21) {res : (Int32 × Int32) ⊕ (Int32)} (hm : g_X11_isMandatory_79 n v0 v1 v2 v4 s0 s = some res) : f_X11_isMandatory_79 n (r v0) v1 v2 v4 s0 h = some res := by
  unfold g_X11_isMandatory_79 at hm
  unfold f_X11_isMandatory_79
  obtain rfl := Option.some.inj hm
  rfl
def g_X11_isMandatory_78 (n : Nat) (v0 : Nat) (v1 : Int32) (v2 : Int32) (v4 : Int32) (s : st_T) : Option ((Int32 × Int32) ⊕ (Int32)) :=
  g_X11_isMandatory_79 n v0 v1 v2 v4 (0 : Int32) s
set_option maxHeartbeats 1000000 in
theorem t_X11_isMandatory_78 {tg r : Nat → Nat} {h : hp_H} {s : st_T} {n : Nat} {v0 : Nat} {v1 : Int32} {v2 : Int32} {v4 : Int32} (I : iso tg r h s) (T_v0 : tg v0 = 21) {res : (Int32 × Int32) ⊕ (Int32)} (hm : g_X11_isMandatory_78 n v0 v1 v2 v4 s = some res) : f_X11_isMandatory_78 n (r v0) v1 v2 v4 h = some res := by
  unfold g_X11_isMandatory_78 at hm
  unfold f_X11_isMandatory_78
  exact t_X11_isMandatory_79 I T_v0 hm
def g_X11_isMandatory_5 (n : Nat) (v0 : Nat) (v1 : Int32) (v2 : Int32) (v3 : Int32) (v4 : Int32) (s : st_T) : Option ((Int32 × Int32) ⊕ (Int32)) :=
  if v1 ≤ v4 then
    (hp_bz v3).bind fun _ =>
    some (.inr v3)
  else
    if v3 = 0 then
      (g_X11_isBit n v0 (gP s v0 23) v1 v4 s).bind fun x4 =>
      if x4 = 0 then
        g_X11_isMandatory_78 n v0 v1 v2 v4 s
      else
        (g_X11_at n v0 v4 s).bind fun x6 =>
        (gA s (gP s v0 10) x6).bind fun x7 =>
        if x7 = 0 then
          (g_X11_at n v0 v4 s).bind fun x10 =>
          (gA s (gP s v0 14) x10).bind fun x11 =>
          (gA s (gP s v0 19) ((((4096 : Int32) * (gF s v0 4)) + x11) + (1 : Int32))).bind fun x12 =>
          if x12 = v2 then
            g_X11_isMandatory_79 n v0 v1 v2 v4 (1 : Int32) s
          else
            g_X11_isMandatory_78 n v0 v1 v2 v4 s
        else
          g_X11_isMandatory_78 n v0 v1 v2 v4 s
    else
      (hp_bz v3).bind fun _ =>
      some (.inr v3)
set_option maxHeartbeats 1000000 in
theorem t_X11_isMandatory_5 {tg r : Nat → Nat} {h : hp_H} {s : st_T} {n : Nat} {v0 : Nat} {v1 : Int32} {v2 : Int32} {v3 : Int32} {v4 : Int32} (I : iso tg r h s) (T_v0 : tg v0 = 21) {res : (Int32 × Int32) ⊕ (Int32)} (hm : g_X11_isMandatory_5 n v0 v1 v2 v3 v4 s = some res) : f_X11_isMandatory_5 n (r v0) v1 v2 v3 v4 h = some res := by
  unfold g_X11_isMandatory_5 at hm
  unfold f_X11_isMandatory_5
  by_cases c17 : v1 ≤ v4
  · rw [if_pos c17] at hm ⊢
    obtain ⟨_, hu1, hm⟩ := hp_bd hm
    refine tr_eq0 hu1 ?_
    obtain rfl := Option.some.inj hm
    rfl
  · rw [if_neg c17] at hm ⊢
    by_cases c16 : v3 = 0
    · rw [if_pos c16] at hm ⊢
      have T3 : tg (gP s v0 23) = 3 := t_tg (c := 11) I T_v0 (by decide) (by decide) rfl (by decide)
      refine tr_eq0 (t_fR I T_v0 (by decide) (by decide) (by decide)) ?_
      obtain ⟨x4, hx4, hm⟩ := hp_bd hm
      refine tr_eq0 (t_X11_isBit I T_v0 T3 hx4) ?_
      by_cases c15 : x4 = 0
      · rw [if_pos c15] at hm ⊢
        exact t_X11_isMandatory_78 I T_v0 hm
      · rw [if_neg c15] at hm ⊢
        have T5 : tg (gP s v0 10) = 0 := t_tg (c := 11) I T_v0 (by decide) (by decide) rfl (by decide)
        refine tr_eq0 (t_fR I T_v0 (by decide) (by decide) (by decide)) ?_
        obtain ⟨x6, hx6, hm⟩ := hp_bd hm
        refine tr_eq0 (t_X11_at I T_v0 hx6) ?_
        obtain ⟨x7, hx7, hm⟩ := hp_bd hm
        refine tr_eq0 (t_aI I T5 (by decide) rfl hx7) ?_
        by_cases c14 : x7 = 0
        · rw [if_pos c14] at hm ⊢
          have T8 : tg (gP s v0 19) = 0 := t_tg (c := 11) I T_v0 (by decide) (by decide) rfl (by decide)
          refine tr_eq0 (t_fR I T_v0 (by decide) (by decide) (by decide)) ?_
          refine tr_eq0 (t_fI I T_v0 (by decide) (by decide) rfl) ?_
          have T9 : tg (gP s v0 14) = 0 := t_tg (c := 11) I T_v0 (by decide) (by decide) rfl (by decide)
          refine tr_eq0 (t_fR I T_v0 (by decide) (by decide) (by decide)) ?_
          obtain ⟨x10, hx10, hm⟩ := hp_bd hm
          refine tr_eq0 (t_X11_at I T_v0 hx10) ?_
          obtain ⟨x11, hx11, hm⟩ := hp_bd hm
          refine tr_eq0 (t_aI I T9 (by decide) rfl hx11) ?_
          obtain ⟨x12, hx12, hm⟩ := hp_bd hm
          refine tr_eq0 (t_aI I T8 (by decide) rfl hx12) ?_
          by_cases c13 : x12 = v2
          · rw [if_pos c13] at hm ⊢
            exact t_X11_isMandatory_79 I T_v0 hm
          · rw [if_neg c13] at hm ⊢
            exact t_X11_isMandatory_78 I T_v0 hm
        · rw [if_neg c14] at hm ⊢
          exact t_X11_isMandatory_78 I T_v0 hm
    · rw [if_neg c16] at hm ⊢
      obtain ⟨_, hu2, hm⟩ := hp_bd hm
      refine tr_eq0 hu2 ?_
      obtain rfl := Option.some.inj hm
      rfl
def gL_X11_isMandatory_5 (n : Nat) (v0 : Nat) (v1 : Int32) (v2 : Int32) (s : st_T) (c : Int32 × Int32) : Option ((Int32 × Int32) ⊕ (Int32)) := g_X11_isMandatory_5 n v0 v1 v2 c.1 c.2 s
theorem tl_X11_isMandatory_5 {tg r : Nat → Nat} {h : hp_H} {s : st_T} {n : Nat} {v0 : Nat} {v1 : Int32} {v2 : Int32} (I : iso tg r h s) (T_v0 : tg v0 = 21) : ∀ (k : Nat) (c : Int32 × Int32) (x : Int32), hp_lp (gL_X11_isMandatory_5 n v0 v1 v2 s) k c = some x → hp_lp (fL_X11_isMandatory_5 n (r v0) v1 v2 h) k c = some x := by
  intro k
  induction k with
  | zero => intro c x hx; exact (hp_lp_0 hx).elim
  | succ k ih =>
    intro c x hx
    obtain ⟨rr, hr, hc⟩ := hp_lp_1 hx
    have e2 := t_X11_isMandatory_5 I T_v0 hr
    rcases hc with ⟨s3, e3, hx3⟩ | e3
    · subst e3
      exact hp_lp_s e2 (ih _ _ hx3)
    · subst e3
      exact hp_lp_x e2
def g_X11_isMandatory_0 (n : Nat) (v0 : Nat) (v1 : Int32) (v2 : Int32) (s : st_T) : Option (Int32) :=
  (hp_lp (gL_X11_isMandatory_5 n v0 v1 v2 s) n ((0 : Int32), (0 : Int32))).bind fun x1 =>
  some x1
set_option maxHeartbeats 1000000 in
theorem t_X11_isMandatory_0 {tg r : Nat → Nat} {h : hp_H} {s : st_T} {n : Nat} {v0 : Nat} {v1 : Int32} {v2 : Int32} (I : iso tg r h s) (T_v0 : tg v0 = 21) {res : Int32} (hm : g_X11_isMandatory_0 n v0 v1 v2 s = some res) : f_X11_isMandatory_0 n (r v0) v1 v2 h = some res := by
  unfold g_X11_isMandatory_0 at hm
  unfold f_X11_isMandatory_0
  obtain ⟨x1, hx1, hm⟩ := hp_bd hm
  refine tr_eq0 (tl_X11_isMandatory_5 I T_v0 n _ _ hx1) ?_
  obtain rfl := Option.some.inj hm
  rfl
def g_X11_isMandatory (n : Nat) (v0 : Nat) (v1 : Int32) (v2 : Int32) (s : st_T) : Option (Int32) := g_X11_isMandatory_0 n v0 v1 v2 s
theorem t_X11_isMandatory {tg r : Nat → Nat} {h : hp_H} {s : st_T} {n : Nat} {v0 : Nat} {v1 : Int32} {v2 : Int32} (I : iso tg r h s) (T_v0 : tg v0 = 21) {res : Int32} (hm : g_X11_isMandatory n v0 v1 v2 s = some res) : f_X11_isMandatory n (r v0) v1 v2 h = some res := by
  unfold g_X11_isMandatory at hm
  unfold f_X11_isMandatory
  refine tr_eq0 (t_ck I T_v0 (by decide)) ?_
  exact t_X11_isMandatory_0 I T_v0 hm
def g_X11_framePair_139 (n : Nat) (v0 : Nat) (v1 : Int32) (v2 : Int32) (v3 : Int32) (v4 : Int32) (v5 : Int32) (v6 : Int32) (s : st_T) : Option ((Int32 × Int32) ⊕ ((Int32) ⊕ (Int32))) :=
  some (.inl (v3, (v6 + (1 : Int32))))
set_option maxHeartbeats 1000000 in
theorem t_X11_framePair_139 {tg r : Nat → Nat} {h : hp_H} {s : st_T} {n : Nat} {v0 : Nat} {v1 : Int32} {v2 : Int32} {v3 : Int32} {v4 : Int32} {v5 : Int32} {v6 : Int32} (I : iso tg r h s) (T_v0 : tg v0 = 21) {res : (Int32 × Int32) ⊕ ((Int32) ⊕ (Int32))} (hm : g_X11_framePair_139 n v0 v1 v2 v3 v4 v5 v6 s = some res) : f_X11_framePair_139 n (r v0) v1 v2 v3 v4 v5 v6 h = some res := by
  unfold g_X11_framePair_139 at hm
  unfold f_X11_framePair_139
  obtain rfl := Option.some.inj hm
  rfl
def g_X11_framePair_61 (n : Nat) (v0 : Nat) (v1 : Int32) (v2 : Int32) (v3 : Int32) (v4 : Int32) (v5 : Int32) (v6 : Int32) (s : st_T) : Option ((Int32 × Int32) ⊕ ((Int32) ⊕ (Int32))) :=
  (gA s (gP s v0 9) (gF s v0 4)).bind fun x2 =>
  if x2 ≤ v6 then
    some (.inr (.inr v3))
  else
    if v5 = 0 then
      some (.inr (.inr v3))
    else
      (gA s (gP s v0 8) (((300 : Int32) * (gF s v0 4)) + v6)).bind fun x4 =>
      if x4 = 0 then
        g_X11_framePair_139 n v0 v1 v2 v3 v4 v5 v6 s
      else
        (g_X11_apart n v0 v1 v4 v6 s).bind fun x5 =>
        if x5 = 0 then
          g_X11_framePair_139 n v0 v1 v2 v3 v4 v5 v6 s
        else
          (g_X11_isMandatory n v0 v1 v6 s).bind fun x6 =>
          if x6 = 0 then
            g_X11_framePair_139 n v0 v1 v2 v3 v4 v5 v6 s
          else
            if v3 = v2 then
              some (.inr (.inl v6))
            else
              g_X11_framePair_139 n v0 v1 v2 (v3 + (1 : Int32)) v4 v5 v6 s
set_option maxHeartbeats 1000000 in
theorem t_X11_framePair_61 {tg r : Nat → Nat} {h : hp_H} {s : st_T} {n : Nat} {v0 : Nat} {v1 : Int32} {v2 : Int32} {v3 : Int32} {v4 : Int32} {v5 : Int32} {v6 : Int32} (I : iso tg r h s) (T_v0 : tg v0 = 21) {res : (Int32 × Int32) ⊕ ((Int32) ⊕ (Int32))} (hm : g_X11_framePair_61 n v0 v1 v2 v3 v4 v5 v6 s = some res) : f_X11_framePair_61 n (r v0) v1 v2 v3 v4 v5 v6 h = some res := by
  unfold g_X11_framePair_61 at hm
  unfold f_X11_framePair_61
  have T1 : tg (gP s v0 9) = 0 := t_tg (c := 11) I T_v0 (by decide) (by decide) rfl (by decide)
  refine tr_eq0 (t_fR I T_v0 (by decide) (by decide) (by decide)) ?_
  refine tr_eq0 (t_fI I T_v0 (by decide) (by decide) rfl) ?_
  obtain ⟨x2, hx2, hm⟩ := hp_bd hm
  refine tr_eq0 (t_aI I T1 (by decide) rfl hx2) ?_
  by_cases c12 : x2 ≤ v6
  · rw [if_pos c12] at hm ⊢
    obtain rfl := Option.some.inj hm
    rfl
  · rw [if_neg c12] at hm ⊢
    by_cases c11 : v5 = 0
    · rw [if_pos c11] at hm ⊢
      obtain rfl := Option.some.inj hm
      rfl
    · rw [if_neg c11] at hm ⊢
      have T3 : tg (gP s v0 8) = 2 := t_tg (c := 11) I T_v0 (by decide) (by decide) rfl (by decide)
      refine tr_eq0 (t_fR I T_v0 (by decide) (by decide) (by decide)) ?_
      refine tr_eq0 (t_fI I T_v0 (by decide) (by decide) rfl) ?_
      obtain ⟨x4, hx4, hm⟩ := hp_bd hm
      refine tr_eq0 (t_aI I T3 (by decide) rfl hx4) ?_
      by_cases c10 : x4 = 0
      · rw [if_pos c10] at hm ⊢
        exact t_X11_framePair_139 I T_v0 hm
      · rw [if_neg c10] at hm ⊢
        obtain ⟨x5, hx5, hm⟩ := hp_bd hm
        refine tr_eq0 (t_X11_apart I T_v0 hx5) ?_
        by_cases c9 : x5 = 0
        · rw [if_pos c9] at hm ⊢
          exact t_X11_framePair_139 I T_v0 hm
        · rw [if_neg c9] at hm ⊢
          obtain ⟨x6, hx6, hm⟩ := hp_bd hm
          refine tr_eq0 (t_X11_isMandatory I T_v0 hx6) ?_
          by_cases c8 : x6 = 0
          · rw [if_pos c8] at hm ⊢
            exact t_X11_framePair_139 I T_v0 hm
          · rw [if_neg c8] at hm ⊢
            by_cases c7 : v3 = v2
            · rw [if_pos c7] at hm ⊢
              obtain rfl := Option.some.inj hm
              rfl
            · rw [if_neg c7] at hm ⊢
              exact t_X11_framePair_139 I T_v0 hm
def gL_X11_framePair_61 (n : Nat) (v0 : Nat) (v1 : Int32) (v2 : Int32) (v4 : Int32) (v5 : Int32) (s : st_T) (c : Int32 × Int32) : Option ((Int32 × Int32) ⊕ ((Int32) ⊕ (Int32))) := g_X11_framePair_61 n v0 v1 v2 c.1 v4 v5 c.2 s
theorem tl_X11_framePair_61 {tg r : Nat → Nat} {h : hp_H} {s : st_T} {n : Nat} {v0 : Nat} {v1 : Int32} {v2 : Int32} {v4 : Int32} {v5 : Int32} (I : iso tg r h s) (T_v0 : tg v0 = 21) : ∀ (k : Nat) (c : Int32 × Int32) (x : (Int32) ⊕ (Int32)), hp_lp (gL_X11_framePair_61 n v0 v1 v2 v4 v5 s) k c = some x → hp_lp (fL_X11_framePair_61 n (r v0) v1 v2 v4 v5 h) k c = some x := by
  intro k
  induction k with
  | zero => intro c x hx; exact (hp_lp_0 hx).elim
  | succ k ih =>
    intro c x hx
    obtain ⟨rr, hr, hc⟩ := hp_lp_1 hx
    have e2 := t_X11_framePair_61 I T_v0 hr
    rcases hc with ⟨s3, e3, hx3⟩ | e3
    · subst e3
      exact hp_lp_s e2 (ih _ _ hx3)
    · subst e3
      exact hp_lp_x e2
def g_X11_framePair_145 (n : Nat) (v0 : Nat) (v1 : Int32) (v2 : Int32) (v3 : Int32) (v4 : Int32) (s : st_T) : Option ((Int32 × Int32) ⊕ ((Int32 × Int32) ⊕ (Int32))) :=
  some (.inl (v3, (v4 + (1 : Int32))))
set_option maxHeartbeats 1000000 in
theorem t_X11_framePair_145 {tg r : Nat → Nat} {h : hp_H} {s : st_T} {n : Nat} {v0 : Nat} {v1 : Int32} {v2 : Int32} {v3 : Int32} {v4 : Int32} (I : iso tg r h s) (T_v0 : tg v0 = 21) {res : (Int32 × Int32) ⊕ ((Int32 × Int32) ⊕ (Int32))} (hm : g_X11_framePair_145 n v0 v1 v2 v3 v4 s = some res) : f_X11_framePair_145 n (r v0) v1 v2 v3 v4 h = some res := by
  unfold g_X11_framePair_145 at hm
  unfold f_X11_framePair_145
  obtain rfl := Option.some.inj hm
  rfl
def g_X11_framePair_53 (n : Nat) (v0 : Nat) (v1 : Int32) (v2 : Int32) (v3 : Int32) (v4 : Int32) (s0 : Int32) (s : st_T) : Option ((Int32 × Int32) ⊕ ((Int32 × Int32) ⊕ (Int32))) :=
  (hp_lp (gL_X11_framePair_61 n v0 v1 v2 v4 s0 s) n (v3, (v4 + (1 : Int32)))).bind fun x1 =>
  Sum.elim (fun y2 =>
    some (.inr (.inl (v4, y2)))) (fun y3 =>
    g_X11_framePair_145 n v0 v1 v2 y3 v4 s) x1
set_option maxHeartbeats 1000000 in
theorem t_X11_framePair_53 {tg r : Nat → Nat} {h : hp_H} {s : st_T} {n : Nat} {v0 : Nat} {v1 : Int32} {v2 : Int32} {v3 : Int32} {v4 : Int32} {s0 : Int32} (I : iso tg r h s) (T_v0 : tg v0 = 21) {res : (Int32 × Int32) ⊕ ((Int32 × Int32) ⊕ (Int32))} (hm : g_X11_framePair_53 n v0 v1 v2 v3 v4 s0 s = some res) : f_X11_framePair_53 n (r v0) v1 v2 v3 v4 s0 h = some res := by
  unfold g_X11_framePair_53 at hm
  unfold f_X11_framePair_53
  obtain ⟨x1, hx1, hm⟩ := hp_bd hm
  refine tr_eq0 (tl_X11_framePair_61 I T_v0 n _ _ hx1) ?_
  rcases x1 with y2 | y3
  · simp only [Sum.elim_inl, Sum.elim_inr] at hm ⊢
    obtain rfl := Option.some.inj hm
    rfl
  · simp only [Sum.elim_inl, Sum.elim_inr] at hm ⊢
    exact t_X11_framePair_145 I T_v0 hm
def g_X11_framePair_52 (n : Nat) (v0 : Nat) (v1 : Int32) (v2 : Int32) (v3 : Int32) (v4 : Int32) (s : st_T) : Option ((Int32 × Int32) ⊕ ((Int32 × Int32) ⊕ (Int32))) :=
  g_X11_framePair_53 n v0 v1 v2 v3 v4 (0 : Int32) s
set_option maxHeartbeats 1000000 in
theorem t_X11_framePair_52 {tg r : Nat → Nat} {h : hp_H} {s : st_T} {n : Nat} {v0 : Nat} {v1 : Int32} {v2 : Int32} {v3 : Int32} {v4 : Int32} (I : iso tg r h s) (T_v0 : tg v0 = 21) {res : (Int32 × Int32) ⊕ ((Int32 × Int32) ⊕ (Int32))} (hm : g_X11_framePair_52 n v0 v1 v2 v3 v4 s = some res) : f_X11_framePair_52 n (r v0) v1 v2 v3 v4 h = some res := by
  unfold g_X11_framePair_52 at hm
  unfold f_X11_framePair_52
  exact t_X11_framePair_53 I T_v0 hm
def g_X11_framePair_5 (n : Nat) (v0 : Nat) (v1 : Int32) (v2 : Int32) (v3 : Int32) (v4 : Int32) (s : st_T) : Option ((Int32 × Int32) ⊕ ((Int32 × Int32) ⊕ (Int32))) :=
  (gA s (gP s v0 9) (gF s v0 4)).bind fun x2 =>
  if x2 ≤ v4 then
    some (.inr (.inr v3))
  else
    (gA s (gP s v0 8) (((300 : Int32) * (gF s v0 4)) + v4)).bind fun x4 =>
    if x4 = 0 then
      g_X11_framePair_52 n v0 v1 v2 v3 v4 s
    else
      (g_X11_isMandatory n v0 v1 v4 s).bind fun x5 =>
      if x5 = 0 then
        g_X11_framePair_52 n v0 v1 v2 v3 v4 s
      else
        g_X11_framePair_53 n v0 v1 v2 v3 v4 (1 : Int32) s
set_option maxHeartbeats 1000000 in
theorem t_X11_framePair_5 {tg r : Nat → Nat} {h : hp_H} {s : st_T} {n : Nat} {v0 : Nat} {v1 : Int32} {v2 : Int32} {v3 : Int32} {v4 : Int32} (I : iso tg r h s) (T_v0 : tg v0 = 21) {res : (Int32 × Int32) ⊕ ((Int32 × Int32) ⊕ (Int32))} (hm : g_X11_framePair_5 n v0 v1 v2 v3 v4 s = some res) : f_X11_framePair_5 n (r v0) v1 v2 v3 v4 h = some res := by
  unfold g_X11_framePair_5 at hm
  unfold f_X11_framePair_5
  have T1 : tg (gP s v0 9) = 0 := t_tg (c := 11) I T_v0 (by decide) (by decide) rfl (by decide)
  refine tr_eq0 (t_fR I T_v0 (by decide) (by decide) (by decide)) ?_
  refine tr_eq0 (t_fI I T_v0 (by decide) (by decide) rfl) ?_
  obtain ⟨x2, hx2, hm⟩ := hp_bd hm
  refine tr_eq0 (t_aI I T1 (by decide) rfl hx2) ?_
  by_cases c8 : x2 ≤ v4
  · rw [if_pos c8] at hm ⊢
    obtain rfl := Option.some.inj hm
    rfl
  · rw [if_neg c8] at hm ⊢
    have T3 : tg (gP s v0 8) = 2 := t_tg (c := 11) I T_v0 (by decide) (by decide) rfl (by decide)
    refine tr_eq0 (t_fR I T_v0 (by decide) (by decide) (by decide)) ?_
    refine tr_eq0 (t_fI I T_v0 (by decide) (by decide) rfl) ?_
    obtain ⟨x4, hx4, hm⟩ := hp_bd hm
    refine tr_eq0 (t_aI I T3 (by decide) rfl hx4) ?_
    by_cases c7 : x4 = 0
    · rw [if_pos c7] at hm ⊢
      exact t_X11_framePair_52 I T_v0 hm
    · rw [if_neg c7] at hm ⊢
      obtain ⟨x5, hx5, hm⟩ := hp_bd hm
      refine tr_eq0 (t_X11_isMandatory I T_v0 hx5) ?_
      by_cases c6 : x5 = 0
      · rw [if_pos c6] at hm ⊢
        exact t_X11_framePair_52 I T_v0 hm
      · rw [if_neg c6] at hm ⊢
        exact t_X11_framePair_53 I T_v0 hm
def gL_X11_framePair_5 (n : Nat) (v0 : Nat) (v1 : Int32) (v2 : Int32) (s : st_T) (c : Int32 × Int32) : Option ((Int32 × Int32) ⊕ ((Int32 × Int32) ⊕ (Int32))) := g_X11_framePair_5 n v0 v1 v2 c.1 c.2 s
theorem tl_X11_framePair_5 {tg r : Nat → Nat} {h : hp_H} {s : st_T} {n : Nat} {v0 : Nat} {v1 : Int32} {v2 : Int32} (I : iso tg r h s) (T_v0 : tg v0 = 21) : ∀ (k : Nat) (c : Int32 × Int32) (x : (Int32 × Int32) ⊕ (Int32)), hp_lp (gL_X11_framePair_5 n v0 v1 v2 s) k c = some x → hp_lp (fL_X11_framePair_5 n (r v0) v1 v2 h) k c = some x := by
  intro k
  induction k with
  | zero => intro c x hx; exact (hp_lp_0 hx).elim
  | succ k ih =>
    intro c x hx
    obtain ⟨rr, hr, hc⟩ := hp_lp_1 hx
    have e2 := t_X11_framePair_5 I T_v0 hr
    rcases hc with ⟨s3, e3, hx3⟩ | e3
    · subst e3
      exact hp_lp_s e2 (ih _ _ hx3)
    · subst e3
      exact hp_lp_x e2
def g_X11_framePair_0 (n : Nat) (v0 : Nat) (v1 : Int32) (v2 : Int32) (s : st_T) : Option (Int32) :=
  (hp_lp (gL_X11_framePair_5 n v0 v1 v2 s) n ((0 : Int32), (0 : Int32))).bind fun x1 =>
  Sum.elim (fun y2 =>
    some (((1000 : Int32) * y2.1) + y2.2)) (fun y3 =>
    if v2 = (-1 : Int32) then
      some y3
    else
      some (-2 : Int32)) x1
set_option maxHeartbeats 1000000 in
theorem t_X11_framePair_0 {tg r : Nat → Nat} {h : hp_H} {s : st_T} {n : Nat} {v0 : Nat} {v1 : Int32} {v2 : Int32} (I : iso tg r h s) (T_v0 : tg v0 = 21) {res : Int32} (hm : g_X11_framePair_0 n v0 v1 v2 s = some res) : f_X11_framePair_0 n (r v0) v1 v2 h = some res := by
  unfold g_X11_framePair_0 at hm
  unfold f_X11_framePair_0
  obtain ⟨x1, hx1, hm⟩ := hp_bd hm
  refine tr_eq0 (tl_X11_framePair_5 I T_v0 n _ _ hx1) ?_
  rcases x1 with y2 | y3
  · simp only [Sum.elim_inl, Sum.elim_inr] at hm ⊢
    obtain rfl := Option.some.inj hm
    rfl
  · simp only [Sum.elim_inl, Sum.elim_inr] at hm ⊢
    by_cases c4 : v2 = (-1 : Int32)
    · rw [if_pos c4] at hm ⊢
      obtain rfl := Option.some.inj hm
      rfl
    · rw [if_neg c4] at hm ⊢
      obtain rfl := Option.some.inj hm
      rfl
def g_X11_framePair (n : Nat) (v0 : Nat) (v1 : Int32) (v2 : Int32) (s : st_T) : Option (Int32) := g_X11_framePair_0 n v0 v1 v2 s
theorem t_X11_framePair {tg r : Nat → Nat} {h : hp_H} {s : st_T} {n : Nat} {v0 : Nat} {v1 : Int32} {v2 : Int32} (I : iso tg r h s) (T_v0 : tg v0 = 21) {res : Int32} (hm : g_X11_framePair n v0 v1 v2 s = some res) : f_X11_framePair n (r v0) v1 v2 h = some res := by
  unfold g_X11_framePair at hm
  unfold f_X11_framePair
  refine tr_eq0 (t_ck I T_v0 (by decide)) ?_
  exact t_X11_framePair_0 I T_v0 hm
def g_X11_count_0 (n : Nat) (v0 : Nat) (v1 : Int32) (s : st_T) : Option (Int32) :=
  if v1 = (0 : Int32) then
    (gA s (gP s v0 9) (gF s v0 4)).bind fun x3 =>
    some x3
  else if v1 = (1 : Int32) then
    (gA s (gP s v0 18) (gF s v0 4)).bind fun x6 =>
    some x6
  else if v1 = (2 : Int32) then
    some (gF s v0 1)
  else if v1 = (3 : Int32) then
    some (gF s v0 80)
  else if v1 = (4 : Int32) then
    some (gF s v0 71)
  else 
    some (-1 : Int32)
set_option maxHeartbeats 1000000 in
theorem t_X11_count_0 {tg r : Nat → Nat} {h : hp_H} {s : st_T} {n : Nat} {v0 : Nat} {v1 : Int32} (I : iso tg r h s) (T_v0 : tg v0 = 21) {res : Int32} (hm : g_X11_count_0 n v0 v1 s = some res) : f_X11_count_0 n (r v0) v1 h = some res := by
  unfold g_X11_count_0 at hm
  unfold f_X11_count_0
  by_cases c1 : v1 = (0 : Int32)
  · rw [if_pos c1] at hm ⊢
    have T2 : tg (gP s v0 9) = 0 := t_tg (c := 11) I T_v0 (by decide) (by decide) rfl (by decide)
    refine tr_eq0 (t_fR I T_v0 (by decide) (by decide) (by decide)) ?_
    refine tr_eq0 (t_fI I T_v0 (by decide) (by decide) rfl) ?_
    obtain ⟨x3, hx3, hm⟩ := hp_bd hm
    refine tr_eq0 (t_aI I T2 (by decide) rfl hx3) ?_
    obtain rfl := Option.some.inj hm
    rfl
  rw [if_neg c1] at hm ⊢
  by_cases c4 : v1 = (1 : Int32)
  · rw [if_pos c4] at hm ⊢
    have T5 : tg (gP s v0 18) = 0 := t_tg (c := 11) I T_v0 (by decide) (by decide) rfl (by decide)
    refine tr_eq0 (t_fR I T_v0 (by decide) (by decide) (by decide)) ?_
    refine tr_eq0 (t_fI I T_v0 (by decide) (by decide) rfl) ?_
    obtain ⟨x6, hx6, hm⟩ := hp_bd hm
    refine tr_eq0 (t_aI I T5 (by decide) rfl hx6) ?_
    obtain rfl := Option.some.inj hm
    rfl
  rw [if_neg c4] at hm ⊢
  by_cases c7 : v1 = (2 : Int32)
  · rw [if_pos c7] at hm ⊢
    refine tr_eq0 (t_fI I T_v0 (by decide) (by decide) rfl) ?_
    obtain rfl := Option.some.inj hm
    rfl
  rw [if_neg c7] at hm ⊢
  by_cases c8 : v1 = (3 : Int32)
  · rw [if_pos c8] at hm ⊢
    refine tr_eq0 (t_fI I T_v0 (by decide) (by decide) rfl) ?_
    obtain rfl := Option.some.inj hm
    rfl
  rw [if_neg c8] at hm ⊢
  by_cases c9 : v1 = (4 : Int32)
  · rw [if_pos c9] at hm ⊢
    refine tr_eq0 (t_fI I T_v0 (by decide) (by decide) rfl) ?_
    obtain rfl := Option.some.inj hm
    rfl
  rw [if_neg c9] at hm ⊢
  obtain rfl := Option.some.inj hm
  rfl
def g_X11_count (n : Nat) (v0 : Nat) (v1 : Int32) (s : st_T) : Option (Int32) := g_X11_count_0 n v0 v1 s
theorem t_X11_count {tg r : Nat → Nat} {h : hp_H} {s : st_T} {n : Nat} {v0 : Nat} {v1 : Int32} (I : iso tg r h s) (T_v0 : tg v0 = 21) {res : Int32} (hm : g_X11_count n v0 v1 s = some res) : f_X11_count n (r v0) v1 h = some res := by
  unfold g_X11_count at hm
  unfold f_X11_count
  refine tr_eq0 (t_ck I T_v0 (by decide)) ?_
  exact t_X11_count_0 I T_v0 hm
def g_X11_statement_0 (n : Nat) (v0 : Nat) (v1 : Int32) (v2 : Int32) (s : st_T) : Option (Int32) :=
  (g_X11_isStatement n v0 v1 s).bind fun x1 =>
  if x1 = 0 then
    some (-1 : Int32)
  else
    if v2 = (0 : Int32) then
      (g_X11_at n v0 v1 s).bind fun x4 =>
      (gA s (gP s v0 10) x4).bind fun x5 =>
      some x5
    else if v2 = (1 : Int32) then
      (g_X11_at n v0 v1 s).bind fun x8 =>
      (gA s (gP s v0 15) x8).bind fun x9 =>
      some x9
    else if v2 = (2 : Int32) then
      (g_X11_at n v0 v1 s).bind fun x12 =>
      (gA s (gP s v0 13) x12).bind fun x13 =>
      some x13
    else if v2 = (3 : Int32) then
      (g_X11_hypotheses n v0 v1 s).bind fun x15 =>
      some x15
    else if v2 = (4 : Int32) then
      (g_X11_at n v0 v1 s).bind fun x18 =>
      (gA s (gP s v0 10) x18).bind fun x19 =>
      if (2 : Int32) ≤ x19 then
        (g_X11_framePair n v0 v1 (-1 : Int32) s).bind fun x20 =>
        some x20
      else
        some (0 : Int32)
    else if v2 = (5 : Int32) then
      (g_X11_at n v0 v1 s).bind fun x24 =>
      (gA s (gP s v0 17) x24).bind fun x25 =>
      some x25
    else 
      some (-1 : Int32)
set_option maxHeartbeats 1000000 in
theorem t_X11_statement_0 {tg r : Nat → Nat} {h : hp_H} {s : st_T} {n : Nat} {v0 : Nat} {v1 : Int32} {v2 : Int32} (I : iso tg r h s) (T_v0 : tg v0 = 21) {res : Int32} (hm : g_X11_statement_0 n v0 v1 v2 s = some res) : f_X11_statement_0 n (r v0) v1 v2 h = some res := by
  unfold g_X11_statement_0 at hm
  unfold f_X11_statement_0
  obtain ⟨x1, hx1, hm⟩ := hp_bd hm
  refine tr_eq0 (t_X11_isStatement I T_v0 hx1) ?_
  by_cases c26 : x1 = 0
  · rw [if_pos c26] at hm ⊢
    obtain rfl := Option.some.inj hm
    rfl
  · rw [if_neg c26] at hm ⊢
    by_cases c2 : v2 = (0 : Int32)
    · rw [if_pos c2] at hm ⊢
      have T3 : tg (gP s v0 10) = 0 := t_tg (c := 11) I T_v0 (by decide) (by decide) rfl (by decide)
      refine tr_eq0 (t_fR I T_v0 (by decide) (by decide) (by decide)) ?_
      obtain ⟨x4, hx4, hm⟩ := hp_bd hm
      refine tr_eq0 (t_X11_at I T_v0 hx4) ?_
      obtain ⟨x5, hx5, hm⟩ := hp_bd hm
      refine tr_eq0 (t_aI I T3 (by decide) rfl hx5) ?_
      obtain rfl := Option.some.inj hm
      rfl
    rw [if_neg c2] at hm ⊢
    by_cases c6 : v2 = (1 : Int32)
    · rw [if_pos c6] at hm ⊢
      have T7 : tg (gP s v0 15) = 0 := t_tg (c := 11) I T_v0 (by decide) (by decide) rfl (by decide)
      refine tr_eq0 (t_fR I T_v0 (by decide) (by decide) (by decide)) ?_
      obtain ⟨x8, hx8, hm⟩ := hp_bd hm
      refine tr_eq0 (t_X11_at I T_v0 hx8) ?_
      obtain ⟨x9, hx9, hm⟩ := hp_bd hm
      refine tr_eq0 (t_aI I T7 (by decide) rfl hx9) ?_
      obtain rfl := Option.some.inj hm
      rfl
    rw [if_neg c6] at hm ⊢
    by_cases c10 : v2 = (2 : Int32)
    · rw [if_pos c10] at hm ⊢
      have T11 : tg (gP s v0 13) = 0 := t_tg (c := 11) I T_v0 (by decide) (by decide) rfl (by decide)
      refine tr_eq0 (t_fR I T_v0 (by decide) (by decide) (by decide)) ?_
      obtain ⟨x12, hx12, hm⟩ := hp_bd hm
      refine tr_eq0 (t_X11_at I T_v0 hx12) ?_
      obtain ⟨x13, hx13, hm⟩ := hp_bd hm
      refine tr_eq0 (t_aI I T11 (by decide) rfl hx13) ?_
      obtain rfl := Option.some.inj hm
      rfl
    rw [if_neg c10] at hm ⊢
    by_cases c14 : v2 = (3 : Int32)
    · rw [if_pos c14] at hm ⊢
      obtain ⟨x15, hx15, hm⟩ := hp_bd hm
      refine tr_eq0 (t_X11_hypotheses I T_v0 hx15) ?_
      obtain rfl := Option.some.inj hm
      rfl
    rw [if_neg c14] at hm ⊢
    by_cases c16 : v2 = (4 : Int32)
    · rw [if_pos c16] at hm ⊢
      have T17 : tg (gP s v0 10) = 0 := t_tg (c := 11) I T_v0 (by decide) (by decide) rfl (by decide)
      refine tr_eq0 (t_fR I T_v0 (by decide) (by decide) (by decide)) ?_
      obtain ⟨x18, hx18, hm⟩ := hp_bd hm
      refine tr_eq0 (t_X11_at I T_v0 hx18) ?_
      obtain ⟨x19, hx19, hm⟩ := hp_bd hm
      refine tr_eq0 (t_aI I T17 (by decide) rfl hx19) ?_
      by_cases c21 : (2 : Int32) ≤ x19
      · rw [if_pos c21] at hm ⊢
        obtain ⟨x20, hx20, hm⟩ := hp_bd hm
        refine tr_eq0 (t_X11_framePair I T_v0 hx20) ?_
        obtain rfl := Option.some.inj hm
        rfl
      · rw [if_neg c21] at hm ⊢
        obtain rfl := Option.some.inj hm
        rfl
    rw [if_neg c16] at hm ⊢
    by_cases c22 : v2 = (5 : Int32)
    · rw [if_pos c22] at hm ⊢
      have T23 : tg (gP s v0 17) = 0 := t_tg (c := 11) I T_v0 (by decide) (by decide) rfl (by decide)
      refine tr_eq0 (t_fR I T_v0 (by decide) (by decide) (by decide)) ?_
      obtain ⟨x24, hx24, hm⟩ := hp_bd hm
      refine tr_eq0 (t_X11_at I T_v0 hx24) ?_
      obtain ⟨x25, hx25, hm⟩ := hp_bd hm
      refine tr_eq0 (t_aI I T23 (by decide) rfl hx25) ?_
      obtain rfl := Option.some.inj hm
      rfl
    rw [if_neg c22] at hm ⊢
    obtain rfl := Option.some.inj hm
    rfl
def g_X11_statement (n : Nat) (v0 : Nat) (v1 : Int32) (v2 : Int32) (s : st_T) : Option (Int32) := g_X11_statement_0 n v0 v1 v2 s
theorem t_X11_statement {tg r : Nat → Nat} {h : hp_H} {s : st_T} {n : Nat} {v0 : Nat} {v1 : Int32} {v2 : Int32} (I : iso tg r h s) (T_v0 : tg v0 = 21) {res : Int32} (hm : g_X11_statement n v0 v1 v2 s = some res) : f_X11_statement n (r v0) v1 v2 h = some res := by
  unfold g_X11_statement at hm
  unfold f_X11_statement
  refine tr_eq0 (t_ck I T_v0 (by decide)) ?_
  exact t_X11_statement_0 I T_v0 hm
def g_X11_symbol_0 (n : Nat) (v0 : Nat) (v1 : Int32) (v2 : Int32) (s : st_T) : Option (Int32) :=
  (g_X11_isStatement n v0 v1 s).bind fun x1 =>
  if x1 = 0 then
    some (-1 : Int32)
  else
    if v2 < 0 then
      some (-1 : Int32)
    else
      (g_X11_at n v0 v1 s).bind fun x3 =>
      (gA s (gP s v0 15) x3).bind fun x4 =>
      if v2 < x4 then
        (g_X11_at n v0 v1 s).bind fun x7 =>
        (gA s (gP s v0 14) x7).bind fun x8 =>
        (gA s (gP s v0 19) ((((4096 : Int32) * (gF s v0 4)) + x8) + v2)).bind fun x9 =>
        some x9
      else
        some (-1 : Int32)
set_option maxHeartbeats 1000000 in
theorem t_X11_symbol_0 {tg r : Nat → Nat} {h : hp_H} {s : st_T} {n : Nat} {v0 : Nat} {v1 : Int32} {v2 : Int32} (I : iso tg r h s) (T_v0 : tg v0 = 21) {res : Int32} (hm : g_X11_symbol_0 n v0 v1 v2 s = some res) : f_X11_symbol_0 n (r v0) v1 v2 h = some res := by
  unfold g_X11_symbol_0 at hm
  unfold f_X11_symbol_0
  obtain ⟨x1, hx1, hm⟩ := hp_bd hm
  refine tr_eq0 (t_X11_isStatement I T_v0 hx1) ?_
  by_cases c12 : x1 = 0
  · rw [if_pos c12] at hm ⊢
    obtain rfl := Option.some.inj hm
    rfl
  · rw [if_neg c12] at hm ⊢
    by_cases c11 : v2 < 0
    · rw [if_pos c11] at hm ⊢
      obtain rfl := Option.some.inj hm
      rfl
    · rw [if_neg c11] at hm ⊢
      have T2 : tg (gP s v0 15) = 0 := t_tg (c := 11) I T_v0 (by decide) (by decide) rfl (by decide)
      refine tr_eq0 (t_fR I T_v0 (by decide) (by decide) (by decide)) ?_
      obtain ⟨x3, hx3, hm⟩ := hp_bd hm
      refine tr_eq0 (t_X11_at I T_v0 hx3) ?_
      obtain ⟨x4, hx4, hm⟩ := hp_bd hm
      refine tr_eq0 (t_aI I T2 (by decide) rfl hx4) ?_
      by_cases c10 : v2 < x4
      · rw [if_pos c10] at hm ⊢
        have T5 : tg (gP s v0 19) = 0 := t_tg (c := 11) I T_v0 (by decide) (by decide) rfl (by decide)
        refine tr_eq0 (t_fR I T_v0 (by decide) (by decide) (by decide)) ?_
        refine tr_eq0 (t_fI I T_v0 (by decide) (by decide) rfl) ?_
        have T6 : tg (gP s v0 14) = 0 := t_tg (c := 11) I T_v0 (by decide) (by decide) rfl (by decide)
        refine tr_eq0 (t_fR I T_v0 (by decide) (by decide) (by decide)) ?_
        obtain ⟨x7, hx7, hm⟩ := hp_bd hm
        refine tr_eq0 (t_X11_at I T_v0 hx7) ?_
        obtain ⟨x8, hx8, hm⟩ := hp_bd hm
        refine tr_eq0 (t_aI I T6 (by decide) rfl hx8) ?_
        obtain ⟨x9, hx9, hm⟩ := hp_bd hm
        refine tr_eq0 (t_aI I T5 (by decide) rfl hx9) ?_
        obtain rfl := Option.some.inj hm
        rfl
      · rw [if_neg c10] at hm ⊢
        obtain rfl := Option.some.inj hm
        rfl
def g_X11_symbol (n : Nat) (v0 : Nat) (v1 : Int32) (v2 : Int32) (s : st_T) : Option (Int32) := g_X11_symbol_0 n v0 v1 v2 s
theorem t_X11_symbol {tg r : Nat → Nat} {h : hp_H} {s : st_T} {n : Nat} {v0 : Nat} {v1 : Int32} {v2 : Int32} (I : iso tg r h s) (T_v0 : tg v0 = 21) {res : Int32} (hm : g_X11_symbol n v0 v1 v2 s = some res) : f_X11_symbol n (r v0) v1 v2 h = some res := by
  unfold g_X11_symbol at hm
  unfold f_X11_symbol
  refine tr_eq0 (t_ck I T_v0 (by decide)) ?_
  exact t_X11_symbol_0 I T_v0 hm
def g_X11_name_131 (n : Nat) (s : st_T) : Option (Int32) :=
  some (-1 : Int32)
set_option maxHeartbeats 1000000 in
theorem t_X11_name_131 {tg r : Nat → Nat} {h : hp_H} {s : st_T} {n : Nat} (I : iso tg r h s) {res : Int32} (hm : g_X11_name_131 n  s = some res) : f_X11_name_131 n  h = some res := by
  unfold g_X11_name_131 at hm
  unfold f_X11_name_131
  obtain rfl := Option.some.inj hm
  rfl
def g_X11_name_119 (n : Nat) (v0 : Nat) (v3 : Int32) (v5 : Int32) (s0 : Int32) (s : st_T) : Option (Int32) :=
  if v3 < 0 then
    g_X11_name_131 n  s
  else
    if v3 < v5 then
      (gA s (gP s v0 5) ((((8192 : Int32) * (gF s v0 4)) + s0) + v3)).bind fun x2 =>
      some x2
    else
      g_X11_name_131 n  s
set_option maxHeartbeats 1000000 in
theorem t_X11_name_119 {tg r : Nat → Nat} {h : hp_H} {s : st_T} {n : Nat} {v0 : Nat} {v3 : Int32} {v5 : Int32} {s0 : Int32} (I : iso tg r h s) (T_v0 : tg v0 = 21) {res : Int32} (hm : g_X11_name_119 n v0 v3 v5 s0 s = some res) : f_X11_name_119 n (r v0) v3 v5 s0 h = some res := by
  unfold g_X11_name_119 at hm
  unfold f_X11_name_119
  by_cases c4 : v3 < 0
  · rw [if_pos c4] at hm ⊢
    exact t_X11_name_131 I  hm
  · rw [if_neg c4] at hm ⊢
    by_cases c3 : v3 < v5
    · rw [if_pos c3] at hm ⊢
      have T1 : tg (gP s v0 5) = 0 := t_tg (c := 11) I T_v0 (by decide) (by decide) rfl (by decide)
      refine tr_eq0 (t_fR I T_v0 (by decide) (by decide) (by decide)) ?_
      refine tr_eq0 (t_fI I T_v0 (by decide) (by decide) rfl) ?_
      obtain ⟨x2, hx2, hm⟩ := hp_bd hm
      refine tr_eq0 (t_aI I T1 (by decide) rfl hx2) ?_
      obtain rfl := Option.some.inj hm
      rfl
    · rw [if_neg c3] at hm ⊢
      exact t_X11_name_131 I  hm
def g_X11_name_85 (n : Nat) (v0 : Nat) (v1 : Int32) (v2 : Int32) (v3 : Int32) (s0 : Int32) (s : st_T) : Option (Int32) :=
  if v1 = 0 then
    (gA s (gP s v0 6) (((300 : Int32) * (gF s v0 4)) + v2)).bind fun x5 =>
    g_X11_name_119 n v0 v3 s0 x5 s
  else
    (g_X11_at n v0 v2 s).bind fun x2 =>
    (gA s (gP s v0 11) x2).bind fun x3 =>
    g_X11_name_119 n v0 v3 s0 x3 s
set_option maxHeartbeats 1000000 in
theorem t_X11_name_85 {tg r : Nat → Nat} {h : hp_H} {s : st_T} {n : Nat} {v0 : Nat} {v1 : Int32} {v2 : Int32} {v3 : Int32} {s0 : Int32} (I : iso tg r h s) (T_v0 : tg v0 = 21) {res : Int32} (hm : g_X11_name_85 n v0 v1 v2 v3 s0 s = some res) : f_X11_name_85 n (r v0) v1 v2 v3 s0 h = some res := by
  unfold g_X11_name_85 at hm
  unfold f_X11_name_85
  by_cases c6 : v1 = 0
  · rw [if_pos c6] at hm ⊢
    have T4 : tg (gP s v0 6) = 0 := t_tg (c := 11) I T_v0 (by decide) (by decide) rfl (by decide)
    refine tr_eq0 (t_fR I T_v0 (by decide) (by decide) (by decide)) ?_
    refine tr_eq0 (t_fI I T_v0 (by decide) (by decide) rfl) ?_
    obtain ⟨x5, hx5, hm⟩ := hp_bd hm
    refine tr_eq0 (t_aI I T4 (by decide) rfl hx5) ?_
    exact t_X11_name_119 I T_v0 hm
  · rw [if_neg c6] at hm ⊢
    have T1 : tg (gP s v0 11) = 0 := t_tg (c := 11) I T_v0 (by decide) (by decide) rfl (by decide)
    refine tr_eq0 (t_fR I T_v0 (by decide) (by decide) (by decide)) ?_
    obtain ⟨x2, hx2, hm⟩ := hp_bd hm
    refine tr_eq0 (t_X11_at I T_v0 hx2) ?_
    obtain ⟨x3, hx3, hm⟩ := hp_bd hm
    refine tr_eq0 (t_aI I T1 (by decide) rfl hx3) ?_
    exact t_X11_name_119 I T_v0 hm
def g_X11_name_44 (n : Nat) (v0 : Nat) (v1 : Int32) (v2 : Int32) (v3 : Int32) (s0 : Int32) (s : st_T) : Option (Int32) :=
  if s0 = 0 then
    some (-1 : Int32)
  else
    if v1 = 0 then
      (gA s (gP s v0 7) (((300 : Int32) * (gF s v0 4)) + v2)).bind fun x5 =>
      g_X11_name_85 n v0 v1 v2 v3 x5 s
    else
      (g_X11_at n v0 v2 s).bind fun x2 =>
      (gA s (gP s v0 12) x2).bind fun x3 =>
      g_X11_name_85 n v0 v1 v2 v3 x3 s
set_option maxHeartbeats 1000000 in
theorem t_X11_name_44 {tg r : Nat → Nat} {h : hp_H} {s : st_T} {n : Nat} {v0 : Nat} {v1 : Int32} {v2 : Int32} {v3 : Int32} {s0 : Int32} (I : iso tg r h s) (T_v0 : tg v0 = 21) {res : Int32} (hm : g_X11_name_44 n v0 v1 v2 v3 s0 s = some res) : f_X11_name_44 n (r v0) v1 v2 v3 s0 h = some res := by
  unfold g_X11_name_44 at hm
  unfold f_X11_name_44
  by_cases c7 : s0 = 0
  · rw [if_pos c7] at hm ⊢
    obtain rfl := Option.some.inj hm
    rfl
  · rw [if_neg c7] at hm ⊢
    by_cases c6 : v1 = 0
    · rw [if_pos c6] at hm ⊢
      have T4 : tg (gP s v0 7) = 0 := t_tg (c := 11) I T_v0 (by decide) (by decide) rfl (by decide)
      refine tr_eq0 (t_fR I T_v0 (by decide) (by decide) (by decide)) ?_
      refine tr_eq0 (t_fI I T_v0 (by decide) (by decide) rfl) ?_
      obtain ⟨x5, hx5, hm⟩ := hp_bd hm
      refine tr_eq0 (t_aI I T4 (by decide) rfl hx5) ?_
      exact t_X11_name_85 I T_v0 hm
    · rw [if_neg c6] at hm ⊢
      have T1 : tg (gP s v0 12) = 0 := t_tg (c := 11) I T_v0 (by decide) (by decide) rfl (by decide)
      refine tr_eq0 (t_fR I T_v0 (by decide) (by decide) (by decide)) ?_
      obtain ⟨x2, hx2, hm⟩ := hp_bd hm
      refine tr_eq0 (t_X11_at I T_v0 hx2) ?_
      obtain ⟨x3, hx3, hm⟩ := hp_bd hm
      refine tr_eq0 (t_aI I T1 (by decide) rfl hx3) ?_
      exact t_X11_name_85 I T_v0 hm
def g_X11_name_43 (n : Nat) (v0 : Nat) (v1 : Int32) (v2 : Int32) (v3 : Int32) (s : st_T) : Option (Int32) :=
  g_X11_name_44 n v0 v1 v2 v3 (0 : Int32) s
set_option maxHeartbeats 1000000 in
theorem t_X11_name_43 {tg r : Nat → Nat} {h : hp_H} {s : st_T} {n : Nat} {v0 : Nat} {v1 : Int32} {v2 : Int32} {v3 : Int32} (I : iso tg r h s) (T_v0 : tg v0 = 21) {res : Int32} (hm : g_X11_name_43 n v0 v1 v2 v3 s = some res) : f_X11_name_43 n (r v0) v1 v2 v3 h = some res := by
  unfold g_X11_name_43 at hm
  unfold f_X11_name_43
  exact t_X11_name_44 I T_v0 hm
def g_X11_name_39 (n : Nat) (v0 : Nat) (v1 : Int32) (v2 : Int32) (v3 : Int32) (s : st_T) : Option (Int32) :=
  g_X11_name_44 n v0 v1 v2 v3 (1 : Int32) s
set_option maxHeartbeats 1000000 in
theorem t_X11_name_39 {tg r : Nat → Nat} {h : hp_H} {s : st_T} {n : Nat} {v0 : Nat} {v1 : Int32} {v2 : Int32} {v3 : Int32} (I : iso tg r h s) (T_v0 : tg v0 = 21) {res : Int32} (hm : g_X11_name_39 n v0 v1 v2 v3 s = some res) : f_X11_name_39 n (r v0) v1 v2 v3 h = some res := by
  unfold g_X11_name_39 at hm
  unfold f_X11_name_39
  exact t_X11_name_44 I T_v0 hm
def g_X11_name_21 (n : Nat) (v0 : Nat) (v1 : Int32) (v2 : Int32) (v3 : Int32) (s : st_T) : Option (Int32) :=
  if v1 = (1 : Int32) then
    (gA s (gP s v0 18) (gF s v0 4)).bind fun x2 =>
    if x2 ≤ v2 then
      g_X11_name_43 n v0 v1 v2 v3 s
    else
      g_X11_name_39 n v0 v1 v2 v3 s
  else
    g_X11_name_43 n v0 v1 v2 v3 s
set_option maxHeartbeats 1000000 in
theorem t_X11_name_21 {tg r : Nat → Nat} {h : hp_H} {s : st_T} {n : Nat} {v0 : Nat} {v1 : Int32} {v2 : Int32} {v3 : Int32} (I : iso tg r h s) (T_v0 : tg v0 = 21) {res : Int32} (hm : g_X11_name_21 n v0 v1 v2 v3 s = some res) : f_X11_name_21 n (r v0) v1 v2 v3 h = some res := by
  unfold g_X11_name_21 at hm
  unfold f_X11_name_21
  by_cases c4 : v1 = (1 : Int32)
  · rw [if_pos c4] at hm ⊢
    have T1 : tg (gP s v0 18) = 0 := t_tg (c := 11) I T_v0 (by decide) (by decide) rfl (by decide)
    refine tr_eq0 (t_fR I T_v0 (by decide) (by decide) (by decide)) ?_
    refine tr_eq0 (t_fI I T_v0 (by decide) (by decide) rfl) ?_
    obtain ⟨x2, hx2, hm⟩ := hp_bd hm
    refine tr_eq0 (t_aI I T1 (by decide) rfl hx2) ?_
    by_cases c3 : x2 ≤ v2
    · rw [if_pos c3] at hm ⊢
      exact t_X11_name_43 I T_v0 hm
    · rw [if_neg c3] at hm ⊢
      exact t_X11_name_39 I T_v0 hm
  · rw [if_neg c4] at hm ⊢
    exact t_X11_name_43 I T_v0 hm
def g_X11_name_0 (n : Nat) (v0 : Nat) (v1 : Int32) (v2 : Int32) (v3 : Int32) (s : st_T) : Option (Int32) :=
  if v2 < 0 then
    g_X11_name_43 n v0 v1 v2 v3 s
  else
    if v1 = 0 then
      (gA s (gP s v0 9) (gF s v0 4)).bind fun x2 =>
      if v2 < x2 then
        g_X11_name_39 n v0 v1 v2 v3 s
      else
        g_X11_name_21 n v0 v1 v2 v3 s
    else
      g_X11_name_21 n v0 v1 v2 v3 s
set_option maxHeartbeats 1000000 in
theorem t_X11_name_0 {tg r : Nat → Nat} {h : hp_H} {s : st_T} {n : Nat} {v0 : Nat} {v1 : Int32} {v2 : Int32} {v3 : Int32} (I : iso tg r h s) (T_v0 : tg v0 = 21) {res : Int32} (hm : g_X11_name_0 n v0 v1 v2 v3 s = some res) : f_X11_name_0 n (r v0) v1 v2 v3 h = some res := by
  unfold g_X11_name_0 at hm
  unfold f_X11_name_0
  by_cases c5 : v2 < 0
  · rw [if_pos c5] at hm ⊢
    exact t_X11_name_43 I T_v0 hm
  · rw [if_neg c5] at hm ⊢
    by_cases c4 : v1 = 0
    · rw [if_pos c4] at hm ⊢
      have T1 : tg (gP s v0 9) = 0 := t_tg (c := 11) I T_v0 (by decide) (by decide) rfl (by decide)
      refine tr_eq0 (t_fR I T_v0 (by decide) (by decide) (by decide)) ?_
      refine tr_eq0 (t_fI I T_v0 (by decide) (by decide) rfl) ?_
      obtain ⟨x2, hx2, hm⟩ := hp_bd hm
      refine tr_eq0 (t_aI I T1 (by decide) rfl hx2) ?_
      by_cases c3 : v2 < x2
      · rw [if_pos c3] at hm ⊢
        exact t_X11_name_39 I T_v0 hm
      · rw [if_neg c3] at hm ⊢
        exact t_X11_name_21 I T_v0 hm
    · rw [if_neg c4] at hm ⊢
      exact t_X11_name_21 I T_v0 hm
def g_X11_name (n : Nat) (v0 : Nat) (v1 : Int32) (v2 : Int32) (v3 : Int32) (s : st_T) : Option (Int32) := g_X11_name_0 n v0 v1 v2 v3 s
theorem t_X11_name {tg r : Nat → Nat} {h : hp_H} {s : st_T} {n : Nat} {v0 : Nat} {v1 : Int32} {v2 : Int32} {v3 : Int32} (I : iso tg r h s) (T_v0 : tg v0 = 21) {res : Int32} (hm : g_X11_name n v0 v1 v2 v3 s = some res) : f_X11_name n (r v0) v1 v2 v3 h = some res := by
  unfold g_X11_name at hm
  unfold f_X11_name
  refine tr_eq0 (t_ck I T_v0 (by decide)) ?_
  exact t_X11_name_0 I T_v0 hm
def g_X11_frame_0 (n : Nat) (v0 : Nat) (v1 : Int32) (v2 : Int32) (v3 : Int32) (s : st_T) : Option (Int32) :=
  (g_X11_isKind n v0 v1 (2 : Int32) s).bind fun x1 =>
  if x1 = 0 then
    some (-1 : Int32)
  else
    if v2 < 0 then
      some (-1 : Int32)
    else
      if v2 ≤ (2 : Int32) then
        if 0 ≤ v3 then
          if v2 = 0 then
            (g_X11_hypothesis n v0 v1 v3 s).bind fun x5 =>
            some x5
          else
            (g_X11_framePair n v0 v1 v3 s).bind fun x2 =>
            if x2 = (-2 : Int32) then
              some (-2 : Int32)
            else
              if v2 = (1 : Int32) then
                some (x2 / (1000 : Int32))
              else
                some (x2 - x2 / (1000 : Int32) * (1000 : Int32))
        else
          some (-2 : Int32)
      else
        some (-1 : Int32)
set_option maxHeartbeats 1000000 in
theorem t_X11_frame_0 {tg r : Nat → Nat} {h : hp_H} {s : st_T} {n : Nat} {v0 : Nat} {v1 : Int32} {v2 : Int32} {v3 : Int32} (I : iso tg r h s) (T_v0 : tg v0 = 21) {res : Int32} (hm : g_X11_frame_0 n v0 v1 v2 v3 s = some res) : f_X11_frame_0 n (r v0) v1 v2 v3 h = some res := by
  unfold g_X11_frame_0 at hm
  unfold f_X11_frame_0
  obtain ⟨x1, hx1, hm⟩ := hp_bd hm
  refine tr_eq0 (t_X11_isKind I T_v0 hx1) ?_
  by_cases c10 : x1 = 0
  · rw [if_pos c10] at hm ⊢
    obtain rfl := Option.some.inj hm
    rfl
  · rw [if_neg c10] at hm ⊢
    by_cases c9 : v2 < 0
    · rw [if_pos c9] at hm ⊢
      obtain rfl := Option.some.inj hm
      rfl
    · rw [if_neg c9] at hm ⊢
      by_cases c8 : v2 ≤ (2 : Int32)
      · rw [if_pos c8] at hm ⊢
        by_cases c7 : 0 ≤ v3
        · rw [if_pos c7] at hm ⊢
          by_cases c6 : v2 = 0
          · rw [if_pos c6] at hm ⊢
            obtain ⟨x5, hx5, hm⟩ := hp_bd hm
            refine tr_eq0 (t_X11_hypothesis I T_v0 hx5) ?_
            obtain rfl := Option.some.inj hm
            rfl
          · rw [if_neg c6] at hm ⊢
            obtain ⟨x2, hx2, hm⟩ := hp_bd hm
            refine tr_eq0 (t_X11_framePair I T_v0 hx2) ?_
            by_cases c4 : x2 = (-2 : Int32)
            · rw [if_pos c4] at hm ⊢
              obtain rfl := Option.some.inj hm
              rfl
            · rw [if_neg c4] at hm ⊢
              by_cases c3 : v2 = (1 : Int32)
              · rw [if_pos c3] at hm ⊢
                obtain rfl := Option.some.inj hm
                rfl
              · rw [if_neg c3] at hm ⊢
                obtain rfl := Option.some.inj hm
                rfl
        · rw [if_neg c7] at hm ⊢
          obtain rfl := Option.some.inj hm
          rfl
      · rw [if_neg c8] at hm ⊢
        obtain rfl := Option.some.inj hm
        rfl
def g_X11_frame (n : Nat) (v0 : Nat) (v1 : Int32) (v2 : Int32) (v3 : Int32) (s : st_T) : Option (Int32) := g_X11_frame_0 n v0 v1 v2 v3 s
theorem t_X11_frame {tg r : Nat → Nat} {h : hp_H} {s : st_T} {n : Nat} {v0 : Nat} {v1 : Int32} {v2 : Int32} {v3 : Int32} (I : iso tg r h s) (T_v0 : tg v0 = 21) {res : Int32} (hm : g_X11_frame n v0 v1 v2 v3 s = some res) : f_X11_frame n (r v0) v1 v2 v3 h = some res := by
  unfold g_X11_frame at hm
  unfold f_X11_frame
  refine tr_eq0 (t_ck I T_v0 (by decide)) ?_
  exact t_X11_frame_0 I T_v0 hm
def g_X11_proofToken_0 (n : Nat) (v0 : Nat) (v1 : Int32) (v2 : Int32) (s : st_T) : Option (Int32) :=
  (g_X11_at n v0 v1 s).bind fun x2 =>
  (gA s (gP s v0 16) x2).bind fun x3 =>
  some ((((4096 : Int32) * (gF s v0 4)) + x3) + v2)
set_option maxHeartbeats 1000000 in
theorem t_X11_proofToken_0 {tg r : Nat → Nat} {h : hp_H} {s : st_T} {n : Nat} {v0 : Nat} {v1 : Int32} {v2 : Int32} (I : iso tg r h s) (T_v0 : tg v0 = 21) {res : Int32} (hm : g_X11_proofToken_0 n v0 v1 v2 s = some res) : f_X11_proofToken_0 n (r v0) v1 v2 h = some res := by
  unfold g_X11_proofToken_0 at hm
  unfold f_X11_proofToken_0
  refine tr_eq0 (t_fI I T_v0 (by decide) (by decide) rfl) ?_
  have T1 : tg (gP s v0 16) = 0 := t_tg (c := 11) I T_v0 (by decide) (by decide) rfl (by decide)
  refine tr_eq0 (t_fR I T_v0 (by decide) (by decide) (by decide)) ?_
  obtain ⟨x2, hx2, hm⟩ := hp_bd hm
  refine tr_eq0 (t_X11_at I T_v0 hx2) ?_
  obtain ⟨x3, hx3, hm⟩ := hp_bd hm
  refine tr_eq0 (t_aI I T1 (by decide) rfl hx3) ?_
  obtain rfl := Option.some.inj hm
  rfl
def g_X11_proofToken (n : Nat) (v0 : Nat) (v1 : Int32) (v2 : Int32) (s : st_T) : Option (Int32) := g_X11_proofToken_0 n v0 v1 v2 s
theorem t_X11_proofToken {tg r : Nat → Nat} {h : hp_H} {s : st_T} {n : Nat} {v0 : Nat} {v1 : Int32} {v2 : Int32} (I : iso tg r h s) (T_v0 : tg v0 = 21) {res : Int32} (hm : g_X11_proofToken n v0 v1 v2 s = some res) : f_X11_proofToken n (r v0) v1 v2 h = some res := by
  unfold g_X11_proofToken at hm
  unfold f_X11_proofToken
  refine tr_eq0 (t_ck I T_v0 (by decide)) ?_
  exact t_X11_proofToken_0 I T_v0 hm
def g_X11_isOne_0 (n : Nat) (v0 : Nat) (v1 : Int32) (v2 : Int32) (v3 : Int32) (s : st_T) : Option (Int32) :=
  (g_X11_proofToken n v0 v1 v2 s).bind fun x1 =>
  (gA s (gP s v0 21) x1).bind fun x3 =>
  if x3 = (1 : Int32) then
    (gA s (gP s v0 20) x1).bind fun x6 =>
    (gA s (gP s v0 5) (((8192 : Int32) * (gF s v0 4)) + x6)).bind fun x7 =>
    if x7 = v3 then
      some (1 : Int32)
    else
      some (0 : Int32)
  else
    some (0 : Int32)
set_option maxHeartbeats 1000000 in
theorem t_X11_isOne_0 {tg r : Nat → Nat} {h : hp_H} {s : st_T} {n : Nat} {v0 : Nat} {v1 : Int32} {v2 : Int32} {v3 : Int32} (I : iso tg r h s) (T_v0 : tg v0 = 21) {res : Int32} (hm : g_X11_isOne_0 n v0 v1 v2 v3 s = some res) : f_X11_isOne_0 n (r v0) v1 v2 v3 h = some res := by
  unfold g_X11_isOne_0 at hm
  unfold f_X11_isOne_0
  obtain ⟨x1, hx1, hm⟩ := hp_bd hm
  refine tr_eq0 (t_X11_proofToken I T_v0 hx1) ?_
  have T2 : tg (gP s v0 21) = 0 := t_tg (c := 11) I T_v0 (by decide) (by decide) rfl (by decide)
  refine tr_eq0 (t_fR I T_v0 (by decide) (by decide) (by decide)) ?_
  obtain ⟨x3, hx3, hm⟩ := hp_bd hm
  refine tr_eq0 (t_aI I T2 (by decide) rfl hx3) ?_
  by_cases c9 : x3 = (1 : Int32)
  · rw [if_pos c9] at hm ⊢
    have T4 : tg (gP s v0 5) = 0 := t_tg (c := 11) I T_v0 (by decide) (by decide) rfl (by decide)
    refine tr_eq0 (t_fR I T_v0 (by decide) (by decide) (by decide)) ?_
    refine tr_eq0 (t_fI I T_v0 (by decide) (by decide) rfl) ?_
    have T5 : tg (gP s v0 20) = 0 := t_tg (c := 11) I T_v0 (by decide) (by decide) rfl (by decide)
    refine tr_eq0 (t_fR I T_v0 (by decide) (by decide) (by decide)) ?_
    obtain ⟨x6, hx6, hm⟩ := hp_bd hm
    refine tr_eq0 (t_aI I T5 (by decide) rfl hx6) ?_
    obtain ⟨x7, hx7, hm⟩ := hp_bd hm
    refine tr_eq0 (t_aI I T4 (by decide) rfl hx7) ?_
    by_cases c8 : x7 = v3
    · rw [if_pos c8] at hm ⊢
      obtain rfl := Option.some.inj hm
      rfl
    · rw [if_neg c8] at hm ⊢
      obtain rfl := Option.some.inj hm
      rfl
  · rw [if_neg c9] at hm ⊢
    obtain rfl := Option.some.inj hm
    rfl
def g_X11_isOne (n : Nat) (v0 : Nat) (v1 : Int32) (v2 : Int32) (v3 : Int32) (s : st_T) : Option (Int32) := g_X11_isOne_0 n v0 v1 v2 v3 s
theorem t_X11_isOne {tg r : Nat → Nat} {h : hp_H} {s : st_T} {n : Nat} {v0 : Nat} {v1 : Int32} {v2 : Int32} {v3 : Int32} (I : iso tg r h s) (T_v0 : tg v0 = 21) {res : Int32} (hm : g_X11_isOne n v0 v1 v2 v3 s = some res) : f_X11_isOne n (r v0) v1 v2 v3 h = some res := by
  unfold g_X11_isOne at hm
  unfold f_X11_isOne
  refine tr_eq0 (t_ck I T_v0 (by decide)) ?_
  exact t_X11_isOne_0 I T_v0 hm
def g_X11_namedBy_121 (n : Nat) (v0 : Nat) (v1 : Int32) (v3 : Int32) (v4 : Int32) (v6 : Int32) (s0 : Int32) (s : st_T) : Option ((Int32 × Int32) ⊕ (Int32)) :=
  some (.inl (s0, (v6 + (1 : Int32))))
set_option maxHeartbeats 1000000 in
theorem t_X11_namedBy_121 {tg r : Nat → Nat} {h : hp_H} {s : st_T} {n : Nat} {v0 : Nat} {v1 : Int32} {v3 : Int32} {v4 : Int32} {v6 : Int32} {s0 : Int32} (I : iso tg r h s) (T_v0 : tg v0 = 21) {res : (Int32 × Int32) ⊕ (Int32)} (hm : g_X11_namedBy_121 n v0 v1 v3 v4 v6 s0 s = some res) : f_X11_namedBy_121 n (r v0) v1 v3 v4 v6 s0 h = some res := by
  unfold g_X11_namedBy_121 at hm
  unfold f_X11_namedBy_121
  obtain rfl := Option.some.inj hm
  rfl
def g_X11_namedBy_46 (n : Nat) (v0 : Nat) (v1 : Int32) (v3 : Int32) (v4 : Int32) (v5 : Int32) (v6 : Int32) (s : st_T) : Option ((Int32 × Int32) ⊕ (Int32)) :=
  (gA s (gP s v0 21) v3).bind fun x2 =>
  if x2 ≤ v6 then
    some (.inr v5)
  else
    if v5 = 0 then
      some (.inr v5)
    else
      (g_X11_at n v0 v4 s).bind fun x5 =>
      (gA s (gP s v0 11) x5).bind fun x6 =>
      (gA s (gP s v0 5) ((((8192 : Int32) * (gF s v0 4)) + x6) + v6)).bind fun x7 =>
      (gA s (gP s v0 20) v3).bind fun x10 =>
      (gA s (gP s v0 5) ((((8192 : Int32) * (gF s v0 4)) + x10) + v6)).bind fun x11 =>
      if x7 = x11 then
        g_X11_namedBy_121 n v0 v1 v3 v4 v6 (1 : Int32) s
      else
        g_X11_namedBy_121 n v0 v1 v3 v4 v6 (0 : Int32) s
set_option maxHeartbeats 1000000 in
theorem t_X11_namedBy_46 {tg r : Nat → Nat} {h : hp_H} {s : st_T} {n : Nat} {v0 : Nat} {v1 : Int32} {v3 : Int32} {v4 : Int32} {v5 : Int32} {v6 : Int32} (I : iso tg r h s) (T_v0 : tg v0 = 21) {res : (Int32 × Int32) ⊕ (Int32)} (hm : g_X11_namedBy_46 n v0 v1 v3 v4 v5 v6 s = some res) : f_X11_namedBy_46 n (r v0) v1 v3 v4 v5 v6 h = some res := by
  unfold g_X11_namedBy_46 at hm
  unfold f_X11_namedBy_46
  have T1 : tg (gP s v0 21) = 0 := t_tg (c := 11) I T_v0 (by decide) (by decide) rfl (by decide)
  refine tr_eq0 (t_fR I T_v0 (by decide) (by decide) (by decide)) ?_
  obtain ⟨x2, hx2, hm⟩ := hp_bd hm
  refine tr_eq0 (t_aI I T1 (by decide) rfl hx2) ?_
  by_cases c14 : x2 ≤ v6
  · rw [if_pos c14] at hm ⊢
    obtain rfl := Option.some.inj hm
    rfl
  · rw [if_neg c14] at hm ⊢
    by_cases c13 : v5 = 0
    · rw [if_pos c13] at hm ⊢
      obtain rfl := Option.some.inj hm
      rfl
    · rw [if_neg c13] at hm ⊢
      have T3 : tg (gP s v0 5) = 0 := t_tg (c := 11) I T_v0 (by decide) (by decide) rfl (by decide)
      refine tr_eq0 (t_fR I T_v0 (by decide) (by decide) (by decide)) ?_
      refine tr_eq0 (t_fI I T_v0 (by decide) (by decide) rfl) ?_
      have T4 : tg (gP s v0 11) = 0 := t_tg (c := 11) I T_v0 (by decide) (by decide) rfl (by decide)
      refine tr_eq0 (t_fR I T_v0 (by decide) (by decide) (by decide)) ?_
      obtain ⟨x5, hx5, hm⟩ := hp_bd hm
      refine tr_eq0 (t_X11_at I T_v0 hx5) ?_
      obtain ⟨x6, hx6, hm⟩ := hp_bd hm
      refine tr_eq0 (t_aI I T4 (by decide) rfl hx6) ?_
      obtain ⟨x7, hx7, hm⟩ := hp_bd hm
      refine tr_eq0 (t_aI I T3 (by decide) rfl hx7) ?_
      have T8 : tg (gP s v0 5) = 0 := t_tg (c := 11) I T_v0 (by decide) (by decide) rfl (by decide)
      refine tr_eq0 (t_fR I T_v0 (by decide) (by decide) (by decide)) ?_
      refine tr_eq0 (t_fI I T_v0 (by decide) (by decide) rfl) ?_
      have T9 : tg (gP s v0 20) = 0 := t_tg (c := 11) I T_v0 (by decide) (by decide) rfl (by decide)
      refine tr_eq0 (t_fR I T_v0 (by decide) (by decide) (by decide)) ?_
      obtain ⟨x10, hx10, hm⟩ := hp_bd hm
      refine tr_eq0 (t_aI I T9 (by decide) rfl hx10) ?_
      obtain ⟨x11, hx11, hm⟩ := hp_bd hm
      refine tr_eq0 (t_aI I T8 (by decide) rfl hx11) ?_
      by_cases c12 : x7 = x11
      · rw [if_pos c12] at hm ⊢
        exact t_X11_namedBy_121 I T_v0 hm
      · rw [if_neg c12] at hm ⊢
        exact t_X11_namedBy_121 I T_v0 hm
def gL_X11_namedBy_46 (n : Nat) (v0 : Nat) (v1 : Int32) (v3 : Int32) (v4 : Int32) (s : st_T) (c : Int32 × Int32) : Option ((Int32 × Int32) ⊕ (Int32)) := g_X11_namedBy_46 n v0 v1 v3 v4 c.1 c.2 s
theorem tl_X11_namedBy_46 {tg r : Nat → Nat} {h : hp_H} {s : st_T} {n : Nat} {v0 : Nat} {v1 : Int32} {v3 : Int32} {v4 : Int32} (I : iso tg r h s) (T_v0 : tg v0 = 21) : ∀ (k : Nat) (c : Int32 × Int32) (x : Int32), hp_lp (gL_X11_namedBy_46 n v0 v1 v3 v4 s) k c = some x → hp_lp (fL_X11_namedBy_46 n (r v0) v1 v3 v4 h) k c = some x := by
  intro k
  induction k with
  | zero => intro c x hx; exact (hp_lp_0 hx).elim
  | succ k ih =>
    intro c x hx
    obtain ⟨rr, hr, hc⟩ := hp_lp_1 hx
    have e2 := t_X11_namedBy_46 I T_v0 hr
    rcases hc with ⟨s3, e3, hx3⟩ | e3
    · subst e3
      exact hp_lp_s e2 (ih _ _ hx3)
    · subst e3
      exact hp_lp_x e2
def g_X11_namedBy_129 (n : Nat) (v0 : Nat) (v1 : Int32) (v3 : Int32) (v4 : Int32) (v5 : Int32) (s : st_T) : Option ((Int32) ⊕ (Int32)) :=
  if v5 = 0 then
    some (.inl (v4 + (1 : Int32)))
  else
    some (.inr v4)
set_option maxHeartbeats 1000000 in
theorem t_X11_namedBy_129 {tg r : Nat → Nat} {h : hp_H} {s : st_T} {n : Nat} {v0 : Nat} {v1 : Int32} {v3 : Int32} {v4 : Int32} {v5 : Int32} (I : iso tg r h s) (T_v0 : tg v0 = 21) {res : (Int32) ⊕ (Int32)} (hm : g_X11_namedBy_129 n v0 v1 v3 v4 v5 s = some res) : f_X11_namedBy_129 n (r v0) v1 v3 v4 v5 h = some res := by
  unfold g_X11_namedBy_129 at hm
  unfold f_X11_namedBy_129
  by_cases c1 : v5 = 0
  · rw [if_pos c1] at hm ⊢
    obtain rfl := Option.some.inj hm
    rfl
  · rw [if_neg c1] at hm ⊢
    obtain rfl := Option.some.inj hm
    rfl
def g_X11_namedBy_41 (n : Nat) (v0 : Nat) (v1 : Int32) (v3 : Int32) (v4 : Int32) (s0 : Int32) (s : st_T) : Option ((Int32) ⊕ (Int32)) :=
  (hp_lp (gL_X11_namedBy_46 n v0 v1 v3 v4 s) n (s0, (0 : Int32))).bind fun x1 =>
  g_X11_namedBy_129 n v0 v1 v3 v4 x1 s
set_option maxHeartbeats 1000000 in
theorem t_X11_namedBy_41 {tg r : Nat → Nat} {h : hp_H} {s : st_T} {n : Nat} {v0 : Nat} {v1 : Int32} {v3 : Int32} {v4 : Int32} {s0 : Int32} (I : iso tg r h s) (T_v0 : tg v0 = 21) {res : (Int32) ⊕ (Int32)} (hm : g_X11_namedBy_41 n v0 v1 v3 v4 s0 s = some res) : f_X11_namedBy_41 n (r v0) v1 v3 v4 s0 h = some res := by
  unfold g_X11_namedBy_41 at hm
  unfold f_X11_namedBy_41
  obtain ⟨x1, hx1, hm⟩ := hp_bd hm
  refine tr_eq0 (tl_X11_namedBy_46 I T_v0 n _ _ hx1) ?_
  exact t_X11_namedBy_129 I T_v0 hm
def g_X11_namedBy_10 (n : Nat) (v0 : Nat) (v1 : Int32) (v3 : Int32) (v4 : Int32) (s : st_T) : Option ((Int32) ⊕ (Int32)) :=
  if v1 ≤ v4 then
    some (.inr (-1 : Int32))
  else
    (g_X11_at n v0 v4 s).bind fun x2 =>
    (gA s (gP s v0 12) x2).bind fun x3 =>
    (gA s (gP s v0 21) v3).bind fun x5 =>
    if x3 = x5 then
      g_X11_namedBy_41 n v0 v1 v3 v4 (1 : Int32) s
    else
      g_X11_namedBy_41 n v0 v1 v3 v4 (0 : Int32) s
set_option maxHeartbeats 1000000 in
theorem t_X11_namedBy_10 {tg r : Nat → Nat} {h : hp_H} {s : st_T} {n : Nat} {v0 : Nat} {v1 : Int32} {v3 : Int32} {v4 : Int32} (I : iso tg r h s) (T_v0 : tg v0 = 21) {res : (Int32) ⊕ (Int32)} (hm : g_X11_namedBy_10 n v0 v1 v3 v4 s = some res) : f_X11_namedBy_10 n (r v0) v1 v3 v4 h = some res := by
  unfold g_X11_namedBy_10 at hm
  unfold f_X11_namedBy_10
  by_cases c7 : v1 ≤ v4
  · rw [if_pos c7] at hm ⊢
    obtain rfl := Option.some.inj hm
    rfl
  · rw [if_neg c7] at hm ⊢
    have T1 : tg (gP s v0 12) = 0 := t_tg (c := 11) I T_v0 (by decide) (by decide) rfl (by decide)
    refine tr_eq0 (t_fR I T_v0 (by decide) (by decide) (by decide)) ?_
    obtain ⟨x2, hx2, hm⟩ := hp_bd hm
    refine tr_eq0 (t_X11_at I T_v0 hx2) ?_
    obtain ⟨x3, hx3, hm⟩ := hp_bd hm
    refine tr_eq0 (t_aI I T1 (by decide) rfl hx3) ?_
    have T4 : tg (gP s v0 21) = 0 := t_tg (c := 11) I T_v0 (by decide) (by decide) rfl (by decide)
    refine tr_eq0 (t_fR I T_v0 (by decide) (by decide) (by decide)) ?_
    obtain ⟨x5, hx5, hm⟩ := hp_bd hm
    refine tr_eq0 (t_aI I T4 (by decide) rfl hx5) ?_
    by_cases c6 : x3 = x5
    · rw [if_pos c6] at hm ⊢
      exact t_X11_namedBy_41 I T_v0 hm
    · rw [if_neg c6] at hm ⊢
      exact t_X11_namedBy_41 I T_v0 hm
def gL_X11_namedBy_10 (n : Nat) (v0 : Nat) (v1 : Int32) (v3 : Int32) (s : st_T) (c : Int32) : Option ((Int32) ⊕ (Int32)) := g_X11_namedBy_10 n v0 v1 v3 c s
theorem tl_X11_namedBy_10 {tg r : Nat → Nat} {h : hp_H} {s : st_T} {n : Nat} {v0 : Nat} {v1 : Int32} {v3 : Int32} (I : iso tg r h s) (T_v0 : tg v0 = 21) : ∀ (k : Nat) (c : Int32) (x : Int32), hp_lp (gL_X11_namedBy_10 n v0 v1 v3 s) k c = some x → hp_lp (fL_X11_namedBy_10 n (r v0) v1 v3 h) k c = some x := by
  intro k
  induction k with
  | zero => intro c x hx; exact (hp_lp_0 hx).elim
  | succ k ih =>
    intro c x hx
    obtain ⟨rr, hr, hc⟩ := hp_lp_1 hx
    have e2 := t_X11_namedBy_10 I T_v0 hr
    rcases hc with ⟨s3, e3, hx3⟩ | e3
    · subst e3
      exact hp_lp_s e2 (ih _ _ hx3)
    · subst e3
      exact hp_lp_x e2
def g_X11_namedBy_0 (n : Nat) (v0 : Nat) (v1 : Int32) (v2 : Int32) (s : st_T) : Option (Int32) :=
  (g_X11_proofToken n v0 v1 v2 s).bind fun x1 =>
  (hp_lp (gL_X11_namedBy_10 n v0 v1 x1 s) n (0 : Int32)).bind fun x2 =>
  some x2
set_option maxHeartbeats 1000000 in
theorem t_X11_namedBy_0 {tg r : Nat → Nat} {h : hp_H} {s : st_T} {n : Nat} {v0 : Nat} {v1 : Int32} {v2 : Int32} (I : iso tg r h s) (T_v0 : tg v0 = 21) {res : Int32} (hm : g_X11_namedBy_0 n v0 v1 v2 s = some res) : f_X11_namedBy_0 n (r v0) v1 v2 h = some res := by
  unfold g_X11_namedBy_0 at hm
  unfold f_X11_namedBy_0
  obtain ⟨x1, hx1, hm⟩ := hp_bd hm
  refine tr_eq0 (t_X11_proofToken I T_v0 hx1) ?_
  obtain ⟨x2, hx2, hm⟩ := hp_bd hm
  refine tr_eq0 (tl_X11_namedBy_10 I T_v0 n _ _ hx2) ?_
  obtain rfl := Option.some.inj hm
  rfl
def g_X11_namedBy (n : Nat) (v0 : Nat) (v1 : Int32) (v2 : Int32) (s : st_T) : Option (Int32) := g_X11_namedBy_0 n v0 v1 v2 s
theorem t_X11_namedBy {tg r : Nat → Nat} {h : hp_H} {s : st_T} {n : Nat} {v0 : Nat} {v1 : Int32} {v2 : Int32} (I : iso tg r h s) (T_v0 : tg v0 = 21) {res : Int32} (hm : g_X11_namedBy n v0 v1 v2 s = some res) : f_X11_namedBy n (r v0) v1 v2 h = some res := by
  unfold g_X11_namedBy at hm
  unfold f_X11_namedBy
  refine tr_eq0 (t_ck I T_v0 (by decide)) ?_
  exact t_X11_namedBy_0 I T_v0 hm
def g_X11_isCompressed_0 (n : Nat) (v0 : Nat) (v1 : Int32) (s : st_T) : Option (Int32) :=
  (g_X11_at n v0 v1 s).bind fun x2 =>
  (gA s (gP s v0 17) x2).bind fun x3 =>
  if x3 ≤ 0 then
    some (0 : Int32)
  else
    (g_X11_isOne n v0 v1 (0 : Int32) (40 : Int32) s).bind fun x4 =>
    if x4 = 0 then
      some (0 : Int32)
    else
      some (1 : Int32)
set_option maxHeartbeats 1000000 in
theorem t_X11_isCompressed_0 {tg r : Nat → Nat} {h : hp_H} {s : st_T} {n : Nat} {v0 : Nat} {v1 : Int32} (I : iso tg r h s) (T_v0 : tg v0 = 21) {res : Int32} (hm : g_X11_isCompressed_0 n v0 v1 s = some res) : f_X11_isCompressed_0 n (r v0) v1 h = some res := by
  unfold g_X11_isCompressed_0 at hm
  unfold f_X11_isCompressed_0
  have T1 : tg (gP s v0 17) = 0 := t_tg (c := 11) I T_v0 (by decide) (by decide) rfl (by decide)
  refine tr_eq0 (t_fR I T_v0 (by decide) (by decide) (by decide)) ?_
  obtain ⟨x2, hx2, hm⟩ := hp_bd hm
  refine tr_eq0 (t_X11_at I T_v0 hx2) ?_
  obtain ⟨x3, hx3, hm⟩ := hp_bd hm
  refine tr_eq0 (t_aI I T1 (by decide) rfl hx3) ?_
  by_cases c6 : x3 ≤ 0
  · rw [if_pos c6] at hm ⊢
    obtain rfl := Option.some.inj hm
    rfl
  · rw [if_neg c6] at hm ⊢
    obtain ⟨x4, hx4, hm⟩ := hp_bd hm
    refine tr_eq0 (t_X11_isOne I T_v0 hx4) ?_
    by_cases c5 : x4 = 0
    · rw [if_pos c5] at hm ⊢
      obtain rfl := Option.some.inj hm
      rfl
    · rw [if_neg c5] at hm ⊢
      obtain rfl := Option.some.inj hm
      rfl
def g_X11_isCompressed (n : Nat) (v0 : Nat) (v1 : Int32) (s : st_T) : Option (Int32) := g_X11_isCompressed_0 n v0 v1 s
theorem t_X11_isCompressed {tg r : Nat → Nat} {h : hp_H} {s : st_T} {n : Nat} {v0 : Nat} {v1 : Int32} (I : iso tg r h s) (T_v0 : tg v0 = 21) {res : Int32} (hm : g_X11_isCompressed n v0 v1 s = some res) : f_X11_isCompressed n (r v0) v1 h = some res := by
  unfold g_X11_isCompressed at hm
  unfold f_X11_isCompressed
  refine tr_eq0 (t_ck I T_v0 (by decide)) ?_
  exact t_X11_isCompressed_0 I T_v0 hm
def g_X11_listEnd_2 (n : Nat) (v0 : Nat) (v1 : Int32) (v2 : Int32) (s : st_T) : Option ((Int32) ⊕ (Int32)) :=
  (g_X11_at n v0 v1 s).bind fun x2 =>
  (gA s (gP s v0 17) x2).bind fun x3 =>
  if x3 ≤ v2 then
    some (.inr v2)
  else
    (g_X11_isOne n v0 v1 v2 (41 : Int32) s).bind fun x4 =>
    if x4 = 0 then
      some (.inl (v2 + (1 : Int32)))
    else
      some (.inr v2)
set_option maxHeartbeats 1000000 in
theorem t_X11_listEnd_2 {tg r : Nat → Nat} {h : hp_H} {s : st_T} {n : Nat} {v0 : Nat} {v1 : Int32} {v2 : Int32} (I : iso tg r h s) (T_v0 : tg v0 = 21) {res : (Int32) ⊕ (Int32)} (hm : g_X11_listEnd_2 n v0 v1 v2 s = some res) : f_X11_listEnd_2 n (r v0) v1 v2 h = some res := by
  unfold g_X11_listEnd_2 at hm
  unfold f_X11_listEnd_2
  have T1 : tg (gP s v0 17) = 0 := t_tg (c := 11) I T_v0 (by decide) (by decide) rfl (by decide)
  refine tr_eq0 (t_fR I T_v0 (by decide) (by decide) (by decide)) ?_
  obtain ⟨x2, hx2, hm⟩ := hp_bd hm
  refine tr_eq0 (t_X11_at I T_v0 hx2) ?_
  obtain ⟨x3, hx3, hm⟩ := hp_bd hm
  refine tr_eq0 (t_aI I T1 (by decide) rfl hx3) ?_
  by_cases c6 : x3 ≤ v2
  · rw [if_pos c6] at hm ⊢
    obtain rfl := Option.some.inj hm
    rfl
  · rw [if_neg c6] at hm ⊢
    obtain ⟨x4, hx4, hm⟩ := hp_bd hm
    refine tr_eq0 (t_X11_isOne I T_v0 hx4) ?_
    by_cases c5 : x4 = 0
    · rw [if_pos c5] at hm ⊢
      obtain rfl := Option.some.inj hm
      rfl
    · rw [if_neg c5] at hm ⊢
      obtain rfl := Option.some.inj hm
      rfl
def gL_X11_listEnd_2 (n : Nat) (v0 : Nat) (v1 : Int32) (s : st_T) (c : Int32) : Option ((Int32) ⊕ (Int32)) := g_X11_listEnd_2 n v0 v1 c s
theorem tl_X11_listEnd_2 {tg r : Nat → Nat} {h : hp_H} {s : st_T} {n : Nat} {v0 : Nat} {v1 : Int32} (I : iso tg r h s) (T_v0 : tg v0 = 21) : ∀ (k : Nat) (c : Int32) (x : Int32), hp_lp (gL_X11_listEnd_2 n v0 v1 s) k c = some x → hp_lp (fL_X11_listEnd_2 n (r v0) v1 h) k c = some x := by
  intro k
  induction k with
  | zero => intro c x hx; exact (hp_lp_0 hx).elim
  | succ k ih =>
    intro c x hx
    obtain ⟨rr, hr, hc⟩ := hp_lp_1 hx
    have e2 := t_X11_listEnd_2 I T_v0 hr
    rcases hc with ⟨s3, e3, hx3⟩ | e3
    · subst e3
      exact hp_lp_s e2 (ih _ _ hx3)
    · subst e3
      exact hp_lp_x e2
def g_X11_listEnd_0 (n : Nat) (v0 : Nat) (v1 : Int32) (s : st_T) : Option (Int32) :=
  (hp_lp (gL_X11_listEnd_2 n v0 v1 s) n (1 : Int32)).bind fun x1 =>
  some x1
set_option maxHeartbeats 1000000 in
theorem t_X11_listEnd_0 {tg r : Nat → Nat} {h : hp_H} {s : st_T} {n : Nat} {v0 : Nat} {v1 : Int32} (I : iso tg r h s) (T_v0 : tg v0 = 21) {res : Int32} (hm : g_X11_listEnd_0 n v0 v1 s = some res) : f_X11_listEnd_0 n (r v0) v1 h = some res := by
  unfold g_X11_listEnd_0 at hm
  unfold f_X11_listEnd_0
  obtain ⟨x1, hx1, hm⟩ := hp_bd hm
  refine tr_eq0 (tl_X11_listEnd_2 I T_v0 n _ _ hx1) ?_
  obtain rfl := Option.some.inj hm
  rfl
def g_X11_listEnd (n : Nat) (v0 : Nat) (v1 : Int32) (s : st_T) : Option (Int32) := g_X11_listEnd_0 n v0 v1 s
theorem t_X11_listEnd {tg r : Nat → Nat} {h : hp_H} {s : st_T} {n : Nat} {v0 : Nat} {v1 : Int32} (I : iso tg r h s) (T_v0 : tg v0 = 21) {res : Int32} (hm : g_X11_listEnd n v0 v1 s = some res) : f_X11_listEnd n (r v0) v1 h = some res := by
  unfold g_X11_listEnd at hm
  unfold f_X11_listEnd
  refine tr_eq0 (t_ck I T_v0 (by decide)) ?_
  exact t_X11_listEnd_0 I T_v0 hm
abbrev eX_X11_takeLetters_13 (x : st_T) (h2 : hp_H) : hp_H := (fun y => h2) x
abbrev sX_X11_takeLetters_13 (x : st_T) : st_T := (fun y => y) x
abbrev eR_X11_takeLetters_13 (x : (Int32 × st_T) ⊕ (st_T)) (h2 : hp_H) : (Int32 × hp_H) ⊕ (hp_H) := Sum.elim (fun y => .inl (y.1, h2)) (fun y => .inr (eX_X11_takeLetters_13 y h2)) x
abbrev sR_X11_takeLetters_13 (x : (Int32 × st_T) ⊕ (st_T)) : st_T := Sum.elim (fun y => y.2) sX_X11_takeLetters_13 x
abbrev eX_X11_takeLetters_37 (x : st_T) (h2 : hp_H) : hp_H := (fun y => h2) x
abbrev sX_X11_takeLetters_37 (x : st_T) : st_T := (fun y => y) x
abbrev eR_X11_takeLetters_37 (x : (Int32 × st_T) ⊕ (st_T)) (h2 : hp_H) : (Int32 × hp_H) ⊕ (hp_H) := Sum.elim (fun y => .inl (y.1, h2)) (fun y => .inr (eX_X11_takeLetters_37 y h2)) x
abbrev sR_X11_takeLetters_37 (x : (Int32 × st_T) ⊕ (st_T)) : st_T := Sum.elim (fun y => y.2) sX_X11_takeLetters_37 x
def g_X11_takeLetters_37 (n : Nat) (v0 : Nat) (v1 : Int32) (v2 : Int32) (v3 : Int32) (v4 : Int32) (s : st_T) : Option ((Int32 × st_T) ⊕ (st_T)) :=
  (gA s (gP s v0 21) v3).bind fun x2 =>
  if x2 ≤ v4 then
    some (.inr s)
  else
    (gA s (gP s v0 20) v3).bind fun x6 =>
    (gA s (gP s v0 5) ((((8192 : Int32) * (gF s v0 4)) + x6) + v4)).bind fun x7 =>
    (uA 0 s (gP s v0 47) (gF s v0 48) x7).bind fun w8 =>
    (wF w8 v0 48 ((gF w8 v0 48) + (1 : Int32))).bind fun w9 =>
    some (.inl ((v4 + (1 : Int32)), w9))
set_option maxHeartbeats 1000000 in
theorem t_X11_takeLetters_37 {tg r : Nat → Nat} {h hb : hp_H} {s sb : st_T} {n : Nat} {v0 : Nat} {v1 : Int32} {v2 : Int32} {v3 : Int32} {v4 : Int32} (I : iso tg r h s) (F : isf tg r hb h sb s) (T_v0 : tg v0 = 21) {res : (Int32 × st_T) ⊕ (st_T)} (hm : g_X11_takeLetters_37 n v0 v1 v2 v3 v4 s = some res) : ∃ h2, f_X11_takeLetters_37 n (r v0) v1 v2 v3 v4 h = some (eR_X11_takeLetters_37 res h2) ∧ iso tg r h2 (sR_X11_takeLetters_37 res) ∧ isf tg r hb h2 sb (sR_X11_takeLetters_37 res) := by
  unfold g_X11_takeLetters_37 at hm
  unfold f_X11_takeLetters_37
  have T1 : tg (gP s v0 21) = 0 := t_tg (c := 11) I T_v0 (by decide) (by decide) rfl (by decide)
  refine tr_eq (t_fR I T_v0 (by decide) (by decide) (by decide)) ?_
  obtain ⟨x2, hx2, hm⟩ := hp_bd hm
  refine tr_eq (t_aI I T1 (by decide) rfl hx2) ?_
  by_cases c10 : x2 ≤ v4
  · rw [if_pos c10] at hm ⊢
    obtain rfl := Option.some.inj hm
    exact ⟨_, rfl, I, F⟩
  · rw [if_neg c10] at hm ⊢
    have T3 : tg (gP s v0 47) = 0 := t_tg (c := 11) I T_v0 (by decide) (by decide) rfl (by decide)
    refine tr_eq (t_fR I T_v0 (by decide) (by decide) (by decide)) ?_
    refine tr_eq (t_fI I T_v0 (by decide) (by decide) rfl) ?_
    have T4 : tg (gP s v0 5) = 0 := t_tg (c := 11) I T_v0 (by decide) (by decide) rfl (by decide)
    refine tr_eq (t_fR I T_v0 (by decide) (by decide) (by decide)) ?_
    refine tr_eq (t_fI I T_v0 (by decide) (by decide) rfl) ?_
    have T5 : tg (gP s v0 20) = 0 := t_tg (c := 11) I T_v0 (by decide) (by decide) rfl (by decide)
    refine tr_eq (t_fR I T_v0 (by decide) (by decide) (by decide)) ?_
    obtain ⟨x6, hx6, hm⟩ := hp_bd hm
    refine tr_eq (t_aI I T5 (by decide) rfl hx6) ?_
    obtain ⟨x7, hx7, hm⟩ := hp_bd hm
    refine tr_eq (t_aI I T4 (by decide) rfl hx7) ?_
    obtain ⟨w8, hw8, hm⟩ := hp_bd hm
    obtain ⟨_, e2, I, F⟩ := t_sI I F T3 (by decide) rfl hw8
    refine tr_eq e2 ?_
    refine tr_eq (t_fI I T_v0 (by decide) (by decide) rfl) ?_
    obtain ⟨w9, hw9, hm⟩ := hp_bd hm
    obtain ⟨_, e2, I, F⟩ := t_wF (c := 11) (k := 48) I F T_v0 (by decide) (by decide) rfl hw9
    refine tr_eq e2 ?_
    obtain rfl := Option.some.inj hm
    exact ⟨_, rfl, I, F⟩
def gL_X11_takeLetters_37 (n : Nat) (v0 : Nat) (v1 : Int32) (v2 : Int32) (v3 : Int32) (c : Int32 × st_T) : Option ((Int32 × st_T) ⊕ (st_T)) := g_X11_takeLetters_37 n v0 v1 v2 v3 c.1 c.2
theorem tl_X11_takeLetters_37 {tg r : Nat → Nat} {hb : hp_H} {sb : st_T} {n : Nat} {v0 : Nat} {v1 : Int32} {v2 : Int32} {v3 : Int32} (T_v0 : tg v0 = 21) : ∀ (k : Nat) (c0 : Int32) (h : hp_H) (s : st_T) (x : st_T), iso tg r h s → isf tg r hb h sb s → hp_lp (gL_X11_takeLetters_37 n v0 v1 v2 v3) k (c0, s) = some x → ∃ h2, hp_lp (fL_X11_takeLetters_37 n (r v0) v1 v2 v3) k (c0, h) = some (eX_X11_takeLetters_37 x h2) ∧ iso tg r h2 (sX_X11_takeLetters_37 x) ∧ isf tg r hb h2 sb (sX_X11_takeLetters_37 x) := by
  intro k
  induction k with
  | zero => intro c0 h s x I F hx; exact (hp_lp_0 hx).elim
  | succ k ih =>
    intro c0 h s x I F hx
    obtain ⟨rr, hr, hc⟩ := hp_lp_1 hx
    obtain ⟨h2, e2, I2, F2⟩ := t_X11_takeLetters_37 I F T_v0 hr
    rcases hc with ⟨s3, e3, hx3⟩ | e3
    · subst e3
      obtain ⟨h3, e4, I3, F3⟩ := ih _ h2 _ x I2 F2 hx3
      exact ⟨h3, hp_lp_s e2 e4, I3, F3⟩
    · subst e3
      exact ⟨h2, hp_lp_x e2, I2, F2⟩
def g_X11_takeLetters_13 (n : Nat) (v0 : Nat) (v1 : Int32) (v2 : Int32) (s : st_T) : Option ((Int32 × st_T) ⊕ (st_T)) :=
  (g_X11_at n v0 v1 s).bind fun x2 =>
  (gA s (gP s v0 17) x2).bind fun x3 =>
  if x3 ≤ v2 then
    some (.inr s)
  else
    (g_X11_proofToken n v0 v1 v2 s).bind fun x4 =>
    (hp_lp (gL_X11_takeLetters_37 n v0 v1 v2 x4) n ((0 : Int32), s)).bind fun x5 =>
    some (.inl ((v2 + (1 : Int32)), x5))
set_option maxHeartbeats 1000000 in
theorem t_X11_takeLetters_13 {tg r : Nat → Nat} {h hb : hp_H} {s sb : st_T} {n : Nat} {v0 : Nat} {v1 : Int32} {v2 : Int32} (I : iso tg r h s) (F : isf tg r hb h sb s) (T_v0 : tg v0 = 21) {res : (Int32 × st_T) ⊕ (st_T)} (hm : g_X11_takeLetters_13 n v0 v1 v2 s = some res) : ∃ h2, f_X11_takeLetters_13 n (r v0) v1 v2 h = some (eR_X11_takeLetters_13 res h2) ∧ iso tg r h2 (sR_X11_takeLetters_13 res) ∧ isf tg r hb h2 sb (sR_X11_takeLetters_13 res) := by
  unfold g_X11_takeLetters_13 at hm
  unfold f_X11_takeLetters_13
  have T1 : tg (gP s v0 17) = 0 := t_tg (c := 11) I T_v0 (by decide) (by decide) rfl (by decide)
  refine tr_eq (t_fR I T_v0 (by decide) (by decide) (by decide)) ?_
  obtain ⟨x2, hx2, hm⟩ := hp_bd hm
  refine tr_eq (t_X11_at I T_v0 hx2) ?_
  obtain ⟨x3, hx3, hm⟩ := hp_bd hm
  refine tr_eq (t_aI I T1 (by decide) rfl hx3) ?_
  by_cases c7 : x3 ≤ v2
  · rw [if_pos c7] at hm ⊢
    obtain rfl := Option.some.inj hm
    exact ⟨_, rfl, I, F⟩
  · rw [if_neg c7] at hm ⊢
    obtain ⟨x4, hx4, hm⟩ := hp_bd hm
    refine tr_eq (t_X11_proofToken I T_v0 hx4) ?_
    obtain ⟨x5, hx5, hm⟩ := hp_bd hm
    obtain ⟨_, e2, I, F⟩ := tl_X11_takeLetters_37 T_v0 n _ _ _ _ I F hx5
    refine tr_eq e2 ?_
    try dsimp only [eX_X11_takeLetters_37]
    replace I : iso tg _ _ x5 := I
    replace F : isf tg _ _ _ _ x5 := F
    obtain rfl := Option.some.inj hm
    exact ⟨_, rfl, I, F⟩
def gL_X11_takeLetters_13 (n : Nat) (v0 : Nat) (v1 : Int32) (c : Int32 × st_T) : Option ((Int32 × st_T) ⊕ (st_T)) := g_X11_takeLetters_13 n v0 v1 c.1 c.2
theorem tl_X11_takeLetters_13 {tg r : Nat → Nat} {hb : hp_H} {sb : st_T} {n : Nat} {v0 : Nat} {v1 : Int32} (T_v0 : tg v0 = 21) : ∀ (k : Nat) (c0 : Int32) (h : hp_H) (s : st_T) (x : st_T), iso tg r h s → isf tg r hb h sb s → hp_lp (gL_X11_takeLetters_13 n v0 v1) k (c0, s) = some x → ∃ h2, hp_lp (fL_X11_takeLetters_13 n (r v0) v1) k (c0, h) = some (eX_X11_takeLetters_13 x h2) ∧ iso tg r h2 (sX_X11_takeLetters_13 x) ∧ isf tg r hb h2 sb (sX_X11_takeLetters_13 x) := by
  intro k
  induction k with
  | zero => intro c0 h s x I F hx; exact (hp_lp_0 hx).elim
  | succ k ih =>
    intro c0 h s x I F hx
    obtain ⟨rr, hr, hc⟩ := hp_lp_1 hx
    obtain ⟨h2, e2, I2, F2⟩ := t_X11_takeLetters_13 I F T_v0 hr
    rcases hc with ⟨s3, e3, hx3⟩ | e3
    · subst e3
      obtain ⟨h3, e4, I3, F3⟩ := ih _ h2 _ x I2 F2 hx3
      exact ⟨h3, hp_lp_s e2 e4, I3, F3⟩
    · subst e3
      exact ⟨h2, hp_lp_x e2, I2, F2⟩
def g_X11_takeLetters_0 (n : Nat) (v0 : Nat) (v1 : Int32) (s : st_T) : Option (st_T) :=
  (wF s v0 48 (0 : Int32)).bind fun w1 =>
  (g_X11_listEnd n v0 v1 w1).bind fun x2 =>
  (hp_lp (gL_X11_takeLetters_13 n v0 v1) n ((x2 + (1 : Int32)), w1)).bind fun x3 =>
  some x3
set_option maxHeartbeats 1000000 in
theorem t_X11_takeLetters_0 {tg r : Nat → Nat} {h hb : hp_H} {s sb : st_T} {n : Nat} {v0 : Nat} {v1 : Int32} (I : iso tg r h s) (F : isf tg r hb h sb s) (T_v0 : tg v0 = 21) {res : st_T} (hm : g_X11_takeLetters_0 n v0 v1 s = some res) : ∃ h2, f_X11_takeLetters_0 n (r v0) v1 h = some (h2) ∧ iso tg r h2 res ∧ isf tg r hb h2 sb res := by
  unfold g_X11_takeLetters_0 at hm
  unfold f_X11_takeLetters_0
  obtain ⟨w1, hw1, hm⟩ := hp_bd hm
  obtain ⟨_, e2, I, F⟩ := t_wF (c := 11) (k := 48) I F T_v0 (by decide) (by decide) rfl hw1
  refine tr_eq e2 ?_
  obtain ⟨x2, hx2, hm⟩ := hp_bd hm
  refine tr_eq (t_X11_listEnd I T_v0 hx2) ?_
  obtain ⟨x3, hx3, hm⟩ := hp_bd hm
  obtain ⟨_, e2, I, F⟩ := tl_X11_takeLetters_13 T_v0 n _ _ _ _ I F hx3
  refine tr_eq e2 ?_
  try dsimp only [eX_X11_takeLetters_13]
  replace I : iso tg _ _ x3 := I
  replace F : isf tg _ _ _ _ x3 := F
  obtain rfl := Option.some.inj hm
  exact ⟨_, rfl, I, F⟩
def g_X11_takeLetters (n : Nat) (v0 : Nat) (v1 : Int32) (s : st_T) : Option (st_T) := g_X11_takeLetters_0 n v0 v1 s
theorem t_X11_takeLetters {tg r : Nat → Nat} {h hb : hp_H} {s sb : st_T} {n : Nat} {v0 : Nat} {v1 : Int32} (I : iso tg r h s) (F : isf tg r hb h sb s) (T_v0 : tg v0 = 21) {res : st_T} (hm : g_X11_takeLetters n v0 v1 s = some res) : ∃ h2, f_X11_takeLetters n (r v0) v1 h = some (h2) ∧ iso tg r h2 res ∧ isf tg r hb h2 sb res := by
  unfold g_X11_takeLetters at hm
  unfold f_X11_takeLetters
  refine tr_eq (t_ck I T_v0 (by decide)) ?_
  exact t_X11_takeLetters_0 I F T_v0 hm
def g_X11_isOpen_38 (n : Nat) (v0 : Nat) (v1 : Int32) (v3 : Int32) (s0 : Int32) (s : st_T) : Option ((Int32 × Int32) ⊕ (Int32)) :=
  some (.inl (s0, (v3 + (1 : Int32))))
set_option maxHeartbeats 1000000 in
theorem t_X11_isOpen_38 {tg r : Nat → Nat} {h : hp_H} {s : st_T} {n : Nat} {v0 : Nat} {v1 : Int32} {v3 : Int32} {s0 : Int32} (I : iso tg r h s) (T_v0 : tg v0 = 21) {res : (Int32 × Int32) ⊕ (Int32)} (hm : g_X11_isOpen_38 n v0 v1 v3 s0 s = some res) : f_X11_isOpen_38 n (r v0) v1 v3 s0 h = some res := by
  unfold g_X11_isOpen_38 at hm
  unfold f_X11_isOpen_38
  obtain rfl := Option.some.inj hm
  rfl
def g_X11_isOpen_33 (n : Nat) (v0 : Nat) (v1 : Int32) (v3 : Int32) (s : st_T) : Option ((Int32 × Int32) ⊕ (Int32)) :=
  g_X11_isOpen_38 n v0 v1 v3 (1 : Int32) s
set_option maxHeartbeats 1000000 in
theorem t_X11_isOpen_33 {tg r : Nat → Nat} {h : hp_H} {s : st_T} {n : Nat} {v0 : Nat} {v1 : Int32} {v3 : Int32} (I : iso tg r h s) (T_v0 : tg v0 = 21) {res : (Int32 × Int32) ⊕ (Int32)} (hm : g_X11_isOpen_33 n v0 v1 v3 s = some res) : f_X11_isOpen_33 n (r v0) v1 v3 h = some res := by
  unfold g_X11_isOpen_33 at hm
  unfold f_X11_isOpen_33
  exact t_X11_isOpen_38 I T_v0 hm
def g_X11_isOpen_4 (n : Nat) (v0 : Nat) (v1 : Int32) (v2 : Int32) (v3 : Int32) (s : st_T) : Option ((Int32 × Int32) ⊕ (Int32)) :=
  (g_X11_at n v0 v1 s).bind fun x2 =>
  (gA s (gP s v0 17) x2).bind fun x3 =>
  if x3 ≤ v3 then
    some (.inr v2)
  else
    if v2 = 0 then
      (g_X11_isOne n v0 v1 v3 (63 : Int32) s).bind fun x4 =>
      if x4 = 0 then
        g_X11_isOpen_38 n v0 v1 v3 (0 : Int32) s
      else
        g_X11_isOpen_33 n v0 v1 v3 s
    else
      g_X11_isOpen_33 n v0 v1 v3 s
set_option maxHeartbeats 1000000 in
theorem t_X11_isOpen_4 {tg r : Nat → Nat} {h : hp_H} {s : st_T} {n : Nat} {v0 : Nat} {v1 : Int32} {v2 : Int32} {v3 : Int32} (I : iso tg r h s) (T_v0 : tg v0 = 21) {res : (Int32 × Int32) ⊕ (Int32)} (hm : g_X11_isOpen_4 n v0 v1 v2 v3 s = some res) : f_X11_isOpen_4 n (r v0) v1 v2 v3 h = some res := by
  unfold g_X11_isOpen_4 at hm
  unfold f_X11_isOpen_4
  have T1 : tg (gP s v0 17) = 0 := t_tg (c := 11) I T_v0 (by decide) (by decide) rfl (by decide)
  refine tr_eq0 (t_fR I T_v0 (by decide) (by decide) (by decide)) ?_
  obtain ⟨x2, hx2, hm⟩ := hp_bd hm
  refine tr_eq0 (t_X11_at I T_v0 hx2) ?_
  obtain ⟨x3, hx3, hm⟩ := hp_bd hm
  refine tr_eq0 (t_aI I T1 (by decide) rfl hx3) ?_
  by_cases c7 : x3 ≤ v3
  · rw [if_pos c7] at hm ⊢
    obtain rfl := Option.some.inj hm
    rfl
  · rw [if_neg c7] at hm ⊢
    by_cases c6 : v2 = 0
    · rw [if_pos c6] at hm ⊢
      obtain ⟨x4, hx4, hm⟩ := hp_bd hm
      refine tr_eq0 (t_X11_isOne I T_v0 hx4) ?_
      by_cases c5 : x4 = 0
      · rw [if_pos c5] at hm ⊢
        exact t_X11_isOpen_38 I T_v0 hm
      · rw [if_neg c5] at hm ⊢
        exact t_X11_isOpen_33 I T_v0 hm
    · rw [if_neg c6] at hm ⊢
      exact t_X11_isOpen_33 I T_v0 hm
def gL_X11_isOpen_4 (n : Nat) (v0 : Nat) (v1 : Int32) (s : st_T) (c : Int32 × Int32) : Option ((Int32 × Int32) ⊕ (Int32)) := g_X11_isOpen_4 n v0 v1 c.1 c.2 s
theorem tl_X11_isOpen_4 {tg r : Nat → Nat} {h : hp_H} {s : st_T} {n : Nat} {v0 : Nat} {v1 : Int32} (I : iso tg r h s) (T_v0 : tg v0 = 21) : ∀ (k : Nat) (c : Int32 × Int32) (x : Int32), hp_lp (gL_X11_isOpen_4 n v0 v1 s) k c = some x → hp_lp (fL_X11_isOpen_4 n (r v0) v1 h) k c = some x := by
  intro k
  induction k with
  | zero => intro c x hx; exact (hp_lp_0 hx).elim
  | succ k ih =>
    intro c x hx
    obtain ⟨rr, hr, hc⟩ := hp_lp_1 hx
    have e2 := t_X11_isOpen_4 I T_v0 hr
    rcases hc with ⟨s3, e3, hx3⟩ | e3
    · subst e3
      exact hp_lp_s e2 (ih _ _ hx3)
    · subst e3
      exact hp_lp_x e2
def g_X11_isOpen_92 (n : Nat) (v0 : Nat) (v3 : Int32) (s0 : Int32) (s : st_T) : Option ((Int32 × Int32) ⊕ (Int32)) :=
  some (.inl (s0, (v3 + (1 : Int32))))
set_option maxHeartbeats 1000000 in
theorem t_X11_isOpen_92 {tg r : Nat → Nat} {h : hp_H} {s : st_T} {n : Nat} {v0 : Nat} {v3 : Int32} {s0 : Int32} (I : iso tg r h s) (T_v0 : tg v0 = 21) {res : (Int32 × Int32) ⊕ (Int32)} (hm : g_X11_isOpen_92 n v0 v3 s0 s = some res) : f_X11_isOpen_92 n (r v0) v3 s0 h = some res := by
  unfold g_X11_isOpen_92 at hm
  unfold f_X11_isOpen_92
  obtain rfl := Option.some.inj hm
  rfl
def g_X11_isOpen_87 (n : Nat) (v0 : Nat) (v3 : Int32) (s : st_T) : Option ((Int32 × Int32) ⊕ (Int32)) :=
  g_X11_isOpen_92 n v0 v3 (1 : Int32) s
set_option maxHeartbeats 1000000 in
theorem t_X11_isOpen_87 {tg r : Nat → Nat} {h : hp_H} {s : st_T} {n : Nat} {v0 : Nat} {v3 : Int32} (I : iso tg r h s) (T_v0 : tg v0 = 21) {res : (Int32 × Int32) ⊕ (Int32)} (hm : g_X11_isOpen_87 n v0 v3 s = some res) : f_X11_isOpen_87 n (r v0) v3 h = some res := by
  unfold g_X11_isOpen_87 at hm
  unfold f_X11_isOpen_87
  exact t_X11_isOpen_92 I T_v0 hm
def g_X11_isOpen_64 (n : Nat) (v0 : Nat) (v2 : Int32) (v3 : Int32) (s : st_T) : Option ((Int32 × Int32) ⊕ (Int32)) :=
  if (gF s v0 48) ≤ v3 then
    (hp_bz v2).bind fun _ =>
    some (.inr v2)
  else
    if v2 = 0 then
      (gA s (gP s v0 47) v3).bind fun x3 =>
      if x3 = (63 : Int32) then
        g_X11_isOpen_87 n v0 v3 s
      else
        g_X11_isOpen_92 n v0 v3 (0 : Int32) s
    else
      g_X11_isOpen_87 n v0 v3 s
set_option maxHeartbeats 1000000 in
theorem t_X11_isOpen_64 {tg r : Nat → Nat} {h : hp_H} {s : st_T} {n : Nat} {v0 : Nat} {v2 : Int32} {v3 : Int32} (I : iso tg r h s) (T_v0 : tg v0 = 21) {res : (Int32 × Int32) ⊕ (Int32)} (hm : g_X11_isOpen_64 n v0 v2 v3 s = some res) : f_X11_isOpen_64 n (r v0) v2 v3 h = some res := by
  unfold g_X11_isOpen_64 at hm
  unfold f_X11_isOpen_64
  refine tr_eq0 (t_fI I T_v0 (by decide) (by decide) rfl) ?_
  by_cases c6 : (gF s v0 48) ≤ v3
  · rw [if_pos c6] at hm ⊢
    obtain ⟨_, hu1, hm⟩ := hp_bd hm
    refine tr_eq0 hu1 ?_
    obtain rfl := Option.some.inj hm
    rfl
  · rw [if_neg c6] at hm ⊢
    by_cases c5 : v2 = 0
    · rw [if_pos c5] at hm ⊢
      have T2 : tg (gP s v0 47) = 0 := t_tg (c := 11) I T_v0 (by decide) (by decide) rfl (by decide)
      refine tr_eq0 (t_fR I T_v0 (by decide) (by decide) (by decide)) ?_
      obtain ⟨x3, hx3, hm⟩ := hp_bd hm
      refine tr_eq0 (t_aI I T2 (by decide) rfl hx3) ?_
      by_cases c4 : x3 = (63 : Int32)
      · rw [if_pos c4] at hm ⊢
        exact t_X11_isOpen_87 I T_v0 hm
      · rw [if_neg c4] at hm ⊢
        exact t_X11_isOpen_92 I T_v0 hm
    · rw [if_neg c5] at hm ⊢
      exact t_X11_isOpen_87 I T_v0 hm
def gL_X11_isOpen_64 (n : Nat) (v0 : Nat) (s : st_T) (c : Int32 × Int32) : Option ((Int32 × Int32) ⊕ (Int32)) := g_X11_isOpen_64 n v0 c.1 c.2 s
theorem tl_X11_isOpen_64 {tg r : Nat → Nat} {h : hp_H} {s : st_T} {n : Nat} {v0 : Nat} (I : iso tg r h s) (T_v0 : tg v0 = 21) : ∀ (k : Nat) (c : Int32 × Int32) (x : Int32), hp_lp (gL_X11_isOpen_64 n v0 s) k c = some x → hp_lp (fL_X11_isOpen_64 n (r v0) h) k c = some x := by
  intro k
  induction k with
  | zero => intro c x hx; exact (hp_lp_0 hx).elim
  | succ k ih =>
    intro c x hx
    obtain ⟨rr, hr, hc⟩ := hp_lp_1 hx
    have e2 := t_X11_isOpen_64 I T_v0 hr
    rcases hc with ⟨s3, e3, hx3⟩ | e3
    · subst e3
      exact hp_lp_s e2 (ih _ _ hx3)
    · subst e3
      exact hp_lp_x e2
def g_X11_isOpen_0 (n : Nat) (v0 : Nat) (v1 : Int32) (s : st_T) : Option (Int32 × st_T) :=
  (hp_lp (gL_X11_isOpen_4 n v0 v1 s) n ((0 : Int32), (0 : Int32))).bind fun x1 =>
  if x1 = 0 then
    (g_X11_isCompressed n v0 v1 s).bind fun x4 =>
    if x4 = 0 then
      (hp_bz x1).bind fun _ =>
      some (x1, s)
    else
      (g_X11_takeLetters n v0 v1 s).bind fun x6 =>
      (hp_lp (gL_X11_isOpen_64 n v0 x6) n (x1, (0 : Int32))).bind fun x7 =>
      some (x7, x6)
  else
    (hp_bz x1).bind fun _ =>
    some (x1, s)
set_option maxHeartbeats 1000000 in
theorem t_X11_isOpen_0 {tg r : Nat → Nat} {h hb : hp_H} {s sb : st_T} {n : Nat} {v0 : Nat} {v1 : Int32} (I : iso tg r h s) (F : isf tg r hb h sb s) (T_v0 : tg v0 = 21) {res : Int32 × st_T} (hm : g_X11_isOpen_0 n v0 v1 s = some res) : ∃ h2, f_X11_isOpen_0 n (r v0) v1 h = some ((res.1, h2)) ∧ iso tg r h2 res.2 ∧ isf tg r hb h2 sb res.2 := by
  unfold g_X11_isOpen_0 at hm
  unfold f_X11_isOpen_0
  obtain ⟨x1, hx1, hm⟩ := hp_bd hm
  refine tr_eq (tl_X11_isOpen_4 I T_v0 n _ _ hx1) ?_
  by_cases c10 : x1 = 0
  · rw [if_pos c10] at hm ⊢
    obtain ⟨x4, hx4, hm⟩ := hp_bd hm
    refine tr_eq (t_X11_isCompressed I T_v0 hx4) ?_
    by_cases c9 : x4 = 0
    · rw [if_pos c9] at hm ⊢
      obtain ⟨_, hu5, hm⟩ := hp_bd hm
      refine tr_eq hu5 ?_
      obtain rfl := Option.some.inj hm
      exact ⟨_, rfl, I, F⟩
    · rw [if_neg c9] at hm ⊢
      obtain ⟨x6, hx6, hm⟩ := hp_bd hm
      obtain ⟨_, e2, I, F⟩ := t_X11_takeLetters I F T_v0 hx6
      refine tr_eq e2 ?_
      obtain ⟨x7, hx7, hm⟩ := hp_bd hm
      refine tr_eq (tl_X11_isOpen_64 I T_v0 n _ _ hx7) ?_
      obtain rfl := Option.some.inj hm
      exact ⟨_, rfl, I, F⟩
  · rw [if_neg c10] at hm ⊢
    obtain ⟨_, hu3, hm⟩ := hp_bd hm
    refine tr_eq hu3 ?_
    obtain rfl := Option.some.inj hm
    exact ⟨_, rfl, I, F⟩
def g_X11_isOpen (n : Nat) (v0 : Nat) (v1 : Int32) (s : st_T) : Option (Int32 × st_T) := g_X11_isOpen_0 n v0 v1 s
theorem t_X11_isOpen {tg r : Nat → Nat} {h hb : hp_H} {s sb : st_T} {n : Nat} {v0 : Nat} {v1 : Int32} (I : iso tg r h s) (F : isf tg r hb h sb s) (T_v0 : tg v0 = 21) {res : Int32 × st_T} (hm : g_X11_isOpen n v0 v1 s = some res) : ∃ h2, f_X11_isOpen n (r v0) v1 h = some ((res.1, h2)) ∧ iso tg r h2 res.2 ∧ isf tg r hb h2 sb res.2 := by
  unfold g_X11_isOpen at hm
  unfold f_X11_isOpen
  refine tr_eq (t_ck I T_v0 (by decide)) ?_
  exact t_X11_isOpen_0 I F T_v0 hm
def g_X11_fails_0 (n : Nat) (v0 : Nat) (v1 : Int32) (v2 : Int32) (s : st_T) : Option (Int32 × st_T) :=
  (wF s v0 54 v1).bind fun w1 =>
  (wF w1 v0 55 v2).bind fun w2 =>
  some ((0 : Int32), w2)
set_option maxHeartbeats 1000000 in
theorem t_X11_fails_0 {tg r : Nat → Nat} {h hb : hp_H} {s sb : st_T} {n : Nat} {v0 : Nat} {v1 : Int32} {v2 : Int32} (I : iso tg r h s) (F : isf tg r hb h sb s) (T_v0 : tg v0 = 21) {res : Int32 × st_T} (hm : g_X11_fails_0 n v0 v1 v2 s = some res) : ∃ h2, f_X11_fails_0 n (r v0) v1 v2 h = some ((res.1, h2)) ∧ iso tg r h2 res.2 ∧ isf tg r hb h2 sb res.2 := by
  unfold g_X11_fails_0 at hm
  unfold f_X11_fails_0
  obtain ⟨w1, hw1, hm⟩ := hp_bd hm
  obtain ⟨_, e2, I, F⟩ := t_wF (c := 11) (k := 54) I F T_v0 (by decide) (by decide) rfl hw1
  refine tr_eq e2 ?_
  obtain ⟨w2, hw2, hm⟩ := hp_bd hm
  obtain ⟨_, e2, I, F⟩ := t_wF (c := 11) (k := 55) I F T_v0 (by decide) (by decide) rfl hw2
  refine tr_eq e2 ?_
  obtain rfl := Option.some.inj hm
  exact ⟨_, rfl, I, F⟩
def g_X11_fails (n : Nat) (v0 : Nat) (v1 : Int32) (v2 : Int32) (s : st_T) : Option (Int32 × st_T) := g_X11_fails_0 n v0 v1 v2 s
theorem t_X11_fails {tg r : Nat → Nat} {h hb : hp_H} {s sb : st_T} {n : Nat} {v0 : Nat} {v1 : Int32} {v2 : Int32} (I : iso tg r h s) (F : isf tg r hb h sb s) (T_v0 : tg v0 = 21) {res : Int32 × st_T} (hm : g_X11_fails n v0 v1 v2 s = some res) : ∃ h2, f_X11_fails n (r v0) v1 v2 h = some ((res.1, h2)) ∧ iso tg r h2 res.2 ∧ isf tg r hb h2 sb res.2 := by
  unfold g_X11_fails at hm
  unfold f_X11_fails
  refine tr_eq (t_ck I T_v0 (by decide)) ?_
  exact t_X11_fails_0 I F T_v0 hm
def g_X11_mayName_31 (n : Nat) (s : st_T) : Option (Int32) :=
  some (1 : Int32)
set_option maxHeartbeats 1000000 in
theorem t_X11_mayName_31 {tg r : Nat → Nat} {h : hp_H} {s : st_T} {n : Nat} (I : iso tg r h s) {res : Int32} (hm : g_X11_mayName_31 n  s = some res) : f_X11_mayName_31 n  h = some res := by
  unfold g_X11_mayName_31 at hm
  unfold f_X11_mayName_31
  obtain rfl := Option.some.inj hm
  rfl
def g_X11_mayName_0 (n : Nat) (v0 : Nat) (v1 : Int32) (v2 : Int32) (s : st_T) : Option (Int32) :=
  if v2 < 0 then
    some (0 : Int32)
  else
    (g_X11_at n v0 v2 s).bind fun x2 =>
    (gA s (gP s v0 10) x2).bind fun x3 =>
    if (2 : Int32) ≤ x3 then
      g_X11_mayName_31 n  s
    else
      (g_X11_isBit n v0 (gP s v0 22) v1 v2 s).bind fun x5 =>
      if x5 = 0 then
        some (0 : Int32)
      else
        g_X11_mayName_31 n  s
set_option maxHeartbeats 1000000 in
theorem t_X11_mayName_0 {tg r : Nat → Nat} {h : hp_H} {s : st_T} {n : Nat} {v0 : Nat} {v1 : Int32} {v2 : Int32} (I : iso tg r h s) (T_v0 : tg v0 = 21) {res : Int32} (hm : g_X11_mayName_0 n v0 v1 v2 s = some res) : f_X11_mayName_0 n (r v0) v1 v2 h = some res := by
  unfold g_X11_mayName_0 at hm
  unfold f_X11_mayName_0
  by_cases c8 : v2 < 0
  · rw [if_pos c8] at hm ⊢
    obtain rfl := Option.some.inj hm
    rfl
  · rw [if_neg c8] at hm ⊢
    have T1 : tg (gP s v0 10) = 0 := t_tg (c := 11) I T_v0 (by decide) (by decide) rfl (by decide)
    refine tr_eq0 (t_fR I T_v0 (by decide) (by decide) (by decide)) ?_
    obtain ⟨x2, hx2, hm⟩ := hp_bd hm
    refine tr_eq0 (t_X11_at I T_v0 hx2) ?_
    obtain ⟨x3, hx3, hm⟩ := hp_bd hm
    refine tr_eq0 (t_aI I T1 (by decide) rfl hx3) ?_
    by_cases c7 : (2 : Int32) ≤ x3
    · rw [if_pos c7] at hm ⊢
      exact t_X11_mayName_31 I  hm
    · rw [if_neg c7] at hm ⊢
      have T4 : tg (gP s v0 22) = 3 := t_tg (c := 11) I T_v0 (by decide) (by decide) rfl (by decide)
      refine tr_eq0 (t_fR I T_v0 (by decide) (by decide) (by decide)) ?_
      obtain ⟨x5, hx5, hm⟩ := hp_bd hm
      refine tr_eq0 (t_X11_isBit I T_v0 T4 hx5) ?_
      by_cases c6 : x5 = 0
      · rw [if_pos c6] at hm ⊢
        obtain rfl := Option.some.inj hm
        rfl
      · rw [if_neg c6] at hm ⊢
        exact t_X11_mayName_31 I  hm
def g_X11_mayName (n : Nat) (v0 : Nat) (v1 : Int32) (v2 : Int32) (s : st_T) : Option (Int32) := g_X11_mayName_0 n v0 v1 v2 s
theorem t_X11_mayName {tg r : Nat → Nat} {h : hp_H} {s : st_T} {n : Nat} {v0 : Nat} {v1 : Int32} {v2 : Int32} (I : iso tg r h s) (T_v0 : tg v0 = 21) {res : Int32} (hm : g_X11_mayName n v0 v1 v2 s = some res) : f_X11_mayName n (r v0) v1 v2 h = some res := by
  unfold g_X11_mayName at hm
  unfold f_X11_mayName
  refine tr_eq0 (t_ck I T_v0 (by decide)) ?_
  exact t_X11_mayName_0 I T_v0 hm
abbrev eX_X11_readList_2 (x : st_T) (h2 : hp_H) : hp_H := (fun y => h2) x
abbrev sX_X11_readList_2 (x : st_T) : st_T := (fun y => y) x
abbrev eR_X11_readList_2 (x : (Int32 × st_T) ⊕ (st_T)) (h2 : hp_H) : (Int32 × hp_H) ⊕ (hp_H) := Sum.elim (fun y => .inl (y.1, h2)) (fun y => .inr (eX_X11_readList_2 y h2)) x
abbrev sR_X11_readList_2 (x : (Int32 × st_T) ⊕ (st_T)) : st_T := Sum.elim (fun y => y.2) sX_X11_readList_2 x
def g_X11_readList_40 (n : Nat) (v0 : Nat) (v1 : Int32) (v2 : Int32) (s : st_T) : Option ((Int32 × st_T) ⊕ (st_T)) :=
  some (.inl ((v2 + (1 : Int32)), s))
set_option maxHeartbeats 1000000 in
theorem t_X11_readList_40 {tg r : Nat → Nat} {h hb : hp_H} {s sb : st_T} {n : Nat} {v0 : Nat} {v1 : Int32} {v2 : Int32} (I : iso tg r h s) (F : isf tg r hb h sb s) (T_v0 : tg v0 = 21) {res : (Int32 × st_T) ⊕ (st_T)} (hm : g_X11_readList_40 n v0 v1 v2 s = some res) : ∃ h2, f_X11_readList_40 n (r v0) v1 v2 h = some (eR_X11_readList_2 res h2) ∧ iso tg r h2 (sR_X11_readList_2 res) ∧ isf tg r hb h2 sb (sR_X11_readList_2 res) := by
  unfold g_X11_readList_40 at hm
  unfold f_X11_readList_40
  obtain rfl := Option.some.inj hm
  exact ⟨_, rfl, I, F⟩
def g_X11_readList_2 (n : Nat) (v0 : Nat) (v1 : Int32) (v2 : Int32) (s : st_T) : Option ((Int32 × st_T) ⊕ (st_T)) :=
  if v1 ≤ v2 then
    some (.inr s)
  else
    (g_X11_isBit n v0 (gP s v0 23) v1 v2 s).bind fun x2 =>
    if x2 = 0 then
      g_X11_readList_40 n v0 v1 v2 s
    else
      (uA 0 s (gP s v0 45) (gF s v0 46) v2).bind fun w4 =>
      (wF w4 v0 46 ((gF w4 v0 46) + (1 : Int32))).bind fun w5 =>
      g_X11_readList_40 n v0 v1 v2 w5
set_option maxHeartbeats 1000000 in
theorem t_X11_readList_2 {tg r : Nat → Nat} {h hb : hp_H} {s sb : st_T} {n : Nat} {v0 : Nat} {v1 : Int32} {v2 : Int32} (I : iso tg r h s) (F : isf tg r hb h sb s) (T_v0 : tg v0 = 21) {res : (Int32 × st_T) ⊕ (st_T)} (hm : g_X11_readList_2 n v0 v1 v2 s = some res) : ∃ h2, f_X11_readList_2 n (r v0) v1 v2 h = some (eR_X11_readList_2 res h2) ∧ iso tg r h2 (sR_X11_readList_2 res) ∧ isf tg r hb h2 sb (sR_X11_readList_2 res) := by
  unfold g_X11_readList_2 at hm
  unfold f_X11_readList_2
  by_cases c7 : v1 ≤ v2
  · rw [if_pos c7] at hm ⊢
    obtain rfl := Option.some.inj hm
    exact ⟨_, rfl, I, F⟩
  · rw [if_neg c7] at hm ⊢
    have T1 : tg (gP s v0 23) = 3 := t_tg (c := 11) I T_v0 (by decide) (by decide) rfl (by decide)
    refine tr_eq (t_fR I T_v0 (by decide) (by decide) (by decide)) ?_
    obtain ⟨x2, hx2, hm⟩ := hp_bd hm
    refine tr_eq (t_X11_isBit I T_v0 T1 hx2) ?_
    by_cases c6 : x2 = 0
    · rw [if_pos c6] at hm ⊢
      exact t_X11_readList_40 I F T_v0 hm
    · rw [if_neg c6] at hm ⊢
      have T3 : tg (gP s v0 45) = 0 := t_tg (c := 11) I T_v0 (by decide) (by decide) rfl (by decide)
      refine tr_eq (t_fR I T_v0 (by decide) (by decide) (by decide)) ?_
      refine tr_eq (t_fI I T_v0 (by decide) (by decide) rfl) ?_
      obtain ⟨w4, hw4, hm⟩ := hp_bd hm
      obtain ⟨_, e2, I, F⟩ := t_sI I F T3 (by decide) rfl hw4
      refine tr_eq e2 ?_
      refine tr_eq (t_fI I T_v0 (by decide) (by decide) rfl) ?_
      obtain ⟨w5, hw5, hm⟩ := hp_bd hm
      obtain ⟨_, e2, I, F⟩ := t_wF (c := 11) (k := 46) I F T_v0 (by decide) (by decide) rfl hw5
      refine tr_eq e2 ?_
      exact t_X11_readList_40 I F T_v0 hm
def gL_X11_readList_2 (n : Nat) (v0 : Nat) (v1 : Int32) (c : Int32 × st_T) : Option ((Int32 × st_T) ⊕ (st_T)) := g_X11_readList_2 n v0 v1 c.1 c.2
theorem tl_X11_readList_2 {tg r : Nat → Nat} {hb : hp_H} {sb : st_T} {n : Nat} {v0 : Nat} {v1 : Int32} (T_v0 : tg v0 = 21) : ∀ (k : Nat) (c0 : Int32) (h : hp_H) (s : st_T) (x : st_T), iso tg r h s → isf tg r hb h sb s → hp_lp (gL_X11_readList_2 n v0 v1) k (c0, s) = some x → ∃ h2, hp_lp (fL_X11_readList_2 n (r v0) v1) k (c0, h) = some (eX_X11_readList_2 x h2) ∧ iso tg r h2 (sX_X11_readList_2 x) ∧ isf tg r hb h2 sb (sX_X11_readList_2 x) := by
  intro k
  induction k with
  | zero => intro c0 h s x I F hx; exact (hp_lp_0 hx).elim
  | succ k ih =>
    intro c0 h s x I F hx
    obtain ⟨rr, hr, hc⟩ := hp_lp_1 hx
    obtain ⟨h2, e2, I2, F2⟩ := t_X11_readList_2 I F T_v0 hr
    rcases hc with ⟨s3, e3, hx3⟩ | e3
    · subst e3
      obtain ⟨h3, e4, I3, F3⟩ := ih _ h2 _ x I2 F2 hx3
      exact ⟨h3, hp_lp_s e2 e4, I3, F3⟩
    · subst e3
      exact ⟨h2, hp_lp_x e2, I2, F2⟩
abbrev eX_X11_readList_54 (x : (Int32 × st_T) ⊕ (st_T)) (h2 : hp_H) : (Int32 × hp_H) ⊕ (hp_H) := (Sum.elim (fun y => (.inl (y.1, h2))) (fun y => (.inr h2))) x
abbrev sX_X11_readList_54 (x : (Int32 × st_T) ⊕ (st_T)) : st_T := (Sum.elim (fun y => y.2) (fun y => y)) x
abbrev eR_X11_readList_54 (x : (Int32 × st_T) ⊕ ((Int32 × st_T) ⊕ (st_T))) (h2 : hp_H) : (Int32 × hp_H) ⊕ ((Int32 × hp_H) ⊕ (hp_H)) := Sum.elim (fun y => .inl (y.1, h2)) (fun y => .inr (eX_X11_readList_54 y h2)) x
abbrev sR_X11_readList_54 (x : (Int32 × st_T) ⊕ ((Int32 × st_T) ⊕ (st_T))) : st_T := Sum.elim (fun y => y.2) sX_X11_readList_54 x
def g_X11_readList_110 (n : Nat) (v0 : Nat) (v1 : Int32) (v2 : Int32) (v3 : Int32) (v4 : Int32) (v6 : Int32) (s0 : Int32) (s : st_T) : Option ((Int32 × Int32) ⊕ (Int32)) :=
  some (.inl (s0, (v6 + (1 : Int32))))
set_option maxHeartbeats 1000000 in
theorem t_X11_readList_110 {tg r : Nat → Nat} {h : hp_H} {s : st_T} {n : Nat} {v0 : Nat} {v1 : Int32} {v2 : Int32} {v3 : Int32} {v4 : Int32} {v6 : Int32} {s0 : Int32} (I : iso tg r h s) (T_v0 : tg v0 = 21) {res : (Int32 × Int32) ⊕ (Int32)} (hm : g_X11_readList_110 n v0 v1 v2 v3 v4 v6 s0 s = some res) : f_X11_readList_110 n (r v0) v1 v2 v3 v4 v6 s0 h = some res := by
  unfold g_X11_readList_110 at hm
  unfold f_X11_readList_110
  obtain rfl := Option.some.inj hm
  rfl
def g_X11_readList_79 (n : Nat) (v0 : Nat) (v1 : Int32) (v2 : Int32) (v3 : Int32) (v4 : Int32) (v5 : Int32) (v6 : Int32) (s : st_T) : Option ((Int32 × Int32) ⊕ (Int32)) :=
  if (gF s v0 46) ≤ v6 then
    some (.inr v5)
  else
    if v5 = 0 then
      some (.inr v5)
    else
      (gA s (gP s v0 45) v6).bind fun x2 =>
      if x2 = v4 then
        g_X11_readList_110 n v0 v1 v2 v3 v4 v6 (0 : Int32) s
      else
        g_X11_readList_110 n v0 v1 v2 v3 v4 v6 (1 : Int32) s
set_option maxHeartbeats 1000000 in
theorem t_X11_readList_79 {tg r : Nat → Nat} {h : hp_H} {s : st_T} {n : Nat} {v0 : Nat} {v1 : Int32} {v2 : Int32} {v3 : Int32} {v4 : Int32} {v5 : Int32} {v6 : Int32} (I : iso tg r h s) (T_v0 : tg v0 = 21) {res : (Int32 × Int32) ⊕ (Int32)} (hm : g_X11_readList_79 n v0 v1 v2 v3 v4 v5 v6 s = some res) : f_X11_readList_79 n (r v0) v1 v2 v3 v4 v5 v6 h = some res := by
  unfold g_X11_readList_79 at hm
  unfold f_X11_readList_79
  refine tr_eq0 (t_fI I T_v0 (by decide) (by decide) rfl) ?_
  by_cases c5 : (gF s v0 46) ≤ v6
  · rw [if_pos c5] at hm ⊢
    obtain rfl := Option.some.inj hm
    rfl
  · rw [if_neg c5] at hm ⊢
    by_cases c4 : v5 = 0
    · rw [if_pos c4] at hm ⊢
      obtain rfl := Option.some.inj hm
      rfl
    · rw [if_neg c4] at hm ⊢
      have T1 : tg (gP s v0 45) = 0 := t_tg (c := 11) I T_v0 (by decide) (by decide) rfl (by decide)
      refine tr_eq0 (t_fR I T_v0 (by decide) (by decide) (by decide)) ?_
      obtain ⟨x2, hx2, hm⟩ := hp_bd hm
      refine tr_eq0 (t_aI I T1 (by decide) rfl hx2) ?_
      by_cases c3 : x2 = v4
      · rw [if_pos c3] at hm ⊢
        exact t_X11_readList_110 I T_v0 hm
      · rw [if_neg c3] at hm ⊢
        exact t_X11_readList_110 I T_v0 hm
def gL_X11_readList_79 (n : Nat) (v0 : Nat) (v1 : Int32) (v2 : Int32) (v3 : Int32) (v4 : Int32) (s : st_T) (c : Int32 × Int32) : Option ((Int32 × Int32) ⊕ (Int32)) := g_X11_readList_79 n v0 v1 v2 v3 v4 c.1 c.2 s
theorem tl_X11_readList_79 {tg r : Nat → Nat} {h : hp_H} {s : st_T} {n : Nat} {v0 : Nat} {v1 : Int32} {v2 : Int32} {v3 : Int32} {v4 : Int32} (I : iso tg r h s) (T_v0 : tg v0 = 21) : ∀ (k : Nat) (c : Int32 × Int32) (x : Int32), hp_lp (gL_X11_readList_79 n v0 v1 v2 v3 v4 s) k c = some x → hp_lp (fL_X11_readList_79 n (r v0) v1 v2 v3 v4 h) k c = some x := by
  intro k
  induction k with
  | zero => intro c x hx; exact (hp_lp_0 hx).elim
  | succ k ih =>
    intro c x hx
    obtain ⟨rr, hr, hc⟩ := hp_lp_1 hx
    have e2 := t_X11_readList_79 I T_v0 hr
    rcases hc with ⟨s3, e3, hx3⟩ | e3
    · subst e3
      exact hp_lp_s e2 (ih _ _ hx3)
    · subst e3
      exact hp_lp_x e2
def g_X11_readList_118 (n : Nat) (v0 : Nat) (v1 : Int32) (v2 : Int32) (v3 : Int32) (v4 : Int32) (v5 : Int32) (s : st_T) : Option ((Int32 × st_T) ⊕ ((Int32 × st_T) ⊕ (st_T))) :=
  if v5 = 0 then
    some (.inr (.inl (v3, s)))
  else
    (uA 0 s (gP s v0 45) (gF s v0 46) v4).bind fun w2 =>
    (wF w2 v0 46 ((gF w2 v0 46) + (1 : Int32))).bind fun w3 =>
    some (.inl ((v3 + (1 : Int32)), w3))
set_option maxHeartbeats 1000000 in
theorem t_X11_readList_118 {tg r : Nat → Nat} {h hb : hp_H} {s sb : st_T} {n : Nat} {v0 : Nat} {v1 : Int32} {v2 : Int32} {v3 : Int32} {v4 : Int32} {v5 : Int32} (I : iso tg r h s) (F : isf tg r hb h sb s) (T_v0 : tg v0 = 21) {res : (Int32 × st_T) ⊕ ((Int32 × st_T) ⊕ (st_T))} (hm : g_X11_readList_118 n v0 v1 v2 v3 v4 v5 s = some res) : ∃ h2, f_X11_readList_118 n (r v0) v1 v2 v3 v4 v5 h = some (eR_X11_readList_54 res h2) ∧ iso tg r h2 (sR_X11_readList_54 res) ∧ isf tg r hb h2 sb (sR_X11_readList_54 res) := by
  unfold g_X11_readList_118 at hm
  unfold f_X11_readList_118
  by_cases c4 : v5 = 0
  · rw [if_pos c4] at hm ⊢
    obtain rfl := Option.some.inj hm
    exact ⟨_, rfl, I, F⟩
  · rw [if_neg c4] at hm ⊢
    have T1 : tg (gP s v0 45) = 0 := t_tg (c := 11) I T_v0 (by decide) (by decide) rfl (by decide)
    refine tr_eq (t_fR I T_v0 (by decide) (by decide) (by decide)) ?_
    refine tr_eq (t_fI I T_v0 (by decide) (by decide) rfl) ?_
    obtain ⟨w2, hw2, hm⟩ := hp_bd hm
    obtain ⟨_, e2, I, F⟩ := t_sI I F T1 (by decide) rfl hw2
    refine tr_eq e2 ?_
    refine tr_eq (t_fI I T_v0 (by decide) (by decide) rfl) ?_
    obtain ⟨w3, hw3, hm⟩ := hp_bd hm
    obtain ⟨_, e2, I, F⟩ := t_wF (c := 11) (k := 46) I F T_v0 (by decide) (by decide) rfl hw3
    refine tr_eq e2 ?_
    obtain rfl := Option.some.inj hm
    exact ⟨_, rfl, I, F⟩
def g_X11_readList_54 (n : Nat) (v0 : Nat) (v1 : Int32) (v2 : Int32) (v3 : Int32) (s : st_T) : Option ((Int32 × st_T) ⊕ ((Int32 × st_T) ⊕ (st_T))) :=
  if v2 ≤ v3 then
    some (.inr (.inr s))
  else
    (g_X11_namedBy n v0 v1 v3 s).bind fun x1 =>
    (g_X11_mayName n v0 v1 x1 s).bind fun x2 =>
    (hp_lp (gL_X11_readList_79 n v0 v1 v2 v3 x1 s) n (x2, (0 : Int32))).bind fun x3 =>
    g_X11_readList_118 n v0 v1 v2 v3 x1 x3 s
set_option maxHeartbeats 1000000 in
theorem t_X11_readList_54 {tg r : Nat → Nat} {h hb : hp_H} {s sb : st_T} {n : Nat} {v0 : Nat} {v1 : Int32} {v2 : Int32} {v3 : Int32} (I : iso tg r h s) (F : isf tg r hb h sb s) (T_v0 : tg v0 = 21) {res : (Int32 × st_T) ⊕ ((Int32 × st_T) ⊕ (st_T))} (hm : g_X11_readList_54 n v0 v1 v2 v3 s = some res) : ∃ h2, f_X11_readList_54 n (r v0) v1 v2 v3 h = some (eR_X11_readList_54 res h2) ∧ iso tg r h2 (sR_X11_readList_54 res) ∧ isf tg r hb h2 sb (sR_X11_readList_54 res) := by
  unfold g_X11_readList_54 at hm
  unfold f_X11_readList_54
  by_cases c5 : v2 ≤ v3
  · rw [if_pos c5] at hm ⊢
    obtain rfl := Option.some.inj hm
    exact ⟨_, rfl, I, F⟩
  · rw [if_neg c5] at hm ⊢
    obtain ⟨x1, hx1, hm⟩ := hp_bd hm
    refine tr_eq (t_X11_namedBy I T_v0 hx1) ?_
    obtain ⟨x2, hx2, hm⟩ := hp_bd hm
    refine tr_eq (t_X11_mayName I T_v0 hx2) ?_
    obtain ⟨x3, hx3, hm⟩ := hp_bd hm
    refine tr_eq (tl_X11_readList_79 I T_v0 n _ _ hx3) ?_
    exact t_X11_readList_118 I F T_v0 hm
def gL_X11_readList_54 (n : Nat) (v0 : Nat) (v1 : Int32) (v2 : Int32) (c : Int32 × st_T) : Option ((Int32 × st_T) ⊕ ((Int32 × st_T) ⊕ (st_T))) := g_X11_readList_54 n v0 v1 v2 c.1 c.2
theorem tl_X11_readList_54 {tg r : Nat → Nat} {hb : hp_H} {sb : st_T} {n : Nat} {v0 : Nat} {v1 : Int32} {v2 : Int32} (T_v0 : tg v0 = 21) : ∀ (k : Nat) (c0 : Int32) (h : hp_H) (s : st_T) (x : (Int32 × st_T) ⊕ (st_T)), iso tg r h s → isf tg r hb h sb s → hp_lp (gL_X11_readList_54 n v0 v1 v2) k (c0, s) = some x → ∃ h2, hp_lp (fL_X11_readList_54 n (r v0) v1 v2) k (c0, h) = some (eX_X11_readList_54 x h2) ∧ iso tg r h2 (sX_X11_readList_54 x) ∧ isf tg r hb h2 sb (sX_X11_readList_54 x) := by
  intro k
  induction k with
  | zero => intro c0 h s x I F hx; exact (hp_lp_0 hx).elim
  | succ k ih =>
    intro c0 h s x I F hx
    obtain ⟨rr, hr, hc⟩ := hp_lp_1 hx
    obtain ⟨h2, e2, I2, F2⟩ := t_X11_readList_54 I F T_v0 hr
    rcases hc with ⟨s3, e3, hx3⟩ | e3
    · subst e3
      obtain ⟨h3, e4, I3, F3⟩ := ih _ h2 _ x I2 F2 hx3
      exact ⟨h3, hp_lp_s e2 e4, I3, F3⟩
    · subst e3
      exact ⟨h2, hp_lp_x e2, I2, F2⟩
def g_X11_readList_191 (n : Nat) (s : st_T) : Option (Int32 × st_T) :=
  some ((1 : Int32), s)
set_option maxHeartbeats 1000000 in
theorem t_X11_readList_191 {tg r : Nat → Nat} {h hb : hp_H} {s sb : st_T} {n : Nat} (I : iso tg r h s) (F : isf tg r hb h sb s) {res : Int32 × st_T} (hm : g_X11_readList_191 n  s = some res) : ∃ h2, f_X11_readList_191 n  h = some ((res.1, h2)) ∧ iso tg r h2 res.2 ∧ isf tg r hb h2 sb res.2 := by
  unfold g_X11_readList_191 at hm
  unfold f_X11_readList_191
  obtain rfl := Option.some.inj hm
  exact ⟨_, rfl, I, F⟩
def g_X11_readList_0 (n : Nat) (v0 : Nat) (v1 : Int32) (s : st_T) : Option (Int32 × st_T) :=
  (hp_lp (gL_X11_readList_2 n v0 v1) n ((0 : Int32), s)).bind fun x1 =>
  (g_X11_listEnd n v0 v1 x1).bind fun x3 =>
  (hp_lp (gL_X11_readList_54 n v0 v1 x3) n ((1 : Int32), x1)).bind fun x4 =>
  Sum.elim (fun y5 =>
    (g_X11_fails n v0 (-2 : Int32) y5.1 y5.2).bind fun x7 =>
    (hp_bz x7.1).bind fun _ =>
    some (x7.1, x7.2)) (fun y6 =>
    (g_X11_at n v0 v1 y6).bind fun x10 =>
    (gA y6 (gP y6 v0 17) x10).bind fun x11 =>
    if x3 < x11 then
      g_X11_readList_191 n  y6
    else
      (g_X11_at n v0 v1 y6).bind fun x13 =>
      (gA y6 (gP y6 v0 17) x13).bind fun x14 =>
      (g_X11_fails n v0 (-3 : Int32) x14 y6).bind fun x15 =>
      if x15.1 = 0 then
        some ((0 : Int32), x15.2)
      else
        g_X11_readList_191 n  x15.2) x4
set_option maxHeartbeats 1000000 in
theorem t_X11_readList_0 {tg r : Nat → Nat} {h hb : hp_H} {s sb : st_T} {n : Nat} {v0 : Nat} {v1 : Int32} (I : iso tg r h s) (F : isf tg r hb h sb s) (T_v0 : tg v0 = 21) {res : Int32 × st_T} (hm : g_X11_readList_0 n v0 v1 s = some res) : ∃ h2, f_X11_readList_0 n (r v0) v1 h = some ((res.1, h2)) ∧ iso tg r h2 res.2 ∧ isf tg r hb h2 sb res.2 := by
  unfold g_X11_readList_0 at hm
  unfold f_X11_readList_0
  obtain ⟨x1, hx1, hm⟩ := hp_bd hm
  obtain ⟨_, e2, I, F⟩ := tl_X11_readList_2 T_v0 n _ _ _ _ I F hx1
  refine tr_eq e2 ?_
  try dsimp only [eX_X11_readList_2]
  replace I : iso tg _ _ x1 := I
  replace F : isf tg _ _ _ _ x1 := F
  obtain ⟨x3, hx3, hm⟩ := hp_bd hm
  refine tr_eq (t_X11_listEnd I T_v0 hx3) ?_
  obtain ⟨x4, hx4, hm⟩ := hp_bd hm
  obtain ⟨_, e2, I, F⟩ := tl_X11_readList_54 T_v0 n _ _ _ _ I F hx4
  refine tr_eq e2 ?_
  rcases x4 with y5 | y6
  · simp only [eX_X11_readList_54, Sum.elim_inl, Sum.elim_inr] at hm ⊢
    replace I : iso tg _ _ y5.2 := I
    replace F : isf tg _ _ _ _ y5.2 := F
    obtain ⟨x7, hx7, hm⟩ := hp_bd hm
    obtain ⟨_, e2, I, F⟩ := t_X11_fails I F T_v0 hx7
    refine tr_eq e2 ?_
    try dsimp only
    obtain ⟨_, hu8, hm⟩ := hp_bd hm
    refine tr_eq hu8 ?_
    obtain rfl := Option.some.inj hm
    exact ⟨_, rfl, I, F⟩
  · simp only [eX_X11_readList_54, Sum.elim_inl, Sum.elim_inr] at hm ⊢
    replace I : iso tg _ _ y6 := I
    replace F : isf tg _ _ _ _ y6 := F
    have T9 : tg (gP y6 v0 17) = 0 := t_tg (c := 11) I T_v0 (by decide) (by decide) rfl (by decide)
    refine tr_eq (t_fR I T_v0 (by decide) (by decide) (by decide)) ?_
    obtain ⟨x10, hx10, hm⟩ := hp_bd hm
    refine tr_eq (t_X11_at I T_v0 hx10) ?_
    obtain ⟨x11, hx11, hm⟩ := hp_bd hm
    refine tr_eq (t_aI I T9 (by decide) rfl hx11) ?_
    by_cases c17 : x3 < x11
    · rw [if_pos c17] at hm ⊢
      exact t_X11_readList_191 I F  hm
    · rw [if_neg c17] at hm ⊢
      have T12 : tg (gP y6 v0 17) = 0 := t_tg (c := 11) I T_v0 (by decide) (by decide) rfl (by decide)
      refine tr_eq (t_fR I T_v0 (by decide) (by decide) (by decide)) ?_
      obtain ⟨x13, hx13, hm⟩ := hp_bd hm
      refine tr_eq (t_X11_at I T_v0 hx13) ?_
      obtain ⟨x14, hx14, hm⟩ := hp_bd hm
      refine tr_eq (t_aI I T12 (by decide) rfl hx14) ?_
      obtain ⟨x15, hx15, hm⟩ := hp_bd hm
      obtain ⟨_, e2, I, F⟩ := t_X11_fails I F T_v0 hx15
      refine tr_eq e2 ?_
      try dsimp only
      by_cases c16 : x15.1 = 0
      · rw [if_pos c16] at hm ⊢
        obtain rfl := Option.some.inj hm
        exact ⟨_, rfl, I, F⟩
      · rw [if_neg c16] at hm ⊢
        exact t_X11_readList_191 I F  hm
def g_X11_readList (n : Nat) (v0 : Nat) (v1 : Int32) (s : st_T) : Option (Int32 × st_T) := g_X11_readList_0 n v0 v1 s
theorem t_X11_readList {tg r : Nat → Nat} {h hb : hp_H} {s sb : st_T} {n : Nat} {v0 : Nat} {v1 : Int32} (I : iso tg r h s) (F : isf tg r hb h sb s) (T_v0 : tg v0 = 21) {res : Int32 × st_T} (hm : g_X11_readList n v0 v1 s = some res) : ∃ h2, f_X11_readList n (r v0) v1 h = some ((res.1, h2)) ∧ iso tg r h2 res.2 ∧ isf tg r hb h2 sb res.2 := by
  unfold g_X11_readList at hm
  unfold f_X11_readList
  refine tr_eq (t_ck I T_v0 (by decide)) ?_
  exact t_X11_readList_0 I F T_v0 hm
abbrev eX_X11_readLetters_15 (x : (Int32 × st_T) ⊕ ((Int32 × st_T) ⊕ ((Int32 × st_T) ⊕ ((Int32 × st_T) ⊕ (Int32 × st_T))))) (h2 : hp_H) : (Int32 × hp_H) ⊕ ((Int32 × hp_H) ⊕ ((Int32 × hp_H) ⊕ ((Int32 × hp_H) ⊕ (Int32 × hp_H)))) := (Sum.elim (fun y => (.inl (y.1, h2))) (Sum.elim (fun y => (.inr (.inl (y.1, h2)))) (Sum.elim (fun y => (.inr (.inr (.inl (y.1, h2))))) (Sum.elim (fun y => (.inr (.inr (.inr (.inl (y.1, h2)))))) (fun y => (.inr (.inr (.inr (.inr (y.1, h2)))))))))) x
abbrev sX_X11_readLetters_15 (x : (Int32 × st_T) ⊕ ((Int32 × st_T) ⊕ ((Int32 × st_T) ⊕ ((Int32 × st_T) ⊕ (Int32 × st_T))))) : st_T := (Sum.elim (fun y => y.2) (Sum.elim (fun y => y.2) (Sum.elim (fun y => y.2) (Sum.elim (fun y => y.2) (fun y => y.2))))) x
abbrev eR_X11_readLetters_15 (x : (Int32 × Int32 × Int32 × Int32 × st_T) ⊕ ((Int32 × st_T) ⊕ ((Int32 × st_T) ⊕ ((Int32 × st_T) ⊕ ((Int32 × st_T) ⊕ (Int32 × st_T)))))) (h2 : hp_H) : (Int32 × Int32 × Int32 × Int32 × hp_H) ⊕ ((Int32 × hp_H) ⊕ ((Int32 × hp_H) ⊕ ((Int32 × hp_H) ⊕ ((Int32 × hp_H) ⊕ (Int32 × hp_H))))) := Sum.elim (fun y => .inl (y.1, y.2.1, y.2.2.1, y.2.2.2.1, h2)) (fun y => .inr (eX_X11_readLetters_15 y h2)) x
abbrev sR_X11_readLetters_15 (x : (Int32 × Int32 × Int32 × Int32 × st_T) ⊕ ((Int32 × st_T) ⊕ ((Int32 × st_T) ⊕ ((Int32 × st_T) ⊕ ((Int32 × st_T) ⊕ (Int32 × st_T)))))) : st_T := Sum.elim (fun y => y.2.2.2.2) sX_X11_readLetters_15 x
def g_X11_readLetters_297 (n : Nat) (v0 : Nat) (v2 : Int32) (v3 : Int32) (v4 : Int32) (v5 : Int32) (s : st_T) : Option ((Int32 × Int32 × Int32 × Int32 × st_T) ⊕ ((Int32 × st_T) ⊕ ((Int32 × st_T) ⊕ ((Int32 × st_T) ⊕ ((Int32 × st_T) ⊕ (Int32 × st_T)))))) :=
  some (.inl (v2, v3, v4, (v5 + (1 : Int32)), s))
set_option maxHeartbeats 1000000 in
theorem t_X11_readLetters_297 {tg r : Nat → Nat} {h hb : hp_H} {s sb : st_T} {n : Nat} {v0 : Nat} {v2 : Int32} {v3 : Int32} {v4 : Int32} {v5 : Int32} (I : iso tg r h s) (F : isf tg r hb h sb s) (T_v0 : tg v0 = 21) {res : (Int32 × Int32 × Int32 × Int32 × st_T) ⊕ ((Int32 × st_T) ⊕ ((Int32 × st_T) ⊕ ((Int32 × st_T) ⊕ ((Int32 × st_T) ⊕ (Int32 × st_T)))))} (hm : g_X11_readLetters_297 n v0 v2 v3 v4 v5 s = some res) : ∃ h2, f_X11_readLetters_297 n (r v0) v2 v3 v4 v5 h = some (eR_X11_readLetters_15 res h2) ∧ iso tg r h2 (sR_X11_readLetters_15 res) ∧ isf tg r hb h2 sb (sR_X11_readLetters_15 res) := by
  unfold g_X11_readLetters_297 at hm
  unfold f_X11_readLetters_297
  obtain rfl := Option.some.inj hm
  exact ⟨_, rfl, I, F⟩
def g_X11_readLetters_211 (n : Nat) (v0 : Nat) (v2 : Int32) (v3 : Int32) (v4 : Int32) (v5 : Int32) (v6 : Int32) (s : st_T) : Option ((Int32 × Int32 × Int32 × Int32 × st_T) ⊕ ((Int32 × st_T) ⊕ ((Int32 × st_T) ⊕ ((Int32 × st_T) ⊕ ((Int32 × st_T) ⊕ (Int32 × st_T)))))) :=
  if v6 = (90 : Int32) then
    if v4 = 0 then
      some (.inr (.inr (.inr (.inr (.inl (v5, s))))))
    else
      if (gF s v0 53) = (200 : Int32) then
        some (.inr (.inr (.inr (.inl (v5, s)))))
      else
        (uA 0 s (gP s v0 51) (gF s v0 53) ((gF s v0 50) - (1 : Int32))).bind fun w2 =>
        (uA 0 w2 (gP w2 v0 52) ((gF w2 v0 50) - (1 : Int32)) (gF w2 v0 53)).bind fun w4 =>
        (wF w4 v0 53 ((gF w4 v0 53) + (1 : Int32))).bind fun w5 =>
        g_X11_readLetters_297 n v0 v2 v3 (0 : Int32) v5 w5
  else
    some (.inr (.inr (.inr (.inr (.inl (v5, s))))))
set_option maxHeartbeats 1000000 in
theorem t_X11_readLetters_211 {tg r : Nat → Nat} {h hb : hp_H} {s sb : st_T} {n : Nat} {v0 : Nat} {v2 : Int32} {v3 : Int32} {v4 : Int32} {v5 : Int32} {v6 : Int32} (I : iso tg r h s) (F : isf tg r hb h sb s) (T_v0 : tg v0 = 21) {res : (Int32 × Int32 × Int32 × Int32 × st_T) ⊕ ((Int32 × st_T) ⊕ ((Int32 × st_T) ⊕ ((Int32 × st_T) ⊕ ((Int32 × st_T) ⊕ (Int32 × st_T)))))} (hm : g_X11_readLetters_211 n v0 v2 v3 v4 v5 v6 s = some res) : ∃ h2, f_X11_readLetters_211 n (r v0) v2 v3 v4 v5 v6 h = some (eR_X11_readLetters_15 res h2) ∧ iso tg r h2 (sR_X11_readLetters_15 res) ∧ isf tg r hb h2 sb (sR_X11_readLetters_15 res) := by
  unfold g_X11_readLetters_211 at hm
  unfold f_X11_readLetters_211
  by_cases c8 : v6 = (90 : Int32)
  · rw [if_pos c8] at hm ⊢
    by_cases c7 : v4 = 0
    · rw [if_pos c7] at hm ⊢
      obtain rfl := Option.some.inj hm
      exact ⟨_, rfl, I, F⟩
    · rw [if_neg c7] at hm ⊢
      refine tr_eq (t_fI I T_v0 (by decide) (by decide) rfl) ?_
      by_cases c6 : (gF s v0 53) = (200 : Int32)
      · rw [if_pos c6] at hm ⊢
        obtain rfl := Option.some.inj hm
        exact ⟨_, rfl, I, F⟩
      · rw [if_neg c6] at hm ⊢
        have T1 : tg (gP s v0 51) = 0 := t_tg (c := 11) I T_v0 (by decide) (by decide) rfl (by decide)
        refine tr_eq (t_fR I T_v0 (by decide) (by decide) (by decide)) ?_
        refine tr_eq (t_fI I T_v0 (by decide) (by decide) rfl) ?_
        refine tr_eq (t_fI I T_v0 (by decide) (by decide) rfl) ?_
        obtain ⟨w2, hw2, hm⟩ := hp_bd hm
        obtain ⟨_, e2, I, F⟩ := t_sI I F T1 (by decide) rfl hw2
        refine tr_eq e2 ?_
        have T3 : tg (gP w2 v0 52) = 0 := t_tg (c := 11) I T_v0 (by decide) (by decide) rfl (by decide)
        refine tr_eq (t_fR I T_v0 (by decide) (by decide) (by decide)) ?_
        refine tr_eq (t_fI I T_v0 (by decide) (by decide) rfl) ?_
        refine tr_eq (t_fI I T_v0 (by decide) (by decide) rfl) ?_
        obtain ⟨w4, hw4, hm⟩ := hp_bd hm
        obtain ⟨_, e2, I, F⟩ := t_sI I F T3 (by decide) rfl hw4
        refine tr_eq e2 ?_
        refine tr_eq (t_fI I T_v0 (by decide) (by decide) rfl) ?_
        obtain ⟨w5, hw5, hm⟩ := hp_bd hm
        obtain ⟨_, e2, I, F⟩ := t_wF (c := 11) (k := 53) I F T_v0 (by decide) (by decide) rfl hw5
        refine tr_eq e2 ?_
        exact t_X11_readLetters_297 I F T_v0 hm
  · rw [if_neg c8] at hm ⊢
    obtain rfl := Option.some.inj hm
    exact ⟨_, rfl, I, F⟩
def g_X11_readLetters_190 (n : Nat) (v0 : Nat) (v5 : Int32) (s0 : Int32) (s1 : Int32) (s2 : Nat) (s : st_T) : Option ((Int32 × Int32 × Int32 × Int32 × st_T) ⊕ ((Int32 × st_T) ⊕ ((Int32 × st_T) ⊕ ((Int32 × st_T) ⊕ ((Int32 × st_T) ⊕ (Int32 × st_T)))))) :=
  (uA 0 s s2 s1 s0).bind fun w1 =>
  (wF w1 v0 50 ((gF w1 v0 50) + (1 : Int32))).bind fun w2 =>
  g_X11_readLetters_297 n v0 (0 : Int32) (0 : Int32) (1 : Int32) v5 w2
set_option maxHeartbeats 1000000 in
theorem t_X11_readLetters_190 {tg r : Nat → Nat} {h hb : hp_H} {s sb : st_T} {n : Nat} {v0 : Nat} {v5 : Int32} {s0 : Int32} {s1 : Int32} {s2 : Nat} (I : iso tg r h s) (F : isf tg r hb h sb s) (T_v0 : tg v0 = 21) (T_s2 : tg s2 = 0) {res : (Int32 × Int32 × Int32 × Int32 × st_T) ⊕ ((Int32 × st_T) ⊕ ((Int32 × st_T) ⊕ ((Int32 × st_T) ⊕ ((Int32 × st_T) ⊕ (Int32 × st_T)))))} (hm : g_X11_readLetters_190 n v0 v5 s0 s1 s2 s = some res) : ∃ h2, f_X11_readLetters_190 n (r v0) v5 s0 s1 (r s2) h = some (eR_X11_readLetters_15 res h2) ∧ iso tg r h2 (sR_X11_readLetters_15 res) ∧ isf tg r hb h2 sb (sR_X11_readLetters_15 res) := by
  unfold g_X11_readLetters_190 at hm
  unfold f_X11_readLetters_190
  obtain ⟨w1, hw1, hm⟩ := hp_bd hm
  obtain ⟨_, e2, I, F⟩ := t_sI I F T_s2 (by decide) rfl hw1
  refine tr_eq e2 ?_
  refine tr_eq (t_fI I T_v0 (by decide) (by decide) rfl) ?_
  obtain ⟨w2, hw2, hm⟩ := hp_bd hm
  obtain ⟨_, e2, I, F⟩ := t_wF (c := 11) (k := 50) I F T_v0 (by decide) (by decide) rfl hw2
  refine tr_eq e2 ?_
  exact t_X11_readLetters_297 I F T_v0 hm
def g_X11_readLetters_78 (n : Nat) (v0 : Nat) (v2 : Int32) (v3 : Int32) (v4 : Int32) (v5 : Int32) (v6 : Int32) (s : st_T) : Option ((Int32 × Int32 × Int32 × Int32 × st_T) ⊕ ((Int32 × st_T) ⊕ ((Int32 × st_T) ⊕ ((Int32 × st_T) ⊕ ((Int32 × st_T) ⊕ (Int32 × st_T)))))) :=
  if v6 < (65 : Int32) then
    g_X11_readLetters_211 n v0 v2 v3 v4 v5 v6 s
  else
    if (84 : Int32) < v6 then
      g_X11_readLetters_211 n v0 v2 v3 v4 v5 v6 s
    else
      if (((((20 : Int32) * v2) + v6) - (65 : Int32)) + (1 : Int32)) ≤ ((gF s v0 46) + (gF s v0 53)) then
        if (gF s v0 50) = (1000 : Int32) then
          some (.inr (.inr (.inl (v5, s))))
        else
          if (gF s v0 46) < (((((20 : Int32) * v2) + v6) - (65 : Int32)) + (1 : Int32)) then
            g_X11_readLetters_190 n v0 v5 ((((1000 : Int32) + (((((20 : Int32) * v2) + v6) - (65 : Int32)) + (1 : Int32))) - (gF s v0 46)) - (1 : Int32)) (gF s v0 50) (gP s v0 49) s
          else
            (gA s (gP s v0 45) ((((((20 : Int32) * v2) + v6) - (65 : Int32)) + (1 : Int32)) - (1 : Int32))).bind fun x3 =>
            g_X11_readLetters_190 n v0 v5 x3 (gF s v0 50) (gP s v0 49) s
      else
        some (.inr (.inl (v5, s)))
set_option maxHeartbeats 1000000 in
theorem t_X11_readLetters_78 {tg r : Nat → Nat} {h hb : hp_H} {s sb : st_T} {n : Nat} {v0 : Nat} {v2 : Int32} {v3 : Int32} {v4 : Int32} {v5 : Int32} {v6 : Int32} (I : iso tg r h s) (F : isf tg r hb h sb s) (T_v0 : tg v0 = 21) {res : (Int32 × Int32 × Int32 × Int32 × st_T) ⊕ ((Int32 × st_T) ⊕ ((Int32 × st_T) ⊕ ((Int32 × st_T) ⊕ ((Int32 × st_T) ⊕ (Int32 × st_T)))))} (hm : g_X11_readLetters_78 n v0 v2 v3 v4 v5 v6 s = some res) : ∃ h2, f_X11_readLetters_78 n (r v0) v2 v3 v4 v5 v6 h = some (eR_X11_readLetters_15 res h2) ∧ iso tg r h2 (sR_X11_readLetters_15 res) ∧ isf tg r hb h2 sb (sR_X11_readLetters_15 res) := by
  unfold g_X11_readLetters_78 at hm
  unfold f_X11_readLetters_78
  by_cases c8 : v6 < (65 : Int32)
  · rw [if_pos c8] at hm ⊢
    exact t_X11_readLetters_211 I F T_v0 hm
  · rw [if_neg c8] at hm ⊢
    by_cases c7 : (84 : Int32) < v6
    · rw [if_pos c7] at hm ⊢
      exact t_X11_readLetters_211 I F T_v0 hm
    · rw [if_neg c7] at hm ⊢
      refine tr_eq (t_fI I T_v0 (by decide) (by decide) rfl) ?_
      refine tr_eq (t_fI I T_v0 (by decide) (by decide) rfl) ?_
      by_cases c6 : (((((20 : Int32) * v2) + v6) - (65 : Int32)) + (1 : Int32)) ≤ ((gF s v0 46) + (gF s v0 53))
      · rw [if_pos c6] at hm ⊢
        refine tr_eq (t_fI I T_v0 (by decide) (by decide) rfl) ?_
        by_cases c5 : (gF s v0 50) = (1000 : Int32)
        · rw [if_pos c5] at hm ⊢
          obtain rfl := Option.some.inj hm
          exact ⟨_, rfl, I, F⟩
        · rw [if_neg c5] at hm ⊢
          have T1 : tg (gP s v0 49) = 0 := t_tg (c := 11) I T_v0 (by decide) (by decide) rfl (by decide)
          refine tr_eq (t_fR I T_v0 (by decide) (by decide) (by decide)) ?_
          refine tr_eq (t_fI I T_v0 (by decide) (by decide) rfl) ?_
          refine tr_eq (t_fI I T_v0 (by decide) (by decide) rfl) ?_
          by_cases c4 : (gF s v0 46) < (((((20 : Int32) * v2) + v6) - (65 : Int32)) + (1 : Int32))
          · rw [if_pos c4] at hm ⊢
            refine tr_eq (t_fI I T_v0 (by decide) (by decide) rfl) ?_
            exact t_X11_readLetters_190 I F T_v0 T1 hm
          · rw [if_neg c4] at hm ⊢
            have T2 : tg (gP s v0 45) = 0 := t_tg (c := 11) I T_v0 (by decide) (by decide) rfl (by decide)
            refine tr_eq (t_fR I T_v0 (by decide) (by decide) (by decide)) ?_
            obtain ⟨x3, hx3, hm⟩ := hp_bd hm
            refine tr_eq (t_aI I T2 (by decide) rfl hx3) ?_
            exact t_X11_readLetters_190 I F T_v0 T1 hm
      · rw [if_neg c6] at hm ⊢
        obtain rfl := Option.some.inj hm
        exact ⟨_, rfl, I, F⟩
def g_X11_readLetters_69 (n : Nat) (v0 : Nat) (v5 : Int32) (s0 : Int32) (s : st_T) : Option ((Int32 × Int32 × Int32 × Int32 × st_T) ⊕ ((Int32 × st_T) ⊕ ((Int32 × st_T) ⊕ ((Int32 × st_T) ⊕ ((Int32 × st_T) ⊕ (Int32 × st_T)))))) :=
  g_X11_readLetters_297 n v0 s0 (1 : Int32) (0 : Int32) v5 s
set_option maxHeartbeats 1000000 in
theorem t_X11_readLetters_69 {tg r : Nat → Nat} {h hb : hp_H} {s sb : st_T} {n : Nat} {v0 : Nat} {v5 : Int32} {s0 : Int32} (I : iso tg r h s) (F : isf tg r hb h sb s) (T_v0 : tg v0 = 21) {res : (Int32 × Int32 × Int32 × Int32 × st_T) ⊕ ((Int32 × st_T) ⊕ ((Int32 × st_T) ⊕ ((Int32 × st_T) ⊕ ((Int32 × st_T) ⊕ (Int32 × st_T)))))} (hm : g_X11_readLetters_69 n v0 v5 s0 s = some res) : ∃ h2, f_X11_readLetters_69 n (r v0) v5 s0 h = some (eR_X11_readLetters_15 res h2) ∧ iso tg r h2 (sR_X11_readLetters_15 res) ∧ isf tg r hb h2 sb (sR_X11_readLetters_15 res) := by
  unfold g_X11_readLetters_69 at hm
  unfold f_X11_readLetters_69
  exact t_X11_readLetters_297 I F T_v0 hm
def g_X11_readLetters_15 (n : Nat) (v0 : Nat) (v2 : Int32) (v3 : Int32) (v4 : Int32) (v5 : Int32) (s : st_T) : Option ((Int32 × Int32 × Int32 × Int32 × st_T) ⊕ ((Int32 × st_T) ⊕ ((Int32 × st_T) ⊕ ((Int32 × st_T) ⊕ ((Int32 × st_T) ⊕ (Int32 × st_T)))))) :=
  if (gF s v0 48) ≤ v5 then
    some (.inr (.inr (.inr (.inr (.inr (v3, s))))))
  else
    (gA s (gP s v0 47) v5).bind fun x2 =>
    if x2 < (85 : Int32) then
      g_X11_readLetters_78 n v0 v2 v3 v4 v5 x2 s
    else
      if (89 : Int32) < x2 then
        g_X11_readLetters_78 n v0 v2 v3 v4 v5 x2 s
      else
        if v2 ≤ (100000 : Int32) then
          g_X11_readLetters_69 n v0 v5 (((((5 : Int32) * v2) + x2) - (85 : Int32)) + (1 : Int32)) s
        else
          g_X11_readLetters_69 n v0 v5 v2 s
set_option maxHeartbeats 1000000 in
theorem t_X11_readLetters_15 {tg r : Nat → Nat} {h hb : hp_H} {s sb : st_T} {n : Nat} {v0 : Nat} {v2 : Int32} {v3 : Int32} {v4 : Int32} {v5 : Int32} (I : iso tg r h s) (F : isf tg r hb h sb s) (T_v0 : tg v0 = 21) {res : (Int32 × Int32 × Int32 × Int32 × st_T) ⊕ ((Int32 × st_T) ⊕ ((Int32 × st_T) ⊕ ((Int32 × st_T) ⊕ ((Int32 × st_T) ⊕ (Int32 × st_T)))))} (hm : g_X11_readLetters_15 n v0 v2 v3 v4 v5 s = some res) : ∃ h2, f_X11_readLetters_15 n (r v0) v2 v3 v4 v5 h = some (eR_X11_readLetters_15 res h2) ∧ iso tg r h2 (sR_X11_readLetters_15 res) ∧ isf tg r hb h2 sb (sR_X11_readLetters_15 res) := by
  unfold g_X11_readLetters_15 at hm
  unfold f_X11_readLetters_15
  refine tr_eq (t_fI I T_v0 (by decide) (by decide) rfl) ?_
  by_cases c6 : (gF s v0 48) ≤ v5
  · rw [if_pos c6] at hm ⊢
    obtain rfl := Option.some.inj hm
    exact ⟨_, rfl, I, F⟩
  · rw [if_neg c6] at hm ⊢
    have T1 : tg (gP s v0 47) = 0 := t_tg (c := 11) I T_v0 (by decide) (by decide) rfl (by decide)
    refine tr_eq (t_fR I T_v0 (by decide) (by decide) (by decide)) ?_
    obtain ⟨x2, hx2, hm⟩ := hp_bd hm
    refine tr_eq (t_aI I T1 (by decide) rfl hx2) ?_
    by_cases c5 : x2 < (85 : Int32)
    · rw [if_pos c5] at hm ⊢
      exact t_X11_readLetters_78 I F T_v0 hm
    · rw [if_neg c5] at hm ⊢
      by_cases c4 : (89 : Int32) < x2
      · rw [if_pos c4] at hm ⊢
        exact t_X11_readLetters_78 I F T_v0 hm
      · rw [if_neg c4] at hm ⊢
        by_cases c3 : v2 ≤ (100000 : Int32)
        · rw [if_pos c3] at hm ⊢
          exact t_X11_readLetters_69 I F T_v0 hm
        · rw [if_neg c3] at hm ⊢
          exact t_X11_readLetters_69 I F T_v0 hm
def gL_X11_readLetters_15 (n : Nat) (v0 : Nat) (c : Int32 × Int32 × Int32 × Int32 × st_T) : Option ((Int32 × Int32 × Int32 × Int32 × st_T) ⊕ ((Int32 × st_T) ⊕ ((Int32 × st_T) ⊕ ((Int32 × st_T) ⊕ ((Int32 × st_T) ⊕ (Int32 × st_T)))))) := g_X11_readLetters_15 n v0 c.1 c.2.1 c.2.2.1 c.2.2.2.1 c.2.2.2.2
theorem tl_X11_readLetters_15 {tg r : Nat → Nat} {hb : hp_H} {sb : st_T} {n : Nat} {v0 : Nat} (T_v0 : tg v0 = 21) : ∀ (k : Nat) (c0 : Int32) (c1 : Int32) (c2 : Int32) (c3 : Int32) (h : hp_H) (s : st_T) (x : (Int32 × st_T) ⊕ ((Int32 × st_T) ⊕ ((Int32 × st_T) ⊕ ((Int32 × st_T) ⊕ (Int32 × st_T))))), iso tg r h s → isf tg r hb h sb s → hp_lp (gL_X11_readLetters_15 n v0) k (c0, c1, c2, c3, s) = some x → ∃ h2, hp_lp (fL_X11_readLetters_15 n (r v0)) k (c0, c1, c2, c3, h) = some (eX_X11_readLetters_15 x h2) ∧ iso tg r h2 (sX_X11_readLetters_15 x) ∧ isf tg r hb h2 sb (sX_X11_readLetters_15 x) := by
  intro k
  induction k with
  | zero => intro c0 c1 c2 c3 h s x I F hx; exact (hp_lp_0 hx).elim
  | succ k ih =>
    intro c0 c1 c2 c3 h s x I F hx
    obtain ⟨rr, hr, hc⟩ := hp_lp_1 hx
    obtain ⟨h2, e2, I2, F2⟩ := t_X11_readLetters_15 I F T_v0 hr
    rcases hc with ⟨s3, e3, hx3⟩ | e3
    · subst e3
      obtain ⟨h3, e4, I3, F3⟩ := ih _ _ _ _ h2 _ x I2 F2 hx3
      exact ⟨h3, hp_lp_s e2 e4, I3, F3⟩
    · subst e3
      exact ⟨h2, hp_lp_x e2, I2, F2⟩
def g_X11_readLetters_288 (n : Nat) (v0 : Nat) (v5 : Int32) (s : st_T) : Option (Int32 × st_T) :=
  (g_X11_fails n v0 (-3 : Int32) v5 s).bind fun x1 =>
  (hp_bz x1.1).bind fun _ =>
  some (x1.1, x1.2)
set_option maxHeartbeats 1000000 in
theorem t_X11_readLetters_288 {tg r : Nat → Nat} {h hb : hp_H} {s sb : st_T} {n : Nat} {v0 : Nat} {v5 : Int32} (I : iso tg r h s) (F : isf tg r hb h sb s) (T_v0 : tg v0 = 21) {res : Int32 × st_T} (hm : g_X11_readLetters_288 n v0 v5 s = some res) : ∃ h2, f_X11_readLetters_288 n (r v0) v5 h = some ((res.1, h2)) ∧ iso tg r h2 res.2 ∧ isf tg r hb h2 sb res.2 := by
  unfold g_X11_readLetters_288 at hm
  unfold f_X11_readLetters_288
  obtain ⟨x1, hx1, hm⟩ := hp_bd hm
  obtain ⟨_, e2, I, F⟩ := t_X11_fails I F T_v0 hx1
  refine tr_eq e2 ?_
  try dsimp only
  obtain ⟨_, hu2, hm⟩ := hp_bd hm
  refine tr_eq hu2 ?_
  obtain rfl := Option.some.inj hm
  exact ⟨_, rfl, I, F⟩
def g_X11_readLetters_327 (n : Nat) (s : st_T) : Option (Int32 × st_T) :=
  some ((1 : Int32), s)
set_option maxHeartbeats 1000000 in
theorem t_X11_readLetters_327 {tg r : Nat → Nat} {h hb : hp_H} {s sb : st_T} {n : Nat} (I : iso tg r h s) (F : isf tg r hb h sb s) {res : Int32 × st_T} (hm : g_X11_readLetters_327 n  s = some res) : ∃ h2, f_X11_readLetters_327 n  h = some ((res.1, h2)) ∧ iso tg r h2 res.2 ∧ isf tg r hb h2 sb res.2 := by
  unfold g_X11_readLetters_327 at hm
  unfold f_X11_readLetters_327
  obtain rfl := Option.some.inj hm
  exact ⟨_, rfl, I, F⟩
def g_X11_readLetters_314 (n : Nat) (v0 : Nat) (s : st_T) : Option (Int32 × st_T) :=
  (g_X11_fails n v0 (-3 : Int32) (gF s v0 48) s).bind fun x1 =>
  if x1.1 = 0 then
    some ((0 : Int32), x1.2)
  else
    g_X11_readLetters_327 n  x1.2
set_option maxHeartbeats 1000000 in
theorem t_X11_readLetters_314 {tg r : Nat → Nat} {h hb : hp_H} {s sb : st_T} {n : Nat} {v0 : Nat} (I : iso tg r h s) (F : isf tg r hb h sb s) (T_v0 : tg v0 = 21) {res : Int32 × st_T} (hm : g_X11_readLetters_314 n v0 s = some res) : ∃ h2, f_X11_readLetters_314 n (r v0) h = some ((res.1, h2)) ∧ iso tg r h2 res.2 ∧ isf tg r hb h2 sb res.2 := by
  unfold g_X11_readLetters_314 at hm
  unfold f_X11_readLetters_314
  refine tr_eq (t_fI I T_v0 (by decide) (by decide) rfl) ?_
  obtain ⟨x1, hx1, hm⟩ := hp_bd hm
  obtain ⟨_, e2, I, F⟩ := t_X11_fails I F T_v0 hx1
  refine tr_eq e2 ?_
  try dsimp only
  by_cases c2 : x1.1 = 0
  · rw [if_pos c2] at hm ⊢
    obtain rfl := Option.some.inj hm
    exact ⟨_, rfl, I, F⟩
  · rw [if_neg c2] at hm ⊢
    exact t_X11_readLetters_327 I F  hm
def g_X11_readLetters_0 (n : Nat) (v0 : Nat) (v1 : Int32) (s : st_T) : Option (Int32 × st_T) :=
  (g_X11_takeLetters n v0 v1 s).bind fun x1 =>
  (hp_lp (gL_X11_readLetters_15 n v0) n ((0 : Int32), (0 : Int32), (0 : Int32), (0 : Int32), x1)).bind fun x2 =>
  Sum.elim (fun y3 =>
    (g_X11_fails n v0 (-3 : Int32) y3.1 y3.2).bind fun x8 =>
    (hp_bz x8.1).bind fun _ =>
    some (x8.1, x8.2)) (Sum.elim (fun y4 =>
    (g_X11_fails n v0 (-10 : Int32) y4.1 y4.2).bind fun x10 =>
    (hp_bz x10.1).bind fun _ =>
    some (x10.1, x10.2)) (Sum.elim (fun y5 =>
    (g_X11_fails n v0 (-10 : Int32) y5.1 y5.2).bind fun x12 =>
    (hp_bz x12.1).bind fun _ =>
    some (x12.1, x12.2)) (Sum.elim (fun y6 =>
    g_X11_readLetters_288 n v0 y6.1 y6.2) (fun y7 =>
    if y7.1 = 0 then
      if 0 < (gF y7.2 v0 48) then
        g_X11_readLetters_327 n  y7.2
      else
        g_X11_readLetters_314 n v0 y7.2
    else
      g_X11_readLetters_314 n v0 y7.2)))) x2
set_option maxHeartbeats 1000000 in
theorem t_X11_readLetters_0 {tg r : Nat → Nat} {h hb : hp_H} {s sb : st_T} {n : Nat} {v0 : Nat} {v1 : Int32} (I : iso tg r h s) (F : isf tg r hb h sb s) (T_v0 : tg v0 = 21) {res : Int32 × st_T} (hm : g_X11_readLetters_0 n v0 v1 s = some res) : ∃ h2, f_X11_readLetters_0 n (r v0) v1 h = some ((res.1, h2)) ∧ iso tg r h2 res.2 ∧ isf tg r hb h2 sb res.2 := by
  unfold g_X11_readLetters_0 at hm
  unfold f_X11_readLetters_0
  obtain ⟨x1, hx1, hm⟩ := hp_bd hm
  obtain ⟨_, e2, I, F⟩ := t_X11_takeLetters I F T_v0 hx1
  refine tr_eq e2 ?_
  obtain ⟨x2, hx2, hm⟩ := hp_bd hm
  obtain ⟨_, e2, I, F⟩ := tl_X11_readLetters_15 T_v0 n _ _ _ _ _ _ _ I F hx2
  refine tr_eq e2 ?_
  rcases x2 with y3 | y4 | y5 | y6 | y7
  · simp only [eX_X11_readLetters_15, Sum.elim_inl, Sum.elim_inr] at hm ⊢
    replace I : iso tg _ _ y3.2 := I
    replace F : isf tg _ _ _ _ y3.2 := F
    obtain ⟨x8, hx8, hm⟩ := hp_bd hm
    obtain ⟨_, e2, I, F⟩ := t_X11_fails I F T_v0 hx8
    refine tr_eq e2 ?_
    try dsimp only
    obtain ⟨_, hu9, hm⟩ := hp_bd hm
    refine tr_eq hu9 ?_
    obtain rfl := Option.some.inj hm
    exact ⟨_, rfl, I, F⟩
  · simp only [eX_X11_readLetters_15, Sum.elim_inl, Sum.elim_inr] at hm ⊢
    replace I : iso tg _ _ y4.2 := I
    replace F : isf tg _ _ _ _ y4.2 := F
    obtain ⟨x10, hx10, hm⟩ := hp_bd hm
    obtain ⟨_, e2, I, F⟩ := t_X11_fails I F T_v0 hx10
    refine tr_eq e2 ?_
    try dsimp only
    obtain ⟨_, hu11, hm⟩ := hp_bd hm
    refine tr_eq hu11 ?_
    obtain rfl := Option.some.inj hm
    exact ⟨_, rfl, I, F⟩
  · simp only [eX_X11_readLetters_15, Sum.elim_inl, Sum.elim_inr] at hm ⊢
    replace I : iso tg _ _ y5.2 := I
    replace F : isf tg _ _ _ _ y5.2 := F
    obtain ⟨x12, hx12, hm⟩ := hp_bd hm
    obtain ⟨_, e2, I, F⟩ := t_X11_fails I F T_v0 hx12
    refine tr_eq e2 ?_
    try dsimp only
    obtain ⟨_, hu13, hm⟩ := hp_bd hm
    refine tr_eq hu13 ?_
    obtain rfl := Option.some.inj hm
    exact ⟨_, rfl, I, F⟩
  · simp only [eX_X11_readLetters_15, Sum.elim_inl, Sum.elim_inr] at hm ⊢
    replace I : iso tg _ _ y6.2 := I
    replace F : isf tg _ _ _ _ y6.2 := F
    exact t_X11_readLetters_288 I F T_v0 hm
  · simp only [eX_X11_readLetters_15, Sum.elim_inl, Sum.elim_inr] at hm ⊢
    replace I : iso tg _ _ y7.2 := I
    replace F : isf tg _ _ _ _ y7.2 := F
    by_cases c15 : y7.1 = 0
    · rw [if_pos c15] at hm ⊢
      refine tr_eq (t_fI I T_v0 (by decide) (by decide) rfl) ?_
      by_cases c14 : 0 < (gF y7.2 v0 48)
      · rw [if_pos c14] at hm ⊢
        exact t_X11_readLetters_327 I F  hm
      · rw [if_neg c14] at hm ⊢
        exact t_X11_readLetters_314 I F T_v0 hm
    · rw [if_neg c15] at hm ⊢
      exact t_X11_readLetters_314 I F T_v0 hm
def g_X11_readLetters (n : Nat) (v0 : Nat) (v1 : Int32) (s : st_T) : Option (Int32 × st_T) := g_X11_readLetters_0 n v0 v1 s
theorem t_X11_readLetters {tg r : Nat → Nat} {h hb : hp_H} {s sb : st_T} {n : Nat} {v0 : Nat} {v1 : Int32} (I : iso tg r h s) (F : isf tg r hb h sb s) (T_v0 : tg v0 = 21) {res : Int32 × st_T} (hm : g_X11_readLetters n v0 v1 s = some res) : ∃ h2, f_X11_readLetters n (r v0) v1 h = some ((res.1, h2)) ∧ iso tg r h2 res.2 ∧ isf tg r hb h2 sb res.2 := by
  unfold g_X11_readLetters at hm
  unfold f_X11_readLetters
  refine tr_eq (t_ck I T_v0 (by decide)) ?_
  exact t_X11_readLetters_0 I F T_v0 hm
abbrev eX_X11_readProof_28 (x : st_T) (h2 : hp_H) : hp_H := (fun y => h2) x
abbrev sX_X11_readProof_28 (x : st_T) : st_T := (fun y => y) x
abbrev eR_X11_readProof_28 (x : (Int32 × st_T) ⊕ (st_T)) (h2 : hp_H) : (Int32 × hp_H) ⊕ (hp_H) := Sum.elim (fun y => .inl (y.1, h2)) (fun y => .inr (eX_X11_readProof_28 y h2)) x
abbrev sR_X11_readProof_28 (x : (Int32 × st_T) ⊕ (st_T)) : st_T := Sum.elim (fun y => y.2) sX_X11_readProof_28 x
def g_X11_readProof_28 (n : Nat) (v0 : Nat) (v1 : Int32) (v2 : Int32) (v3 : Int32) (s : st_T) : Option ((Int32 × st_T) ⊕ (st_T)) :=
  if (1000 : Int32) ≤ v3 then
    some (.inr s)
  else
    (uA 0 s (gP s v0 52) v3 (-1 : Int32)).bind fun w2 =>
    some (.inl ((v3 + (1 : Int32)), w2))
set_option maxHeartbeats 1000000 in
theorem t_X11_readProof_28 {tg r : Nat → Nat} {h hb : hp_H} {s sb : st_T} {n : Nat} {v0 : Nat} {v1 : Int32} {v2 : Int32} {v3 : Int32} (I : iso tg r h s) (F : isf tg r hb h sb s) (T_v0 : tg v0 = 21) {res : (Int32 × st_T) ⊕ (st_T)} (hm : g_X11_readProof_28 n v0 v1 v2 v3 s = some res) : ∃ h2, f_X11_readProof_28 n (r v0) v1 v2 v3 h = some (eR_X11_readProof_28 res h2) ∧ iso tg r h2 (sR_X11_readProof_28 res) ∧ isf tg r hb h2 sb (sR_X11_readProof_28 res) := by
  unfold g_X11_readProof_28 at hm
  unfold f_X11_readProof_28
  by_cases c3 : (1000 : Int32) ≤ v3
  · rw [if_pos c3] at hm ⊢
    obtain rfl := Option.some.inj hm
    exact ⟨_, rfl, I, F⟩
  · rw [if_neg c3] at hm ⊢
    have T1 : tg (gP s v0 52) = 0 := t_tg (c := 11) I T_v0 (by decide) (by decide) rfl (by decide)
    refine tr_eq (t_fR I T_v0 (by decide) (by decide) (by decide)) ?_
    obtain ⟨w2, hw2, hm⟩ := hp_bd hm
    obtain ⟨_, e2, I, F⟩ := t_sI I F T1 (by decide) rfl hw2
    refine tr_eq e2 ?_
    obtain rfl := Option.some.inj hm
    exact ⟨_, rfl, I, F⟩
def gL_X11_readProof_28 (n : Nat) (v0 : Nat) (v1 : Int32) (v2 : Int32) (c : Int32 × st_T) : Option ((Int32 × st_T) ⊕ (st_T)) := g_X11_readProof_28 n v0 v1 v2 c.1 c.2
theorem tl_X11_readProof_28 {tg r : Nat → Nat} {hb : hp_H} {sb : st_T} {n : Nat} {v0 : Nat} {v1 : Int32} {v2 : Int32} (T_v0 : tg v0 = 21) : ∀ (k : Nat) (c0 : Int32) (h : hp_H) (s : st_T) (x : st_T), iso tg r h s → isf tg r hb h sb s → hp_lp (gL_X11_readProof_28 n v0 v1 v2) k (c0, s) = some x → ∃ h2, hp_lp (fL_X11_readProof_28 n (r v0) v1 v2) k (c0, h) = some (eX_X11_readProof_28 x h2) ∧ iso tg r h2 (sX_X11_readProof_28 x) ∧ isf tg r hb h2 sb (sX_X11_readProof_28 x) := by
  intro k
  induction k with
  | zero => intro c0 h s x I F hx; exact (hp_lp_0 hx).elim
  | succ k ih =>
    intro c0 h s x I F hx
    obtain ⟨rr, hr, hc⟩ := hp_lp_1 hx
    obtain ⟨h2, e2, I2, F2⟩ := t_X11_readProof_28 I F T_v0 hr
    rcases hc with ⟨s3, e3, hx3⟩ | e3
    · subst e3
      obtain ⟨h3, e4, I3, F3⟩ := ih _ h2 _ x I2 F2 hx3
      exact ⟨h3, hp_lp_s e2 e4, I3, F3⟩
    · subst e3
      exact ⟨h2, hp_lp_x e2, I2, F2⟩
abbrev eX_X11_readProof_91 (x : (Int32 × st_T) ⊕ (Int32 × st_T)) (h2 : hp_H) : (Int32 × hp_H) ⊕ (Int32 × hp_H) := (Sum.elim (fun y => (.inl (y.1, h2))) (fun y => (.inr (y.1, h2)))) x
abbrev sX_X11_readProof_91 (x : (Int32 × st_T) ⊕ (Int32 × st_T)) : st_T := (Sum.elim (fun y => y.2) (fun y => y.2)) x
abbrev eR_X11_readProof_91 (x : (Int32 × st_T) ⊕ ((Int32 × st_T) ⊕ (Int32 × st_T))) (h2 : hp_H) : (Int32 × hp_H) ⊕ ((Int32 × hp_H) ⊕ (Int32 × hp_H)) := Sum.elim (fun y => .inl (y.1, h2)) (fun y => .inr (eX_X11_readProof_91 y h2)) x
abbrev sR_X11_readProof_91 (x : (Int32 × st_T) ⊕ ((Int32 × st_T) ⊕ (Int32 × st_T))) : st_T := Sum.elim (fun y => y.2) sX_X11_readProof_91 x
def g_X11_readProof_91 (n : Nat) (v0 : Nat) (v1 : Int32) (v2 : Int32) (v3 : Int32) (s : st_T) : Option ((Int32 × st_T) ⊕ ((Int32 × st_T) ⊕ (Int32 × st_T))) :=
  if v2 ≤ v3 then
    some (.inr (.inr ((1 : Int32), s)))
  else
    (g_X11_namedBy n v0 v1 v3 s).bind fun x1 =>
    (g_X11_mayName n v0 v1 x1 s).bind fun x2 =>
    if x2 = 0 then
      some (.inr (.inl (v3, s)))
    else
      (uA 0 s (gP s v0 49) (gF s v0 50) x1).bind fun w4 =>
      (wF w4 v0 50 ((gF w4 v0 50) + (1 : Int32))).bind fun w5 =>
      some (.inl ((v3 + (1 : Int32)), w5))
set_option maxHeartbeats 1000000 in
theorem t_X11_readProof_91 {tg r : Nat → Nat} {h hb : hp_H} {s sb : st_T} {n : Nat} {v0 : Nat} {v1 : Int32} {v2 : Int32} {v3 : Int32} (I : iso tg r h s) (F : isf tg r hb h sb s) (T_v0 : tg v0 = 21) {res : (Int32 × st_T) ⊕ ((Int32 × st_T) ⊕ (Int32 × st_T))} (hm : g_X11_readProof_91 n v0 v1 v2 v3 s = some res) : ∃ h2, f_X11_readProof_91 n (r v0) v1 v2 v3 h = some (eR_X11_readProof_91 res h2) ∧ iso tg r h2 (sR_X11_readProof_91 res) ∧ isf tg r hb h2 sb (sR_X11_readProof_91 res) := by
  unfold g_X11_readProof_91 at hm
  unfold f_X11_readProof_91
  by_cases c7 : v2 ≤ v3
  · rw [if_pos c7] at hm ⊢
    obtain rfl := Option.some.inj hm
    exact ⟨_, rfl, I, F⟩
  · rw [if_neg c7] at hm ⊢
    obtain ⟨x1, hx1, hm⟩ := hp_bd hm
    refine tr_eq (t_X11_namedBy I T_v0 hx1) ?_
    obtain ⟨x2, hx2, hm⟩ := hp_bd hm
    refine tr_eq (t_X11_mayName I T_v0 hx2) ?_
    by_cases c6 : x2 = 0
    · rw [if_pos c6] at hm ⊢
      obtain rfl := Option.some.inj hm
      exact ⟨_, rfl, I, F⟩
    · rw [if_neg c6] at hm ⊢
      have T3 : tg (gP s v0 49) = 0 := t_tg (c := 11) I T_v0 (by decide) (by decide) rfl (by decide)
      refine tr_eq (t_fR I T_v0 (by decide) (by decide) (by decide)) ?_
      refine tr_eq (t_fI I T_v0 (by decide) (by decide) rfl) ?_
      obtain ⟨w4, hw4, hm⟩ := hp_bd hm
      obtain ⟨_, e2, I, F⟩ := t_sI I F T3 (by decide) rfl hw4
      refine tr_eq e2 ?_
      refine tr_eq (t_fI I T_v0 (by decide) (by decide) rfl) ?_
      obtain ⟨w5, hw5, hm⟩ := hp_bd hm
      obtain ⟨_, e2, I, F⟩ := t_wF (c := 11) (k := 50) I F T_v0 (by decide) (by decide) rfl hw5
      refine tr_eq e2 ?_
      obtain rfl := Option.some.inj hm
      exact ⟨_, rfl, I, F⟩
def gL_X11_readProof_91 (n : Nat) (v0 : Nat) (v1 : Int32) (v2 : Int32) (c : Int32 × st_T) : Option ((Int32 × st_T) ⊕ ((Int32 × st_T) ⊕ (Int32 × st_T))) := g_X11_readProof_91 n v0 v1 v2 c.1 c.2
theorem tl_X11_readProof_91 {tg r : Nat → Nat} {hb : hp_H} {sb : st_T} {n : Nat} {v0 : Nat} {v1 : Int32} {v2 : Int32} (T_v0 : tg v0 = 21) : ∀ (k : Nat) (c0 : Int32) (h : hp_H) (s : st_T) (x : (Int32 × st_T) ⊕ (Int32 × st_T)), iso tg r h s → isf tg r hb h sb s → hp_lp (gL_X11_readProof_91 n v0 v1 v2) k (c0, s) = some x → ∃ h2, hp_lp (fL_X11_readProof_91 n (r v0) v1 v2) k (c0, h) = some (eX_X11_readProof_91 x h2) ∧ iso tg r h2 (sX_X11_readProof_91 x) ∧ isf tg r hb h2 sb (sX_X11_readProof_91 x) := by
  intro k
  induction k with
  | zero => intro c0 h s x I F hx; exact (hp_lp_0 hx).elim
  | succ k ih =>
    intro c0 h s x I F hx
    obtain ⟨rr, hr, hc⟩ := hp_lp_1 hx
    obtain ⟨h2, e2, I2, F2⟩ := t_X11_readProof_91 I F T_v0 hr
    rcases hc with ⟨s3, e3, hx3⟩ | e3
    · subst e3
      obtain ⟨h3, e4, I3, F3⟩ := ih _ h2 _ x I2 F2 hx3
      exact ⟨h3, hp_lp_s e2 e4, I3, F3⟩
    · subst e3
      exact ⟨h2, hp_lp_x e2, I2, F2⟩
def g_X11_readProof_0 (n : Nat) (v0 : Nat) (v1 : Int32) (s : st_T) : Option (Int32 × st_T) :=
  (g_X11_at n v0 v1 s).bind fun x2 =>
  (gA s (gP s v0 17) x2).bind fun x3 =>
  (wF s v0 50 (0 : Int32)).bind fun w4 =>
  (wF w4 v0 53 (0 : Int32)).bind fun w5 =>
  (wF w5 v0 46 (0 : Int32)).bind fun w6 =>
  (hp_lp (gL_X11_readProof_28 n v0 v1 x3) n ((0 : Int32), w6)).bind fun x7 =>
  if x3 = 0 then
    (g_X11_fails n v0 (-1 : Int32) (0 : Int32) x7).bind fun x20 =>
    (hp_bz x20.1).bind fun _ =>
    some (x20.1, x20.2)
  else
    (g_X11_isCompressed n v0 v1 x7).bind fun x9 =>
    if x9 = 0 then
      (hp_lp (gL_X11_readProof_91 n v0 v1 x3) n ((0 : Int32), x7)).bind fun x10 =>
      Sum.elim (fun y11 =>
        (g_X11_fails n v0 (-2 : Int32) y11.1 y11.2).bind fun x13 =>
        (hp_bz x13.1).bind fun _ =>
        some (x13.1, x13.2)) (fun y12 =>
        some (y12.1, y12.2)) x10
    else
      (g_X11_readList n v0 v1 x7).bind fun x15 =>
      if x15.1 = 0 then
        some ((0 : Int32), x15.2)
      else
        (g_X11_readLetters n v0 v1 x15.2).bind fun x16 =>
        if x16.1 = 0 then
          some ((0 : Int32), x16.2)
        else
          some ((1 : Int32), x16.2)
set_option maxHeartbeats 1000000 in
theorem t_X11_readProof_0 {tg r : Nat → Nat} {h hb : hp_H} {s sb : st_T} {n : Nat} {v0 : Nat} {v1 : Int32} (I : iso tg r h s) (F : isf tg r hb h sb s) (T_v0 : tg v0 = 21) {res : Int32 × st_T} (hm : g_X11_readProof_0 n v0 v1 s = some res) : ∃ h2, f_X11_readProof_0 n (r v0) v1 h = some ((res.1, h2)) ∧ iso tg r h2 res.2 ∧ isf tg r hb h2 sb res.2 := by
  unfold g_X11_readProof_0 at hm
  unfold f_X11_readProof_0
  have T1 : tg (gP s v0 17) = 0 := t_tg (c := 11) I T_v0 (by decide) (by decide) rfl (by decide)
  refine tr_eq (t_fR I T_v0 (by decide) (by decide) (by decide)) ?_
  obtain ⟨x2, hx2, hm⟩ := hp_bd hm
  refine tr_eq (t_X11_at I T_v0 hx2) ?_
  obtain ⟨x3, hx3, hm⟩ := hp_bd hm
  refine tr_eq (t_aI I T1 (by decide) rfl hx3) ?_
  obtain ⟨w4, hw4, hm⟩ := hp_bd hm
  obtain ⟨_, e2, I, F⟩ := t_wF (c := 11) (k := 50) I F T_v0 (by decide) (by decide) rfl hw4
  refine tr_eq e2 ?_
  obtain ⟨w5, hw5, hm⟩ := hp_bd hm
  obtain ⟨_, e2, I, F⟩ := t_wF (c := 11) (k := 53) I F T_v0 (by decide) (by decide) rfl hw5
  refine tr_eq e2 ?_
  obtain ⟨w6, hw6, hm⟩ := hp_bd hm
  obtain ⟨_, e2, I, F⟩ := t_wF (c := 11) (k := 46) I F T_v0 (by decide) (by decide) rfl hw6
  refine tr_eq e2 ?_
  obtain ⟨x7, hx7, hm⟩ := hp_bd hm
  obtain ⟨_, e2, I, F⟩ := tl_X11_readProof_28 T_v0 n _ _ _ _ I F hx7
  refine tr_eq e2 ?_
  try dsimp only [eX_X11_readProof_28]
  replace I : iso tg _ _ x7 := I
  replace F : isf tg _ _ _ _ x7 := F
  by_cases c22 : x3 = 0
  · rw [if_pos c22] at hm ⊢
    obtain ⟨x20, hx20, hm⟩ := hp_bd hm
    obtain ⟨_, e2, I, F⟩ := t_X11_fails I F T_v0 hx20
    refine tr_eq e2 ?_
    try dsimp only
    obtain ⟨_, hu21, hm⟩ := hp_bd hm
    refine tr_eq hu21 ?_
    obtain rfl := Option.some.inj hm
    exact ⟨_, rfl, I, F⟩
  · rw [if_neg c22] at hm ⊢
    obtain ⟨x9, hx9, hm⟩ := hp_bd hm
    refine tr_eq (t_X11_isCompressed I T_v0 hx9) ?_
    by_cases c19 : x9 = 0
    · rw [if_pos c19] at hm ⊢
      obtain ⟨x10, hx10, hm⟩ := hp_bd hm
      obtain ⟨_, e2, I, F⟩ := tl_X11_readProof_91 T_v0 n _ _ _ _ I F hx10
      refine tr_eq e2 ?_
      rcases x10 with y11 | y12
      · simp only [eX_X11_readProof_91, Sum.elim_inl, Sum.elim_inr] at hm ⊢
        replace I : iso tg _ _ y11.2 := I
        replace F : isf tg _ _ _ _ y11.2 := F
        obtain ⟨x13, hx13, hm⟩ := hp_bd hm
        obtain ⟨_, e2, I, F⟩ := t_X11_fails I F T_v0 hx13
        refine tr_eq e2 ?_
        try dsimp only
        obtain ⟨_, hu14, hm⟩ := hp_bd hm
        refine tr_eq hu14 ?_
        obtain rfl := Option.some.inj hm
        exact ⟨_, rfl, I, F⟩
      · simp only [eX_X11_readProof_91, Sum.elim_inl, Sum.elim_inr] at hm ⊢
        replace I : iso tg _ _ y12.2 := I
        replace F : isf tg _ _ _ _ y12.2 := F
        obtain rfl := Option.some.inj hm
        exact ⟨_, rfl, I, F⟩
    · rw [if_neg c19] at hm ⊢
      obtain ⟨x15, hx15, hm⟩ := hp_bd hm
      obtain ⟨_, e2, I, F⟩ := t_X11_readList I F T_v0 hx15
      refine tr_eq e2 ?_
      try dsimp only
      by_cases c18 : x15.1 = 0
      · rw [if_pos c18] at hm ⊢
        obtain rfl := Option.some.inj hm
        exact ⟨_, rfl, I, F⟩
      · rw [if_neg c18] at hm ⊢
        obtain ⟨x16, hx16, hm⟩ := hp_bd hm
        obtain ⟨_, e2, I, F⟩ := t_X11_readLetters I F T_v0 hx16
        refine tr_eq e2 ?_
        try dsimp only
        by_cases c17 : x16.1 = 0
        · rw [if_pos c17] at hm ⊢
          obtain rfl := Option.some.inj hm
          exact ⟨_, rfl, I, F⟩
        · rw [if_neg c17] at hm ⊢
          obtain rfl := Option.some.inj hm
          exact ⟨_, rfl, I, F⟩
def g_X11_readProof (n : Nat) (v0 : Nat) (v1 : Int32) (s : st_T) : Option (Int32 × st_T) := g_X11_readProof_0 n v0 v1 s
theorem t_X11_readProof {tg r : Nat → Nat} {h hb : hp_H} {s sb : st_T} {n : Nat} {v0 : Nat} {v1 : Int32} (I : iso tg r h s) (F : isf tg r hb h sb s) (T_v0 : tg v0 = 21) {res : Int32 × st_T} (hm : g_X11_readProof n v0 v1 s = some res) : ∃ h2, f_X11_readProof n (r v0) v1 h = some ((res.1, h2)) ∧ iso tg r h2 res.2 ∧ isf tg r hb h2 sb res.2 := by
  unfold g_X11_readProof at hm
  unfold f_X11_readProof
  refine tr_eq (t_ck I T_v0 (by decide)) ?_
  exact t_X11_readProof_0 I F T_v0 hm
def g_X11_thing_0 (n : Nat) (v1 : Int32) (s : st_T) : Option (Int32) :=
  some ((200 : Int32) * v1)
set_option maxHeartbeats 1000000 in
theorem t_X11_thing_0 {tg r : Nat → Nat} {h : hp_H} {s : st_T} {n : Nat} {v1 : Int32} (I : iso tg r h s) {res : Int32} (hm : g_X11_thing_0 n v1 s = some res) : f_X11_thing_0 n v1 h = some res := by
  unfold g_X11_thing_0 at hm
  unfold f_X11_thing_0
  obtain rfl := Option.some.inj hm
  rfl
def g_X11_thing (n : Nat) (v0 : Nat) (v1 : Int32) (s : st_T) : Option (Int32) := g_X11_thing_0 n v1 s
theorem t_X11_thing {tg r : Nat → Nat} {h : hp_H} {s : st_T} {n : Nat} {v0 : Nat} {v1 : Int32} (I : iso tg r h s) (T_v0 : tg v0 = 21) {res : Int32} (hm : g_X11_thing n v0 v1 s = some res) : f_X11_thing n (r v0) v1 h = some res := by
  unfold g_X11_thing at hm
  unfold f_X11_thing
  refine tr_eq0 (t_ck I T_v0 (by decide)) ?_
  exact t_X11_thing_0 I  hm
def g_X11_endThing_97 (n : Nat) (v0 : Nat) (s : st_T) : Option (st_T) :=
  (wF s v0 59 ((gF s v0 59) + (1 : Int32))).bind fun w1 =>
  some w1
set_option maxHeartbeats 1000000 in
theorem t_X11_endThing_97 {tg r : Nat → Nat} {h hb : hp_H} {s sb : st_T} {n : Nat} {v0 : Nat} (I : iso tg r h s) (F : isf tg r hb h sb s) (T_v0 : tg v0 = 21) {res : st_T} (hm : g_X11_endThing_97 n v0 s = some res) : ∃ h2, f_X11_endThing_97 n (r v0) h = some (h2) ∧ iso tg r h2 res ∧ isf tg r hb h2 sb res := by
  unfold g_X11_endThing_97 at hm
  unfold f_X11_endThing_97
  refine tr_eq (t_fI I T_v0 (by decide) (by decide) rfl) ?_
  obtain ⟨w1, hw1, hm⟩ := hp_bd hm
  obtain ⟨_, e2, I, F⟩ := t_wF (c := 11) (k := 59) I F T_v0 (by decide) (by decide) rfl hw1
  refine tr_eq e2 ?_
  obtain rfl := Option.some.inj hm
  exact ⟨_, rfl, I, F⟩
abbrev eX_X11_endThing_51 (x : st_T) (h2 : hp_H) : hp_H := (fun y => h2) x
abbrev sX_X11_endThing_51 (x : st_T) : st_T := (fun y => y) x
abbrev eR_X11_endThing_51 (x : (Int32 × st_T) ⊕ (st_T)) (h2 : hp_H) : (Int32 × hp_H) ⊕ (hp_H) := Sum.elim (fun y => .inl (y.1, h2)) (fun y => .inr (eX_X11_endThing_51 y h2)) x
abbrev sR_X11_endThing_51 (x : (Int32 × st_T) ⊕ (st_T)) : st_T := Sum.elim (fun y => y.2) sX_X11_endThing_51 x
def g_X11_endThing_51 (n : Nat) (v0 : Nat) (v3 : Int32) (v4 : Int32) (s : st_T) : Option ((Int32 × st_T) ⊕ (st_T)) :=
  (gA s (gP s v0 61) v3).bind fun x2 =>
  if x2 ≤ v4 then
    some (.inr s)
  else
    (g_X11_thing n v0 (gF s v0 59) s).bind fun x5 =>
    (gA s (gP s v0 56) (x5 + v4)).bind fun x6 =>
    (uA 0 s (gP s v0 60) (((200 : Int32) * v3) + v4) x6).bind fun w7 =>
    some (.inl ((v4 + (1 : Int32)), w7))
set_option maxHeartbeats 1000000 in
theorem t_X11_endThing_51 {tg r : Nat → Nat} {h hb : hp_H} {s sb : st_T} {n : Nat} {v0 : Nat} {v3 : Int32} {v4 : Int32} (I : iso tg r h s) (F : isf tg r hb h sb s) (T_v0 : tg v0 = 21) {res : (Int32 × st_T) ⊕ (st_T)} (hm : g_X11_endThing_51 n v0 v3 v4 s = some res) : ∃ h2, f_X11_endThing_51 n (r v0) v3 v4 h = some (eR_X11_endThing_51 res h2) ∧ iso tg r h2 (sR_X11_endThing_51 res) ∧ isf tg r hb h2 sb (sR_X11_endThing_51 res) := by
  unfold g_X11_endThing_51 at hm
  unfold f_X11_endThing_51
  have T1 : tg (gP s v0 61) = 0 := t_tg (c := 11) I T_v0 (by decide) (by decide) rfl (by decide)
  refine tr_eq (t_fR I T_v0 (by decide) (by decide) (by decide)) ?_
  obtain ⟨x2, hx2, hm⟩ := hp_bd hm
  refine tr_eq (t_aI I T1 (by decide) rfl hx2) ?_
  by_cases c8 : x2 ≤ v4
  · rw [if_pos c8] at hm ⊢
    obtain rfl := Option.some.inj hm
    exact ⟨_, rfl, I, F⟩
  · rw [if_neg c8] at hm ⊢
    have T3 : tg (gP s v0 60) = 0 := t_tg (c := 11) I T_v0 (by decide) (by decide) rfl (by decide)
    refine tr_eq (t_fR I T_v0 (by decide) (by decide) (by decide)) ?_
    have T4 : tg (gP s v0 56) = 0 := t_tg (c := 11) I T_v0 (by decide) (by decide) rfl (by decide)
    refine tr_eq (t_fR I T_v0 (by decide) (by decide) (by decide)) ?_
    refine tr_eq (t_fI I T_v0 (by decide) (by decide) rfl) ?_
    obtain ⟨x5, hx5, hm⟩ := hp_bd hm
    refine tr_eq (t_X11_thing I T_v0 hx5) ?_
    obtain ⟨x6, hx6, hm⟩ := hp_bd hm
    refine tr_eq (t_aI I T4 (by decide) rfl hx6) ?_
    obtain ⟨w7, hw7, hm⟩ := hp_bd hm
    obtain ⟨_, e2, I, F⟩ := t_sI I F T3 (by decide) rfl hw7
    refine tr_eq e2 ?_
    obtain rfl := Option.some.inj hm
    exact ⟨_, rfl, I, F⟩
def gL_X11_endThing_51 (n : Nat) (v0 : Nat) (v3 : Int32) (c : Int32 × st_T) : Option ((Int32 × st_T) ⊕ (st_T)) := g_X11_endThing_51 n v0 v3 c.1 c.2
theorem tl_X11_endThing_51 {tg r : Nat → Nat} {hb : hp_H} {sb : st_T} {n : Nat} {v0 : Nat} {v3 : Int32} (T_v0 : tg v0 = 21) : ∀ (k : Nat) (c0 : Int32) (h : hp_H) (s : st_T) (x : st_T), iso tg r h s → isf tg r hb h sb s → hp_lp (gL_X11_endThing_51 n v0 v3) k (c0, s) = some x → ∃ h2, hp_lp (fL_X11_endThing_51 n (r v0) v3) k (c0, h) = some (eX_X11_endThing_51 x h2) ∧ iso tg r h2 (sX_X11_endThing_51 x) ∧ isf tg r hb h2 sb (sX_X11_endThing_51 x) := by
  intro k
  induction k with
  | zero => intro c0 h s x I F hx; exact (hp_lp_0 hx).elim
  | succ k ih =>
    intro c0 h s x I F hx
    obtain ⟨rr, hr, hc⟩ := hp_lp_1 hx
    obtain ⟨h2, e2, I2, F2⟩ := t_X11_endThing_51 I F T_v0 hr
    rcases hc with ⟨s3, e3, hx3⟩ | e3
    · subst e3
      obtain ⟨h3, e4, I3, F3⟩ := ih _ h2 _ x I2 F2 hx3
      exact ⟨h3, hp_lp_s e2 e4, I3, F3⟩
    · subst e3
      exact ⟨h2, hp_lp_x e2, I2, F2⟩
def g_X11_endThing_0 (n : Nat) (v0 : Nat) (v1 : Int32) (v2 : Int32) (s : st_T) : Option (st_T) :=
  (uA 0 s (gP s v0 58) (gF s v0 59) v2).bind fun w2 =>
  (uA 0 w2 (gP w2 v0 68) v1 v2).bind fun w4 =>
  (gA w4 (gP w4 v0 52) v1).bind fun x6 =>
  if x6 < 0 then
    g_X11_endThing_97 n v0 w4
  else
    (gA w4 (gP w4 v0 52) v1).bind fun x8 =>
    (gA w4 (gP w4 v0 57) (gF w4 v0 59)).bind fun x11 =>
    (uA 0 w4 (gP w4 v0 61) x8 x11).bind fun w12 =>
    (hp_lp (gL_X11_endThing_51 n v0 x8) n ((0 : Int32), w12)).bind fun x13 =>
    g_X11_endThing_97 n v0 x13
set_option maxHeartbeats 1000000 in
theorem t_X11_endThing_0 {tg r : Nat → Nat} {h hb : hp_H} {s sb : st_T} {n : Nat} {v0 : Nat} {v1 : Int32} {v2 : Int32} (I : iso tg r h s) (F : isf tg r hb h sb s) (T_v0 : tg v0 = 21) {res : st_T} (hm : g_X11_endThing_0 n v0 v1 v2 s = some res) : ∃ h2, f_X11_endThing_0 n (r v0) v1 v2 h = some (h2) ∧ iso tg r h2 res ∧ isf tg r hb h2 sb res := by
  unfold g_X11_endThing_0 at hm
  unfold f_X11_endThing_0
  have T1 : tg (gP s v0 58) = 0 := t_tg (c := 11) I T_v0 (by decide) (by decide) rfl (by decide)
  refine tr_eq (t_fR I T_v0 (by decide) (by decide) (by decide)) ?_
  refine tr_eq (t_fI I T_v0 (by decide) (by decide) rfl) ?_
  obtain ⟨w2, hw2, hm⟩ := hp_bd hm
  obtain ⟨_, e2, I, F⟩ := t_sI I F T1 (by decide) rfl hw2
  refine tr_eq e2 ?_
  have T3 : tg (gP w2 v0 68) = 0 := t_tg (c := 11) I T_v0 (by decide) (by decide) rfl (by decide)
  refine tr_eq (t_fR I T_v0 (by decide) (by decide) (by decide)) ?_
  obtain ⟨w4, hw4, hm⟩ := hp_bd hm
  obtain ⟨_, e2, I, F⟩ := t_sI I F T3 (by decide) rfl hw4
  refine tr_eq e2 ?_
  have T5 : tg (gP w4 v0 52) = 0 := t_tg (c := 11) I T_v0 (by decide) (by decide) rfl (by decide)
  refine tr_eq (t_fR I T_v0 (by decide) (by decide) (by decide)) ?_
  obtain ⟨x6, hx6, hm⟩ := hp_bd hm
  refine tr_eq (t_aI I T5 (by decide) rfl hx6) ?_
  by_cases c15 : x6 < 0
  · rw [if_pos c15] at hm ⊢
    exact t_X11_endThing_97 I F T_v0 hm
  · rw [if_neg c15] at hm ⊢
    have T7 : tg (gP w4 v0 52) = 0 := t_tg (c := 11) I T_v0 (by decide) (by decide) rfl (by decide)
    refine tr_eq (t_fR I T_v0 (by decide) (by decide) (by decide)) ?_
    obtain ⟨x8, hx8, hm⟩ := hp_bd hm
    refine tr_eq (t_aI I T7 (by decide) rfl hx8) ?_
    have T9 : tg (gP w4 v0 61) = 0 := t_tg (c := 11) I T_v0 (by decide) (by decide) rfl (by decide)
    refine tr_eq (t_fR I T_v0 (by decide) (by decide) (by decide)) ?_
    have T10 : tg (gP w4 v0 57) = 0 := t_tg (c := 11) I T_v0 (by decide) (by decide) rfl (by decide)
    refine tr_eq (t_fR I T_v0 (by decide) (by decide) (by decide)) ?_
    refine tr_eq (t_fI I T_v0 (by decide) (by decide) rfl) ?_
    obtain ⟨x11, hx11, hm⟩ := hp_bd hm
    refine tr_eq (t_aI I T10 (by decide) rfl hx11) ?_
    obtain ⟨w12, hw12, hm⟩ := hp_bd hm
    obtain ⟨_, e2, I, F⟩ := t_sI I F T9 (by decide) rfl hw12
    refine tr_eq e2 ?_
    obtain ⟨x13, hx13, hm⟩ := hp_bd hm
    obtain ⟨_, e2, I, F⟩ := tl_X11_endThing_51 T_v0 n _ _ _ _ I F hx13
    refine tr_eq e2 ?_
    try dsimp only [eX_X11_endThing_51]
    replace I : iso tg _ _ x13 := I
    replace F : isf tg _ _ _ _ x13 := F
    exact t_X11_endThing_97 I F T_v0 hm
def g_X11_endThing (n : Nat) (v0 : Nat) (v1 : Int32) (v2 : Int32) (s : st_T) : Option (st_T) := g_X11_endThing_0 n v0 v1 v2 s
theorem t_X11_endThing {tg r : Nat → Nat} {h hb : hp_H} {s sb : st_T} {n : Nat} {v0 : Nat} {v1 : Int32} {v2 : Int32} (I : iso tg r h s) (F : isf tg r hb h sb s) (T_v0 : tg v0 = 21) {res : st_T} (hm : g_X11_endThing n v0 v1 v2 s = some res) : ∃ h2, f_X11_endThing n (r v0) v1 v2 h = some (h2) ∧ iso tg r h2 res ∧ isf tg r hb h2 sb res := by
  unfold g_X11_endThing at hm
  unfold f_X11_endThing
  refine tr_eq (t_ck I T_v0 (by decide)) ?_
  exact t_X11_endThing_0 I F T_v0 hm
abbrev eX_X11_pushHypothesis_38 (x : st_T) (h2 : hp_H) : hp_H := (fun y => h2) x
abbrev sX_X11_pushHypothesis_38 (x : st_T) : st_T := (fun y => y) x
abbrev eR_X11_pushHypothesis_38 (x : (Int32 × st_T) ⊕ (st_T)) (h2 : hp_H) : (Int32 × hp_H) ⊕ (hp_H) := Sum.elim (fun y => .inl (y.1, h2)) (fun y => .inr (eX_X11_pushHypothesis_38 y h2)) x
abbrev sR_X11_pushHypothesis_38 (x : (Int32 × st_T) ⊕ (st_T)) : st_T := Sum.elim (fun y => y.2) sX_X11_pushHypothesis_38 x
def g_X11_pushHypothesis_38 (n : Nat) (v0 : Nat) (v1 : Int32) (v2 : Int32) (v3 : Int32) (s : st_T) : Option ((Int32 × st_T) ⊕ (st_T)) :=
  (g_X11_at n v0 v2 s).bind fun x2 =>
  (gA s (gP s v0 15) x2).bind fun x3 =>
  if x3 ≤ v3 then
    some (.inr s)
  else
    (g_X11_thing n v0 (gF s v0 59) s).bind fun x5 =>
    (g_X11_at n v0 v2 s).bind fun x8 =>
    (gA s (gP s v0 14) x8).bind fun x9 =>
    (gA s (gP s v0 19) ((((4096 : Int32) * (gF s v0 4)) + x9) + v3)).bind fun x10 =>
    (uA 0 s (gP s v0 56) (x5 + v3) x10).bind fun w11 =>
    some (.inl ((v3 + (1 : Int32)), w11))
set_option maxHeartbeats 1000000 in
theorem t_X11_pushHypothesis_38 {tg r : Nat → Nat} {h hb : hp_H} {s sb : st_T} {n : Nat} {v0 : Nat} {v1 : Int32} {v2 : Int32} {v3 : Int32} (I : iso tg r h s) (F : isf tg r hb h sb s) (T_v0 : tg v0 = 21) {res : (Int32 × st_T) ⊕ (st_T)} (hm : g_X11_pushHypothesis_38 n v0 v1 v2 v3 s = some res) : ∃ h2, f_X11_pushHypothesis_38 n (r v0) v1 v2 v3 h = some (eR_X11_pushHypothesis_38 res h2) ∧ iso tg r h2 (sR_X11_pushHypothesis_38 res) ∧ isf tg r hb h2 sb (sR_X11_pushHypothesis_38 res) := by
  unfold g_X11_pushHypothesis_38 at hm
  unfold f_X11_pushHypothesis_38
  have T1 : tg (gP s v0 15) = 0 := t_tg (c := 11) I T_v0 (by decide) (by decide) rfl (by decide)
  refine tr_eq (t_fR I T_v0 (by decide) (by decide) (by decide)) ?_
  obtain ⟨x2, hx2, hm⟩ := hp_bd hm
  refine tr_eq (t_X11_at I T_v0 hx2) ?_
  obtain ⟨x3, hx3, hm⟩ := hp_bd hm
  refine tr_eq (t_aI I T1 (by decide) rfl hx3) ?_
  by_cases c12 : x3 ≤ v3
  · rw [if_pos c12] at hm ⊢
    obtain rfl := Option.some.inj hm
    exact ⟨_, rfl, I, F⟩
  · rw [if_neg c12] at hm ⊢
    have T4 : tg (gP s v0 56) = 0 := t_tg (c := 11) I T_v0 (by decide) (by decide) rfl (by decide)
    refine tr_eq (t_fR I T_v0 (by decide) (by decide) (by decide)) ?_
    refine tr_eq (t_fI I T_v0 (by decide) (by decide) rfl) ?_
    obtain ⟨x5, hx5, hm⟩ := hp_bd hm
    refine tr_eq (t_X11_thing I T_v0 hx5) ?_
    have T6 : tg (gP s v0 19) = 0 := t_tg (c := 11) I T_v0 (by decide) (by decide) rfl (by decide)
    refine tr_eq (t_fR I T_v0 (by decide) (by decide) (by decide)) ?_
    refine tr_eq (t_fI I T_v0 (by decide) (by decide) rfl) ?_
    have T7 : tg (gP s v0 14) = 0 := t_tg (c := 11) I T_v0 (by decide) (by decide) rfl (by decide)
    refine tr_eq (t_fR I T_v0 (by decide) (by decide) (by decide)) ?_
    obtain ⟨x8, hx8, hm⟩ := hp_bd hm
    refine tr_eq (t_X11_at I T_v0 hx8) ?_
    obtain ⟨x9, hx9, hm⟩ := hp_bd hm
    refine tr_eq (t_aI I T7 (by decide) rfl hx9) ?_
    obtain ⟨x10, hx10, hm⟩ := hp_bd hm
    refine tr_eq (t_aI I T6 (by decide) rfl hx10) ?_
    obtain ⟨w11, hw11, hm⟩ := hp_bd hm
    obtain ⟨_, e2, I, F⟩ := t_sI I F T4 (by decide) rfl hw11
    refine tr_eq e2 ?_
    obtain rfl := Option.some.inj hm
    exact ⟨_, rfl, I, F⟩
def gL_X11_pushHypothesis_38 (n : Nat) (v0 : Nat) (v1 : Int32) (v2 : Int32) (c : Int32 × st_T) : Option ((Int32 × st_T) ⊕ (st_T)) := g_X11_pushHypothesis_38 n v0 v1 v2 c.1 c.2
theorem tl_X11_pushHypothesis_38 {tg r : Nat → Nat} {hb : hp_H} {sb : st_T} {n : Nat} {v0 : Nat} {v1 : Int32} {v2 : Int32} (T_v0 : tg v0 = 21) : ∀ (k : Nat) (c0 : Int32) (h : hp_H) (s : st_T) (x : st_T), iso tg r h s → isf tg r hb h sb s → hp_lp (gL_X11_pushHypothesis_38 n v0 v1 v2) k (c0, s) = some x → ∃ h2, hp_lp (fL_X11_pushHypothesis_38 n (r v0) v1 v2) k (c0, h) = some (eX_X11_pushHypothesis_38 x h2) ∧ iso tg r h2 (sX_X11_pushHypothesis_38 x) ∧ isf tg r hb h2 sb (sX_X11_pushHypothesis_38 x) := by
  intro k
  induction k with
  | zero => intro c0 h s x I F hx; exact (hp_lp_0 hx).elim
  | succ k ih =>
    intro c0 h s x I F hx
    obtain ⟨rr, hr, hc⟩ := hp_lp_1 hx
    obtain ⟨h2, e2, I2, F2⟩ := t_X11_pushHypothesis_38 I F T_v0 hr
    rcases hc with ⟨s3, e3, hx3⟩ | e3
    · subst e3
      obtain ⟨h3, e4, I3, F3⟩ := ih _ h2 _ x I2 F2 hx3
      exact ⟨h3, hp_lp_s e2 e4, I3, F3⟩
    · subst e3
      exact ⟨h2, hp_lp_x e2, I2, F2⟩
def g_X11_pushHypothesis_0 (n : Nat) (v0 : Nat) (v1 : Int32) (v2 : Int32) (s : st_T) : Option (Int32 × st_T) :=
  if (gF s v0 59) = (100 : Int32) then
    (g_X11_fails n v0 (-10 : Int32) v1 s).bind fun x13 =>
    (hp_bz x13.1).bind fun _ =>
    some (x13.1, x13.2)
  else
    (g_X11_at n v0 v2 s).bind fun x3 =>
    (gA s (gP s v0 15) x3).bind fun x4 =>
    (uA 0 s (gP s v0 57) (gF s v0 59) x4).bind fun w5 =>
    (hp_lp (gL_X11_pushHypothesis_38 n v0 v1 v2) n ((0 : Int32), w5)).bind fun x6 =>
    (uA 0 x6 (gP x6 v0 65) v1 (gF x6 v0 67)).bind fun w9 =>
    (uA 0 w9 (gP w9 v0 66) v1 (0 : Int32)).bind fun w11 =>
    (g_X11_endThing n v0 v1 v1 w11).bind fun x12 =>
    some ((1 : Int32), x12)
set_option maxHeartbeats 1000000 in
theorem t_X11_pushHypothesis_0 {tg r : Nat → Nat} {h hb : hp_H} {s sb : st_T} {n : Nat} {v0 : Nat} {v1 : Int32} {v2 : Int32} (I : iso tg r h s) (F : isf tg r hb h sb s) (T_v0 : tg v0 = 21) {res : Int32 × st_T} (hm : g_X11_pushHypothesis_0 n v0 v1 v2 s = some res) : ∃ h2, f_X11_pushHypothesis_0 n (r v0) v1 v2 h = some ((res.1, h2)) ∧ iso tg r h2 res.2 ∧ isf tg r hb h2 sb res.2 := by
  unfold g_X11_pushHypothesis_0 at hm
  unfold f_X11_pushHypothesis_0
  refine tr_eq (t_fI I T_v0 (by decide) (by decide) rfl) ?_
  by_cases c15 : (gF s v0 59) = (100 : Int32)
  · rw [if_pos c15] at hm ⊢
    obtain ⟨x13, hx13, hm⟩ := hp_bd hm
    obtain ⟨_, e2, I, F⟩ := t_X11_fails I F T_v0 hx13
    refine tr_eq e2 ?_
    try dsimp only
    obtain ⟨_, hu14, hm⟩ := hp_bd hm
    refine tr_eq hu14 ?_
    obtain rfl := Option.some.inj hm
    exact ⟨_, rfl, I, F⟩
  · rw [if_neg c15] at hm ⊢
    have T1 : tg (gP s v0 57) = 0 := t_tg (c := 11) I T_v0 (by decide) (by decide) rfl (by decide)
    refine tr_eq (t_fR I T_v0 (by decide) (by decide) (by decide)) ?_
    refine tr_eq (t_fI I T_v0 (by decide) (by decide) rfl) ?_
    have T2 : tg (gP s v0 15) = 0 := t_tg (c := 11) I T_v0 (by decide) (by decide) rfl (by decide)
    refine tr_eq (t_fR I T_v0 (by decide) (by decide) (by decide)) ?_
    obtain ⟨x3, hx3, hm⟩ := hp_bd hm
    refine tr_eq (t_X11_at I T_v0 hx3) ?_
    obtain ⟨x4, hx4, hm⟩ := hp_bd hm
    refine tr_eq (t_aI I T2 (by decide) rfl hx4) ?_
    obtain ⟨w5, hw5, hm⟩ := hp_bd hm
    obtain ⟨_, e2, I, F⟩ := t_sI I F T1 (by decide) rfl hw5
    refine tr_eq e2 ?_
    obtain ⟨x6, hx6, hm⟩ := hp_bd hm
    obtain ⟨_, e2, I, F⟩ := tl_X11_pushHypothesis_38 T_v0 n _ _ _ _ I F hx6
    refine tr_eq e2 ?_
    try dsimp only [eX_X11_pushHypothesis_38]
    replace I : iso tg _ _ x6 := I
    replace F : isf tg _ _ _ _ x6 := F
    have T8 : tg (gP x6 v0 65) = 0 := t_tg (c := 11) I T_v0 (by decide) (by decide) rfl (by decide)
    refine tr_eq (t_fR I T_v0 (by decide) (by decide) (by decide)) ?_
    refine tr_eq (t_fI I T_v0 (by decide) (by decide) rfl) ?_
    obtain ⟨w9, hw9, hm⟩ := hp_bd hm
    obtain ⟨_, e2, I, F⟩ := t_sI I F T8 (by decide) rfl hw9
    refine tr_eq e2 ?_
    have T10 : tg (gP w9 v0 66) = 0 := t_tg (c := 11) I T_v0 (by decide) (by decide) rfl (by decide)
    refine tr_eq (t_fR I T_v0 (by decide) (by decide) (by decide)) ?_
    obtain ⟨w11, hw11, hm⟩ := hp_bd hm
    obtain ⟨_, e2, I, F⟩ := t_sI I F T10 (by decide) rfl hw11
    refine tr_eq e2 ?_
    obtain ⟨x12, hx12, hm⟩ := hp_bd hm
    obtain ⟨_, e2, I, F⟩ := t_X11_endThing I F T_v0 hx12
    refine tr_eq e2 ?_
    obtain rfl := Option.some.inj hm
    exact ⟨_, rfl, I, F⟩
def g_X11_pushHypothesis (n : Nat) (v0 : Nat) (v1 : Int32) (v2 : Int32) (s : st_T) : Option (Int32 × st_T) := g_X11_pushHypothesis_0 n v0 v1 v2 s
theorem t_X11_pushHypothesis {tg r : Nat → Nat} {h hb : hp_H} {s sb : st_T} {n : Nat} {v0 : Nat} {v1 : Int32} {v2 : Int32} (I : iso tg r h s) (F : isf tg r hb h sb s) (T_v0 : tg v0 = 21) {res : Int32 × st_T} (hm : g_X11_pushHypothesis n v0 v1 v2 s = some res) : ∃ h2, f_X11_pushHypothesis n (r v0) v1 v2 h = some ((res.1, h2)) ∧ iso tg r h2 res.2 ∧ isf tg r hb h2 sb res.2 := by
  unfold g_X11_pushHypothesis at hm
  unfold f_X11_pushHypothesis
  refine tr_eq (t_ck I T_v0 (by decide)) ?_
  exact t_X11_pushHypothesis_0 I F T_v0 hm
abbrev eX_X11_pushMarked_34 (x : st_T) (h2 : hp_H) : hp_H := (fun y => h2) x
abbrev sX_X11_pushMarked_34 (x : st_T) : st_T := (fun y => y) x
abbrev eR_X11_pushMarked_34 (x : (Int32 × st_T) ⊕ (st_T)) (h2 : hp_H) : (Int32 × hp_H) ⊕ (hp_H) := Sum.elim (fun y => .inl (y.1, h2)) (fun y => .inr (eX_X11_pushMarked_34 y h2)) x
abbrev sR_X11_pushMarked_34 (x : (Int32 × st_T) ⊕ (st_T)) : st_T := Sum.elim (fun y => y.2) sX_X11_pushMarked_34 x
def g_X11_pushMarked_34 (n : Nat) (v0 : Nat) (v1 : Int32) (v2 : Int32) (v3 : Int32) (s : st_T) : Option ((Int32 × st_T) ⊕ (st_T)) :=
  (gA s (gP s v0 61) v2).bind fun x2 =>
  if x2 ≤ v3 then
    some (.inr s)
  else
    (g_X11_thing n v0 (gF s v0 59) s).bind fun x4 =>
    (gA s (gP s v0 60) (((200 : Int32) * v2) + v3)).bind fun x6 =>
    (uA 0 s (gP s v0 56) (x4 + v3) x6).bind fun w7 =>
    some (.inl ((v3 + (1 : Int32)), w7))
set_option maxHeartbeats 1000000 in
theorem t_X11_pushMarked_34 {tg r : Nat → Nat} {h hb : hp_H} {s sb : st_T} {n : Nat} {v0 : Nat} {v1 : Int32} {v2 : Int32} {v3 : Int32} (I : iso tg r h s) (F : isf tg r hb h sb s) (T_v0 : tg v0 = 21) {res : (Int32 × st_T) ⊕ (st_T)} (hm : g_X11_pushMarked_34 n v0 v1 v2 v3 s = some res) : ∃ h2, f_X11_pushMarked_34 n (r v0) v1 v2 v3 h = some (eR_X11_pushMarked_34 res h2) ∧ iso tg r h2 (sR_X11_pushMarked_34 res) ∧ isf tg r hb h2 sb (sR_X11_pushMarked_34 res) := by
  unfold g_X11_pushMarked_34 at hm
  unfold f_X11_pushMarked_34
  have T1 : tg (gP s v0 61) = 0 := t_tg (c := 11) I T_v0 (by decide) (by decide) rfl (by decide)
  refine tr_eq (t_fR I T_v0 (by decide) (by decide) (by decide)) ?_
  obtain ⟨x2, hx2, hm⟩ := hp_bd hm
  refine tr_eq (t_aI I T1 (by decide) rfl hx2) ?_
  by_cases c8 : x2 ≤ v3
  · rw [if_pos c8] at hm ⊢
    obtain rfl := Option.some.inj hm
    exact ⟨_, rfl, I, F⟩
  · rw [if_neg c8] at hm ⊢
    have T3 : tg (gP s v0 56) = 0 := t_tg (c := 11) I T_v0 (by decide) (by decide) rfl (by decide)
    refine tr_eq (t_fR I T_v0 (by decide) (by decide) (by decide)) ?_
    refine tr_eq (t_fI I T_v0 (by decide) (by decide) rfl) ?_
    obtain ⟨x4, hx4, hm⟩ := hp_bd hm
    refine tr_eq (t_X11_thing I T_v0 hx4) ?_
    have T5 : tg (gP s v0 60) = 0 := t_tg (c := 11) I T_v0 (by decide) (by decide) rfl (by decide)
    refine tr_eq (t_fR I T_v0 (by decide) (by decide) (by decide)) ?_
    obtain ⟨x6, hx6, hm⟩ := hp_bd hm
    refine tr_eq (t_aI I T5 (by decide) rfl hx6) ?_
    obtain ⟨w7, hw7, hm⟩ := hp_bd hm
    obtain ⟨_, e2, I, F⟩ := t_sI I F T3 (by decide) rfl hw7
    refine tr_eq e2 ?_
    obtain rfl := Option.some.inj hm
    exact ⟨_, rfl, I, F⟩
def gL_X11_pushMarked_34 (n : Nat) (v0 : Nat) (v1 : Int32) (v2 : Int32) (c : Int32 × st_T) : Option ((Int32 × st_T) ⊕ (st_T)) := g_X11_pushMarked_34 n v0 v1 v2 c.1 c.2
theorem tl_X11_pushMarked_34 {tg r : Nat → Nat} {hb : hp_H} {sb : st_T} {n : Nat} {v0 : Nat} {v1 : Int32} {v2 : Int32} (T_v0 : tg v0 = 21) : ∀ (k : Nat) (c0 : Int32) (h : hp_H) (s : st_T) (x : st_T), iso tg r h s → isf tg r hb h sb s → hp_lp (gL_X11_pushMarked_34 n v0 v1 v2) k (c0, s) = some x → ∃ h2, hp_lp (fL_X11_pushMarked_34 n (r v0) v1 v2) k (c0, h) = some (eX_X11_pushMarked_34 x h2) ∧ iso tg r h2 (sX_X11_pushMarked_34 x) ∧ isf tg r hb h2 sb (sX_X11_pushMarked_34 x) := by
  intro k
  induction k with
  | zero => intro c0 h s x I F hx; exact (hp_lp_0 hx).elim
  | succ k ih =>
    intro c0 h s x I F hx
    obtain ⟨rr, hr, hc⟩ := hp_lp_1 hx
    obtain ⟨h2, e2, I2, F2⟩ := t_X11_pushMarked_34 I F T_v0 hr
    rcases hc with ⟨s3, e3, hx3⟩ | e3
    · subst e3
      obtain ⟨h3, e4, I3, F3⟩ := ih _ h2 _ x I2 F2 hx3
      exact ⟨h3, hp_lp_s e2 e4, I3, F3⟩
    · subst e3
      exact ⟨h2, hp_lp_x e2, I2, F2⟩
def g_X11_pushMarked_0 (n : Nat) (v0 : Nat) (v1 : Int32) (v2 : Int32) (s : st_T) : Option (Int32 × st_T) :=
  if (gF s v0 59) = (100 : Int32) then
    (g_X11_fails n v0 (-10 : Int32) v1 s).bind fun x16 =>
    (hp_bz x16.1).bind fun _ =>
    some (x16.1, x16.2)
  else
    (gA s (gP s v0 61) v2).bind fun x3 =>
    (uA 0 s (gP s v0 57) (gF s v0 59) x3).bind fun w4 =>
    (hp_lp (gL_X11_pushMarked_34 n v0 v1 v2) n ((0 : Int32), w4)).bind fun x5 =>
    (uA 0 x5 (gP x5 v0 65) v1 (gF x5 v0 67)).bind fun w8 =>
    (uA 0 w8 (gP w8 v0 66) v1 (0 : Int32)).bind fun w10 =>
    (gA w10 (gP w10 v0 51) v2).bind fun x13 =>
    (gA w10 (gP w10 v0 68) x13).bind fun x14 =>
    (g_X11_endThing n v0 v1 x14 w10).bind fun x15 =>
    some ((1 : Int32), x15)
set_option maxHeartbeats 1000000 in
theorem t_X11_pushMarked_0 {tg r : Nat → Nat} {h hb : hp_H} {s sb : st_T} {n : Nat} {v0 : Nat} {v1 : Int32} {v2 : Int32} (I : iso tg r h s) (F : isf tg r hb h sb s) (T_v0 : tg v0 = 21) {res : Int32 × st_T} (hm : g_X11_pushMarked_0 n v0 v1 v2 s = some res) : ∃ h2, f_X11_pushMarked_0 n (r v0) v1 v2 h = some ((res.1, h2)) ∧ iso tg r h2 res.2 ∧ isf tg r hb h2 sb res.2 := by
  unfold g_X11_pushMarked_0 at hm
  unfold f_X11_pushMarked_0
  refine tr_eq (t_fI I T_v0 (by decide) (by decide) rfl) ?_
  by_cases c18 : (gF s v0 59) = (100 : Int32)
  · rw [if_pos c18] at hm ⊢
    obtain ⟨x16, hx16, hm⟩ := hp_bd hm
    obtain ⟨_, e2, I, F⟩ := t_X11_fails I F T_v0 hx16
    refine tr_eq e2 ?_
    try dsimp only
    obtain ⟨_, hu17, hm⟩ := hp_bd hm
    refine tr_eq hu17 ?_
    obtain rfl := Option.some.inj hm
    exact ⟨_, rfl, I, F⟩
  · rw [if_neg c18] at hm ⊢
    have T1 : tg (gP s v0 57) = 0 := t_tg (c := 11) I T_v0 (by decide) (by decide) rfl (by decide)
    refine tr_eq (t_fR I T_v0 (by decide) (by decide) (by decide)) ?_
    refine tr_eq (t_fI I T_v0 (by decide) (by decide) rfl) ?_
    have T2 : tg (gP s v0 61) = 0 := t_tg (c := 11) I T_v0 (by decide) (by decide) rfl (by decide)
    refine tr_eq (t_fR I T_v0 (by decide) (by decide) (by decide)) ?_
    obtain ⟨x3, hx3, hm⟩ := hp_bd hm
    refine tr_eq (t_aI I T2 (by decide) rfl hx3) ?_
    obtain ⟨w4, hw4, hm⟩ := hp_bd hm
    obtain ⟨_, e2, I, F⟩ := t_sI I F T1 (by decide) rfl hw4
    refine tr_eq e2 ?_
    obtain ⟨x5, hx5, hm⟩ := hp_bd hm
    obtain ⟨_, e2, I, F⟩ := tl_X11_pushMarked_34 T_v0 n _ _ _ _ I F hx5
    refine tr_eq e2 ?_
    try dsimp only [eX_X11_pushMarked_34]
    replace I : iso tg _ _ x5 := I
    replace F : isf tg _ _ _ _ x5 := F
    have T7 : tg (gP x5 v0 65) = 0 := t_tg (c := 11) I T_v0 (by decide) (by decide) rfl (by decide)
    refine tr_eq (t_fR I T_v0 (by decide) (by decide) (by decide)) ?_
    refine tr_eq (t_fI I T_v0 (by decide) (by decide) rfl) ?_
    obtain ⟨w8, hw8, hm⟩ := hp_bd hm
    obtain ⟨_, e2, I, F⟩ := t_sI I F T7 (by decide) rfl hw8
    refine tr_eq e2 ?_
    have T9 : tg (gP w8 v0 66) = 0 := t_tg (c := 11) I T_v0 (by decide) (by decide) rfl (by decide)
    refine tr_eq (t_fR I T_v0 (by decide) (by decide) (by decide)) ?_
    obtain ⟨w10, hw10, hm⟩ := hp_bd hm
    obtain ⟨_, e2, I, F⟩ := t_sI I F T9 (by decide) rfl hw10
    refine tr_eq e2 ?_
    have T11 : tg (gP w10 v0 68) = 0 := t_tg (c := 11) I T_v0 (by decide) (by decide) rfl (by decide)
    refine tr_eq (t_fR I T_v0 (by decide) (by decide) (by decide)) ?_
    have T12 : tg (gP w10 v0 51) = 0 := t_tg (c := 11) I T_v0 (by decide) (by decide) rfl (by decide)
    refine tr_eq (t_fR I T_v0 (by decide) (by decide) (by decide)) ?_
    obtain ⟨x13, hx13, hm⟩ := hp_bd hm
    refine tr_eq (t_aI I T12 (by decide) rfl hx13) ?_
    obtain ⟨x14, hx14, hm⟩ := hp_bd hm
    refine tr_eq (t_aI I T11 (by decide) rfl hx14) ?_
    obtain ⟨x15, hx15, hm⟩ := hp_bd hm
    obtain ⟨_, e2, I, F⟩ := t_X11_endThing I F T_v0 hx15
    refine tr_eq e2 ?_
    obtain rfl := Option.some.inj hm
    exact ⟨_, rfl, I, F⟩
def g_X11_pushMarked (n : Nat) (v0 : Nat) (v1 : Int32) (v2 : Int32) (s : st_T) : Option (Int32 × st_T) := g_X11_pushMarked_0 n v0 v1 v2 s
theorem t_X11_pushMarked {tg r : Nat → Nat} {h hb : hp_H} {s sb : st_T} {n : Nat} {v0 : Nat} {v1 : Int32} {v2 : Int32} (I : iso tg r h s) (F : isf tg r hb h sb s) (T_v0 : tg v0 = 21) {res : Int32 × st_T} (hm : g_X11_pushMarked n v0 v1 v2 s = some res) : ∃ h2, f_X11_pushMarked n (r v0) v1 v2 h = some ((res.1, h2)) ∧ iso tg r h2 res.2 ∧ isf tg r hb h2 sb res.2 := by
  unfold g_X11_pushMarked at hm
  unfold f_X11_pushMarked
  refine tr_eq (t_ck I T_v0 (by decide)) ?_
  exact t_X11_pushMarked_0 I F T_v0 hm
abbrev eX_X11_substitute_4 (x : Int32 × st_T) (h2 : hp_H) : Int32 × hp_H := (fun y => (y.1, h2)) x
abbrev sX_X11_substitute_4 (x : Int32 × st_T) : st_T := (fun y => y.2) x
abbrev eR_X11_substitute_4 (x : (Int32 × Int32 × st_T) ⊕ (Int32 × st_T)) (h2 : hp_H) : (Int32 × Int32 × hp_H) ⊕ (Int32 × hp_H) := Sum.elim (fun y => .inl (y.1, y.2.1, h2)) (fun y => .inr (eX_X11_substitute_4 y h2)) x
abbrev sR_X11_substitute_4 (x : (Int32 × Int32 × st_T) ⊕ (Int32 × st_T)) : st_T := Sum.elim (fun y => y.2.2) sX_X11_substitute_4 x
abbrev eX_X11_substitute_106 (x : Int32 × st_T) (h2 : hp_H) : Int32 × hp_H := (fun y => (y.1, h2)) x
abbrev sX_X11_substitute_106 (x : Int32 × st_T) : st_T := (fun y => y.2) x
abbrev eR_X11_substitute_106 (x : (Int32 × Int32 × st_T) ⊕ (Int32 × st_T)) (h2 : hp_H) : (Int32 × Int32 × hp_H) ⊕ (Int32 × hp_H) := Sum.elim (fun y => .inl (y.1, y.2.1, h2)) (fun y => .inr (eX_X11_substitute_106 y h2)) x
abbrev sR_X11_substitute_106 (x : (Int32 × Int32 × st_T) ⊕ (Int32 × st_T)) : st_T := Sum.elim (fun y => y.2.2) sX_X11_substitute_106 x
def g_X11_substitute_149 (n : Nat) (v0 : Nat) (v1 : Int32) (v2 : Int32) (v3 : Int32) (v4 : Int32) (v5 : Int32) (v6 : Int32) (v7 : Int32) (s0 : Int32) (s1 : Int32) (s2 : Nat) (s : st_T) : Option ((Int32 × Int32 × st_T) ⊕ (Int32 × st_T)) :=
  (uA 0 s s2 s1 s0).bind fun w1 =>
  some (.inl ((v2 + (1 : Int32)), (v7 + (1 : Int32)), w1))
set_option maxHeartbeats 1000000 in
theorem t_X11_substitute_149 {tg r : Nat → Nat} {h hb : hp_H} {s sb : st_T} {n : Nat} {v0 : Nat} {v1 : Int32} {v2 : Int32} {v3 : Int32} {v4 : Int32} {v5 : Int32} {v6 : Int32} {v7 : Int32} {s0 : Int32} {s1 : Int32} {s2 : Nat} (I : iso tg r h s) (F : isf tg r hb h sb s) (T_v0 : tg v0 = 21) (T_s2 : tg s2 = 0) {res : (Int32 × Int32 × st_T) ⊕ (Int32 × st_T)} (hm : g_X11_substitute_149 n v0 v1 v2 v3 v4 v5 v6 v7 s0 s1 s2 s = some res) : ∃ h2, f_X11_substitute_149 n (r v0) v1 v2 v3 v4 v5 v6 v7 s0 s1 (r s2) h = some (eR_X11_substitute_106 res h2) ∧ iso tg r h2 (sR_X11_substitute_106 res) ∧ isf tg r hb h2 sb (sR_X11_substitute_106 res) := by
  unfold g_X11_substitute_149 at hm
  unfold f_X11_substitute_149
  obtain ⟨w1, hw1, hm⟩ := hp_bd hm
  obtain ⟨_, e2, I, F⟩ := t_sI I F T_s2 (by decide) rfl hw1
  refine tr_eq e2 ?_
  obtain rfl := Option.some.inj hm
  exact ⟨_, rfl, I, F⟩
def g_X11_substitute_106 (n : Nat) (v0 : Nat) (v1 : Int32) (v2 : Int32) (v3 : Int32) (v4 : Int32) (v5 : Int32) (v6 : Int32) (v7 : Int32) (s : st_T) : Option ((Int32 × Int32 × st_T) ⊕ (Int32 × st_T)) :=
  if v6 ≤ v7 then
    some (.inr (v2, s))
  else
    if v5 = 0 then
      g_X11_substitute_149 n v0 v1 v2 v3 v4 v5 v6 v7 v4 v2 (gP s v0 62) s
    else
      (gA s (gP s v0 63) v4).bind fun x4 =>
      (g_X11_thing n v0 x4 s).bind fun x5 =>
      (gA s (gP s v0 56) ((x5 + (1 : Int32)) + v7)).bind fun x6 =>
      g_X11_substitute_149 n v0 v1 v2 v3 v4 v5 v6 v7 x6 v2 (gP s v0 62) s
set_option maxHeartbeats 1000000 in
theorem t_X11_substitute_106 {tg r : Nat → Nat} {h hb : hp_H} {s sb : st_T} {n : Nat} {v0 : Nat} {v1 : Int32} {v2 : Int32} {v3 : Int32} {v4 : Int32} {v5 : Int32} {v6 : Int32} {v7 : Int32} (I : iso tg r h s) (F : isf tg r hb h sb s) (T_v0 : tg v0 = 21) {res : (Int32 × Int32 × st_T) ⊕ (Int32 × st_T)} (hm : g_X11_substitute_106 n v0 v1 v2 v3 v4 v5 v6 v7 s = some res) : ∃ h2, f_X11_substitute_106 n (r v0) v1 v2 v3 v4 v5 v6 v7 h = some (eR_X11_substitute_106 res h2) ∧ iso tg r h2 (sR_X11_substitute_106 res) ∧ isf tg r hb h2 sb (sR_X11_substitute_106 res) := by
  unfold g_X11_substitute_106 at hm
  unfold f_X11_substitute_106
  by_cases c8 : v6 ≤ v7
  · rw [if_pos c8] at hm ⊢
    obtain rfl := Option.some.inj hm
    exact ⟨_, rfl, I, F⟩
  · rw [if_neg c8] at hm ⊢
    have T1 : tg (gP s v0 62) = 0 := t_tg (c := 11) I T_v0 (by decide) (by decide) rfl (by decide)
    refine tr_eq (t_fR I T_v0 (by decide) (by decide) (by decide)) ?_
    by_cases c7 : v5 = 0
    · rw [if_pos c7] at hm ⊢
      exact t_X11_substitute_149 I F T_v0 T1 hm
    · rw [if_neg c7] at hm ⊢
      have T2 : tg (gP s v0 56) = 0 := t_tg (c := 11) I T_v0 (by decide) (by decide) rfl (by decide)
      refine tr_eq (t_fR I T_v0 (by decide) (by decide) (by decide)) ?_
      have T3 : tg (gP s v0 63) = 0 := t_tg (c := 11) I T_v0 (by decide) (by decide) rfl (by decide)
      refine tr_eq (t_fR I T_v0 (by decide) (by decide) (by decide)) ?_
      obtain ⟨x4, hx4, hm⟩ := hp_bd hm
      refine tr_eq (t_aI I T3 (by decide) rfl hx4) ?_
      obtain ⟨x5, hx5, hm⟩ := hp_bd hm
      refine tr_eq (t_X11_thing I T_v0 hx5) ?_
      obtain ⟨x6, hx6, hm⟩ := hp_bd hm
      refine tr_eq (t_aI I T2 (by decide) rfl hx6) ?_
      exact t_X11_substitute_149 I F T_v0 T1 hm
def gL_X11_substitute_106 (n : Nat) (v0 : Nat) (v1 : Int32) (v3 : Int32) (v4 : Int32) (v5 : Int32) (v6 : Int32) (c : Int32 × Int32 × st_T) : Option ((Int32 × Int32 × st_T) ⊕ (Int32 × st_T)) := g_X11_substitute_106 n v0 v1 c.1 v3 v4 v5 v6 c.2.1 c.2.2
theorem tl_X11_substitute_106 {tg r : Nat → Nat} {hb : hp_H} {sb : st_T} {n : Nat} {v0 : Nat} {v1 : Int32} {v3 : Int32} {v4 : Int32} {v5 : Int32} {v6 : Int32} (T_v0 : tg v0 = 21) : ∀ (k : Nat) (c0 : Int32) (c1 : Int32) (h : hp_H) (s : st_T) (x : Int32 × st_T), iso tg r h s → isf tg r hb h sb s → hp_lp (gL_X11_substitute_106 n v0 v1 v3 v4 v5 v6) k (c0, c1, s) = some x → ∃ h2, hp_lp (fL_X11_substitute_106 n (r v0) v1 v3 v4 v5 v6) k (c0, c1, h) = some (eX_X11_substitute_106 x h2) ∧ iso tg r h2 (sX_X11_substitute_106 x) ∧ isf tg r hb h2 sb (sX_X11_substitute_106 x) := by
  intro k
  induction k with
  | zero => intro c0 c1 h s x I F hx; exact (hp_lp_0 hx).elim
  | succ k ih =>
    intro c0 c1 h s x I F hx
    obtain ⟨rr, hr, hc⟩ := hp_lp_1 hx
    obtain ⟨h2, e2, I2, F2⟩ := t_X11_substitute_106 I F T_v0 hr
    rcases hc with ⟨s3, e3, hx3⟩ | e3
    · subst e3
      obtain ⟨h3, e4, I3, F3⟩ := ih _ _ h2 _ x I2 F2 hx3
      exact ⟨h3, hp_lp_s e2 e4, I3, F3⟩
    · subst e3
      exact ⟨h2, hp_lp_x e2, I2, F2⟩
def g_X11_substitute_87 (n : Nat) (v0 : Nat) (v1 : Int32) (v2 : Int32) (v3 : Int32) (v4 : Int32) (v5 : Int32) (s0 : Int32) (s : st_T) : Option ((Int32 × Int32 × st_T) ⊕ (Int32 × st_T)) :=
  if (v2 + s0) ≤ (200 : Int32) then
    (hp_lp (gL_X11_substitute_106 n v0 v1 v3 v4 v5 s0) n (v2, (0 : Int32), s)).bind fun x1 =>
    some (.inl (x1.1, (v3 + (1 : Int32)), x1.2))
  else
    some (.inr ((201 : Int32), s))
set_option maxHeartbeats 1000000 in
theorem t_X11_substitute_87 {tg r : Nat → Nat} {h hb : hp_H} {s sb : st_T} {n : Nat} {v0 : Nat} {v1 : Int32} {v2 : Int32} {v3 : Int32} {v4 : Int32} {v5 : Int32} {s0 : Int32} (I : iso tg r h s) (F : isf tg r hb h sb s) (T_v0 : tg v0 = 21) {res : (Int32 × Int32 × st_T) ⊕ (Int32 × st_T)} (hm : g_X11_substitute_87 n v0 v1 v2 v3 v4 v5 s0 s = some res) : ∃ h2, f_X11_substitute_87 n (r v0) v1 v2 v3 v4 v5 s0 h = some (eR_X11_substitute_4 res h2) ∧ iso tg r h2 (sR_X11_substitute_4 res) ∧ isf tg r hb h2 sb (sR_X11_substitute_4 res) := by
  unfold g_X11_substitute_87 at hm
  unfold f_X11_substitute_87
  by_cases c3 : (v2 + s0) ≤ (200 : Int32)
  · rw [if_pos c3] at hm ⊢
    obtain ⟨x1, hx1, hm⟩ := hp_bd hm
    obtain ⟨_, e2, I, F⟩ := tl_X11_substitute_106 T_v0 n _ _ _ _ _ I F hx1
    refine tr_eq e2 ?_
    try dsimp only [eX_X11_substitute_106]
    replace I : iso tg _ _ x1.2 := I
    replace F : isf tg _ _ _ _ x1.2 := F
    obtain rfl := Option.some.inj hm
    exact ⟨_, rfl, I, F⟩
  · rw [if_neg c3] at hm ⊢
    obtain rfl := Option.some.inj hm
    exact ⟨_, rfl, I, F⟩
def g_X11_substitute_4 (n : Nat) (v0 : Nat) (v1 : Int32) (v2 : Int32) (v3 : Int32) (s : st_T) : Option ((Int32 × Int32 × st_T) ⊕ (Int32 × st_T)) :=
  (g_X11_at n v0 v1 s).bind fun x2 =>
  (gA s (gP s v0 15) x2).bind fun x3 =>
  if x3 ≤ v3 then
    some (.inr (v2, s))
  else
    (g_X11_at n v0 v1 s).bind fun x6 =>
    (gA s (gP s v0 14) x6).bind fun x7 =>
    (gA s (gP s v0 19) ((((4096 : Int32) * (gF s v0 4)) + x7) + v3)).bind fun x8 =>
    (gA s (gP s v0 8) (((300 : Int32) * (gF s v0 4)) + x8)).bind fun x10 =>
    if x10 = 0 then
      g_X11_substitute_87 n v0 v1 v2 v3 x8 x10 (1 : Int32) s
    else
      (gA s (gP s v0 63) x8).bind fun x13 =>
      (gA s (gP s v0 57) x13).bind fun x14 =>
      g_X11_substitute_87 n v0 v1 v2 v3 x8 x10 (x14 - (1 : Int32)) s
set_option maxHeartbeats 1000000 in
theorem t_X11_substitute_4 {tg r : Nat → Nat} {h hb : hp_H} {s sb : st_T} {n : Nat} {v0 : Nat} {v1 : Int32} {v2 : Int32} {v3 : Int32} (I : iso tg r h s) (F : isf tg r hb h sb s) (T_v0 : tg v0 = 21) {res : (Int32 × Int32 × st_T) ⊕ (Int32 × st_T)} (hm : g_X11_substitute_4 n v0 v1 v2 v3 s = some res) : ∃ h2, f_X11_substitute_4 n (r v0) v1 v2 v3 h = some (eR_X11_substitute_4 res h2) ∧ iso tg r h2 (sR_X11_substitute_4 res) ∧ isf tg r hb h2 sb (sR_X11_substitute_4 res) := by
  unfold g_X11_substitute_4 at hm
  unfold f_X11_substitute_4
  have T1 : tg (gP s v0 15) = 0 := t_tg (c := 11) I T_v0 (by decide) (by decide) rfl (by decide)
  refine tr_eq (t_fR I T_v0 (by decide) (by decide) (by decide)) ?_
  obtain ⟨x2, hx2, hm⟩ := hp_bd hm
  refine tr_eq (t_X11_at I T_v0 hx2) ?_
  obtain ⟨x3, hx3, hm⟩ := hp_bd hm
  refine tr_eq (t_aI I T1 (by decide) rfl hx3) ?_
  by_cases c16 : x3 ≤ v3
  · rw [if_pos c16] at hm ⊢
    obtain rfl := Option.some.inj hm
    exact ⟨_, rfl, I, F⟩
  · rw [if_neg c16] at hm ⊢
    have T4 : tg (gP s v0 19) = 0 := t_tg (c := 11) I T_v0 (by decide) (by decide) rfl (by decide)
    refine tr_eq (t_fR I T_v0 (by decide) (by decide) (by decide)) ?_
    refine tr_eq (t_fI I T_v0 (by decide) (by decide) rfl) ?_
    have T5 : tg (gP s v0 14) = 0 := t_tg (c := 11) I T_v0 (by decide) (by decide) rfl (by decide)
    refine tr_eq (t_fR I T_v0 (by decide) (by decide) (by decide)) ?_
    obtain ⟨x6, hx6, hm⟩ := hp_bd hm
    refine tr_eq (t_X11_at I T_v0 hx6) ?_
    obtain ⟨x7, hx7, hm⟩ := hp_bd hm
    refine tr_eq (t_aI I T5 (by decide) rfl hx7) ?_
    obtain ⟨x8, hx8, hm⟩ := hp_bd hm
    refine tr_eq (t_aI I T4 (by decide) rfl hx8) ?_
    have T9 : tg (gP s v0 8) = 2 := t_tg (c := 11) I T_v0 (by decide) (by decide) rfl (by decide)
    refine tr_eq (t_fR I T_v0 (by decide) (by decide) (by decide)) ?_
    refine tr_eq (t_fI I T_v0 (by decide) (by decide) rfl) ?_
    obtain ⟨x10, hx10, hm⟩ := hp_bd hm
    refine tr_eq (t_aI I T9 (by decide) rfl hx10) ?_
    by_cases c15 : x10 = 0
    · rw [if_pos c15] at hm ⊢
      exact t_X11_substitute_87 I F T_v0 hm
    · rw [if_neg c15] at hm ⊢
      have T11 : tg (gP s v0 57) = 0 := t_tg (c := 11) I T_v0 (by decide) (by decide) rfl (by decide)
      refine tr_eq (t_fR I T_v0 (by decide) (by decide) (by decide)) ?_
      have T12 : tg (gP s v0 63) = 0 := t_tg (c := 11) I T_v0 (by decide) (by decide) rfl (by decide)
      refine tr_eq (t_fR I T_v0 (by decide) (by decide) (by decide)) ?_
      obtain ⟨x13, hx13, hm⟩ := hp_bd hm
      refine tr_eq (t_aI I T12 (by decide) rfl hx13) ?_
      obtain ⟨x14, hx14, hm⟩ := hp_bd hm
      refine tr_eq (t_aI I T11 (by decide) rfl hx14) ?_
      exact t_X11_substitute_87 I F T_v0 hm
def gL_X11_substitute_4 (n : Nat) (v0 : Nat) (v1 : Int32) (c : Int32 × Int32 × st_T) : Option ((Int32 × Int32 × st_T) ⊕ (Int32 × st_T)) := g_X11_substitute_4 n v0 v1 c.1 c.2.1 c.2.2
theorem tl_X11_substitute_4 {tg r : Nat → Nat} {hb : hp_H} {sb : st_T} {n : Nat} {v0 : Nat} {v1 : Int32} (T_v0 : tg v0 = 21) : ∀ (k : Nat) (c0 : Int32) (c1 : Int32) (h : hp_H) (s : st_T) (x : Int32 × st_T), iso tg r h s → isf tg r hb h sb s → hp_lp (gL_X11_substitute_4 n v0 v1) k (c0, c1, s) = some x → ∃ h2, hp_lp (fL_X11_substitute_4 n (r v0) v1) k (c0, c1, h) = some (eX_X11_substitute_4 x h2) ∧ iso tg r h2 (sX_X11_substitute_4 x) ∧ isf tg r hb h2 sb (sX_X11_substitute_4 x) := by
  intro k
  induction k with
  | zero => intro c0 c1 h s x I F hx; exact (hp_lp_0 hx).elim
  | succ k ih =>
    intro c0 c1 h s x I F hx
    obtain ⟨rr, hr, hc⟩ := hp_lp_1 hx
    obtain ⟨h2, e2, I2, F2⟩ := t_X11_substitute_4 I F T_v0 hr
    rcases hc with ⟨s3, e3, hx3⟩ | e3
    · subst e3
      obtain ⟨h3, e4, I3, F3⟩ := ih _ _ h2 _ x I2 F2 hx3
      exact ⟨h3, hp_lp_s e2 e4, I3, F3⟩
    · subst e3
      exact ⟨h2, hp_lp_x e2, I2, F2⟩
def g_X11_substitute_0 (n : Nat) (v0 : Nat) (v1 : Int32) (s : st_T) : Option (Int32 × st_T) :=
  (hp_lp (gL_X11_substitute_4 n v0 v1) n ((0 : Int32), (0 : Int32), s)).bind fun x1 =>
  some (x1.1, x1.2)
set_option maxHeartbeats 1000000 in
theorem t_X11_substitute_0 {tg r : Nat → Nat} {h hb : hp_H} {s sb : st_T} {n : Nat} {v0 : Nat} {v1 : Int32} (I : iso tg r h s) (F : isf tg r hb h sb s) (T_v0 : tg v0 = 21) {res : Int32 × st_T} (hm : g_X11_substitute_0 n v0 v1 s = some res) : ∃ h2, f_X11_substitute_0 n (r v0) v1 h = some ((res.1, h2)) ∧ iso tg r h2 res.2 ∧ isf tg r hb h2 sb res.2 := by
  unfold g_X11_substitute_0 at hm
  unfold f_X11_substitute_0
  obtain ⟨x1, hx1, hm⟩ := hp_bd hm
  obtain ⟨_, e2, I, F⟩ := tl_X11_substitute_4 T_v0 n _ _ _ _ _ I F hx1
  refine tr_eq e2 ?_
  try dsimp only [eX_X11_substitute_4]
  replace I : iso tg _ _ x1.2 := I
  replace F : isf tg _ _ _ _ x1.2 := F
  obtain rfl := Option.some.inj hm
  exact ⟨_, rfl, I, F⟩
def g_X11_substitute (n : Nat) (v0 : Nat) (v1 : Int32) (s : st_T) : Option (Int32 × st_T) := g_X11_substitute_0 n v0 v1 s
theorem t_X11_substitute {tg r : Nat → Nat} {h hb : hp_H} {s sb : st_T} {n : Nat} {v0 : Nat} {v1 : Int32} (I : iso tg r h s) (F : isf tg r hb h sb s) (T_v0 : tg v0 = 21) {res : Int32 × st_T} (hm : g_X11_substitute n v0 v1 s = some res) : ∃ h2, f_X11_substitute n (r v0) v1 h = some ((res.1, h2)) ∧ iso tg r h2 res.2 ∧ isf tg r hb h2 sb res.2 := by
  unfold g_X11_substitute at hm
  unfold f_X11_substitute
  refine tr_eq (t_ck I T_v0 (by decide)) ?_
  exact t_X11_substitute_0 I F T_v0 hm
def g_X11_meets_160 (n : Nat) (v0 : Nat) (v1 : Int32) (v3 : Int32) (v4 : Int32) (v6 : Int32) (s0 : Int32) (s : st_T) : Option ((Int32 × Int32) ⊕ (Int32)) :=
  some (.inl (s0, (v6 + (1 : Int32))))
set_option maxHeartbeats 1000000 in
theorem t_X11_meets_160 {tg r : Nat → Nat} {h : hp_H} {s : st_T} {n : Nat} {v0 : Nat} {v1 : Int32} {v3 : Int32} {v4 : Int32} {v6 : Int32} {s0 : Int32} (I : iso tg r h s) (T_v0 : tg v0 = 21) {res : (Int32 × Int32) ⊕ (Int32)} (hm : g_X11_meets_160 n v0 v1 v3 v4 v6 s0 s = some res) : f_X11_meets_160 n (r v0) v1 v3 v4 v6 s0 h = some res := by
  unfold g_X11_meets_160 at hm
  unfold f_X11_meets_160
  obtain rfl := Option.some.inj hm
  rfl
def g_X11_meets_120 (n : Nat) (v0 : Nat) (v1 : Int32) (v3 : Int32) (v4 : Int32) (v5 : Int32) (v6 : Int32) (s : st_T) : Option ((Int32 × Int32) ⊕ (Int32)) :=
  if v4 ≤ v6 then
    some (.inr v5)
  else
    if v5 = 0 then
      some (.inr v5)
    else
      (gA s (gP s v0 62) v6).bind fun x2 =>
      (g_X11_thing n v0 v3 s).bind fun x4 =>
      (gA s (gP s v0 56) (x4 + v6)).bind fun x5 =>
      if x2 = x5 then
        g_X11_meets_160 n v0 v1 v3 v4 v6 (1 : Int32) s
      else
        g_X11_meets_160 n v0 v1 v3 v4 v6 (0 : Int32) s
set_option maxHeartbeats 1000000 in
theorem t_X11_meets_120 {tg r : Nat → Nat} {h : hp_H} {s : st_T} {n : Nat} {v0 : Nat} {v1 : Int32} {v3 : Int32} {v4 : Int32} {v5 : Int32} {v6 : Int32} (I : iso tg r h s) (T_v0 : tg v0 = 21) {res : (Int32 × Int32) ⊕ (Int32)} (hm : g_X11_meets_120 n v0 v1 v3 v4 v5 v6 s = some res) : f_X11_meets_120 n (r v0) v1 v3 v4 v5 v6 h = some res := by
  unfold g_X11_meets_120 at hm
  unfold f_X11_meets_120
  by_cases c8 : v4 ≤ v6
  · rw [if_pos c8] at hm ⊢
    obtain rfl := Option.some.inj hm
    rfl
  · rw [if_neg c8] at hm ⊢
    by_cases c7 : v5 = 0
    · rw [if_pos c7] at hm ⊢
      obtain rfl := Option.some.inj hm
      rfl
    · rw [if_neg c7] at hm ⊢
      have T1 : tg (gP s v0 62) = 0 := t_tg (c := 11) I T_v0 (by decide) (by decide) rfl (by decide)
      refine tr_eq0 (t_fR I T_v0 (by decide) (by decide) (by decide)) ?_
      obtain ⟨x2, hx2, hm⟩ := hp_bd hm
      refine tr_eq0 (t_aI I T1 (by decide) rfl hx2) ?_
      have T3 : tg (gP s v0 56) = 0 := t_tg (c := 11) I T_v0 (by decide) (by decide) rfl (by decide)
      refine tr_eq0 (t_fR I T_v0 (by decide) (by decide) (by decide)) ?_
      obtain ⟨x4, hx4, hm⟩ := hp_bd hm
      refine tr_eq0 (t_X11_thing I T_v0 hx4) ?_
      obtain ⟨x5, hx5, hm⟩ := hp_bd hm
      refine tr_eq0 (t_aI I T3 (by decide) rfl hx5) ?_
      by_cases c6 : x2 = x5
      · rw [if_pos c6] at hm ⊢
        exact t_X11_meets_160 I T_v0 hm
      · rw [if_neg c6] at hm ⊢
        exact t_X11_meets_160 I T_v0 hm
def gL_X11_meets_120 (n : Nat) (v0 : Nat) (v1 : Int32) (v3 : Int32) (v4 : Int32) (s : st_T) (c : Int32 × Int32) : Option ((Int32 × Int32) ⊕ (Int32)) := g_X11_meets_120 n v0 v1 v3 v4 c.1 c.2 s
theorem tl_X11_meets_120 {tg r : Nat → Nat} {h : hp_H} {s : st_T} {n : Nat} {v0 : Nat} {v1 : Int32} {v3 : Int32} {v4 : Int32} (I : iso tg r h s) (T_v0 : tg v0 = 21) : ∀ (k : Nat) (c : Int32 × Int32) (x : Int32), hp_lp (gL_X11_meets_120 n v0 v1 v3 v4 s) k c = some x → hp_lp (fL_X11_meets_120 n (r v0) v1 v3 v4 h) k c = some x := by
  intro k
  induction k with
  | zero => intro c x hx; exact (hp_lp_0 hx).elim
  | succ k ih =>
    intro c x hx
    obtain ⟨rr, hr, hc⟩ := hp_lp_1 hx
    have e2 := t_X11_meets_120 I T_v0 hr
    rcases hc with ⟨s3, e3, hx3⟩ | e3
    · subst e3
      exact hp_lp_s e2 (ih _ _ hx3)
    · subst e3
      exact hp_lp_x e2
def g_X11_meets_183 (n : Nat) (s : st_T) : Option (Int32 × st_T) :=
  some ((1 : Int32), s)
set_option maxHeartbeats 1000000 in
theorem t_X11_meets_183 {tg r : Nat → Nat} {h hb : hp_H} {s sb : st_T} {n : Nat} (I : iso tg r h s) (F : isf tg r hb h sb s) {res : Int32 × st_T} (hm : g_X11_meets_183 n  s = some res) : ∃ h2, f_X11_meets_183 n  h = some ((res.1, h2)) ∧ iso tg r h2 res.2 ∧ isf tg r hb h2 sb res.2 := by
  unfold g_X11_meets_183 at hm
  unfold f_X11_meets_183
  obtain rfl := Option.some.inj hm
  exact ⟨_, rfl, I, F⟩
def g_X11_meets_168 (n : Nat) (v0 : Nat) (v1 : Int32) (v5 : Int32) (s : st_T) : Option (Int32 × st_T) :=
  if v5 = 0 then
    (g_X11_fails n v0 (-6 : Int32) v1 s).bind fun x1 =>
    if x1.1 = 0 then
      some ((0 : Int32), x1.2)
    else
      g_X11_meets_183 n  x1.2
  else
    g_X11_meets_183 n  s
set_option maxHeartbeats 1000000 in
theorem t_X11_meets_168 {tg r : Nat → Nat} {h hb : hp_H} {s sb : st_T} {n : Nat} {v0 : Nat} {v1 : Int32} {v5 : Int32} (I : iso tg r h s) (F : isf tg r hb h sb s) (T_v0 : tg v0 = 21) {res : Int32 × st_T} (hm : g_X11_meets_168 n v0 v1 v5 s = some res) : ∃ h2, f_X11_meets_168 n (r v0) v1 v5 h = some ((res.1, h2)) ∧ iso tg r h2 res.2 ∧ isf tg r hb h2 sb res.2 := by
  unfold g_X11_meets_168 at hm
  unfold f_X11_meets_168
  by_cases c3 : v5 = 0
  · rw [if_pos c3] at hm ⊢
    obtain ⟨x1, hx1, hm⟩ := hp_bd hm
    obtain ⟨_, e2, I, F⟩ := t_X11_fails I F T_v0 hx1
    refine tr_eq e2 ?_
    try dsimp only
    by_cases c2 : x1.1 = 0
    · rw [if_pos c2] at hm ⊢
      obtain rfl := Option.some.inj hm
      exact ⟨_, rfl, I, F⟩
    · rw [if_neg c2] at hm ⊢
      exact t_X11_meets_183 I F  hm
  · rw [if_neg c3] at hm ⊢
    exact t_X11_meets_183 I F  hm
def g_X11_meets_115 (n : Nat) (v0 : Nat) (v1 : Int32) (v3 : Int32) (v4 : Int32) (s0 : Int32) (s : st_T) : Option (Int32 × st_T) :=
  (hp_lp (gL_X11_meets_120 n v0 v1 v3 v4 s) n (s0, (0 : Int32))).bind fun x1 =>
  g_X11_meets_168 n v0 v1 x1 s
set_option maxHeartbeats 1000000 in
theorem t_X11_meets_115 {tg r : Nat → Nat} {h hb : hp_H} {s sb : st_T} {n : Nat} {v0 : Nat} {v1 : Int32} {v3 : Int32} {v4 : Int32} {s0 : Int32} (I : iso tg r h s) (F : isf tg r hb h sb s) (T_v0 : tg v0 = 21) {res : Int32 × st_T} (hm : g_X11_meets_115 n v0 v1 v3 v4 s0 s = some res) : ∃ h2, f_X11_meets_115 n (r v0) v1 v3 v4 s0 h = some ((res.1, h2)) ∧ iso tg r h2 res.2 ∧ isf tg r hb h2 sb res.2 := by
  unfold g_X11_meets_115 at hm
  unfold f_X11_meets_115
  obtain ⟨x1, hx1, hm⟩ := hp_bd hm
  refine tr_eq (tl_X11_meets_120 I T_v0 n _ _ hx1) ?_
  exact t_X11_meets_168 I F T_v0 hm
def g_X11_meets_0 (n : Nat) (v0 : Nat) (v1 : Int32) (v2 : Int32) (v3 : Int32) (s : st_T) : Option (Int32 × st_T) :=
  (g_X11_at n v0 v2 s).bind fun x2 =>
  (gA s (gP s v0 10) x2).bind fun x3 =>
  if x3 = 0 then
    (g_X11_thing n v0 v3 s).bind fun x9 =>
    (gA s (gP s v0 56) x9).bind fun x10 =>
    (g_X11_at n v0 v2 s).bind fun x13 =>
    (gA s (gP s v0 14) x13).bind fun x14 =>
    (gA s (gP s v0 19) (((4096 : Int32) * (gF s v0 4)) + x14)).bind fun x15 =>
    if x10 = x15 then
      (g_X11_at n v0 v2 s).bind fun x19 =>
      (gA s (gP s v0 14) x19).bind fun x20 =>
      (gA s (gP s v0 19) ((((4096 : Int32) * (gF s v0 4)) + x20) + (1 : Int32))).bind fun x21 =>
      (uA 0 s (gP s v0 63) x21 v3).bind fun w22 =>
      some ((1 : Int32), w22)
    else
      (g_X11_fails n v0 (-5 : Int32) v1 s).bind fun x23 =>
      (hp_bz x23.1).bind fun _ =>
      some (x23.1, x23.2)
  else
    (g_X11_substitute n v0 v2 s).bind fun x4 =>
    (gA x4.2 (gP x4.2 v0 57) v3).bind fun x6 =>
    if x4.1 = x6 then
      g_X11_meets_115 n v0 v1 v3 x4.1 (1 : Int32) x4.2
    else
      g_X11_meets_115 n v0 v1 v3 x4.1 (0 : Int32) x4.2
set_option maxHeartbeats 1000000 in
theorem t_X11_meets_0 {tg r : Nat → Nat} {h hb : hp_H} {s sb : st_T} {n : Nat} {v0 : Nat} {v1 : Int32} {v2 : Int32} {v3 : Int32} (I : iso tg r h s) (F : isf tg r hb h sb s) (T_v0 : tg v0 = 21) {res : Int32 × st_T} (hm : g_X11_meets_0 n v0 v1 v2 v3 s = some res) : ∃ h2, f_X11_meets_0 n (r v0) v1 v2 v3 h = some ((res.1, h2)) ∧ iso tg r h2 res.2 ∧ isf tg r hb h2 sb res.2 := by
  unfold g_X11_meets_0 at hm
  unfold f_X11_meets_0
  have T1 : tg (gP s v0 10) = 0 := t_tg (c := 11) I T_v0 (by decide) (by decide) rfl (by decide)
  refine tr_eq (t_fR I T_v0 (by decide) (by decide) (by decide)) ?_
  obtain ⟨x2, hx2, hm⟩ := hp_bd hm
  refine tr_eq (t_X11_at I T_v0 hx2) ?_
  obtain ⟨x3, hx3, hm⟩ := hp_bd hm
  refine tr_eq (t_aI I T1 (by decide) rfl hx3) ?_
  by_cases c26 : x3 = 0
  · rw [if_pos c26] at hm ⊢
    have T8 : tg (gP s v0 56) = 0 := t_tg (c := 11) I T_v0 (by decide) (by decide) rfl (by decide)
    refine tr_eq (t_fR I T_v0 (by decide) (by decide) (by decide)) ?_
    obtain ⟨x9, hx9, hm⟩ := hp_bd hm
    refine tr_eq (t_X11_thing I T_v0 hx9) ?_
    obtain ⟨x10, hx10, hm⟩ := hp_bd hm
    refine tr_eq (t_aI I T8 (by decide) rfl hx10) ?_
    have T11 : tg (gP s v0 19) = 0 := t_tg (c := 11) I T_v0 (by decide) (by decide) rfl (by decide)
    refine tr_eq (t_fR I T_v0 (by decide) (by decide) (by decide)) ?_
    refine tr_eq (t_fI I T_v0 (by decide) (by decide) rfl) ?_
    have T12 : tg (gP s v0 14) = 0 := t_tg (c := 11) I T_v0 (by decide) (by decide) rfl (by decide)
    refine tr_eq (t_fR I T_v0 (by decide) (by decide) (by decide)) ?_
    obtain ⟨x13, hx13, hm⟩ := hp_bd hm
    refine tr_eq (t_X11_at I T_v0 hx13) ?_
    obtain ⟨x14, hx14, hm⟩ := hp_bd hm
    refine tr_eq (t_aI I T12 (by decide) rfl hx14) ?_
    obtain ⟨x15, hx15, hm⟩ := hp_bd hm
    refine tr_eq (t_aI I T11 (by decide) rfl hx15) ?_
    by_cases c25 : x10 = x15
    · rw [if_pos c25] at hm ⊢
      have T16 : tg (gP s v0 63) = 0 := t_tg (c := 11) I T_v0 (by decide) (by decide) rfl (by decide)
      refine tr_eq (t_fR I T_v0 (by decide) (by decide) (by decide)) ?_
      have T17 : tg (gP s v0 19) = 0 := t_tg (c := 11) I T_v0 (by decide) (by decide) rfl (by decide)
      refine tr_eq (t_fR I T_v0 (by decide) (by decide) (by decide)) ?_
      refine tr_eq (t_fI I T_v0 (by decide) (by decide) rfl) ?_
      have T18 : tg (gP s v0 14) = 0 := t_tg (c := 11) I T_v0 (by decide) (by decide) rfl (by decide)
      refine tr_eq (t_fR I T_v0 (by decide) (by decide) (by decide)) ?_
      obtain ⟨x19, hx19, hm⟩ := hp_bd hm
      refine tr_eq (t_X11_at I T_v0 hx19) ?_
      obtain ⟨x20, hx20, hm⟩ := hp_bd hm
      refine tr_eq (t_aI I T18 (by decide) rfl hx20) ?_
      obtain ⟨x21, hx21, hm⟩ := hp_bd hm
      refine tr_eq (t_aI I T17 (by decide) rfl hx21) ?_
      obtain ⟨w22, hw22, hm⟩ := hp_bd hm
      obtain ⟨_, e2, I, F⟩ := t_sI I F T16 (by decide) rfl hw22
      refine tr_eq e2 ?_
      obtain rfl := Option.some.inj hm
      exact ⟨_, rfl, I, F⟩
    · rw [if_neg c25] at hm ⊢
      obtain ⟨x23, hx23, hm⟩ := hp_bd hm
      obtain ⟨_, e2, I, F⟩ := t_X11_fails I F T_v0 hx23
      refine tr_eq e2 ?_
      try dsimp only
      obtain ⟨_, hu24, hm⟩ := hp_bd hm
      refine tr_eq hu24 ?_
      obtain rfl := Option.some.inj hm
      exact ⟨_, rfl, I, F⟩
  · rw [if_neg c26] at hm ⊢
    obtain ⟨x4, hx4, hm⟩ := hp_bd hm
    obtain ⟨_, e2, I, F⟩ := t_X11_substitute I F T_v0 hx4
    refine tr_eq e2 ?_
    try dsimp only
    have T5 : tg (gP x4.2 v0 57) = 0 := t_tg (c := 11) I T_v0 (by decide) (by decide) rfl (by decide)
    refine tr_eq (t_fR I T_v0 (by decide) (by decide) (by decide)) ?_
    obtain ⟨x6, hx6, hm⟩ := hp_bd hm
    refine tr_eq (t_aI I T5 (by decide) rfl hx6) ?_
    by_cases c7 : x4.1 = x6
    · rw [if_pos c7] at hm ⊢
      exact t_X11_meets_115 I F T_v0 hm
    · rw [if_neg c7] at hm ⊢
      exact t_X11_meets_115 I F T_v0 hm
def g_X11_meets (n : Nat) (v0 : Nat) (v1 : Int32) (v2 : Int32) (v3 : Int32) (s : st_T) : Option (Int32 × st_T) := g_X11_meets_0 n v0 v1 v2 v3 s
theorem t_X11_meets {tg r : Nat → Nat} {h hb : hp_H} {s sb : st_T} {n : Nat} {v0 : Nat} {v1 : Int32} {v2 : Int32} {v3 : Int32} (I : iso tg r h s) (F : isf tg r hb h sb s) (T_v0 : tg v0 = 21) {res : Int32 × st_T} (hm : g_X11_meets n v0 v1 v2 v3 s = some res) : ∃ h2, f_X11_meets n (r v0) v1 v2 v3 h = some ((res.1, h2)) ∧ iso tg r h2 res.2 ∧ isf tg r hb h2 sb res.2 := by
  unfold g_X11_meets at hm
  unfold f_X11_meets
  refine tr_eq (t_ck I T_v0 (by decide)) ?_
  exact t_X11_meets_0 I F T_v0 hm
def g_X11_keepApart_153 (n : Nat) (v0 : Nat) (v1 : Int32) (v4 : Int32) (v5 : Int32) (v7 : Int32) (v8 : Int32) (v9 : Int32) (s0 : Int32) (s : st_T) : Option ((Int32 × Int32) ⊕ (Int32)) :=
  some (.inl (s0, (v9 + (1 : Int32))))
set_option maxHeartbeats 1000000 in
theorem t_X11_keepApart_153 {tg r : Nat → Nat} {h : hp_H} {s : st_T} {n : Nat} {v0 : Nat} {v1 : Int32} {v4 : Int32} {v5 : Int32} {v7 : Int32} {v8 : Int32} {v9 : Int32} {s0 : Int32} (I : iso tg r h s) (T_v0 : tg v0 = 21) {res : (Int32 × Int32) ⊕ (Int32)} (hm : g_X11_keepApart_153 n v0 v1 v4 v5 v7 v8 v9 s0 s = some res) : f_X11_keepApart_153 n (r v0) v1 v4 v5 v7 v8 v9 s0 h = some res := by
  unfold g_X11_keepApart_153 at hm
  unfold f_X11_keepApart_153
  obtain rfl := Option.some.inj hm
  rfl
def g_X11_keepApart_148 (n : Nat) (v0 : Nat) (v1 : Int32) (v4 : Int32) (v5 : Int32) (v7 : Int32) (v8 : Int32) (v9 : Int32) (s : st_T) : Option ((Int32 × Int32) ⊕ (Int32)) :=
  g_X11_keepApart_153 n v0 v1 v4 v5 v7 v8 v9 (1 : Int32) s
set_option maxHeartbeats 1000000 in
theorem t_X11_keepApart_148 {tg r : Nat → Nat} {h : hp_H} {s : st_T} {n : Nat} {v0 : Nat} {v1 : Int32} {v4 : Int32} {v5 : Int32} {v7 : Int32} {v8 : Int32} {v9 : Int32} (I : iso tg r h s) (T_v0 : tg v0 = 21) {res : (Int32 × Int32) ⊕ (Int32)} (hm : g_X11_keepApart_148 n v0 v1 v4 v5 v7 v8 v9 s = some res) : f_X11_keepApart_148 n (r v0) v1 v4 v5 v7 v8 v9 h = some res := by
  unfold g_X11_keepApart_148 at hm
  unfold f_X11_keepApart_148
  exact t_X11_keepApart_153 I T_v0 hm
def g_X11_keepApart_152 (n : Nat) (v0 : Nat) (v1 : Int32) (v4 : Int32) (v5 : Int32) (v7 : Int32) (v8 : Int32) (v9 : Int32) (s : st_T) : Option ((Int32 × Int32) ⊕ (Int32)) :=
  g_X11_keepApart_153 n v0 v1 v4 v5 v7 v8 v9 (0 : Int32) s
set_option maxHeartbeats 1000000 in
theorem t_X11_keepApart_152 {tg r : Nat → Nat} {h : hp_H} {s : st_T} {n : Nat} {v0 : Nat} {v1 : Int32} {v4 : Int32} {v5 : Int32} {v7 : Int32} {v8 : Int32} {v9 : Int32} (I : iso tg r h s) (T_v0 : tg v0 = 21) {res : (Int32 × Int32) ⊕ (Int32)} (hm : g_X11_keepApart_152 n v0 v1 v4 v5 v7 v8 v9 s = some res) : f_X11_keepApart_152 n (r v0) v1 v4 v5 v7 v8 v9 h = some res := by
  unfold g_X11_keepApart_152 at hm
  unfold f_X11_keepApart_152
  exact t_X11_keepApart_153 I T_v0 hm
def g_X11_keepApart_58 (n : Nat) (v0 : Nat) (v1 : Int32) (v4 : Int32) (v5 : Int32) (v6 : Int32) (v7 : Int32) (v8 : Int32) (v9 : Int32) (s : st_T) : Option ((Int32 × Int32) ⊕ (Int32)) :=
  (gA s (gP s v0 57) v5).bind fun x2 =>
  if x2 ≤ v9 then
    some (.inr v6)
  else
    if v6 = 0 then
      some (.inr v6)
    else
      (gA s (gP s v0 8) (((300 : Int32) * (gF s v0 4)) + v8)).bind fun x4 =>
      if x4 = 0 then
        some (.inr v6)
      else
        (g_X11_thing n v0 v5 s).bind fun x6 =>
        (gA s (gP s v0 56) (x6 + v9)).bind fun x7 =>
        (gA s (gP s v0 8) (((300 : Int32) * (gF s v0 4)) + x7)).bind fun x9 =>
        if x9 = 0 then
          g_X11_keepApart_148 n v0 v1 v4 v5 v7 v8 v9 s
        else
          if v8 = x7 then
            g_X11_keepApart_152 n v0 v1 v4 v5 v7 v8 v9 s
          else
            (g_X11_apart n v0 v1 v8 x7 s).bind fun x10 =>
            if x10 = 0 then
              g_X11_keepApart_152 n v0 v1 v4 v5 v7 v8 v9 s
            else
              g_X11_keepApart_148 n v0 v1 v4 v5 v7 v8 v9 s
set_option maxHeartbeats 1000000 in
theorem t_X11_keepApart_58 {tg r : Nat → Nat} {h : hp_H} {s : st_T} {n : Nat} {v0 : Nat} {v1 : Int32} {v4 : Int32} {v5 : Int32} {v6 : Int32} {v7 : Int32} {v8 : Int32} {v9 : Int32} (I : iso tg r h s) (T_v0 : tg v0 = 21) {res : (Int32 × Int32) ⊕ (Int32)} (hm : g_X11_keepApart_58 n v0 v1 v4 v5 v6 v7 v8 v9 s = some res) : f_X11_keepApart_58 n (r v0) v1 v4 v5 v6 v7 v8 v9 h = some res := by
  unfold g_X11_keepApart_58 at hm
  unfold f_X11_keepApart_58
  have T1 : tg (gP s v0 57) = 0 := t_tg (c := 11) I T_v0 (by decide) (by decide) rfl (by decide)
  refine tr_eq0 (t_fR I T_v0 (by decide) (by decide) (by decide)) ?_
  obtain ⟨x2, hx2, hm⟩ := hp_bd hm
  refine tr_eq0 (t_aI I T1 (by decide) rfl hx2) ?_
  by_cases c16 : x2 ≤ v9
  · rw [if_pos c16] at hm ⊢
    obtain rfl := Option.some.inj hm
    rfl
  · rw [if_neg c16] at hm ⊢
    by_cases c15 : v6 = 0
    · rw [if_pos c15] at hm ⊢
      obtain rfl := Option.some.inj hm
      rfl
    · rw [if_neg c15] at hm ⊢
      have T3 : tg (gP s v0 8) = 2 := t_tg (c := 11) I T_v0 (by decide) (by decide) rfl (by decide)
      refine tr_eq0 (t_fR I T_v0 (by decide) (by decide) (by decide)) ?_
      refine tr_eq0 (t_fI I T_v0 (by decide) (by decide) rfl) ?_
      obtain ⟨x4, hx4, hm⟩ := hp_bd hm
      refine tr_eq0 (t_aI I T3 (by decide) rfl hx4) ?_
      by_cases c14 : x4 = 0
      · rw [if_pos c14] at hm ⊢
        obtain rfl := Option.some.inj hm
        rfl
      · rw [if_neg c14] at hm ⊢
        have T5 : tg (gP s v0 56) = 0 := t_tg (c := 11) I T_v0 (by decide) (by decide) rfl (by decide)
        refine tr_eq0 (t_fR I T_v0 (by decide) (by decide) (by decide)) ?_
        obtain ⟨x6, hx6, hm⟩ := hp_bd hm
        refine tr_eq0 (t_X11_thing I T_v0 hx6) ?_
        obtain ⟨x7, hx7, hm⟩ := hp_bd hm
        refine tr_eq0 (t_aI I T5 (by decide) rfl hx7) ?_
        have T8 : tg (gP s v0 8) = 2 := t_tg (c := 11) I T_v0 (by decide) (by decide) rfl (by decide)
        refine tr_eq0 (t_fR I T_v0 (by decide) (by decide) (by decide)) ?_
        refine tr_eq0 (t_fI I T_v0 (by decide) (by decide) rfl) ?_
        obtain ⟨x9, hx9, hm⟩ := hp_bd hm
        refine tr_eq0 (t_aI I T8 (by decide) rfl hx9) ?_
        by_cases c13 : x9 = 0
        · rw [if_pos c13] at hm ⊢
          exact t_X11_keepApart_148 I T_v0 hm
        · rw [if_neg c13] at hm ⊢
          by_cases c12 : v8 = x7
          · rw [if_pos c12] at hm ⊢
            exact t_X11_keepApart_152 I T_v0 hm
          · rw [if_neg c12] at hm ⊢
            obtain ⟨x10, hx10, hm⟩ := hp_bd hm
            refine tr_eq0 (t_X11_apart I T_v0 hx10) ?_
            by_cases c11 : x10 = 0
            · rw [if_pos c11] at hm ⊢
              exact t_X11_keepApart_152 I T_v0 hm
            · rw [if_neg c11] at hm ⊢
              exact t_X11_keepApart_148 I T_v0 hm
def gL_X11_keepApart_58 (n : Nat) (v0 : Nat) (v1 : Int32) (v4 : Int32) (v5 : Int32) (v7 : Int32) (v8 : Int32) (s : st_T) (c : Int32 × Int32) : Option ((Int32 × Int32) ⊕ (Int32)) := g_X11_keepApart_58 n v0 v1 v4 v5 c.1 v7 v8 c.2 s
theorem tl_X11_keepApart_58 {tg r : Nat → Nat} {h : hp_H} {s : st_T} {n : Nat} {v0 : Nat} {v1 : Int32} {v4 : Int32} {v5 : Int32} {v7 : Int32} {v8 : Int32} (I : iso tg r h s) (T_v0 : tg v0 = 21) : ∀ (k : Nat) (c : Int32 × Int32) (x : Int32), hp_lp (gL_X11_keepApart_58 n v0 v1 v4 v5 v7 v8 s) k c = some x → hp_lp (fL_X11_keepApart_58 n (r v0) v1 v4 v5 v7 v8 h) k c = some x := by
  intro k
  induction k with
  | zero => intro c x hx; exact (hp_lp_0 hx).elim
  | succ k ih =>
    intro c x hx
    obtain ⟨rr, hr, hc⟩ := hp_lp_1 hx
    have e2 := t_X11_keepApart_58 I T_v0 hr
    rcases hc with ⟨s3, e3, hx3⟩ | e3
    · subst e3
      exact hp_lp_s e2 (ih _ _ hx3)
    · subst e3
      exact hp_lp_x e2
def g_X11_keepApart_161 (n : Nat) (v0 : Nat) (v1 : Int32) (v4 : Int32) (v5 : Int32) (v6 : Int32) (v7 : Int32) (s : st_T) : Option ((Int32 × Int32) ⊕ (Int32)) :=
  some (.inl (v6, (v7 + (1 : Int32))))
set_option maxHeartbeats 1000000 in
theorem t_X11_keepApart_161 {tg r : Nat → Nat} {h : hp_H} {s : st_T} {n : Nat} {v0 : Nat} {v1 : Int32} {v4 : Int32} {v5 : Int32} {v6 : Int32} {v7 : Int32} (I : iso tg r h s) (T_v0 : tg v0 = 21) {res : (Int32 × Int32) ⊕ (Int32)} (hm : g_X11_keepApart_161 n v0 v1 v4 v5 v6 v7 s = some res) : f_X11_keepApart_161 n (r v0) v1 v4 v5 v6 v7 h = some res := by
  unfold g_X11_keepApart_161 at hm
  unfold f_X11_keepApart_161
  obtain rfl := Option.some.inj hm
  rfl
def g_X11_keepApart_22 (n : Nat) (v0 : Nat) (v1 : Int32) (v4 : Int32) (v5 : Int32) (v6 : Int32) (v7 : Int32) (s : st_T) : Option ((Int32 × Int32) ⊕ (Int32)) :=
  (gA s (gP s v0 57) v4).bind fun x2 =>
  if x2 ≤ v7 then
    (hp_bz v6).bind fun _ =>
    some (.inr v6)
  else
    if v6 = 0 then
      (hp_bz v6).bind fun _ =>
      some (.inr v6)
    else
      (g_X11_thing n v0 v4 s).bind fun x6 =>
      (gA s (gP s v0 56) (x6 + v7)).bind fun x7 =>
      (hp_lp (gL_X11_keepApart_58 n v0 v1 v4 v5 v7 x7 s) n (v6, (1 : Int32))).bind fun x8 =>
      g_X11_keepApart_161 n v0 v1 v4 v5 x8 v7 s
set_option maxHeartbeats 1000000 in
theorem t_X11_keepApart_22 {tg r : Nat → Nat} {h : hp_H} {s : st_T} {n : Nat} {v0 : Nat} {v1 : Int32} {v4 : Int32} {v5 : Int32} {v6 : Int32} {v7 : Int32} (I : iso tg r h s) (T_v0 : tg v0 = 21) {res : (Int32 × Int32) ⊕ (Int32)} (hm : g_X11_keepApart_22 n v0 v1 v4 v5 v6 v7 s = some res) : f_X11_keepApart_22 n (r v0) v1 v4 v5 v6 v7 h = some res := by
  unfold g_X11_keepApart_22 at hm
  unfold f_X11_keepApart_22
  have T1 : tg (gP s v0 57) = 0 := t_tg (c := 11) I T_v0 (by decide) (by decide) rfl (by decide)
  refine tr_eq0 (t_fR I T_v0 (by decide) (by decide) (by decide)) ?_
  obtain ⟨x2, hx2, hm⟩ := hp_bd hm
  refine tr_eq0 (t_aI I T1 (by decide) rfl hx2) ?_
  by_cases c11 : x2 ≤ v7
  · rw [if_pos c11] at hm ⊢
    obtain ⟨_, hu3, hm⟩ := hp_bd hm
    refine tr_eq0 hu3 ?_
    obtain rfl := Option.some.inj hm
    rfl
  · rw [if_neg c11] at hm ⊢
    by_cases c10 : v6 = 0
    · rw [if_pos c10] at hm ⊢
      obtain ⟨_, hu4, hm⟩ := hp_bd hm
      refine tr_eq0 hu4 ?_
      obtain rfl := Option.some.inj hm
      rfl
    · rw [if_neg c10] at hm ⊢
      have T5 : tg (gP s v0 56) = 0 := t_tg (c := 11) I T_v0 (by decide) (by decide) rfl (by decide)
      refine tr_eq0 (t_fR I T_v0 (by decide) (by decide) (by decide)) ?_
      obtain ⟨x6, hx6, hm⟩ := hp_bd hm
      refine tr_eq0 (t_X11_thing I T_v0 hx6) ?_
      obtain ⟨x7, hx7, hm⟩ := hp_bd hm
      refine tr_eq0 (t_aI I T5 (by decide) rfl hx7) ?_
      obtain ⟨x8, hx8, hm⟩ := hp_bd hm
      refine tr_eq0 (tl_X11_keepApart_58 I T_v0 n _ _ hx8) ?_
      exact t_X11_keepApart_161 I T_v0 hm
def gL_X11_keepApart_22 (n : Nat) (v0 : Nat) (v1 : Int32) (v4 : Int32) (v5 : Int32) (s : st_T) (c : Int32 × Int32) : Option ((Int32 × Int32) ⊕ (Int32)) := g_X11_keepApart_22 n v0 v1 v4 v5 c.1 c.2 s
theorem tl_X11_keepApart_22 {tg r : Nat → Nat} {h : hp_H} {s : st_T} {n : Nat} {v0 : Nat} {v1 : Int32} {v4 : Int32} {v5 : Int32} (I : iso tg r h s) (T_v0 : tg v0 = 21) : ∀ (k : Nat) (c : Int32 × Int32) (x : Int32), hp_lp (gL_X11_keepApart_22 n v0 v1 v4 v5 s) k c = some x → hp_lp (fL_X11_keepApart_22 n (r v0) v1 v4 v5 h) k c = some x := by
  intro k
  induction k with
  | zero => intro c x hx; exact (hp_lp_0 hx).elim
  | succ k ih =>
    intro c x hx
    obtain ⟨rr, hr, hc⟩ := hp_lp_1 hx
    have e2 := t_X11_keepApart_22 I T_v0 hr
    rcases hc with ⟨s3, e3, hx3⟩ | e3
    · subst e3
      exact hp_lp_s e2 (ih _ _ hx3)
    · subst e3
      exact hp_lp_x e2
def g_X11_keepApart_0 (n : Nat) (v0 : Nat) (v1 : Int32) (v2 : Int32) (v3 : Int32) (s : st_T) : Option (Int32) :=
  (gA s (gP s v0 63) v2).bind fun x2 =>
  (gA s (gP s v0 63) v3).bind fun x4 =>
  (hp_lp (gL_X11_keepApart_22 n v0 v1 x2 x4 s) n ((1 : Int32), (1 : Int32))).bind fun x5 =>
  some x5
set_option maxHeartbeats 1000000 in
theorem t_X11_keepApart_0 {tg r : Nat → Nat} {h : hp_H} {s : st_T} {n : Nat} {v0 : Nat} {v1 : Int32} {v2 : Int32} {v3 : Int32} (I : iso tg r h s) (T_v0 : tg v0 = 21) {res : Int32} (hm : g_X11_keepApart_0 n v0 v1 v2 v3 s = some res) : f_X11_keepApart_0 n (r v0) v1 v2 v3 h = some res := by
  unfold g_X11_keepApart_0 at hm
  unfold f_X11_keepApart_0
  have T1 : tg (gP s v0 63) = 0 := t_tg (c := 11) I T_v0 (by decide) (by decide) rfl (by decide)
  refine tr_eq0 (t_fR I T_v0 (by decide) (by decide) (by decide)) ?_
  obtain ⟨x2, hx2, hm⟩ := hp_bd hm
  refine tr_eq0 (t_aI I T1 (by decide) rfl hx2) ?_
  have T3 : tg (gP s v0 63) = 0 := t_tg (c := 11) I T_v0 (by decide) (by decide) rfl (by decide)
  refine tr_eq0 (t_fR I T_v0 (by decide) (by decide) (by decide)) ?_
  obtain ⟨x4, hx4, hm⟩ := hp_bd hm
  refine tr_eq0 (t_aI I T3 (by decide) rfl hx4) ?_
  obtain ⟨x5, hx5, hm⟩ := hp_bd hm
  refine tr_eq0 (tl_X11_keepApart_22 I T_v0 n _ _ hx5) ?_
  obtain rfl := Option.some.inj hm
  rfl
def g_X11_keepApart (n : Nat) (v0 : Nat) (v1 : Int32) (v2 : Int32) (v3 : Int32) (s : st_T) : Option (Int32) := g_X11_keepApart_0 n v0 v1 v2 v3 s
theorem t_X11_keepApart {tg r : Nat → Nat} {h : hp_H} {s : st_T} {n : Nat} {v0 : Nat} {v1 : Int32} {v2 : Int32} {v3 : Int32} (I : iso tg r h s) (T_v0 : tg v0 = 21) {res : Int32} (hm : g_X11_keepApart n v0 v1 v2 v3 s = some res) : f_X11_keepApart n (r v0) v1 v2 v3 h = some res := by
  unfold g_X11_keepApart at hm
  unfold f_X11_keepApart
  refine tr_eq0 (t_ck I T_v0 (by decide)) ?_
  exact t_X11_keepApart_0 I T_v0 hm
abbrev eX_X11_pushAssertion_40 (x : (st_T) ⊕ (Int32 × st_T)) (h2 : hp_H) : (hp_H) ⊕ (Int32 × hp_H) := (Sum.elim (fun y => (.inl h2)) (fun y => (.inr (y.1, h2)))) x
abbrev sX_X11_pushAssertion_40 (x : (st_T) ⊕ (Int32 × st_T)) : st_T := (Sum.elim (fun y => y) (fun y => y.2)) x
abbrev eR_X11_pushAssertion_40 (x : (Int32 × Int32 × st_T) ⊕ ((st_T) ⊕ (Int32 × st_T))) (h2 : hp_H) : (Int32 × Int32 × hp_H) ⊕ ((hp_H) ⊕ (Int32 × hp_H)) := Sum.elim (fun y => .inl (y.1, y.2.1, h2)) (fun y => .inr (eX_X11_pushAssertion_40 y h2)) x
abbrev sR_X11_pushAssertion_40 (x : (Int32 × Int32 × st_T) ⊕ ((st_T) ⊕ (Int32 × st_T))) : st_T := Sum.elim (fun y => y.2.2) sX_X11_pushAssertion_40 x
def g_X11_pushAssertion_77 (n : Nat) (v0 : Nat) (v1 : Int32) (v2 : Int32) (v3 : Int32) (v4 : Int32) (v5 : Int32) (v6 : Int32) (v7 : Int32) (s : st_T) : Option ((Int32 × Int32 × st_T) ⊕ ((st_T) ⊕ (Int32 × st_T))) :=
  some (.inl (v6, (v7 + (1 : Int32)), s))
set_option maxHeartbeats 1000000 in
theorem t_X11_pushAssertion_77 {tg r : Nat → Nat} {h hb : hp_H} {s sb : st_T} {n : Nat} {v0 : Nat} {v1 : Int32} {v2 : Int32} {v3 : Int32} {v4 : Int32} {v5 : Int32} {v6 : Int32} {v7 : Int32} (I : iso tg r h s) (F : isf tg r hb h sb s) (T_v0 : tg v0 = 21) {res : (Int32 × Int32 × st_T) ⊕ ((st_T) ⊕ (Int32 × st_T))} (hm : g_X11_pushAssertion_77 n v0 v1 v2 v3 v4 v5 v6 v7 s = some res) : ∃ h2, f_X11_pushAssertion_77 n (r v0) v1 v2 v3 v4 v5 v6 v7 h = some (eR_X11_pushAssertion_40 res h2) ∧ iso tg r h2 (sR_X11_pushAssertion_40 res) ∧ isf tg r hb h2 sb (sR_X11_pushAssertion_40 res) := by
  unfold g_X11_pushAssertion_77 at hm
  unfold f_X11_pushAssertion_77
  obtain rfl := Option.some.inj hm
  exact ⟨_, rfl, I, F⟩
def g_X11_pushAssertion_40 (n : Nat) (v0 : Nat) (v1 : Int32) (v2 : Int32) (v3 : Int32) (v4 : Int32) (v5 : Int32) (v6 : Int32) (v7 : Int32) (s : st_T) : Option ((Int32 × Int32 × st_T) ⊕ ((st_T) ⊕ (Int32 × st_T))) :=
  if v3 ≤ v7 then
    some (.inr (.inl s))
  else
    (g_X11_isBit n v0 (gP s v0 23) v3 v7 s).bind fun x2 =>
    if x2 = 0 then
      g_X11_pushAssertion_77 n v0 v1 v2 v3 v4 v5 v6 v7 s
    else
      (g_X11_meets n v0 v2 v7 v6 s).bind fun x3 =>
      if x3.1 = 0 then
        some (.inr (.inr ((0 : Int32), x3.2)))
      else
        g_X11_pushAssertion_77 n v0 v1 v2 v3 v4 v5 (v6 + (1 : Int32)) v7 x3.2
set_option maxHeartbeats 1000000 in
theorem t_X11_pushAssertion_40 {tg r : Nat → Nat} {h hb : hp_H} {s sb : st_T} {n : Nat} {v0 : Nat} {v1 : Int32} {v2 : Int32} {v3 : Int32} {v4 : Int32} {v5 : Int32} {v6 : Int32} {v7 : Int32} (I : iso tg r h s) (F : isf tg r hb h sb s) (T_v0 : tg v0 = 21) {res : (Int32 × Int32 × st_T) ⊕ ((st_T) ⊕ (Int32 × st_T))} (hm : g_X11_pushAssertion_40 n v0 v1 v2 v3 v4 v5 v6 v7 s = some res) : ∃ h2, f_X11_pushAssertion_40 n (r v0) v1 v2 v3 v4 v5 v6 v7 h = some (eR_X11_pushAssertion_40 res h2) ∧ iso tg r h2 (sR_X11_pushAssertion_40 res) ∧ isf tg r hb h2 sb (sR_X11_pushAssertion_40 res) := by
  unfold g_X11_pushAssertion_40 at hm
  unfold f_X11_pushAssertion_40
  by_cases c6 : v3 ≤ v7
  · rw [if_pos c6] at hm ⊢
    obtain rfl := Option.some.inj hm
    exact ⟨_, rfl, I, F⟩
  · rw [if_neg c6] at hm ⊢
    have T1 : tg (gP s v0 23) = 3 := t_tg (c := 11) I T_v0 (by decide) (by decide) rfl (by decide)
    refine tr_eq (t_fR I T_v0 (by decide) (by decide) (by decide)) ?_
    obtain ⟨x2, hx2, hm⟩ := hp_bd hm
    refine tr_eq (t_X11_isBit I T_v0 T1 hx2) ?_
    by_cases c5 : x2 = 0
    · rw [if_pos c5] at hm ⊢
      exact t_X11_pushAssertion_77 I F T_v0 hm
    · rw [if_neg c5] at hm ⊢
      obtain ⟨x3, hx3, hm⟩ := hp_bd hm
      obtain ⟨_, e2, I, F⟩ := t_X11_meets I F T_v0 hx3
      refine tr_eq e2 ?_
      try dsimp only
      by_cases c4 : x3.1 = 0
      · rw [if_pos c4] at hm ⊢
        obtain rfl := Option.some.inj hm
        exact ⟨_, rfl, I, F⟩
      · rw [if_neg c4] at hm ⊢
        exact t_X11_pushAssertion_77 I F T_v0 hm
def gL_X11_pushAssertion_40 (n : Nat) (v0 : Nat) (v1 : Int32) (v2 : Int32) (v3 : Int32) (v4 : Int32) (v5 : Int32) (c : Int32 × Int32 × st_T) : Option ((Int32 × Int32 × st_T) ⊕ ((st_T) ⊕ (Int32 × st_T))) := g_X11_pushAssertion_40 n v0 v1 v2 v3 v4 v5 c.1 c.2.1 c.2.2
theorem tl_X11_pushAssertion_40 {tg r : Nat → Nat} {hb : hp_H} {sb : st_T} {n : Nat} {v0 : Nat} {v1 : Int32} {v2 : Int32} {v3 : Int32} {v4 : Int32} {v5 : Int32} (T_v0 : tg v0 = 21) : ∀ (k : Nat) (c0 : Int32) (c1 : Int32) (h : hp_H) (s : st_T) (x : (st_T) ⊕ (Int32 × st_T)), iso tg r h s → isf tg r hb h sb s → hp_lp (gL_X11_pushAssertion_40 n v0 v1 v2 v3 v4 v5) k (c0, c1, s) = some x → ∃ h2, hp_lp (fL_X11_pushAssertion_40 n (r v0) v1 v2 v3 v4 v5) k (c0, c1, h) = some (eX_X11_pushAssertion_40 x h2) ∧ iso tg r h2 (sX_X11_pushAssertion_40 x) ∧ isf tg r hb h2 sb (sX_X11_pushAssertion_40 x) := by
  intro k
  induction k with
  | zero => intro c0 c1 h s x I F hx; exact (hp_lp_0 hx).elim
  | succ k ih =>
    intro c0 c1 h s x I F hx
    obtain ⟨rr, hr, hc⟩ := hp_lp_1 hx
    obtain ⟨h2, e2, I2, F2⟩ := t_X11_pushAssertion_40 I F T_v0 hr
    rcases hc with ⟨s3, e3, hx3⟩ | e3
    · subst e3
      obtain ⟨h3, e4, I3, F3⟩ := ih _ _ h2 _ x I2 F2 hx3
      exact ⟨h3, hp_lp_s e2 e4, I3, F3⟩
    · subst e3
      exact ⟨h2, hp_lp_x e2, I2, F2⟩
def g_X11_pushAssertion_198 (n : Nat) (v0 : Nat) (v1 : Int32) (v2 : Int32) (v3 : Int32) (v4 : Int32) (v5 : Int32) (v7 : Int32) (s : st_T) : Option ((Int32) ⊕ ((Unit) ⊕ (Unit))) :=
  some (.inl (v7 + (1 : Int32)))
set_option maxHeartbeats 1000000 in
theorem t_X11_pushAssertion_198 {tg r : Nat → Nat} {h : hp_H} {s : st_T} {n : Nat} {v0 : Nat} {v1 : Int32} {v2 : Int32} {v3 : Int32} {v4 : Int32} {v5 : Int32} {v7 : Int32} (I : iso tg r h s) (T_v0 : tg v0 = 21) {res : (Int32) ⊕ ((Unit) ⊕ (Unit))} (hm : g_X11_pushAssertion_198 n v0 v1 v2 v3 v4 v5 v7 s = some res) : f_X11_pushAssertion_198 n (r v0) v1 v2 v3 v4 v5 v7 h = some res := by
  unfold g_X11_pushAssertion_198 at hm
  unfold f_X11_pushAssertion_198
  obtain rfl := Option.some.inj hm
  rfl
def g_X11_pushAssertion_161 (n : Nat) (v0 : Nat) (v1 : Int32) (v2 : Int32) (v3 : Int32) (v4 : Int32) (v5 : Int32) (v7 : Int32) (s0 : Int32) (s : st_T) : Option ((Int32) ⊕ ((Unit) ⊕ (Unit))) :=
  if s0 = 0 then
    g_X11_pushAssertion_198 n v0 v1 v2 v3 v4 v5 v7 s
  else
    (gA s (gP s v0 24) v7).bind fun x2 =>
    (gA s (gP s v0 25) v7).bind fun x4 =>
    (g_X11_keepApart n v0 v1 x2 x4 s).bind fun x5 =>
    if x5 = 0 then
      some (.inr (.inl ()))
    else
      g_X11_pushAssertion_198 n v0 v1 v2 v3 v4 v5 v7 s
set_option maxHeartbeats 1000000 in
theorem t_X11_pushAssertion_161 {tg r : Nat → Nat} {h : hp_H} {s : st_T} {n : Nat} {v0 : Nat} {v1 : Int32} {v2 : Int32} {v3 : Int32} {v4 : Int32} {v5 : Int32} {v7 : Int32} {s0 : Int32} (I : iso tg r h s) (T_v0 : tg v0 = 21) {res : (Int32) ⊕ ((Unit) ⊕ (Unit))} (hm : g_X11_pushAssertion_161 n v0 v1 v2 v3 v4 v5 v7 s0 s = some res) : f_X11_pushAssertion_161 n (r v0) v1 v2 v3 v4 v5 v7 s0 h = some res := by
  unfold g_X11_pushAssertion_161 at hm
  unfold f_X11_pushAssertion_161
  by_cases c7 : s0 = 0
  · rw [if_pos c7] at hm ⊢
    exact t_X11_pushAssertion_198 I T_v0 hm
  · rw [if_neg c7] at hm ⊢
    have T1 : tg (gP s v0 24) = 0 := t_tg (c := 11) I T_v0 (by decide) (by decide) rfl (by decide)
    refine tr_eq0 (t_fR I T_v0 (by decide) (by decide) (by decide)) ?_
    obtain ⟨x2, hx2, hm⟩ := hp_bd hm
    refine tr_eq0 (t_aI I T1 (by decide) rfl hx2) ?_
    have T3 : tg (gP s v0 25) = 0 := t_tg (c := 11) I T_v0 (by decide) (by decide) rfl (by decide)
    refine tr_eq0 (t_fR I T_v0 (by decide) (by decide) (by decide)) ?_
    obtain ⟨x4, hx4, hm⟩ := hp_bd hm
    refine tr_eq0 (t_aI I T3 (by decide) rfl hx4) ?_
    obtain ⟨x5, hx5, hm⟩ := hp_bd hm
    refine tr_eq0 (t_X11_keepApart I T_v0 hx5) ?_
    by_cases c6 : x5 = 0
    · rw [if_pos c6] at hm ⊢
      obtain rfl := Option.some.inj hm
      rfl
    · rw [if_neg c6] at hm ⊢
      exact t_X11_pushAssertion_198 I T_v0 hm
def g_X11_pushAssertion_160 (n : Nat) (v0 : Nat) (v1 : Int32) (v2 : Int32) (v3 : Int32) (v4 : Int32) (v5 : Int32) (v7 : Int32) (s : st_T) : Option ((Int32) ⊕ ((Unit) ⊕ (Unit))) :=
  g_X11_pushAssertion_161 n v0 v1 v2 v3 v4 v5 v7 (0 : Int32) s
set_option maxHeartbeats 1000000 in
theorem t_X11_pushAssertion_160 {tg r : Nat → Nat} {h : hp_H} {s : st_T} {n : Nat} {v0 : Nat} {v1 : Int32} {v2 : Int32} {v3 : Int32} {v4 : Int32} {v5 : Int32} {v7 : Int32} (I : iso tg r h s) (T_v0 : tg v0 = 21) {res : (Int32) ⊕ ((Unit) ⊕ (Unit))} (hm : g_X11_pushAssertion_160 n v0 v1 v2 v3 v4 v5 v7 s = some res) : f_X11_pushAssertion_160 n (r v0) v1 v2 v3 v4 v5 v7 h = some res := by
  unfold g_X11_pushAssertion_160 at hm
  unfold f_X11_pushAssertion_160
  exact t_X11_pushAssertion_161 I T_v0 hm
def g_X11_pushAssertion_93 (n : Nat) (v0 : Nat) (v1 : Int32) (v2 : Int32) (v3 : Int32) (v4 : Int32) (v5 : Int32) (v7 : Int32) (s : st_T) : Option ((Int32) ⊕ ((Unit) ⊕ (Unit))) :=
  (gA s (gP s v0 28) (gF s v0 4)).bind fun x2 =>
  if (((10240 : Int32) * (gF s v0 4)) + x2) ≤ v7 then
    some (.inr (.inr ()))
  else
    (g_X11_isPairAt n v0 v7 v3 s).bind fun x3 =>
    if x3 = 0 then
      g_X11_pushAssertion_160 n v0 v1 v2 v3 v4 v5 v7 s
    else
      (gA s (gP s v0 24) v7).bind fun x5 =>
      (g_X11_isMandatory n v0 v3 x5 s).bind fun x6 =>
      if x6 = 0 then
        g_X11_pushAssertion_160 n v0 v1 v2 v3 v4 v5 v7 s
      else
        (gA s (gP s v0 25) v7).bind fun x8 =>
        (g_X11_isMandatory n v0 v3 x8 s).bind fun x9 =>
        if x9 = 0 then
          g_X11_pushAssertion_160 n v0 v1 v2 v3 v4 v5 v7 s
        else
          g_X11_pushAssertion_161 n v0 v1 v2 v3 v4 v5 v7 (1 : Int32) s
set_option maxHeartbeats 1000000 in
theorem t_X11_pushAssertion_93 {tg r : Nat → Nat} {h : hp_H} {s : st_T} {n : Nat} {v0 : Nat} {v1 : Int32} {v2 : Int32} {v3 : Int32} {v4 : Int32} {v5 : Int32} {v7 : Int32} (I : iso tg r h s) (T_v0 : tg v0 = 21) {res : (Int32) ⊕ ((Unit) ⊕ (Unit))} (hm : g_X11_pushAssertion_93 n v0 v1 v2 v3 v4 v5 v7 s = some res) : f_X11_pushAssertion_93 n (r v0) v1 v2 v3 v4 v5 v7 h = some res := by
  unfold g_X11_pushAssertion_93 at hm
  unfold f_X11_pushAssertion_93
  refine tr_eq0 (t_fI I T_v0 (by decide) (by decide) rfl) ?_
  have T1 : tg (gP s v0 28) = 0 := t_tg (c := 11) I T_v0 (by decide) (by decide) rfl (by decide)
  refine tr_eq0 (t_fR I T_v0 (by decide) (by decide) (by decide)) ?_
  refine tr_eq0 (t_fI I T_v0 (by decide) (by decide) rfl) ?_
  obtain ⟨x2, hx2, hm⟩ := hp_bd hm
  refine tr_eq0 (t_aI I T1 (by decide) rfl hx2) ?_
  by_cases c13 : (((10240 : Int32) * (gF s v0 4)) + x2) ≤ v7
  · rw [if_pos c13] at hm ⊢
    obtain rfl := Option.some.inj hm
    rfl
  · rw [if_neg c13] at hm ⊢
    obtain ⟨x3, hx3, hm⟩ := hp_bd hm
    refine tr_eq0 (t_X11_isPairAt I T_v0 hx3) ?_
    by_cases c12 : x3 = 0
    · rw [if_pos c12] at hm ⊢
      exact t_X11_pushAssertion_160 I T_v0 hm
    · rw [if_neg c12] at hm ⊢
      have T4 : tg (gP s v0 24) = 0 := t_tg (c := 11) I T_v0 (by decide) (by decide) rfl (by decide)
      refine tr_eq0 (t_fR I T_v0 (by decide) (by decide) (by decide)) ?_
      obtain ⟨x5, hx5, hm⟩ := hp_bd hm
      refine tr_eq0 (t_aI I T4 (by decide) rfl hx5) ?_
      obtain ⟨x6, hx6, hm⟩ := hp_bd hm
      refine tr_eq0 (t_X11_isMandatory I T_v0 hx6) ?_
      by_cases c11 : x6 = 0
      · rw [if_pos c11] at hm ⊢
        exact t_X11_pushAssertion_160 I T_v0 hm
      · rw [if_neg c11] at hm ⊢
        have T7 : tg (gP s v0 25) = 0 := t_tg (c := 11) I T_v0 (by decide) (by decide) rfl (by decide)
        refine tr_eq0 (t_fR I T_v0 (by decide) (by decide) (by decide)) ?_
        obtain ⟨x8, hx8, hm⟩ := hp_bd hm
        refine tr_eq0 (t_aI I T7 (by decide) rfl hx8) ?_
        obtain ⟨x9, hx9, hm⟩ := hp_bd hm
        refine tr_eq0 (t_X11_isMandatory I T_v0 hx9) ?_
        by_cases c10 : x9 = 0
        · rw [if_pos c10] at hm ⊢
          exact t_X11_pushAssertion_160 I T_v0 hm
        · rw [if_neg c10] at hm ⊢
          exact t_X11_pushAssertion_161 I T_v0 hm
def gL_X11_pushAssertion_93 (n : Nat) (v0 : Nat) (v1 : Int32) (v2 : Int32) (v3 : Int32) (v4 : Int32) (v5 : Int32) (s : st_T) (c : Int32) : Option ((Int32) ⊕ ((Unit) ⊕ (Unit))) := g_X11_pushAssertion_93 n v0 v1 v2 v3 v4 v5 c s
theorem tl_X11_pushAssertion_93 {tg r : Nat → Nat} {h : hp_H} {s : st_T} {n : Nat} {v0 : Nat} {v1 : Int32} {v2 : Int32} {v3 : Int32} {v4 : Int32} {v5 : Int32} (I : iso tg r h s) (T_v0 : tg v0 = 21) : ∀ (k : Nat) (c : Int32) (x : (Unit) ⊕ (Unit)), hp_lp (gL_X11_pushAssertion_93 n v0 v1 v2 v3 v4 v5 s) k c = some x → hp_lp (fL_X11_pushAssertion_93 n (r v0) v1 v2 v3 v4 v5 h) k c = some x := by
  intro k
  induction k with
  | zero => intro c x hx; exact (hp_lp_0 hx).elim
  | succ k ih =>
    intro c x hx
    obtain ⟨rr, hr, hc⟩ := hp_lp_1 hx
    have e2 := t_X11_pushAssertion_93 I T_v0 hr
    rcases hc with ⟨s3, e3, hx3⟩ | e3
    · subst e3
      exact hp_lp_s e2 (ih _ _ hx3)
    · subst e3
      exact hp_lp_x e2
def g_X11_pushAssertion_226 (n : Nat) (v0 : Nat) (v2 : Int32) (s : st_T) : Option (Int32 × st_T) :=
  (g_X11_fails n v0 (-10 : Int32) v2 s).bind fun x1 =>
  (hp_bz x1.1).bind fun _ =>
  some (x1.1, x1.2)
set_option maxHeartbeats 1000000 in
theorem t_X11_pushAssertion_226 {tg r : Nat → Nat} {h hb : hp_H} {s sb : st_T} {n : Nat} {v0 : Nat} {v2 : Int32} (I : iso tg r h s) (F : isf tg r hb h sb s) (T_v0 : tg v0 = 21) {res : Int32 × st_T} (hm : g_X11_pushAssertion_226 n v0 v2 s = some res) : ∃ h2, f_X11_pushAssertion_226 n (r v0) v2 h = some ((res.1, h2)) ∧ iso tg r h2 res.2 ∧ isf tg r hb h2 sb res.2 := by
  unfold g_X11_pushAssertion_226 at hm
  unfold f_X11_pushAssertion_226
  obtain ⟨x1, hx1, hm⟩ := hp_bd hm
  obtain ⟨_, e2, I, F⟩ := t_X11_fails I F T_v0 hx1
  refine tr_eq e2 ?_
  try dsimp only
  obtain ⟨_, hu2, hm⟩ := hp_bd hm
  refine tr_eq hu2 ?_
  obtain rfl := Option.some.inj hm
  exact ⟨_, rfl, I, F⟩
abbrev eX_X11_pushAssertion_255 (x : st_T) (h2 : hp_H) : hp_H := (fun y => h2) x
abbrev sX_X11_pushAssertion_255 (x : st_T) : st_T := (fun y => y) x
abbrev eR_X11_pushAssertion_255 (x : (Int32 × st_T) ⊕ (st_T)) (h2 : hp_H) : (Int32 × hp_H) ⊕ (hp_H) := Sum.elim (fun y => .inl (y.1, h2)) (fun y => .inr (eX_X11_pushAssertion_255 y h2)) x
abbrev sR_X11_pushAssertion_255 (x : (Int32 × st_T) ⊕ (st_T)) : st_T := Sum.elim (fun y => y.2) sX_X11_pushAssertion_255 x
def g_X11_pushAssertion_255 (n : Nat) (v0 : Nat) (v2 : Int32) (v4 : Int32) (v5 : Int32) (v7 : Int32) (v8 : Int32) (s : st_T) : Option ((Int32 × st_T) ⊕ (st_T)) :=
  if v4 ≤ v8 then
    some (.inr s)
  else
    (gA s (gP s v0 58) (v5 + v8)).bind fun x3 =>
    (uA 0 s (gP s v0 64) (gF s v0 67) x3).bind fun w4 =>
    (wF w4 v0 67 ((gF w4 v0 67) + (1 : Int32))).bind fun w5 =>
    some (.inl ((v8 + (1 : Int32)), w5))
set_option maxHeartbeats 1000000 in
theorem t_X11_pushAssertion_255 {tg r : Nat → Nat} {h hb : hp_H} {s sb : st_T} {n : Nat} {v0 : Nat} {v2 : Int32} {v4 : Int32} {v5 : Int32} {v7 : Int32} {v8 : Int32} (I : iso tg r h s) (F : isf tg r hb h sb s) (T_v0 : tg v0 = 21) {res : (Int32 × st_T) ⊕ (st_T)} (hm : g_X11_pushAssertion_255 n v0 v2 v4 v5 v7 v8 s = some res) : ∃ h2, f_X11_pushAssertion_255 n (r v0) v2 v4 v5 v7 v8 h = some (eR_X11_pushAssertion_255 res h2) ∧ iso tg r h2 (sR_X11_pushAssertion_255 res) ∧ isf tg r hb h2 sb (sR_X11_pushAssertion_255 res) := by
  unfold g_X11_pushAssertion_255 at hm
  unfold f_X11_pushAssertion_255
  by_cases c6 : v4 ≤ v8
  · rw [if_pos c6] at hm ⊢
    obtain rfl := Option.some.inj hm
    exact ⟨_, rfl, I, F⟩
  · rw [if_neg c6] at hm ⊢
    have T1 : tg (gP s v0 64) = 0 := t_tg (c := 11) I T_v0 (by decide) (by decide) rfl (by decide)
    refine tr_eq (t_fR I T_v0 (by decide) (by decide) (by decide)) ?_
    refine tr_eq (t_fI I T_v0 (by decide) (by decide) rfl) ?_
    have T2 : tg (gP s v0 58) = 0 := t_tg (c := 11) I T_v0 (by decide) (by decide) rfl (by decide)
    refine tr_eq (t_fR I T_v0 (by decide) (by decide) (by decide)) ?_
    obtain ⟨x3, hx3, hm⟩ := hp_bd hm
    refine tr_eq (t_aI I T2 (by decide) rfl hx3) ?_
    obtain ⟨w4, hw4, hm⟩ := hp_bd hm
    obtain ⟨_, e2, I, F⟩ := t_sI I F T1 (by decide) rfl hw4
    refine tr_eq e2 ?_
    refine tr_eq (t_fI I T_v0 (by decide) (by decide) rfl) ?_
    obtain ⟨w5, hw5, hm⟩ := hp_bd hm
    obtain ⟨_, e2, I, F⟩ := t_wF (c := 11) (k := 67) I F T_v0 (by decide) (by decide) rfl hw5
    refine tr_eq e2 ?_
    obtain rfl := Option.some.inj hm
    exact ⟨_, rfl, I, F⟩
def gL_X11_pushAssertion_255 (n : Nat) (v0 : Nat) (v2 : Int32) (v4 : Int32) (v5 : Int32) (v7 : Int32) (c : Int32 × st_T) : Option ((Int32 × st_T) ⊕ (st_T)) := g_X11_pushAssertion_255 n v0 v2 v4 v5 v7 c.1 c.2
theorem tl_X11_pushAssertion_255 {tg r : Nat → Nat} {hb : hp_H} {sb : st_T} {n : Nat} {v0 : Nat} {v2 : Int32} {v4 : Int32} {v5 : Int32} {v7 : Int32} (T_v0 : tg v0 = 21) : ∀ (k : Nat) (c0 : Int32) (h : hp_H) (s : st_T) (x : st_T), iso tg r h s → isf tg r hb h sb s → hp_lp (gL_X11_pushAssertion_255 n v0 v2 v4 v5 v7) k (c0, s) = some x → ∃ h2, hp_lp (fL_X11_pushAssertion_255 n (r v0) v2 v4 v5 v7) k (c0, h) = some (eX_X11_pushAssertion_255 x h2) ∧ iso tg r h2 (sX_X11_pushAssertion_255 x) ∧ isf tg r hb h2 sb (sX_X11_pushAssertion_255 x) := by
  intro k
  induction k with
  | zero => intro c0 h s x I F hx; exact (hp_lp_0 hx).elim
  | succ k ih =>
    intro c0 h s x I F hx
    obtain ⟨rr, hr, hc⟩ := hp_lp_1 hx
    obtain ⟨h2, e2, I2, F2⟩ := t_X11_pushAssertion_255 I F T_v0 hr
    rcases hc with ⟨s3, e3, hx3⟩ | e3
    · subst e3
      obtain ⟨h3, e4, I3, F3⟩ := ih _ h2 _ x I2 F2 hx3
      exact ⟨h3, hp_lp_s e2 e4, I3, F3⟩
    · subst e3
      exact ⟨h2, hp_lp_x e2, I2, F2⟩
abbrev eX_X11_pushAssertion_315 (x : st_T) (h2 : hp_H) : hp_H := (fun y => h2) x
abbrev sX_X11_pushAssertion_315 (x : st_T) : st_T := (fun y => y) x
abbrev eR_X11_pushAssertion_315 (x : (Int32 × st_T) ⊕ (st_T)) (h2 : hp_H) : (Int32 × hp_H) ⊕ (hp_H) := Sum.elim (fun y => .inl (y.1, h2)) (fun y => .inr (eX_X11_pushAssertion_315 y h2)) x
abbrev sR_X11_pushAssertion_315 (x : (Int32 × st_T) ⊕ (st_T)) : st_T := Sum.elim (fun y => y.2) sX_X11_pushAssertion_315 x
def g_X11_pushAssertion_315 (n : Nat) (v0 : Nat) (v2 : Int32) (v5 : Int32) (v7 : Int32) (v8 : Int32) (s : st_T) : Option ((Int32 × st_T) ⊕ (st_T)) :=
  if v7 ≤ v8 then
    some (.inr s)
  else
    (g_X11_thing n v0 v5 s).bind fun x2 =>
    (gA s (gP s v0 62) v8).bind fun x4 =>
    (uA 0 s (gP s v0 56) (x2 + v8) x4).bind fun w5 =>
    some (.inl ((v8 + (1 : Int32)), w5))
set_option maxHeartbeats 1000000 in
theorem t_X11_pushAssertion_315 {tg r : Nat → Nat} {h hb : hp_H} {s sb : st_T} {n : Nat} {v0 : Nat} {v2 : Int32} {v5 : Int32} {v7 : Int32} {v8 : Int32} (I : iso tg r h s) (F : isf tg r hb h sb s) (T_v0 : tg v0 = 21) {res : (Int32 × st_T) ⊕ (st_T)} (hm : g_X11_pushAssertion_315 n v0 v2 v5 v7 v8 s = some res) : ∃ h2, f_X11_pushAssertion_315 n (r v0) v2 v5 v7 v8 h = some (eR_X11_pushAssertion_315 res h2) ∧ iso tg r h2 (sR_X11_pushAssertion_315 res) ∧ isf tg r hb h2 sb (sR_X11_pushAssertion_315 res) := by
  unfold g_X11_pushAssertion_315 at hm
  unfold f_X11_pushAssertion_315
  by_cases c6 : v7 ≤ v8
  · rw [if_pos c6] at hm ⊢
    obtain rfl := Option.some.inj hm
    exact ⟨_, rfl, I, F⟩
  · rw [if_neg c6] at hm ⊢
    have T1 : tg (gP s v0 56) = 0 := t_tg (c := 11) I T_v0 (by decide) (by decide) rfl (by decide)
    refine tr_eq (t_fR I T_v0 (by decide) (by decide) (by decide)) ?_
    obtain ⟨x2, hx2, hm⟩ := hp_bd hm
    refine tr_eq (t_X11_thing I T_v0 hx2) ?_
    have T3 : tg (gP s v0 62) = 0 := t_tg (c := 11) I T_v0 (by decide) (by decide) rfl (by decide)
    refine tr_eq (t_fR I T_v0 (by decide) (by decide) (by decide)) ?_
    obtain ⟨x4, hx4, hm⟩ := hp_bd hm
    refine tr_eq (t_aI I T3 (by decide) rfl hx4) ?_
    obtain ⟨w5, hw5, hm⟩ := hp_bd hm
    obtain ⟨_, e2, I, F⟩ := t_sI I F T1 (by decide) rfl hw5
    refine tr_eq e2 ?_
    obtain rfl := Option.some.inj hm
    exact ⟨_, rfl, I, F⟩
def gL_X11_pushAssertion_315 (n : Nat) (v0 : Nat) (v2 : Int32) (v5 : Int32) (v7 : Int32) (c : Int32 × st_T) : Option ((Int32 × st_T) ⊕ (st_T)) := g_X11_pushAssertion_315 n v0 v2 v5 v7 c.1 c.2
theorem tl_X11_pushAssertion_315 {tg r : Nat → Nat} {hb : hp_H} {sb : st_T} {n : Nat} {v0 : Nat} {v2 : Int32} {v5 : Int32} {v7 : Int32} (T_v0 : tg v0 = 21) : ∀ (k : Nat) (c0 : Int32) (h : hp_H) (s : st_T) (x : st_T), iso tg r h s → isf tg r hb h sb s → hp_lp (gL_X11_pushAssertion_315 n v0 v2 v5 v7) k (c0, s) = some x → ∃ h2, hp_lp (fL_X11_pushAssertion_315 n (r v0) v2 v5 v7) k (c0, h) = some (eX_X11_pushAssertion_315 x h2) ∧ iso tg r h2 (sX_X11_pushAssertion_315 x) ∧ isf tg r hb h2 sb (sX_X11_pushAssertion_315 x) := by
  intro k
  induction k with
  | zero => intro c0 h s x I F hx; exact (hp_lp_0 hx).elim
  | succ k ih =>
    intro c0 h s x I F hx
    obtain ⟨rr, hr, hc⟩ := hp_lp_1 hx
    obtain ⟨h2, e2, I2, F2⟩ := t_X11_pushAssertion_315 I F T_v0 hr
    rcases hc with ⟨s3, e3, hx3⟩ | e3
    · subst e3
      obtain ⟨h3, e4, I3, F3⟩ := ih _ h2 _ x I2 F2 hx3
      exact ⟨h3, hp_lp_s e2 e4, I3, F3⟩
    · subst e3
      exact ⟨h2, hp_lp_x e2, I2, F2⟩
def g_X11_pushAssertion_0 (n : Nat) (v0 : Nat) (v1 : Int32) (v2 : Int32) (v3 : Int32) (s : st_T) : Option (Int32 × st_T) :=
  (g_X11_hypotheses n v0 v3 s).bind fun x1 =>
  if x1 ≤ (gF s v0 59) then
    (hp_lp (gL_X11_pushAssertion_40 n v0 v1 v2 v3 x1 ((gF s v0 59) - x1)) n (((gF s v0 59) - x1), (0 : Int32), s)).bind fun x2 =>
    Sum.elim (fun y3 =>
      (hp_lp (gL_X11_pushAssertion_93 n v0 v1 v2 v3 x1 ((gF s v0 59) - x1) y3) n ((10240 : Int32) * (gF y3 v0 4))).bind fun x5 =>
      Sum.elim (fun y6 =>
        (g_X11_fails n v0 (-7 : Int32) v2 y3).bind fun x8 =>
        (hp_bz x8.1).bind fun _ =>
        some (x8.1, x8.2)) (fun y7 =>
        (g_X11_substitute n v0 v3 y3).bind fun x10 =>
        if (200 : Int32) < x10.1 then
          g_X11_pushAssertion_226 n v0 v2 x10.2
        else
          if ((gF s v0 59) - x1) = (100 : Int32) then
            g_X11_pushAssertion_226 n v0 v2 x10.2
          else
            (uA 0 x10.2 (gP x10.2 v0 65) v2 (gF x10.2 v0 67)).bind fun w12 =>
            (uA 0 w12 (gP w12 v0 66) v2 x1).bind fun w14 =>
            (hp_lp (gL_X11_pushAssertion_255 n v0 v2 x1 ((gF s v0 59) - x1) x10.1) n ((0 : Int32), w14)).bind fun x15 =>
            (wF x15 v0 59 ((gF s v0 59) - x1)).bind fun w17 =>
            (uA 0 w17 (gP w17 v0 57) ((gF s v0 59) - x1) x10.1).bind fun w19 =>
            (hp_lp (gL_X11_pushAssertion_315 n v0 v2 ((gF s v0 59) - x1) x10.1) n ((0 : Int32), w19)).bind fun x20 =>
            (g_X11_endThing n v0 v2 v2 x20).bind fun x22 =>
            some ((1 : Int32), x22)) x5) (fun y4 =>
      some (y4.1, y4.2)) x2
  else
    (g_X11_fails n v0 (-4 : Int32) v2 s).bind fun x25 =>
    (hp_bz x25.1).bind fun _ =>
    some (x25.1, x25.2)
set_option maxHeartbeats 1000000 in
theorem t_X11_pushAssertion_0 {tg r : Nat → Nat} {h hb : hp_H} {s sb : st_T} {n : Nat} {v0 : Nat} {v1 : Int32} {v2 : Int32} {v3 : Int32} (I : iso tg r h s) (F : isf tg r hb h sb s) (T_v0 : tg v0 = 21) {res : Int32 × st_T} (hm : g_X11_pushAssertion_0 n v0 v1 v2 v3 s = some res) : ∃ h2, f_X11_pushAssertion_0 n (r v0) v1 v2 v3 h = some ((res.1, h2)) ∧ iso tg r h2 res.2 ∧ isf tg r hb h2 sb res.2 := by
  unfold g_X11_pushAssertion_0 at hm
  unfold f_X11_pushAssertion_0
  obtain ⟨x1, hx1, hm⟩ := hp_bd hm
  refine tr_eq (t_X11_hypotheses I T_v0 hx1) ?_
  refine tr_eq (t_fI I T_v0 (by decide) (by decide) rfl) ?_
  by_cases c27 : x1 ≤ (gF s v0 59)
  · rw [if_pos c27] at hm ⊢
    refine tr_eq (t_fI I T_v0 (by decide) (by decide) rfl) ?_
    obtain ⟨x2, hx2, hm⟩ := hp_bd hm
    obtain ⟨_, e2, I, F⟩ := tl_X11_pushAssertion_40 T_v0 n _ _ _ _ _ I F hx2
    refine tr_eq e2 ?_
    rcases x2 with y3 | y4
    · simp only [eX_X11_pushAssertion_40, Sum.elim_inl, Sum.elim_inr] at hm ⊢
      replace I : iso tg _ _ y3 := I
      replace F : isf tg _ _ _ _ y3 := F
      refine tr_eq (t_fI I T_v0 (by decide) (by decide) rfl) ?_
      obtain ⟨x5, hx5, hm⟩ := hp_bd hm
      refine tr_eq (tl_X11_pushAssertion_93 I T_v0 n _ _ hx5) ?_
      rcases x5 with y6 | y7
      · simp only [Sum.elim_inl, Sum.elim_inr] at hm ⊢
        obtain ⟨x8, hx8, hm⟩ := hp_bd hm
        obtain ⟨_, e2, I, F⟩ := t_X11_fails I F T_v0 hx8
        refine tr_eq e2 ?_
        try dsimp only
        obtain ⟨_, hu9, hm⟩ := hp_bd hm
        refine tr_eq hu9 ?_
        obtain rfl := Option.some.inj hm
        exact ⟨_, rfl, I, F⟩
      · simp only [Sum.elim_inl, Sum.elim_inr] at hm ⊢
        obtain ⟨x10, hx10, hm⟩ := hp_bd hm
        obtain ⟨_, e2, I, F⟩ := t_X11_substitute I F T_v0 hx10
        refine tr_eq e2 ?_
        try dsimp only
        by_cases c24 : (200 : Int32) < x10.1
        · rw [if_pos c24] at hm ⊢
          exact t_X11_pushAssertion_226 I F T_v0 hm
        · rw [if_neg c24] at hm ⊢
          by_cases c23 : ((gF s v0 59) - x1) = (100 : Int32)
          · rw [if_pos c23] at hm ⊢
            exact t_X11_pushAssertion_226 I F T_v0 hm
          · rw [if_neg c23] at hm ⊢
            have T11 : tg (gP x10.2 v0 65) = 0 := t_tg (c := 11) I T_v0 (by decide) (by decide) rfl (by decide)
            refine tr_eq (t_fR I T_v0 (by decide) (by decide) (by decide)) ?_
            refine tr_eq (t_fI I T_v0 (by decide) (by decide) rfl) ?_
            obtain ⟨w12, hw12, hm⟩ := hp_bd hm
            obtain ⟨_, e2, I, F⟩ := t_sI I F T11 (by decide) rfl hw12
            refine tr_eq e2 ?_
            have T13 : tg (gP w12 v0 66) = 0 := t_tg (c := 11) I T_v0 (by decide) (by decide) rfl (by decide)
            refine tr_eq (t_fR I T_v0 (by decide) (by decide) (by decide)) ?_
            obtain ⟨w14, hw14, hm⟩ := hp_bd hm
            obtain ⟨_, e2, I, F⟩ := t_sI I F T13 (by decide) rfl hw14
            refine tr_eq e2 ?_
            obtain ⟨x15, hx15, hm⟩ := hp_bd hm
            obtain ⟨_, e2, I, F⟩ := tl_X11_pushAssertion_255 T_v0 n _ _ _ _ I F hx15
            refine tr_eq e2 ?_
            try dsimp only [eX_X11_pushAssertion_255]
            replace I : iso tg _ _ x15 := I
            replace F : isf tg _ _ _ _ x15 := F
            obtain ⟨w17, hw17, hm⟩ := hp_bd hm
            obtain ⟨_, e2, I, F⟩ := t_wF (c := 11) (k := 59) I F T_v0 (by decide) (by decide) rfl hw17
            refine tr_eq e2 ?_
            have T18 : tg (gP w17 v0 57) = 0 := t_tg (c := 11) I T_v0 (by decide) (by decide) rfl (by decide)
            refine tr_eq (t_fR I T_v0 (by decide) (by decide) (by decide)) ?_
            obtain ⟨w19, hw19, hm⟩ := hp_bd hm
            obtain ⟨_, e2, I, F⟩ := t_sI I F T18 (by decide) rfl hw19
            refine tr_eq e2 ?_
            obtain ⟨x20, hx20, hm⟩ := hp_bd hm
            obtain ⟨_, e2, I, F⟩ := tl_X11_pushAssertion_315 T_v0 n _ _ _ _ I F hx20
            refine tr_eq e2 ?_
            try dsimp only [eX_X11_pushAssertion_315]
            replace I : iso tg _ _ x20 := I
            replace F : isf tg _ _ _ _ x20 := F
            obtain ⟨x22, hx22, hm⟩ := hp_bd hm
            obtain ⟨_, e2, I, F⟩ := t_X11_endThing I F T_v0 hx22
            refine tr_eq e2 ?_
            obtain rfl := Option.some.inj hm
            exact ⟨_, rfl, I, F⟩
    · simp only [eX_X11_pushAssertion_40, Sum.elim_inl, Sum.elim_inr] at hm ⊢
      replace I : iso tg _ _ y4.2 := I
      replace F : isf tg _ _ _ _ y4.2 := F
      obtain rfl := Option.some.inj hm
      exact ⟨_, rfl, I, F⟩
  · rw [if_neg c27] at hm ⊢
    obtain ⟨x25, hx25, hm⟩ := hp_bd hm
    obtain ⟨_, e2, I, F⟩ := t_X11_fails I F T_v0 hx25
    refine tr_eq e2 ?_
    try dsimp only
    obtain ⟨_, hu26, hm⟩ := hp_bd hm
    refine tr_eq hu26 ?_
    obtain rfl := Option.some.inj hm
    exact ⟨_, rfl, I, F⟩
def g_X11_pushAssertion (n : Nat) (v0 : Nat) (v1 : Int32) (v2 : Int32) (v3 : Int32) (s : st_T) : Option (Int32 × st_T) := g_X11_pushAssertion_0 n v0 v1 v2 v3 s
theorem t_X11_pushAssertion {tg r : Nat → Nat} {h hb : hp_H} {s sb : st_T} {n : Nat} {v0 : Nat} {v1 : Int32} {v2 : Int32} {v3 : Int32} (I : iso tg r h s) (F : isf tg r hb h sb s) (T_v0 : tg v0 = 21) {res : Int32 × st_T} (hm : g_X11_pushAssertion n v0 v1 v2 v3 s = some res) : ∃ h2, f_X11_pushAssertion n (r v0) v1 v2 v3 h = some ((res.1, h2)) ∧ iso tg r h2 res.2 ∧ isf tg r hb h2 sb res.2 := by
  unfold g_X11_pushAssertion at hm
  unfold f_X11_pushAssertion
  refine tr_eq (t_ck I T_v0 (by decide)) ?_
  exact t_X11_pushAssertion_0 I F T_v0 hm
abbrev eX_X11_runSteps_15 (x : Int32 × st_T) (h2 : hp_H) : Int32 × hp_H := (fun y => (y.1, h2)) x
abbrev sX_X11_runSteps_15 (x : Int32 × st_T) : st_T := (fun y => y.2) x
abbrev eR_X11_runSteps_15 (x : (Int32 × Int32 × st_T) ⊕ (Int32 × st_T)) (h2 : hp_H) : (Int32 × Int32 × hp_H) ⊕ (Int32 × hp_H) := Sum.elim (fun y => .inl (y.1, y.2.1, h2)) (fun y => .inr (eX_X11_runSteps_15 y h2)) x
abbrev sR_X11_runSteps_15 (x : (Int32 × Int32 × st_T) ⊕ (Int32 × st_T)) : st_T := Sum.elim (fun y => y.2.2) sX_X11_runSteps_15 x
def g_X11_runSteps_104 (n : Nat) (v0 : Nat) (v1 : Int32) (v2 : Int32) (v3 : Int32) (v4 : Int32) (s : st_T) : Option ((Int32 × Int32 × st_T) ⊕ (Int32 × st_T)) :=
  some (.inl (v3, (v4 + (1 : Int32)), s))
set_option maxHeartbeats 1000000 in
theorem t_X11_runSteps_104 {tg r : Nat → Nat} {h hb : hp_H} {s sb : st_T} {n : Nat} {v0 : Nat} {v1 : Int32} {v2 : Int32} {v3 : Int32} {v4 : Int32} (I : iso tg r h s) (F : isf tg r hb h sb s) (T_v0 : tg v0 = 21) {res : (Int32 × Int32 × st_T) ⊕ (Int32 × st_T)} (hm : g_X11_runSteps_104 n v0 v1 v2 v3 v4 s = some res) : ∃ h2, f_X11_runSteps_104 n (r v0) v1 v2 v3 v4 h = some (eR_X11_runSteps_15 res h2) ∧ iso tg r h2 (sR_X11_runSteps_15 res) ∧ isf tg r hb h2 sb (sR_X11_runSteps_15 res) := by
  unfold g_X11_runSteps_104 at hm
  unfold f_X11_runSteps_104
  obtain rfl := Option.some.inj hm
  exact ⟨_, rfl, I, F⟩
def g_X11_runSteps_15 (n : Nat) (v0 : Nat) (v1 : Int32) (v2 : Int32) (v3 : Int32) (v4 : Int32) (s : st_T) : Option ((Int32 × Int32 × st_T) ⊕ (Int32 × st_T)) :=
  if (gF s v0 50) ≤ v4 then
    (hp_bz v3).bind fun _ =>
    some (.inr (v3, s))
  else
    if v2 ≤ v4 then
      (hp_bz v3).bind fun _ =>
      some (.inr (v3, s))
    else
      if v3 = 0 then
        (hp_bz v3).bind fun _ =>
        some (.inr (v3, s))
      else
        (gA s (gP s v0 49) v4).bind fun x5 =>
        if x5 < (1000 : Int32) then
          (g_X11_at n v0 x5 s).bind fun x7 =>
          (gA s (gP s v0 10) x7).bind fun x8 =>
          if (2 : Int32) ≤ x8 then
            (g_X11_pushAssertion n v0 v1 v4 x5 s).bind fun x9 =>
            g_X11_runSteps_104 n v0 v1 v2 x9.1 v4 x9.2
          else
            (g_X11_pushHypothesis n v0 v4 x5 s).bind fun x10 =>
            g_X11_runSteps_104 n v0 v1 v2 x10.1 v4 x10.2
        else
          (g_X11_pushMarked n v0 v4 (x5 - (1000 : Int32)) s).bind fun x12 =>
          g_X11_runSteps_104 n v0 v1 v2 x12.1 v4 x12.2
set_option maxHeartbeats 1000000 in
theorem t_X11_runSteps_15 {tg r : Nat → Nat} {h hb : hp_H} {s sb : st_T} {n : Nat} {v0 : Nat} {v1 : Int32} {v2 : Int32} {v3 : Int32} {v4 : Int32} (I : iso tg r h s) (F : isf tg r hb h sb s) (T_v0 : tg v0 = 21) {res : (Int32 × Int32 × st_T) ⊕ (Int32 × st_T)} (hm : g_X11_runSteps_15 n v0 v1 v2 v3 v4 s = some res) : ∃ h2, f_X11_runSteps_15 n (r v0) v1 v2 v3 v4 h = some (eR_X11_runSteps_15 res h2) ∧ iso tg r h2 (sR_X11_runSteps_15 res) ∧ isf tg r hb h2 sb (sR_X11_runSteps_15 res) := by
  unfold g_X11_runSteps_15 at hm
  unfold f_X11_runSteps_15
  refine tr_eq (t_fI I T_v0 (by decide) (by decide) rfl) ?_
  by_cases c16 : (gF s v0 50) ≤ v4
  · rw [if_pos c16] at hm ⊢
    obtain ⟨_, hu1, hm⟩ := hp_bd hm
    refine tr_eq hu1 ?_
    obtain rfl := Option.some.inj hm
    exact ⟨_, rfl, I, F⟩
  · rw [if_neg c16] at hm ⊢
    by_cases c15 : v2 ≤ v4
    · rw [if_pos c15] at hm ⊢
      obtain ⟨_, hu2, hm⟩ := hp_bd hm
      refine tr_eq hu2 ?_
      obtain rfl := Option.some.inj hm
      exact ⟨_, rfl, I, F⟩
    · rw [if_neg c15] at hm ⊢
      by_cases c14 : v3 = 0
      · rw [if_pos c14] at hm ⊢
        obtain ⟨_, hu3, hm⟩ := hp_bd hm
        refine tr_eq hu3 ?_
        obtain rfl := Option.some.inj hm
        exact ⟨_, rfl, I, F⟩
      · rw [if_neg c14] at hm ⊢
        have T4 : tg (gP s v0 49) = 0 := t_tg (c := 11) I T_v0 (by decide) (by decide) rfl (by decide)
        refine tr_eq (t_fR I T_v0 (by decide) (by decide) (by decide)) ?_
        obtain ⟨x5, hx5, hm⟩ := hp_bd hm
        refine tr_eq (t_aI I T4 (by decide) rfl hx5) ?_
        by_cases c13 : x5 < (1000 : Int32)
        · rw [if_pos c13] at hm ⊢
          have T6 : tg (gP s v0 10) = 0 := t_tg (c := 11) I T_v0 (by decide) (by decide) rfl (by decide)
          refine tr_eq (t_fR I T_v0 (by decide) (by decide) (by decide)) ?_
          obtain ⟨x7, hx7, hm⟩ := hp_bd hm
          refine tr_eq (t_X11_at I T_v0 hx7) ?_
          obtain ⟨x8, hx8, hm⟩ := hp_bd hm
          refine tr_eq (t_aI I T6 (by decide) rfl hx8) ?_
          by_cases c11 : (2 : Int32) ≤ x8
          · rw [if_pos c11] at hm ⊢
            obtain ⟨x9, hx9, hm⟩ := hp_bd hm
            obtain ⟨_, e2, I, F⟩ := t_X11_pushAssertion I F T_v0 hx9
            refine tr_eq e2 ?_
            try dsimp only
            exact t_X11_runSteps_104 I F T_v0 hm
          · rw [if_neg c11] at hm ⊢
            obtain ⟨x10, hx10, hm⟩ := hp_bd hm
            obtain ⟨_, e2, I, F⟩ := t_X11_pushHypothesis I F T_v0 hx10
            refine tr_eq e2 ?_
            try dsimp only
            exact t_X11_runSteps_104 I F T_v0 hm
        · rw [if_neg c13] at hm ⊢
          obtain ⟨x12, hx12, hm⟩ := hp_bd hm
          obtain ⟨_, e2, I, F⟩ := t_X11_pushMarked I F T_v0 hx12
          refine tr_eq e2 ?_
          try dsimp only
          exact t_X11_runSteps_104 I F T_v0 hm
def gL_X11_runSteps_15 (n : Nat) (v0 : Nat) (v1 : Int32) (v2 : Int32) (c : Int32 × Int32 × st_T) : Option ((Int32 × Int32 × st_T) ⊕ (Int32 × st_T)) := g_X11_runSteps_15 n v0 v1 v2 c.1 c.2.1 c.2.2
theorem tl_X11_runSteps_15 {tg r : Nat → Nat} {hb : hp_H} {sb : st_T} {n : Nat} {v0 : Nat} {v1 : Int32} {v2 : Int32} (T_v0 : tg v0 = 21) : ∀ (k : Nat) (c0 : Int32) (c1 : Int32) (h : hp_H) (s : st_T) (x : Int32 × st_T), iso tg r h s → isf tg r hb h sb s → hp_lp (gL_X11_runSteps_15 n v0 v1 v2) k (c0, c1, s) = some x → ∃ h2, hp_lp (fL_X11_runSteps_15 n (r v0) v1 v2) k (c0, c1, h) = some (eX_X11_runSteps_15 x h2) ∧ iso tg r h2 (sX_X11_runSteps_15 x) ∧ isf tg r hb h2 sb (sX_X11_runSteps_15 x) := by
  intro k
  induction k with
  | zero => intro c0 c1 h s x I F hx; exact (hp_lp_0 hx).elim
  | succ k ih =>
    intro c0 c1 h s x I F hx
    obtain ⟨rr, hr, hc⟩ := hp_lp_1 hx
    obtain ⟨h2, e2, I2, F2⟩ := t_X11_runSteps_15 I F T_v0 hr
    rcases hc with ⟨s3, e3, hx3⟩ | e3
    · subst e3
      obtain ⟨h3, e4, I3, F3⟩ := ih _ _ h2 _ x I2 F2 hx3
      exact ⟨h3, hp_lp_s e2 e4, I3, F3⟩
    · subst e3
      exact ⟨h2, hp_lp_x e2, I2, F2⟩
def g_X11_runSteps_0 (n : Nat) (v0 : Nat) (v1 : Int32) (v2 : Int32) (s : st_T) : Option (Int32 × st_T) :=
  (wF s v0 59 (0 : Int32)).bind fun w1 =>
  (wF w1 v0 67 (0 : Int32)).bind fun w2 =>
  (hp_lp (gL_X11_runSteps_15 n v0 v1 v2) n ((1 : Int32), (0 : Int32), w2)).bind fun x3 =>
  some (x3.1, x3.2)
set_option maxHeartbeats 1000000 in
theorem t_X11_runSteps_0 {tg r : Nat → Nat} {h hb : hp_H} {s sb : st_T} {n : Nat} {v0 : Nat} {v1 : Int32} {v2 : Int32} (I : iso tg r h s) (F : isf tg r hb h sb s) (T_v0 : tg v0 = 21) {res : Int32 × st_T} (hm : g_X11_runSteps_0 n v0 v1 v2 s = some res) : ∃ h2, f_X11_runSteps_0 n (r v0) v1 v2 h = some ((res.1, h2)) ∧ iso tg r h2 res.2 ∧ isf tg r hb h2 sb res.2 := by
  unfold g_X11_runSteps_0 at hm
  unfold f_X11_runSteps_0
  obtain ⟨w1, hw1, hm⟩ := hp_bd hm
  obtain ⟨_, e2, I, F⟩ := t_wF (c := 11) (k := 59) I F T_v0 (by decide) (by decide) rfl hw1
  refine tr_eq e2 ?_
  obtain ⟨w2, hw2, hm⟩ := hp_bd hm
  obtain ⟨_, e2, I, F⟩ := t_wF (c := 11) (k := 67) I F T_v0 (by decide) (by decide) rfl hw2
  refine tr_eq e2 ?_
  obtain ⟨x3, hx3, hm⟩ := hp_bd hm
  obtain ⟨_, e2, I, F⟩ := tl_X11_runSteps_15 T_v0 n _ _ _ _ _ I F hx3
  refine tr_eq e2 ?_
  try dsimp only [eX_X11_runSteps_15]
  replace I : iso tg _ _ x3.2 := I
  replace F : isf tg _ _ _ _ x3.2 := F
  obtain rfl := Option.some.inj hm
  exact ⟨_, rfl, I, F⟩
def g_X11_runSteps (n : Nat) (v0 : Nat) (v1 : Int32) (v2 : Int32) (s : st_T) : Option (Int32 × st_T) := g_X11_runSteps_0 n v0 v1 v2 s
theorem t_X11_runSteps {tg r : Nat → Nat} {h hb : hp_H} {s sb : st_T} {n : Nat} {v0 : Nat} {v1 : Int32} {v2 : Int32} (I : iso tg r h s) (F : isf tg r hb h sb s) (T_v0 : tg v0 = 21) {res : Int32 × st_T} (hm : g_X11_runSteps n v0 v1 v2 s = some res) : ∃ h2, f_X11_runSteps n (r v0) v1 v2 h = some ((res.1, h2)) ∧ iso tg r h2 res.2 ∧ isf tg r hb h2 sb res.2 := by
  unfold g_X11_runSteps at hm
  unfold f_X11_runSteps
  refine tr_eq (t_ck I T_v0 (by decide)) ?_
  exact t_X11_runSteps_0 I F T_v0 hm
def g_X11_judge_34 (n : Nat) (v0 : Nat) (s : st_T) : Option (Int32 × st_T) :=
  some ((gF s v0 54), s)
set_option maxHeartbeats 1000000 in
theorem t_X11_judge_34 {tg r : Nat → Nat} {h hb : hp_H} {s sb : st_T} {n : Nat} {v0 : Nat} (I : iso tg r h s) (F : isf tg r hb h sb s) (T_v0 : tg v0 = 21) {res : Int32 × st_T} (hm : g_X11_judge_34 n v0 s = some res) : ∃ h2, f_X11_judge_34 n (r v0) h = some ((res.1, h2)) ∧ iso tg r h2 res.2 ∧ isf tg r hb h2 sb res.2 := by
  unfold g_X11_judge_34 at hm
  unfold f_X11_judge_34
  refine tr_eq (t_fI I T_v0 (by decide) (by decide) rfl) ?_
  obtain rfl := Option.some.inj hm
  exact ⟨_, rfl, I, F⟩
def g_X11_judge_143 (n : Nat) (v0 : Nat) (v1 : Int32) (v3 : Int32) (s0 : Int32) (s : st_T) : Option ((Int32 × Int32) ⊕ (Int32)) :=
  some (.inl (s0, (v3 + (1 : Int32))))
set_option maxHeartbeats 1000000 in
theorem t_X11_judge_143 {tg r : Nat → Nat} {h : hp_H} {s : st_T} {n : Nat} {v0 : Nat} {v1 : Int32} {v3 : Int32} {s0 : Int32} (I : iso tg r h s) (T_v0 : tg v0 = 21) {res : (Int32 × Int32) ⊕ (Int32)} (hm : g_X11_judge_143 n v0 v1 v3 s0 s = some res) : f_X11_judge_143 n (r v0) v1 v3 s0 h = some res := by
  unfold g_X11_judge_143 at hm
  unfold f_X11_judge_143
  obtain rfl := Option.some.inj hm
  rfl
def g_X11_judge_85 (n : Nat) (v0 : Nat) (v1 : Int32) (v2 : Int32) (v3 : Int32) (s : st_T) : Option ((Int32 × Int32) ⊕ (Int32)) :=
  (g_X11_at n v0 v1 s).bind fun x2 =>
  (gA s (gP s v0 15) x2).bind fun x3 =>
  if x3 ≤ v3 then
    some (.inr v2)
  else
    if v2 = 0 then
      some (.inr v2)
    else
      (gA s (gP s v0 56) v3).bind fun x5 =>
      (g_X11_at n v0 v1 s).bind fun x8 =>
      (gA s (gP s v0 14) x8).bind fun x9 =>
      (gA s (gP s v0 19) ((((4096 : Int32) * (gF s v0 4)) + x9) + v3)).bind fun x10 =>
      if x5 = x10 then
        g_X11_judge_143 n v0 v1 v3 (1 : Int32) s
      else
        g_X11_judge_143 n v0 v1 v3 (0 : Int32) s
set_option maxHeartbeats 1000000 in
theorem t_X11_judge_85 {tg r : Nat → Nat} {h : hp_H} {s : st_T} {n : Nat} {v0 : Nat} {v1 : Int32} {v2 : Int32} {v3 : Int32} (I : iso tg r h s) (T_v0 : tg v0 = 21) {res : (Int32 × Int32) ⊕ (Int32)} (hm : g_X11_judge_85 n v0 v1 v2 v3 s = some res) : f_X11_judge_85 n (r v0) v1 v2 v3 h = some res := by
  unfold g_X11_judge_85 at hm
  unfold f_X11_judge_85
  have T1 : tg (gP s v0 15) = 0 := t_tg (c := 11) I T_v0 (by decide) (by decide) rfl (by decide)
  refine tr_eq0 (t_fR I T_v0 (by decide) (by decide) (by decide)) ?_
  obtain ⟨x2, hx2, hm⟩ := hp_bd hm
  refine tr_eq0 (t_X11_at I T_v0 hx2) ?_
  obtain ⟨x3, hx3, hm⟩ := hp_bd hm
  refine tr_eq0 (t_aI I T1 (by decide) rfl hx3) ?_
  by_cases c13 : x3 ≤ v3
  · rw [if_pos c13] at hm ⊢
    obtain rfl := Option.some.inj hm
    rfl
  · rw [if_neg c13] at hm ⊢
    by_cases c12 : v2 = 0
    · rw [if_pos c12] at hm ⊢
      obtain rfl := Option.some.inj hm
      rfl
    · rw [if_neg c12] at hm ⊢
      have T4 : tg (gP s v0 56) = 0 := t_tg (c := 11) I T_v0 (by decide) (by decide) rfl (by decide)
      refine tr_eq0 (t_fR I T_v0 (by decide) (by decide) (by decide)) ?_
      obtain ⟨x5, hx5, hm⟩ := hp_bd hm
      refine tr_eq0 (t_aI I T4 (by decide) rfl hx5) ?_
      have T6 : tg (gP s v0 19) = 0 := t_tg (c := 11) I T_v0 (by decide) (by decide) rfl (by decide)
      refine tr_eq0 (t_fR I T_v0 (by decide) (by decide) (by decide)) ?_
      refine tr_eq0 (t_fI I T_v0 (by decide) (by decide) rfl) ?_
      have T7 : tg (gP s v0 14) = 0 := t_tg (c := 11) I T_v0 (by decide) (by decide) rfl (by decide)
      refine tr_eq0 (t_fR I T_v0 (by decide) (by decide) (by decide)) ?_
      obtain ⟨x8, hx8, hm⟩ := hp_bd hm
      refine tr_eq0 (t_X11_at I T_v0 hx8) ?_
      obtain ⟨x9, hx9, hm⟩ := hp_bd hm
      refine tr_eq0 (t_aI I T7 (by decide) rfl hx9) ?_
      obtain ⟨x10, hx10, hm⟩ := hp_bd hm
      refine tr_eq0 (t_aI I T6 (by decide) rfl hx10) ?_
      by_cases c11 : x5 = x10
      · rw [if_pos c11] at hm ⊢
        exact t_X11_judge_143 I T_v0 hm
      · rw [if_neg c11] at hm ⊢
        exact t_X11_judge_143 I T_v0 hm
def gL_X11_judge_85 (n : Nat) (v0 : Nat) (v1 : Int32) (s : st_T) (c : Int32 × Int32) : Option ((Int32 × Int32) ⊕ (Int32)) := g_X11_judge_85 n v0 v1 c.1 c.2 s
theorem tl_X11_judge_85 {tg r : Nat → Nat} {h : hp_H} {s : st_T} {n : Nat} {v0 : Nat} {v1 : Int32} (I : iso tg r h s) (T_v0 : tg v0 = 21) : ∀ (k : Nat) (c : Int32 × Int32) (x : Int32), hp_lp (gL_X11_judge_85 n v0 v1 s) k c = some x → hp_lp (fL_X11_judge_85 n (r v0) v1 h) k c = some x := by
  intro k
  induction k with
  | zero => intro c x hx; exact (hp_lp_0 hx).elim
  | succ k ih =>
    intro c x hx
    obtain ⟨rr, hr, hc⟩ := hp_lp_1 hx
    have e2 := t_X11_judge_85 I T_v0 hr
    rcases hc with ⟨s3, e3, hx3⟩ | e3
    · subst e3
      exact hp_lp_s e2 (ih _ _ hx3)
    · subst e3
      exact hp_lp_x e2
def g_X11_judge_150 (n : Nat) (v2 : Int32) (s : st_T) : Option (Int32 × st_T) :=
  if v2 = 0 then
    some ((-9 : Int32), s)
  else
    some ((0 : Int32), s)
set_option maxHeartbeats 1000000 in
theorem t_X11_judge_150 {tg r : Nat → Nat} {h hb : hp_H} {s sb : st_T} {n : Nat} {v2 : Int32} (I : iso tg r h s) (F : isf tg r hb h sb s) {res : Int32 × st_T} (hm : g_X11_judge_150 n v2 s = some res) : ∃ h2, f_X11_judge_150 n v2 h = some ((res.1, h2)) ∧ iso tg r h2 res.2 ∧ isf tg r hb h2 sb res.2 := by
  unfold g_X11_judge_150 at hm
  unfold f_X11_judge_150
  by_cases c1 : v2 = 0
  · rw [if_pos c1] at hm ⊢
    obtain rfl := Option.some.inj hm
    exact ⟨_, rfl, I, F⟩
  · rw [if_neg c1] at hm ⊢
    obtain rfl := Option.some.inj hm
    exact ⟨_, rfl, I, F⟩
def g_X11_judge_82 (n : Nat) (v0 : Nat) (v1 : Int32) (s0 : Int32) (s : st_T) : Option (Int32 × st_T) :=
  (hp_lp (gL_X11_judge_85 n v0 v1 s) n (s0, (0 : Int32))).bind fun x1 =>
  g_X11_judge_150 n x1 s
set_option maxHeartbeats 1000000 in
theorem t_X11_judge_82 {tg r : Nat → Nat} {h hb : hp_H} {s sb : st_T} {n : Nat} {v0 : Nat} {v1 : Int32} {s0 : Int32} (I : iso tg r h s) (F : isf tg r hb h sb s) (T_v0 : tg v0 = 21) {res : Int32 × st_T} (hm : g_X11_judge_82 n v0 v1 s0 s = some res) : ∃ h2, f_X11_judge_82 n (r v0) v1 s0 h = some ((res.1, h2)) ∧ iso tg r h2 res.2 ∧ isf tg r hb h2 sb res.2 := by
  unfold g_X11_judge_82 at hm
  unfold f_X11_judge_82
  obtain ⟨x1, hx1, hm⟩ := hp_bd hm
  refine tr_eq (tl_X11_judge_85 I T_v0 n _ _ hx1) ?_
  exact t_X11_judge_150 I F  hm
def g_X11_judge_0 (n : Nat) (v0 : Nat) (v1 : Int32) (s : st_T) : Option (Int32 × st_T) :=
  (wF s v0 55 (0 : Int32)).bind fun w1 =>
  (g_X11_isOpen n v0 v1 w1).bind fun x2 =>
  if x2.1 = 0 then
    (g_X11_readProof n v0 v1 x2.2).bind fun x3 =>
    if x3.1 = 0 then
      g_X11_judge_34 n v0 x3.2
    else
      (g_X11_runSteps n v0 v1 (1000 : Int32) x3.2).bind fun x4 =>
      if x4.1 = 0 then
        g_X11_judge_34 n v0 x4.2
      else
        (wF x4.2 v0 55 (gF x4.2 v0 50)).bind fun w5 =>
        if (gF w5 v0 59) = (1 : Int32) then
          (gA w5 (gP w5 v0 57) (0 : Int32)).bind fun x7 =>
          (g_X11_at n v0 v1 w5).bind fun x9 =>
          (gA w5 (gP w5 v0 15) x9).bind fun x10 =>
          if x7 = x10 then
            g_X11_judge_82 n v0 v1 (1 : Int32) w5
          else
            g_X11_judge_82 n v0 v1 (0 : Int32) w5
        else
          some ((-8 : Int32), w5)
  else
    some ((1 : Int32), x2.2)
set_option maxHeartbeats 1000000 in
theorem t_X11_judge_0 {tg r : Nat → Nat} {h hb : hp_H} {s sb : st_T} {n : Nat} {v0 : Nat} {v1 : Int32} (I : iso tg r h s) (F : isf tg r hb h sb s) (T_v0 : tg v0 = 21) {res : Int32 × st_T} (hm : g_X11_judge_0 n v0 v1 s = some res) : ∃ h2, f_X11_judge_0 n (r v0) v1 h = some ((res.1, h2)) ∧ iso tg r h2 res.2 ∧ isf tg r hb h2 sb res.2 := by
  unfold g_X11_judge_0 at hm
  unfold f_X11_judge_0
  obtain ⟨w1, hw1, hm⟩ := hp_bd hm
  obtain ⟨_, e2, I, F⟩ := t_wF (c := 11) (k := 55) I F T_v0 (by decide) (by decide) rfl hw1
  refine tr_eq e2 ?_
  obtain ⟨x2, hx2, hm⟩ := hp_bd hm
  obtain ⟨_, e2, I, F⟩ := t_X11_isOpen I F T_v0 hx2
  refine tr_eq e2 ?_
  try dsimp only
  by_cases c15 : x2.1 = 0
  · rw [if_pos c15] at hm ⊢
    obtain ⟨x3, hx3, hm⟩ := hp_bd hm
    obtain ⟨_, e2, I, F⟩ := t_X11_readProof I F T_v0 hx3
    refine tr_eq e2 ?_
    try dsimp only
    by_cases c14 : x3.1 = 0
    · rw [if_pos c14] at hm ⊢
      exact t_X11_judge_34 I F T_v0 hm
    · rw [if_neg c14] at hm ⊢
      obtain ⟨x4, hx4, hm⟩ := hp_bd hm
      obtain ⟨_, e2, I, F⟩ := t_X11_runSteps I F T_v0 hx4
      refine tr_eq e2 ?_
      try dsimp only
      by_cases c13 : x4.1 = 0
      · rw [if_pos c13] at hm ⊢
        exact t_X11_judge_34 I F T_v0 hm
      · rw [if_neg c13] at hm ⊢
        refine tr_eq (t_fI I T_v0 (by decide) (by decide) rfl) ?_
        obtain ⟨w5, hw5, hm⟩ := hp_bd hm
        obtain ⟨_, e2, I, F⟩ := t_wF (c := 11) (k := 55) I F T_v0 (by decide) (by decide) rfl hw5
        refine tr_eq e2 ?_
        refine tr_eq (t_fI I T_v0 (by decide) (by decide) rfl) ?_
        by_cases c12 : (gF w5 v0 59) = (1 : Int32)
        · rw [if_pos c12] at hm ⊢
          have T6 : tg (gP w5 v0 57) = 0 := t_tg (c := 11) I T_v0 (by decide) (by decide) rfl (by decide)
          refine tr_eq (t_fR I T_v0 (by decide) (by decide) (by decide)) ?_
          obtain ⟨x7, hx7, hm⟩ := hp_bd hm
          refine tr_eq (t_aI I T6 (by decide) rfl hx7) ?_
          have T8 : tg (gP w5 v0 15) = 0 := t_tg (c := 11) I T_v0 (by decide) (by decide) rfl (by decide)
          refine tr_eq (t_fR I T_v0 (by decide) (by decide) (by decide)) ?_
          obtain ⟨x9, hx9, hm⟩ := hp_bd hm
          refine tr_eq (t_X11_at I T_v0 hx9) ?_
          obtain ⟨x10, hx10, hm⟩ := hp_bd hm
          refine tr_eq (t_aI I T8 (by decide) rfl hx10) ?_
          by_cases c11 : x7 = x10
          · rw [if_pos c11] at hm ⊢
            exact t_X11_judge_82 I F T_v0 hm
          · rw [if_neg c11] at hm ⊢
            exact t_X11_judge_82 I F T_v0 hm
        · rw [if_neg c12] at hm ⊢
          obtain rfl := Option.some.inj hm
          exact ⟨_, rfl, I, F⟩
  · rw [if_neg c15] at hm ⊢
    obtain rfl := Option.some.inj hm
    exact ⟨_, rfl, I, F⟩
def g_X11_judge (n : Nat) (v0 : Nat) (v1 : Int32) (s : st_T) : Option (Int32 × st_T) := g_X11_judge_0 n v0 v1 s
theorem t_X11_judge {tg r : Nat → Nat} {h hb : hp_H} {s sb : st_T} {n : Nat} {v0 : Nat} {v1 : Int32} (I : iso tg r h s) (F : isf tg r hb h sb s) (T_v0 : tg v0 = 21) {res : Int32 × st_T} (hm : g_X11_judge n v0 v1 s = some res) : ∃ h2, f_X11_judge n (r v0) v1 h = some ((res.1, h2)) ∧ iso tg r h2 res.2 ∧ isf tg r hb h2 sb res.2 := by
  unfold g_X11_judge at hm
  unfold f_X11_judge
  refine tr_eq (t_ck I T_v0 (by decide)) ?_
  exact t_X11_judge_0 I F T_v0 hm
def g_X11_check_0 (n : Nat) (v0 : Nat) (v1 : Int32) (s : st_T) : Option (Int32 × st_T) :=
  (wF s v0 3 (0 : Int32)).bind fun w1 =>
  (g_X11_isKind n v0 v1 (3 : Int32) w1).bind fun x2 =>
  if x2 = 0 then
    some ((-1 : Int32), w1)
  else
    (g_X11_judge n v0 v1 w1).bind fun x3 =>
    (wF x3.2 v0 3 (gF x3.2 v0 55)).bind fun w4 =>
    if 0 ≤ x3.1 then
      some (x3.1, w4)
    else
      some ((x3.1 - (100 : Int32)), w4)
set_option maxHeartbeats 1000000 in
theorem t_X11_check_0 {tg r : Nat → Nat} {h hb : hp_H} {s sb : st_T} {n : Nat} {v0 : Nat} {v1 : Int32} (I : iso tg r h s) (F : isf tg r hb h sb s) (T_v0 : tg v0 = 21) {res : Int32 × st_T} (hm : g_X11_check_0 n v0 v1 s = some res) : ∃ h2, f_X11_check_0 n (r v0) v1 h = some ((res.1, h2)) ∧ iso tg r h2 res.2 ∧ isf tg r hb h2 sb res.2 := by
  unfold g_X11_check_0 at hm
  unfold f_X11_check_0
  obtain ⟨w1, hw1, hm⟩ := hp_bd hm
  obtain ⟨_, e2, I, F⟩ := t_wF (c := 11) (k := 3) I F T_v0 (by decide) (by decide) rfl hw1
  refine tr_eq e2 ?_
  obtain ⟨x2, hx2, hm⟩ := hp_bd hm
  refine tr_eq (t_X11_isKind I T_v0 hx2) ?_
  by_cases c6 : x2 = 0
  · rw [if_pos c6] at hm ⊢
    obtain rfl := Option.some.inj hm
    exact ⟨_, rfl, I, F⟩
  · rw [if_neg c6] at hm ⊢
    obtain ⟨x3, hx3, hm⟩ := hp_bd hm
    obtain ⟨_, e2, I, F⟩ := t_X11_judge I F T_v0 hx3
    refine tr_eq e2 ?_
    try dsimp only
    refine tr_eq (t_fI I T_v0 (by decide) (by decide) rfl) ?_
    obtain ⟨w4, hw4, hm⟩ := hp_bd hm
    obtain ⟨_, e2, I, F⟩ := t_wF (c := 11) (k := 3) I F T_v0 (by decide) (by decide) rfl hw4
    refine tr_eq e2 ?_
    by_cases c5 : 0 ≤ x3.1
    · rw [if_pos c5] at hm ⊢
      obtain rfl := Option.some.inj hm
      exact ⟨_, rfl, I, F⟩
    · rw [if_neg c5] at hm ⊢
      obtain rfl := Option.some.inj hm
      exact ⟨_, rfl, I, F⟩
def g_X11_check (n : Nat) (v0 : Nat) (v1 : Int32) (s : st_T) : Option (Int32 × st_T) := g_X11_check_0 n v0 v1 s
theorem t_X11_check {tg r : Nat → Nat} {h hb : hp_H} {s sb : st_T} {n : Nat} {v0 : Nat} {v1 : Int32} (I : iso tg r h s) (F : isf tg r hb h sb s) (T_v0 : tg v0 = 21) {res : Int32 × st_T} (hm : g_X11_check n v0 v1 s = some res) : ∃ h2, f_X11_check n (r v0) v1 h = some ((res.1, h2)) ∧ iso tg r h2 res.2 ∧ isf tg r hb h2 sb res.2 := by
  unfold g_X11_check at hm
  unfold f_X11_check
  refine tr_eq (t_ck I T_v0 (by decide)) ?_
  exact t_X11_check_0 I F T_v0 hm
def g_X11_step_0 (n : Nat) (v0 : Nat) (s : st_T) : Option (Int32) :=
  some (gF s v0 3)
set_option maxHeartbeats 1000000 in
theorem t_X11_step_0 {tg r : Nat → Nat} {h : hp_H} {s : st_T} {n : Nat} {v0 : Nat} (I : iso tg r h s) (T_v0 : tg v0 = 21) {res : Int32} (hm : g_X11_step_0 n v0 s = some res) : f_X11_step_0 n (r v0) h = some res := by
  unfold g_X11_step_0 at hm
  unfold f_X11_step_0
  refine tr_eq0 (t_fI I T_v0 (by decide) (by decide) rfl) ?_
  obtain rfl := Option.some.inj hm
  rfl
def g_X11_step (n : Nat) (v0 : Nat) (s : st_T) : Option (Int32) := g_X11_step_0 n v0 s
theorem t_X11_step {tg r : Nat → Nat} {h : hp_H} {s : st_T} {n : Nat} {v0 : Nat} (I : iso tg r h s) (T_v0 : tg v0 = 21) {res : Int32} (hm : g_X11_step n v0 s = some res) : f_X11_step n (r v0) h = some res := by
  unfold g_X11_step at hm
  unfold f_X11_step
  refine tr_eq0 (t_ck I T_v0 (by decide)) ?_
  exact t_X11_step_0 I T_v0 hm
def g_X11_trace_68 (n : Nat) (v0 : Nat) (s : st_T) : Option (Int32 × st_T) :=
  (wF s v0 3 (gF s v0 55)).bind fun w1 =>
  some (((gF w1 v0 54) - (100 : Int32)), w1)
set_option maxHeartbeats 1000000 in
theorem t_X11_trace_68 {tg r : Nat → Nat} {h hb : hp_H} {s sb : st_T} {n : Nat} {v0 : Nat} (I : iso tg r h s) (F : isf tg r hb h sb s) (T_v0 : tg v0 = 21) {res : Int32 × st_T} (hm : g_X11_trace_68 n v0 s = some res) : ∃ h2, f_X11_trace_68 n (r v0) h = some ((res.1, h2)) ∧ iso tg r h2 res.2 ∧ isf tg r hb h2 sb res.2 := by
  unfold g_X11_trace_68 at hm
  unfold f_X11_trace_68
  refine tr_eq (t_fI I T_v0 (by decide) (by decide) rfl) ?_
  obtain ⟨w1, hw1, hm⟩ := hp_bd hm
  obtain ⟨_, e2, I, F⟩ := t_wF (c := 11) (k := 3) I F T_v0 (by decide) (by decide) rfl hw1
  refine tr_eq e2 ?_
  refine tr_eq (t_fI I T_v0 (by decide) (by decide) rfl) ?_
  obtain rfl := Option.some.inj hm
  exact ⟨_, rfl, I, F⟩
abbrev eX_X11_trace_102 (x : st_T) (h2 : hp_H) : hp_H := (fun y => h2) x
abbrev sX_X11_trace_102 (x : st_T) : st_T := (fun y => y) x
abbrev eR_X11_trace_102 (x : (Int32 × st_T) ⊕ (st_T)) (h2 : hp_H) : (Int32 × hp_H) ⊕ (hp_H) := Sum.elim (fun y => .inl (y.1, h2)) (fun y => .inr (eX_X11_trace_102 y h2)) x
abbrev sR_X11_trace_102 (x : (Int32 × st_T) ⊕ (st_T)) : st_T := Sum.elim (fun y => y.2) sX_X11_trace_102 x
abbrev eX_X11_trace_125 (x : st_T) (h2 : hp_H) : hp_H := (fun y => h2) x
abbrev sX_X11_trace_125 (x : st_T) : st_T := (fun y => y) x
abbrev eR_X11_trace_125 (x : (Int32 × st_T) ⊕ (st_T)) (h2 : hp_H) : (Int32 × hp_H) ⊕ (hp_H) := Sum.elim (fun y => .inl (y.1, h2)) (fun y => .inr (eX_X11_trace_125 y h2)) x
abbrev sR_X11_trace_125 (x : (Int32 × st_T) ⊕ (st_T)) : st_T := Sum.elim (fun y => y.2) sX_X11_trace_125 x
def g_X11_trace_125 (n : Nat) (v0 : Nat) (v3 : Int32) (v4 : Int32) (s : st_T) : Option ((Int32 × st_T) ⊕ (st_T)) :=
  (gA s (gP s v0 57) v3).bind fun x2 =>
  if x2 ≤ v4 then
    some (.inr s)
  else
    (g_X11_thing n v0 v3 s).bind fun x4 =>
    (g_X11_thing n v0 v3 s).bind fun x6 =>
    (gA s (gP s v0 56) (x6 + v4)).bind fun x7 =>
    (uA 0 s (gP s v0 69) (x4 + v4) x7).bind fun w8 =>
    some (.inl ((v4 + (1 : Int32)), w8))
set_option maxHeartbeats 1000000 in
theorem t_X11_trace_125 {tg r : Nat → Nat} {h hb : hp_H} {s sb : st_T} {n : Nat} {v0 : Nat} {v3 : Int32} {v4 : Int32} (I : iso tg r h s) (F : isf tg r hb h sb s) (T_v0 : tg v0 = 21) {res : (Int32 × st_T) ⊕ (st_T)} (hm : g_X11_trace_125 n v0 v3 v4 s = some res) : ∃ h2, f_X11_trace_125 n (r v0) v3 v4 h = some (eR_X11_trace_125 res h2) ∧ iso tg r h2 (sR_X11_trace_125 res) ∧ isf tg r hb h2 sb (sR_X11_trace_125 res) := by
  unfold g_X11_trace_125 at hm
  unfold f_X11_trace_125
  have T1 : tg (gP s v0 57) = 0 := t_tg (c := 11) I T_v0 (by decide) (by decide) rfl (by decide)
  refine tr_eq (t_fR I T_v0 (by decide) (by decide) (by decide)) ?_
  obtain ⟨x2, hx2, hm⟩ := hp_bd hm
  refine tr_eq (t_aI I T1 (by decide) rfl hx2) ?_
  by_cases c9 : x2 ≤ v4
  · rw [if_pos c9] at hm ⊢
    obtain rfl := Option.some.inj hm
    exact ⟨_, rfl, I, F⟩
  · rw [if_neg c9] at hm ⊢
    have T3 : tg (gP s v0 69) = 0 := t_tg (c := 11) I T_v0 (by decide) (by decide) rfl (by decide)
    refine tr_eq (t_fR I T_v0 (by decide) (by decide) (by decide)) ?_
    obtain ⟨x4, hx4, hm⟩ := hp_bd hm
    refine tr_eq (t_X11_thing I T_v0 hx4) ?_
    have T5 : tg (gP s v0 56) = 0 := t_tg (c := 11) I T_v0 (by decide) (by decide) rfl (by decide)
    refine tr_eq (t_fR I T_v0 (by decide) (by decide) (by decide)) ?_
    obtain ⟨x6, hx6, hm⟩ := hp_bd hm
    refine tr_eq (t_X11_thing I T_v0 hx6) ?_
    obtain ⟨x7, hx7, hm⟩ := hp_bd hm
    refine tr_eq (t_aI I T5 (by decide) rfl hx7) ?_
    obtain ⟨w8, hw8, hm⟩ := hp_bd hm
    obtain ⟨_, e2, I, F⟩ := t_sI I F T3 (by decide) rfl hw8
    refine tr_eq e2 ?_
    obtain rfl := Option.some.inj hm
    exact ⟨_, rfl, I, F⟩
def gL_X11_trace_125 (n : Nat) (v0 : Nat) (v3 : Int32) (c : Int32 × st_T) : Option ((Int32 × st_T) ⊕ (st_T)) := g_X11_trace_125 n v0 v3 c.1 c.2
theorem tl_X11_trace_125 {tg r : Nat → Nat} {hb : hp_H} {sb : st_T} {n : Nat} {v0 : Nat} {v3 : Int32} (T_v0 : tg v0 = 21) : ∀ (k : Nat) (c0 : Int32) (h : hp_H) (s : st_T) (x : st_T), iso tg r h s → isf tg r hb h sb s → hp_lp (gL_X11_trace_125 n v0 v3) k (c0, s) = some x → ∃ h2, hp_lp (fL_X11_trace_125 n (r v0) v3) k (c0, h) = some (eX_X11_trace_125 x h2) ∧ iso tg r h2 (sX_X11_trace_125 x) ∧ isf tg r hb h2 sb (sX_X11_trace_125 x) := by
  intro k
  induction k with
  | zero => intro c0 h s x I F hx; exact (hp_lp_0 hx).elim
  | succ k ih =>
    intro c0 h s x I F hx
    obtain ⟨rr, hr, hc⟩ := hp_lp_1 hx
    obtain ⟨h2, e2, I2, F2⟩ := t_X11_trace_125 I F T_v0 hr
    rcases hc with ⟨s3, e3, hx3⟩ | e3
    · subst e3
      obtain ⟨h3, e4, I3, F3⟩ := ih _ h2 _ x I2 F2 hx3
      exact ⟨h3, hp_lp_s e2 e4, I3, F3⟩
    · subst e3
      exact ⟨h2, hp_lp_x e2, I2, F2⟩
def g_X11_trace_102 (n : Nat) (v0 : Nat) (v3 : Int32) (s : st_T) : Option ((Int32 × st_T) ⊕ (st_T)) :=
  if (gF s v0 59) ≤ v3 then
    some (.inr s)
  else
    (gA s (gP s v0 57) v3).bind fun x3 =>
    (uA 0 s (gP s v0 70) v3 x3).bind fun w4 =>
    (hp_lp (gL_X11_trace_125 n v0 v3) n ((0 : Int32), w4)).bind fun x5 =>
    some (.inl ((v3 + (1 : Int32)), x5))
set_option maxHeartbeats 1000000 in
theorem t_X11_trace_102 {tg r : Nat → Nat} {h hb : hp_H} {s sb : st_T} {n : Nat} {v0 : Nat} {v3 : Int32} (I : iso tg r h s) (F : isf tg r hb h sb s) (T_v0 : tg v0 = 21) {res : (Int32 × st_T) ⊕ (st_T)} (hm : g_X11_trace_102 n v0 v3 s = some res) : ∃ h2, f_X11_trace_102 n (r v0) v3 h = some (eR_X11_trace_102 res h2) ∧ iso tg r h2 (sR_X11_trace_102 res) ∧ isf tg r hb h2 sb (sR_X11_trace_102 res) := by
  unfold g_X11_trace_102 at hm
  unfold f_X11_trace_102
  refine tr_eq (t_fI I T_v0 (by decide) (by decide) rfl) ?_
  by_cases c7 : (gF s v0 59) ≤ v3
  · rw [if_pos c7] at hm ⊢
    obtain rfl := Option.some.inj hm
    exact ⟨_, rfl, I, F⟩
  · rw [if_neg c7] at hm ⊢
    have T1 : tg (gP s v0 70) = 0 := t_tg (c := 11) I T_v0 (by decide) (by decide) rfl (by decide)
    refine tr_eq (t_fR I T_v0 (by decide) (by decide) (by decide)) ?_
    have T2 : tg (gP s v0 57) = 0 := t_tg (c := 11) I T_v0 (by decide) (by decide) rfl (by decide)
    refine tr_eq (t_fR I T_v0 (by decide) (by decide) (by decide)) ?_
    obtain ⟨x3, hx3, hm⟩ := hp_bd hm
    refine tr_eq (t_aI I T2 (by decide) rfl hx3) ?_
    obtain ⟨w4, hw4, hm⟩ := hp_bd hm
    obtain ⟨_, e2, I, F⟩ := t_sI I F T1 (by decide) rfl hw4
    refine tr_eq e2 ?_
    obtain ⟨x5, hx5, hm⟩ := hp_bd hm
    obtain ⟨_, e2, I, F⟩ := tl_X11_trace_125 T_v0 n _ _ _ _ I F hx5
    refine tr_eq e2 ?_
    try dsimp only [eX_X11_trace_125]
    replace I : iso tg _ _ x5 := I
    replace F : isf tg _ _ _ _ x5 := F
    obtain rfl := Option.some.inj hm
    exact ⟨_, rfl, I, F⟩
def gL_X11_trace_102 (n : Nat) (v0 : Nat) (c : Int32 × st_T) : Option ((Int32 × st_T) ⊕ (st_T)) := g_X11_trace_102 n v0 c.1 c.2
theorem tl_X11_trace_102 {tg r : Nat → Nat} {hb : hp_H} {sb : st_T} {n : Nat} {v0 : Nat} (T_v0 : tg v0 = 21) : ∀ (k : Nat) (c0 : Int32) (h : hp_H) (s : st_T) (x : st_T), iso tg r h s → isf tg r hb h sb s → hp_lp (gL_X11_trace_102 n v0) k (c0, s) = some x → ∃ h2, hp_lp (fL_X11_trace_102 n (r v0)) k (c0, h) = some (eX_X11_trace_102 x h2) ∧ iso tg r h2 (sX_X11_trace_102 x) ∧ isf tg r hb h2 sb (sX_X11_trace_102 x) := by
  intro k
  induction k with
  | zero => intro c0 h s x I F hx; exact (hp_lp_0 hx).elim
  | succ k ih =>
    intro c0 h s x I F hx
    obtain ⟨rr, hr, hc⟩ := hp_lp_1 hx
    obtain ⟨h2, e2, I2, F2⟩ := t_X11_trace_102 I F T_v0 hr
    rcases hc with ⟨s3, e3, hx3⟩ | e3
    · subst e3
      obtain ⟨h3, e4, I3, F3⟩ := ih _ h2 _ x I2 F2 hx3
      exact ⟨h3, hp_lp_s e2 e4, I3, F3⟩
    · subst e3
      exact ⟨h2, hp_lp_x e2, I2, F2⟩
def g_X11_trace_62 (n : Nat) (v0 : Nat) (s0 : Int32) (s1 : Int32) (s2 : Nat) (s : st_T) : Option (Int32 × st_T) :=
  (g_X11_runSteps n s2 s1 s0 s).bind fun x1 =>
  if x1.1 = 0 then
    g_X11_trace_68 n v0 x1.2
  else
    (wF x1.2 v0 3 (gF x1.2 v0 50)).bind fun w2 =>
    (wF w2 v0 71 (gF w2 v0 59)).bind fun w3 =>
    (hp_lp (gL_X11_trace_102 n v0) n ((0 : Int32), w3)).bind fun x4 =>
    some ((gF x4 v0 71), x4)
set_option maxHeartbeats 1000000 in
theorem t_X11_trace_62 {tg r : Nat → Nat} {h hb : hp_H} {s sb : st_T} {n : Nat} {v0 : Nat} {s0 : Int32} {s1 : Int32} {s2 : Nat} (I : iso tg r h s) (F : isf tg r hb h sb s) (T_v0 : tg v0 = 21) (T_s2 : tg s2 = 21) {res : Int32 × st_T} (hm : g_X11_trace_62 n v0 s0 s1 s2 s = some res) : ∃ h2, f_X11_trace_62 n (r v0) s0 s1 (r s2) h = some ((res.1, h2)) ∧ iso tg r h2 res.2 ∧ isf tg r hb h2 sb res.2 := by
  unfold g_X11_trace_62 at hm
  unfold f_X11_trace_62
  obtain ⟨x1, hx1, hm⟩ := hp_bd hm
  obtain ⟨_, e2, I, F⟩ := t_X11_runSteps I F T_s2 hx1
  refine tr_eq e2 ?_
  try dsimp only
  by_cases c6 : x1.1 = 0
  · rw [if_pos c6] at hm ⊢
    exact t_X11_trace_68 I F T_v0 hm
  · rw [if_neg c6] at hm ⊢
    refine tr_eq (t_fI I T_v0 (by decide) (by decide) rfl) ?_
    obtain ⟨w2, hw2, hm⟩ := hp_bd hm
    obtain ⟨_, e2, I, F⟩ := t_wF (c := 11) (k := 3) I F T_v0 (by decide) (by decide) rfl hw2
    refine tr_eq e2 ?_
    refine tr_eq (t_fI I T_v0 (by decide) (by decide) rfl) ?_
    obtain ⟨w3, hw3, hm⟩ := hp_bd hm
    obtain ⟨_, e2, I, F⟩ := t_wF (c := 11) (k := 71) I F T_v0 (by decide) (by decide) rfl hw3
    refine tr_eq e2 ?_
    obtain ⟨x4, hx4, hm⟩ := hp_bd hm
    obtain ⟨_, e2, I, F⟩ := tl_X11_trace_102 T_v0 n _ _ _ _ I F hx4
    refine tr_eq e2 ?_
    try dsimp only [eX_X11_trace_102]
    replace I : iso tg _ _ x4 := I
    replace F : isf tg _ _ _ _ x4 := F
    refine tr_eq (t_fI I T_v0 (by decide) (by decide) rfl) ?_
    obtain rfl := Option.some.inj hm
    exact ⟨_, rfl, I, F⟩
def g_X11_trace_0 (n : Nat) (v0 : Nat) (v1 : Int32) (v2 : Int32) (s : st_T) : Option (Int32 × st_T) :=
  (wF s v0 3 (0 : Int32)).bind fun w1 =>
  (wF w1 v0 71 (0 : Int32)).bind fun w2 =>
  (g_X11_isKind n v0 v1 (3 : Int32) w2).bind fun x3 =>
  if x3 = 0 then
    some ((-1 : Int32), w2)
  else
    if 0 ≤ v2 then
      (g_X11_isOpen n v0 v1 w2).bind fun x4 =>
      if x4.1 = 0 then
        (g_X11_readProof n v0 v1 x4.2).bind fun x5 =>
        if x5.1 = 0 then
          g_X11_trace_68 n v0 x5.2
        else
          if v2 < (1000 : Int32) then
            g_X11_trace_62 n v0 (v2 + (1 : Int32)) v1 v0 x5.2
          else
            g_X11_trace_62 n v0 (1000 : Int32) v1 v0 x5.2
      else
        some ((-9 : Int32), x4.2)
    else
      some ((-1 : Int32), w2)
set_option maxHeartbeats 1000000 in
theorem t_X11_trace_0 {tg r : Nat → Nat} {h hb : hp_H} {s sb : st_T} {n : Nat} {v0 : Nat} {v1 : Int32} {v2 : Int32} (I : iso tg r h s) (F : isf tg r hb h sb s) (T_v0 : tg v0 = 21) {res : Int32 × st_T} (hm : g_X11_trace_0 n v0 v1 v2 s = some res) : ∃ h2, f_X11_trace_0 n (r v0) v1 v2 h = some ((res.1, h2)) ∧ iso tg r h2 res.2 ∧ isf tg r hb h2 sb res.2 := by
  unfold g_X11_trace_0 at hm
  unfold f_X11_trace_0
  obtain ⟨w1, hw1, hm⟩ := hp_bd hm
  obtain ⟨_, e2, I, F⟩ := t_wF (c := 11) (k := 3) I F T_v0 (by decide) (by decide) rfl hw1
  refine tr_eq e2 ?_
  obtain ⟨w2, hw2, hm⟩ := hp_bd hm
  obtain ⟨_, e2, I, F⟩ := t_wF (c := 11) (k := 71) I F T_v0 (by decide) (by decide) rfl hw2
  refine tr_eq e2 ?_
  obtain ⟨x3, hx3, hm⟩ := hp_bd hm
  refine tr_eq (t_X11_isKind I T_v0 hx3) ?_
  by_cases c10 : x3 = 0
  · rw [if_pos c10] at hm ⊢
    obtain rfl := Option.some.inj hm
    exact ⟨_, rfl, I, F⟩
  · rw [if_neg c10] at hm ⊢
    by_cases c9 : 0 ≤ v2
    · rw [if_pos c9] at hm ⊢
      obtain ⟨x4, hx4, hm⟩ := hp_bd hm
      obtain ⟨_, e2, I, F⟩ := t_X11_isOpen I F T_v0 hx4
      refine tr_eq e2 ?_
      try dsimp only
      by_cases c8 : x4.1 = 0
      · rw [if_pos c8] at hm ⊢
        obtain ⟨x5, hx5, hm⟩ := hp_bd hm
        obtain ⟨_, e2, I, F⟩ := t_X11_readProof I F T_v0 hx5
        refine tr_eq e2 ?_
        try dsimp only
        by_cases c7 : x5.1 = 0
        · rw [if_pos c7] at hm ⊢
          exact t_X11_trace_68 I F T_v0 hm
        · rw [if_neg c7] at hm ⊢
          by_cases c6 : v2 < (1000 : Int32)
          · rw [if_pos c6] at hm ⊢
            exact t_X11_trace_62 I F T_v0 T_v0 hm
          · rw [if_neg c6] at hm ⊢
            exact t_X11_trace_62 I F T_v0 T_v0 hm
      · rw [if_neg c8] at hm ⊢
        obtain rfl := Option.some.inj hm
        exact ⟨_, rfl, I, F⟩
    · rw [if_neg c9] at hm ⊢
      obtain rfl := Option.some.inj hm
      exact ⟨_, rfl, I, F⟩
def g_X11_trace (n : Nat) (v0 : Nat) (v1 : Int32) (v2 : Int32) (s : st_T) : Option (Int32 × st_T) := g_X11_trace_0 n v0 v1 v2 s
theorem t_X11_trace {tg r : Nat → Nat} {h hb : hp_H} {s sb : st_T} {n : Nat} {v0 : Nat} {v1 : Int32} {v2 : Int32} (I : iso tg r h s) (F : isf tg r hb h sb s) (T_v0 : tg v0 = 21) {res : Int32 × st_T} (hm : g_X11_trace n v0 v1 v2 s = some res) : ∃ h2, f_X11_trace n (r v0) v1 v2 h = some ((res.1, h2)) ∧ iso tg r h2 res.2 ∧ isf tg r hb h2 sb res.2 := by
  unfold g_X11_trace at hm
  unfold f_X11_trace
  refine tr_eq (t_ck I T_v0 (by decide)) ?_
  exact t_X11_trace_0 I F T_v0 hm
def g_X11_thing__49 (n : Nat) (s : st_T) : Option (Int32) :=
  some (-1 : Int32)
set_option maxHeartbeats 1000000 in
theorem t_X11_thing__49 {tg r : Nat → Nat} {h : hp_H} {s : st_T} {n : Nat} (I : iso tg r h s) {res : Int32} (hm : g_X11_thing__49 n  s = some res) : f_X11_thing__49 n  h = some res := by
  unfold g_X11_thing__49 at hm
  unfold f_X11_thing__49
  obtain rfl := Option.some.inj hm
  rfl
def g_X11_thing__0 (n : Nat) (v0 : Nat) (v1 : Int32) (v2 : Int32) (s : st_T) : Option (Int32) :=
  if v1 < 0 then
    some (-1 : Int32)
  else
    if v1 < (gF s v0 71) then
      if v2 = (-1 : Int32) then
        (gA s (gP s v0 70) (((gF s v0 71) - (1 : Int32)) - v1)).bind fun x9 =>
        some x9
      else
        if v2 < 0 then
          g_X11_thing__49 n  s
        else
          (gA s (gP s v0 70) (((gF s v0 71) - (1 : Int32)) - v1)).bind fun x2 =>
          if v2 < x2 then
            (g_X11_thing n v0 (((gF s v0 71) - (1 : Int32)) - v1) s).bind fun x4 =>
            (gA s (gP s v0 69) (x4 + v2)).bind fun x5 =>
            some x5
          else
            g_X11_thing__49 n  s
    else
      some (-1 : Int32)
set_option maxHeartbeats 1000000 in
theorem t_X11_thing__0 {tg r : Nat → Nat} {h : hp_H} {s : st_T} {n : Nat} {v0 : Nat} {v1 : Int32} {v2 : Int32} (I : iso tg r h s) (T_v0 : tg v0 = 21) {res : Int32} (hm : g_X11_thing__0 n v0 v1 v2 s = some res) : f_X11_thing__0 n (r v0) v1 v2 h = some res := by
  unfold g_X11_thing__0 at hm
  unfold f_X11_thing__0
  by_cases c12 : v1 < 0
  · rw [if_pos c12] at hm ⊢
    obtain rfl := Option.some.inj hm
    rfl
  · rw [if_neg c12] at hm ⊢
    refine tr_eq0 (t_fI I T_v0 (by decide) (by decide) rfl) ?_
    by_cases c11 : v1 < (gF s v0 71)
    · rw [if_pos c11] at hm ⊢
      refine tr_eq0 (t_fI I T_v0 (by decide) (by decide) rfl) ?_
      by_cases c10 : v2 = (-1 : Int32)
      · rw [if_pos c10] at hm ⊢
        have T8 : tg (gP s v0 70) = 0 := t_tg (c := 11) I T_v0 (by decide) (by decide) rfl (by decide)
        refine tr_eq0 (t_fR I T_v0 (by decide) (by decide) (by decide)) ?_
        obtain ⟨x9, hx9, hm⟩ := hp_bd hm
        refine tr_eq0 (t_aI I T8 (by decide) rfl hx9) ?_
        obtain rfl := Option.some.inj hm
        rfl
      · rw [if_neg c10] at hm ⊢
        by_cases c7 : v2 < 0
        · rw [if_pos c7] at hm ⊢
          exact t_X11_thing__49 I  hm
        · rw [if_neg c7] at hm ⊢
          have T1 : tg (gP s v0 70) = 0 := t_tg (c := 11) I T_v0 (by decide) (by decide) rfl (by decide)
          refine tr_eq0 (t_fR I T_v0 (by decide) (by decide) (by decide)) ?_
          obtain ⟨x2, hx2, hm⟩ := hp_bd hm
          refine tr_eq0 (t_aI I T1 (by decide) rfl hx2) ?_
          by_cases c6 : v2 < x2
          · rw [if_pos c6] at hm ⊢
            have T3 : tg (gP s v0 69) = 0 := t_tg (c := 11) I T_v0 (by decide) (by decide) rfl (by decide)
            refine tr_eq0 (t_fR I T_v0 (by decide) (by decide) (by decide)) ?_
            obtain ⟨x4, hx4, hm⟩ := hp_bd hm
            refine tr_eq0 (t_X11_thing I T_v0 hx4) ?_
            obtain ⟨x5, hx5, hm⟩ := hp_bd hm
            refine tr_eq0 (t_aI I T3 (by decide) rfl hx5) ?_
            obtain rfl := Option.some.inj hm
            rfl
          · rw [if_neg c6] at hm ⊢
            exact t_X11_thing__49 I  hm
    · rw [if_neg c11] at hm ⊢
      obtain rfl := Option.some.inj hm
      rfl
def g_X11_thing_ (n : Nat) (v0 : Nat) (v1 : Int32) (v2 : Int32) (s : st_T) : Option (Int32) := g_X11_thing__0 n v0 v1 v2 s
theorem t_X11_thing_ {tg r : Nat → Nat} {h : hp_H} {s : st_T} {n : Nat} {v0 : Nat} {v1 : Int32} {v2 : Int32} (I : iso tg r h s) (T_v0 : tg v0 = 21) {res : Int32} (hm : g_X11_thing_ n v0 v1 v2 s = some res) : f_X11_thing_ n (r v0) v1 v2 h = some res := by
  unfold g_X11_thing_ at hm
  unfold f_X11_thing_
  refine tr_eq0 (t_ck I T_v0 (by decide)) ?_
  exact t_X11_thing__0 I T_v0 hm
def g_X11_say_20 (n : Nat) (v0 : Nat) (s : st_T) : Option (st_T) :=
  (wF s v0 82 ((gF s v0 82) + (1 : Int32))).bind fun w1 =>
  some w1
set_option maxHeartbeats 1000000 in
theorem t_X11_say_20 {tg r : Nat → Nat} {h hb : hp_H} {s sb : st_T} {n : Nat} {v0 : Nat} (I : iso tg r h s) (F : isf tg r hb h sb s) (T_v0 : tg v0 = 21) {res : st_T} (hm : g_X11_say_20 n v0 s = some res) : ∃ h2, f_X11_say_20 n (r v0) h = some (h2) ∧ iso tg r h2 res ∧ isf tg r hb h2 sb res := by
  unfold g_X11_say_20 at hm
  unfold f_X11_say_20
  refine tr_eq (t_fI I T_v0 (by decide) (by decide) rfl) ?_
  obtain ⟨w1, hw1, hm⟩ := hp_bd hm
  obtain ⟨_, e2, I, F⟩ := t_wF (c := 11) (k := 82) I F T_v0 (by decide) (by decide) rfl hw1
  refine tr_eq e2 ?_
  obtain rfl := Option.some.inj hm
  exact ⟨_, rfl, I, F⟩
def g_X11_say_0 (n : Nat) (v0 : Nat) (v1 : Int32) (s : st_T) : Option (st_T) :=
  if (6000 : Int32) ≤ (gF s v0 82) then
    g_X11_say_20 n v0 s
  else
    (uA 0 s (gP s v0 81) (gF s v0 82) v1).bind fun w2 =>
    g_X11_say_20 n v0 w2
set_option maxHeartbeats 1000000 in
theorem t_X11_say_0 {tg r : Nat → Nat} {h hb : hp_H} {s sb : st_T} {n : Nat} {v0 : Nat} {v1 : Int32} (I : iso tg r h s) (F : isf tg r hb h sb s) (T_v0 : tg v0 = 21) {res : st_T} (hm : g_X11_say_0 n v0 v1 s = some res) : ∃ h2, f_X11_say_0 n (r v0) v1 h = some (h2) ∧ iso tg r h2 res ∧ isf tg r hb h2 sb res := by
  unfold g_X11_say_0 at hm
  unfold f_X11_say_0
  refine tr_eq (t_fI I T_v0 (by decide) (by decide) rfl) ?_
  by_cases c3 : (6000 : Int32) ≤ (gF s v0 82)
  · rw [if_pos c3] at hm ⊢
    exact t_X11_say_20 I F T_v0 hm
  · rw [if_neg c3] at hm ⊢
    have T1 : tg (gP s v0 81) = 0 := t_tg (c := 11) I T_v0 (by decide) (by decide) rfl (by decide)
    refine tr_eq (t_fR I T_v0 (by decide) (by decide) (by decide)) ?_
    refine tr_eq (t_fI I T_v0 (by decide) (by decide) rfl) ?_
    obtain ⟨w2, hw2, hm⟩ := hp_bd hm
    obtain ⟨_, e2, I, F⟩ := t_sI I F T1 (by decide) rfl hw2
    refine tr_eq e2 ?_
    exact t_X11_say_20 I F T_v0 hm
def g_X11_say (n : Nat) (v0 : Nat) (v1 : Int32) (s : st_T) : Option (st_T) := g_X11_say_0 n v0 v1 s
theorem t_X11_say {tg r : Nat → Nat} {h hb : hp_H} {s sb : st_T} {n : Nat} {v0 : Nat} {v1 : Int32} (I : iso tg r h s) (F : isf tg r hb h sb s) (T_v0 : tg v0 = 21) {res : st_T} (hm : g_X11_say n v0 v1 s = some res) : ∃ h2, f_X11_say n (r v0) v1 h = some (h2) ∧ iso tg r h2 res ∧ isf tg r hb h2 sb res := by
  unfold g_X11_say at hm
  unfold f_X11_say
  refine tr_eq (t_ck I T_v0 (by decide)) ?_
  exact t_X11_say_0 I F T_v0 hm
abbrev eX_X11_sayLabel_2 (x : st_T) (h2 : hp_H) : hp_H := (fun y => h2) x
abbrev sX_X11_sayLabel_2 (x : st_T) : st_T := (fun y => y) x
abbrev eR_X11_sayLabel_2 (x : (Int32 × st_T) ⊕ (st_T)) (h2 : hp_H) : (Int32 × hp_H) ⊕ (hp_H) := Sum.elim (fun y => .inl (y.1, h2)) (fun y => .inr (eX_X11_sayLabel_2 y h2)) x
abbrev sR_X11_sayLabel_2 (x : (Int32 × st_T) ⊕ (st_T)) : st_T := Sum.elim (fun y => y.2) sX_X11_sayLabel_2 x
def g_X11_sayLabel_2 (n : Nat) (v0 : Nat) (v1 : Int32) (v2 : Int32) (s : st_T) : Option ((Int32 × st_T) ⊕ (st_T)) :=
  (g_X11_at n v0 v1 s).bind fun x2 =>
  (gA s (gP s v0 12) x2).bind fun x3 =>
  if x3 ≤ v2 then
    some (.inr s)
  else
    (g_X11_at n v0 v1 s).bind fun x6 =>
    (gA s (gP s v0 11) x6).bind fun x7 =>
    (gA s (gP s v0 5) ((((8192 : Int32) * (gF s v0 4)) + x7) + v2)).bind fun x8 =>
    (g_X11_say n v0 x8 s).bind fun x9 =>
    some (.inl ((v2 + (1 : Int32)), x9))
set_option maxHeartbeats 1000000 in
theorem t_X11_sayLabel_2 {tg r : Nat → Nat} {h hb : hp_H} {s sb : st_T} {n : Nat} {v0 : Nat} {v1 : Int32} {v2 : Int32} (I : iso tg r h s) (F : isf tg r hb h sb s) (T_v0 : tg v0 = 21) {res : (Int32 × st_T) ⊕ (st_T)} (hm : g_X11_sayLabel_2 n v0 v1 v2 s = some res) : ∃ h2, f_X11_sayLabel_2 n (r v0) v1 v2 h = some (eR_X11_sayLabel_2 res h2) ∧ iso tg r h2 (sR_X11_sayLabel_2 res) ∧ isf tg r hb h2 sb (sR_X11_sayLabel_2 res) := by
  unfold g_X11_sayLabel_2 at hm
  unfold f_X11_sayLabel_2
  have T1 : tg (gP s v0 12) = 0 := t_tg (c := 11) I T_v0 (by decide) (by decide) rfl (by decide)
  refine tr_eq (t_fR I T_v0 (by decide) (by decide) (by decide)) ?_
  obtain ⟨x2, hx2, hm⟩ := hp_bd hm
  refine tr_eq (t_X11_at I T_v0 hx2) ?_
  obtain ⟨x3, hx3, hm⟩ := hp_bd hm
  refine tr_eq (t_aI I T1 (by decide) rfl hx3) ?_
  by_cases c10 : x3 ≤ v2
  · rw [if_pos c10] at hm ⊢
    obtain rfl := Option.some.inj hm
    exact ⟨_, rfl, I, F⟩
  · rw [if_neg c10] at hm ⊢
    have T4 : tg (gP s v0 5) = 0 := t_tg (c := 11) I T_v0 (by decide) (by decide) rfl (by decide)
    refine tr_eq (t_fR I T_v0 (by decide) (by decide) (by decide)) ?_
    refine tr_eq (t_fI I T_v0 (by decide) (by decide) rfl) ?_
    have T5 : tg (gP s v0 11) = 0 := t_tg (c := 11) I T_v0 (by decide) (by decide) rfl (by decide)
    refine tr_eq (t_fR I T_v0 (by decide) (by decide) (by decide)) ?_
    obtain ⟨x6, hx6, hm⟩ := hp_bd hm
    refine tr_eq (t_X11_at I T_v0 hx6) ?_
    obtain ⟨x7, hx7, hm⟩ := hp_bd hm
    refine tr_eq (t_aI I T5 (by decide) rfl hx7) ?_
    obtain ⟨x8, hx8, hm⟩ := hp_bd hm
    refine tr_eq (t_aI I T4 (by decide) rfl hx8) ?_
    obtain ⟨x9, hx9, hm⟩ := hp_bd hm
    obtain ⟨_, e2, I, F⟩ := t_X11_say I F T_v0 hx9
    refine tr_eq e2 ?_
    obtain rfl := Option.some.inj hm
    exact ⟨_, rfl, I, F⟩
def gL_X11_sayLabel_2 (n : Nat) (v0 : Nat) (v1 : Int32) (c : Int32 × st_T) : Option ((Int32 × st_T) ⊕ (st_T)) := g_X11_sayLabel_2 n v0 v1 c.1 c.2
theorem tl_X11_sayLabel_2 {tg r : Nat → Nat} {hb : hp_H} {sb : st_T} {n : Nat} {v0 : Nat} {v1 : Int32} (T_v0 : tg v0 = 21) : ∀ (k : Nat) (c0 : Int32) (h : hp_H) (s : st_T) (x : st_T), iso tg r h s → isf tg r hb h sb s → hp_lp (gL_X11_sayLabel_2 n v0 v1) k (c0, s) = some x → ∃ h2, hp_lp (fL_X11_sayLabel_2 n (r v0) v1) k (c0, h) = some (eX_X11_sayLabel_2 x h2) ∧ iso tg r h2 (sX_X11_sayLabel_2 x) ∧ isf tg r hb h2 sb (sX_X11_sayLabel_2 x) := by
  intro k
  induction k with
  | zero => intro c0 h s x I F hx; exact (hp_lp_0 hx).elim
  | succ k ih =>
    intro c0 h s x I F hx
    obtain ⟨rr, hr, hc⟩ := hp_lp_1 hx
    obtain ⟨h2, e2, I2, F2⟩ := t_X11_sayLabel_2 I F T_v0 hr
    rcases hc with ⟨s3, e3, hx3⟩ | e3
    · subst e3
      obtain ⟨h3, e4, I3, F3⟩ := ih _ h2 _ x I2 F2 hx3
      exact ⟨h3, hp_lp_s e2 e4, I3, F3⟩
    · subst e3
      exact ⟨h2, hp_lp_x e2, I2, F2⟩
def g_X11_sayLabel_0 (n : Nat) (v0 : Nat) (v1 : Int32) (s : st_T) : Option (st_T) :=
  (hp_lp (gL_X11_sayLabel_2 n v0 v1) n ((0 : Int32), s)).bind fun x1 =>
  some x1
set_option maxHeartbeats 1000000 in
theorem t_X11_sayLabel_0 {tg r : Nat → Nat} {h hb : hp_H} {s sb : st_T} {n : Nat} {v0 : Nat} {v1 : Int32} (I : iso tg r h s) (F : isf tg r hb h sb s) (T_v0 : tg v0 = 21) {res : st_T} (hm : g_X11_sayLabel_0 n v0 v1 s = some res) : ∃ h2, f_X11_sayLabel_0 n (r v0) v1 h = some (h2) ∧ iso tg r h2 res ∧ isf tg r hb h2 sb res := by
  unfold g_X11_sayLabel_0 at hm
  unfold f_X11_sayLabel_0
  obtain ⟨x1, hx1, hm⟩ := hp_bd hm
  obtain ⟨_, e2, I, F⟩ := tl_X11_sayLabel_2 T_v0 n _ _ _ _ I F hx1
  refine tr_eq e2 ?_
  try dsimp only [eX_X11_sayLabel_2]
  replace I : iso tg _ _ x1 := I
  replace F : isf tg _ _ _ _ x1 := F
  obtain rfl := Option.some.inj hm
  exact ⟨_, rfl, I, F⟩
def g_X11_sayLabel (n : Nat) (v0 : Nat) (v1 : Int32) (s : st_T) : Option (st_T) := g_X11_sayLabel_0 n v0 v1 s
theorem t_X11_sayLabel {tg r : Nat → Nat} {h hb : hp_H} {s sb : st_T} {n : Nat} {v0 : Nat} {v1 : Int32} (I : iso tg r h s) (F : isf tg r hb h sb s) (T_v0 : tg v0 = 21) {res : st_T} (hm : g_X11_sayLabel n v0 v1 s = some res) : ∃ h2, f_X11_sayLabel n (r v0) v1 h = some (h2) ∧ iso tg r h2 res ∧ isf tg r hb h2 sb res := by
  unfold g_X11_sayLabel at hm
  unfold f_X11_sayLabel
  refine tr_eq (t_ck I T_v0 (by decide)) ?_
  exact t_X11_sayLabel_0 I F T_v0 hm
abbrev eX_X11_told_23 (x : st_T) (h2 : hp_H) : hp_H := (fun y => h2) x
abbrev sX_X11_told_23 (x : st_T) : st_T := (fun y => y) x
abbrev eR_X11_told_23 (x : (Int32 × st_T) ⊕ (st_T)) (h2 : hp_H) : (Int32 × hp_H) ⊕ (hp_H) := Sum.elim (fun y => .inl (y.1, h2)) (fun y => .inr (eX_X11_told_23 y h2)) x
abbrev sR_X11_told_23 (x : (Int32 × st_T) ⊕ (st_T)) : st_T := Sum.elim (fun y => y.2) sX_X11_told_23 x
def g_X11_told_23 (n : Nat) (v0 : Nat) (v1 : Int32) (s : st_T) : Option ((Int32 × st_T) ⊕ (st_T)) :=
  if (gF s v0 82) ≤ v1 then
    some (.inr s)
  else
    (gA s (gP s v0 81) v1).bind fun x3 =>
    (uA 0 s (gP s v0 79) v1 x3).bind fun w4 =>
    some (.inl ((v1 + (1 : Int32)), w4))
set_option maxHeartbeats 1000000 in
theorem t_X11_told_23 {tg r : Nat → Nat} {h hb : hp_H} {s sb : st_T} {n : Nat} {v0 : Nat} {v1 : Int32} (I : iso tg r h s) (F : isf tg r hb h sb s) (T_v0 : tg v0 = 21) {res : (Int32 × st_T) ⊕ (st_T)} (hm : g_X11_told_23 n v0 v1 s = some res) : ∃ h2, f_X11_told_23 n (r v0) v1 h = some (eR_X11_told_23 res h2) ∧ iso tg r h2 (sR_X11_told_23 res) ∧ isf tg r hb h2 sb (sR_X11_told_23 res) := by
  unfold g_X11_told_23 at hm
  unfold f_X11_told_23
  refine tr_eq (t_fI I T_v0 (by decide) (by decide) rfl) ?_
  by_cases c5 : (gF s v0 82) ≤ v1
  · rw [if_pos c5] at hm ⊢
    obtain rfl := Option.some.inj hm
    exact ⟨_, rfl, I, F⟩
  · rw [if_neg c5] at hm ⊢
    have T1 : tg (gP s v0 79) = 0 := t_tg (c := 11) I T_v0 (by decide) (by decide) rfl (by decide)
    refine tr_eq (t_fR I T_v0 (by decide) (by decide) (by decide)) ?_
    have T2 : tg (gP s v0 81) = 0 := t_tg (c := 11) I T_v0 (by decide) (by decide) rfl (by decide)
    refine tr_eq (t_fR I T_v0 (by decide) (by decide) (by decide)) ?_
    obtain ⟨x3, hx3, hm⟩ := hp_bd hm
    refine tr_eq (t_aI I T2 (by decide) rfl hx3) ?_
    obtain ⟨w4, hw4, hm⟩ := hp_bd hm
    obtain ⟨_, e2, I, F⟩ := t_sI I F T1 (by decide) rfl hw4
    refine tr_eq e2 ?_
    obtain rfl := Option.some.inj hm
    exact ⟨_, rfl, I, F⟩
def gL_X11_told_23 (n : Nat) (v0 : Nat) (c : Int32 × st_T) : Option ((Int32 × st_T) ⊕ (st_T)) := g_X11_told_23 n v0 c.1 c.2
theorem tl_X11_told_23 {tg r : Nat → Nat} {hb : hp_H} {sb : st_T} {n : Nat} {v0 : Nat} (T_v0 : tg v0 = 21) : ∀ (k : Nat) (c0 : Int32) (h : hp_H) (s : st_T) (x : st_T), iso tg r h s → isf tg r hb h sb s → hp_lp (gL_X11_told_23 n v0) k (c0, s) = some x → ∃ h2, hp_lp (fL_X11_told_23 n (r v0)) k (c0, h) = some (eX_X11_told_23 x h2) ∧ iso tg r h2 (sX_X11_told_23 x) ∧ isf tg r hb h2 sb (sX_X11_told_23 x) := by
  intro k
  induction k with
  | zero => intro c0 h s x I F hx; exact (hp_lp_0 hx).elim
  | succ k ih =>
    intro c0 h s x I F hx
    obtain ⟨rr, hr, hc⟩ := hp_lp_1 hx
    obtain ⟨h2, e2, I2, F2⟩ := t_X11_told_23 I F T_v0 hr
    rcases hc with ⟨s3, e3, hx3⟩ | e3
    · subst e3
      obtain ⟨h3, e4, I3, F3⟩ := ih _ h2 _ x I2 F2 hx3
      exact ⟨h3, hp_lp_s e2 e4, I3, F3⟩
    · subst e3
      exact ⟨h2, hp_lp_x e2, I2, F2⟩
def g_X11_told_0 (n : Nat) (v0 : Nat) (s : st_T) : Option (Int32 × st_T) :=
  if (gF s v0 82) ≤ (6000 : Int32) then
    (wF s v0 80 (gF s v0 82)).bind fun w1 =>
    (hp_lp (gL_X11_told_23 n v0) n ((0 : Int32), w1)).bind fun x2 =>
    some ((gF x2 v0 80), x2)
  else
    some ((-3 : Int32), s)
set_option maxHeartbeats 1000000 in
theorem t_X11_told_0 {tg r : Nat → Nat} {h hb : hp_H} {s sb : st_T} {n : Nat} {v0 : Nat} (I : iso tg r h s) (F : isf tg r hb h sb s) (T_v0 : tg v0 = 21) {res : Int32 × st_T} (hm : g_X11_told_0 n v0 s = some res) : ∃ h2, f_X11_told_0 n (r v0) h = some ((res.1, h2)) ∧ iso tg r h2 res.2 ∧ isf tg r hb h2 sb res.2 := by
  unfold g_X11_told_0 at hm
  unfold f_X11_told_0
  refine tr_eq (t_fI I T_v0 (by decide) (by decide) rfl) ?_
  by_cases c4 : (gF s v0 82) ≤ (6000 : Int32)
  · rw [if_pos c4] at hm ⊢
    refine tr_eq (t_fI I T_v0 (by decide) (by decide) rfl) ?_
    obtain ⟨w1, hw1, hm⟩ := hp_bd hm
    obtain ⟨_, e2, I, F⟩ := t_wF (c := 11) (k := 80) I F T_v0 (by decide) (by decide) rfl hw1
    refine tr_eq e2 ?_
    obtain ⟨x2, hx2, hm⟩ := hp_bd hm
    obtain ⟨_, e2, I, F⟩ := tl_X11_told_23 T_v0 n _ _ _ _ I F hx2
    refine tr_eq e2 ?_
    try dsimp only [eX_X11_told_23]
    replace I : iso tg _ _ x2 := I
    replace F : isf tg _ _ _ _ x2 := F
    refine tr_eq (t_fI I T_v0 (by decide) (by decide) rfl) ?_
    obtain rfl := Option.some.inj hm
    exact ⟨_, rfl, I, F⟩
  · rw [if_neg c4] at hm ⊢
    obtain rfl := Option.some.inj hm
    exact ⟨_, rfl, I, F⟩
def g_X11_told (n : Nat) (v0 : Nat) (s : st_T) : Option (Int32 × st_T) := g_X11_told_0 n v0 s
theorem t_X11_told {tg r : Nat → Nat} {h hb : hp_H} {s sb : st_T} {n : Nat} {v0 : Nat} (I : iso tg r h s) (F : isf tg r hb h sb s) (T_v0 : tg v0 = 21) {res : Int32 × st_T} (hm : g_X11_told n v0 s = some res) : ∃ h2, f_X11_told n (r v0) h = some ((res.1, h2)) ∧ iso tg r h2 res.2 ∧ isf tg r hb h2 sb res.2 := by
  unfold g_X11_told at hm
  unfold f_X11_told
  refine tr_eq (t_ck I T_v0 (by decide)) ?_
  exact t_X11_told_0 I F T_v0 hm
abbrev eX_X11_compare_2 (x : st_T) (h2 : hp_H) : hp_H := (fun y => h2) x
abbrev sX_X11_compare_2 (x : st_T) : st_T := (fun y => y) x
abbrev eR_X11_compare_2 (x : (Int32 × st_T) ⊕ (st_T)) (h2 : hp_H) : (Int32 × hp_H) ⊕ (hp_H) := Sum.elim (fun y => .inl (y.1, h2)) (fun y => .inr (eX_X11_compare_2 y h2)) x
abbrev sR_X11_compare_2 (x : (Int32 × st_T) ⊕ (st_T)) : st_T := Sum.elim (fun y => y.2) sX_X11_compare_2 x
abbrev eX_X11_compare_26 (x : st_T) (h2 : hp_H) : hp_H := (fun y => h2) x
abbrev sX_X11_compare_26 (x : st_T) : st_T := (fun y => y) x
abbrev eR_X11_compare_26 (x : (Int32 × st_T) ⊕ (st_T)) (h2 : hp_H) : (Int32 × hp_H) ⊕ (hp_H) := Sum.elim (fun y => .inl (y.1, h2)) (fun y => .inr (eX_X11_compare_26 y h2)) x
abbrev sR_X11_compare_26 (x : (Int32 × st_T) ⊕ (st_T)) : st_T := Sum.elim (fun y => y.2) sX_X11_compare_26 x
def g_X11_compare_81 (n : Nat) (v0 : Nat) (v1 : Int32) (v2 : Int32) (s0 : Int32) (s1 : Int32) (s2 : Nat) (s : st_T) : Option ((Int32 × st_T) ⊕ (st_T)) :=
  (uA 0 s s2 s1 s0).bind fun w1 =>
  some (.inl ((v2 + (1 : Int32)), w1))
set_option maxHeartbeats 1000000 in
theorem t_X11_compare_81 {tg r : Nat → Nat} {h hb : hp_H} {s sb : st_T} {n : Nat} {v0 : Nat} {v1 : Int32} {v2 : Int32} {s0 : Int32} {s1 : Int32} {s2 : Nat} (I : iso tg r h s) (F : isf tg r hb h sb s) (T_v0 : tg v0 = 21) (T_s2 : tg s2 = 0) {res : (Int32 × st_T) ⊕ (st_T)} (hm : g_X11_compare_81 n v0 v1 v2 s0 s1 s2 s = some res) : ∃ h2, f_X11_compare_81 n (r v0) v1 v2 s0 s1 (r s2) h = some (eR_X11_compare_26 res h2) ∧ iso tg r h2 (sR_X11_compare_26 res) ∧ isf tg r hb h2 sb (sR_X11_compare_26 res) := by
  unfold g_X11_compare_81 at hm
  unfold f_X11_compare_81
  obtain ⟨w1, hw1, hm⟩ := hp_bd hm
  obtain ⟨_, e2, I, F⟩ := t_sI I F T_s2 (by decide) rfl hw1
  refine tr_eq e2 ?_
  obtain rfl := Option.some.inj hm
  exact ⟨_, rfl, I, F⟩
def g_X11_compare_26 (n : Nat) (v0 : Nat) (v1 : Int32) (v2 : Int32) (s : st_T) : Option ((Int32 × st_T) ⊕ (st_T)) :=
  (gA s (gP s v0 66) v1).bind fun x2 =>
  if x2 ≤ v2 then
    some (.inr s)
  else
    (gA s (gP s v0 73) v1).bind fun x4 =>
    (gA s (gP s v0 65) v1).bind fun x8 =>
    (gA s (gP s v0 64) (x8 + v2)).bind fun x9 =>
    (gA s (gP s v0 73) x9).bind fun x10 =>
    if (x4 + x10) ≤ (1000 : Int32) then
      g_X11_compare_81 n v0 v1 v2 (x4 + x10) v1 (gP s v0 73) s
    else
      g_X11_compare_81 n v0 v1 v2 (1001 : Int32) v1 (gP s v0 73) s
set_option maxHeartbeats 1000000 in
theorem t_X11_compare_26 {tg r : Nat → Nat} {h hb : hp_H} {s sb : st_T} {n : Nat} {v0 : Nat} {v1 : Int32} {v2 : Int32} (I : iso tg r h s) (F : isf tg r hb h sb s) (T_v0 : tg v0 = 21) {res : (Int32 × st_T) ⊕ (st_T)} (hm : g_X11_compare_26 n v0 v1 v2 s = some res) : ∃ h2, f_X11_compare_26 n (r v0) v1 v2 h = some (eR_X11_compare_26 res h2) ∧ iso tg r h2 (sR_X11_compare_26 res) ∧ isf tg r hb h2 sb (sR_X11_compare_26 res) := by
  unfold g_X11_compare_26 at hm
  unfold f_X11_compare_26
  have T1 : tg (gP s v0 66) = 0 := t_tg (c := 11) I T_v0 (by decide) (by decide) rfl (by decide)
  refine tr_eq (t_fR I T_v0 (by decide) (by decide) (by decide)) ?_
  obtain ⟨x2, hx2, hm⟩ := hp_bd hm
  refine tr_eq (t_aI I T1 (by decide) rfl hx2) ?_
  by_cases c13 : x2 ≤ v2
  · rw [if_pos c13] at hm ⊢
    obtain rfl := Option.some.inj hm
    exact ⟨_, rfl, I, F⟩
  · rw [if_neg c13] at hm ⊢
    have T3 : tg (gP s v0 73) = 0 := t_tg (c := 11) I T_v0 (by decide) (by decide) rfl (by decide)
    refine tr_eq (t_fR I T_v0 (by decide) (by decide) (by decide)) ?_
    obtain ⟨x4, hx4, hm⟩ := hp_bd hm
    refine tr_eq (t_aI I T3 (by decide) rfl hx4) ?_
    have T5 : tg (gP s v0 73) = 0 := t_tg (c := 11) I T_v0 (by decide) (by decide) rfl (by decide)
    refine tr_eq (t_fR I T_v0 (by decide) (by decide) (by decide)) ?_
    have T6 : tg (gP s v0 64) = 0 := t_tg (c := 11) I T_v0 (by decide) (by decide) rfl (by decide)
    refine tr_eq (t_fR I T_v0 (by decide) (by decide) (by decide)) ?_
    have T7 : tg (gP s v0 65) = 0 := t_tg (c := 11) I T_v0 (by decide) (by decide) rfl (by decide)
    refine tr_eq (t_fR I T_v0 (by decide) (by decide) (by decide)) ?_
    obtain ⟨x8, hx8, hm⟩ := hp_bd hm
    refine tr_eq (t_aI I T7 (by decide) rfl hx8) ?_
    obtain ⟨x9, hx9, hm⟩ := hp_bd hm
    refine tr_eq (t_aI I T6 (by decide) rfl hx9) ?_
    obtain ⟨x10, hx10, hm⟩ := hp_bd hm
    refine tr_eq (t_aI I T5 (by decide) rfl hx10) ?_
    have T11 : tg (gP s v0 73) = 0 := t_tg (c := 11) I T_v0 (by decide) (by decide) rfl (by decide)
    refine tr_eq (t_fR I T_v0 (by decide) (by decide) (by decide)) ?_
    by_cases c12 : (x4 + x10) ≤ (1000 : Int32)
    · rw [if_pos c12] at hm ⊢
      exact t_X11_compare_81 I F T_v0 T11 hm
    · rw [if_neg c12] at hm ⊢
      exact t_X11_compare_81 I F T_v0 T11 hm
def gL_X11_compare_26 (n : Nat) (v0 : Nat) (v1 : Int32) (c : Int32 × st_T) : Option ((Int32 × st_T) ⊕ (st_T)) := g_X11_compare_26 n v0 v1 c.1 c.2
theorem tl_X11_compare_26 {tg r : Nat → Nat} {hb : hp_H} {sb : st_T} {n : Nat} {v0 : Nat} {v1 : Int32} (T_v0 : tg v0 = 21) : ∀ (k : Nat) (c0 : Int32) (h : hp_H) (s : st_T) (x : st_T), iso tg r h s → isf tg r hb h sb s → hp_lp (gL_X11_compare_26 n v0 v1) k (c0, s) = some x → ∃ h2, hp_lp (fL_X11_compare_26 n (r v0) v1) k (c0, h) = some (eX_X11_compare_26 x h2) ∧ iso tg r h2 (sX_X11_compare_26 x) ∧ isf tg r hb h2 sb (sX_X11_compare_26 x) := by
  intro k
  induction k with
  | zero => intro c0 h s x I F hx; exact (hp_lp_0 hx).elim
  | succ k ih =>
    intro c0 h s x I F hx
    obtain ⟨rr, hr, hc⟩ := hp_lp_1 hx
    obtain ⟨h2, e2, I2, F2⟩ := t_X11_compare_26 I F T_v0 hr
    rcases hc with ⟨s3, e3, hx3⟩ | e3
    · subst e3
      obtain ⟨h3, e4, I3, F3⟩ := ih _ h2 _ x I2 F2 hx3
      exact ⟨h3, hp_lp_s e2 e4, I3, F3⟩
    · subst e3
      exact ⟨h2, hp_lp_x e2, I2, F2⟩
abbrev eX_X11_compare_90 (x : st_T) (h2 : hp_H) : hp_H := (fun y => h2) x
abbrev sX_X11_compare_90 (x : st_T) : st_T := (fun y => y) x
abbrev eR_X11_compare_90 (x : (Int32 × st_T) ⊕ (st_T)) (h2 : hp_H) : (Int32 × hp_H) ⊕ (hp_H) := Sum.elim (fun y => .inl (y.1, h2)) (fun y => .inr (eX_X11_compare_90 y h2)) x
abbrev sR_X11_compare_90 (x : (Int32 × st_T) ⊕ (st_T)) : st_T := Sum.elim (fun y => y.2) sX_X11_compare_90 x
def g_X11_compare_212 (n : Nat) (v0 : Nat) (v1 : Int32) (v2 : Int32) (v4 : Int32) (s0 : Int32) (s : st_T) : Option ((Int32 × Int32) ⊕ (Int32)) :=
  some (.inl (s0, (v4 + (1 : Int32))))
set_option maxHeartbeats 1000000 in
theorem t_X11_compare_212 {tg r : Nat → Nat} {h : hp_H} {s : st_T} {n : Nat} {v0 : Nat} {v1 : Int32} {v2 : Int32} {v4 : Int32} {s0 : Int32} (I : iso tg r h s) (T_v0 : tg v0 = 21) {res : (Int32 × Int32) ⊕ (Int32)} (hm : g_X11_compare_212 n v0 v1 v2 v4 s0 s = some res) : f_X11_compare_212 n (r v0) v1 v2 v4 s0 h = some res := by
  unfold g_X11_compare_212 at hm
  unfold f_X11_compare_212
  obtain rfl := Option.some.inj hm
  rfl
def g_X11_compare_151 (n : Nat) (v0 : Nat) (v1 : Int32) (v2 : Int32) (v3 : Int32) (v4 : Int32) (s : st_T) : Option ((Int32 × Int32) ⊕ (Int32)) :=
  (gA s (gP s v0 66) v1).bind fun x2 =>
  if x2 ≤ v4 then
    some (.inr v3)
  else
    if v3 = 0 then
      some (.inr v3)
    else
      (gA s (gP s v0 65) v2).bind fun x6 =>
      (gA s (gP s v0 64) (x6 + v4)).bind fun x7 =>
      (gA s (gP s v0 72) x7).bind fun x8 =>
      (gA s (gP s v0 65) v1).bind fun x12 =>
      (gA s (gP s v0 64) (x12 + v4)).bind fun x13 =>
      (gA s (gP s v0 72) x13).bind fun x14 =>
      if x8 = x14 then
        g_X11_compare_212 n v0 v1 v2 v4 (1 : Int32) s
      else
        g_X11_compare_212 n v0 v1 v2 v4 (0 : Int32) s
set_option maxHeartbeats 1000000 in
theorem t_X11_compare_151 {tg r : Nat → Nat} {h : hp_H} {s : st_T} {n : Nat} {v0 : Nat} {v1 : Int32} {v2 : Int32} {v3 : Int32} {v4 : Int32} (I : iso tg r h s) (T_v0 : tg v0 = 21) {res : (Int32 × Int32) ⊕ (Int32)} (hm : g_X11_compare_151 n v0 v1 v2 v3 v4 s = some res) : f_X11_compare_151 n (r v0) v1 v2 v3 v4 h = some res := by
  unfold g_X11_compare_151 at hm
  unfold f_X11_compare_151
  have T1 : tg (gP s v0 66) = 0 := t_tg (c := 11) I T_v0 (by decide) (by decide) rfl (by decide)
  refine tr_eq0 (t_fR I T_v0 (by decide) (by decide) (by decide)) ?_
  obtain ⟨x2, hx2, hm⟩ := hp_bd hm
  refine tr_eq0 (t_aI I T1 (by decide) rfl hx2) ?_
  by_cases c17 : x2 ≤ v4
  · rw [if_pos c17] at hm ⊢
    obtain rfl := Option.some.inj hm
    rfl
  · rw [if_neg c17] at hm ⊢
    by_cases c16 : v3 = 0
    · rw [if_pos c16] at hm ⊢
      obtain rfl := Option.some.inj hm
      rfl
    · rw [if_neg c16] at hm ⊢
      have T3 : tg (gP s v0 72) = 0 := t_tg (c := 11) I T_v0 (by decide) (by decide) rfl (by decide)
      refine tr_eq0 (t_fR I T_v0 (by decide) (by decide) (by decide)) ?_
      have T4 : tg (gP s v0 64) = 0 := t_tg (c := 11) I T_v0 (by decide) (by decide) rfl (by decide)
      refine tr_eq0 (t_fR I T_v0 (by decide) (by decide) (by decide)) ?_
      have T5 : tg (gP s v0 65) = 0 := t_tg (c := 11) I T_v0 (by decide) (by decide) rfl (by decide)
      refine tr_eq0 (t_fR I T_v0 (by decide) (by decide) (by decide)) ?_
      obtain ⟨x6, hx6, hm⟩ := hp_bd hm
      refine tr_eq0 (t_aI I T5 (by decide) rfl hx6) ?_
      obtain ⟨x7, hx7, hm⟩ := hp_bd hm
      refine tr_eq0 (t_aI I T4 (by decide) rfl hx7) ?_
      obtain ⟨x8, hx8, hm⟩ := hp_bd hm
      refine tr_eq0 (t_aI I T3 (by decide) rfl hx8) ?_
      have T9 : tg (gP s v0 72) = 0 := t_tg (c := 11) I T_v0 (by decide) (by decide) rfl (by decide)
      refine tr_eq0 (t_fR I T_v0 (by decide) (by decide) (by decide)) ?_
      have T10 : tg (gP s v0 64) = 0 := t_tg (c := 11) I T_v0 (by decide) (by decide) rfl (by decide)
      refine tr_eq0 (t_fR I T_v0 (by decide) (by decide) (by decide)) ?_
      have T11 : tg (gP s v0 65) = 0 := t_tg (c := 11) I T_v0 (by decide) (by decide) rfl (by decide)
      refine tr_eq0 (t_fR I T_v0 (by decide) (by decide) (by decide)) ?_
      obtain ⟨x12, hx12, hm⟩ := hp_bd hm
      refine tr_eq0 (t_aI I T11 (by decide) rfl hx12) ?_
      obtain ⟨x13, hx13, hm⟩ := hp_bd hm
      refine tr_eq0 (t_aI I T10 (by decide) rfl hx13) ?_
      obtain ⟨x14, hx14, hm⟩ := hp_bd hm
      refine tr_eq0 (t_aI I T9 (by decide) rfl hx14) ?_
      by_cases c15 : x8 = x14
      · rw [if_pos c15] at hm ⊢
        exact t_X11_compare_212 I T_v0 hm
      · rw [if_neg c15] at hm ⊢
        exact t_X11_compare_212 I T_v0 hm
def gL_X11_compare_151 (n : Nat) (v0 : Nat) (v1 : Int32) (v2 : Int32) (s : st_T) (c : Int32 × Int32) : Option ((Int32 × Int32) ⊕ (Int32)) := g_X11_compare_151 n v0 v1 v2 c.1 c.2 s
theorem tl_X11_compare_151 {tg r : Nat → Nat} {h : hp_H} {s : st_T} {n : Nat} {v0 : Nat} {v1 : Int32} {v2 : Int32} (I : iso tg r h s) (T_v0 : tg v0 = 21) : ∀ (k : Nat) (c : Int32 × Int32) (x : Int32), hp_lp (gL_X11_compare_151 n v0 v1 v2 s) k c = some x → hp_lp (fL_X11_compare_151 n (r v0) v1 v2 h) k c = some x := by
  intro k
  induction k with
  | zero => intro c x hx; exact (hp_lp_0 hx).elim
  | succ k ih =>
    intro c x hx
    obtain ⟨rr, hr, hc⟩ := hp_lp_1 hx
    have e2 := t_X11_compare_151 I T_v0 hr
    rcases hc with ⟨s3, e3, hx3⟩ | e3
    · subst e3
      exact hp_lp_s e2 (ih _ _ hx3)
    · subst e3
      exact hp_lp_x e2
def g_X11_compare_238 (n : Nat) (v0 : Nat) (v1 : Int32) (v2 : Int32) (s0 : Int32) (s1 : Int32) (s2 : Nat) (s : st_T) : Option ((Int32 × st_T) ⊕ (st_T)) :=
  (uA 0 s s2 s1 s0).bind fun w1 =>
  some (.inl ((v2 + (1 : Int32)), w1))
set_option maxHeartbeats 1000000 in
theorem t_X11_compare_238 {tg r : Nat → Nat} {h hb : hp_H} {s sb : st_T} {n : Nat} {v0 : Nat} {v1 : Int32} {v2 : Int32} {s0 : Int32} {s1 : Int32} {s2 : Nat} (I : iso tg r h s) (F : isf tg r hb h sb s) (T_v0 : tg v0 = 21) (T_s2 : tg s2 = 0) {res : (Int32 × st_T) ⊕ (st_T)} (hm : g_X11_compare_238 n v0 v1 v2 s0 s1 s2 s = some res) : ∃ h2, f_X11_compare_238 n (r v0) v1 v2 s0 s1 (r s2) h = some (eR_X11_compare_90 res h2) ∧ iso tg r h2 (sR_X11_compare_90 res) ∧ isf tg r hb h2 sb (sR_X11_compare_90 res) := by
  unfold g_X11_compare_238 at hm
  unfold f_X11_compare_238
  obtain ⟨w1, hw1, hm⟩ := hp_bd hm
  obtain ⟨_, e2, I, F⟩ := t_sI I F T_s2 (by decide) rfl hw1
  refine tr_eq e2 ?_
  obtain rfl := Option.some.inj hm
  exact ⟨_, rfl, I, F⟩
def g_X11_compare_219 (n : Nat) (v0 : Nat) (v1 : Int32) (v2 : Int32) (v3 : Int32) (s : st_T) : Option ((Int32 × st_T) ⊕ (st_T)) :=
  if v3 = 0 then
    (gA s (gP s v0 72) v1).bind fun x3 =>
    g_X11_compare_238 n v0 v1 v2 x3 v1 (gP s v0 72) s
  else
    g_X11_compare_238 n v0 v1 v2 v2 v1 (gP s v0 72) s
set_option maxHeartbeats 1000000 in
theorem t_X11_compare_219 {tg r : Nat → Nat} {h hb : hp_H} {s sb : st_T} {n : Nat} {v0 : Nat} {v1 : Int32} {v2 : Int32} {v3 : Int32} (I : iso tg r h s) (F : isf tg r hb h sb s) (T_v0 : tg v0 = 21) {res : (Int32 × st_T) ⊕ (st_T)} (hm : g_X11_compare_219 n v0 v1 v2 v3 s = some res) : ∃ h2, f_X11_compare_219 n (r v0) v1 v2 v3 h = some (eR_X11_compare_90 res h2) ∧ iso tg r h2 (sR_X11_compare_90 res) ∧ isf tg r hb h2 sb (sR_X11_compare_90 res) := by
  unfold g_X11_compare_219 at hm
  unfold f_X11_compare_219
  have T1 : tg (gP s v0 72) = 0 := t_tg (c := 11) I T_v0 (by decide) (by decide) rfl (by decide)
  refine tr_eq (t_fR I T_v0 (by decide) (by decide) (by decide)) ?_
  by_cases c4 : v3 = 0
  · rw [if_pos c4] at hm ⊢
    have T2 : tg (gP s v0 72) = 0 := t_tg (c := 11) I T_v0 (by decide) (by decide) rfl (by decide)
    refine tr_eq (t_fR I T_v0 (by decide) (by decide) (by decide)) ?_
    obtain ⟨x3, hx3, hm⟩ := hp_bd hm
    refine tr_eq (t_aI I T2 (by decide) rfl hx3) ?_
    exact t_X11_compare_238 I F T_v0 T2 hm
  · rw [if_neg c4] at hm ⊢
    exact t_X11_compare_238 I F T_v0 T1 hm
def g_X11_compare_147 (n : Nat) (v0 : Nat) (v1 : Int32) (v2 : Int32) (s0 : Int32) (s : st_T) : Option ((Int32 × st_T) ⊕ (st_T)) :=
  (hp_lp (gL_X11_compare_151 n v0 v1 v2 s) n (s0, (0 : Int32))).bind fun x1 =>
  g_X11_compare_219 n v0 v1 v2 x1 s
set_option maxHeartbeats 1000000 in
theorem t_X11_compare_147 {tg r : Nat → Nat} {h hb : hp_H} {s sb : st_T} {n : Nat} {v0 : Nat} {v1 : Int32} {v2 : Int32} {s0 : Int32} (I : iso tg r h s) (F : isf tg r hb h sb s) (T_v0 : tg v0 = 21) {res : (Int32 × st_T) ⊕ (st_T)} (hm : g_X11_compare_147 n v0 v1 v2 s0 s = some res) : ∃ h2, f_X11_compare_147 n (r v0) v1 v2 s0 h = some (eR_X11_compare_90 res h2) ∧ iso tg r h2 (sR_X11_compare_90 res) ∧ isf tg r hb h2 sb (sR_X11_compare_90 res) := by
  unfold g_X11_compare_147 at hm
  unfold f_X11_compare_147
  obtain ⟨x1, hx1, hm⟩ := hp_bd hm
  refine tr_eq (tl_X11_compare_151 I T_v0 n _ _ hx1) ?_
  exact t_X11_compare_219 I F T_v0 hm
def g_X11_compare_146 (n : Nat) (v0 : Nat) (v1 : Int32) (v2 : Int32) (s : st_T) : Option ((Int32 × st_T) ⊕ (st_T)) :=
  g_X11_compare_147 n v0 v1 v2 (0 : Int32) s
set_option maxHeartbeats 1000000 in
theorem t_X11_compare_146 {tg r : Nat → Nat} {h hb : hp_H} {s sb : st_T} {n : Nat} {v0 : Nat} {v1 : Int32} {v2 : Int32} (I : iso tg r h s) (F : isf tg r hb h sb s) (T_v0 : tg v0 = 21) {res : (Int32 × st_T) ⊕ (st_T)} (hm : g_X11_compare_146 n v0 v1 v2 s = some res) : ∃ h2, f_X11_compare_146 n (r v0) v1 v2 h = some (eR_X11_compare_90 res h2) ∧ iso tg r h2 (sR_X11_compare_90 res) ∧ isf tg r hb h2 sb (sR_X11_compare_90 res) := by
  unfold g_X11_compare_146 at hm
  unfold f_X11_compare_146
  exact t_X11_compare_147 I F T_v0 hm
def g_X11_compare_90 (n : Nat) (v0 : Nat) (v1 : Int32) (v2 : Int32) (s : st_T) : Option ((Int32 × st_T) ⊕ (st_T)) :=
  if v1 ≤ v2 then
    some (.inr s)
  else
    (gA s (gP s v0 72) v1).bind fun x2 =>
    if x2 = v1 then
      (gA s (gP s v0 49) v2).bind fun x4 =>
      if (1000 : Int32) ≤ x4 then
        g_X11_compare_146 n v0 v1 v2 s
      else
        (gA s (gP s v0 72) v2).bind fun x6 =>
        if x6 = v2 then
          (gA s (gP s v0 49) v2).bind fun x8 =>
          (gA s (gP s v0 49) v1).bind fun x10 =>
          if x8 = x10 then
            g_X11_compare_147 n v0 v1 v2 (1 : Int32) s
          else
            g_X11_compare_146 n v0 v1 v2 s
        else
          g_X11_compare_146 n v0 v1 v2 s
    else
      some (.inr s)
set_option maxHeartbeats 1000000 in
theorem t_X11_compare_90 {tg r : Nat → Nat} {h hb : hp_H} {s sb : st_T} {n : Nat} {v0 : Nat} {v1 : Int32} {v2 : Int32} (I : iso tg r h s) (F : isf tg r hb h sb s) (T_v0 : tg v0 = 21) {res : (Int32 × st_T) ⊕ (st_T)} (hm : g_X11_compare_90 n v0 v1 v2 s = some res) : ∃ h2, f_X11_compare_90 n (r v0) v1 v2 h = some (eR_X11_compare_90 res h2) ∧ iso tg r h2 (sR_X11_compare_90 res) ∧ isf tg r hb h2 sb (sR_X11_compare_90 res) := by
  unfold g_X11_compare_90 at hm
  unfold f_X11_compare_90
  by_cases c15 : v1 ≤ v2
  · rw [if_pos c15] at hm ⊢
    obtain rfl := Option.some.inj hm
    exact ⟨_, rfl, I, F⟩
  · rw [if_neg c15] at hm ⊢
    have T1 : tg (gP s v0 72) = 0 := t_tg (c := 11) I T_v0 (by decide) (by decide) rfl (by decide)
    refine tr_eq (t_fR I T_v0 (by decide) (by decide) (by decide)) ?_
    obtain ⟨x2, hx2, hm⟩ := hp_bd hm
    refine tr_eq (t_aI I T1 (by decide) rfl hx2) ?_
    by_cases c14 : x2 = v1
    · rw [if_pos c14] at hm ⊢
      have T3 : tg (gP s v0 49) = 0 := t_tg (c := 11) I T_v0 (by decide) (by decide) rfl (by decide)
      refine tr_eq (t_fR I T_v0 (by decide) (by decide) (by decide)) ?_
      obtain ⟨x4, hx4, hm⟩ := hp_bd hm
      refine tr_eq (t_aI I T3 (by decide) rfl hx4) ?_
      by_cases c13 : (1000 : Int32) ≤ x4
      · rw [if_pos c13] at hm ⊢
        exact t_X11_compare_146 I F T_v0 hm
      · rw [if_neg c13] at hm ⊢
        have T5 : tg (gP s v0 72) = 0 := t_tg (c := 11) I T_v0 (by decide) (by decide) rfl (by decide)
        refine tr_eq (t_fR I T_v0 (by decide) (by decide) (by decide)) ?_
        obtain ⟨x6, hx6, hm⟩ := hp_bd hm
        refine tr_eq (t_aI I T5 (by decide) rfl hx6) ?_
        by_cases c12 : x6 = v2
        · rw [if_pos c12] at hm ⊢
          have T7 : tg (gP s v0 49) = 0 := t_tg (c := 11) I T_v0 (by decide) (by decide) rfl (by decide)
          refine tr_eq (t_fR I T_v0 (by decide) (by decide) (by decide)) ?_
          obtain ⟨x8, hx8, hm⟩ := hp_bd hm
          refine tr_eq (t_aI I T7 (by decide) rfl hx8) ?_
          have T9 : tg (gP s v0 49) = 0 := t_tg (c := 11) I T_v0 (by decide) (by decide) rfl (by decide)
          refine tr_eq (t_fR I T_v0 (by decide) (by decide) (by decide)) ?_
          obtain ⟨x10, hx10, hm⟩ := hp_bd hm
          refine tr_eq (t_aI I T9 (by decide) rfl hx10) ?_
          by_cases c11 : x8 = x10
          · rw [if_pos c11] at hm ⊢
            exact t_X11_compare_147 I F T_v0 hm
          · rw [if_neg c11] at hm ⊢
            exact t_X11_compare_146 I F T_v0 hm
        · rw [if_neg c12] at hm ⊢
          exact t_X11_compare_146 I F T_v0 hm
    · rw [if_neg c14] at hm ⊢
      obtain rfl := Option.some.inj hm
      exact ⟨_, rfl, I, F⟩
def gL_X11_compare_90 (n : Nat) (v0 : Nat) (v1 : Int32) (c : Int32 × st_T) : Option ((Int32 × st_T) ⊕ (st_T)) := g_X11_compare_90 n v0 v1 c.1 c.2
theorem tl_X11_compare_90 {tg r : Nat → Nat} {hb : hp_H} {sb : st_T} {n : Nat} {v0 : Nat} {v1 : Int32} (T_v0 : tg v0 = 21) : ∀ (k : Nat) (c0 : Int32) (h : hp_H) (s : st_T) (x : st_T), iso tg r h s → isf tg r hb h sb s → hp_lp (gL_X11_compare_90 n v0 v1) k (c0, s) = some x → ∃ h2, hp_lp (fL_X11_compare_90 n (r v0) v1) k (c0, h) = some (eX_X11_compare_90 x h2) ∧ iso tg r h2 (sX_X11_compare_90 x) ∧ isf tg r hb h2 sb (sX_X11_compare_90 x) := by
  intro k
  induction k with
  | zero => intro c0 h s x I F hx; exact (hp_lp_0 hx).elim
  | succ k ih =>
    intro c0 h s x I F hx
    obtain ⟨rr, hr, hc⟩ := hp_lp_1 hx
    obtain ⟨h2, e2, I2, F2⟩ := t_X11_compare_90 I F T_v0 hr
    rcases hc with ⟨s3, e3, hx3⟩ | e3
    · subst e3
      obtain ⟨h3, e4, I3, F3⟩ := ih _ h2 _ x I2 F2 hx3
      exact ⟨h3, hp_lp_s e2 e4, I3, F3⟩
    · subst e3
      exact ⟨h2, hp_lp_x e2, I2, F2⟩
def g_X11_compare_245 (n : Nat) (v0 : Nat) (v1 : Int32) (s : st_T) : Option ((Int32 × st_T) ⊕ (st_T)) :=
  some (.inl ((v1 + (1 : Int32)), s))
set_option maxHeartbeats 1000000 in
theorem t_X11_compare_245 {tg r : Nat → Nat} {h hb : hp_H} {s sb : st_T} {n : Nat} {v0 : Nat} {v1 : Int32} (I : iso tg r h s) (F : isf tg r hb h sb s) (T_v0 : tg v0 = 21) {res : (Int32 × st_T) ⊕ (st_T)} (hm : g_X11_compare_245 n v0 v1 s = some res) : ∃ h2, f_X11_compare_245 n (r v0) v1 h = some (eR_X11_compare_2 res h2) ∧ iso tg r h2 (sR_X11_compare_2 res) ∧ isf tg r hb h2 sb (sR_X11_compare_2 res) := by
  unfold g_X11_compare_245 at hm
  unfold f_X11_compare_245
  obtain rfl := Option.some.inj hm
  exact ⟨_, rfl, I, F⟩
def g_X11_compare_2 (n : Nat) (v0 : Nat) (v1 : Int32) (s : st_T) : Option ((Int32 × st_T) ⊕ (st_T)) :=
  if (gF s v0 50) ≤ v1 then
    some (.inr s)
  else
    (uA 0 s (gP s v0 72) v1 v1).bind fun w2 =>
    (uA 0 w2 (gP w2 v0 73) v1 (1 : Int32)).bind fun w4 =>
    (hp_lp (gL_X11_compare_26 n v0 v1) n ((0 : Int32), w4)).bind fun x5 =>
    (hp_lp (gL_X11_compare_90 n v0 v1) n ((0 : Int32), x5)).bind fun x7 =>
    g_X11_compare_245 n v0 v1 x7
set_option maxHeartbeats 1000000 in
theorem t_X11_compare_2 {tg r : Nat → Nat} {h hb : hp_H} {s sb : st_T} {n : Nat} {v0 : Nat} {v1 : Int32} (I : iso tg r h s) (F : isf tg r hb h sb s) (T_v0 : tg v0 = 21) {res : (Int32 × st_T) ⊕ (st_T)} (hm : g_X11_compare_2 n v0 v1 s = some res) : ∃ h2, f_X11_compare_2 n (r v0) v1 h = some (eR_X11_compare_2 res h2) ∧ iso tg r h2 (sR_X11_compare_2 res) ∧ isf tg r hb h2 sb (sR_X11_compare_2 res) := by
  unfold g_X11_compare_2 at hm
  unfold f_X11_compare_2
  refine tr_eq (t_fI I T_v0 (by decide) (by decide) rfl) ?_
  by_cases c9 : (gF s v0 50) ≤ v1
  · rw [if_pos c9] at hm ⊢
    obtain rfl := Option.some.inj hm
    exact ⟨_, rfl, I, F⟩
  · rw [if_neg c9] at hm ⊢
    have T1 : tg (gP s v0 72) = 0 := t_tg (c := 11) I T_v0 (by decide) (by decide) rfl (by decide)
    refine tr_eq (t_fR I T_v0 (by decide) (by decide) (by decide)) ?_
    obtain ⟨w2, hw2, hm⟩ := hp_bd hm
    obtain ⟨_, e2, I, F⟩ := t_sI I F T1 (by decide) rfl hw2
    refine tr_eq e2 ?_
    have T3 : tg (gP w2 v0 73) = 0 := t_tg (c := 11) I T_v0 (by decide) (by decide) rfl (by decide)
    refine tr_eq (t_fR I T_v0 (by decide) (by decide) (by decide)) ?_
    obtain ⟨w4, hw4, hm⟩ := hp_bd hm
    obtain ⟨_, e2, I, F⟩ := t_sI I F T3 (by decide) rfl hw4
    refine tr_eq e2 ?_
    obtain ⟨x5, hx5, hm⟩ := hp_bd hm
    obtain ⟨_, e2, I, F⟩ := tl_X11_compare_26 T_v0 n _ _ _ _ I F hx5
    refine tr_eq e2 ?_
    try dsimp only [eX_X11_compare_26]
    replace I : iso tg _ _ x5 := I
    replace F : isf tg _ _ _ _ x5 := F
    obtain ⟨x7, hx7, hm⟩ := hp_bd hm
    obtain ⟨_, e2, I, F⟩ := tl_X11_compare_90 T_v0 n _ _ _ _ I F hx7
    refine tr_eq e2 ?_
    try dsimp only [eX_X11_compare_90]
    replace I : iso tg _ _ x7 := I
    replace F : isf tg _ _ _ _ x7 := F
    exact t_X11_compare_245 I F T_v0 hm
def gL_X11_compare_2 (n : Nat) (v0 : Nat) (c : Int32 × st_T) : Option ((Int32 × st_T) ⊕ (st_T)) := g_X11_compare_2 n v0 c.1 c.2
theorem tl_X11_compare_2 {tg r : Nat → Nat} {hb : hp_H} {sb : st_T} {n : Nat} {v0 : Nat} (T_v0 : tg v0 = 21) : ∀ (k : Nat) (c0 : Int32) (h : hp_H) (s : st_T) (x : st_T), iso tg r h s → isf tg r hb h sb s → hp_lp (gL_X11_compare_2 n v0) k (c0, s) = some x → ∃ h2, hp_lp (fL_X11_compare_2 n (r v0)) k (c0, h) = some (eX_X11_compare_2 x h2) ∧ iso tg r h2 (sX_X11_compare_2 x) ∧ isf tg r hb h2 sb (sX_X11_compare_2 x) := by
  intro k
  induction k with
  | zero => intro c0 h s x I F hx; exact (hp_lp_0 hx).elim
  | succ k ih =>
    intro c0 h s x I F hx
    obtain ⟨rr, hr, hc⟩ := hp_lp_1 hx
    obtain ⟨h2, e2, I2, F2⟩ := t_X11_compare_2 I F T_v0 hr
    rcases hc with ⟨s3, e3, hx3⟩ | e3
    · subst e3
      obtain ⟨h3, e4, I3, F3⟩ := ih _ h2 _ x I2 F2 hx3
      exact ⟨h3, hp_lp_s e2 e4, I3, F3⟩
    · subst e3
      exact ⟨h2, hp_lp_x e2, I2, F2⟩
def g_X11_compare_0 (n : Nat) (v0 : Nat) (s : st_T) : Option (st_T) :=
  (hp_lp (gL_X11_compare_2 n v0) n ((0 : Int32), s)).bind fun x1 =>
  some x1
set_option maxHeartbeats 1000000 in
theorem t_X11_compare_0 {tg r : Nat → Nat} {h hb : hp_H} {s sb : st_T} {n : Nat} {v0 : Nat} (I : iso tg r h s) (F : isf tg r hb h sb s) (T_v0 : tg v0 = 21) {res : st_T} (hm : g_X11_compare_0 n v0 s = some res) : ∃ h2, f_X11_compare_0 n (r v0) h = some (h2) ∧ iso tg r h2 res ∧ isf tg r hb h2 sb res := by
  unfold g_X11_compare_0 at hm
  unfold f_X11_compare_0
  obtain ⟨x1, hx1, hm⟩ := hp_bd hm
  obtain ⟨_, e2, I, F⟩ := tl_X11_compare_2 T_v0 n _ _ _ _ I F hx1
  refine tr_eq e2 ?_
  try dsimp only [eX_X11_compare_2]
  replace I : iso tg _ _ x1 := I
  replace F : isf tg _ _ _ _ x1 := F
  obtain rfl := Option.some.inj hm
  exact ⟨_, rfl, I, F⟩
def g_X11_compare (n : Nat) (v0 : Nat) (s : st_T) : Option (st_T) := g_X11_compare_0 n v0 s
theorem t_X11_compare {tg r : Nat → Nat} {h hb : hp_H} {s sb : st_T} {n : Nat} {v0 : Nat} (I : iso tg r h s) (F : isf tg r hb h sb s) (T_v0 : tg v0 = 21) {res : st_T} (hm : g_X11_compare n v0 s = some res) : ∃ h2, f_X11_compare n (r v0) h = some (h2) ∧ iso tg r h2 res ∧ isf tg r hb h2 sb res := by
  unfold g_X11_compare at hm
  unfold f_X11_compare
  refine tr_eq (t_ck I T_v0 (by decide)) ?_
  exact t_X11_compare_0 I F T_v0 hm
abbrev eX_X11_writeOut_36 (x : st_T) (h2 : hp_H) : hp_H := (fun y => h2) x
abbrev sX_X11_writeOut_36 (x : st_T) : st_T := (fun y => y) x
abbrev eR_X11_writeOut_36 (x : (Int32 × st_T) ⊕ (st_T)) (h2 : hp_H) : (Int32 × hp_H) ⊕ (hp_H) := Sum.elim (fun y => .inl (y.1, h2)) (fun y => .inr (eX_X11_writeOut_36 y h2)) x
abbrev sR_X11_writeOut_36 (x : (Int32 × st_T) ⊕ (st_T)) : st_T := Sum.elim (fun y => y.2) sX_X11_writeOut_36 x
def g_X11_writeOut_141 (n : Nat) (v0 : Nat) (v2 : Int32) (s : st_T) : Option ((Int32 × st_T) ⊕ (st_T)) :=
  some (.inl (v2, s))
set_option maxHeartbeats 1000000 in
theorem t_X11_writeOut_141 {tg r : Nat → Nat} {h hb : hp_H} {s sb : st_T} {n : Nat} {v0 : Nat} {v2 : Int32} (I : iso tg r h s) (F : isf tg r hb h sb s) (T_v0 : tg v0 = 21) {res : (Int32 × st_T) ⊕ (st_T)} (hm : g_X11_writeOut_141 n v0 v2 s = some res) : ∃ h2, f_X11_writeOut_141 n (r v0) v2 h = some (eR_X11_writeOut_36 res h2) ∧ iso tg r h2 (sR_X11_writeOut_36 res) ∧ isf tg r hb h2 sb (sR_X11_writeOut_36 res) := by
  unfold g_X11_writeOut_141 at hm
  unfold f_X11_writeOut_141
  obtain rfl := Option.some.inj hm
  exact ⟨_, rfl, I, F⟩
def g_X11_writeOut_128 (n : Nat) (v0 : Nat) (v2 : Int32) (v3 : Int32) (s : st_T) : Option ((Int32 × st_T) ⊕ (st_T)) :=
  (gA s (gP s v0 49) v3).bind fun x2 =>
  (g_X11_sayLabel n v0 x2 s).bind fun x3 =>
  g_X11_writeOut_141 n v0 (v2 + (-1 : Int32)) x3
set_option maxHeartbeats 1000000 in
theorem t_X11_writeOut_128 {tg r : Nat → Nat} {h hb : hp_H} {s sb : st_T} {n : Nat} {v0 : Nat} {v2 : Int32} {v3 : Int32} (I : iso tg r h s) (F : isf tg r hb h sb s) (T_v0 : tg v0 = 21) {res : (Int32 × st_T) ⊕ (st_T)} (hm : g_X11_writeOut_128 n v0 v2 v3 s = some res) : ∃ h2, f_X11_writeOut_128 n (r v0) v2 v3 h = some (eR_X11_writeOut_36 res h2) ∧ iso tg r h2 (sR_X11_writeOut_36 res) ∧ isf tg r hb h2 sb (sR_X11_writeOut_36 res) := by
  unfold g_X11_writeOut_128 at hm
  unfold f_X11_writeOut_128
  have T1 : tg (gP s v0 49) = 0 := t_tg (c := 11) I T_v0 (by decide) (by decide) rfl (by decide)
  refine tr_eq (t_fR I T_v0 (by decide) (by decide) (by decide)) ?_
  obtain ⟨x2, hx2, hm⟩ := hp_bd hm
  refine tr_eq (t_aI I T1 (by decide) rfl hx2) ?_
  obtain ⟨x3, hx3, hm⟩ := hp_bd hm
  obtain ⟨_, e2, I, F⟩ := t_X11_sayLabel I F T_v0 hx3
  refine tr_eq e2 ?_
  exact t_X11_writeOut_141 I F T_v0 hm
def g_X11_writeOut_36 (n : Nat) (v0 : Nat) (v2 : Int32) (s : st_T) : Option ((Int32 × st_T) ⊕ (st_T)) :=
  if v2 ≤ 0 then
    some (.inr s)
  else
    (gA s (gP s v0 74) (v2 - (1 : Int32))).bind fun x2 =>
    (gA s (gP s v0 75) (v2 - (1 : Int32))).bind fun x4 =>
    (gA s (gP s v0 66) x2).bind fun x6 =>
    if x6 ≤ x4 then
      if (gF s v0 82) ≤ 0 then
        g_X11_writeOut_128 n v0 v2 x2 s
      else
        (g_X11_say n v0 (32 : Int32) s).bind fun x7 =>
        g_X11_writeOut_128 n v0 v2 x2 x7
    else
      (gA s (gP s v0 75) (v2 - (1 : Int32))).bind fun x10 =>
      (uA 0 s (gP s v0 75) (v2 - (1 : Int32)) (x10 + (1 : Int32))).bind fun w11 =>
      (gA w11 (gP w11 v0 65) x2).bind fun x15 =>
      (gA w11 (gP w11 v0 64) (x15 + x4)).bind fun x16 =>
      (uA 0 w11 (gP w11 v0 74) v2 x16).bind fun w17 =>
      (uA 0 w17 (gP w17 v0 75) v2 (0 : Int32)).bind fun w19 =>
      g_X11_writeOut_141 n v0 (v2 + (1 : Int32)) w19
set_option maxHeartbeats 1000000 in
theorem t_X11_writeOut_36 {tg r : Nat → Nat} {h hb : hp_H} {s sb : st_T} {n : Nat} {v0 : Nat} {v2 : Int32} (I : iso tg r h s) (F : isf tg r hb h sb s) (T_v0 : tg v0 = 21) {res : (Int32 × st_T) ⊕ (st_T)} (hm : g_X11_writeOut_36 n v0 v2 s = some res) : ∃ h2, f_X11_writeOut_36 n (r v0) v2 h = some (eR_X11_writeOut_36 res h2) ∧ iso tg r h2 (sR_X11_writeOut_36 res) ∧ isf tg r hb h2 sb (sR_X11_writeOut_36 res) := by
  unfold g_X11_writeOut_36 at hm
  unfold f_X11_writeOut_36
  by_cases c21 : v2 ≤ 0
  · rw [if_pos c21] at hm ⊢
    obtain rfl := Option.some.inj hm
    exact ⟨_, rfl, I, F⟩
  · rw [if_neg c21] at hm ⊢
    have T1 : tg (gP s v0 74) = 0 := t_tg (c := 11) I T_v0 (by decide) (by decide) rfl (by decide)
    refine tr_eq (t_fR I T_v0 (by decide) (by decide) (by decide)) ?_
    obtain ⟨x2, hx2, hm⟩ := hp_bd hm
    refine tr_eq (t_aI I T1 (by decide) rfl hx2) ?_
    have T3 : tg (gP s v0 75) = 0 := t_tg (c := 11) I T_v0 (by decide) (by decide) rfl (by decide)
    refine tr_eq (t_fR I T_v0 (by decide) (by decide) (by decide)) ?_
    obtain ⟨x4, hx4, hm⟩ := hp_bd hm
    refine tr_eq (t_aI I T3 (by decide) rfl hx4) ?_
    have T5 : tg (gP s v0 66) = 0 := t_tg (c := 11) I T_v0 (by decide) (by decide) rfl (by decide)
    refine tr_eq (t_fR I T_v0 (by decide) (by decide) (by decide)) ?_
    obtain ⟨x6, hx6, hm⟩ := hp_bd hm
    refine tr_eq (t_aI I T5 (by decide) rfl hx6) ?_
    by_cases c20 : x6 ≤ x4
    · rw [if_pos c20] at hm ⊢
      refine tr_eq (t_fI I T_v0 (by decide) (by decide) rfl) ?_
      by_cases c8 : (gF s v0 82) ≤ 0
      · rw [if_pos c8] at hm ⊢
        exact t_X11_writeOut_128 I F T_v0 hm
      · rw [if_neg c8] at hm ⊢
        obtain ⟨x7, hx7, hm⟩ := hp_bd hm
        obtain ⟨_, e2, I, F⟩ := t_X11_say I F T_v0 hx7
        refine tr_eq e2 ?_
        exact t_X11_writeOut_128 I F T_v0 hm
    · rw [if_neg c20] at hm ⊢
      have T9 : tg (gP s v0 75) = 0 := t_tg (c := 11) I T_v0 (by decide) (by decide) rfl (by decide)
      refine tr_eq (t_fR I T_v0 (by decide) (by decide) (by decide)) ?_
      obtain ⟨x10, hx10, hm⟩ := hp_bd hm
      refine tr_eq (t_aI I T9 (by decide) rfl hx10) ?_
      obtain ⟨w11, hw11, hm⟩ := hp_bd hm
      obtain ⟨_, e2, I, F⟩ := t_sI I F T9 (by decide) rfl hw11
      refine tr_eq e2 ?_
      have T12 : tg (gP w11 v0 74) = 0 := t_tg (c := 11) I T_v0 (by decide) (by decide) rfl (by decide)
      refine tr_eq (t_fR I T_v0 (by decide) (by decide) (by decide)) ?_
      have T13 : tg (gP w11 v0 64) = 0 := t_tg (c := 11) I T_v0 (by decide) (by decide) rfl (by decide)
      refine tr_eq (t_fR I T_v0 (by decide) (by decide) (by decide)) ?_
      have T14 : tg (gP w11 v0 65) = 0 := t_tg (c := 11) I T_v0 (by decide) (by decide) rfl (by decide)
      refine tr_eq (t_fR I T_v0 (by decide) (by decide) (by decide)) ?_
      obtain ⟨x15, hx15, hm⟩ := hp_bd hm
      refine tr_eq (t_aI I T14 (by decide) rfl hx15) ?_
      obtain ⟨x16, hx16, hm⟩ := hp_bd hm
      refine tr_eq (t_aI I T13 (by decide) rfl hx16) ?_
      obtain ⟨w17, hw17, hm⟩ := hp_bd hm
      obtain ⟨_, e2, I, F⟩ := t_sI I F T12 (by decide) rfl hw17
      refine tr_eq e2 ?_
      have T18 : tg (gP w17 v0 75) = 0 := t_tg (c := 11) I T_v0 (by decide) (by decide) rfl (by decide)
      refine tr_eq (t_fR I T_v0 (by decide) (by decide) (by decide)) ?_
      obtain ⟨w19, hw19, hm⟩ := hp_bd hm
      obtain ⟨_, e2, I, F⟩ := t_sI I F T18 (by decide) rfl hw19
      refine tr_eq e2 ?_
      exact t_X11_writeOut_141 I F T_v0 hm
def gL_X11_writeOut_36 (n : Nat) (v0 : Nat) (c : Int32 × st_T) : Option ((Int32 × st_T) ⊕ (st_T)) := g_X11_writeOut_36 n v0 c.1 c.2
theorem tl_X11_writeOut_36 {tg r : Nat → Nat} {hb : hp_H} {sb : st_T} {n : Nat} {v0 : Nat} (T_v0 : tg v0 = 21) : ∀ (k : Nat) (c0 : Int32) (h : hp_H) (s : st_T) (x : st_T), iso tg r h s → isf tg r hb h sb s → hp_lp (gL_X11_writeOut_36 n v0) k (c0, s) = some x → ∃ h2, hp_lp (fL_X11_writeOut_36 n (r v0)) k (c0, h) = some (eX_X11_writeOut_36 x h2) ∧ iso tg r h2 (sX_X11_writeOut_36 x) ∧ isf tg r hb h2 sb (sX_X11_writeOut_36 x) := by
  intro k
  induction k with
  | zero => intro c0 h s x I F hx; exact (hp_lp_0 hx).elim
  | succ k ih =>
    intro c0 h s x I F hx
    obtain ⟨rr, hr, hc⟩ := hp_lp_1 hx
    obtain ⟨h2, e2, I2, F2⟩ := t_X11_writeOut_36 I F T_v0 hr
    rcases hc with ⟨s3, e3, hx3⟩ | e3
    · subst e3
      obtain ⟨h3, e4, I3, F3⟩ := ih _ h2 _ x I2 F2 hx3
      exact ⟨h3, hp_lp_s e2 e4, I3, F3⟩
    · subst e3
      exact ⟨h2, hp_lp_x e2, I2, F2⟩
def g_X11_writeOut_0 (n : Nat) (v0 : Nat) (v1 : Int32) (s : st_T) : Option (Int32 × st_T) :=
  (wF s v0 82 (0 : Int32)).bind fun w1 =>
  (gA w1 (gP w1 v0 73) v1).bind fun x3 =>
  if x3 ≤ (1000 : Int32) then
    (uA 0 w1 (gP w1 v0 74) (0 : Int32) v1).bind fun w5 =>
    (uA 0 w5 (gP w5 v0 75) (0 : Int32) (0 : Int32)).bind fun w7 =>
    (hp_lp (gL_X11_writeOut_36 n v0) n ((1 : Int32), w7)).bind fun x8 =>
    (g_X11_told n v0 x8).bind fun x10 =>
    some (x10.1, x10.2)
  else
    some ((-3 : Int32), w1)
set_option maxHeartbeats 1000000 in
theorem t_X11_writeOut_0 {tg r : Nat → Nat} {h hb : hp_H} {s sb : st_T} {n : Nat} {v0 : Nat} {v1 : Int32} (I : iso tg r h s) (F : isf tg r hb h sb s) (T_v0 : tg v0 = 21) {res : Int32 × st_T} (hm : g_X11_writeOut_0 n v0 v1 s = some res) : ∃ h2, f_X11_writeOut_0 n (r v0) v1 h = some ((res.1, h2)) ∧ iso tg r h2 res.2 ∧ isf tg r hb h2 sb res.2 := by
  unfold g_X11_writeOut_0 at hm
  unfold f_X11_writeOut_0
  obtain ⟨w1, hw1, hm⟩ := hp_bd hm
  obtain ⟨_, e2, I, F⟩ := t_wF (c := 11) (k := 82) I F T_v0 (by decide) (by decide) rfl hw1
  refine tr_eq e2 ?_
  have T2 : tg (gP w1 v0 73) = 0 := t_tg (c := 11) I T_v0 (by decide) (by decide) rfl (by decide)
  refine tr_eq (t_fR I T_v0 (by decide) (by decide) (by decide)) ?_
  obtain ⟨x3, hx3, hm⟩ := hp_bd hm
  refine tr_eq (t_aI I T2 (by decide) rfl hx3) ?_
  by_cases c11 : x3 ≤ (1000 : Int32)
  · rw [if_pos c11] at hm ⊢
    have T4 : tg (gP w1 v0 74) = 0 := t_tg (c := 11) I T_v0 (by decide) (by decide) rfl (by decide)
    refine tr_eq (t_fR I T_v0 (by decide) (by decide) (by decide)) ?_
    obtain ⟨w5, hw5, hm⟩ := hp_bd hm
    obtain ⟨_, e2, I, F⟩ := t_sI I F T4 (by decide) rfl hw5
    refine tr_eq e2 ?_
    have T6 : tg (gP w5 v0 75) = 0 := t_tg (c := 11) I T_v0 (by decide) (by decide) rfl (by decide)
    refine tr_eq (t_fR I T_v0 (by decide) (by decide) (by decide)) ?_
    obtain ⟨w7, hw7, hm⟩ := hp_bd hm
    obtain ⟨_, e2, I, F⟩ := t_sI I F T6 (by decide) rfl hw7
    refine tr_eq e2 ?_
    obtain ⟨x8, hx8, hm⟩ := hp_bd hm
    obtain ⟨_, e2, I, F⟩ := tl_X11_writeOut_36 T_v0 n _ _ _ _ I F hx8
    refine tr_eq e2 ?_
    try dsimp only [eX_X11_writeOut_36]
    replace I : iso tg _ _ x8 := I
    replace F : isf tg _ _ _ _ x8 := F
    obtain ⟨x10, hx10, hm⟩ := hp_bd hm
    obtain ⟨_, e2, I, F⟩ := t_X11_told I F T_v0 hx10
    refine tr_eq e2 ?_
    try dsimp only
    obtain rfl := Option.some.inj hm
    exact ⟨_, rfl, I, F⟩
  · rw [if_neg c11] at hm ⊢
    obtain rfl := Option.some.inj hm
    exact ⟨_, rfl, I, F⟩
def g_X11_writeOut (n : Nat) (v0 : Nat) (v1 : Int32) (s : st_T) : Option (Int32 × st_T) := g_X11_writeOut_0 n v0 v1 s
theorem t_X11_writeOut {tg r : Nat → Nat} {h hb : hp_H} {s sb : st_T} {n : Nat} {v0 : Nat} {v1 : Int32} (I : iso tg r h s) (F : isf tg r hb h sb s) (T_v0 : tg v0 = 21) {res : Int32 × st_T} (hm : g_X11_writeOut n v0 v1 s = some res) : ∃ h2, f_X11_writeOut n (r v0) v1 h = some ((res.1, h2)) ∧ iso tg r h2 res.2 ∧ isf tg r hb h2 sb res.2 := by
  unfold g_X11_writeOut at hm
  unfold f_X11_writeOut
  refine tr_eq (t_ck I T_v0 (by decide)) ?_
  exact t_X11_writeOut_0 I F T_v0 hm
abbrev eX_X11_sayNumber_12 (x : Int32 × st_T) (h2 : hp_H) : Int32 × hp_H := (fun y => (y.1, h2)) x
abbrev sX_X11_sayNumber_12 (x : Int32 × st_T) : st_T := (fun y => y.2) x
abbrev eR_X11_sayNumber_12 (x : (Int32 × Int32 × st_T) ⊕ (Int32 × st_T)) (h2 : hp_H) : (Int32 × Int32 × hp_H) ⊕ (Int32 × hp_H) := Sum.elim (fun y => .inl (y.1, y.2.1, h2)) (fun y => .inr (eX_X11_sayNumber_12 y h2)) x
abbrev sR_X11_sayNumber_12 (x : (Int32 × Int32 × st_T) ⊕ (Int32 × st_T)) : st_T := Sum.elim (fun y => y.2.2) sX_X11_sayNumber_12 x
def g_X11_sayNumber_12 (n : Nat) (v0 : Nat) (v1 : Int32) (v3 : Int32) (v4 : Int32) (s : st_T) : Option ((Int32 × Int32 × st_T) ⊕ (Int32 × st_T)) :=
  if v4 ≤ 0 then
    some (.inr (v3, s))
  else
    (uA 0 s (gP s v0 74) v3 ((85 : Int32) + ((v4 - (1 : Int32)) - (v4 - (1 : Int32)) / (5 : Int32) * (5 : Int32)))).bind fun w2 =>
    some (.inl ((v3 + (1 : Int32)), ((v4 - (1 : Int32)) / (5 : Int32)), w2))
set_option maxHeartbeats 1000000 in
theorem t_X11_sayNumber_12 {tg r : Nat → Nat} {h hb : hp_H} {s sb : st_T} {n : Nat} {v0 : Nat} {v1 : Int32} {v3 : Int32} {v4 : Int32} (I : iso tg r h s) (F : isf tg r hb h sb s) (T_v0 : tg v0 = 21) {res : (Int32 × Int32 × st_T) ⊕ (Int32 × st_T)} (hm : g_X11_sayNumber_12 n v0 v1 v3 v4 s = some res) : ∃ h2, f_X11_sayNumber_12 n (r v0) v1 v3 v4 h = some (eR_X11_sayNumber_12 res h2) ∧ iso tg r h2 (sR_X11_sayNumber_12 res) ∧ isf tg r hb h2 sb (sR_X11_sayNumber_12 res) := by
  unfold g_X11_sayNumber_12 at hm
  unfold f_X11_sayNumber_12
  by_cases c3 : v4 ≤ 0
  · rw [if_pos c3] at hm ⊢
    obtain rfl := Option.some.inj hm
    exact ⟨_, rfl, I, F⟩
  · rw [if_neg c3] at hm ⊢
    have T1 : tg (gP s v0 74) = 0 := t_tg (c := 11) I T_v0 (by decide) (by decide) rfl (by decide)
    refine tr_eq (t_fR I T_v0 (by decide) (by decide) (by decide)) ?_
    obtain ⟨w2, hw2, hm⟩ := hp_bd hm
    obtain ⟨_, e2, I, F⟩ := t_sI I F T1 (by decide) rfl hw2
    refine tr_eq e2 ?_
    obtain rfl := Option.some.inj hm
    exact ⟨_, rfl, I, F⟩
def gL_X11_sayNumber_12 (n : Nat) (v0 : Nat) (v1 : Int32) (c : Int32 × Int32 × st_T) : Option ((Int32 × Int32 × st_T) ⊕ (Int32 × st_T)) := g_X11_sayNumber_12 n v0 v1 c.1 c.2.1 c.2.2
theorem tl_X11_sayNumber_12 {tg r : Nat → Nat} {hb : hp_H} {sb : st_T} {n : Nat} {v0 : Nat} {v1 : Int32} (T_v0 : tg v0 = 21) : ∀ (k : Nat) (c0 : Int32) (c1 : Int32) (h : hp_H) (s : st_T) (x : Int32 × st_T), iso tg r h s → isf tg r hb h sb s → hp_lp (gL_X11_sayNumber_12 n v0 v1) k (c0, c1, s) = some x → ∃ h2, hp_lp (fL_X11_sayNumber_12 n (r v0) v1) k (c0, c1, h) = some (eX_X11_sayNumber_12 x h2) ∧ iso tg r h2 (sX_X11_sayNumber_12 x) ∧ isf tg r hb h2 sb (sX_X11_sayNumber_12 x) := by
  intro k
  induction k with
  | zero => intro c0 c1 h s x I F hx; exact (hp_lp_0 hx).elim
  | succ k ih =>
    intro c0 c1 h s x I F hx
    obtain ⟨rr, hr, hc⟩ := hp_lp_1 hx
    obtain ⟨h2, e2, I2, F2⟩ := t_X11_sayNumber_12 I F T_v0 hr
    rcases hc with ⟨s3, e3, hx3⟩ | e3
    · subst e3
      obtain ⟨h3, e4, I3, F3⟩ := ih _ _ h2 _ x I2 F2 hx3
      exact ⟨h3, hp_lp_s e2 e4, I3, F3⟩
    · subst e3
      exact ⟨h2, hp_lp_x e2, I2, F2⟩
abbrev eX_X11_sayNumber_51 (x : st_T) (h2 : hp_H) : hp_H := (fun y => h2) x
abbrev sX_X11_sayNumber_51 (x : st_T) : st_T := (fun y => y) x
abbrev eR_X11_sayNumber_51 (x : (Int32 × st_T) ⊕ (st_T)) (h2 : hp_H) : (Int32 × hp_H) ⊕ (hp_H) := Sum.elim (fun y => .inl (y.1, h2)) (fun y => .inr (eX_X11_sayNumber_51 y h2)) x
abbrev sR_X11_sayNumber_51 (x : (Int32 × st_T) ⊕ (st_T)) : st_T := Sum.elim (fun y => y.2) sX_X11_sayNumber_51 x
def g_X11_sayNumber_51 (n : Nat) (v0 : Nat) (v1 : Int32) (v5 : Int32) (s : st_T) : Option ((Int32 × st_T) ⊕ (st_T)) :=
  if v5 < 0 then
    some (.inr s)
  else
    (gA s (gP s v0 74) v5).bind fun x2 =>
    (g_X11_say n v0 x2 s).bind fun x3 =>
    some (.inl ((v5 + (-1 : Int32)), x3))
set_option maxHeartbeats 1000000 in
theorem t_X11_sayNumber_51 {tg r : Nat → Nat} {h hb : hp_H} {s sb : st_T} {n : Nat} {v0 : Nat} {v1 : Int32} {v5 : Int32} (I : iso tg r h s) (F : isf tg r hb h sb s) (T_v0 : tg v0 = 21) {res : (Int32 × st_T) ⊕ (st_T)} (hm : g_X11_sayNumber_51 n v0 v1 v5 s = some res) : ∃ h2, f_X11_sayNumber_51 n (r v0) v1 v5 h = some (eR_X11_sayNumber_51 res h2) ∧ iso tg r h2 (sR_X11_sayNumber_51 res) ∧ isf tg r hb h2 sb (sR_X11_sayNumber_51 res) := by
  unfold g_X11_sayNumber_51 at hm
  unfold f_X11_sayNumber_51
  by_cases c4 : v5 < 0
  · rw [if_pos c4] at hm ⊢
    obtain rfl := Option.some.inj hm
    exact ⟨_, rfl, I, F⟩
  · rw [if_neg c4] at hm ⊢
    have T1 : tg (gP s v0 74) = 0 := t_tg (c := 11) I T_v0 (by decide) (by decide) rfl (by decide)
    refine tr_eq (t_fR I T_v0 (by decide) (by decide) (by decide)) ?_
    obtain ⟨x2, hx2, hm⟩ := hp_bd hm
    refine tr_eq (t_aI I T1 (by decide) rfl hx2) ?_
    obtain ⟨x3, hx3, hm⟩ := hp_bd hm
    obtain ⟨_, e2, I, F⟩ := t_X11_say I F T_v0 hx3
    refine tr_eq e2 ?_
    obtain rfl := Option.some.inj hm
    exact ⟨_, rfl, I, F⟩
def gL_X11_sayNumber_51 (n : Nat) (v0 : Nat) (v1 : Int32) (c : Int32 × st_T) : Option ((Int32 × st_T) ⊕ (st_T)) := g_X11_sayNumber_51 n v0 v1 c.1 c.2
theorem tl_X11_sayNumber_51 {tg r : Nat → Nat} {hb : hp_H} {sb : st_T} {n : Nat} {v0 : Nat} {v1 : Int32} (T_v0 : tg v0 = 21) : ∀ (k : Nat) (c0 : Int32) (h : hp_H) (s : st_T) (x : st_T), iso tg r h s → isf tg r hb h sb s → hp_lp (gL_X11_sayNumber_51 n v0 v1) k (c0, s) = some x → ∃ h2, hp_lp (fL_X11_sayNumber_51 n (r v0) v1) k (c0, h) = some (eX_X11_sayNumber_51 x h2) ∧ iso tg r h2 (sX_X11_sayNumber_51 x) ∧ isf tg r hb h2 sb (sX_X11_sayNumber_51 x) := by
  intro k
  induction k with
  | zero => intro c0 h s x I F hx; exact (hp_lp_0 hx).elim
  | succ k ih =>
    intro c0 h s x I F hx
    obtain ⟨rr, hr, hc⟩ := hp_lp_1 hx
    obtain ⟨h2, e2, I2, F2⟩ := t_X11_sayNumber_51 I F T_v0 hr
    rcases hc with ⟨s3, e3, hx3⟩ | e3
    · subst e3
      obtain ⟨h3, e4, I3, F3⟩ := ih _ h2 _ x I2 F2 hx3
      exact ⟨h3, hp_lp_s e2 e4, I3, F3⟩
    · subst e3
      exact ⟨h2, hp_lp_x e2, I2, F2⟩
def g_X11_sayNumber_0 (n : Nat) (v0 : Nat) (v1 : Int32) (s : st_T) : Option (st_T) :=
  (hp_lp (gL_X11_sayNumber_12 n v0 v1) n ((0 : Int32), ((v1 - (1 : Int32)) / (20 : Int32)), s)).bind fun x1 =>
  (hp_lp (gL_X11_sayNumber_51 n v0 v1) n ((x1.1 - (1 : Int32)), x1.2)).bind fun x3 =>
  (g_X11_say n v0 ((65 : Int32) + ((v1 - (1 : Int32)) - (v1 - (1 : Int32)) / (20 : Int32) * (20 : Int32))) x3).bind fun x5 =>
  some x5
set_option maxHeartbeats 1000000 in
theorem t_X11_sayNumber_0 {tg r : Nat → Nat} {h hb : hp_H} {s sb : st_T} {n : Nat} {v0 : Nat} {v1 : Int32} (I : iso tg r h s) (F : isf tg r hb h sb s) (T_v0 : tg v0 = 21) {res : st_T} (hm : g_X11_sayNumber_0 n v0 v1 s = some res) : ∃ h2, f_X11_sayNumber_0 n (r v0) v1 h = some (h2) ∧ iso tg r h2 res ∧ isf tg r hb h2 sb res := by
  unfold g_X11_sayNumber_0 at hm
  unfold f_X11_sayNumber_0
  obtain ⟨x1, hx1, hm⟩ := hp_bd hm
  obtain ⟨_, e2, I, F⟩ := tl_X11_sayNumber_12 T_v0 n _ _ _ _ _ I F hx1
  refine tr_eq e2 ?_
  try dsimp only [eX_X11_sayNumber_12]
  replace I : iso tg _ _ x1.2 := I
  replace F : isf tg _ _ _ _ x1.2 := F
  obtain ⟨x3, hx3, hm⟩ := hp_bd hm
  obtain ⟨_, e2, I, F⟩ := tl_X11_sayNumber_51 T_v0 n _ _ _ _ I F hx3
  refine tr_eq e2 ?_
  try dsimp only [eX_X11_sayNumber_51]
  replace I : iso tg _ _ x3 := I
  replace F : isf tg _ _ _ _ x3 := F
  obtain ⟨x5, hx5, hm⟩ := hp_bd hm
  obtain ⟨_, e2, I, F⟩ := t_X11_say I F T_v0 hx5
  refine tr_eq e2 ?_
  obtain rfl := Option.some.inj hm
  exact ⟨_, rfl, I, F⟩
def g_X11_sayNumber (n : Nat) (v0 : Nat) (v1 : Int32) (s : st_T) : Option (st_T) := g_X11_sayNumber_0 n v0 v1 s
theorem t_X11_sayNumber {tg r : Nat → Nat} {h hb : hp_H} {s sb : st_T} {n : Nat} {v0 : Nat} {v1 : Int32} (I : iso tg r h s) (F : isf tg r hb h sb s) (T_v0 : tg v0 = 21) {res : st_T} (hm : g_X11_sayNumber n v0 v1 s = some res) : ∃ h2, f_X11_sayNumber n (r v0) v1 h = some (h2) ∧ iso tg r h2 res ∧ isf tg r hb h2 sb res := by
  unfold g_X11_sayNumber at hm
  unfold f_X11_sayNumber
  refine tr_eq (t_ck I T_v0 (by decide)) ?_
  exact t_X11_sayNumber_0 I F T_v0 hm
abbrev eX_X11_goDown_7 (x : st_T) (h2 : hp_H) : hp_H := (fun y => h2) x
abbrev sX_X11_goDown_7 (x : st_T) : st_T := (fun y => y) x
abbrev eR_X11_goDown_7 (x : (Int32 × st_T) ⊕ (st_T)) (h2 : hp_H) : (Int32 × hp_H) ⊕ (hp_H) := Sum.elim (fun y => .inl (y.1, h2)) (fun y => .inr (eX_X11_goDown_7 y h2)) x
abbrev sR_X11_goDown_7 (x : (Int32 × st_T) ⊕ (st_T)) : st_T := Sum.elim (fun y => y.2) sX_X11_goDown_7 x
def g_X11_goDown_7 (n : Nat) (v0 : Nat) (v1 : Int32) (v2 : Int32) (s : st_T) : Option ((Int32 × st_T) ⊕ (st_T)) :=
  if (gF s v0 50) ≤ v2 then
    some (.inr s)
  else
    (uA 0 s (gP s v0 76) v2 (0 : Int32)).bind fun w2 =>
    (uA 0 w2 (gP w2 v0 77) v2 (0 : Int32)).bind fun w4 =>
    some (.inl ((v2 + (1 : Int32)), w4))
set_option maxHeartbeats 1000000 in
theorem t_X11_goDown_7 {tg r : Nat → Nat} {h hb : hp_H} {s sb : st_T} {n : Nat} {v0 : Nat} {v1 : Int32} {v2 : Int32} (I : iso tg r h s) (F : isf tg r hb h sb s) (T_v0 : tg v0 = 21) {res : (Int32 × st_T) ⊕ (st_T)} (hm : g_X11_goDown_7 n v0 v1 v2 s = some res) : ∃ h2, f_X11_goDown_7 n (r v0) v1 v2 h = some (eR_X11_goDown_7 res h2) ∧ iso tg r h2 (sR_X11_goDown_7 res) ∧ isf tg r hb h2 sb (sR_X11_goDown_7 res) := by
  unfold g_X11_goDown_7 at hm
  unfold f_X11_goDown_7
  refine tr_eq (t_fI I T_v0 (by decide) (by decide) rfl) ?_
  by_cases c5 : (gF s v0 50) ≤ v2
  · rw [if_pos c5] at hm ⊢
    obtain rfl := Option.some.inj hm
    exact ⟨_, rfl, I, F⟩
  · rw [if_neg c5] at hm ⊢
    have T1 : tg (gP s v0 76) = 0 := t_tg (c := 11) I T_v0 (by decide) (by decide) rfl (by decide)
    refine tr_eq (t_fR I T_v0 (by decide) (by decide) (by decide)) ?_
    obtain ⟨w2, hw2, hm⟩ := hp_bd hm
    obtain ⟨_, e2, I, F⟩ := t_sI I F T1 (by decide) rfl hw2
    refine tr_eq e2 ?_
    have T3 : tg (gP w2 v0 77) = 0 := t_tg (c := 11) I T_v0 (by decide) (by decide) rfl (by decide)
    refine tr_eq (t_fR I T_v0 (by decide) (by decide) (by decide)) ?_
    obtain ⟨w4, hw4, hm⟩ := hp_bd hm
    obtain ⟨_, e2, I, F⟩ := t_sI I F T3 (by decide) rfl hw4
    refine tr_eq e2 ?_
    obtain rfl := Option.some.inj hm
    exact ⟨_, rfl, I, F⟩
def gL_X11_goDown_7 (n : Nat) (v0 : Nat) (v1 : Int32) (c : Int32 × st_T) : Option ((Int32 × st_T) ⊕ (st_T)) := g_X11_goDown_7 n v0 v1 c.1 c.2
theorem tl_X11_goDown_7 {tg r : Nat → Nat} {hb : hp_H} {sb : st_T} {n : Nat} {v0 : Nat} {v1 : Int32} (T_v0 : tg v0 = 21) : ∀ (k : Nat) (c0 : Int32) (h : hp_H) (s : st_T) (x : st_T), iso tg r h s → isf tg r hb h sb s → hp_lp (gL_X11_goDown_7 n v0 v1) k (c0, s) = some x → ∃ h2, hp_lp (fL_X11_goDown_7 n (r v0) v1) k (c0, h) = some (eX_X11_goDown_7 x h2) ∧ iso tg r h2 (sX_X11_goDown_7 x) ∧ isf tg r hb h2 sb (sX_X11_goDown_7 x) := by
  intro k
  induction k with
  | zero => intro c0 h s x I F hx; exact (hp_lp_0 hx).elim
  | succ k ih =>
    intro c0 h s x I F hx
    obtain ⟨rr, hr, hc⟩ := hp_lp_1 hx
    obtain ⟨h2, e2, I2, F2⟩ := t_X11_goDown_7 I F T_v0 hr
    rcases hc with ⟨s3, e3, hx3⟩ | e3
    · subst e3
      obtain ⟨h3, e4, I3, F3⟩ := ih _ h2 _ x I2 F2 hx3
      exact ⟨h3, hp_lp_s e2 e4, I3, F3⟩
    · subst e3
      exact ⟨h2, hp_lp_x e2, I2, F2⟩
abbrev eX_X11_goDown_56 (x : st_T) (h2 : hp_H) : hp_H := (fun y => h2) x
abbrev sX_X11_goDown_56 (x : st_T) : st_T := (fun y => y) x
abbrev eR_X11_goDown_56 (x : (Int32 × st_T) ⊕ (st_T)) (h2 : hp_H) : (Int32 × hp_H) ⊕ (hp_H) := Sum.elim (fun y => .inl (y.1, h2)) (fun y => .inr (eX_X11_goDown_56 y h2)) x
abbrev sR_X11_goDown_56 (x : (Int32 × st_T) ⊕ (st_T)) : st_T := Sum.elim (fun y => y.2) sX_X11_goDown_56 x
def g_X11_goDown_246 (n : Nat) (v0 : Nat) (v2 : Int32) (s : st_T) : Option ((Int32 × st_T) ⊕ (st_T)) :=
  some (.inl (v2, s))
set_option maxHeartbeats 1000000 in
theorem t_X11_goDown_246 {tg r : Nat → Nat} {h hb : hp_H} {s sb : st_T} {n : Nat} {v0 : Nat} {v2 : Int32} (I : iso tg r h s) (F : isf tg r hb h sb s) (T_v0 : tg v0 = 21) {res : (Int32 × st_T) ⊕ (st_T)} (hm : g_X11_goDown_246 n v0 v2 s = some res) : ∃ h2, f_X11_goDown_246 n (r v0) v2 h = some (eR_X11_goDown_56 res h2) ∧ iso tg r h2 (sR_X11_goDown_56 res) ∧ isf tg r hb h2 sb (sR_X11_goDown_56 res) := by
  unfold g_X11_goDown_246 at hm
  unfold f_X11_goDown_246
  obtain rfl := Option.some.inj hm
  exact ⟨_, rfl, I, F⟩
def g_X11_goDown_222 (n : Nat) (v0 : Nat) (v2 : Int32) (v3 : Int32) (s0 : Int32) (s1 : Int32) (s2 : Nat) (s : st_T) : Option ((Int32 × st_T) ⊕ (st_T)) :=
  (uA 0 s s2 s1 s0).bind fun w1 =>
  (uA 0 w1 (gP w1 v0 84) (gF w1 v0 85) v3).bind fun w3 =>
  (wF w3 v0 85 ((gF w3 v0 85) + (1 : Int32))).bind fun w4 =>
  g_X11_goDown_246 n v0 (v2 + (-1 : Int32)) w4
set_option maxHeartbeats 1000000 in
theorem t_X11_goDown_222 {tg r : Nat → Nat} {h hb : hp_H} {s sb : st_T} {n : Nat} {v0 : Nat} {v2 : Int32} {v3 : Int32} {s0 : Int32} {s1 : Int32} {s2 : Nat} (I : iso tg r h s) (F : isf tg r hb h sb s) (T_v0 : tg v0 = 21) (T_s2 : tg s2 = 0) {res : (Int32 × st_T) ⊕ (st_T)} (hm : g_X11_goDown_222 n v0 v2 v3 s0 s1 s2 s = some res) : ∃ h2, f_X11_goDown_222 n (r v0) v2 v3 s0 s1 (r s2) h = some (eR_X11_goDown_56 res h2) ∧ iso tg r h2 (sR_X11_goDown_56 res) ∧ isf tg r hb h2 sb (sR_X11_goDown_56 res) := by
  unfold g_X11_goDown_222 at hm
  unfold f_X11_goDown_222
  obtain ⟨w1, hw1, hm⟩ := hp_bd hm
  obtain ⟨_, e2, I, F⟩ := t_sI I F T_s2 (by decide) rfl hw1
  refine tr_eq e2 ?_
  have T2 : tg (gP w1 v0 84) = 0 := t_tg (c := 11) I T_v0 (by decide) (by decide) rfl (by decide)
  refine tr_eq (t_fR I T_v0 (by decide) (by decide) (by decide)) ?_
  refine tr_eq (t_fI I T_v0 (by decide) (by decide) rfl) ?_
  obtain ⟨w3, hw3, hm⟩ := hp_bd hm
  obtain ⟨_, e2, I, F⟩ := t_sI I F T2 (by decide) rfl hw3
  refine tr_eq e2 ?_
  refine tr_eq (t_fI I T_v0 (by decide) (by decide) rfl) ?_
  obtain ⟨w4, hw4, hm⟩ := hp_bd hm
  obtain ⟨_, e2, I, F⟩ := t_wF (c := 11) (k := 85) I F T_v0 (by decide) (by decide) rfl hw4
  refine tr_eq e2 ?_
  exact t_X11_goDown_246 I F T_v0 hm
def g_X11_goDown_142 (n : Nat) (v0 : Nat) (v2 : Int32) (v3 : Int32) (v4 : Int32) (s : st_T) : Option ((Int32 × st_T) ⊕ (st_T)) :=
  (gA s (gP s v0 66) v3).bind fun x2 =>
  if x2 ≤ v4 then
    (gA s (gP s v0 66) v3).bind fun x5 =>
    if x5 ≤ 0 then
      g_X11_goDown_222 n v0 v2 v3 (0 : Int32) v3 (gP s v0 76) s
    else
      g_X11_goDown_222 n v0 v2 v3 (1 : Int32) v3 (gP s v0 76) s
  else
    (gA s (gP s v0 75) (v2 - (1 : Int32))).bind fun x8 =>
    (uA 0 s (gP s v0 75) (v2 - (1 : Int32)) (x8 + (1 : Int32))).bind fun w9 =>
    (gA w9 (gP w9 v0 65) v3).bind fun x14 =>
    (gA w9 (gP w9 v0 64) (x14 + v4)).bind fun x15 =>
    (gA w9 (gP w9 v0 72) x15).bind fun x16 =>
    (uA 0 w9 (gP w9 v0 74) v2 x16).bind fun w17 =>
    (uA 0 w17 (gP w17 v0 75) v2 (0 : Int32)).bind fun w19 =>
    g_X11_goDown_246 n v0 (v2 + (1 : Int32)) w19
set_option maxHeartbeats 1000000 in
theorem t_X11_goDown_142 {tg r : Nat → Nat} {h hb : hp_H} {s sb : st_T} {n : Nat} {v0 : Nat} {v2 : Int32} {v3 : Int32} {v4 : Int32} (I : iso tg r h s) (F : isf tg r hb h sb s) (T_v0 : tg v0 = 21) {res : (Int32 × st_T) ⊕ (st_T)} (hm : g_X11_goDown_142 n v0 v2 v3 v4 s = some res) : ∃ h2, f_X11_goDown_142 n (r v0) v2 v3 v4 h = some (eR_X11_goDown_56 res h2) ∧ iso tg r h2 (sR_X11_goDown_56 res) ∧ isf tg r hb h2 sb (sR_X11_goDown_56 res) := by
  unfold g_X11_goDown_142 at hm
  unfold f_X11_goDown_142
  have T1 : tg (gP s v0 66) = 0 := t_tg (c := 11) I T_v0 (by decide) (by decide) rfl (by decide)
  refine tr_eq (t_fR I T_v0 (by decide) (by decide) (by decide)) ?_
  obtain ⟨x2, hx2, hm⟩ := hp_bd hm
  refine tr_eq (t_aI I T1 (by decide) rfl hx2) ?_
  by_cases c20 : x2 ≤ v4
  · rw [if_pos c20] at hm ⊢
    have T3 : tg (gP s v0 76) = 0 := t_tg (c := 11) I T_v0 (by decide) (by decide) rfl (by decide)
    refine tr_eq (t_fR I T_v0 (by decide) (by decide) (by decide)) ?_
    have T4 : tg (gP s v0 66) = 0 := t_tg (c := 11) I T_v0 (by decide) (by decide) rfl (by decide)
    refine tr_eq (t_fR I T_v0 (by decide) (by decide) (by decide)) ?_
    obtain ⟨x5, hx5, hm⟩ := hp_bd hm
    refine tr_eq (t_aI I T4 (by decide) rfl hx5) ?_
    by_cases c6 : x5 ≤ 0
    · rw [if_pos c6] at hm ⊢
      exact t_X11_goDown_222 I F T_v0 T3 hm
    · rw [if_neg c6] at hm ⊢
      exact t_X11_goDown_222 I F T_v0 T3 hm
  · rw [if_neg c20] at hm ⊢
    have T7 : tg (gP s v0 75) = 0 := t_tg (c := 11) I T_v0 (by decide) (by decide) rfl (by decide)
    refine tr_eq (t_fR I T_v0 (by decide) (by decide) (by decide)) ?_
    obtain ⟨x8, hx8, hm⟩ := hp_bd hm
    refine tr_eq (t_aI I T7 (by decide) rfl hx8) ?_
    obtain ⟨w9, hw9, hm⟩ := hp_bd hm
    obtain ⟨_, e2, I, F⟩ := t_sI I F T7 (by decide) rfl hw9
    refine tr_eq e2 ?_
    have T10 : tg (gP w9 v0 74) = 0 := t_tg (c := 11) I T_v0 (by decide) (by decide) rfl (by decide)
    refine tr_eq (t_fR I T_v0 (by decide) (by decide) (by decide)) ?_
    have T11 : tg (gP w9 v0 72) = 0 := t_tg (c := 11) I T_v0 (by decide) (by decide) rfl (by decide)
    refine tr_eq (t_fR I T_v0 (by decide) (by decide) (by decide)) ?_
    have T12 : tg (gP w9 v0 64) = 0 := t_tg (c := 11) I T_v0 (by decide) (by decide) rfl (by decide)
    refine tr_eq (t_fR I T_v0 (by decide) (by decide) (by decide)) ?_
    have T13 : tg (gP w9 v0 65) = 0 := t_tg (c := 11) I T_v0 (by decide) (by decide) rfl (by decide)
    refine tr_eq (t_fR I T_v0 (by decide) (by decide) (by decide)) ?_
    obtain ⟨x14, hx14, hm⟩ := hp_bd hm
    refine tr_eq (t_aI I T13 (by decide) rfl hx14) ?_
    obtain ⟨x15, hx15, hm⟩ := hp_bd hm
    refine tr_eq (t_aI I T12 (by decide) rfl hx15) ?_
    obtain ⟨x16, hx16, hm⟩ := hp_bd hm
    refine tr_eq (t_aI I T11 (by decide) rfl hx16) ?_
    obtain ⟨w17, hw17, hm⟩ := hp_bd hm
    obtain ⟨_, e2, I, F⟩ := t_sI I F T10 (by decide) rfl hw17
    refine tr_eq e2 ?_
    have T18 : tg (gP w17 v0 75) = 0 := t_tg (c := 11) I T_v0 (by decide) (by decide) rfl (by decide)
    refine tr_eq (t_fR I T_v0 (by decide) (by decide) (by decide)) ?_
    obtain ⟨w19, hw19, hm⟩ := hp_bd hm
    obtain ⟨_, e2, I, F⟩ := t_sI I F T18 (by decide) rfl hw19
    refine tr_eq e2 ?_
    exact t_X11_goDown_246 I F T_v0 hm
def g_X11_goDown_56 (n : Nat) (v0 : Nat) (v2 : Int32) (s : st_T) : Option ((Int32 × st_T) ⊕ (st_T)) :=
  if v2 ≤ 0 then
    some (.inr s)
  else
    (gA s (gP s v0 74) (v2 - (1 : Int32))).bind fun x2 =>
    (gA s (gP s v0 75) (v2 - (1 : Int32))).bind fun x4 =>
    if x4 = 0 then
      (gA s (gP s v0 66) x2).bind fun x6 =>
      if x6 ≤ 0 then
        g_X11_goDown_142 n v0 v2 x2 x4 s
      else
        (gA s (gP s v0 76) x2).bind fun x8 =>
        if x8 ≤ 0 then
          g_X11_goDown_142 n v0 v2 x2 x4 s
        else
          (gA s (gP s v0 76) x2).bind fun x10 =>
          (uA 0 s (gP s v0 76) x2 (x10 + (1 : Int32))).bind fun w11 =>
          (uA 0 w11 (gP w11 v0 84) (gF w11 v0 85) ((1000 : Int32) + x2)).bind fun w13 =>
          (wF w13 v0 85 ((gF w13 v0 85) + (1 : Int32))).bind fun w14 =>
          g_X11_goDown_246 n v0 (v2 + (-1 : Int32)) w14
    else
      g_X11_goDown_142 n v0 v2 x2 x4 s
set_option maxHeartbeats 1000000 in
theorem t_X11_goDown_56 {tg r : Nat → Nat} {h hb : hp_H} {s sb : st_T} {n : Nat} {v0 : Nat} {v2 : Int32} (I : iso tg r h s) (F : isf tg r hb h sb s) (T_v0 : tg v0 = 21) {res : (Int32 × st_T) ⊕ (st_T)} (hm : g_X11_goDown_56 n v0 v2 s = some res) : ∃ h2, f_X11_goDown_56 n (r v0) v2 h = some (eR_X11_goDown_56 res h2) ∧ iso tg r h2 (sR_X11_goDown_56 res) ∧ isf tg r hb h2 sb (sR_X11_goDown_56 res) := by
  unfold g_X11_goDown_56 at hm
  unfold f_X11_goDown_56
  by_cases c18 : v2 ≤ 0
  · rw [if_pos c18] at hm ⊢
    obtain rfl := Option.some.inj hm
    exact ⟨_, rfl, I, F⟩
  · rw [if_neg c18] at hm ⊢
    have T1 : tg (gP s v0 74) = 0 := t_tg (c := 11) I T_v0 (by decide) (by decide) rfl (by decide)
    refine tr_eq (t_fR I T_v0 (by decide) (by decide) (by decide)) ?_
    obtain ⟨x2, hx2, hm⟩ := hp_bd hm
    refine tr_eq (t_aI I T1 (by decide) rfl hx2) ?_
    have T3 : tg (gP s v0 75) = 0 := t_tg (c := 11) I T_v0 (by decide) (by decide) rfl (by decide)
    refine tr_eq (t_fR I T_v0 (by decide) (by decide) (by decide)) ?_
    obtain ⟨x4, hx4, hm⟩ := hp_bd hm
    refine tr_eq (t_aI I T3 (by decide) rfl hx4) ?_
    by_cases c17 : x4 = 0
    · rw [if_pos c17] at hm ⊢
      have T5 : tg (gP s v0 66) = 0 := t_tg (c := 11) I T_v0 (by decide) (by decide) rfl (by decide)
      refine tr_eq (t_fR I T_v0 (by decide) (by decide) (by decide)) ?_
      obtain ⟨x6, hx6, hm⟩ := hp_bd hm
      refine tr_eq (t_aI I T5 (by decide) rfl hx6) ?_
      by_cases c16 : x6 ≤ 0
      · rw [if_pos c16] at hm ⊢
        exact t_X11_goDown_142 I F T_v0 hm
      · rw [if_neg c16] at hm ⊢
        have T7 : tg (gP s v0 76) = 0 := t_tg (c := 11) I T_v0 (by decide) (by decide) rfl (by decide)
        refine tr_eq (t_fR I T_v0 (by decide) (by decide) (by decide)) ?_
        obtain ⟨x8, hx8, hm⟩ := hp_bd hm
        refine tr_eq (t_aI I T7 (by decide) rfl hx8) ?_
        by_cases c15 : x8 ≤ 0
        · rw [if_pos c15] at hm ⊢
          exact t_X11_goDown_142 I F T_v0 hm
        · rw [if_neg c15] at hm ⊢
          have T9 : tg (gP s v0 76) = 0 := t_tg (c := 11) I T_v0 (by decide) (by decide) rfl (by decide)
          refine tr_eq (t_fR I T_v0 (by decide) (by decide) (by decide)) ?_
          obtain ⟨x10, hx10, hm⟩ := hp_bd hm
          refine tr_eq (t_aI I T9 (by decide) rfl hx10) ?_
          obtain ⟨w11, hw11, hm⟩ := hp_bd hm
          obtain ⟨_, e2, I, F⟩ := t_sI I F T9 (by decide) rfl hw11
          refine tr_eq e2 ?_
          have T12 : tg (gP w11 v0 84) = 0 := t_tg (c := 11) I T_v0 (by decide) (by decide) rfl (by decide)
          refine tr_eq (t_fR I T_v0 (by decide) (by decide) (by decide)) ?_
          refine tr_eq (t_fI I T_v0 (by decide) (by decide) rfl) ?_
          obtain ⟨w13, hw13, hm⟩ := hp_bd hm
          obtain ⟨_, e2, I, F⟩ := t_sI I F T12 (by decide) rfl hw13
          refine tr_eq e2 ?_
          refine tr_eq (t_fI I T_v0 (by decide) (by decide) rfl) ?_
          obtain ⟨w14, hw14, hm⟩ := hp_bd hm
          obtain ⟨_, e2, I, F⟩ := t_wF (c := 11) (k := 85) I F T_v0 (by decide) (by decide) rfl hw14
          refine tr_eq e2 ?_
          exact t_X11_goDown_246 I F T_v0 hm
    · rw [if_neg c17] at hm ⊢
      exact t_X11_goDown_142 I F T_v0 hm
def gL_X11_goDown_56 (n : Nat) (v0 : Nat) (c : Int32 × st_T) : Option ((Int32 × st_T) ⊕ (st_T)) := g_X11_goDown_56 n v0 c.1 c.2
theorem tl_X11_goDown_56 {tg r : Nat → Nat} {hb : hp_H} {sb : st_T} {n : Nat} {v0 : Nat} (T_v0 : tg v0 = 21) : ∀ (k : Nat) (c0 : Int32) (h : hp_H) (s : st_T) (x : st_T), iso tg r h s → isf tg r hb h sb s → hp_lp (gL_X11_goDown_56 n v0) k (c0, s) = some x → ∃ h2, hp_lp (fL_X11_goDown_56 n (r v0)) k (c0, h) = some (eX_X11_goDown_56 x h2) ∧ iso tg r h2 (sX_X11_goDown_56 x) ∧ isf tg r hb h2 sb (sX_X11_goDown_56 x) := by
  intro k
  induction k with
  | zero => intro c0 h s x I F hx; exact (hp_lp_0 hx).elim
  | succ k ih =>
    intro c0 h s x I F hx
    obtain ⟨rr, hr, hc⟩ := hp_lp_1 hx
    obtain ⟨h2, e2, I2, F2⟩ := t_X11_goDown_56 I F T_v0 hr
    rcases hc with ⟨s3, e3, hx3⟩ | e3
    · subst e3
      obtain ⟨h3, e4, I3, F3⟩ := ih _ h2 _ x I2 F2 hx3
      exact ⟨h3, hp_lp_s e2 e4, I3, F3⟩
    · subst e3
      exact ⟨h2, hp_lp_x e2, I2, F2⟩
def g_X11_goDown_0 (n : Nat) (v0 : Nat) (v1 : Int32) (s : st_T) : Option (st_T) :=
  (wF s v0 85 (0 : Int32)).bind fun w1 =>
  (hp_lp (gL_X11_goDown_7 n v0 v1) n ((0 : Int32), w1)).bind fun x2 =>
  (gA x2 (gP x2 v0 72) v1).bind fun x6 =>
  (uA 0 x2 (gP x2 v0 74) (0 : Int32) x6).bind fun w7 =>
  (uA 0 w7 (gP w7 v0 75) (0 : Int32) (0 : Int32)).bind fun w9 =>
  (hp_lp (gL_X11_goDown_56 n v0) n ((1 : Int32), w9)).bind fun x10 =>
  some x10
set_option maxHeartbeats 1000000 in
theorem t_X11_goDown_0 {tg r : Nat → Nat} {h hb : hp_H} {s sb : st_T} {n : Nat} {v0 : Nat} {v1 : Int32} (I : iso tg r h s) (F : isf tg r hb h sb s) (T_v0 : tg v0 = 21) {res : st_T} (hm : g_X11_goDown_0 n v0 v1 s = some res) : ∃ h2, f_X11_goDown_0 n (r v0) v1 h = some (h2) ∧ iso tg r h2 res ∧ isf tg r hb h2 sb res := by
  unfold g_X11_goDown_0 at hm
  unfold f_X11_goDown_0
  obtain ⟨w1, hw1, hm⟩ := hp_bd hm
  obtain ⟨_, e2, I, F⟩ := t_wF (c := 11) (k := 85) I F T_v0 (by decide) (by decide) rfl hw1
  refine tr_eq e2 ?_
  obtain ⟨x2, hx2, hm⟩ := hp_bd hm
  obtain ⟨_, e2, I, F⟩ := tl_X11_goDown_7 T_v0 n _ _ _ _ I F hx2
  refine tr_eq e2 ?_
  try dsimp only [eX_X11_goDown_7]
  replace I : iso tg _ _ x2 := I
  replace F : isf tg _ _ _ _ x2 := F
  have T4 : tg (gP x2 v0 74) = 0 := t_tg (c := 11) I T_v0 (by decide) (by decide) rfl (by decide)
  refine tr_eq (t_fR I T_v0 (by decide) (by decide) (by decide)) ?_
  have T5 : tg (gP x2 v0 72) = 0 := t_tg (c := 11) I T_v0 (by decide) (by decide) rfl (by decide)
  refine tr_eq (t_fR I T_v0 (by decide) (by decide) (by decide)) ?_
  obtain ⟨x6, hx6, hm⟩ := hp_bd hm
  refine tr_eq (t_aI I T5 (by decide) rfl hx6) ?_
  obtain ⟨w7, hw7, hm⟩ := hp_bd hm
  obtain ⟨_, e2, I, F⟩ := t_sI I F T4 (by decide) rfl hw7
  refine tr_eq e2 ?_
  have T8 : tg (gP w7 v0 75) = 0 := t_tg (c := 11) I T_v0 (by decide) (by decide) rfl (by decide)
  refine tr_eq (t_fR I T_v0 (by decide) (by decide) (by decide)) ?_
  obtain ⟨w9, hw9, hm⟩ := hp_bd hm
  obtain ⟨_, e2, I, F⟩ := t_sI I F T8 (by decide) rfl hw9
  refine tr_eq e2 ?_
  obtain ⟨x10, hx10, hm⟩ := hp_bd hm
  obtain ⟨_, e2, I, F⟩ := tl_X11_goDown_56 T_v0 n _ _ _ _ I F hx10
  refine tr_eq e2 ?_
  try dsimp only [eX_X11_goDown_56]
  replace I : iso tg _ _ x10 := I
  replace F : isf tg _ _ _ _ x10 := F
  obtain rfl := Option.some.inj hm
  exact ⟨_, rfl, I, F⟩
def g_X11_goDown (n : Nat) (v0 : Nat) (v1 : Int32) (s : st_T) : Option (st_T) := g_X11_goDown_0 n v0 v1 s
theorem t_X11_goDown {tg r : Nat → Nat} {h hb : hp_H} {s sb : st_T} {n : Nat} {v0 : Nat} {v1 : Int32} (I : iso tg r h s) (F : isf tg r hb h sb s) (T_v0 : tg v0 = 21) {res : st_T} (hm : g_X11_goDown n v0 v1 s = some res) : ∃ h2, f_X11_goDown n (r v0) v1 h = some (h2) ∧ iso tg r h2 res ∧ isf tg r hb h2 sb res := by
  unfold g_X11_goDown at hm
  unfold f_X11_goDown
  refine tr_eq (t_ck I T_v0 (by decide)) ?_
  exact t_X11_goDown_0 I F T_v0 hm
def g_X11_indexOf_36 (n : Nat) (v0 : Nat) (v1 : Int32) (v2 : Int32) (v3 : Int32) (v4 : Int32) (s : st_T) : Option ((Int32 × Int32) ⊕ (Int32)) :=
  some (.inl (v3, (v4 + (1 : Int32))))
set_option maxHeartbeats 1000000 in
theorem t_X11_indexOf_36 {tg r : Nat → Nat} {h : hp_H} {s : st_T} {n : Nat} {v0 : Nat} {v1 : Int32} {v2 : Int32} {v3 : Int32} {v4 : Int32} (I : iso tg r h s) (T_v0 : tg v0 = 21) {res : (Int32 × Int32) ⊕ (Int32)} (hm : g_X11_indexOf_36 n v0 v1 v2 v3 v4 s = some res) : f_X11_indexOf_36 n (r v0) v1 v2 v3 v4 h = some res := by
  unfold g_X11_indexOf_36 at hm
  unfold f_X11_indexOf_36
  obtain rfl := Option.some.inj hm
  rfl
def g_X11_indexOf_5 (n : Nat) (v0 : Nat) (v1 : Int32) (v2 : Int32) (v3 : Int32) (v4 : Int32) (s : st_T) : Option ((Int32 × Int32) ⊕ (Int32)) :=
  if v1 ≤ v4 then
    some (.inr (0 : Int32))
  else
    (g_X11_isBit n v0 (gP s v0 23) v1 v4 s).bind fun x2 =>
    if x2 = 0 then
      g_X11_indexOf_36 n v0 v1 v2 v3 v4 s
    else
      if v4 = v2 then
        some (.inr (v3 + (1 : Int32)))
      else
        g_X11_indexOf_36 n v0 v1 v2 (v3 + (1 : Int32)) v4 s
set_option maxHeartbeats 1000000 in
theorem t_X11_indexOf_5 {tg r : Nat → Nat} {h : hp_H} {s : st_T} {n : Nat} {v0 : Nat} {v1 : Int32} {v2 : Int32} {v3 : Int32} {v4 : Int32} (I : iso tg r h s) (T_v0 : tg v0 = 21) {res : (Int32 × Int32) ⊕ (Int32)} (hm : g_X11_indexOf_5 n v0 v1 v2 v3 v4 s = some res) : f_X11_indexOf_5 n (r v0) v1 v2 v3 v4 h = some res := by
  unfold g_X11_indexOf_5 at hm
  unfold f_X11_indexOf_5
  by_cases c5 : v1 ≤ v4
  · rw [if_pos c5] at hm ⊢
    obtain rfl := Option.some.inj hm
    rfl
  · rw [if_neg c5] at hm ⊢
    have T1 : tg (gP s v0 23) = 3 := t_tg (c := 11) I T_v0 (by decide) (by decide) rfl (by decide)
    refine tr_eq0 (t_fR I T_v0 (by decide) (by decide) (by decide)) ?_
    obtain ⟨x2, hx2, hm⟩ := hp_bd hm
    refine tr_eq0 (t_X11_isBit I T_v0 T1 hx2) ?_
    by_cases c4 : x2 = 0
    · rw [if_pos c4] at hm ⊢
      exact t_X11_indexOf_36 I T_v0 hm
    · rw [if_neg c4] at hm ⊢
      by_cases c3 : v4 = v2
      · rw [if_pos c3] at hm ⊢
        obtain rfl := Option.some.inj hm
        rfl
      · rw [if_neg c3] at hm ⊢
        exact t_X11_indexOf_36 I T_v0 hm
def gL_X11_indexOf_5 (n : Nat) (v0 : Nat) (v1 : Int32) (v2 : Int32) (s : st_T) (c : Int32 × Int32) : Option ((Int32 × Int32) ⊕ (Int32)) := g_X11_indexOf_5 n v0 v1 v2 c.1 c.2 s
theorem tl_X11_indexOf_5 {tg r : Nat → Nat} {h : hp_H} {s : st_T} {n : Nat} {v0 : Nat} {v1 : Int32} {v2 : Int32} (I : iso tg r h s) (T_v0 : tg v0 = 21) : ∀ (k : Nat) (c : Int32 × Int32) (x : Int32), hp_lp (gL_X11_indexOf_5 n v0 v1 v2 s) k c = some x → hp_lp (fL_X11_indexOf_5 n (r v0) v1 v2 h) k c = some x := by
  intro k
  induction k with
  | zero => intro c x hx; exact (hp_lp_0 hx).elim
  | succ k ih =>
    intro c x hx
    obtain ⟨rr, hr, hc⟩ := hp_lp_1 hx
    have e2 := t_X11_indexOf_5 I T_v0 hr
    rcases hc with ⟨s3, e3, hx3⟩ | e3
    · subst e3
      exact hp_lp_s e2 (ih _ _ hx3)
    · subst e3
      exact hp_lp_x e2
def g_X11_indexOf_0 (n : Nat) (v0 : Nat) (v1 : Int32) (v2 : Int32) (s : st_T) : Option (Int32) :=
  (hp_lp (gL_X11_indexOf_5 n v0 v1 v2 s) n ((0 : Int32), (0 : Int32))).bind fun x1 =>
  some x1
set_option maxHeartbeats 1000000 in
theorem t_X11_indexOf_0 {tg r : Nat → Nat} {h : hp_H} {s : st_T} {n : Nat} {v0 : Nat} {v1 : Int32} {v2 : Int32} (I : iso tg r h s) (T_v0 : tg v0 = 21) {res : Int32} (hm : g_X11_indexOf_0 n v0 v1 v2 s = some res) : f_X11_indexOf_0 n (r v0) v1 v2 h = some res := by
  unfold g_X11_indexOf_0 at hm
  unfold f_X11_indexOf_0
  obtain ⟨x1, hx1, hm⟩ := hp_bd hm
  refine tr_eq0 (tl_X11_indexOf_5 I T_v0 n _ _ hx1) ?_
  obtain rfl := Option.some.inj hm
  rfl
def g_X11_indexOf (n : Nat) (v0 : Nat) (v1 : Int32) (v2 : Int32) (s : st_T) : Option (Int32) := g_X11_indexOf_0 n v0 v1 v2 s
theorem t_X11_indexOf {tg r : Nat → Nat} {h : hp_H} {s : st_T} {n : Nat} {v0 : Nat} {v1 : Int32} {v2 : Int32} (I : iso tg r h s) (T_v0 : tg v0 = 21) {res : Int32} (hm : g_X11_indexOf n v0 v1 v2 s = some res) : f_X11_indexOf n (r v0) v1 v2 h = some res := by
  unfold g_X11_indexOf at hm
  unfold f_X11_indexOf
  refine tr_eq0 (t_ck I T_v0 (by decide)) ?_
  exact t_X11_indexOf_0 I T_v0 hm
abbrev eX_X11_compressed_34 (x : st_T) (h2 : hp_H) : hp_H := (fun y => h2) x
abbrev sX_X11_compressed_34 (x : st_T) : st_T := (fun y => y) x
abbrev eR_X11_compressed_34 (x : (Int32 × st_T) ⊕ (st_T)) (h2 : hp_H) : (Int32 × hp_H) ⊕ (hp_H) := Sum.elim (fun y => .inl (y.1, h2)) (fun y => .inr (eX_X11_compressed_34 y h2)) x
abbrev sR_X11_compressed_34 (x : (Int32 × st_T) ⊕ (st_T)) : st_T := Sum.elim (fun y => y.2) sX_X11_compressed_34 x
def g_X11_compressed_34 (n : Nat) (v0 : Nat) (v1 : Int32) (v3 : Int32) (v4 : Int32) (v5 : Int32) (s : st_T) : Option ((Int32 × st_T) ⊕ (st_T)) :=
  if (200 : Int32) ≤ v5 then
    some (.inr s)
  else
    (uA 0 s (gP s v0 78) v5 (0 : Int32)).bind fun w2 =>
    some (.inl ((v5 + (1 : Int32)), w2))
set_option maxHeartbeats 1000000 in
theorem t_X11_compressed_34 {tg r : Nat → Nat} {h hb : hp_H} {s sb : st_T} {n : Nat} {v0 : Nat} {v1 : Int32} {v3 : Int32} {v4 : Int32} {v5 : Int32} (I : iso tg r h s) (F : isf tg r hb h sb s) (T_v0 : tg v0 = 21) {res : (Int32 × st_T) ⊕ (st_T)} (hm : g_X11_compressed_34 n v0 v1 v3 v4 v5 s = some res) : ∃ h2, f_X11_compressed_34 n (r v0) v1 v3 v4 v5 h = some (eR_X11_compressed_34 res h2) ∧ iso tg r h2 (sR_X11_compressed_34 res) ∧ isf tg r hb h2 sb (sR_X11_compressed_34 res) := by
  unfold g_X11_compressed_34 at hm
  unfold f_X11_compressed_34
  by_cases c3 : (200 : Int32) ≤ v5
  · rw [if_pos c3] at hm ⊢
    obtain rfl := Option.some.inj hm
    exact ⟨_, rfl, I, F⟩
  · rw [if_neg c3] at hm ⊢
    have T1 : tg (gP s v0 78) = 0 := t_tg (c := 11) I T_v0 (by decide) (by decide) rfl (by decide)
    refine tr_eq (t_fR I T_v0 (by decide) (by decide) (by decide)) ?_
    obtain ⟨w2, hw2, hm⟩ := hp_bd hm
    obtain ⟨_, e2, I, F⟩ := t_sI I F T1 (by decide) rfl hw2
    refine tr_eq e2 ?_
    obtain rfl := Option.some.inj hm
    exact ⟨_, rfl, I, F⟩
def gL_X11_compressed_34 (n : Nat) (v0 : Nat) (v1 : Int32) (v3 : Int32) (v4 : Int32) (c : Int32 × st_T) : Option ((Int32 × st_T) ⊕ (st_T)) := g_X11_compressed_34 n v0 v1 v3 v4 c.1 c.2
theorem tl_X11_compressed_34 {tg r : Nat → Nat} {hb : hp_H} {sb : st_T} {n : Nat} {v0 : Nat} {v1 : Int32} {v3 : Int32} {v4 : Int32} (T_v0 : tg v0 = 21) : ∀ (k : Nat) (c0 : Int32) (h : hp_H) (s : st_T) (x : st_T), iso tg r h s → isf tg r hb h sb s → hp_lp (gL_X11_compressed_34 n v0 v1 v3 v4) k (c0, s) = some x → ∃ h2, hp_lp (fL_X11_compressed_34 n (r v0) v1 v3 v4) k (c0, h) = some (eX_X11_compressed_34 x h2) ∧ iso tg r h2 (sX_X11_compressed_34 x) ∧ isf tg r hb h2 sb (sX_X11_compressed_34 x) := by
  intro k
  induction k with
  | zero => intro c0 h s x I F hx; exact (hp_lp_0 hx).elim
  | succ k ih =>
    intro c0 h s x I F hx
    obtain ⟨rr, hr, hc⟩ := hp_lp_1 hx
    obtain ⟨h2, e2, I2, F2⟩ := t_X11_compressed_34 I F T_v0 hr
    rcases hc with ⟨s3, e3, hx3⟩ | e3
    · subst e3
      obtain ⟨h3, e4, I3, F3⟩ := ih _ h2 _ x I2 F2 hx3
      exact ⟨h3, hp_lp_s e2 e4, I3, F3⟩
    · subst e3
      exact ⟨h2, hp_lp_x e2, I2, F2⟩
abbrev eX_X11_compressed_59 (x : Int32 × st_T) (h2 : hp_H) : Int32 × hp_H := (fun y => (y.1, h2)) x
abbrev sX_X11_compressed_59 (x : Int32 × st_T) : st_T := (fun y => y.2) x
abbrev eR_X11_compressed_59 (x : (Int32 × Int32 × st_T) ⊕ (Int32 × st_T)) (h2 : hp_H) : (Int32 × Int32 × hp_H) ⊕ (Int32 × hp_H) := Sum.elim (fun y => .inl (y.1, y.2.1, h2)) (fun y => .inr (eX_X11_compressed_59 y h2)) x
abbrev sR_X11_compressed_59 (x : (Int32 × Int32 × st_T) ⊕ (Int32 × st_T)) : st_T := Sum.elim (fun y => y.2.2) sX_X11_compressed_59 x
def g_X11_compressed_141 (n : Nat) (v0 : Nat) (v1 : Int32) (v3 : Int32) (v4 : Int32) (v5 : Int32) (s : st_T) : Option ((Int32 × Int32 × st_T) ⊕ (Int32 × st_T)) :=
  some (.inl (v4, (v5 + (1 : Int32)), s))
set_option maxHeartbeats 1000000 in
theorem t_X11_compressed_141 {tg r : Nat → Nat} {h hb : hp_H} {s sb : st_T} {n : Nat} {v0 : Nat} {v1 : Int32} {v3 : Int32} {v4 : Int32} {v5 : Int32} (I : iso tg r h s) (F : isf tg r hb h sb s) (T_v0 : tg v0 = 21) {res : (Int32 × Int32 × st_T) ⊕ (Int32 × st_T)} (hm : g_X11_compressed_141 n v0 v1 v3 v4 v5 s = some res) : ∃ h2, f_X11_compressed_141 n (r v0) v1 v3 v4 v5 h = some (eR_X11_compressed_59 res h2) ∧ iso tg r h2 (sR_X11_compressed_59 res) ∧ isf tg r hb h2 sb (sR_X11_compressed_59 res) := by
  unfold g_X11_compressed_141 at hm
  unfold f_X11_compressed_141
  obtain rfl := Option.some.inj hm
  exact ⟨_, rfl, I, F⟩
def g_X11_compressed_59 (n : Nat) (v0 : Nat) (v1 : Int32) (v3 : Int32) (v4 : Int32) (v5 : Int32) (s : st_T) : Option ((Int32 × Int32 × st_T) ⊕ (Int32 × st_T)) :=
  if (gF s v0 85) ≤ v5 then
    some (.inr (v4, s))
  else
    (gA s (gP s v0 84) v5).bind fun x2 =>
    if (1000 : Int32) ≤ x2 then
      g_X11_compressed_141 n v0 v1 v3 v4 v5 s
    else
      (gA s (gP s v0 84) v5).bind fun x5 =>
      (gA s (gP s v0 49) x5).bind fun x6 =>
      (g_X11_indexOf n v0 v1 x6 s).bind fun x7 =>
      if x7 = 0 then
        (gA s (gP s v0 78) x6).bind fun x9 =>
        if x9 = 0 then
          (uA 0 s (gP s v0 78) x6 (v3 + (v4 + (1 : Int32)))).bind fun w11 =>
          (g_X11_sayLabel n v0 x6 w11).bind fun x12 =>
          (g_X11_say n v0 (32 : Int32) x12).bind fun x13 =>
          g_X11_compressed_141 n v0 v1 v3 (v4 + (1 : Int32)) v5 x13
        else
          g_X11_compressed_141 n v0 v1 v3 v4 v5 s
      else
        g_X11_compressed_141 n v0 v1 v3 v4 v5 s
set_option maxHeartbeats 1000000 in
theorem t_X11_compressed_59 {tg r : Nat → Nat} {h hb : hp_H} {s sb : st_T} {n : Nat} {v0 : Nat} {v1 : Int32} {v3 : Int32} {v4 : Int32} {v5 : Int32} (I : iso tg r h s) (F : isf tg r hb h sb s) (T_v0 : tg v0 = 21) {res : (Int32 × Int32 × st_T) ⊕ (Int32 × st_T)} (hm : g_X11_compressed_59 n v0 v1 v3 v4 v5 s = some res) : ∃ h2, f_X11_compressed_59 n (r v0) v1 v3 v4 v5 h = some (eR_X11_compressed_59 res h2) ∧ iso tg r h2 (sR_X11_compressed_59 res) ∧ isf tg r hb h2 sb (sR_X11_compressed_59 res) := by
  unfold g_X11_compressed_59 at hm
  unfold f_X11_compressed_59
  refine tr_eq (t_fI I T_v0 (by decide) (by decide) rfl) ?_
  by_cases c17 : (gF s v0 85) ≤ v5
  · rw [if_pos c17] at hm ⊢
    obtain rfl := Option.some.inj hm
    exact ⟨_, rfl, I, F⟩
  · rw [if_neg c17] at hm ⊢
    have T1 : tg (gP s v0 84) = 0 := t_tg (c := 11) I T_v0 (by decide) (by decide) rfl (by decide)
    refine tr_eq (t_fR I T_v0 (by decide) (by decide) (by decide)) ?_
    obtain ⟨x2, hx2, hm⟩ := hp_bd hm
    refine tr_eq (t_aI I T1 (by decide) rfl hx2) ?_
    by_cases c16 : (1000 : Int32) ≤ x2
    · rw [if_pos c16] at hm ⊢
      exact t_X11_compressed_141 I F T_v0 hm
    · rw [if_neg c16] at hm ⊢
      have T3 : tg (gP s v0 49) = 0 := t_tg (c := 11) I T_v0 (by decide) (by decide) rfl (by decide)
      refine tr_eq (t_fR I T_v0 (by decide) (by decide) (by decide)) ?_
      have T4 : tg (gP s v0 84) = 0 := t_tg (c := 11) I T_v0 (by decide) (by decide) rfl (by decide)
      refine tr_eq (t_fR I T_v0 (by decide) (by decide) (by decide)) ?_
      obtain ⟨x5, hx5, hm⟩ := hp_bd hm
      refine tr_eq (t_aI I T4 (by decide) rfl hx5) ?_
      obtain ⟨x6, hx6, hm⟩ := hp_bd hm
      refine tr_eq (t_aI I T3 (by decide) rfl hx6) ?_
      obtain ⟨x7, hx7, hm⟩ := hp_bd hm
      refine tr_eq (t_X11_indexOf I T_v0 hx7) ?_
      by_cases c15 : x7 = 0
      · rw [if_pos c15] at hm ⊢
        have T8 : tg (gP s v0 78) = 0 := t_tg (c := 11) I T_v0 (by decide) (by decide) rfl (by decide)
        refine tr_eq (t_fR I T_v0 (by decide) (by decide) (by decide)) ?_
        obtain ⟨x9, hx9, hm⟩ := hp_bd hm
        refine tr_eq (t_aI I T8 (by decide) rfl hx9) ?_
        by_cases c14 : x9 = 0
        · rw [if_pos c14] at hm ⊢
          have T10 : tg (gP s v0 78) = 0 := t_tg (c := 11) I T_v0 (by decide) (by decide) rfl (by decide)
          refine tr_eq (t_fR I T_v0 (by decide) (by decide) (by decide)) ?_
          obtain ⟨w11, hw11, hm⟩ := hp_bd hm
          obtain ⟨_, e2, I, F⟩ := t_sI I F T10 (by decide) rfl hw11
          refine tr_eq e2 ?_
          obtain ⟨x12, hx12, hm⟩ := hp_bd hm
          obtain ⟨_, e2, I, F⟩ := t_X11_sayLabel I F T_v0 hx12
          refine tr_eq e2 ?_
          obtain ⟨x13, hx13, hm⟩ := hp_bd hm
          obtain ⟨_, e2, I, F⟩ := t_X11_say I F T_v0 hx13
          refine tr_eq e2 ?_
          exact t_X11_compressed_141 I F T_v0 hm
        · rw [if_neg c14] at hm ⊢
          exact t_X11_compressed_141 I F T_v0 hm
      · rw [if_neg c15] at hm ⊢
        exact t_X11_compressed_141 I F T_v0 hm
def gL_X11_compressed_59 (n : Nat) (v0 : Nat) (v1 : Int32) (v3 : Int32) (c : Int32 × Int32 × st_T) : Option ((Int32 × Int32 × st_T) ⊕ (Int32 × st_T)) := g_X11_compressed_59 n v0 v1 v3 c.1 c.2.1 c.2.2
theorem tl_X11_compressed_59 {tg r : Nat → Nat} {hb : hp_H} {sb : st_T} {n : Nat} {v0 : Nat} {v1 : Int32} {v3 : Int32} (T_v0 : tg v0 = 21) : ∀ (k : Nat) (c0 : Int32) (c1 : Int32) (h : hp_H) (s : st_T) (x : Int32 × st_T), iso tg r h s → isf tg r hb h sb s → hp_lp (gL_X11_compressed_59 n v0 v1 v3) k (c0, c1, s) = some x → ∃ h2, hp_lp (fL_X11_compressed_59 n (r v0) v1 v3) k (c0, c1, h) = some (eX_X11_compressed_59 x h2) ∧ iso tg r h2 (sX_X11_compressed_59 x) ∧ isf tg r hb h2 sb (sX_X11_compressed_59 x) := by
  intro k
  induction k with
  | zero => intro c0 c1 h s x I F hx; exact (hp_lp_0 hx).elim
  | succ k ih =>
    intro c0 c1 h s x I F hx
    obtain ⟨rr, hr, hc⟩ := hp_lp_1 hx
    obtain ⟨h2, e2, I2, F2⟩ := t_X11_compressed_59 I F T_v0 hr
    rcases hc with ⟨s3, e3, hx3⟩ | e3
    · subst e3
      obtain ⟨h3, e4, I3, F3⟩ := ih _ _ h2 _ x I2 F2 hx3
      exact ⟨h3, hp_lp_s e2 e4, I3, F3⟩
    · subst e3
      exact ⟨h2, hp_lp_x e2, I2, F2⟩
abbrev eX_X11_compressed_165 (x : st_T) (h2 : hp_H) : hp_H := (fun y => h2) x
abbrev sX_X11_compressed_165 (x : st_T) : st_T := (fun y => y) x
abbrev eR_X11_compressed_165 (x : (Int32 × Int32 × st_T) ⊕ (st_T)) (h2 : hp_H) : (Int32 × Int32 × hp_H) ⊕ (hp_H) := Sum.elim (fun y => .inl (y.1, y.2.1, h2)) (fun y => .inr (eX_X11_compressed_165 y h2)) x
abbrev sR_X11_compressed_165 (x : (Int32 × Int32 × st_T) ⊕ (st_T)) : st_T := Sum.elim (fun y => y.2.2) sX_X11_compressed_165 x
def g_X11_compressed_288 (n : Nat) (v0 : Nat) (v1 : Int32) (v3 : Int32) (v4 : Int32) (v5 : Int32) (v6 : Int32) (s : st_T) : Option ((Int32 × Int32 × st_T) ⊕ (st_T)) :=
  some (.inl (v5, (v6 + (1 : Int32)), s))
set_option maxHeartbeats 1000000 in
theorem t_X11_compressed_288 {tg r : Nat → Nat} {h hb : hp_H} {s sb : st_T} {n : Nat} {v0 : Nat} {v1 : Int32} {v3 : Int32} {v4 : Int32} {v5 : Int32} {v6 : Int32} (I : iso tg r h s) (F : isf tg r hb h sb s) (T_v0 : tg v0 = 21) {res : (Int32 × Int32 × st_T) ⊕ (st_T)} (hm : g_X11_compressed_288 n v0 v1 v3 v4 v5 v6 s = some res) : ∃ h2, f_X11_compressed_288 n (r v0) v1 v3 v4 v5 v6 h = some (eR_X11_compressed_165 res h2) ∧ iso tg r h2 (sR_X11_compressed_165 res) ∧ isf tg r hb h2 sb (sR_X11_compressed_165 res) := by
  unfold g_X11_compressed_288 at hm
  unfold f_X11_compressed_288
  obtain rfl := Option.some.inj hm
  exact ⟨_, rfl, I, F⟩
def g_X11_compressed_251 (n : Nat) (v0 : Nat) (v1 : Int32) (v3 : Int32) (v4 : Int32) (v5 : Int32) (v6 : Int32) (v7 : Int32) (s0 : Int32) (s1 : Nat) (s : st_T) : Option ((Int32 × Int32 × st_T) ⊕ (st_T)) :=
  (g_X11_sayNumber n s1 s0 s).bind fun x1 =>
  (gA x1 (gP x1 v0 76) v7).bind fun x3 =>
  if x3 ≤ (1 : Int32) then
    g_X11_compressed_288 n v0 v1 v3 v4 v5 v6 x1
  else
    (uA 0 x1 (gP x1 v0 77) v7 ((v3 + v4) + (v5 + (1 : Int32)))).bind fun w5 =>
    (g_X11_say n v0 (90 : Int32) w5).bind fun x6 =>
    g_X11_compressed_288 n v0 v1 v3 v4 (v5 + (1 : Int32)) v6 x6
set_option maxHeartbeats 1000000 in
theorem t_X11_compressed_251 {tg r : Nat → Nat} {h hb : hp_H} {s sb : st_T} {n : Nat} {v0 : Nat} {v1 : Int32} {v3 : Int32} {v4 : Int32} {v5 : Int32} {v6 : Int32} {v7 : Int32} {s0 : Int32} {s1 : Nat} (I : iso tg r h s) (F : isf tg r hb h sb s) (T_v0 : tg v0 = 21) (T_s1 : tg s1 = 21) {res : (Int32 × Int32 × st_T) ⊕ (st_T)} (hm : g_X11_compressed_251 n v0 v1 v3 v4 v5 v6 v7 s0 s1 s = some res) : ∃ h2, f_X11_compressed_251 n (r v0) v1 v3 v4 v5 v6 v7 s0 (r s1) h = some (eR_X11_compressed_165 res h2) ∧ iso tg r h2 (sR_X11_compressed_165 res) ∧ isf tg r hb h2 sb (sR_X11_compressed_165 res) := by
  unfold g_X11_compressed_251 at hm
  unfold f_X11_compressed_251
  obtain ⟨x1, hx1, hm⟩ := hp_bd hm
  obtain ⟨_, e2, I, F⟩ := t_X11_sayNumber I F T_s1 hx1
  refine tr_eq e2 ?_
  have T2 : tg (gP x1 v0 76) = 0 := t_tg (c := 11) I T_v0 (by decide) (by decide) rfl (by decide)
  refine tr_eq (t_fR I T_v0 (by decide) (by decide) (by decide)) ?_
  obtain ⟨x3, hx3, hm⟩ := hp_bd hm
  refine tr_eq (t_aI I T2 (by decide) rfl hx3) ?_
  by_cases c7 : x3 ≤ (1 : Int32)
  · rw [if_pos c7] at hm ⊢
    exact t_X11_compressed_288 I F T_v0 hm
  · rw [if_neg c7] at hm ⊢
    have T4 : tg (gP x1 v0 77) = 0 := t_tg (c := 11) I T_v0 (by decide) (by decide) rfl (by decide)
    refine tr_eq (t_fR I T_v0 (by decide) (by decide) (by decide)) ?_
    obtain ⟨w5, hw5, hm⟩ := hp_bd hm
    obtain ⟨_, e2, I, F⟩ := t_sI I F T4 (by decide) rfl hw5
    refine tr_eq e2 ?_
    obtain ⟨x6, hx6, hm⟩ := hp_bd hm
    obtain ⟨_, e2, I, F⟩ := t_X11_say I F T_v0 hx6
    refine tr_eq e2 ?_
    exact t_X11_compressed_288 I F T_v0 hm
def g_X11_compressed_165 (n : Nat) (v0 : Nat) (v1 : Int32) (v3 : Int32) (v4 : Int32) (v5 : Int32) (v6 : Int32) (s : st_T) : Option ((Int32 × Int32 × st_T) ⊕ (st_T)) :=
  if (gF s v0 85) ≤ v6 then
    some (.inr s)
  else
    (gA s (gP s v0 84) v6).bind fun x2 =>
    (gA s (gP s v0 84) v6).bind fun x4 =>
    if x4 < (1000 : Int32) then
      (gA s (gP s v0 49) (x2 - x2 / (1000 : Int32) * (1000 : Int32))).bind fun x6 =>
      (g_X11_indexOf n v0 v1 x6 s).bind fun x7 =>
      if x7 ≤ 0 then
        (gA s (gP s v0 78) x6).bind fun x9 =>
        g_X11_compressed_251 n v0 v1 v3 v4 v5 v6 (x2 - x2 / (1000 : Int32) * (1000 : Int32)) x9 v0 s
      else
        (g_X11_indexOf n v0 v1 x6 s).bind fun x10 =>
        g_X11_compressed_251 n v0 v1 v3 v4 v5 v6 (x2 - x2 / (1000 : Int32) * (1000 : Int32)) x10 v0 s
    else
      (gA s (gP s v0 77) (x2 - x2 / (1000 : Int32) * (1000 : Int32))).bind fun x13 =>
      (g_X11_sayNumber n v0 x13 s).bind fun x14 =>
      g_X11_compressed_288 n v0 v1 v3 v4 v5 v6 x14
set_option maxHeartbeats 1000000 in
theorem t_X11_compressed_165 {tg r : Nat → Nat} {h hb : hp_H} {s sb : st_T} {n : Nat} {v0 : Nat} {v1 : Int32} {v3 : Int32} {v4 : Int32} {v5 : Int32} {v6 : Int32} (I : iso tg r h s) (F : isf tg r hb h sb s) (T_v0 : tg v0 = 21) {res : (Int32 × Int32 × st_T) ⊕ (st_T)} (hm : g_X11_compressed_165 n v0 v1 v3 v4 v5 v6 s = some res) : ∃ h2, f_X11_compressed_165 n (r v0) v1 v3 v4 v5 v6 h = some (eR_X11_compressed_165 res h2) ∧ iso tg r h2 (sR_X11_compressed_165 res) ∧ isf tg r hb h2 sb (sR_X11_compressed_165 res) := by
  unfold g_X11_compressed_165 at hm
  unfold f_X11_compressed_165
  refine tr_eq (t_fI I T_v0 (by decide) (by decide) rfl) ?_
  by_cases c16 : (gF s v0 85) ≤ v6
  · rw [if_pos c16] at hm ⊢
    obtain rfl := Option.some.inj hm
    exact ⟨_, rfl, I, F⟩
  · rw [if_neg c16] at hm ⊢
    have T1 : tg (gP s v0 84) = 0 := t_tg (c := 11) I T_v0 (by decide) (by decide) rfl (by decide)
    refine tr_eq (t_fR I T_v0 (by decide) (by decide) (by decide)) ?_
    obtain ⟨x2, hx2, hm⟩ := hp_bd hm
    refine tr_eq (t_aI I T1 (by decide) rfl hx2) ?_
    have T3 : tg (gP s v0 84) = 0 := t_tg (c := 11) I T_v0 (by decide) (by decide) rfl (by decide)
    refine tr_eq (t_fR I T_v0 (by decide) (by decide) (by decide)) ?_
    obtain ⟨x4, hx4, hm⟩ := hp_bd hm
    refine tr_eq (t_aI I T3 (by decide) rfl hx4) ?_
    by_cases c15 : x4 < (1000 : Int32)
    · rw [if_pos c15] at hm ⊢
      have T5 : tg (gP s v0 49) = 0 := t_tg (c := 11) I T_v0 (by decide) (by decide) rfl (by decide)
      refine tr_eq (t_fR I T_v0 (by decide) (by decide) (by decide)) ?_
      obtain ⟨x6, hx6, hm⟩ := hp_bd hm
      refine tr_eq (t_aI I T5 (by decide) rfl hx6) ?_
      obtain ⟨x7, hx7, hm⟩ := hp_bd hm
      refine tr_eq (t_X11_indexOf I T_v0 hx7) ?_
      by_cases c11 : x7 ≤ 0
      · rw [if_pos c11] at hm ⊢
        have T8 : tg (gP s v0 78) = 0 := t_tg (c := 11) I T_v0 (by decide) (by decide) rfl (by decide)
        refine tr_eq (t_fR I T_v0 (by decide) (by decide) (by decide)) ?_
        obtain ⟨x9, hx9, hm⟩ := hp_bd hm
        refine tr_eq (t_aI I T8 (by decide) rfl hx9) ?_
        exact t_X11_compressed_251 I F T_v0 T_v0 hm
      · rw [if_neg c11] at hm ⊢
        obtain ⟨x10, hx10, hm⟩ := hp_bd hm
        refine tr_eq (t_X11_indexOf I T_v0 hx10) ?_
        exact t_X11_compressed_251 I F T_v0 T_v0 hm
    · rw [if_neg c15] at hm ⊢
      have T12 : tg (gP s v0 77) = 0 := t_tg (c := 11) I T_v0 (by decide) (by decide) rfl (by decide)
      refine tr_eq (t_fR I T_v0 (by decide) (by decide) (by decide)) ?_
      obtain ⟨x13, hx13, hm⟩ := hp_bd hm
      refine tr_eq (t_aI I T12 (by decide) rfl hx13) ?_
      obtain ⟨x14, hx14, hm⟩ := hp_bd hm
      obtain ⟨_, e2, I, F⟩ := t_X11_sayNumber I F T_v0 hx14
      refine tr_eq e2 ?_
      exact t_X11_compressed_288 I F T_v0 hm
def gL_X11_compressed_165 (n : Nat) (v0 : Nat) (v1 : Int32) (v3 : Int32) (v4 : Int32) (c : Int32 × Int32 × st_T) : Option ((Int32 × Int32 × st_T) ⊕ (st_T)) := g_X11_compressed_165 n v0 v1 v3 v4 c.1 c.2.1 c.2.2
theorem tl_X11_compressed_165 {tg r : Nat → Nat} {hb : hp_H} {sb : st_T} {n : Nat} {v0 : Nat} {v1 : Int32} {v3 : Int32} {v4 : Int32} (T_v0 : tg v0 = 21) : ∀ (k : Nat) (c0 : Int32) (c1 : Int32) (h : hp_H) (s : st_T) (x : st_T), iso tg r h s → isf tg r hb h sb s → hp_lp (gL_X11_compressed_165 n v0 v1 v3 v4) k (c0, c1, s) = some x → ∃ h2, hp_lp (fL_X11_compressed_165 n (r v0) v1 v3 v4) k (c0, c1, h) = some (eX_X11_compressed_165 x h2) ∧ iso tg r h2 (sX_X11_compressed_165 x) ∧ isf tg r hb h2 sb (sX_X11_compressed_165 x) := by
  intro k
  induction k with
  | zero => intro c0 c1 h s x I F hx; exact (hp_lp_0 hx).elim
  | succ k ih =>
    intro c0 c1 h s x I F hx
    obtain ⟨rr, hr, hc⟩ := hp_lp_1 hx
    obtain ⟨h2, e2, I2, F2⟩ := t_X11_compressed_165 I F T_v0 hr
    rcases hc with ⟨s3, e3, hx3⟩ | e3
    · subst e3
      obtain ⟨h3, e4, I3, F3⟩ := ih _ _ h2 _ x I2 F2 hx3
      exact ⟨h3, hp_lp_s e2 e4, I3, F3⟩
    · subst e3
      exact ⟨h2, hp_lp_x e2, I2, F2⟩
def g_X11_compressed_0 (n : Nat) (v0 : Nat) (v1 : Int32) (v2 : Int32) (s : st_T) : Option (Int32 × st_T) :=
  (g_X11_goDown n v0 v2 s).bind fun x1 =>
  (wF x1 v0 82 (0 : Int32)).bind fun w2 =>
  (g_X11_say n v0 (40 : Int32) w2).bind fun x3 =>
  (g_X11_say n v0 (32 : Int32) x3).bind fun x4 =>
  (g_X11_hypotheses n v0 v1 x4).bind fun x5 =>
  (hp_lp (gL_X11_compressed_34 n v0 v1 x5 (0 : Int32)) n ((0 : Int32), x4)).bind fun x6 =>
  (hp_lp (gL_X11_compressed_59 n v0 v1 x5) n ((0 : Int32), (0 : Int32), x6)).bind fun x8 =>
  (g_X11_say n v0 (41 : Int32) x8.2).bind fun x10 =>
  (g_X11_say n v0 (32 : Int32) x10).bind fun x11 =>
  (hp_lp (gL_X11_compressed_165 n v0 v1 x5 x8.1) n ((0 : Int32), (0 : Int32), x11)).bind fun x12 =>
  (g_X11_told n v0 x12).bind fun x14 =>
  some (x14.1, x14.2)
set_option maxHeartbeats 1000000 in
theorem t_X11_compressed_0 {tg r : Nat → Nat} {h hb : hp_H} {s sb : st_T} {n : Nat} {v0 : Nat} {v1 : Int32} {v2 : Int32} (I : iso tg r h s) (F : isf tg r hb h sb s) (T_v0 : tg v0 = 21) {res : Int32 × st_T} (hm : g_X11_compressed_0 n v0 v1 v2 s = some res) : ∃ h2, f_X11_compressed_0 n (r v0) v1 v2 h = some ((res.1, h2)) ∧ iso tg r h2 res.2 ∧ isf tg r hb h2 sb res.2 := by
  unfold g_X11_compressed_0 at hm
  unfold f_X11_compressed_0
  obtain ⟨x1, hx1, hm⟩ := hp_bd hm
  obtain ⟨_, e2, I, F⟩ := t_X11_goDown I F T_v0 hx1
  refine tr_eq e2 ?_
  obtain ⟨w2, hw2, hm⟩ := hp_bd hm
  obtain ⟨_, e2, I, F⟩ := t_wF (c := 11) (k := 82) I F T_v0 (by decide) (by decide) rfl hw2
  refine tr_eq e2 ?_
  obtain ⟨x3, hx3, hm⟩ := hp_bd hm
  obtain ⟨_, e2, I, F⟩ := t_X11_say I F T_v0 hx3
  refine tr_eq e2 ?_
  obtain ⟨x4, hx4, hm⟩ := hp_bd hm
  obtain ⟨_, e2, I, F⟩ := t_X11_say I F T_v0 hx4
  refine tr_eq e2 ?_
  obtain ⟨x5, hx5, hm⟩ := hp_bd hm
  refine tr_eq (t_X11_hypotheses I T_v0 hx5) ?_
  obtain ⟨x6, hx6, hm⟩ := hp_bd hm
  obtain ⟨_, e2, I, F⟩ := tl_X11_compressed_34 T_v0 n _ _ _ _ I F hx6
  refine tr_eq e2 ?_
  try dsimp only [eX_X11_compressed_34]
  replace I : iso tg _ _ x6 := I
  replace F : isf tg _ _ _ _ x6 := F
  obtain ⟨x8, hx8, hm⟩ := hp_bd hm
  obtain ⟨_, e2, I, F⟩ := tl_X11_compressed_59 T_v0 n _ _ _ _ _ I F hx8
  refine tr_eq e2 ?_
  try dsimp only [eX_X11_compressed_59]
  replace I : iso tg _ _ x8.2 := I
  replace F : isf tg _ _ _ _ x8.2 := F
  obtain ⟨x10, hx10, hm⟩ := hp_bd hm
  obtain ⟨_, e2, I, F⟩ := t_X11_say I F T_v0 hx10
  refine tr_eq e2 ?_
  obtain ⟨x11, hx11, hm⟩ := hp_bd hm
  obtain ⟨_, e2, I, F⟩ := t_X11_say I F T_v0 hx11
  refine tr_eq e2 ?_
  obtain ⟨x12, hx12, hm⟩ := hp_bd hm
  obtain ⟨_, e2, I, F⟩ := tl_X11_compressed_165 T_v0 n _ _ _ _ _ I F hx12
  refine tr_eq e2 ?_
  try dsimp only [eX_X11_compressed_165]
  replace I : iso tg _ _ x12 := I
  replace F : isf tg _ _ _ _ x12 := F
  obtain ⟨x14, hx14, hm⟩ := hp_bd hm
  obtain ⟨_, e2, I, F⟩ := t_X11_told I F T_v0 hx14
  refine tr_eq e2 ?_
  try dsimp only
  obtain rfl := Option.some.inj hm
  exact ⟨_, rfl, I, F⟩
def g_X11_compressed (n : Nat) (v0 : Nat) (v1 : Int32) (v2 : Int32) (s : st_T) : Option (Int32 × st_T) := g_X11_compressed_0 n v0 v1 v2 s
theorem t_X11_compressed {tg r : Nat → Nat} {h hb : hp_H} {s sb : st_T} {n : Nat} {v0 : Nat} {v1 : Int32} {v2 : Int32} (I : iso tg r h s) (F : isf tg r hb h sb s) (T_v0 : tg v0 = 21) {res : Int32 × st_T} (hm : g_X11_compressed n v0 v1 v2 s = some res) : ∃ h2, f_X11_compressed n (r v0) v1 v2 h = some ((res.1, h2)) ∧ iso tg r h2 res.2 ∧ isf tg r hb h2 sb res.2 := by
  unfold g_X11_compressed at hm
  unfold f_X11_compressed
  refine tr_eq (t_ck I T_v0 (by decide)) ?_
  exact t_X11_compressed_0 I F T_v0 hm
def g_X11_tell_0 (n : Nat) (v0 : Nat) (v1 : Int32) (v2 : Int32) (s : st_T) : Option (Int32 × st_T) :=
  (g_X11_isKind n v0 v1 (3 : Int32) s).bind fun x1 =>
  if x1 = 0 then
    some ((-1 : Int32), s)
  else
    if v2 < 0 then
      some ((-1 : Int32), s)
    else
      if v2 ≤ (1 : Int32) then
        (g_X11_judge n v0 v1 s).bind fun x2 =>
        if x2.1 = 0 then
          (g_X11_compare n v0 x2.2).bind fun x3 =>
          (gA x3 (gP x3 v0 58) (0 : Int32)).bind fun x5 =>
          if v2 = 0 then
            (g_X11_writeOut n v0 x5 x3).bind fun x7 =>
            some (x7.1, x7.2)
          else
            (g_X11_compressed n v0 v1 x5 x3).bind fun x6 =>
            some (x6.1, x6.2)
        else
          some ((-2 : Int32), x2.2)
      else
        some ((-1 : Int32), s)
set_option maxHeartbeats 1000000 in
theorem t_X11_tell_0 {tg r : Nat → Nat} {h hb : hp_H} {s sb : st_T} {n : Nat} {v0 : Nat} {v1 : Int32} {v2 : Int32} (I : iso tg r h s) (F : isf tg r hb h sb s) (T_v0 : tg v0 = 21) {res : Int32 × st_T} (hm : g_X11_tell_0 n v0 v1 v2 s = some res) : ∃ h2, f_X11_tell_0 n (r v0) v1 v2 h = some ((res.1, h2)) ∧ iso tg r h2 res.2 ∧ isf tg r hb h2 sb res.2 := by
  unfold g_X11_tell_0 at hm
  unfold f_X11_tell_0
  obtain ⟨x1, hx1, hm⟩ := hp_bd hm
  refine tr_eq (t_X11_isKind I T_v0 hx1) ?_
  by_cases c12 : x1 = 0
  · rw [if_pos c12] at hm ⊢
    obtain rfl := Option.some.inj hm
    exact ⟨_, rfl, I, F⟩
  · rw [if_neg c12] at hm ⊢
    by_cases c11 : v2 < 0
    · rw [if_pos c11] at hm ⊢
      obtain rfl := Option.some.inj hm
      exact ⟨_, rfl, I, F⟩
    · rw [if_neg c11] at hm ⊢
      by_cases c10 : v2 ≤ (1 : Int32)
      · rw [if_pos c10] at hm ⊢
        obtain ⟨x2, hx2, hm⟩ := hp_bd hm
        obtain ⟨_, e2, I, F⟩ := t_X11_judge I F T_v0 hx2
        refine tr_eq e2 ?_
        try dsimp only
        by_cases c9 : x2.1 = 0
        · rw [if_pos c9] at hm ⊢
          obtain ⟨x3, hx3, hm⟩ := hp_bd hm
          obtain ⟨_, e2, I, F⟩ := t_X11_compare I F T_v0 hx3
          refine tr_eq e2 ?_
          have T4 : tg (gP x3 v0 58) = 0 := t_tg (c := 11) I T_v0 (by decide) (by decide) rfl (by decide)
          refine tr_eq (t_fR I T_v0 (by decide) (by decide) (by decide)) ?_
          obtain ⟨x5, hx5, hm⟩ := hp_bd hm
          refine tr_eq (t_aI I T4 (by decide) rfl hx5) ?_
          by_cases c8 : v2 = 0
          · rw [if_pos c8] at hm ⊢
            obtain ⟨x7, hx7, hm⟩ := hp_bd hm
            obtain ⟨_, e2, I, F⟩ := t_X11_writeOut I F T_v0 hx7
            refine tr_eq e2 ?_
            try dsimp only
            obtain rfl := Option.some.inj hm
            exact ⟨_, rfl, I, F⟩
          · rw [if_neg c8] at hm ⊢
            obtain ⟨x6, hx6, hm⟩ := hp_bd hm
            obtain ⟨_, e2, I, F⟩ := t_X11_compressed I F T_v0 hx6
            refine tr_eq e2 ?_
            try dsimp only
            obtain rfl := Option.some.inj hm
            exact ⟨_, rfl, I, F⟩
        · rw [if_neg c9] at hm ⊢
          obtain rfl := Option.some.inj hm
          exact ⟨_, rfl, I, F⟩
      · rw [if_neg c10] at hm ⊢
        obtain rfl := Option.some.inj hm
        exact ⟨_, rfl, I, F⟩
def g_X11_tell (n : Nat) (v0 : Nat) (v1 : Int32) (v2 : Int32) (s : st_T) : Option (Int32 × st_T) := g_X11_tell_0 n v0 v1 v2 s
theorem t_X11_tell {tg r : Nat → Nat} {h hb : hp_H} {s sb : st_T} {n : Nat} {v0 : Nat} {v1 : Int32} {v2 : Int32} (I : iso tg r h s) (F : isf tg r hb h sb s) (T_v0 : tg v0 = 21) {res : Int32 × st_T} (hm : g_X11_tell n v0 v1 v2 s = some res) : ∃ h2, f_X11_tell n (r v0) v1 v2 h = some ((res.1, h2)) ∧ iso tg r h2 res.2 ∧ isf tg r hb h2 sb res.2 := by
  unfold g_X11_tell at hm
  unfold f_X11_tell
  refine tr_eq (t_ck I T_v0 (by decide)) ?_
  exact t_X11_tell_0 I F T_v0 hm
abbrev eX_X11_print_86 (x : st_T) (h2 : hp_H) : hp_H := (fun y => h2) x
abbrev sX_X11_print_86 (x : st_T) : st_T := (fun y => y) x
abbrev eR_X11_print_86 (x : (Int32 × st_T) ⊕ (st_T)) (h2 : hp_H) : (Int32 × hp_H) ⊕ (hp_H) := Sum.elim (fun y => .inl (y.1, h2)) (fun y => .inr (eX_X11_print_86 y h2)) x
abbrev sR_X11_print_86 (x : (Int32 × st_T) ⊕ (st_T)) : st_T := Sum.elim (fun y => y.2) sX_X11_print_86 x
abbrev eX_X11_print_140 (x : st_T) (h2 : hp_H) : hp_H := (fun y => h2) x
abbrev sX_X11_print_140 (x : st_T) : st_T := (fun y => y) x
abbrev eR_X11_print_140 (x : (Int32 × st_T) ⊕ (st_T)) (h2 : hp_H) : (Int32 × hp_H) ⊕ (hp_H) := Sum.elim (fun y => .inl (y.1, h2)) (fun y => .inr (eX_X11_print_140 y h2)) x
abbrev sR_X11_print_140 (x : (Int32 × st_T) ⊕ (st_T)) : st_T := Sum.elim (fun y => y.2) sX_X11_print_140 x
def g_X11_print_140 (n : Nat) (v0 : Nat) (v1 : Int32) (v3 : Int32) (v4 : Int32) (v5 : Int32) (s : st_T) : Option ((Int32 × st_T) ⊕ (st_T)) :=
  (gA s (gP s v0 7) v4).bind fun x2 =>
  if x2 ≤ v5 then
    some (.inr s)
  else
    (gA s (gP s v0 6) v4).bind fun x5 =>
    (gA s (gP s v0 5) ((((8192 : Int32) * (gF s v0 4)) + x5) + v5)).bind fun x6 =>
    (g_X11_say n v0 x6 s).bind fun x7 =>
    some (.inl ((v5 + (1 : Int32)), x7))
set_option maxHeartbeats 1000000 in
theorem t_X11_print_140 {tg r : Nat → Nat} {h hb : hp_H} {s sb : st_T} {n : Nat} {v0 : Nat} {v1 : Int32} {v3 : Int32} {v4 : Int32} {v5 : Int32} (I : iso tg r h s) (F : isf tg r hb h sb s) (T_v0 : tg v0 = 21) {res : (Int32 × st_T) ⊕ (st_T)} (hm : g_X11_print_140 n v0 v1 v3 v4 v5 s = some res) : ∃ h2, f_X11_print_140 n (r v0) v1 v3 v4 v5 h = some (eR_X11_print_140 res h2) ∧ iso tg r h2 (sR_X11_print_140 res) ∧ isf tg r hb h2 sb (sR_X11_print_140 res) := by
  unfold g_X11_print_140 at hm
  unfold f_X11_print_140
  have T1 : tg (gP s v0 7) = 0 := t_tg (c := 11) I T_v0 (by decide) (by decide) rfl (by decide)
  refine tr_eq (t_fR I T_v0 (by decide) (by decide) (by decide)) ?_
  obtain ⟨x2, hx2, hm⟩ := hp_bd hm
  refine tr_eq (t_aI I T1 (by decide) rfl hx2) ?_
  by_cases c8 : x2 ≤ v5
  · rw [if_pos c8] at hm ⊢
    obtain rfl := Option.some.inj hm
    exact ⟨_, rfl, I, F⟩
  · rw [if_neg c8] at hm ⊢
    have T3 : tg (gP s v0 5) = 0 := t_tg (c := 11) I T_v0 (by decide) (by decide) rfl (by decide)
    refine tr_eq (t_fR I T_v0 (by decide) (by decide) (by decide)) ?_
    refine tr_eq (t_fI I T_v0 (by decide) (by decide) rfl) ?_
    have T4 : tg (gP s v0 6) = 0 := t_tg (c := 11) I T_v0 (by decide) (by decide) rfl (by decide)
    refine tr_eq (t_fR I T_v0 (by decide) (by decide) (by decide)) ?_
    obtain ⟨x5, hx5, hm⟩ := hp_bd hm
    refine tr_eq (t_aI I T4 (by decide) rfl hx5) ?_
    obtain ⟨x6, hx6, hm⟩ := hp_bd hm
    refine tr_eq (t_aI I T3 (by decide) rfl hx6) ?_
    obtain ⟨x7, hx7, hm⟩ := hp_bd hm
    obtain ⟨_, e2, I, F⟩ := t_X11_say I F T_v0 hx7
    refine tr_eq e2 ?_
    obtain rfl := Option.some.inj hm
    exact ⟨_, rfl, I, F⟩
def gL_X11_print_140 (n : Nat) (v0 : Nat) (v1 : Int32) (v3 : Int32) (v4 : Int32) (c : Int32 × st_T) : Option ((Int32 × st_T) ⊕ (st_T)) := g_X11_print_140 n v0 v1 v3 v4 c.1 c.2
theorem tl_X11_print_140 {tg r : Nat → Nat} {hb : hp_H} {sb : st_T} {n : Nat} {v0 : Nat} {v1 : Int32} {v3 : Int32} {v4 : Int32} (T_v0 : tg v0 = 21) : ∀ (k : Nat) (c0 : Int32) (h : hp_H) (s : st_T) (x : st_T), iso tg r h s → isf tg r hb h sb s → hp_lp (gL_X11_print_140 n v0 v1 v3 v4) k (c0, s) = some x → ∃ h2, hp_lp (fL_X11_print_140 n (r v0) v1 v3 v4) k (c0, h) = some (eX_X11_print_140 x h2) ∧ iso tg r h2 (sX_X11_print_140 x) ∧ isf tg r hb h2 sb (sX_X11_print_140 x) := by
  intro k
  induction k with
  | zero => intro c0 h s x I F hx; exact (hp_lp_0 hx).elim
  | succ k ih =>
    intro c0 h s x I F hx
    obtain ⟨rr, hr, hc⟩ := hp_lp_1 hx
    obtain ⟨h2, e2, I2, F2⟩ := t_X11_print_140 I F T_v0 hr
    rcases hc with ⟨s3, e3, hx3⟩ | e3
    · subst e3
      obtain ⟨h3, e4, I3, F3⟩ := ih _ h2 _ x I2 F2 hx3
      exact ⟨h3, hp_lp_s e2 e4, I3, F3⟩
    · subst e3
      exact ⟨h2, hp_lp_x e2, I2, F2⟩
def g_X11_print_86 (n : Nat) (v0 : Nat) (v1 : Int32) (v3 : Int32) (s : st_T) : Option ((Int32 × st_T) ⊕ (st_T)) :=
  (g_X11_at n v0 v1 s).bind fun x2 =>
  (gA s (gP s v0 15) x2).bind fun x3 =>
  if x3 ≤ v3 then
    some (.inr s)
  else
    (g_X11_at n v0 v1 s).bind fun x6 =>
    (gA s (gP s v0 14) x6).bind fun x7 =>
    (gA s (gP s v0 19) ((((4096 : Int32) * (gF s v0 4)) + x7) + v3)).bind fun x8 =>
    (hp_lp (gL_X11_print_140 n v0 v1 v3 (((300 : Int32) * (gF s v0 4)) + x8)) n ((0 : Int32), s)).bind fun x9 =>
    (g_X11_say n v0 (32 : Int32) x9).bind fun x11 =>
    some (.inl ((v3 + (1 : Int32)), x11))
set_option maxHeartbeats 1000000 in
theorem t_X11_print_86 {tg r : Nat → Nat} {h hb : hp_H} {s sb : st_T} {n : Nat} {v0 : Nat} {v1 : Int32} {v3 : Int32} (I : iso tg r h s) (F : isf tg r hb h sb s) (T_v0 : tg v0 = 21) {res : (Int32 × st_T) ⊕ (st_T)} (hm : g_X11_print_86 n v0 v1 v3 s = some res) : ∃ h2, f_X11_print_86 n (r v0) v1 v3 h = some (eR_X11_print_86 res h2) ∧ iso tg r h2 (sR_X11_print_86 res) ∧ isf tg r hb h2 sb (sR_X11_print_86 res) := by
  unfold g_X11_print_86 at hm
  unfold f_X11_print_86
  have T1 : tg (gP s v0 15) = 0 := t_tg (c := 11) I T_v0 (by decide) (by decide) rfl (by decide)
  refine tr_eq (t_fR I T_v0 (by decide) (by decide) (by decide)) ?_
  obtain ⟨x2, hx2, hm⟩ := hp_bd hm
  refine tr_eq (t_X11_at I T_v0 hx2) ?_
  obtain ⟨x3, hx3, hm⟩ := hp_bd hm
  refine tr_eq (t_aI I T1 (by decide) rfl hx3) ?_
  by_cases c12 : x3 ≤ v3
  · rw [if_pos c12] at hm ⊢
    obtain rfl := Option.some.inj hm
    exact ⟨_, rfl, I, F⟩
  · rw [if_neg c12] at hm ⊢
    refine tr_eq (t_fI I T_v0 (by decide) (by decide) rfl) ?_
    have T4 : tg (gP s v0 19) = 0 := t_tg (c := 11) I T_v0 (by decide) (by decide) rfl (by decide)
    refine tr_eq (t_fR I T_v0 (by decide) (by decide) (by decide)) ?_
    refine tr_eq (t_fI I T_v0 (by decide) (by decide) rfl) ?_
    have T5 : tg (gP s v0 14) = 0 := t_tg (c := 11) I T_v0 (by decide) (by decide) rfl (by decide)
    refine tr_eq (t_fR I T_v0 (by decide) (by decide) (by decide)) ?_
    obtain ⟨x6, hx6, hm⟩ := hp_bd hm
    refine tr_eq (t_X11_at I T_v0 hx6) ?_
    obtain ⟨x7, hx7, hm⟩ := hp_bd hm
    refine tr_eq (t_aI I T5 (by decide) rfl hx7) ?_
    obtain ⟨x8, hx8, hm⟩ := hp_bd hm
    refine tr_eq (t_aI I T4 (by decide) rfl hx8) ?_
    obtain ⟨x9, hx9, hm⟩ := hp_bd hm
    obtain ⟨_, e2, I, F⟩ := tl_X11_print_140 T_v0 n _ _ _ _ I F hx9
    refine tr_eq e2 ?_
    try dsimp only [eX_X11_print_140]
    replace I : iso tg _ _ x9 := I
    replace F : isf tg _ _ _ _ x9 := F
    obtain ⟨x11, hx11, hm⟩ := hp_bd hm
    obtain ⟨_, e2, I, F⟩ := t_X11_say I F T_v0 hx11
    refine tr_eq e2 ?_
    obtain rfl := Option.some.inj hm
    exact ⟨_, rfl, I, F⟩
def gL_X11_print_86 (n : Nat) (v0 : Nat) (v1 : Int32) (c : Int32 × st_T) : Option ((Int32 × st_T) ⊕ (st_T)) := g_X11_print_86 n v0 v1 c.1 c.2
theorem tl_X11_print_86 {tg r : Nat → Nat} {hb : hp_H} {sb : st_T} {n : Nat} {v0 : Nat} {v1 : Int32} (T_v0 : tg v0 = 21) : ∀ (k : Nat) (c0 : Int32) (h : hp_H) (s : st_T) (x : st_T), iso tg r h s → isf tg r hb h sb s → hp_lp (gL_X11_print_86 n v0 v1) k (c0, s) = some x → ∃ h2, hp_lp (fL_X11_print_86 n (r v0) v1) k (c0, h) = some (eX_X11_print_86 x h2) ∧ iso tg r h2 (sX_X11_print_86 x) ∧ isf tg r hb h2 sb (sX_X11_print_86 x) := by
  intro k
  induction k with
  | zero => intro c0 h s x I F hx; exact (hp_lp_0 hx).elim
  | succ k ih =>
    intro c0 h s x I F hx
    obtain ⟨rr, hr, hc⟩ := hp_lp_1 hx
    obtain ⟨h2, e2, I2, F2⟩ := t_X11_print_86 I F T_v0 hr
    rcases hc with ⟨s3, e3, hx3⟩ | e3
    · subst e3
      obtain ⟨h3, e4, I3, F3⟩ := ih _ h2 _ x I2 F2 hx3
      exact ⟨h3, hp_lp_s e2 e4, I3, F3⟩
    · subst e3
      exact ⟨h2, hp_lp_x e2, I2, F2⟩
def g_X11_print_75 (n : Nat) (v0 : Nat) (v1 : Int32) (s0 : Int32) (s1 : Nat) (s : st_T) : Option (Int32 × st_T) :=
  (g_X11_say n s1 s0 s).bind fun x1 =>
  (g_X11_say n v0 (32 : Int32) x1).bind fun x2 =>
  (hp_lp (gL_X11_print_86 n v0 v1) n ((0 : Int32), x2)).bind fun x3 =>
  (g_X11_say n v0 (36 : Int32) x3).bind fun x5 =>
  (g_X11_say n v0 (46 : Int32) x5).bind fun x6 =>
  (g_X11_told n v0 x6).bind fun x7 =>
  some (x7.1, x7.2)
set_option maxHeartbeats 1000000 in
theorem t_X11_print_75 {tg r : Nat → Nat} {h hb : hp_H} {s sb : st_T} {n : Nat} {v0 : Nat} {v1 : Int32} {s0 : Int32} {s1 : Nat} (I : iso tg r h s) (F : isf tg r hb h sb s) (T_v0 : tg v0 = 21) (T_s1 : tg s1 = 21) {res : Int32 × st_T} (hm : g_X11_print_75 n v0 v1 s0 s1 s = some res) : ∃ h2, f_X11_print_75 n (r v0) v1 s0 (r s1) h = some ((res.1, h2)) ∧ iso tg r h2 res.2 ∧ isf tg r hb h2 sb res.2 := by
  unfold g_X11_print_75 at hm
  unfold f_X11_print_75
  obtain ⟨x1, hx1, hm⟩ := hp_bd hm
  obtain ⟨_, e2, I, F⟩ := t_X11_say I F T_s1 hx1
  refine tr_eq e2 ?_
  obtain ⟨x2, hx2, hm⟩ := hp_bd hm
  obtain ⟨_, e2, I, F⟩ := t_X11_say I F T_v0 hx2
  refine tr_eq e2 ?_
  obtain ⟨x3, hx3, hm⟩ := hp_bd hm
  obtain ⟨_, e2, I, F⟩ := tl_X11_print_86 T_v0 n _ _ _ _ I F hx3
  refine tr_eq e2 ?_
  try dsimp only [eX_X11_print_86]
  replace I : iso tg _ _ x3 := I
  replace F : isf tg _ _ _ _ x3 := F
  obtain ⟨x5, hx5, hm⟩ := hp_bd hm
  obtain ⟨_, e2, I, F⟩ := t_X11_say I F T_v0 hx5
  refine tr_eq e2 ?_
  obtain ⟨x6, hx6, hm⟩ := hp_bd hm
  obtain ⟨_, e2, I, F⟩ := t_X11_say I F T_v0 hx6
  refine tr_eq e2 ?_
  obtain ⟨x7, hx7, hm⟩ := hp_bd hm
  obtain ⟨_, e2, I, F⟩ := t_X11_told I F T_v0 hx7
  refine tr_eq e2 ?_
  try dsimp only
  obtain rfl := Option.some.inj hm
  exact ⟨_, rfl, I, F⟩
def g_X11_print_0 (n : Nat) (v0 : Nat) (v1 : Int32) (s : st_T) : Option (Int32 × st_T) :=
  (g_X11_isStatement n v0 v1 s).bind fun x1 =>
  if x1 = 0 then
    some ((-1 : Int32), s)
  else
    (wF s v0 82 (0 : Int32)).bind fun w2 =>
    (g_X11_sayLabel n v0 v1 w2).bind fun x3 =>
    (g_X11_say n v0 (32 : Int32) x3).bind fun x4 =>
    (g_X11_say n v0 (36 : Int32) x4).bind fun x5 =>
    (g_X11_at n v0 v1 x5).bind fun x7 =>
    (gA x5 (gP x5 v0 10) x7).bind fun x8 =>
    if x8 = 0 then
      g_X11_print_75 n v0 v1 (102 : Int32) v0 x5
    else
      if x8 = (1 : Int32) then
        g_X11_print_75 n v0 v1 (101 : Int32) v0 x5
      else
        if x8 = (2 : Int32) then
          g_X11_print_75 n v0 v1 (97 : Int32) v0 x5
        else
          g_X11_print_75 n v0 v1 (112 : Int32) v0 x5
set_option maxHeartbeats 1000000 in
theorem t_X11_print_0 {tg r : Nat → Nat} {h hb : hp_H} {s sb : st_T} {n : Nat} {v0 : Nat} {v1 : Int32} (I : iso tg r h s) (F : isf tg r hb h sb s) (T_v0 : tg v0 = 21) {res : Int32 × st_T} (hm : g_X11_print_0 n v0 v1 s = some res) : ∃ h2, f_X11_print_0 n (r v0) v1 h = some ((res.1, h2)) ∧ iso tg r h2 res.2 ∧ isf tg r hb h2 sb res.2 := by
  unfold g_X11_print_0 at hm
  unfold f_X11_print_0
  obtain ⟨x1, hx1, hm⟩ := hp_bd hm
  refine tr_eq (t_X11_isStatement I T_v0 hx1) ?_
  by_cases c12 : x1 = 0
  · rw [if_pos c12] at hm ⊢
    obtain rfl := Option.some.inj hm
    exact ⟨_, rfl, I, F⟩
  · rw [if_neg c12] at hm ⊢
    obtain ⟨w2, hw2, hm⟩ := hp_bd hm
    obtain ⟨_, e2, I, F⟩ := t_wF (c := 11) (k := 82) I F T_v0 (by decide) (by decide) rfl hw2
    refine tr_eq e2 ?_
    obtain ⟨x3, hx3, hm⟩ := hp_bd hm
    obtain ⟨_, e2, I, F⟩ := t_X11_sayLabel I F T_v0 hx3
    refine tr_eq e2 ?_
    obtain ⟨x4, hx4, hm⟩ := hp_bd hm
    obtain ⟨_, e2, I, F⟩ := t_X11_say I F T_v0 hx4
    refine tr_eq e2 ?_
    obtain ⟨x5, hx5, hm⟩ := hp_bd hm
    obtain ⟨_, e2, I, F⟩ := t_X11_say I F T_v0 hx5
    refine tr_eq e2 ?_
    have T6 : tg (gP x5 v0 10) = 0 := t_tg (c := 11) I T_v0 (by decide) (by decide) rfl (by decide)
    refine tr_eq (t_fR I T_v0 (by decide) (by decide) (by decide)) ?_
    obtain ⟨x7, hx7, hm⟩ := hp_bd hm
    refine tr_eq (t_X11_at I T_v0 hx7) ?_
    obtain ⟨x8, hx8, hm⟩ := hp_bd hm
    refine tr_eq (t_aI I T6 (by decide) rfl hx8) ?_
    by_cases c11 : x8 = 0
    · rw [if_pos c11] at hm ⊢
      exact t_X11_print_75 I F T_v0 T_v0 hm
    · rw [if_neg c11] at hm ⊢
      by_cases c10 : x8 = (1 : Int32)
      · rw [if_pos c10] at hm ⊢
        exact t_X11_print_75 I F T_v0 T_v0 hm
      · rw [if_neg c10] at hm ⊢
        by_cases c9 : x8 = (2 : Int32)
        · rw [if_pos c9] at hm ⊢
          exact t_X11_print_75 I F T_v0 T_v0 hm
        · rw [if_neg c9] at hm ⊢
          exact t_X11_print_75 I F T_v0 T_v0 hm
def g_X11_print (n : Nat) (v0 : Nat) (v1 : Int32) (s : st_T) : Option (Int32 × st_T) := g_X11_print_0 n v0 v1 s
theorem t_X11_print {tg r : Nat → Nat} {h hb : hp_H} {s sb : st_T} {n : Nat} {v0 : Nat} {v1 : Int32} (I : iso tg r h s) (F : isf tg r hb h sb s) (T_v0 : tg v0 = 21) {res : Int32 × st_T} (hm : g_X11_print n v0 v1 s = some res) : ∃ h2, f_X11_print n (r v0) v1 h = some ((res.1, h2)) ∧ iso tg r h2 res.2 ∧ isf tg r hb h2 sb res.2 := by
  unfold g_X11_print at hm
  unfold f_X11_print
  refine tr_eq (t_ck I T_v0 (by decide)) ?_
  exact t_X11_print_0 I F T_v0 hm
def g_X11_out_12 (n : Nat) (s : st_T) : Option (Int32) :=
  some (-1 : Int32)
set_option maxHeartbeats 1000000 in
theorem t_X11_out_12 {tg r : Nat → Nat} {h : hp_H} {s : st_T} {n : Nat} (I : iso tg r h s) {res : Int32} (hm : g_X11_out_12 n  s = some res) : f_X11_out_12 n  h = some res := by
  unfold g_X11_out_12 at hm
  unfold f_X11_out_12
  obtain rfl := Option.some.inj hm
  rfl
def g_X11_out_0 (n : Nat) (v0 : Nat) (v1 : Int32) (s : st_T) : Option (Int32) :=
  if v1 < 0 then
    g_X11_out_12 n  s
  else
    if v1 < (gF s v0 80) then
      (gA s (gP s v0 79) v1).bind fun x2 =>
      some x2
    else
      g_X11_out_12 n  s
set_option maxHeartbeats 1000000 in
theorem t_X11_out_0 {tg r : Nat → Nat} {h : hp_H} {s : st_T} {n : Nat} {v0 : Nat} {v1 : Int32} (I : iso tg r h s) (T_v0 : tg v0 = 21) {res : Int32} (hm : g_X11_out_0 n v0 v1 s = some res) : f_X11_out_0 n (r v0) v1 h = some res := by
  unfold g_X11_out_0 at hm
  unfold f_X11_out_0
  by_cases c4 : v1 < 0
  · rw [if_pos c4] at hm ⊢
    exact t_X11_out_12 I  hm
  · rw [if_neg c4] at hm ⊢
    refine tr_eq0 (t_fI I T_v0 (by decide) (by decide) rfl) ?_
    by_cases c3 : v1 < (gF s v0 80)
    · rw [if_pos c3] at hm ⊢
      have T1 : tg (gP s v0 79) = 0 := t_tg (c := 11) I T_v0 (by decide) (by decide) rfl (by decide)
      refine tr_eq0 (t_fR I T_v0 (by decide) (by decide) (by decide)) ?_
      obtain ⟨x2, hx2, hm⟩ := hp_bd hm
      refine tr_eq0 (t_aI I T1 (by decide) rfl hx2) ?_
      obtain rfl := Option.some.inj hm
      rfl
    · rw [if_neg c3] at hm ⊢
      exact t_X11_out_12 I  hm
def g_X11_out (n : Nat) (v0 : Nat) (v1 : Int32) (s : st_T) : Option (Int32) := g_X11_out_0 n v0 v1 s
theorem t_X11_out {tg r : Nat → Nat} {h : hp_H} {s : st_T} {n : Nat} {v0 : Nat} {v1 : Int32} (I : iso tg r h s) (T_v0 : tg v0 = 21) {res : Int32} (hm : g_X11_out n v0 v1 s = some res) : f_X11_out n (r v0) v1 h = some res := by
  unfold g_X11_out at hm
  unfold f_X11_out
  refine tr_eq0 (t_ck I T_v0 (by decide)) ?_
  exact t_X11_out_0 I T_v0 hm
abbrev eX_X11_restOn_40 (x : st_T) (h2 : hp_H) : hp_H := (fun y => h2) x
abbrev sX_X11_restOn_40 (x : st_T) : st_T := (fun y => y) x
abbrev eR_X11_restOn_40 (x : (Int32 × st_T) ⊕ (st_T)) (h2 : hp_H) : (Int32 × hp_H) ⊕ (hp_H) := Sum.elim (fun y => .inl (y.1, h2)) (fun y => .inr (eX_X11_restOn_40 y h2)) x
abbrev sR_X11_restOn_40 (x : (Int32 × st_T) ⊕ (st_T)) : st_T := Sum.elim (fun y => y.2) sX_X11_restOn_40 x
def g_X11_restOn_68 (n : Nat) (v0 : Nat) (v1 : Int32) (v3 : Int32) (v4 : Int32) (s : st_T) : Option ((Int32 × st_T) ⊕ (st_T)) :=
  some (.inl ((v4 + (1 : Int32)), s))
set_option maxHeartbeats 1000000 in
theorem t_X11_restOn_68 {tg r : Nat → Nat} {h hb : hp_H} {s sb : st_T} {n : Nat} {v0 : Nat} {v1 : Int32} {v3 : Int32} {v4 : Int32} (I : iso tg r h s) (F : isf tg r hb h sb s) (T_v0 : tg v0 = 21) {res : (Int32 × st_T) ⊕ (st_T)} (hm : g_X11_restOn_68 n v0 v1 v3 v4 s = some res) : ∃ h2, f_X11_restOn_68 n (r v0) v1 v3 v4 h = some (eR_X11_restOn_40 res h2) ∧ iso tg r h2 (sR_X11_restOn_40 res) ∧ isf tg r hb h2 sb (sR_X11_restOn_40 res) := by
  unfold g_X11_restOn_68 at hm
  unfold f_X11_restOn_68
  obtain rfl := Option.some.inj hm
  exact ⟨_, rfl, I, F⟩
def g_X11_restOn_40 (n : Nat) (v0 : Nat) (v1 : Int32) (v3 : Int32) (v4 : Int32) (s : st_T) : Option ((Int32 × st_T) ⊕ (st_T)) :=
  if v3 ≤ v4 then
    some (.inr s)
  else
    (g_X11_namedBy n v0 v1 v4 s).bind fun x1 =>
    if x1 < 0 then
      g_X11_restOn_68 n v0 v1 v3 v4 s
    else
      (uA 2 s (gP s v0 83) x1 (1 : Int32)).bind fun w3 =>
      g_X11_restOn_68 n v0 v1 v3 v4 w3
set_option maxHeartbeats 1000000 in
theorem t_X11_restOn_40 {tg r : Nat → Nat} {h hb : hp_H} {s sb : st_T} {n : Nat} {v0 : Nat} {v1 : Int32} {v3 : Int32} {v4 : Int32} (I : iso tg r h s) (F : isf tg r hb h sb s) (T_v0 : tg v0 = 21) {res : (Int32 × st_T) ⊕ (st_T)} (hm : g_X11_restOn_40 n v0 v1 v3 v4 s = some res) : ∃ h2, f_X11_restOn_40 n (r v0) v1 v3 v4 h = some (eR_X11_restOn_40 res h2) ∧ iso tg r h2 (sR_X11_restOn_40 res) ∧ isf tg r hb h2 sb (sR_X11_restOn_40 res) := by
  unfold g_X11_restOn_40 at hm
  unfold f_X11_restOn_40
  by_cases c5 : v3 ≤ v4
  · rw [if_pos c5] at hm ⊢
    obtain rfl := Option.some.inj hm
    exact ⟨_, rfl, I, F⟩
  · rw [if_neg c5] at hm ⊢
    obtain ⟨x1, hx1, hm⟩ := hp_bd hm
    refine tr_eq (t_X11_namedBy I T_v0 hx1) ?_
    by_cases c4 : x1 < 0
    · rw [if_pos c4] at hm ⊢
      exact t_X11_restOn_68 I F T_v0 hm
    · rw [if_neg c4] at hm ⊢
      have T2 : tg (gP s v0 83) = 2 := t_tg (c := 11) I T_v0 (by decide) (by decide) rfl (by decide)
      refine tr_eq (t_fR I T_v0 (by decide) (by decide) (by decide)) ?_
      obtain ⟨w3, hw3, hm⟩ := hp_bd hm
      obtain ⟨_, e2, I, F⟩ := t_sI I F T2 (by decide) rfl hw3
      refine tr_eq e2 ?_
      exact t_X11_restOn_68 I F T_v0 hm
def gL_X11_restOn_40 (n : Nat) (v0 : Nat) (v1 : Int32) (v3 : Int32) (c : Int32 × st_T) : Option ((Int32 × st_T) ⊕ (st_T)) := g_X11_restOn_40 n v0 v1 v3 c.1 c.2
theorem tl_X11_restOn_40 {tg r : Nat → Nat} {hb : hp_H} {sb : st_T} {n : Nat} {v0 : Nat} {v1 : Int32} {v3 : Int32} (T_v0 : tg v0 = 21) : ∀ (k : Nat) (c0 : Int32) (h : hp_H) (s : st_T) (x : st_T), iso tg r h s → isf tg r hb h sb s → hp_lp (gL_X11_restOn_40 n v0 v1 v3) k (c0, s) = some x → ∃ h2, hp_lp (fL_X11_restOn_40 n (r v0) v1 v3) k (c0, h) = some (eX_X11_restOn_40 x h2) ∧ iso tg r h2 (sX_X11_restOn_40 x) ∧ isf tg r hb h2 sb (sX_X11_restOn_40 x) := by
  intro k
  induction k with
  | zero => intro c0 h s x I F hx; exact (hp_lp_0 hx).elim
  | succ k ih =>
    intro c0 h s x I F hx
    obtain ⟨rr, hr, hc⟩ := hp_lp_1 hx
    obtain ⟨h2, e2, I2, F2⟩ := t_X11_restOn_40 I F T_v0 hr
    rcases hc with ⟨s3, e3, hx3⟩ | e3
    · subst e3
      obtain ⟨h3, e4, I3, F3⟩ := ih _ h2 _ x I2 F2 hx3
      exact ⟨h3, hp_lp_s e2 e4, I3, F3⟩
    · subst e3
      exact ⟨h2, hp_lp_x e2, I2, F2⟩
def g_X11_restOn_38 (n : Nat) (v0 : Nat) (v1 : Int32) (v3 : Int32) (s0 : Int32) (s : st_T) : Option (st_T) :=
  (hp_lp (gL_X11_restOn_40 n v0 v1 v3) n (s0, s)).bind fun x1 =>
  some x1
set_option maxHeartbeats 1000000 in
theorem t_X11_restOn_38 {tg r : Nat → Nat} {h hb : hp_H} {s sb : st_T} {n : Nat} {v0 : Nat} {v1 : Int32} {v3 : Int32} {s0 : Int32} (I : iso tg r h s) (F : isf tg r hb h sb s) (T_v0 : tg v0 = 21) {res : st_T} (hm : g_X11_restOn_38 n v0 v1 v3 s0 s = some res) : ∃ h2, f_X11_restOn_38 n (r v0) v1 v3 s0 h = some (h2) ∧ iso tg r h2 res ∧ isf tg r hb h2 sb res := by
  unfold g_X11_restOn_38 at hm
  unfold f_X11_restOn_38
  obtain ⟨x1, hx1, hm⟩ := hp_bd hm
  obtain ⟨_, e2, I, F⟩ := tl_X11_restOn_40 T_v0 n _ _ _ _ I F hx1
  refine tr_eq e2 ?_
  try dsimp only [eX_X11_restOn_40]
  replace I : iso tg _ _ x1 := I
  replace F : isf tg _ _ _ _ x1 := F
  obtain rfl := Option.some.inj hm
  exact ⟨_, rfl, I, F⟩
def g_X11_restOn_28 (n : Nat) (v0 : Nat) (v1 : Int32) (v2 : Int32) (s0 : Int32) (s : st_T) : Option (st_T) :=
  if v2 = 0 then
    g_X11_restOn_38 n v0 v1 s0 (0 : Int32) s
  else
    g_X11_restOn_38 n v0 v1 s0 (1 : Int32) s
set_option maxHeartbeats 1000000 in
theorem t_X11_restOn_28 {tg r : Nat → Nat} {h hb : hp_H} {s sb : st_T} {n : Nat} {v0 : Nat} {v1 : Int32} {v2 : Int32} {s0 : Int32} (I : iso tg r h s) (F : isf tg r hb h sb s) (T_v0 : tg v0 = 21) {res : st_T} (hm : g_X11_restOn_28 n v0 v1 v2 s0 s = some res) : ∃ h2, f_X11_restOn_28 n (r v0) v1 v2 s0 h = some (h2) ∧ iso tg r h2 res ∧ isf tg r hb h2 sb res := by
  unfold g_X11_restOn_28 at hm
  unfold f_X11_restOn_28
  by_cases c1 : v2 = 0
  · rw [if_pos c1] at hm ⊢
    exact t_X11_restOn_38 I F T_v0 hm
  · rw [if_neg c1] at hm ⊢
    exact t_X11_restOn_38 I F T_v0 hm
def g_X11_restOn_0 (n : Nat) (v0 : Nat) (v1 : Int32) (s : st_T) : Option (st_T) :=
  (g_X11_isCompressed n v0 v1 s).bind fun x1 =>
  if x1 = 0 then
    (g_X11_at n v0 v1 s).bind fun x3 =>
    (gA s (gP s v0 17) x3).bind fun x4 =>
    g_X11_restOn_28 n v0 v1 x1 x4 s
  else
    (g_X11_listEnd n v0 v1 s).bind fun x5 =>
    g_X11_restOn_28 n v0 v1 x1 x5 s
set_option maxHeartbeats 1000000 in
theorem t_X11_restOn_0 {tg r : Nat → Nat} {h hb : hp_H} {s sb : st_T} {n : Nat} {v0 : Nat} {v1 : Int32} (I : iso tg r h s) (F : isf tg r hb h sb s) (T_v0 : tg v0 = 21) {res : st_T} (hm : g_X11_restOn_0 n v0 v1 s = some res) : ∃ h2, f_X11_restOn_0 n (r v0) v1 h = some (h2) ∧ iso tg r h2 res ∧ isf tg r hb h2 sb res := by
  unfold g_X11_restOn_0 at hm
  unfold f_X11_restOn_0
  obtain ⟨x1, hx1, hm⟩ := hp_bd hm
  refine tr_eq (t_X11_isCompressed I T_v0 hx1) ?_
  by_cases c6 : x1 = 0
  · rw [if_pos c6] at hm ⊢
    have T2 : tg (gP s v0 17) = 0 := t_tg (c := 11) I T_v0 (by decide) (by decide) rfl (by decide)
    refine tr_eq (t_fR I T_v0 (by decide) (by decide) (by decide)) ?_
    obtain ⟨x3, hx3, hm⟩ := hp_bd hm
    refine tr_eq (t_X11_at I T_v0 hx3) ?_
    obtain ⟨x4, hx4, hm⟩ := hp_bd hm
    refine tr_eq (t_aI I T2 (by decide) rfl hx4) ?_
    exact t_X11_restOn_28 I F T_v0 hm
  · rw [if_neg c6] at hm ⊢
    obtain ⟨x5, hx5, hm⟩ := hp_bd hm
    refine tr_eq (t_X11_listEnd I T_v0 hx5) ?_
    exact t_X11_restOn_28 I F T_v0 hm
def g_X11_restOn (n : Nat) (v0 : Nat) (v1 : Int32) (s : st_T) : Option (st_T) := g_X11_restOn_0 n v0 v1 s
theorem t_X11_restOn {tg r : Nat → Nat} {h hb : hp_H} {s sb : st_T} {n : Nat} {v0 : Nat} {v1 : Int32} (I : iso tg r h s) (F : isf tg r hb h sb s) (T_v0 : tg v0 = 21) {res : st_T} (hm : g_X11_restOn n v0 v1 s = some res) : ∃ h2, f_X11_restOn n (r v0) v1 h = some (h2) ∧ iso tg r h2 res ∧ isf tg r hb h2 sb res := by
  unfold g_X11_restOn at hm
  unfold f_X11_restOn
  refine tr_eq (t_ck I T_v0 (by decide)) ?_
  exact t_X11_restOn_0 I F T_v0 hm
abbrev eX_X11_rests_13 (x : st_T) (h2 : hp_H) : hp_H := (fun y => h2) x
abbrev sX_X11_rests_13 (x : st_T) : st_T := (fun y => y) x
abbrev eR_X11_rests_13 (x : (Int32 × st_T) ⊕ (st_T)) (h2 : hp_H) : (Int32 × hp_H) ⊕ (hp_H) := Sum.elim (fun y => .inl (y.1, h2)) (fun y => .inr (eX_X11_rests_13 y h2)) x
abbrev sR_X11_rests_13 (x : (Int32 × st_T) ⊕ (st_T)) : st_T := Sum.elim (fun y => y.2) sX_X11_rests_13 x
def g_X11_rests_35 (n : Nat) (v0 : Nat) (v1 : Int32) (v2 : Int32) (v3 : Int32) (s0 : Int32) (s1 : Int32) (s2 : Nat) (s : st_T) : Option ((Int32 × st_T) ⊕ (st_T)) :=
  (uA 2 s s2 s1 s0).bind fun w1 =>
  some (.inl ((v3 + (1 : Int32)), w1))
set_option maxHeartbeats 1000000 in
theorem t_X11_rests_35 {tg r : Nat → Nat} {h hb : hp_H} {s sb : st_T} {n : Nat} {v0 : Nat} {v1 : Int32} {v2 : Int32} {v3 : Int32} {s0 : Int32} {s1 : Int32} {s2 : Nat} (I : iso tg r h s) (F : isf tg r hb h sb s) (T_v0 : tg v0 = 21) (T_s2 : tg s2 = 2) {res : (Int32 × st_T) ⊕ (st_T)} (hm : g_X11_rests_35 n v0 v1 v2 v3 s0 s1 s2 s = some res) : ∃ h2, f_X11_rests_35 n (r v0) v1 v2 v3 s0 s1 (r s2) h = some (eR_X11_rests_13 res h2) ∧ iso tg r h2 (sR_X11_rests_13 res) ∧ isf tg r hb h2 sb (sR_X11_rests_13 res) := by
  unfold g_X11_rests_35 at hm
  unfold f_X11_rests_35
  obtain ⟨w1, hw1, hm⟩ := hp_bd hm
  obtain ⟨_, e2, I, F⟩ := t_sI I F T_s2 (by decide) rfl hw1
  refine tr_eq e2 ?_
  obtain rfl := Option.some.inj hm
  exact ⟨_, rfl, I, F⟩
def g_X11_rests_13 (n : Nat) (v0 : Nat) (v1 : Int32) (v2 : Int32) (v3 : Int32) (s : st_T) : Option ((Int32 × st_T) ⊕ (st_T)) :=
  if (200 : Int32) ≤ v3 then
    some (.inr s)
  else
    if v3 = v1 then
      g_X11_rests_35 n v0 v1 v2 v3 (1 : Int32) v3 (gP s v0 83) s
    else
      g_X11_rests_35 n v0 v1 v2 v3 (0 : Int32) v3 (gP s v0 83) s
set_option maxHeartbeats 1000000 in
theorem t_X11_rests_13 {tg r : Nat → Nat} {h hb : hp_H} {s sb : st_T} {n : Nat} {v0 : Nat} {v1 : Int32} {v2 : Int32} {v3 : Int32} (I : iso tg r h s) (F : isf tg r hb h sb s) (T_v0 : tg v0 = 21) {res : (Int32 × st_T) ⊕ (st_T)} (hm : g_X11_rests_13 n v0 v1 v2 v3 s = some res) : ∃ h2, f_X11_rests_13 n (r v0) v1 v2 v3 h = some (eR_X11_rests_13 res h2) ∧ iso tg r h2 (sR_X11_rests_13 res) ∧ isf tg r hb h2 sb (sR_X11_rests_13 res) := by
  unfold g_X11_rests_13 at hm
  unfold f_X11_rests_13
  by_cases c3 : (200 : Int32) ≤ v3
  · rw [if_pos c3] at hm ⊢
    obtain rfl := Option.some.inj hm
    exact ⟨_, rfl, I, F⟩
  · rw [if_neg c3] at hm ⊢
    have T1 : tg (gP s v0 83) = 2 := t_tg (c := 11) I T_v0 (by decide) (by decide) rfl (by decide)
    refine tr_eq (t_fR I T_v0 (by decide) (by decide) (by decide)) ?_
    by_cases c2 : v3 = v1
    · rw [if_pos c2] at hm ⊢
      exact t_X11_rests_35 I F T_v0 T1 hm
    · rw [if_neg c2] at hm ⊢
      exact t_X11_rests_35 I F T_v0 T1 hm
def gL_X11_rests_13 (n : Nat) (v0 : Nat) (v1 : Int32) (v2 : Int32) (c : Int32 × st_T) : Option ((Int32 × st_T) ⊕ (st_T)) := g_X11_rests_13 n v0 v1 v2 c.1 c.2
theorem tl_X11_rests_13 {tg r : Nat → Nat} {hb : hp_H} {sb : st_T} {n : Nat} {v0 : Nat} {v1 : Int32} {v2 : Int32} (T_v0 : tg v0 = 21) : ∀ (k : Nat) (c0 : Int32) (h : hp_H) (s : st_T) (x : st_T), iso tg r h s → isf tg r hb h sb s → hp_lp (gL_X11_rests_13 n v0 v1 v2) k (c0, s) = some x → ∃ h2, hp_lp (fL_X11_rests_13 n (r v0) v1 v2) k (c0, h) = some (eX_X11_rests_13 x h2) ∧ iso tg r h2 (sX_X11_rests_13 x) ∧ isf tg r hb h2 sb (sX_X11_rests_13 x) := by
  intro k
  induction k with
  | zero => intro c0 h s x I F hx; exact (hp_lp_0 hx).elim
  | succ k ih =>
    intro c0 h s x I F hx
    obtain ⟨rr, hr, hc⟩ := hp_lp_1 hx
    obtain ⟨h2, e2, I2, F2⟩ := t_X11_rests_13 I F T_v0 hr
    rcases hc with ⟨s3, e3, hx3⟩ | e3
    · subst e3
      obtain ⟨h3, e4, I3, F3⟩ := ih _ h2 _ x I2 F2 hx3
      exact ⟨h3, hp_lp_s e2 e4, I3, F3⟩
    · subst e3
      exact ⟨h2, hp_lp_x e2, I2, F2⟩
abbrev eX_X11_rests_44 (x : st_T) (h2 : hp_H) : hp_H := (fun y => h2) x
abbrev sX_X11_rests_44 (x : st_T) : st_T := (fun y => y) x
abbrev eR_X11_rests_44 (x : (Int32 × st_T) ⊕ (st_T)) (h2 : hp_H) : (Int32 × hp_H) ⊕ (hp_H) := Sum.elim (fun y => .inl (y.1, h2)) (fun y => .inr (eX_X11_rests_44 y h2)) x
abbrev sR_X11_rests_44 (x : (Int32 × st_T) ⊕ (st_T)) : st_T := Sum.elim (fun y => y.2) sX_X11_rests_44 x
def g_X11_rests_76 (n : Nat) (v0 : Nat) (v1 : Int32) (v2 : Int32) (v3 : Int32) (s : st_T) : Option ((Int32 × st_T) ⊕ (st_T)) :=
  some (.inl ((v3 + (-1 : Int32)), s))
set_option maxHeartbeats 1000000 in
theorem t_X11_rests_76 {tg r : Nat → Nat} {h hb : hp_H} {s sb : st_T} {n : Nat} {v0 : Nat} {v1 : Int32} {v2 : Int32} {v3 : Int32} (I : iso tg r h s) (F : isf tg r hb h sb s) (T_v0 : tg v0 = 21) {res : (Int32 × st_T) ⊕ (st_T)} (hm : g_X11_rests_76 n v0 v1 v2 v3 s = some res) : ∃ h2, f_X11_rests_76 n (r v0) v1 v2 v3 h = some (eR_X11_rests_44 res h2) ∧ iso tg r h2 (sR_X11_rests_44 res) ∧ isf tg r hb h2 sb (sR_X11_rests_44 res) := by
  unfold g_X11_rests_76 at hm
  unfold f_X11_rests_76
  obtain rfl := Option.some.inj hm
  exact ⟨_, rfl, I, F⟩
def g_X11_rests_44 (n : Nat) (v0 : Nat) (v1 : Int32) (v2 : Int32) (v3 : Int32) (s : st_T) : Option ((Int32 × st_T) ⊕ (st_T)) :=
  if v3 < 0 then
    some (.inr s)
  else
    (gA s (gP s v0 83) v3).bind fun x2 =>
    if x2 = 0 then
      g_X11_rests_76 n v0 v1 v2 v3 s
    else
      (g_X11_at n v0 v3 s).bind fun x4 =>
      (gA s (gP s v0 10) x4).bind fun x5 =>
      if x5 = (3 : Int32) then
        (g_X11_restOn n v0 v3 s).bind fun x6 =>
        g_X11_rests_76 n v0 v1 v2 v3 x6
      else
        g_X11_rests_76 n v0 v1 v2 v3 s
set_option maxHeartbeats 1000000 in
theorem t_X11_rests_44 {tg r : Nat → Nat} {h hb : hp_H} {s sb : st_T} {n : Nat} {v0 : Nat} {v1 : Int32} {v2 : Int32} {v3 : Int32} (I : iso tg r h s) (F : isf tg r hb h sb s) (T_v0 : tg v0 = 21) {res : (Int32 × st_T) ⊕ (st_T)} (hm : g_X11_rests_44 n v0 v1 v2 v3 s = some res) : ∃ h2, f_X11_rests_44 n (r v0) v1 v2 v3 h = some (eR_X11_rests_44 res h2) ∧ iso tg r h2 (sR_X11_rests_44 res) ∧ isf tg r hb h2 sb (sR_X11_rests_44 res) := by
  unfold g_X11_rests_44 at hm
  unfold f_X11_rests_44
  by_cases c9 : v3 < 0
  · rw [if_pos c9] at hm ⊢
    obtain rfl := Option.some.inj hm
    exact ⟨_, rfl, I, F⟩
  · rw [if_neg c9] at hm ⊢
    have T1 : tg (gP s v0 83) = 2 := t_tg (c := 11) I T_v0 (by decide) (by decide) rfl (by decide)
    refine tr_eq (t_fR I T_v0 (by decide) (by decide) (by decide)) ?_
    obtain ⟨x2, hx2, hm⟩ := hp_bd hm
    refine tr_eq (t_aI I T1 (by decide) rfl hx2) ?_
    by_cases c8 : x2 = 0
    · rw [if_pos c8] at hm ⊢
      exact t_X11_rests_76 I F T_v0 hm
    · rw [if_neg c8] at hm ⊢
      have T3 : tg (gP s v0 10) = 0 := t_tg (c := 11) I T_v0 (by decide) (by decide) rfl (by decide)
      refine tr_eq (t_fR I T_v0 (by decide) (by decide) (by decide)) ?_
      obtain ⟨x4, hx4, hm⟩ := hp_bd hm
      refine tr_eq (t_X11_at I T_v0 hx4) ?_
      obtain ⟨x5, hx5, hm⟩ := hp_bd hm
      refine tr_eq (t_aI I T3 (by decide) rfl hx5) ?_
      by_cases c7 : x5 = (3 : Int32)
      · rw [if_pos c7] at hm ⊢
        obtain ⟨x6, hx6, hm⟩ := hp_bd hm
        obtain ⟨_, e2, I, F⟩ := t_X11_restOn I F T_v0 hx6
        refine tr_eq e2 ?_
        exact t_X11_rests_76 I F T_v0 hm
      · rw [if_neg c7] at hm ⊢
        exact t_X11_rests_76 I F T_v0 hm
def gL_X11_rests_44 (n : Nat) (v0 : Nat) (v1 : Int32) (v2 : Int32) (c : Int32 × st_T) : Option ((Int32 × st_T) ⊕ (st_T)) := g_X11_rests_44 n v0 v1 v2 c.1 c.2
theorem tl_X11_rests_44 {tg r : Nat → Nat} {hb : hp_H} {sb : st_T} {n : Nat} {v0 : Nat} {v1 : Int32} {v2 : Int32} (T_v0 : tg v0 = 21) : ∀ (k : Nat) (c0 : Int32) (h : hp_H) (s : st_T) (x : st_T), iso tg r h s → isf tg r hb h sb s → hp_lp (gL_X11_rests_44 n v0 v1 v2) k (c0, s) = some x → ∃ h2, hp_lp (fL_X11_rests_44 n (r v0) v1 v2) k (c0, h) = some (eX_X11_rests_44 x h2) ∧ iso tg r h2 (sX_X11_rests_44 x) ∧ isf tg r hb h2 sb (sX_X11_rests_44 x) := by
  intro k
  induction k with
  | zero => intro c0 h s x I F hx; exact (hp_lp_0 hx).elim
  | succ k ih =>
    intro c0 h s x I F hx
    obtain ⟨rr, hr, hc⟩ := hp_lp_1 hx
    obtain ⟨h2, e2, I2, F2⟩ := t_X11_rests_44 I F T_v0 hr
    rcases hc with ⟨s3, e3, hx3⟩ | e3
    · subst e3
      obtain ⟨h3, e4, I3, F3⟩ := ih _ h2 _ x I2 F2 hx3
      exact ⟨h3, hp_lp_s e2 e4, I3, F3⟩
    · subst e3
      exact ⟨h2, hp_lp_x e2, I2, F2⟩
def g_X11_rests_138 (n : Nat) (v0 : Nat) (v1 : Int32) (v2 : Int32) (v3 : Int32) (v4 : Int32) (s : st_T) : Option ((Int32 × Int32) ⊕ (Int32)) :=
  some (.inl (v3, (v4 + (1 : Int32))))
set_option maxHeartbeats 1000000 in
theorem t_X11_rests_138 {tg r : Nat → Nat} {h : hp_H} {s : st_T} {n : Nat} {v0 : Nat} {v1 : Int32} {v2 : Int32} {v3 : Int32} {v4 : Int32} (I : iso tg r h s) (T_v0 : tg v0 = 21) {res : (Int32 × Int32) ⊕ (Int32)} (hm : g_X11_rests_138 n v0 v1 v2 v3 v4 s = some res) : f_X11_rests_138 n (r v0) v1 v2 v3 v4 h = some res := by
  unfold g_X11_rests_138 at hm
  unfold f_X11_rests_138
  obtain rfl := Option.some.inj hm
  rfl
def g_X11_rests_125 (n : Nat) (v0 : Nat) (v1 : Int32) (v2 : Int32) (v4 : Int32) (s0 : Int32) (s : st_T) : Option ((Int32 × Int32) ⊕ (Int32)) :=
  if s0 = v2 then
    if v2 < 0 then
      g_X11_rests_138 n v0 v1 v2 s0 v4 s
    else
      some (.inr v4)
  else
    g_X11_rests_138 n v0 v1 v2 s0 v4 s
set_option maxHeartbeats 1000000 in
theorem t_X11_rests_125 {tg r : Nat → Nat} {h : hp_H} {s : st_T} {n : Nat} {v0 : Nat} {v1 : Int32} {v2 : Int32} {v4 : Int32} {s0 : Int32} (I : iso tg r h s) (T_v0 : tg v0 = 21) {res : (Int32 × Int32) ⊕ (Int32)} (hm : g_X11_rests_125 n v0 v1 v2 v4 s0 s = some res) : f_X11_rests_125 n (r v0) v1 v2 v4 s0 h = some res := by
  unfold g_X11_rests_125 at hm
  unfold f_X11_rests_125
  by_cases c2 : s0 = v2
  · rw [if_pos c2] at hm ⊢
    by_cases c1 : v2 < 0
    · rw [if_pos c1] at hm ⊢
      exact t_X11_rests_138 I T_v0 hm
    · rw [if_neg c1] at hm ⊢
      obtain rfl := Option.some.inj hm
      rfl
  · rw [if_neg c2] at hm ⊢
    exact t_X11_rests_138 I T_v0 hm
def g_X11_rests_124 (n : Nat) (v0 : Nat) (v1 : Int32) (v2 : Int32) (v3 : Int32) (v4 : Int32) (s : st_T) : Option ((Int32 × Int32) ⊕ (Int32)) :=
  g_X11_rests_125 n v0 v1 v2 v4 v3 s
set_option maxHeartbeats 1000000 in
theorem t_X11_rests_124 {tg r : Nat → Nat} {h : hp_H} {s : st_T} {n : Nat} {v0 : Nat} {v1 : Int32} {v2 : Int32} {v3 : Int32} {v4 : Int32} (I : iso tg r h s) (T_v0 : tg v0 = 21) {res : (Int32 × Int32) ⊕ (Int32)} (hm : g_X11_rests_124 n v0 v1 v2 v3 v4 s = some res) : f_X11_rests_124 n (r v0) v1 v2 v3 v4 h = some res := by
  unfold g_X11_rests_124 at hm
  unfold f_X11_rests_124
  exact t_X11_rests_125 I T_v0 hm
def g_X11_rests_87 (n : Nat) (v0 : Nat) (v1 : Int32) (v2 : Int32) (v3 : Int32) (v4 : Int32) (s : st_T) : Option ((Int32 × Int32) ⊕ (Int32)) :=
  if v1 ≤ v4 then
    some (.inr (-2 : Int32))
  else
    (gA s (gP s v0 83) v4).bind fun x2 =>
    if x2 = 0 then
      g_X11_rests_124 n v0 v1 v2 v3 v4 s
    else
      (g_X11_at n v0 v4 s).bind fun x4 =>
      (gA s (gP s v0 10) x4).bind fun x5 =>
      if x5 = (2 : Int32) then
        g_X11_rests_125 n v0 v1 v2 v4 (v3 + (1 : Int32)) s
      else
        g_X11_rests_124 n v0 v1 v2 v3 v4 s
set_option maxHeartbeats 1000000 in
theorem t_X11_rests_87 {tg r : Nat → Nat} {h : hp_H} {s : st_T} {n : Nat} {v0 : Nat} {v1 : Int32} {v2 : Int32} {v3 : Int32} {v4 : Int32} (I : iso tg r h s) (T_v0 : tg v0 = 21) {res : (Int32 × Int32) ⊕ (Int32)} (hm : g_X11_rests_87 n v0 v1 v2 v3 v4 s = some res) : f_X11_rests_87 n (r v0) v1 v2 v3 v4 h = some res := by
  unfold g_X11_rests_87 at hm
  unfold f_X11_rests_87
  by_cases c8 : v1 ≤ v4
  · rw [if_pos c8] at hm ⊢
    obtain rfl := Option.some.inj hm
    rfl
  · rw [if_neg c8] at hm ⊢
    have T1 : tg (gP s v0 83) = 2 := t_tg (c := 11) I T_v0 (by decide) (by decide) rfl (by decide)
    refine tr_eq0 (t_fR I T_v0 (by decide) (by decide) (by decide)) ?_
    obtain ⟨x2, hx2, hm⟩ := hp_bd hm
    refine tr_eq0 (t_aI I T1 (by decide) rfl hx2) ?_
    by_cases c7 : x2 = 0
    · rw [if_pos c7] at hm ⊢
      exact t_X11_rests_124 I T_v0 hm
    · rw [if_neg c7] at hm ⊢
      have T3 : tg (gP s v0 10) = 0 := t_tg (c := 11) I T_v0 (by decide) (by decide) rfl (by decide)
      refine tr_eq0 (t_fR I T_v0 (by decide) (by decide) (by decide)) ?_
      obtain ⟨x4, hx4, hm⟩ := hp_bd hm
      refine tr_eq0 (t_X11_at I T_v0 hx4) ?_
      obtain ⟨x5, hx5, hm⟩ := hp_bd hm
      refine tr_eq0 (t_aI I T3 (by decide) rfl hx5) ?_
      by_cases c6 : x5 = (2 : Int32)
      · rw [if_pos c6] at hm ⊢
        exact t_X11_rests_125 I T_v0 hm
      · rw [if_neg c6] at hm ⊢
        exact t_X11_rests_124 I T_v0 hm
def gL_X11_rests_87 (n : Nat) (v0 : Nat) (v1 : Int32) (v2 : Int32) (s : st_T) (c : Int32 × Int32) : Option ((Int32 × Int32) ⊕ (Int32)) := g_X11_rests_87 n v0 v1 v2 c.1 c.2 s
theorem tl_X11_rests_87 {tg r : Nat → Nat} {h : hp_H} {s : st_T} {n : Nat} {v0 : Nat} {v1 : Int32} {v2 : Int32} (I : iso tg r h s) (T_v0 : tg v0 = 21) : ∀ (k : Nat) (c : Int32 × Int32) (x : Int32), hp_lp (gL_X11_rests_87 n v0 v1 v2 s) k c = some x → hp_lp (fL_X11_rests_87 n (r v0) v1 v2 h) k c = some x := by
  intro k
  induction k with
  | zero => intro c x hx; exact (hp_lp_0 hx).elim
  | succ k ih =>
    intro c x hx
    obtain ⟨rr, hr, hc⟩ := hp_lp_1 hx
    have e2 := t_X11_rests_87 I T_v0 hr
    rcases hc with ⟨s3, e3, hx3⟩ | e3
    · subst e3
      exact hp_lp_s e2 (ih _ _ hx3)
    · subst e3
      exact hp_lp_x e2
def g_X11_rests_0 (n : Nat) (v0 : Nat) (v1 : Int32) (v2 : Int32) (s : st_T) : Option (Int32 × st_T) :=
  (g_X11_isKind n v0 v1 (3 : Int32) s).bind fun x1 =>
  if x1 = 0 then
    some ((-1 : Int32), s)
  else
    (hp_lp (gL_X11_rests_13 n v0 v1 v2) n ((0 : Int32), s)).bind fun x2 =>
    (hp_lp (gL_X11_rests_44 n v0 v1 v2) n (v1, x2)).bind fun x4 =>
    (hp_lp (gL_X11_rests_87 n v0 v1 v2 x4) n ((-1 : Int32), (0 : Int32))).bind fun x6 =>
    some (x6, x4)
set_option maxHeartbeats 1000000 in
theorem t_X11_rests_0 {tg r : Nat → Nat} {h hb : hp_H} {s sb : st_T} {n : Nat} {v0 : Nat} {v1 : Int32} {v2 : Int32} (I : iso tg r h s) (F : isf tg r hb h sb s) (T_v0 : tg v0 = 21) {res : Int32 × st_T} (hm : g_X11_rests_0 n v0 v1 v2 s = some res) : ∃ h2, f_X11_rests_0 n (r v0) v1 v2 h = some ((res.1, h2)) ∧ iso tg r h2 res.2 ∧ isf tg r hb h2 sb res.2 := by
  unfold g_X11_rests_0 at hm
  unfold f_X11_rests_0
  obtain ⟨x1, hx1, hm⟩ := hp_bd hm
  refine tr_eq (t_X11_isKind I T_v0 hx1) ?_
  by_cases c8 : x1 = 0
  · rw [if_pos c8] at hm ⊢
    obtain rfl := Option.some.inj hm
    exact ⟨_, rfl, I, F⟩
  · rw [if_neg c8] at hm ⊢
    obtain ⟨x2, hx2, hm⟩ := hp_bd hm
    obtain ⟨_, e2, I, F⟩ := tl_X11_rests_13 T_v0 n _ _ _ _ I F hx2
    refine tr_eq e2 ?_
    try dsimp only [eX_X11_rests_13]
    replace I : iso tg _ _ x2 := I
    replace F : isf tg _ _ _ _ x2 := F
    obtain ⟨x4, hx4, hm⟩ := hp_bd hm
    obtain ⟨_, e2, I, F⟩ := tl_X11_rests_44 T_v0 n _ _ _ _ I F hx4
    refine tr_eq e2 ?_
    try dsimp only [eX_X11_rests_44]
    replace I : iso tg _ _ x4 := I
    replace F : isf tg _ _ _ _ x4 := F
    obtain ⟨x6, hx6, hm⟩ := hp_bd hm
    refine tr_eq (tl_X11_rests_87 I T_v0 n _ _ hx6) ?_
    obtain rfl := Option.some.inj hm
    exact ⟨_, rfl, I, F⟩
def g_X11_rests (n : Nat) (v0 : Nat) (v1 : Int32) (v2 : Int32) (s : st_T) : Option (Int32 × st_T) := g_X11_rests_0 n v0 v1 v2 s
theorem t_X11_rests {tg r : Nat → Nat} {h hb : hp_H} {s sb : st_T} {n : Nat} {v0 : Nat} {v1 : Int32} {v2 : Int32} (I : iso tg r h s) (F : isf tg r hb h sb s) (T_v0 : tg v0 = 21) {res : Int32 × st_T} (hm : g_X11_rests n v0 v1 v2 s = some res) : ∃ h2, f_X11_rests n (r v0) v1 v2 h = some ((res.1, h2)) ∧ iso tg r h2 res.2 ∧ isf tg r hb h2 sb res.2 := by
  unfold g_X11_rests at hm
  unfold f_X11_rests
  refine tr_eq (t_ck I T_v0 (by decide)) ?_
  exact t_X11_rests_0 I F T_v0 hm
def g_X11_find_105 (n : Nat) (v0 : Nat) (v2 : Int32) (v4 : Int32) (s0 : Int32) (s : st_T) : Option ((Int32 × Int32) ⊕ (Int32)) :=
  some (.inl (s0, (v4 + (1 : Int32))))
set_option maxHeartbeats 1000000 in
theorem t_X11_find_105 {tg r : Nat → Nat} {h : hp_H} {s : st_T} {n : Nat} {v0 : Nat} {v2 : Int32} {v4 : Int32} {s0 : Int32} (I : iso tg r h s) (T_v0 : tg v0 = 21) {res : (Int32 × Int32) ⊕ (Int32)} (hm : g_X11_find_105 n v0 v2 v4 s0 s = some res) : f_X11_find_105 n (r v0) v2 v4 s0 h = some res := by
  unfold g_X11_find_105 at hm
  unfold f_X11_find_105
  obtain rfl := Option.some.inj hm
  rfl
def g_X11_find_50 (n : Nat) (v0 : Nat) (v2 : Int32) (v3 : Int32) (v4 : Int32) (s : st_T) : Option ((Int32 × Int32) ⊕ (Int32)) :=
  if (gF s v0 1) ≤ v4 then
    some (.inr v3)
  else
    if v3 = 0 then
      some (.inr v3)
    else
      (g_X11_at n v0 v2 s).bind fun x3 =>
      (gA s (gP s v0 11) x3).bind fun x4 =>
      (gA s (gP s v0 5) ((((8192 : Int32) * (gF s v0 4)) + x4) + v4)).bind fun x5 =>
      (gA s (gP s v0 0) v4).bind fun x7 =>
      if x5 = x7 then
        g_X11_find_105 n v0 v2 v4 (1 : Int32) s
      else
        g_X11_find_105 n v0 v2 v4 (0 : Int32) s
set_option maxHeartbeats 1000000 in
theorem t_X11_find_50 {tg r : Nat → Nat} {h : hp_H} {s : st_T} {n : Nat} {v0 : Nat} {v2 : Int32} {v3 : Int32} {v4 : Int32} (I : iso tg r h s) (T_v0 : tg v0 = 21) {res : (Int32 × Int32) ⊕ (Int32)} (hm : g_X11_find_50 n v0 v2 v3 v4 s = some res) : f_X11_find_50 n (r v0) v2 v3 v4 h = some res := by
  unfold g_X11_find_50 at hm
  unfold f_X11_find_50
  refine tr_eq0 (t_fI I T_v0 (by decide) (by decide) rfl) ?_
  by_cases c10 : (gF s v0 1) ≤ v4
  · rw [if_pos c10] at hm ⊢
    obtain rfl := Option.some.inj hm
    rfl
  · rw [if_neg c10] at hm ⊢
    by_cases c9 : v3 = 0
    · rw [if_pos c9] at hm ⊢
      obtain rfl := Option.some.inj hm
      rfl
    · rw [if_neg c9] at hm ⊢
      have T1 : tg (gP s v0 5) = 0 := t_tg (c := 11) I T_v0 (by decide) (by decide) rfl (by decide)
      refine tr_eq0 (t_fR I T_v0 (by decide) (by decide) (by decide)) ?_
      refine tr_eq0 (t_fI I T_v0 (by decide) (by decide) rfl) ?_
      have T2 : tg (gP s v0 11) = 0 := t_tg (c := 11) I T_v0 (by decide) (by decide) rfl (by decide)
      refine tr_eq0 (t_fR I T_v0 (by decide) (by decide) (by decide)) ?_
      obtain ⟨x3, hx3, hm⟩ := hp_bd hm
      refine tr_eq0 (t_X11_at I T_v0 hx3) ?_
      obtain ⟨x4, hx4, hm⟩ := hp_bd hm
      refine tr_eq0 (t_aI I T2 (by decide) rfl hx4) ?_
      obtain ⟨x5, hx5, hm⟩ := hp_bd hm
      refine tr_eq0 (t_aI I T1 (by decide) rfl hx5) ?_
      have T6 : tg (gP s v0 0) = 0 := t_tg (c := 11) I T_v0 (by decide) (by decide) rfl (by decide)
      refine tr_eq0 (t_fR I T_v0 (by decide) (by decide) (by decide)) ?_
      obtain ⟨x7, hx7, hm⟩ := hp_bd hm
      refine tr_eq0 (t_aI I T6 (by decide) rfl hx7) ?_
      by_cases c8 : x5 = x7
      · rw [if_pos c8] at hm ⊢
        exact t_X11_find_105 I T_v0 hm
      · rw [if_neg c8] at hm ⊢
        exact t_X11_find_105 I T_v0 hm
def gL_X11_find_50 (n : Nat) (v0 : Nat) (v2 : Int32) (s : st_T) (c : Int32 × Int32) : Option ((Int32 × Int32) ⊕ (Int32)) := g_X11_find_50 n v0 v2 c.1 c.2 s
theorem tl_X11_find_50 {tg r : Nat → Nat} {h : hp_H} {s : st_T} {n : Nat} {v0 : Nat} {v2 : Int32} (I : iso tg r h s) (T_v0 : tg v0 = 21) : ∀ (k : Nat) (c : Int32 × Int32) (x : Int32), hp_lp (gL_X11_find_50 n v0 v2 s) k c = some x → hp_lp (fL_X11_find_50 n (r v0) v2 h) k c = some x := by
  intro k
  induction k with
  | zero => intro c x hx; exact (hp_lp_0 hx).elim
  | succ k ih =>
    intro c x hx
    obtain ⟨rr, hr, hc⟩ := hp_lp_1 hx
    have e2 := t_X11_find_50 I T_v0 hr
    rcases hc with ⟨s3, e3, hx3⟩ | e3
    · subst e3
      exact hp_lp_s e2 (ih _ _ hx3)
    · subst e3
      exact hp_lp_x e2
def g_X11_find_122 (n : Nat) (v0 : Nat) (v2 : Int32) (s0 : Int32) (s : st_T) : Option ((Int32 × Int32) ⊕ (Int32)) :=
  some (.inl (s0, (v2 + (1 : Int32))))
set_option maxHeartbeats 1000000 in
theorem t_X11_find_122 {tg r : Nat → Nat} {h : hp_H} {s : st_T} {n : Nat} {v0 : Nat} {v2 : Int32} {s0 : Int32} (I : iso tg r h s) (T_v0 : tg v0 = 21) {res : (Int32 × Int32) ⊕ (Int32)} (hm : g_X11_find_122 n v0 v2 s0 s = some res) : f_X11_find_122 n (r v0) v2 s0 h = some res := by
  unfold g_X11_find_122 at hm
  unfold f_X11_find_122
  obtain rfl := Option.some.inj hm
  rfl
def g_X11_find_112 (n : Nat) (v0 : Nat) (v2 : Int32) (v3 : Int32) (s : st_T) : Option ((Int32 × Int32) ⊕ (Int32)) :=
  if v3 = 0 then
    g_X11_find_122 n v0 v2 (-2 : Int32) s
  else
    g_X11_find_122 n v0 v2 v2 s
set_option maxHeartbeats 1000000 in
theorem t_X11_find_112 {tg r : Nat → Nat} {h : hp_H} {s : st_T} {n : Nat} {v0 : Nat} {v2 : Int32} {v3 : Int32} (I : iso tg r h s) (T_v0 : tg v0 = 21) {res : (Int32 × Int32) ⊕ (Int32)} (hm : g_X11_find_112 n v0 v2 v3 s = some res) : f_X11_find_112 n (r v0) v2 v3 h = some res := by
  unfold g_X11_find_112 at hm
  unfold f_X11_find_112
  by_cases c1 : v3 = 0
  · rw [if_pos c1] at hm ⊢
    exact t_X11_find_122 I T_v0 hm
  · rw [if_neg c1] at hm ⊢
    exact t_X11_find_122 I T_v0 hm
def g_X11_find_46 (n : Nat) (v0 : Nat) (v2 : Int32) (s0 : Int32) (s : st_T) : Option ((Int32 × Int32) ⊕ (Int32)) :=
  (hp_lp (gL_X11_find_50 n v0 v2 s) n (s0, (0 : Int32))).bind fun x1 =>
  g_X11_find_112 n v0 v2 x1 s
set_option maxHeartbeats 1000000 in
theorem t_X11_find_46 {tg r : Nat → Nat} {h : hp_H} {s : st_T} {n : Nat} {v0 : Nat} {v2 : Int32} {s0 : Int32} (I : iso tg r h s) (T_v0 : tg v0 = 21) {res : (Int32 × Int32) ⊕ (Int32)} (hm : g_X11_find_46 n v0 v2 s0 s = some res) : f_X11_find_46 n (r v0) v2 s0 h = some res := by
  unfold g_X11_find_46 at hm
  unfold f_X11_find_46
  obtain ⟨x1, hx1, hm⟩ := hp_bd hm
  refine tr_eq0 (tl_X11_find_50 I T_v0 n _ _ hx1) ?_
  exact t_X11_find_112 I T_v0 hm
def g_X11_find_5 (n : Nat) (v0 : Nat) (v1 : Int32) (v2 : Int32) (s : st_T) : Option ((Int32 × Int32) ⊕ (Int32)) :=
  (gA s (gP s v0 18) (gF s v0 4)).bind fun x2 =>
  if x2 ≤ v2 then
    some (.inr v1)
  else
    if v1 = (-2 : Int32) then
      (g_X11_at n v0 v2 s).bind fun x4 =>
      (gA s (gP s v0 12) x4).bind fun x5 =>
      if x5 = (gF s v0 1) then
        g_X11_find_46 n v0 v2 (1 : Int32) s
      else
        g_X11_find_46 n v0 v2 (0 : Int32) s
    else
      some (.inr v1)
set_option maxHeartbeats 1000000 in
theorem t_X11_find_5 {tg r : Nat → Nat} {h : hp_H} {s : st_T} {n : Nat} {v0 : Nat} {v1 : Int32} {v2 : Int32} (I : iso tg r h s) (T_v0 : tg v0 = 21) {res : (Int32 × Int32) ⊕ (Int32)} (hm : g_X11_find_5 n v0 v1 v2 s = some res) : f_X11_find_5 n (r v0) v1 v2 h = some res := by
  unfold g_X11_find_5 at hm
  unfold f_X11_find_5
  have T1 : tg (gP s v0 18) = 0 := t_tg (c := 11) I T_v0 (by decide) (by decide) rfl (by decide)
  refine tr_eq0 (t_fR I T_v0 (by decide) (by decide) (by decide)) ?_
  refine tr_eq0 (t_fI I T_v0 (by decide) (by decide) rfl) ?_
  obtain ⟨x2, hx2, hm⟩ := hp_bd hm
  refine tr_eq0 (t_aI I T1 (by decide) rfl hx2) ?_
  by_cases c8 : x2 ≤ v2
  · rw [if_pos c8] at hm ⊢
    obtain rfl := Option.some.inj hm
    rfl
  · rw [if_neg c8] at hm ⊢
    by_cases c7 : v1 = (-2 : Int32)
    · rw [if_pos c7] at hm ⊢
      have T3 : tg (gP s v0 12) = 0 := t_tg (c := 11) I T_v0 (by decide) (by decide) rfl (by decide)
      refine tr_eq0 (t_fR I T_v0 (by decide) (by decide) (by decide)) ?_
      obtain ⟨x4, hx4, hm⟩ := hp_bd hm
      refine tr_eq0 (t_X11_at I T_v0 hx4) ?_
      obtain ⟨x5, hx5, hm⟩ := hp_bd hm
      refine tr_eq0 (t_aI I T3 (by decide) rfl hx5) ?_
      refine tr_eq0 (t_fI I T_v0 (by decide) (by decide) rfl) ?_
      by_cases c6 : x5 = (gF s v0 1)
      · rw [if_pos c6] at hm ⊢
        exact t_X11_find_46 I T_v0 hm
      · rw [if_neg c6] at hm ⊢
        exact t_X11_find_46 I T_v0 hm
    · rw [if_neg c7] at hm ⊢
      obtain rfl := Option.some.inj hm
      rfl
def gL_X11_find_5 (n : Nat) (v0 : Nat) (s : st_T) (c : Int32 × Int32) : Option ((Int32 × Int32) ⊕ (Int32)) := g_X11_find_5 n v0 c.1 c.2 s
theorem tl_X11_find_5 {tg r : Nat → Nat} {h : hp_H} {s : st_T} {n : Nat} {v0 : Nat} (I : iso tg r h s) (T_v0 : tg v0 = 21) : ∀ (k : Nat) (c : Int32 × Int32) (x : Int32), hp_lp (gL_X11_find_5 n v0 s) k c = some x → hp_lp (fL_X11_find_5 n (r v0) h) k c = some x := by
  intro k
  induction k with
  | zero => intro c x hx; exact (hp_lp_0 hx).elim
  | succ k ih =>
    intro c x hx
    obtain ⟨rr, hr, hc⟩ := hp_lp_1 hx
    have e2 := t_X11_find_5 I T_v0 hr
    rcases hc with ⟨s3, e3, hx3⟩ | e3
    · subst e3
      exact hp_lp_s e2 (ih _ _ hx3)
    · subst e3
      exact hp_lp_x e2
def g_X11_find_129 (n : Nat) (v0 : Nat) (v1 : Int32) (s : st_T) : Option (Int32 × st_T) :=
  (wF s v0 1 (0 : Int32)).bind fun w1 =>
  some (v1, w1)
set_option maxHeartbeats 1000000 in
theorem t_X11_find_129 {tg r : Nat → Nat} {h hb : hp_H} {s sb : st_T} {n : Nat} {v0 : Nat} {v1 : Int32} (I : iso tg r h s) (F : isf tg r hb h sb s) (T_v0 : tg v0 = 21) {res : Int32 × st_T} (hm : g_X11_find_129 n v0 v1 s = some res) : ∃ h2, f_X11_find_129 n (r v0) v1 h = some ((res.1, h2)) ∧ iso tg r h2 res.2 ∧ isf tg r hb h2 sb res.2 := by
  unfold g_X11_find_129 at hm
  unfold f_X11_find_129
  obtain ⟨w1, hw1, hm⟩ := hp_bd hm
  obtain ⟨_, e2, I, F⟩ := t_wF (c := 11) (k := 1) I F T_v0 (by decide) (by decide) rfl hw1
  refine tr_eq e2 ?_
  obtain rfl := Option.some.inj hm
  exact ⟨_, rfl, I, F⟩
def g_X11_find_0 (n : Nat) (v0 : Nat) (s : st_T) : Option (Int32 × st_T) :=
  (hp_lp (gL_X11_find_5 n v0 s) n ((-2 : Int32), (0 : Int32))).bind fun x1 =>
  g_X11_find_129 n v0 x1 s
set_option maxHeartbeats 1000000 in
theorem t_X11_find_0 {tg r : Nat → Nat} {h hb : hp_H} {s sb : st_T} {n : Nat} {v0 : Nat} (I : iso tg r h s) (F : isf tg r hb h sb s) (T_v0 : tg v0 = 21) {res : Int32 × st_T} (hm : g_X11_find_0 n v0 s = some res) : ∃ h2, f_X11_find_0 n (r v0) h = some ((res.1, h2)) ∧ iso tg r h2 res.2 ∧ isf tg r hb h2 sb res.2 := by
  unfold g_X11_find_0 at hm
  unfold f_X11_find_0
  obtain ⟨x1, hx1, hm⟩ := hp_bd hm
  refine tr_eq (tl_X11_find_5 I T_v0 n _ _ hx1) ?_
  exact t_X11_find_129 I F T_v0 hm
def g_X11_find (n : Nat) (v0 : Nat) (s : st_T) : Option (Int32 × st_T) := g_X11_find_0 n v0 s
theorem t_X11_find {tg r : Nat → Nat} {h hb : hp_H} {s sb : st_T} {n : Nat} {v0 : Nat} (I : iso tg r h s) (F : isf tg r hb h sb s) (T_v0 : tg v0 = 21) {res : Int32 × st_T} (hm : g_X11_find n v0 s = some res) : ∃ h2, f_X11_find n (r v0) h = some ((res.1, h2)) ∧ iso tg r h2 res.2 ∧ isf tg r hb h2 sb res.2 := by
  unfold g_X11_find at hm
  unfold f_X11_find
  refine tr_eq (t_ck I T_v0 (by decide)) ?_
  exact t_X11_find_0 I F T_v0 hm
