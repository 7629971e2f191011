abbrev eX_J7_fill_53178_5 (x : st_T) (h2 : hp_H) : hp_H := (fun y => h2) x
abbrev sX_J7_fill_53178_5 (x : st_T) : st_T := (fun y => y) x
abbrev eR_J7_fill_53178_5 (x : (Int32 × st_T) ⊕ (st_T)) (h2 : hp_H) : (Int32 × hp_H) ⊕ (hp_H) := Sum.elim (fun y => .inl (y.1, h2)) (fun y => .inr (eX_J7_fill_53178_5 y h2)) x
abbrev sR_J7_fill_53178_5 (x : (Int32 × st_T) ⊕ (st_T)) : st_T := Sum.elim (fun y => y.2) sX_J7_fill_53178_5 x
def g_J7_fill_53178_5 (n : Nat) (v0 : Nat) (v1 : Int32) (v2 : Int32) (v3 : Int32) (s : st_T) : Option ((Int32 × st_T) ⊕ (st_T)) :=
  if v3 ≤ v2 then
    some (.inr s)
  else
    (uA 0 s v0 v2 v1).bind fun w1 =>
    some (.inl ((v2 + (1 : Int32)), w1))
set_option maxHeartbeats 1000000 in
theorem t_J7_fill_53178_5 {tg r : Nat → Nat} {h hb : hp_H} {s sb : st_T} {n : Nat} {v0 : Nat} {v1 : Int32} {v2 : Int32} {v3 : Int32} (I : iso tg r h s) (F : isf tg r hb h sb s) (T_v0 : tg v0 = 0) {res : (Int32 × st_T) ⊕ (st_T)} (hm : g_J7_fill_53178_5 n v0 v1 v2 v3 s = some res) : ∃ h2, f_J7_fill_53178_5 n (r v0) v1 v2 v3 h = some (eR_J7_fill_53178_5 res h2) ∧ iso tg r h2 (sR_J7_fill_53178_5 res) ∧ isf tg r hb h2 sb (sR_J7_fill_53178_5 res) := by
  unfold g_J7_fill_53178_5 at hm
  unfold f_J7_fill_53178_5
  by_cases c2 : v3 ≤ v2
  · rw [if_pos c2] at hm ⊢
    obtain rfl := Option.some.inj hm
    exact ⟨_, rfl, I, F⟩
  · rw [if_neg c2] at hm ⊢
    obtain ⟨w1, hw1, hm⟩ := hp_bd hm
    obtain ⟨_, e2, I, F⟩ := t_sI I F T_v0 (by decide) rfl hw1
    refine tr_eq e2 ?_
    obtain rfl := Option.some.inj hm
    exact ⟨_, rfl, I, F⟩
def gL_J7_fill_53178_5 (n : Nat) (v0 : Nat) (v1 : Int32) (v3 : Int32) (c : Int32 × st_T) : Option ((Int32 × st_T) ⊕ (st_T)) := g_J7_fill_53178_5 n v0 v1 c.1 v3 c.2
theorem tl_J7_fill_53178_5 {tg r : Nat → Nat} {hb : hp_H} {sb : st_T} {n : Nat} {v0 : Nat} {v1 : Int32} {v3 : Int32} (T_v0 : tg v0 = 0) : ∀ (k : Nat) (c0 : Int32) (h : hp_H) (s : st_T) (x : st_T), iso tg r h s → isf tg r hb h sb s → hp_lp (gL_J7_fill_53178_5 n v0 v1 v3) k (c0, s) = some x → ∃ h2, hp_lp (fL_J7_fill_53178_5 n (r v0) v1 v3) k (c0, h) = some (eX_J7_fill_53178_5 x h2) ∧ iso tg r h2 (sX_J7_fill_53178_5 x) ∧ isf tg r hb h2 sb (sX_J7_fill_53178_5 x) := by
  intro k
  induction k with
  | zero => intro c0 h s x I F hx; exact (hp_lp_0 hx).elim
  | succ k ih =>
    intro c0 h s x I F hx
    obtain ⟨rr, hr, hc⟩ := hp_lp_1 hx
    obtain ⟨h2, e2, I2, F2⟩ := t_J7_fill_53178_5 I F T_v0 hr
    rcases hc with ⟨s3, e3, hx3⟩ | e3
    · subst e3
      obtain ⟨h3, e4, I3, F3⟩ := ih _ h2 _ x I2 F2 hx3
      exact ⟨h3, hp_lp_s e2 e4, I3, F3⟩
    · subst e3
      exact ⟨h2, hp_lp_x e2, I2, F2⟩
def g_J7_fill_53178_0 (n : Nat) (v0 : Nat) (v1 : Int32) (s : st_T) : Option (st_T) :=
  (hp_lp (gL_J7_fill_53178_5 n v0 v1 (gL s v0)) n ((0 : Int32), s)).bind fun x1 =>
  some x1
set_option maxHeartbeats 1000000 in
theorem t_J7_fill_53178_0 {tg r : Nat → Nat} {h hb : hp_H} {s sb : st_T} {n : Nat} {v0 : Nat} {v1 : Int32} (I : iso tg r h s) (F : isf tg r hb h sb s) (T_v0 : tg v0 = 0) {res : st_T} (hm : g_J7_fill_53178_0 n v0 v1 s = some res) : ∃ h2, f_J7_fill_53178_0 n (r v0) v1 h = some (h2) ∧ iso tg r h2 res ∧ isf tg r hb h2 sb res := by
  unfold g_J7_fill_53178_0 at hm
  unfold f_J7_fill_53178_0
  refine tr_eq (t_len I T_v0 (by decide)) ?_
  obtain ⟨x1, hx1, hm⟩ := hp_bd hm
  obtain ⟨_, e2, I, F⟩ := tl_J7_fill_53178_5 T_v0 n _ _ _ _ I F hx1
  refine tr_eq e2 ?_
  try dsimp only [eX_J7_fill_53178_5]
  replace I : iso tg _ _ x1 := I
  replace F : isf tg _ _ _ _ x1 := F
  obtain rfl := Option.some.inj hm
  exact ⟨_, rfl, I, F⟩
def g_J7_fill_53178 (n : Nat) (v0 : Nat) (v1 : Int32) (s : st_T) : Option (st_T) := g_J7_fill_53178_0 n v0 v1 s
theorem t_J7_fill_53178 {tg r : Nat → Nat} {h hb : hp_H} {s sb : st_T} {n : Nat} {v0 : Nat} {v1 : Int32} (I : iso tg r h s) (F : isf tg r hb h sb s) (T_v0 : tg v0 = 0) {res : st_T} (hm : g_J7_fill_53178 n v0 v1 s = some res) : ∃ h2, f_J7_fill_53178 n (r v0) v1 h = some (h2) ∧ iso tg r h2 res ∧ isf tg r hb h2 sb res := by
  unfold g_J7_fill_53178 at hm
  unfold f_J7_fill_53178
  exact t_J7_fill_53178_0 I F T_v0 hm
abbrev eX_J7_fill_d0a16_6 (x : st_T) (h2 : hp_H) : hp_H := (fun y => h2) x
abbrev sX_J7_fill_d0a16_6 (x : st_T) : st_T := (fun y => y) x
abbrev eR_J7_fill_d0a16_6 (x : (Int32 × st_T) ⊕ (st_T)) (h2 : hp_H) : (Int32 × hp_H) ⊕ (hp_H) := Sum.elim (fun y => .inl (y.1, h2)) (fun y => .inr (eX_J7_fill_d0a16_6 y h2)) x
abbrev sR_J7_fill_d0a16_6 (x : (Int32 × st_T) ⊕ (st_T)) : st_T := Sum.elim (fun y => y.2) sX_J7_fill_d0a16_6 x
def g_J7_fill_d0a16_6 (n : Nat) (v0 : Nat) (v1 : Int64) (v3 : Int32) (v4 : Int32) (s : st_T) : Option ((Int32 × st_T) ⊕ (st_T)) :=
  if v4 ≤ v3 then
    some (.inr s)
  else
    (uJ s v0 v3 v1).bind fun w1 =>
    some (.inl ((v3 + (1 : Int32)), w1))
set_option maxHeartbeats 1000000 in
theorem t_J7_fill_d0a16_6 {tg r : Nat → Nat} {h hb : hp_H} {s sb : st_T} {n : Nat} {v0 : Nat} {v1 : Int64} {v3 : Int32} {v4 : Int32} (I : iso tg r h s) (F : isf tg r hb h sb s) (T_v0 : tg v0 = 3) {res : (Int32 × st_T) ⊕ (st_T)} (hm : g_J7_fill_d0a16_6 n v0 v1 v3 v4 s = some res) : ∃ h2, f_J7_fill_d0a16_6 n (r v0) v1 v3 v4 h = some (eR_J7_fill_d0a16_6 res h2) ∧ iso tg r h2 (sR_J7_fill_d0a16_6 res) ∧ isf tg r hb h2 sb (sR_J7_fill_d0a16_6 res) := by
  unfold g_J7_fill_d0a16_6 at hm
  unfold f_J7_fill_d0a16_6
  by_cases c2 : v4 ≤ v3
  · rw [if_pos c2] at hm ⊢
    obtain rfl := Option.some.inj hm
    exact ⟨_, rfl, I, F⟩
  · rw [if_neg c2] at hm ⊢
    obtain ⟨w1, hw1, hm⟩ := hp_bd hm
    obtain ⟨_, e2, I, F⟩ := t_sJ I F T_v0 hw1
    refine tr_eq e2 ?_
    obtain rfl := Option.some.inj hm
    exact ⟨_, rfl, I, F⟩
def gL_J7_fill_d0a16_6 (n : Nat) (v0 : Nat) (v1 : Int64) (v4 : Int32) (c : Int32 × st_T) : Option ((Int32 × st_T) ⊕ (st_T)) := g_J7_fill_d0a16_6 n v0 v1 c.1 v4 c.2
theorem tl_J7_fill_d0a16_6 {tg r : Nat → Nat} {hb : hp_H} {sb : st_T} {n : Nat} {v0 : Nat} {v1 : Int64} {v4 : Int32} (T_v0 : tg v0 = 3) : ∀ (k : Nat) (c0 : Int32) (h : hp_H) (s : st_T) (x : st_T), iso tg r h s → isf tg r hb h sb s → hp_lp (gL_J7_fill_d0a16_6 n v0 v1 v4) k (c0, s) = some x → ∃ h2, hp_lp (fL_J7_fill_d0a16_6 n (r v0) v1 v4) k (c0, h) = some (eX_J7_fill_d0a16_6 x h2) ∧ iso tg r h2 (sX_J7_fill_d0a16_6 x) ∧ isf tg r hb h2 sb (sX_J7_fill_d0a16_6 x) := by
  intro k
  induction k with
  | zero => intro c0 h s x I F hx; exact (hp_lp_0 hx).elim
  | succ k ih =>
    intro c0 h s x I F hx
    obtain ⟨rr, hr, hc⟩ := hp_lp_1 hx
    obtain ⟨h2, e2, I2, F2⟩ := t_J7_fill_d0a16_6 I F T_v0 hr
    rcases hc with ⟨s3, e3, hx3⟩ | e3
    · subst e3
      obtain ⟨h3, e4, I3, F3⟩ := ih _ h2 _ x I2 F2 hx3
      exact ⟨h3, hp_lp_s e2 e4, I3, F3⟩
    · subst e3
      exact ⟨h2, hp_lp_x e2, I2, F2⟩
def g_J7_fill_d0a16_0 (n : Nat) (v0 : Nat) (v1 : Int64) (s : st_T) : Option (st_T) :=
  (hp_lp (gL_J7_fill_d0a16_6 n v0 v1 (gL s v0)) n ((0 : Int32), s)).bind fun x1 =>
  some x1
set_option maxHeartbeats 1000000 in
theorem t_J7_fill_d0a16_0 {tg r : Nat → Nat} {h hb : hp_H} {s sb : st_T} {n : Nat} {v0 : Nat} {v1 : Int64} (I : iso tg r h s) (F : isf tg r hb h sb s) (T_v0 : tg v0 = 3) {res : st_T} (hm : g_J7_fill_d0a16_0 n v0 v1 s = some res) : ∃ h2, f_J7_fill_d0a16_0 n (r v0) v1 h = some (h2) ∧ iso tg r h2 res ∧ isf tg r hb h2 sb res := by
  unfold g_J7_fill_d0a16_0 at hm
  unfold f_J7_fill_d0a16_0
  refine tr_eq (t_len I T_v0 (by decide)) ?_
  obtain ⟨x1, hx1, hm⟩ := hp_bd hm
  obtain ⟨_, e2, I, F⟩ := tl_J7_fill_d0a16_6 T_v0 n _ _ _ _ I F hx1
  refine tr_eq e2 ?_
  try dsimp only [eX_J7_fill_d0a16_6]
  replace I : iso tg _ _ x1 := I
  replace F : isf tg _ _ _ _ x1 := F
  obtain rfl := Option.some.inj hm
  exact ⟨_, rfl, I, F⟩
def g_J7_fill_d0a16 (n : Nat) (v0 : Nat) (v1 : Int64) (s : st_T) : Option (st_T) := g_J7_fill_d0a16_0 n v0 v1 s
theorem t_J7_fill_d0a16 {tg r : Nat → Nat} {h hb : hp_H} {s sb : st_T} {n : Nat} {v0 : Nat} {v1 : Int64} (I : iso tg r h s) (F : isf tg r hb h sb s) (T_v0 : tg v0 = 3) {res : st_T} (hm : g_J7_fill_d0a16 n v0 v1 s = some res) : ∃ h2, f_J7_fill_d0a16 n (r v0) v1 h = some (h2) ∧ iso tg r h2 res ∧ isf tg r hb h2 sb res := by
  unfold g_J7_fill_d0a16 at hm
  unfold f_J7_fill_d0a16
  exact t_J7_fill_d0a16_0 I F T_v0 hm
abbrev eX_J7_fill_031fb_5 (x : st_T) (h2 : hp_H) : hp_H := (fun y => h2) x
abbrev sX_J7_fill_031fb_5 (x : st_T) : st_T := (fun y => y) x
abbrev eR_J7_fill_031fb_5 (x : (Int32 × st_T) ⊕ (st_T)) (h2 : hp_H) : (Int32 × hp_H) ⊕ (hp_H) := Sum.elim (fun y => .inl (y.1, h2)) (fun y => .inr (eX_J7_fill_031fb_5 y h2)) x
abbrev sR_J7_fill_031fb_5 (x : (Int32 × st_T) ⊕ (st_T)) : st_T := Sum.elim (fun y => y.2) sX_J7_fill_031fb_5 x
def g_J7_fill_031fb_5 (n : Nat) (v0 : Nat) (v1 : Int32) (v2 : Int32) (v3 : Int32) (s : st_T) : Option ((Int32 × st_T) ⊕ (st_T)) :=
  if v3 ≤ v2 then
    some (.inr s)
  else
    (uA 1 s v0 v2 v1).bind fun w1 =>
    some (.inl ((v2 + (1 : Int32)), w1))
set_option maxHeartbeats 1000000 in
theorem t_J7_fill_031fb_5 {tg r : Nat → Nat} {h hb : hp_H} {s sb : st_T} {n : Nat} {v0 : Nat} {v1 : Int32} {v2 : Int32} {v3 : Int32} (I : iso tg r h s) (F : isf tg r hb h sb s) (T_v0 : tg v0 = 1) {res : (Int32 × st_T) ⊕ (st_T)} (hm : g_J7_fill_031fb_5 n v0 v1 v2 v3 s = some res) : ∃ h2, f_J7_fill_031fb_5 n (r v0) v1 v2 v3 h = some (eR_J7_fill_031fb_5 res h2) ∧ iso tg r h2 (sR_J7_fill_031fb_5 res) ∧ isf tg r hb h2 sb (sR_J7_fill_031fb_5 res) := by
  unfold g_J7_fill_031fb_5 at hm
  unfold f_J7_fill_031fb_5
  by_cases c2 : v3 ≤ v2
  · rw [if_pos c2] at hm ⊢
    obtain rfl := Option.some.inj hm
    exact ⟨_, rfl, I, F⟩
  · rw [if_neg c2] at hm ⊢
    obtain ⟨w1, hw1, hm⟩ := hp_bd hm
    obtain ⟨_, e2, I, F⟩ := t_sI I F T_v0 (by decide) rfl hw1
    refine tr_eq e2 ?_
    obtain rfl := Option.some.inj hm
    exact ⟨_, rfl, I, F⟩
def gL_J7_fill_031fb_5 (n : Nat) (v0 : Nat) (v1 : Int32) (v3 : Int32) (c : Int32 × st_T) : Option ((Int32 × st_T) ⊕ (st_T)) := g_J7_fill_031fb_5 n v0 v1 c.1 v3 c.2
theorem tl_J7_fill_031fb_5 {tg r : Nat → Nat} {hb : hp_H} {sb : st_T} {n : Nat} {v0 : Nat} {v1 : Int32} {v3 : Int32} (T_v0 : tg v0 = 1) : ∀ (k : Nat) (c0 : Int32) (h : hp_H) (s : st_T) (x : st_T), iso tg r h s → isf tg r hb h sb s → hp_lp (gL_J7_fill_031fb_5 n v0 v1 v3) k (c0, s) = some x → ∃ h2, hp_lp (fL_J7_fill_031fb_5 n (r v0) v1 v3) k (c0, h) = some (eX_J7_fill_031fb_5 x h2) ∧ iso tg r h2 (sX_J7_fill_031fb_5 x) ∧ isf tg r hb h2 sb (sX_J7_fill_031fb_5 x) := by
  intro k
  induction k with
  | zero => intro c0 h s x I F hx; exact (hp_lp_0 hx).elim
  | succ k ih =>
    intro c0 h s x I F hx
    obtain ⟨rr, hr, hc⟩ := hp_lp_1 hx
    obtain ⟨h2, e2, I2, F2⟩ := t_J7_fill_031fb_5 I F T_v0 hr
    rcases hc with ⟨s3, e3, hx3⟩ | e3
    · subst e3
      obtain ⟨h3, e4, I3, F3⟩ := ih _ h2 _ x I2 F2 hx3
      exact ⟨h3, hp_lp_s e2 e4, I3, F3⟩
    · subst e3
      exact ⟨h2, hp_lp_x e2, I2, F2⟩
def g_J7_fill_031fb_0 (n : Nat) (v0 : Nat) (v1 : Int32) (s : st_T) : Option (st_T) :=
  (hp_lp (gL_J7_fill_031fb_5 n v0 v1 (gL s v0)) n ((0 : Int32), s)).bind fun x1 =>
  some x1
set_option maxHeartbeats 1000000 in
theorem t_J7_fill_031fb_0 {tg r : Nat → Nat} {h hb : hp_H} {s sb : st_T} {n : Nat} {v0 : Nat} {v1 : Int32} (I : iso tg r h s) (F : isf tg r hb h sb s) (T_v0 : tg v0 = 1) {res : st_T} (hm : g_J7_fill_031fb_0 n v0 v1 s = some res) : ∃ h2, f_J7_fill_031fb_0 n (r v0) v1 h = some (h2) ∧ iso tg r h2 res ∧ isf tg r hb h2 sb res := by
  unfold g_J7_fill_031fb_0 at hm
  unfold f_J7_fill_031fb_0
  refine tr_eq (t_len I T_v0 (by decide)) ?_
  obtain ⟨x1, hx1, hm⟩ := hp_bd hm
  obtain ⟨_, e2, I, F⟩ := tl_J7_fill_031fb_5 T_v0 n _ _ _ _ I F hx1
  refine tr_eq e2 ?_
  try dsimp only [eX_J7_fill_031fb_5]
  replace I : iso tg _ _ x1 := I
  replace F : isf tg _ _ _ _ x1 := F
  obtain rfl := Option.some.inj hm
  exact ⟨_, rfl, I, F⟩
def g_J7_fill_031fb (n : Nat) (v0 : Nat) (v1 : Int32) (s : st_T) : Option (st_T) := g_J7_fill_031fb_0 n v0 v1 s
theorem t_J7_fill_031fb {tg r : Nat → Nat} {h hb : hp_H} {s sb : st_T} {n : Nat} {v0 : Nat} {v1 : Int32} (I : iso tg r h s) (F : isf tg r hb h sb s) (T_v0 : tg v0 = 1) {res : st_T} (hm : g_J7_fill_031fb n v0 v1 s = some res) : ∃ h2, f_J7_fill_031fb n (r v0) v1 h = some (h2) ∧ iso tg r h2 res ∧ isf tg r hb h2 sb res := by
  unfold g_J7_fill_031fb at hm
  unfold f_J7_fill_031fb
  exact t_J7_fill_031fb_0 I F T_v0 hm
