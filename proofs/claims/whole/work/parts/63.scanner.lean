def g_X6_init_0 (n : Nat) (v0 : Nat) (v1 : Nat) (s : st_T) : Option (st_T) :=
  (wP s v0 3 v1).bind fun w1 =>
  some w1
set_option maxHeartbeats 1000000 in
theorem t_X6_init_0 {tg r : Nat → Nat} {h hb : hp_H} {s sb : st_T} {n : Nat} {v0 : Nat} {v1 : Nat} (I : iso tg r h s) (F : isf tg r hb h sb s) (T_v0 : tg v0 = 16) (T_v1 : tg v1 = 1) {res : st_T} (hm : g_X6_init_0 n v0 v1 s = some res) : ∃ h2, f_X6_init_0 n (r v0) (r v1) h = some (h2) ∧ iso tg r h2 res ∧ isf tg r hb h2 sb res := by
  unfold g_X6_init_0 at hm
  unfold f_X6_init_0
  obtain ⟨w1, hw1, hm⟩ := hp_bd hm
  obtain ⟨_, e2, I, F⟩ := t_wP (c := 6) (k := 3) I F (by decide) T_v0 (by decide) (by decide) rfl (by decide) T_v1 hw1
  refine tr_eq e2 ?_
  obtain rfl := Option.some.inj hm
  exact ⟨_, rfl, I, F⟩
def g_X6_init (n : Nat) (v0 : Nat) (v1 : Nat) (s : st_T) : Option (st_T) := g_X6_init_0 n v0 v1 s
theorem t_X6_init {tg r : Nat → Nat} {h hb : hp_H} {s sb : st_T} {n : Nat} {v0 : Nat} {v1 : Nat} (I : iso tg r h s) (F : isf tg r hb h sb s) (T_v0 : tg v0 = 16) (T_v1 : tg v1 = 1) {res : st_T} (hm : g_X6_init n v0 v1 s = some res) : ∃ h2, f_X6_init n (r v0) (r v1) h = some (h2) ∧ iso tg r h2 res ∧ isf tg r hb h2 sb res := by
  unfold g_X6_init at hm
  unfold f_X6_init
  refine tr_eq (t_ck I T_v0 (by decide)) ?_
  exact t_X6_init_0 I F T_v0 T_v1 hm
def g_X6_open_0 (n : Nat) (v0 : Nat) (v1 : Nat) (v2 : Int32) (s : st_T) : Option (st_T) :=
  (wP s v0 3 v1).bind fun w1 =>
  (wF w1 v0 4 v2).bind fun w2 =>
  (wF w2 v0 0 (0 : Int32)).bind fun w3 =>
  (wF w3 v0 1 (0 : Int32)).bind fun w4 =>
  (wF w4 v0 2 (0 : Int32)).bind fun w5 =>
  some w5
set_option maxHeartbeats 1000000 in
theorem t_X6_open_0 {tg r : Nat → Nat} {h hb : hp_H} {s sb : st_T} {n : Nat} {v0 : Nat} {v1 : Nat} {v2 : Int32} (I : iso tg r h s) (F : isf tg r hb h sb s) (T_v0 : tg v0 = 16) (T_v1 : tg v1 = 1) {res : st_T} (hm : g_X6_open_0 n v0 v1 v2 s = some res) : ∃ h2, f_X6_open_0 n (r v0) (r v1) v2 h = some (h2) ∧ iso tg r h2 res ∧ isf tg r hb h2 sb res := by
  unfold g_X6_open_0 at hm
  unfold f_X6_open_0
  obtain ⟨w1, hw1, hm⟩ := hp_bd hm
  obtain ⟨_, e2, I, F⟩ := t_wP (c := 6) (k := 3) I F (by decide) T_v0 (by decide) (by decide) rfl (by decide) T_v1 hw1
  refine tr_eq e2 ?_
  obtain ⟨w2, hw2, hm⟩ := hp_bd hm
  obtain ⟨_, e2, I, F⟩ := t_wF (c := 6) (k := 4) I F T_v0 (by decide) (by decide) rfl hw2
  refine tr_eq e2 ?_
  obtain ⟨w3, hw3, hm⟩ := hp_bd hm
  obtain ⟨_, e2, I, F⟩ := t_wF (c := 6) (k := 0) I F T_v0 (by decide) (by decide) rfl hw3
  refine tr_eq e2 ?_
  obtain ⟨w4, hw4, hm⟩ := hp_bd hm
  obtain ⟨_, e2, I, F⟩ := t_wF (c := 6) (k := 1) I F T_v0 (by decide) (by decide) rfl hw4
  refine tr_eq e2 ?_
  obtain ⟨w5, hw5, hm⟩ := hp_bd hm
  obtain ⟨_, e2, I, F⟩ := t_wF (c := 6) (k := 2) I F T_v0 (by decide) (by decide) rfl hw5
  refine tr_eq e2 ?_
  obtain rfl := Option.some.inj hm
  exact ⟨_, rfl, I, F⟩
def g_X6_open (n : Nat) (v0 : Nat) (v1 : Nat) (v2 : Int32) (s : st_T) : Option (st_T) := g_X6_open_0 n v0 v1 v2 s
theorem t_X6_open {tg r : Nat → Nat} {h hb : hp_H} {s sb : st_T} {n : Nat} {v0 : Nat} {v1 : Nat} {v2 : Int32} (I : iso tg r h s) (F : isf tg r hb h sb s) (T_v0 : tg v0 = 16) (T_v1 : tg v1 = 1) {res : st_T} (hm : g_X6_open n v0 v1 v2 s = some res) : ∃ h2, f_X6_open n (r v0) (r v1) v2 h = some (h2) ∧ iso tg r h2 res ∧ isf tg r hb h2 sb res := by
  unfold g_X6_open at hm
  unfold f_X6_open
  refine tr_eq (t_ck I T_v0 (by decide)) ?_
  exact t_X6_open_0 I F T_v0 T_v1 hm
def g_X6_isBlank_30 (n : Nat) (s : st_T) : Option (Int32) :=
  some (1 : Int32)
set_option maxHeartbeats 1000000 in
theorem t_X6_isBlank_30 {tg r : Nat → Nat} {h : hp_H} {s : st_T} {n : Nat} (I : iso tg r h s) {res : Int32} (hm : g_X6_isBlank_30 n  s = some res) : f_X6_isBlank_30 n  h = some res := by
  unfold g_X6_isBlank_30 at hm
  unfold f_X6_isBlank_30
  obtain rfl := Option.some.inj hm
  rfl
def g_X6_isBlank_0 (n : Nat) (v0 : Int32) (s : st_T) : Option (Int32) :=
  if v0 = (32 : Int32) then
    g_X6_isBlank_30 n  s
  else
    if v0 = (9 : Int32) then
      g_X6_isBlank_30 n  s
    else
      if v0 = (10 : Int32) then
        g_X6_isBlank_30 n  s
      else
        if v0 = (12 : Int32) then
          g_X6_isBlank_30 n  s
        else
          if v0 = (13 : Int32) then
            g_X6_isBlank_30 n  s
          else
            some (0 : Int32)
set_option maxHeartbeats 1000000 in
theorem t_X6_isBlank_0 {tg r : Nat → Nat} {h : hp_H} {s : st_T} {n : Nat} {v0 : Int32} (I : iso tg r h s) {res : Int32} (hm : g_X6_isBlank_0 n v0 s = some res) : f_X6_isBlank_0 n v0 h = some res := by
  unfold g_X6_isBlank_0 at hm
  unfold f_X6_isBlank_0
  by_cases c5 : v0 = (32 : Int32)
  · rw [if_pos c5] at hm ⊢
    exact t_X6_isBlank_30 I  hm
  · rw [if_neg c5] at hm ⊢
    by_cases c4 : v0 = (9 : Int32)
    · rw [if_pos c4] at hm ⊢
      exact t_X6_isBlank_30 I  hm
    · rw [if_neg c4] at hm ⊢
      by_cases c3 : v0 = (10 : Int32)
      · rw [if_pos c3] at hm ⊢
        exact t_X6_isBlank_30 I  hm
      · rw [if_neg c3] at hm ⊢
        by_cases c2 : v0 = (12 : Int32)
        · rw [if_pos c2] at hm ⊢
          exact t_X6_isBlank_30 I  hm
        · rw [if_neg c2] at hm ⊢
          by_cases c1 : v0 = (13 : Int32)
          · rw [if_pos c1] at hm ⊢
            exact t_X6_isBlank_30 I  hm
          · rw [if_neg c1] at hm ⊢
            obtain rfl := Option.some.inj hm
            rfl
def g_X6_isBlank (n : Nat) (v0 : Int32) (s : st_T) : Option (Int32) := g_X6_isBlank_0 n v0 s
theorem t_X6_isBlank {tg r : Nat → Nat} {h : hp_H} {s : st_T} {n : Nat} {v0 : Int32} (I : iso tg r h s) {res : Int32} (hm : g_X6_isBlank n v0 s = some res) : f_X6_isBlank n v0 h = some res := by
  unfold g_X6_isBlank at hm
  unfold f_X6_isBlank
  exact t_X6_isBlank_0 I  hm
abbrev eX_X6_cut_8 (x : st_T) (h2 : hp_H) : hp_H := (fun y => h2) x
abbrev sX_X6_cut_8 (x : st_T) : st_T := (fun y => y) x
abbrev eR_X6_cut_8 (x : (st_T) ⊕ (st_T)) (h2 : hp_H) : (hp_H) ⊕ (hp_H) := Sum.elim (fun y => .inl h2) (fun y => .inr (eX_X6_cut_8 y h2)) x
abbrev sR_X6_cut_8 (x : (st_T) ⊕ (st_T)) : st_T := Sum.elim (fun y => y) sX_X6_cut_8 x
def g_X6_cut_8 (n : Nat) (v0 : Nat) (s : st_T) : Option ((st_T) ⊕ (st_T)) :=
  if (gF s v0 4) ≤ (gF s v0 0) then
    some (.inr s)
  else
    (gA s (gP s v0 3) (gF s v0 0)).bind fun x2 =>
    (g_X6_isBlank n x2 s).bind fun x3 =>
    if x3 = 0 then
      some (.inr s)
    else
      (wF s v0 0 ((gF s v0 0) + (1 : Int32))).bind fun w4 =>
      some (.inl w4)
set_option maxHeartbeats 1000000 in
theorem t_X6_cut_8 {tg r : Nat → Nat} {h hb : hp_H} {s sb : st_T} {n : Nat} {v0 : Nat} (I : iso tg r h s) (F : isf tg r hb h sb s) (T_v0 : tg v0 = 16) {res : (st_T) ⊕ (st_T)} (hm : g_X6_cut_8 n v0 s = some res) : ∃ h2, f_X6_cut_8 n (r v0) h = some (eR_X6_cut_8 res h2) ∧ iso tg r h2 (sR_X6_cut_8 res) ∧ isf tg r hb h2 sb (sR_X6_cut_8 res) := by
  unfold g_X6_cut_8 at hm
  unfold f_X6_cut_8
  refine tr_eq (t_fI I T_v0 (by decide) (by decide) rfl) ?_
  refine tr_eq (t_fI I T_v0 (by decide) (by decide) rfl) ?_
  by_cases c6 : (gF s v0 4) ≤ (gF s v0 0)
  · rw [if_pos c6] at hm ⊢
    obtain rfl := Option.some.inj hm
    exact ⟨_, rfl, I, F⟩
  · rw [if_neg c6] at hm ⊢
    have T1 : tg (gP s v0 3) = 1 := t_tg (c := 6) I T_v0 (by decide) (by decide) rfl (by decide)
    refine tr_eq (t_fR I T_v0 (by decide) (by decide) (by decide)) ?_
    refine tr_eq (t_fI I T_v0 (by decide) (by decide) rfl) ?_
    obtain ⟨x2, hx2, hm⟩ := hp_bd hm
    refine tr_eq (t_aI I T1 (by decide) rfl hx2) ?_
    obtain ⟨x3, hx3, hm⟩ := hp_bd hm
    refine tr_eq (t_X6_isBlank I  hx3) ?_
    by_cases c5 : x3 = 0
    · rw [if_pos c5] at hm ⊢
      obtain rfl := Option.some.inj hm
      exact ⟨_, rfl, I, F⟩
    · rw [if_neg c5] at hm ⊢
      refine tr_eq (t_fI I T_v0 (by decide) (by decide) rfl) ?_
      obtain ⟨w4, hw4, hm⟩ := hp_bd hm
      obtain ⟨_, e2, I, F⟩ := t_wF (c := 6) (k := 0) I F T_v0 (by decide) (by decide) rfl hw4
      refine tr_eq e2 ?_
      obtain rfl := Option.some.inj hm
      exact ⟨_, rfl, I, F⟩
def gL_X6_cut_8 (n : Nat) (v0 : Nat) (c : st_T) : Option ((st_T) ⊕ (st_T)) := g_X6_cut_8 n v0 c
theorem tl_X6_cut_8 {tg r : Nat → Nat} {hb : hp_H} {sb : st_T} {n : Nat} {v0 : Nat} (T_v0 : tg v0 = 16) : ∀ (k : Nat)  (h : hp_H) (s : st_T) (x : st_T), iso tg r h s → isf tg r hb h sb s → hp_lp (gL_X6_cut_8 n v0) k s = some x → ∃ h2, hp_lp (fL_X6_cut_8 n (r v0)) k h = some (eX_X6_cut_8 x h2) ∧ iso tg r h2 (sX_X6_cut_8 x) ∧ isf tg r hb h2 sb (sX_X6_cut_8 x) := by
  intro k
  induction k with
  | zero => intro  h s x I F hx; exact (hp_lp_0 hx).elim
  | succ k ih =>
    intro  h s x I F hx
    obtain ⟨rr, hr, hc⟩ := hp_lp_1 hx
    obtain ⟨h2, e2, I2, F2⟩ := t_X6_cut_8 I F T_v0 hr
    rcases hc with ⟨s3, e3, hx3⟩ | e3
    · subst e3
      obtain ⟨h3, e4, I3, F3⟩ := ih  h2 _ x I2 F2 hx3
      exact ⟨h3, hp_lp_s e2 e4, I3, F3⟩
    · subst e3
      exact ⟨h2, hp_lp_x e2, I2, F2⟩
abbrev eX_X6_cut_55 (x : st_T) (h2 : hp_H) : hp_H := (fun y => h2) x
abbrev sX_X6_cut_55 (x : st_T) : st_T := (fun y => y) x
abbrev eR_X6_cut_55 (x : (st_T) ⊕ (st_T)) (h2 : hp_H) : (hp_H) ⊕ (hp_H) := Sum.elim (fun y => .inl h2) (fun y => .inr (eX_X6_cut_55 y h2)) x
abbrev sR_X6_cut_55 (x : (st_T) ⊕ (st_T)) : st_T := Sum.elim (fun y => y) sX_X6_cut_55 x
def g_X6_cut_55 (n : Nat) (v0 : Nat) (s : st_T) : Option ((st_T) ⊕ (st_T)) :=
  if (gF s v0 4) ≤ (gF s v0 1) then
    some (.inr s)
  else
    (gA s (gP s v0 3) (gF s v0 1)).bind fun x2 =>
    (g_X6_isBlank n x2 s).bind fun x3 =>
    if x3 = 0 then
      (wF s v0 1 ((gF s v0 1) + (1 : Int32))).bind fun w4 =>
      some (.inl w4)
    else
      some (.inr s)
set_option maxHeartbeats 1000000 in
theorem t_X6_cut_55 {tg r : Nat → Nat} {h hb : hp_H} {s sb : st_T} {n : Nat} {v0 : Nat} (I : iso tg r h s) (F : isf tg r hb h sb s) (T_v0 : tg v0 = 16) {res : (st_T) ⊕ (st_T)} (hm : g_X6_cut_55 n v0 s = some res) : ∃ h2, f_X6_cut_55 n (r v0) h = some (eR_X6_cut_55 res h2) ∧ iso tg r h2 (sR_X6_cut_55 res) ∧ isf tg r hb h2 sb (sR_X6_cut_55 res) := by
  unfold g_X6_cut_55 at hm
  unfold f_X6_cut_55
  refine tr_eq (t_fI I T_v0 (by decide) (by decide) rfl) ?_
  refine tr_eq (t_fI I T_v0 (by decide) (by decide) rfl) ?_
  by_cases c6 : (gF s v0 4) ≤ (gF s v0 1)
  · rw [if_pos c6] at hm ⊢
    obtain rfl := Option.some.inj hm
    exact ⟨_, rfl, I, F⟩
  · rw [if_neg c6] at hm ⊢
    have T1 : tg (gP s v0 3) = 1 := t_tg (c := 6) I T_v0 (by decide) (by decide) rfl (by decide)
    refine tr_eq (t_fR I T_v0 (by decide) (by decide) (by decide)) ?_
    refine tr_eq (t_fI I T_v0 (by decide) (by decide) rfl) ?_
    obtain ⟨x2, hx2, hm⟩ := hp_bd hm
    refine tr_eq (t_aI I T1 (by decide) rfl hx2) ?_
    obtain ⟨x3, hx3, hm⟩ := hp_bd hm
    refine tr_eq (t_X6_isBlank I  hx3) ?_
    by_cases c5 : x3 = 0
    · rw [if_pos c5] at hm ⊢
      refine tr_eq (t_fI I T_v0 (by decide) (by decide) rfl) ?_
      obtain ⟨w4, hw4, hm⟩ := hp_bd hm
      obtain ⟨_, e2, I, F⟩ := t_wF (c := 6) (k := 1) I F T_v0 (by decide) (by decide) rfl hw4
      refine tr_eq e2 ?_
      obtain rfl := Option.some.inj hm
      exact ⟨_, rfl, I, F⟩
    · rw [if_neg c5] at hm ⊢
      obtain rfl := Option.some.inj hm
      exact ⟨_, rfl, I, F⟩
def gL_X6_cut_55 (n : Nat) (v0 : Nat) (c : st_T) : Option ((st_T) ⊕ (st_T)) := g_X6_cut_55 n v0 c
theorem tl_X6_cut_55 {tg r : Nat → Nat} {hb : hp_H} {sb : st_T} {n : Nat} {v0 : Nat} (T_v0 : tg v0 = 16) : ∀ (k : Nat)  (h : hp_H) (s : st_T) (x : st_T), iso tg r h s → isf tg r hb h sb s → hp_lp (gL_X6_cut_55 n v0) k s = some x → ∃ h2, hp_lp (fL_X6_cut_55 n (r v0)) k h = some (eX_X6_cut_55 x h2) ∧ iso tg r h2 (sX_X6_cut_55 x) ∧ isf tg r hb h2 sb (sX_X6_cut_55 x) := by
  intro k
  induction k with
  | zero => intro  h s x I F hx; exact (hp_lp_0 hx).elim
  | succ k ih =>
    intro  h s x I F hx
    obtain ⟨rr, hr, hc⟩ := hp_lp_1 hx
    obtain ⟨h2, e2, I2, F2⟩ := t_X6_cut_55 I F T_v0 hr
    rcases hc with ⟨s3, e3, hx3⟩ | e3
    · subst e3
      obtain ⟨h3, e4, I3, F3⟩ := ih  h2 _ x I2 F2 hx3
      exact ⟨h3, hp_lp_s e2 e4, I3, F3⟩
    · subst e3
      exact ⟨h2, hp_lp_x e2, I2, F2⟩
def g_X6_cut_47 (n : Nat) (v0 : Nat) (s : st_T) : Option (st_T) :=
  (wF s v0 1 (gF s v0 0)).bind fun w1 =>
  (hp_lp (gL_X6_cut_55 n v0) n w1).bind fun x2 =>
  some x2
set_option maxHeartbeats 1000000 in
theorem t_X6_cut_47 {tg r : Nat → Nat} {h hb : hp_H} {s sb : st_T} {n : Nat} {v0 : Nat} (I : iso tg r h s) (F : isf tg r hb h sb s) (T_v0 : tg v0 = 16) {res : st_T} (hm : g_X6_cut_47 n v0 s = some res) : ∃ h2, f_X6_cut_47 n (r v0) h = some (h2) ∧ iso tg r h2 res ∧ isf tg r hb h2 sb res := by
  unfold g_X6_cut_47 at hm
  unfold f_X6_cut_47
  refine tr_eq (t_fI I T_v0 (by decide) (by decide) rfl) ?_
  obtain ⟨w1, hw1, hm⟩ := hp_bd hm
  obtain ⟨_, e2, I, F⟩ := t_wF (c := 6) (k := 1) I F T_v0 (by decide) (by decide) rfl hw1
  refine tr_eq e2 ?_
  obtain ⟨x2, hx2, hm⟩ := hp_bd hm
  obtain ⟨_, e2, I, F⟩ := tl_X6_cut_55 T_v0 n  _ _ _ I F hx2
  refine tr_eq e2 ?_
  try dsimp only [eX_X6_cut_55]
  replace I : iso tg _ _ x2 := I
  replace F : isf tg _ _ _ _ x2 := F
  obtain rfl := Option.some.inj hm
  exact ⟨_, rfl, I, F⟩
def g_X6_cut_0 (n : Nat) (v0 : Nat) (s : st_T) : Option (st_T) :=
  (wF s v0 0 (gF s v0 1)).bind fun w1 =>
  (hp_lp (gL_X6_cut_8 n v0) n w1).bind fun x2 =>
  g_X6_cut_47 n v0 x2
set_option maxHeartbeats 1000000 in
theorem t_X6_cut_0 {tg r : Nat → Nat} {h hb : hp_H} {s sb : st_T} {n : Nat} {v0 : Nat} (I : iso tg r h s) (F : isf tg r hb h sb s) (T_v0 : tg v0 = 16) {res : st_T} (hm : g_X6_cut_0 n v0 s = some res) : ∃ h2, f_X6_cut_0 n (r v0) h = some (h2) ∧ iso tg r h2 res ∧ isf tg r hb h2 sb res := by
  unfold g_X6_cut_0 at hm
  unfold f_X6_cut_0
  refine tr_eq (t_fI I T_v0 (by decide) (by decide) rfl) ?_
  obtain ⟨w1, hw1, hm⟩ := hp_bd hm
  obtain ⟨_, e2, I, F⟩ := t_wF (c := 6) (k := 0) I F T_v0 (by decide) (by decide) rfl hw1
  refine tr_eq e2 ?_
  obtain ⟨x2, hx2, hm⟩ := hp_bd hm
  obtain ⟨_, e2, I, F⟩ := tl_X6_cut_8 T_v0 n  _ _ _ I F hx2
  refine tr_eq e2 ?_
  try dsimp only [eX_X6_cut_8]
  replace I : iso tg _ _ x2 := I
  replace F : isf tg _ _ _ _ x2 := F
  exact t_X6_cut_47 I F T_v0 hm
def g_X6_cut (n : Nat) (v0 : Nat) (s : st_T) : Option (st_T) := g_X6_cut_0 n v0 s
theorem t_X6_cut {tg r : Nat → Nat} {h hb : hp_H} {s sb : st_T} {n : Nat} {v0 : Nat} (I : iso tg r h s) (F : isf tg r hb h sb s) (T_v0 : tg v0 = 16) {res : st_T} (hm : g_X6_cut n v0 s = some res) : ∃ h2, f_X6_cut n (r v0) h = some (h2) ∧ iso tg r h2 res ∧ isf tg r hb h2 sb res := by
  unfold g_X6_cut at hm
  unfold f_X6_cut
  refine tr_eq (t_ck I T_v0 (by decide)) ?_
  exact t_X6_cut_0 I F T_v0 hm
def g_X6_hasWrongByte_5 (n : Nat) (v0 : Nat) (v1 : Int32) (s : st_T) : Option ((Int32) ⊕ (Int32)) :=
  if (gF s v0 1) ≤ v1 then
    some (.inr (0 : Int32))
  else
    (gA s (gP s v0 3) v1).bind fun x2 =>
    if x2 < (33 : Int32) then
      some (.inr (1 : Int32))
    else
      (gA s (gP s v0 3) v1).bind fun x4 =>
      if x4 ≤ (126 : Int32) then
        some (.inl (v1 + (1 : Int32)))
      else
        some (.inr (1 : Int32))
set_option maxHeartbeats 1000000 in
theorem t_X6_hasWrongByte_5 {tg r : Nat → Nat} {h : hp_H} {s : st_T} {n : Nat} {v0 : Nat} {v1 : Int32} (I : iso tg r h s) (T_v0 : tg v0 = 16) {res : (Int32) ⊕ (Int32)} (hm : g_X6_hasWrongByte_5 n v0 v1 s = some res) : f_X6_hasWrongByte_5 n (r v0) v1 h = some res := by
  unfold g_X6_hasWrongByte_5 at hm
  unfold f_X6_hasWrongByte_5
  refine tr_eq0 (t_fI I T_v0 (by decide) (by decide) rfl) ?_
  by_cases c7 : (gF s v0 1) ≤ v1
  · rw [if_pos c7] at hm ⊢
    obtain rfl := Option.some.inj hm
    rfl
  · rw [if_neg c7] at hm ⊢
    have T1 : tg (gP s v0 3) = 1 := t_tg (c := 6) I T_v0 (by decide) (by decide) rfl (by decide)
    refine tr_eq0 (t_fR I T_v0 (by decide) (by decide) (by decide)) ?_
    obtain ⟨x2, hx2, hm⟩ := hp_bd hm
    refine tr_eq0 (t_aI I T1 (by decide) rfl hx2) ?_
    by_cases c6 : x2 < (33 : Int32)
    · rw [if_pos c6] at hm ⊢
      obtain rfl := Option.some.inj hm
      rfl
    · rw [if_neg c6] at hm ⊢
      have T3 : tg (gP s v0 3) = 1 := t_tg (c := 6) I T_v0 (by decide) (by decide) rfl (by decide)
      refine tr_eq0 (t_fR I T_v0 (by decide) (by decide) (by decide)) ?_
      obtain ⟨x4, hx4, hm⟩ := hp_bd hm
      refine tr_eq0 (t_aI I T3 (by decide) rfl hx4) ?_
      by_cases c5 : x4 ≤ (126 : Int32)
      · rw [if_pos c5] at hm ⊢
        obtain rfl := Option.some.inj hm
        rfl
      · rw [if_neg c5] at hm ⊢
        obtain rfl := Option.some.inj hm
        rfl
def gL_X6_hasWrongByte_5 (n : Nat) (v0 : Nat) (s : st_T) (c : Int32) : Option ((Int32) ⊕ (Int32)) := g_X6_hasWrongByte_5 n v0 c s
theorem tl_X6_hasWrongByte_5 {tg r : Nat → Nat} {h : hp_H} {s : st_T} {n : Nat} {v0 : Nat} (I : iso tg r h s) (T_v0 : tg v0 = 16) : ∀ (k : Nat) (c : Int32) (x : Int32), hp_lp (gL_X6_hasWrongByte_5 n v0 s) k c = some x → hp_lp (fL_X6_hasWrongByte_5 n (r v0) h) k c = some x := by
  intro k
  induction k with
  | zero => intro c x hx; exact (hp_lp_0 hx).elim
  | succ k ih =>
    intro c x hx
    obtain ⟨rr, hr, hc⟩ := hp_lp_1 hx
    have e2 := t_X6_hasWrongByte_5 I T_v0 hr
    rcases hc with ⟨s3, e3, hx3⟩ | e3
    · subst e3
      exact hp_lp_s e2 (ih _ _ hx3)
    · subst e3
      exact hp_lp_x e2
def g_X6_hasWrongByte_0 (n : Nat) (v0 : Nat) (s : st_T) : Option (Int32) :=
  (hp_lp (gL_X6_hasWrongByte_5 n v0 s) n (gF s v0 0)).bind fun x1 =>
  some x1
set_option maxHeartbeats 1000000 in
theorem t_X6_hasWrongByte_0 {tg r : Nat → Nat} {h : hp_H} {s : st_T} {n : Nat} {v0 : Nat} (I : iso tg r h s) (T_v0 : tg v0 = 16) {res : Int32} (hm : g_X6_hasWrongByte_0 n v0 s = some res) : f_X6_hasWrongByte_0 n (r v0) h = some res := by
  unfold g_X6_hasWrongByte_0 at hm
  unfold f_X6_hasWrongByte_0
  refine tr_eq0 (t_fI I T_v0 (by decide) (by decide) rfl) ?_
  obtain ⟨x1, hx1, hm⟩ := hp_bd hm
  refine tr_eq0 (tl_X6_hasWrongByte_5 I T_v0 n _ _ hx1) ?_
  obtain rfl := Option.some.inj hm
  rfl
def g_X6_hasWrongByte (n : Nat) (v0 : Nat) (s : st_T) : Option (Int32) := g_X6_hasWrongByte_0 n v0 s
theorem t_X6_hasWrongByte {tg r : Nat → Nat} {h : hp_H} {s : st_T} {n : Nat} {v0 : Nat} (I : iso tg r h s) (T_v0 : tg v0 = 16) {res : Int32} (hm : g_X6_hasWrongByte n v0 s = some res) : f_X6_hasWrongByte n (r v0) h = some res := by
  unfold g_X6_hasWrongByte at hm
  unfold f_X6_hasWrongByte
  refine tr_eq0 (t_ck I T_v0 (by decide)) ?_
  exact t_X6_hasWrongByte_0 I T_v0 hm
def g_X6_isDollarAnd_0 (n : Nat) (v0 : Nat) (v1 : Int32) (s : st_T) : Option (Int32) :=
  if ((gF s v0 1) - (gF s v0 0)) = (2 : Int32) then
    (gA s (gP s v0 3) (gF s v0 0)).bind fun x2 =>
    if x2 = (36 : Int32) then
      (gA s (gP s v0 3) ((gF s v0 0) + (1 : Int32))).bind fun x4 =>
      if x4 = v1 then
        some (1 : Int32)
      else
        some (0 : Int32)
    else
      some (0 : Int32)
  else
    some (0 : Int32)
set_option maxHeartbeats 1000000 in
theorem t_X6_isDollarAnd_0 {tg r : Nat → Nat} {h : hp_H} {s : st_T} {n : Nat} {v0 : Nat} {v1 : Int32} (I : iso tg r h s) (T_v0 : tg v0 = 16) {res : Int32} (hm : g_X6_isDollarAnd_0 n v0 v1 s = some res) : f_X6_isDollarAnd_0 n (r v0) v1 h = some res := by
  unfold g_X6_isDollarAnd_0 at hm
  unfold f_X6_isDollarAnd_0
  refine tr_eq0 (t_fI I T_v0 (by decide) (by decide) rfl) ?_
  refine tr_eq0 (t_fI I T_v0 (by decide) (by decide) rfl) ?_
  by_cases c7 : ((gF s v0 1) - (gF s v0 0)) = (2 : Int32)
  · rw [if_pos c7] at hm ⊢
    have T1 : tg (gP s v0 3) = 1 := t_tg (c := 6) I T_v0 (by decide) (by decide) rfl (by decide)
    refine tr_eq0 (t_fR I T_v0 (by decide) (by decide) (by decide)) ?_
    refine tr_eq0 (t_fI I T_v0 (by decide) (by decide) rfl) ?_
    obtain ⟨x2, hx2, hm⟩ := hp_bd hm
    refine tr_eq0 (t_aI I T1 (by decide) rfl hx2) ?_
    by_cases c6 : x2 = (36 : Int32)
    · rw [if_pos c6] at hm ⊢
      have T3 : tg (gP s v0 3) = 1 := t_tg (c := 6) I T_v0 (by decide) (by decide) rfl (by decide)
      refine tr_eq0 (t_fR I T_v0 (by decide) (by decide) (by decide)) ?_
      refine tr_eq0 (t_fI I T_v0 (by decide) (by decide) rfl) ?_
      obtain ⟨x4, hx4, hm⟩ := hp_bd hm
      refine tr_eq0 (t_aI I T3 (by decide) rfl hx4) ?_
      by_cases c5 : x4 = v1
      · rw [if_pos c5] at hm ⊢
        obtain rfl := Option.some.inj hm
        rfl
      · rw [if_neg c5] at hm ⊢
        obtain rfl := Option.some.inj hm
        rfl
    · rw [if_neg c6] at hm ⊢
      obtain rfl := Option.some.inj hm
      rfl
  · rw [if_neg c7] at hm ⊢
    obtain rfl := Option.some.inj hm
    rfl
def g_X6_isDollarAnd (n : Nat) (v0 : Nat) (v1 : Int32) (s : st_T) : Option (Int32) := g_X6_isDollarAnd_0 n v0 v1 s
theorem t_X6_isDollarAnd {tg r : Nat → Nat} {h : hp_H} {s : st_T} {n : Nat} {v0 : Nat} {v1 : Int32} (I : iso tg r h s) (T_v0 : tg v0 = 16) {res : Int32} (hm : g_X6_isDollarAnd n v0 v1 s = some res) : f_X6_isDollarAnd n (r v0) v1 h = some res := by
  unfold g_X6_isDollarAnd at hm
  unfold f_X6_isDollarAnd
  refine tr_eq0 (t_ck I T_v0 (by decide)) ?_
  exact t_X6_isDollarAnd_0 I T_v0 hm
def g_X6_hasCommentMark_54 (n : Nat) (v0 : Nat) (v1 : Int32) (s : st_T) : Option ((Int32) ⊕ (Int32)) :=
  some (.inl (v1 + (1 : Int32)))
set_option maxHeartbeats 1000000 in
theorem t_X6_hasCommentMark_54 {tg r : Nat → Nat} {h : hp_H} {s : st_T} {n : Nat} {v0 : Nat} {v1 : Int32} (I : iso tg r h s) (T_v0 : tg v0 = 16) {res : (Int32) ⊕ (Int32)} (hm : g_X6_hasCommentMark_54 n v0 v1 s = some res) : f_X6_hasCommentMark_54 n (r v0) v1 h = some res := by
  unfold g_X6_hasCommentMark_54 at hm
  unfold f_X6_hasCommentMark_54
  obtain rfl := Option.some.inj hm
  rfl
def g_X6_hasCommentMark_5 (n : Nat) (v0 : Nat) (v1 : Int32) (s : st_T) : Option ((Int32) ⊕ (Int32)) :=
  if (gF s v0 1) ≤ (v1 + (1 : Int32)) then
    some (.inr (0 : Int32))
  else
    (gA s (gP s v0 3) v1).bind fun x2 =>
    if x2 = (36 : Int32) then
      (gA s (gP s v0 3) (v1 + (1 : Int32))).bind fun x4 =>
      if x4 = (40 : Int32) then
        some (.inr (1 : Int32))
      else
        (gA s (gP s v0 3) (v1 + (1 : Int32))).bind fun x6 =>
        if x6 = (41 : Int32) then
          some (.inr (1 : Int32))
        else
          g_X6_hasCommentMark_54 n v0 v1 s
    else
      g_X6_hasCommentMark_54 n v0 v1 s
set_option maxHeartbeats 1000000 in
theorem t_X6_hasCommentMark_5 {tg r : Nat → Nat} {h : hp_H} {s : st_T} {n : Nat} {v0 : Nat} {v1 : Int32} (I : iso tg r h s) (T_v0 : tg v0 = 16) {res : (Int32) ⊕ (Int32)} (hm : g_X6_hasCommentMark_5 n v0 v1 s = some res) : f_X6_hasCommentMark_5 n (r v0) v1 h = some res := by
  unfold g_X6_hasCommentMark_5 at hm
  unfold f_X6_hasCommentMark_5
  refine tr_eq0 (t_fI I T_v0 (by decide) (by decide) rfl) ?_
  by_cases c10 : (gF s v0 1) ≤ (v1 + (1 : Int32))
  · rw [if_pos c10] at hm ⊢
    obtain rfl := Option.some.inj hm
    rfl
  · rw [if_neg c10] at hm ⊢
    have T1 : tg (gP s v0 3) = 1 := t_tg (c := 6) I T_v0 (by decide) (by decide) rfl (by decide)
    refine tr_eq0 (t_fR I T_v0 (by decide) (by decide) (by decide)) ?_
    obtain ⟨x2, hx2, hm⟩ := hp_bd hm
    refine tr_eq0 (t_aI I T1 (by decide) rfl hx2) ?_
    by_cases c9 : x2 = (36 : Int32)
    · rw [if_pos c9] at hm ⊢
      have T3 : tg (gP s v0 3) = 1 := t_tg (c := 6) I T_v0 (by decide) (by decide) rfl (by decide)
      refine tr_eq0 (t_fR I T_v0 (by decide) (by decide) (by decide)) ?_
      obtain ⟨x4, hx4, hm⟩ := hp_bd hm
      refine tr_eq0 (t_aI I T3 (by decide) rfl hx4) ?_
      by_cases c8 : x4 = (40 : Int32)
      · rw [if_pos c8] at hm ⊢
        obtain rfl := Option.some.inj hm
        rfl
      · rw [if_neg c8] at hm ⊢
        have T5 : tg (gP s v0 3) = 1 := t_tg (c := 6) I T_v0 (by decide) (by decide) rfl (by decide)
        refine tr_eq0 (t_fR I T_v0 (by decide) (by decide) (by decide)) ?_
        obtain ⟨x6, hx6, hm⟩ := hp_bd hm
        refine tr_eq0 (t_aI I T5 (by decide) rfl hx6) ?_
        by_cases c7 : x6 = (41 : Int32)
        · rw [if_pos c7] at hm ⊢
          obtain rfl := Option.some.inj hm
          rfl
        · rw [if_neg c7] at hm ⊢
          exact t_X6_hasCommentMark_54 I T_v0 hm
    · rw [if_neg c9] at hm ⊢
      exact t_X6_hasCommentMark_54 I T_v0 hm
def gL_X6_hasCommentMark_5 (n : Nat) (v0 : Nat) (s : st_T) (c : Int32) : Option ((Int32) ⊕ (Int32)) := g_X6_hasCommentMark_5 n v0 c s
theorem tl_X6_hasCommentMark_5 {tg r : Nat → Nat} {h : hp_H} {s : st_T} {n : Nat} {v0 : Nat} (I : iso tg r h s) (T_v0 : tg v0 = 16) : ∀ (k : Nat) (c : Int32) (x : Int32), hp_lp (gL_X6_hasCommentMark_5 n v0 s) k c = some x → hp_lp (fL_X6_hasCommentMark_5 n (r v0) h) k c = some x := by
  intro k
  induction k with
  | zero => intro c x hx; exact (hp_lp_0 hx).elim
  | succ k ih =>
    intro c x hx
    obtain ⟨rr, hr, hc⟩ := hp_lp_1 hx
    have e2 := t_X6_hasCommentMark_5 I T_v0 hr
    rcases hc with ⟨s3, e3, hx3⟩ | e3
    · subst e3
      exact hp_lp_s e2 (ih _ _ hx3)
    · subst e3
      exact hp_lp_x e2
def g_X6_hasCommentMark_0 (n : Nat) (v0 : Nat) (s : st_T) : Option (Int32) :=
  (hp_lp (gL_X6_hasCommentMark_5 n v0 s) n (gF s v0 0)).bind fun x1 =>
  some x1
set_option maxHeartbeats 1000000 in
theorem t_X6_hasCommentMark_0 {tg r : Nat → Nat} {h : hp_H} {s : st_T} {n : Nat} {v0 : Nat} (I : iso tg r h s) (T_v0 : tg v0 = 16) {res : Int32} (hm : g_X6_hasCommentMark_0 n v0 s = some res) : f_X6_hasCommentMark_0 n (r v0) h = some res := by
  unfold g_X6_hasCommentMark_0 at hm
  unfold f_X6_hasCommentMark_0
  refine tr_eq0 (t_fI I T_v0 (by decide) (by decide) rfl) ?_
  obtain ⟨x1, hx1, hm⟩ := hp_bd hm
  refine tr_eq0 (tl_X6_hasCommentMark_5 I T_v0 n _ _ hx1) ?_
  obtain rfl := Option.some.inj hm
  rfl
def g_X6_hasCommentMark (n : Nat) (v0 : Nat) (s : st_T) : Option (Int32) := g_X6_hasCommentMark_0 n v0 s
theorem t_X6_hasCommentMark {tg r : Nat → Nat} {h : hp_H} {s : st_T} {n : Nat} {v0 : Nat} (I : iso tg r h s) (T_v0 : tg v0 = 16) {res : Int32} (hm : g_X6_hasCommentMark n v0 s = some res) : f_X6_hasCommentMark n (r v0) h = some res := by
  unfold g_X6_hasCommentMark at hm
  unfold f_X6_hasCommentMark
  refine tr_eq0 (t_ck I T_v0 (by decide)) ?_
  exact t_X6_hasCommentMark_0 I T_v0 hm
abbrev eX_X6_advance_4 (x : (Int32 × st_T) ⊕ ((st_T) ⊕ ((st_T) ⊕ (Int32 × st_T)))) (h2 : hp_H) : (Int32 × hp_H) ⊕ ((hp_H) ⊕ ((hp_H) ⊕ (Int32 × hp_H))) := (Sum.elim (fun y => (.inl (y.1, h2))) (Sum.elim (fun y => (.inr (.inl h2))) (Sum.elim (fun y => (.inr (.inr (.inl h2)))) (fun y => (.inr (.inr (.inr (y.1, h2)))))))) x
abbrev sX_X6_advance_4 (x : (Int32 × st_T) ⊕ ((st_T) ⊕ ((st_T) ⊕ (Int32 × st_T)))) : st_T := (Sum.elim (fun y => y.2) (Sum.elim (fun y => y) (Sum.elim (fun y => y) (fun y => y.2)))) x
abbrev eR_X6_advance_4 (x : (Int32 × Int32 × st_T) ⊕ ((Int32 × st_T) ⊕ ((st_T) ⊕ ((st_T) ⊕ (Int32 × st_T))))) (h2 : hp_H) : (Int32 × Int32 × hp_H) ⊕ ((Int32 × hp_H) ⊕ ((hp_H) ⊕ ((hp_H) ⊕ (Int32 × hp_H)))) := Sum.elim (fun y => .inl (y.1, y.2.1, h2)) (fun y => .inr (eX_X6_advance_4 y h2)) x
abbrev sR_X6_advance_4 (x : (Int32 × Int32 × st_T) ⊕ ((Int32 × st_T) ⊕ ((st_T) ⊕ ((st_T) ⊕ (Int32 × st_T))))) : st_T := Sum.elim (fun y => y.2.2) sX_X6_advance_4 x
def g_X6_advance_115 (n : Nat) (v0 : Nat) (v2 : Int32) (s0 : Int32) (s : st_T) : Option ((Int32 × Int32 × st_T) ⊕ ((Int32 × st_T) ⊕ ((st_T) ⊕ ((st_T) ⊕ (Int32 × st_T))))) :=
  some (.inl (s0, (v2 + (1 : Int32)), s))
set_option maxHeartbeats 1000000 in
theorem t_X6_advance_115 {tg r : Nat → Nat} {h hb : hp_H} {s sb : st_T} {n : Nat} {v0 : Nat} {v2 : Int32} {s0 : Int32} (I : iso tg r h s) (F : isf tg r hb h sb s) (T_v0 : tg v0 = 16) {res : (Int32 × Int32 × st_T) ⊕ ((Int32 × st_T) ⊕ ((st_T) ⊕ ((st_T) ⊕ (Int32 × st_T))))} (hm : g_X6_advance_115 n v0 v2 s0 s = some res) : ∃ h2, f_X6_advance_115 n (r v0) v2 s0 h = some (eR_X6_advance_4 res h2) ∧ iso tg r h2 (sR_X6_advance_4 res) ∧ isf tg r hb h2 sb (sR_X6_advance_4 res) := by
  unfold g_X6_advance_115 at hm
  unfold f_X6_advance_115
  obtain rfl := Option.some.inj hm
  exact ⟨_, rfl, I, F⟩
def g_X6_advance_110 (n : Nat) (v0 : Nat) (v2 : Int32) (s : st_T) : Option ((Int32 × Int32 × st_T) ⊕ ((Int32 × st_T) ⊕ ((st_T) ⊕ ((st_T) ⊕ (Int32 × st_T))))) :=
  g_X6_advance_115 n v0 v2 (1 : Int32) s
set_option maxHeartbeats 1000000 in
theorem t_X6_advance_110 {tg r : Nat → Nat} {h hb : hp_H} {s sb : st_T} {n : Nat} {v0 : Nat} {v2 : Int32} (I : iso tg r h s) (F : isf tg r hb h sb s) (T_v0 : tg v0 = 16) {res : (Int32 × Int32 × st_T) ⊕ ((Int32 × st_T) ⊕ ((st_T) ⊕ ((st_T) ⊕ (Int32 × st_T))))} (hm : g_X6_advance_110 n v0 v2 s = some res) : ∃ h2, f_X6_advance_110 n (r v0) v2 h = some (eR_X6_advance_4 res h2) ∧ iso tg r h2 (sR_X6_advance_4 res) ∧ isf tg r hb h2 sb (sR_X6_advance_4 res) := by
  unfold g_X6_advance_110 at hm
  unfold f_X6_advance_110
  exact t_X6_advance_115 I F T_v0 hm
def g_X6_advance_97 (n : Nat) (v0 : Nat) (v1 : Int32) (v2 : Int32) (s : st_T) : Option ((Int32 × Int32 × st_T) ⊕ ((Int32 × st_T) ⊕ ((st_T) ⊕ ((st_T) ⊕ (Int32 × st_T))))) :=
  if v1 = 0 then
    g_X6_advance_110 n v0 v2 s
  else
    (g_X6_isDollarAnd n v0 (41 : Int32) s).bind fun x1 =>
    if x1 = 0 then
      g_X6_advance_110 n v0 v2 s
    else
      g_X6_advance_115 n v0 v2 (0 : Int32) s
set_option maxHeartbeats 1000000 in
theorem t_X6_advance_97 {tg r : Nat → Nat} {h hb : hp_H} {s sb : st_T} {n : Nat} {v0 : Nat} {v1 : Int32} {v2 : Int32} (I : iso tg r h s) (F : isf tg r hb h sb s) (T_v0 : tg v0 = 16) {res : (Int32 × Int32 × st_T) ⊕ ((Int32 × st_T) ⊕ ((st_T) ⊕ ((st_T) ⊕ (Int32 × st_T))))} (hm : g_X6_advance_97 n v0 v1 v2 s = some res) : ∃ h2, f_X6_advance_97 n (r v0) v1 v2 h = some (eR_X6_advance_4 res h2) ∧ iso tg r h2 (sR_X6_advance_4 res) ∧ isf tg r hb h2 sb (sR_X6_advance_4 res) := by
  unfold g_X6_advance_97 at hm
  unfold f_X6_advance_97
  by_cases c3 : v1 = 0
  · rw [if_pos c3] at hm ⊢
    exact t_X6_advance_110 I F T_v0 hm
  · rw [if_neg c3] at hm ⊢
    obtain ⟨x1, hx1, hm⟩ := hp_bd hm
    refine tr_eq (t_X6_isDollarAnd I T_v0 hx1) ?_
    by_cases c2 : x1 = 0
    · rw [if_pos c2] at hm ⊢
      exact t_X6_advance_110 I F T_v0 hm
    · rw [if_neg c2] at hm ⊢
      exact t_X6_advance_115 I F T_v0 hm
def g_X6_advance_70 (n : Nat) (v0 : Nat) (v1 : Int32) (v2 : Int32) (s : st_T) : Option ((Int32 × Int32 × st_T) ⊕ ((Int32 × st_T) ⊕ ((st_T) ⊕ ((st_T) ⊕ (Int32 × st_T))))) :=
  if v1 = 0 then
    g_X6_advance_97 n v0 v1 v2 s
  else
    (g_X6_isDollarAnd n v0 (41 : Int32) s).bind fun x1 =>
    if x1 = 0 then
      (g_X6_hasCommentMark n v0 s).bind fun x2 =>
      if x2 = 0 then
        g_X6_advance_97 n v0 v1 v2 s
      else
        some (.inr (.inr (.inr (.inl s))))
    else
      g_X6_advance_97 n v0 v1 v2 s
set_option maxHeartbeats 1000000 in
theorem t_X6_advance_70 {tg r : Nat → Nat} {h hb : hp_H} {s sb : st_T} {n : Nat} {v0 : Nat} {v1 : Int32} {v2 : Int32} (I : iso tg r h s) (F : isf tg r hb h sb s) (T_v0 : tg v0 = 16) {res : (Int32 × Int32 × st_T) ⊕ ((Int32 × st_T) ⊕ ((st_T) ⊕ ((st_T) ⊕ (Int32 × st_T))))} (hm : g_X6_advance_70 n v0 v1 v2 s = some res) : ∃ h2, f_X6_advance_70 n (r v0) v1 v2 h = some (eR_X6_advance_4 res h2) ∧ iso tg r h2 (sR_X6_advance_4 res) ∧ isf tg r hb h2 sb (sR_X6_advance_4 res) := by
  unfold g_X6_advance_70 at hm
  unfold f_X6_advance_70
  by_cases c5 : v1 = 0
  · rw [if_pos c5] at hm ⊢
    exact t_X6_advance_97 I F T_v0 hm
  · rw [if_neg c5] at hm ⊢
    obtain ⟨x1, hx1, hm⟩ := hp_bd hm
    refine tr_eq (t_X6_isDollarAnd I T_v0 hx1) ?_
    by_cases c4 : x1 = 0
    · rw [if_pos c4] at hm ⊢
      obtain ⟨x2, hx2, hm⟩ := hp_bd hm
      refine tr_eq (t_X6_hasCommentMark I T_v0 hx2) ?_
      by_cases c3 : x2 = 0
      · rw [if_pos c3] at hm ⊢
        exact t_X6_advance_97 I F T_v0 hm
      · rw [if_neg c3] at hm ⊢
        obtain rfl := Option.some.inj hm
        exact ⟨_, rfl, I, F⟩
    · rw [if_neg c4] at hm ⊢
      exact t_X6_advance_97 I F T_v0 hm
def g_X6_advance_4 (n : Nat) (v0 : Nat) (v1 : Int32) (v2 : Int32) (s : st_T) : Option ((Int32 × Int32 × st_T) ⊕ ((Int32 × st_T) ⊕ ((st_T) ⊕ ((st_T) ⊕ (Int32 × st_T))))) :=
  if (4096 : Int32) < v2 then
    some (.inr (.inr (.inr (.inr ((0 : Int32), s)))))
  else
    (g_X6_cut n v0 s).bind fun x1 =>
    if (gF x1 v0 0) = (gF x1 v0 4) then
      some (.inr (.inl (v1, x1)))
    else
      (g_X6_hasWrongByte n v0 x1).bind fun x2 =>
      if x2 = 0 then
        if v1 = 0 then
          (g_X6_isDollarAnd n v0 (40 : Int32) x1).bind fun x3 =>
          if x3 = 0 then
            some (.inr (.inr (.inr (.inr ((1 : Int32), x1)))))
          else
            g_X6_advance_70 n v0 v1 v2 x1
        else
          g_X6_advance_70 n v0 v1 v2 x1
      else
        some (.inr (.inr (.inl x1)))
set_option maxHeartbeats 1000000 in
theorem t_X6_advance_4 {tg r : Nat → Nat} {h hb : hp_H} {s sb : st_T} {n : Nat} {v0 : Nat} {v1 : Int32} {v2 : Int32} (I : iso tg r h s) (F : isf tg r hb h sb s) (T_v0 : tg v0 = 16) {res : (Int32 × Int32 × st_T) ⊕ ((Int32 × st_T) ⊕ ((st_T) ⊕ ((st_T) ⊕ (Int32 × st_T))))} (hm : g_X6_advance_4 n v0 v1 v2 s = some res) : ∃ h2, f_X6_advance_4 n (r v0) v1 v2 h = some (eR_X6_advance_4 res h2) ∧ iso tg r h2 (sR_X6_advance_4 res) ∧ isf tg r hb h2 sb (sR_X6_advance_4 res) := by
  unfold g_X6_advance_4 at hm
  unfold f_X6_advance_4
  by_cases c8 : (4096 : Int32) < v2
  · rw [if_pos c8] at hm ⊢
    obtain rfl := Option.some.inj hm
    exact ⟨_, rfl, I, F⟩
  · rw [if_neg c8] at hm ⊢
    obtain ⟨x1, hx1, hm⟩ := hp_bd hm
    obtain ⟨_, e2, I, F⟩ := t_X6_cut I F T_v0 hx1
    refine tr_eq e2 ?_
    refine tr_eq (t_fI I T_v0 (by decide) (by decide) rfl) ?_
    refine tr_eq (t_fI I T_v0 (by decide) (by decide) rfl) ?_
    by_cases c7 : (gF x1 v0 0) = (gF x1 v0 4)
    · rw [if_pos c7] at hm ⊢
      obtain rfl := Option.some.inj hm
      exact ⟨_, rfl, I, F⟩
    · rw [if_neg c7] at hm ⊢
      obtain ⟨x2, hx2, hm⟩ := hp_bd hm
      refine tr_eq (t_X6_hasWrongByte I T_v0 hx2) ?_
      by_cases c6 : x2 = 0
      · rw [if_pos c6] at hm ⊢
        by_cases c5 : v1 = 0
        · rw [if_pos c5] at hm ⊢
          obtain ⟨x3, hx3, hm⟩ := hp_bd hm
          refine tr_eq (t_X6_isDollarAnd I T_v0 hx3) ?_
          by_cases c4 : x3 = 0
          · rw [if_pos c4] at hm ⊢
            obtain rfl := Option.some.inj hm
            exact ⟨_, rfl, I, F⟩
          · rw [if_neg c4] at hm ⊢
            exact t_X6_advance_70 I F T_v0 hm
        · rw [if_neg c5] at hm ⊢
          exact t_X6_advance_70 I F T_v0 hm
      · rw [if_neg c6] at hm ⊢
        obtain rfl := Option.some.inj hm
        exact ⟨_, rfl, I, F⟩
def gL_X6_advance_4 (n : Nat) (v0 : Nat) (c : Int32 × Int32 × st_T) : Option ((Int32 × Int32 × st_T) ⊕ ((Int32 × st_T) ⊕ ((st_T) ⊕ ((st_T) ⊕ (Int32 × st_T))))) := g_X6_advance_4 n v0 c.1 c.2.1 c.2.2
theorem tl_X6_advance_4 {tg r : Nat → Nat} {hb : hp_H} {sb : st_T} {n : Nat} {v0 : Nat} (T_v0 : tg v0 = 16) : ∀ (k : Nat) (c0 : Int32) (c1 : Int32) (h : hp_H) (s : st_T) (x : (Int32 × st_T) ⊕ ((st_T) ⊕ ((st_T) ⊕ (Int32 × st_T)))), iso tg r h s → isf tg r hb h sb s → hp_lp (gL_X6_advance_4 n v0) k (c0, c1, s) = some x → ∃ h2, hp_lp (fL_X6_advance_4 n (r v0)) k (c0, c1, h) = some (eX_X6_advance_4 x h2) ∧ iso tg r h2 (sX_X6_advance_4 x) ∧ isf tg r hb h2 sb (sX_X6_advance_4 x) := by
  intro k
  induction k with
  | zero => intro c0 c1 h s x I F hx; exact (hp_lp_0 hx).elim
  | succ k ih =>
    intro c0 c1 h s x I F hx
    obtain ⟨rr, hr, hc⟩ := hp_lp_1 hx
    obtain ⟨h2, e2, I2, F2⟩ := t_X6_advance_4 I F T_v0 hr
    rcases hc with ⟨s3, e3, hx3⟩ | e3
    · subst e3
      obtain ⟨h3, e4, I3, F3⟩ := ih _ _ h2 _ x I2 F2 hx3
      exact ⟨h3, hp_lp_s e2 e4, I3, F3⟩
    · subst e3
      exact ⟨h2, hp_lp_x e2, I2, F2⟩
def g_X6_advance_36 (n : Nat) (s0 : Int32) (s1 : Nat) (s : st_T) : Option (Int32 × st_T) :=
  (wF s s1 2 s0).bind fun w1 =>
  some ((0 : Int32), w1)
set_option maxHeartbeats 1000000 in
theorem t_X6_advance_36 {tg r : Nat → Nat} {h hb : hp_H} {s sb : st_T} {n : Nat} {s0 : Int32} {s1 : Nat} (I : iso tg r h s) (F : isf tg r hb h sb s) (T_s1 : tg s1 = 16) {res : Int32 × st_T} (hm : g_X6_advance_36 n s0 s1 s = some res) : ∃ h2, f_X6_advance_36 n s0 (r s1) h = some ((res.1, h2)) ∧ iso tg r h2 res.2 ∧ isf tg r hb h2 sb res.2 := by
  unfold g_X6_advance_36 at hm
  unfold f_X6_advance_36
  obtain ⟨w1, hw1, hm⟩ := hp_bd hm
  obtain ⟨_, e2, I, F⟩ := t_wF (c := 6) (k := 2) I F T_s1 (by decide) (by decide) rfl hw1
  refine tr_eq e2 ?_
  obtain rfl := Option.some.inj hm
  exact ⟨_, rfl, I, F⟩
def g_X6_advance_0 (n : Nat) (v0 : Nat) (s : st_T) : Option (Int32 × st_T) :=
  (hp_lp (gL_X6_advance_4 n v0) n ((0 : Int32), (0 : Int32), s)).bind fun x1 =>
  Sum.elim (fun y2 =>
    if y2.1 = 0 then
      g_X6_advance_36 n (0 : Int32) v0 y2.2
    else
      g_X6_advance_36 n (2 : Int32) v0 y2.2) (Sum.elim (fun y3 =>
    (wF y3 v0 2 (1 : Int32)).bind fun w7 =>
    some ((0 : Int32), w7)) (Sum.elim (fun y4 =>
    (wF y4 v0 2 (3 : Int32)).bind fun w8 =>
    some ((0 : Int32), w8)) (fun y5 =>
    some (y5.1, y5.2)))) x1
set_option maxHeartbeats 1000000 in
theorem t_X6_advance_0 {tg r : Nat → Nat} {h hb : hp_H} {s sb : st_T} {n : Nat} {v0 : Nat} (I : iso tg r h s) (F : isf tg r hb h sb s) (T_v0 : tg v0 = 16) {res : Int32 × st_T} (hm : g_X6_advance_0 n v0 s = some res) : ∃ h2, f_X6_advance_0 n (r v0) h = some ((res.1, h2)) ∧ iso tg r h2 res.2 ∧ isf tg r hb h2 sb res.2 := by
  unfold g_X6_advance_0 at hm
  unfold f_X6_advance_0
  obtain ⟨x1, hx1, hm⟩ := hp_bd hm
  obtain ⟨_, e2, I, F⟩ := tl_X6_advance_4 T_v0 n _ _ _ _ _ I F hx1
  refine tr_eq e2 ?_
  rcases x1 with y2 | y3 | y4 | y5
  · simp only [eX_X6_advance_4, Sum.elim_inl, Sum.elim_inr] at hm ⊢
    replace I : iso tg _ _ y2.2 := I
    replace F : isf tg _ _ _ _ y2.2 := F
    by_cases c6 : y2.1 = 0
    · rw [if_pos c6] at hm ⊢
      exact t_X6_advance_36 I F T_v0 hm
    · rw [if_neg c6] at hm ⊢
      exact t_X6_advance_36 I F T_v0 hm
  · simp only [eX_X6_advance_4, Sum.elim_inl, Sum.elim_inr] at hm ⊢
    replace I : iso tg _ _ y3 := I
    replace F : isf tg _ _ _ _ y3 := F
    obtain ⟨w7, hw7, hm⟩ := hp_bd hm
    obtain ⟨_, e2, I, F⟩ := t_wF (c := 6) (k := 2) I F T_v0 (by decide) (by decide) rfl hw7
    refine tr_eq e2 ?_
    obtain rfl := Option.some.inj hm
    exact ⟨_, rfl, I, F⟩
  · simp only [eX_X6_advance_4, Sum.elim_inl, Sum.elim_inr] at hm ⊢
    replace I : iso tg _ _ y4 := I
    replace F : isf tg _ _ _ _ y4 := F
    obtain ⟨w8, hw8, hm⟩ := hp_bd hm
    obtain ⟨_, e2, I, F⟩ := t_wF (c := 6) (k := 2) I F T_v0 (by decide) (by decide) rfl hw8
    refine tr_eq e2 ?_
    obtain rfl := Option.some.inj hm
    exact ⟨_, rfl, I, F⟩
  · simp only [eX_X6_advance_4, Sum.elim_inl, Sum.elim_inr] at hm ⊢
    replace I : iso tg _ _ y5.2 := I
    replace F : isf tg _ _ _ _ y5.2 := F
    obtain rfl := Option.some.inj hm
    exact ⟨_, rfl, I, F⟩
def g_X6_advance (n : Nat) (v0 : Nat) (s : st_T) : Option (Int32 × st_T) := g_X6_advance_0 n v0 s
theorem t_X6_advance {tg r : Nat → Nat} {h hb : hp_H} {s sb : st_T} {n : Nat} {v0 : Nat} (I : iso tg r h s) (F : isf tg r hb h sb s) (T_v0 : tg v0 = 16) {res : Int32 × st_T} (hm : g_X6_advance n v0 s = some res) : ∃ h2, f_X6_advance n (r v0) h = some ((res.1, h2)) ∧ iso tg r h2 res.2 ∧ isf tg r hb h2 sb res.2 := by
  unfold g_X6_advance at hm
  unfold f_X6_advance
  refine tr_eq (t_ck I T_v0 (by decide)) ?_
  exact t_X6_advance_0 I F T_v0 hm
def g_X6_keyword_140 (n : Nat) (v0 : Nat) (s : st_T) : Option (Int32) :=
  (gA s (gP s v0 3) ((gF s v0 0) + (1 : Int32))).bind fun x2 =>
  some x2
set_option maxHeartbeats 1000000 in
theorem t_X6_keyword_140 {tg r : Nat → Nat} {h : hp_H} {s : st_T} {n : Nat} {v0 : Nat} (I : iso tg r h s) (T_v0 : tg v0 = 16) {res : Int32} (hm : g_X6_keyword_140 n v0 s = some res) : f_X6_keyword_140 n (r v0) h = some res := by
  unfold g_X6_keyword_140 at hm
  unfold f_X6_keyword_140
  have T1 : tg (gP s v0 3) = 1 := t_tg (c := 6) I T_v0 (by decide) (by decide) rfl (by decide)
  refine tr_eq0 (t_fR I T_v0 (by decide) (by decide) (by decide)) ?_
  refine tr_eq0 (t_fI I T_v0 (by decide) (by decide) rfl) ?_
  obtain ⟨x2, hx2, hm⟩ := hp_bd hm
  refine tr_eq0 (t_aI I T1 (by decide) rfl hx2) ?_
  obtain rfl := Option.some.inj hm
  rfl
def g_X6_keyword_0 (n : Nat) (v0 : Nat) (s : st_T) : Option (Int32) :=
  if ((gF s v0 1) - (gF s v0 0)) = (2 : Int32) then
    (gA s (gP s v0 3) (gF s v0 0)).bind fun x2 =>
    if x2 = (36 : Int32) then
      (gA s (gP s v0 3) ((gF s v0 0) + (1 : Int32))).bind fun x4 =>
      if x4 = (46 : Int32) then
        g_X6_keyword_140 n v0 s
      else if x4 = (61 : Int32) then
        g_X6_keyword_140 n v0 s
      else if x4 = (97 : Int32) then
        g_X6_keyword_140 n v0 s
      else if x4 = (99 : Int32) then
        g_X6_keyword_140 n v0 s
      else if x4 = (100 : Int32) then
        g_X6_keyword_140 n v0 s
      else if x4 = (101 : Int32) then
        g_X6_keyword_140 n v0 s
      else if x4 = (102 : Int32) then
        g_X6_keyword_140 n v0 s
      else if x4 = (112 : Int32) then
        g_X6_keyword_140 n v0 s
      else if x4 = (118 : Int32) then
        g_X6_keyword_140 n v0 s
      else if x4 = (123 : Int32) then
        g_X6_keyword_140 n v0 s
      else if x4 = (125 : Int32) then
        g_X6_keyword_140 n v0 s
      else 
        some (-1 : Int32)
    else
      some (-1 : Int32)
  else
    some (-1 : Int32)
set_option maxHeartbeats 1000000 in
theorem t_X6_keyword_0 {tg r : Nat → Nat} {h : hp_H} {s : st_T} {n : Nat} {v0 : Nat} (I : iso tg r h s) (T_v0 : tg v0 = 16) {res : Int32} (hm : g_X6_keyword_0 n v0 s = some res) : f_X6_keyword_0 n (r v0) h = some res := by
  unfold g_X6_keyword_0 at hm
  unfold f_X6_keyword_0
  refine tr_eq0 (t_fI I T_v0 (by decide) (by decide) rfl) ?_
  refine tr_eq0 (t_fI I T_v0 (by decide) (by decide) rfl) ?_
  by_cases c17 : ((gF s v0 1) - (gF s v0 0)) = (2 : Int32)
  · rw [if_pos c17] at hm ⊢
    have T1 : tg (gP s v0 3) = 1 := t_tg (c := 6) I T_v0 (by decide) (by decide) rfl (by decide)
    refine tr_eq0 (t_fR I T_v0 (by decide) (by decide) (by decide)) ?_
    refine tr_eq0 (t_fI I T_v0 (by decide) (by decide) rfl) ?_
    obtain ⟨x2, hx2, hm⟩ := hp_bd hm
    refine tr_eq0 (t_aI I T1 (by decide) rfl hx2) ?_
    by_cases c16 : x2 = (36 : Int32)
    · rw [if_pos c16] at hm ⊢
      have T3 : tg (gP s v0 3) = 1 := t_tg (c := 6) I T_v0 (by decide) (by decide) rfl (by decide)
      refine tr_eq0 (t_fR I T_v0 (by decide) (by decide) (by decide)) ?_
      refine tr_eq0 (t_fI I T_v0 (by decide) (by decide) rfl) ?_
      obtain ⟨x4, hx4, hm⟩ := hp_bd hm
      refine tr_eq0 (t_aI I T3 (by decide) rfl hx4) ?_
      by_cases c5 : x4 = (46 : Int32)
      · rw [if_pos c5] at hm ⊢
        exact t_X6_keyword_140 I T_v0 hm
      rw [if_neg c5] at hm ⊢
      by_cases c6 : x4 = (61 : Int32)
      · rw [if_pos c6] at hm ⊢
        exact t_X6_keyword_140 I T_v0 hm
      rw [if_neg c6] at hm ⊢
      by_cases c7 : x4 = (97 : Int32)
      · rw [if_pos c7] at hm ⊢
        exact t_X6_keyword_140 I T_v0 hm
      rw [if_neg c7] at hm ⊢
      by_cases c8 : x4 = (99 : Int32)
      · rw [if_pos c8] at hm ⊢
        exact t_X6_keyword_140 I T_v0 hm
      rw [if_neg c8] at hm ⊢
      by_cases c9 : x4 = (100 : Int32)
      · rw [if_pos c9] at hm ⊢
        exact t_X6_keyword_140 I T_v0 hm
      rw [if_neg c9] at hm ⊢
      by_cases c10 : x4 = (101 : Int32)
      · rw [if_pos c10] at hm ⊢
        exact t_X6_keyword_140 I T_v0 hm
      rw [if_neg c10] at hm ⊢
      by_cases c11 : x4 = (102 : Int32)
      · rw [if_pos c11] at hm ⊢
        exact t_X6_keyword_140 I T_v0 hm
      rw [if_neg c11] at hm ⊢
      by_cases c12 : x4 = (112 : Int32)
      · rw [if_pos c12] at hm ⊢
        exact t_X6_keyword_140 I T_v0 hm
      rw [if_neg c12] at hm ⊢
      by_cases c13 : x4 = (118 : Int32)
      · rw [if_pos c13] at hm ⊢
        exact t_X6_keyword_140 I T_v0 hm
      rw [if_neg c13] at hm ⊢
      by_cases c14 : x4 = (123 : Int32)
      · rw [if_pos c14] at hm ⊢
        exact t_X6_keyword_140 I T_v0 hm
      rw [if_neg c14] at hm ⊢
      by_cases c15 : x4 = (125 : Int32)
      · rw [if_pos c15] at hm ⊢
        exact t_X6_keyword_140 I T_v0 hm
      rw [if_neg c15] at hm ⊢
      obtain rfl := Option.some.inj hm
      rfl
    · rw [if_neg c16] at hm ⊢
      obtain rfl := Option.some.inj hm
      rfl
  · rw [if_neg c17] at hm ⊢
    obtain rfl := Option.some.inj hm
    rfl
def g_X6_keyword (n : Nat) (v0 : Nat) (s : st_T) : Option (Int32) := g_X6_keyword_0 n v0 s
theorem t_X6_keyword {tg r : Nat → Nat} {h : hp_H} {s : st_T} {n : Nat} {v0 : Nat} (I : iso tg r h s) (T_v0 : tg v0 = 16) {res : Int32} (hm : g_X6_keyword n v0 s = some res) : f_X6_keyword n (r v0) h = some res := by
  unfold g_X6_keyword at hm
  unfold f_X6_keyword
  refine tr_eq0 (t_ck I T_v0 (by decide)) ?_
  exact t_X6_keyword_0 I T_v0 hm
def g_X6_word_5 (n : Nat) (v0 : Nat) (v1 : Int32) (s : st_T) : Option ((Int32) ⊕ ((Unit) ⊕ (Int32))) :=
  if (gF s v0 1) ≤ v1 then
    some (.inr (.inr (0 : Int32)))
  else
    (gA s (gP s v0 3) v1).bind fun x2 =>
    if x2 = (36 : Int32) then
      some (.inr (.inl ()))
    else
      some (.inl (v1 + (1 : Int32)))
set_option maxHeartbeats 1000000 in
theorem t_X6_word_5 {tg r : Nat → Nat} {h : hp_H} {s : st_T} {n : Nat} {v0 : Nat} {v1 : Int32} (I : iso tg r h s) (T_v0 : tg v0 = 16) {res : (Int32) ⊕ ((Unit) ⊕ (Int32))} (hm : g_X6_word_5 n v0 v1 s = some res) : f_X6_word_5 n (r v0) v1 h = some res := by
  unfold g_X6_word_5 at hm
  unfold f_X6_word_5
  refine tr_eq0 (t_fI I T_v0 (by decide) (by decide) rfl) ?_
  by_cases c4 : (gF s v0 1) ≤ v1
  · rw [if_pos c4] at hm ⊢
    obtain rfl := Option.some.inj hm
    rfl
  · rw [if_neg c4] at hm ⊢
    have T1 : tg (gP s v0 3) = 1 := t_tg (c := 6) I T_v0 (by decide) (by decide) rfl (by decide)
    refine tr_eq0 (t_fR I T_v0 (by decide) (by decide) (by decide)) ?_
    obtain ⟨x2, hx2, hm⟩ := hp_bd hm
    refine tr_eq0 (t_aI I T1 (by decide) rfl hx2) ?_
    by_cases c3 : x2 = (36 : Int32)
    · rw [if_pos c3] at hm ⊢
      obtain rfl := Option.some.inj hm
      rfl
    · rw [if_neg c3] at hm ⊢
      obtain rfl := Option.some.inj hm
      rfl
def gL_X6_word_5 (n : Nat) (v0 : Nat) (s : st_T) (c : Int32) : Option ((Int32) ⊕ ((Unit) ⊕ (Int32))) := g_X6_word_5 n v0 c s
theorem tl_X6_word_5 {tg r : Nat → Nat} {h : hp_H} {s : st_T} {n : Nat} {v0 : Nat} (I : iso tg r h s) (T_v0 : tg v0 = 16) : ∀ (k : Nat) (c : Int32) (x : (Unit) ⊕ (Int32)), hp_lp (gL_X6_word_5 n v0 s) k c = some x → hp_lp (fL_X6_word_5 n (r v0) h) k c = some x := by
  intro k
  induction k with
  | zero => intro c x hx; exact (hp_lp_0 hx).elim
  | succ k ih =>
    intro c x hx
    obtain ⟨rr, hr, hc⟩ := hp_lp_1 hx
    have e2 := t_X6_word_5 I T_v0 hr
    rcases hc with ⟨s3, e3, hx3⟩ | e3
    · subst e3
      exact hp_lp_s e2 (ih _ _ hx3)
    · subst e3
      exact hp_lp_x e2
def g_X6_word_0 (n : Nat) (v0 : Nat) (s : st_T) : Option (Int32) :=
  (hp_lp (gL_X6_word_5 n v0 s) n (gF s v0 0)).bind fun x1 =>
  Sum.elim (fun y2 =>
    (g_X6_keyword n v0 s).bind fun x4 =>
    some x4) (fun y3 =>
    some y3) x1
set_option maxHeartbeats 1000000 in
theorem t_X6_word_0 {tg r : Nat → Nat} {h : hp_H} {s : st_T} {n : Nat} {v0 : Nat} (I : iso tg r h s) (T_v0 : tg v0 = 16) {res : Int32} (hm : g_X6_word_0 n v0 s = some res) : f_X6_word_0 n (r v0) h = some res := by
  unfold g_X6_word_0 at hm
  unfold f_X6_word_0
  refine tr_eq0 (t_fI I T_v0 (by decide) (by decide) rfl) ?_
  obtain ⟨x1, hx1, hm⟩ := hp_bd hm
  refine tr_eq0 (tl_X6_word_5 I T_v0 n _ _ hx1) ?_
  rcases x1 with y2 | y3
  · simp only [Sum.elim_inl, Sum.elim_inr] at hm ⊢
    obtain ⟨x4, hx4, hm⟩ := hp_bd hm
    refine tr_eq0 (t_X6_keyword I T_v0 hx4) ?_
    obtain rfl := Option.some.inj hm
    rfl
  · simp only [Sum.elim_inl, Sum.elim_inr] at hm ⊢
    obtain rfl := Option.some.inj hm
    rfl
def g_X6_word (n : Nat) (v0 : Nat) (s : st_T) : Option (Int32) := g_X6_word_0 n v0 s
theorem t_X6_word {tg r : Nat → Nat} {h : hp_H} {s : st_T} {n : Nat} {v0 : Nat} (I : iso tg r h s) (T_v0 : tg v0 = 16) {res : Int32} (hm : g_X6_word n v0 s = some res) : f_X6_word n (r v0) h = some res := by
  unfold g_X6_word at hm
  unfold f_X6_word
  refine tr_eq0 (t_ck I T_v0 (by decide)) ?_
  exact t_X6_word_0 I T_v0 hm
def g_X6_isLabel_98 (n : Nat) (v0 : Nat) (v1 : Int32) (s : st_T) : Option ((Int32) ⊕ (Int32)) :=
  some (.inl (v1 + (1 : Int32)))
set_option maxHeartbeats 1000000 in
theorem t_X6_isLabel_98 {tg r : Nat → Nat} {h : hp_H} {s : st_T} {n : Nat} {v0 : Nat} {v1 : Int32} (I : iso tg r h s) (T_v0 : tg v0 = 16) {res : (Int32) ⊕ (Int32)} (hm : g_X6_isLabel_98 n v0 v1 s = some res) : f_X6_isLabel_98 n (r v0) v1 h = some res := by
  unfold g_X6_isLabel_98 at hm
  unfold f_X6_isLabel_98
  obtain rfl := Option.some.inj hm
  rfl
def g_X6_isLabel_67 (n : Nat) (v0 : Nat) (v1 : Int32) (v2 : Int32) (v3 : Int32) (s0 : Int32) (s : st_T) : Option ((Int32) ⊕ (Int32)) :=
  if v3 = 0 then
    if s0 = 0 then
      if v2 = (46 : Int32) then
        g_X6_isLabel_98 n v0 v1 s
      else
        if v2 = (45 : Int32) then
          g_X6_isLabel_98 n v0 v1 s
        else
          if v2 = (95 : Int32) then
            g_X6_isLabel_98 n v0 v1 s
          else
            some (.inr (0 : Int32))
    else
      g_X6_isLabel_98 n v0 v1 s
  else
    g_X6_isLabel_98 n v0 v1 s
set_option maxHeartbeats 1000000 in
theorem t_X6_isLabel_67 {tg r : Nat → Nat} {h : hp_H} {s : st_T} {n : Nat} {v0 : Nat} {v1 : Int32} {v2 : Int32} {v3 : Int32} {s0 : Int32} (I : iso tg r h s) (T_v0 : tg v0 = 16) {res : (Int32) ⊕ (Int32)} (hm : g_X6_isLabel_67 n v0 v1 v2 v3 s0 s = some res) : f_X6_isLabel_67 n (r v0) v1 v2 v3 s0 h = some res := by
  unfold g_X6_isLabel_67 at hm
  unfold f_X6_isLabel_67
  by_cases c5 : v3 = 0
  · rw [if_pos c5] at hm ⊢
    by_cases c4 : s0 = 0
    · rw [if_pos c4] at hm ⊢
      by_cases c3 : v2 = (46 : Int32)
      · rw [if_pos c3] at hm ⊢
        exact t_X6_isLabel_98 I T_v0 hm
      · rw [if_neg c3] at hm ⊢
        by_cases c2 : v2 = (45 : Int32)
        · rw [if_pos c2] at hm ⊢
          exact t_X6_isLabel_98 I T_v0 hm
        · rw [if_neg c2] at hm ⊢
          by_cases c1 : v2 = (95 : Int32)
          · rw [if_pos c1] at hm ⊢
            exact t_X6_isLabel_98 I T_v0 hm
          · rw [if_neg c1] at hm ⊢
            obtain rfl := Option.some.inj hm
            rfl
    · rw [if_neg c4] at hm ⊢
      exact t_X6_isLabel_98 I T_v0 hm
  · rw [if_neg c5] at hm ⊢
    exact t_X6_isLabel_98 I T_v0 hm
def g_X6_isLabel_66 (n : Nat) (v0 : Nat) (v1 : Int32) (v2 : Int32) (v3 : Int32) (s : st_T) : Option ((Int32) ⊕ (Int32)) :=
  g_X6_isLabel_67 n v0 v1 v2 v3 (0 : Int32) s
set_option maxHeartbeats 1000000 in
theorem t_X6_isLabel_66 {tg r : Nat → Nat} {h : hp_H} {s : st_T} {n : Nat} {v0 : Nat} {v1 : Int32} {v2 : Int32} {v3 : Int32} (I : iso tg r h s) (T_v0 : tg v0 = 16) {res : (Int32) ⊕ (Int32)} (hm : g_X6_isLabel_66 n v0 v1 v2 v3 s = some res) : f_X6_isLabel_66 n (r v0) v1 v2 v3 h = some res := by
  unfold g_X6_isLabel_66 at hm
  unfold f_X6_isLabel_66
  exact t_X6_isLabel_67 I T_v0 hm
def g_X6_isLabel_49 (n : Nat) (v0 : Nat) (v1 : Int32) (v2 : Int32) (s0 : Int32) (s : st_T) : Option ((Int32) ⊕ (Int32)) :=
  if v2 < (48 : Int32) then
    g_X6_isLabel_66 n v0 v1 v2 s0 s
  else
    if (57 : Int32) < v2 then
      g_X6_isLabel_66 n v0 v1 v2 s0 s
    else
      g_X6_isLabel_67 n v0 v1 v2 s0 (1 : Int32) s
set_option maxHeartbeats 1000000 in
theorem t_X6_isLabel_49 {tg r : Nat → Nat} {h : hp_H} {s : st_T} {n : Nat} {v0 : Nat} {v1 : Int32} {v2 : Int32} {s0 : Int32} (I : iso tg r h s) (T_v0 : tg v0 = 16) {res : (Int32) ⊕ (Int32)} (hm : g_X6_isLabel_49 n v0 v1 v2 s0 s = some res) : f_X6_isLabel_49 n (r v0) v1 v2 s0 h = some res := by
  unfold g_X6_isLabel_49 at hm
  unfold f_X6_isLabel_49
  by_cases c2 : v2 < (48 : Int32)
  · rw [if_pos c2] at hm ⊢
    exact t_X6_isLabel_66 I T_v0 hm
  · rw [if_neg c2] at hm ⊢
    by_cases c1 : (57 : Int32) < v2
    · rw [if_pos c1] at hm ⊢
      exact t_X6_isLabel_66 I T_v0 hm
    · rw [if_neg c1] at hm ⊢
      exact t_X6_isLabel_67 I T_v0 hm
def g_X6_isLabel_48 (n : Nat) (v0 : Nat) (v1 : Int32) (v2 : Int32) (s : st_T) : Option ((Int32) ⊕ (Int32)) :=
  g_X6_isLabel_49 n v0 v1 v2 (0 : Int32) s
set_option maxHeartbeats 1000000 in
theorem t_X6_isLabel_48 {tg r : Nat → Nat} {h : hp_H} {s : st_T} {n : Nat} {v0 : Nat} {v1 : Int32} {v2 : Int32} (I : iso tg r h s) (T_v0 : tg v0 = 16) {res : (Int32) ⊕ (Int32)} (hm : g_X6_isLabel_48 n v0 v1 v2 s = some res) : f_X6_isLabel_48 n (r v0) v1 v2 h = some res := by
  unfold g_X6_isLabel_48 at hm
  unfold f_X6_isLabel_48
  exact t_X6_isLabel_49 I T_v0 hm
def g_X6_isLabel_44 (n : Nat) (v0 : Nat) (v1 : Int32) (v2 : Int32) (s : st_T) : Option ((Int32) ⊕ (Int32)) :=
  g_X6_isLabel_49 n v0 v1 v2 (1 : Int32) s
set_option maxHeartbeats 1000000 in
theorem t_X6_isLabel_44 {tg r : Nat → Nat} {h : hp_H} {s : st_T} {n : Nat} {v0 : Nat} {v1 : Int32} {v2 : Int32} (I : iso tg r h s) (T_v0 : tg v0 = 16) {res : (Int32) ⊕ (Int32)} (hm : g_X6_isLabel_44 n v0 v1 v2 s = some res) : f_X6_isLabel_44 n (r v0) v1 v2 h = some res := by
  unfold g_X6_isLabel_44 at hm
  unfold f_X6_isLabel_44
  exact t_X6_isLabel_49 I T_v0 hm
def g_X6_isLabel_32 (n : Nat) (v0 : Nat) (v1 : Int32) (v2 : Int32) (s : st_T) : Option ((Int32) ⊕ (Int32)) :=
  if v2 < (65 : Int32) then
    g_X6_isLabel_48 n v0 v1 v2 s
  else
    if (90 : Int32) < v2 then
      g_X6_isLabel_48 n v0 v1 v2 s
    else
      g_X6_isLabel_44 n v0 v1 v2 s
set_option maxHeartbeats 1000000 in
theorem t_X6_isLabel_32 {tg r : Nat → Nat} {h : hp_H} {s : st_T} {n : Nat} {v0 : Nat} {v1 : Int32} {v2 : Int32} (I : iso tg r h s) (T_v0 : tg v0 = 16) {res : (Int32) ⊕ (Int32)} (hm : g_X6_isLabel_32 n v0 v1 v2 s = some res) : f_X6_isLabel_32 n (r v0) v1 v2 h = some res := by
  unfold g_X6_isLabel_32 at hm
  unfold f_X6_isLabel_32
  by_cases c2 : v2 < (65 : Int32)
  · rw [if_pos c2] at hm ⊢
    exact t_X6_isLabel_48 I T_v0 hm
  · rw [if_neg c2] at hm ⊢
    by_cases c1 : (90 : Int32) < v2
    · rw [if_pos c1] at hm ⊢
      exact t_X6_isLabel_48 I T_v0 hm
    · rw [if_neg c1] at hm ⊢
      exact t_X6_isLabel_44 I T_v0 hm
def g_X6_isLabel_5 (n : Nat) (v0 : Nat) (v1 : Int32) (s : st_T) : Option ((Int32) ⊕ (Int32)) :=
  if (gF s v0 1) ≤ v1 then
    some (.inr (1 : Int32))
  else
    (gA s (gP s v0 3) v1).bind fun x2 =>
    if x2 < (97 : Int32) then
      g_X6_isLabel_32 n v0 v1 x2 s
    else
      if x2 ≤ (122 : Int32) then
        g_X6_isLabel_44 n v0 v1 x2 s
      else
        g_X6_isLabel_32 n v0 v1 x2 s
set_option maxHeartbeats 1000000 in
theorem t_X6_isLabel_5 {tg r : Nat → Nat} {h : hp_H} {s : st_T} {n : Nat} {v0 : Nat} {v1 : Int32} (I : iso tg r h s) (T_v0 : tg v0 = 16) {res : (Int32) ⊕ (Int32)} (hm : g_X6_isLabel_5 n v0 v1 s = some res) : f_X6_isLabel_5 n (r v0) v1 h = some res := by
  unfold g_X6_isLabel_5 at hm
  unfold f_X6_isLabel_5
  refine tr_eq0 (t_fI I T_v0 (by decide) (by decide) rfl) ?_
  by_cases c5 : (gF s v0 1) ≤ v1
  · rw [if_pos c5] at hm ⊢
    obtain rfl := Option.some.inj hm
    rfl
  · rw [if_neg c5] at hm ⊢
    have T1 : tg (gP s v0 3) = 1 := t_tg (c := 6) I T_v0 (by decide) (by decide) rfl (by decide)
    refine tr_eq0 (t_fR I T_v0 (by decide) (by decide) (by decide)) ?_
    obtain ⟨x2, hx2, hm⟩ := hp_bd hm
    refine tr_eq0 (t_aI I T1 (by decide) rfl hx2) ?_
    by_cases c4 : x2 < (97 : Int32)
    · rw [if_pos c4] at hm ⊢
      exact t_X6_isLabel_32 I T_v0 hm
    · rw [if_neg c4] at hm ⊢
      by_cases c3 : x2 ≤ (122 : Int32)
      · rw [if_pos c3] at hm ⊢
        exact t_X6_isLabel_44 I T_v0 hm
      · rw [if_neg c3] at hm ⊢
        exact t_X6_isLabel_32 I T_v0 hm
def gL_X6_isLabel_5 (n : Nat) (v0 : Nat) (s : st_T) (c : Int32) : Option ((Int32) ⊕ (Int32)) := g_X6_isLabel_5 n v0 c s
theorem tl_X6_isLabel_5 {tg r : Nat → Nat} {h : hp_H} {s : st_T} {n : Nat} {v0 : Nat} (I : iso tg r h s) (T_v0 : tg v0 = 16) : ∀ (k : Nat) (c : Int32) (x : Int32), hp_lp (gL_X6_isLabel_5 n v0 s) k c = some x → hp_lp (fL_X6_isLabel_5 n (r v0) h) k c = some x := by
  intro k
  induction k with
  | zero => intro c x hx; exact (hp_lp_0 hx).elim
  | succ k ih =>
    intro c x hx
    obtain ⟨rr, hr, hc⟩ := hp_lp_1 hx
    have e2 := t_X6_isLabel_5 I T_v0 hr
    rcases hc with ⟨s3, e3, hx3⟩ | e3
    · subst e3
      exact hp_lp_s e2 (ih _ _ hx3)
    · subst e3
      exact hp_lp_x e2
def g_X6_isLabel_0 (n : Nat) (v0 : Nat) (s : st_T) : Option (Int32) :=
  (hp_lp (gL_X6_isLabel_5 n v0 s) n (gF s v0 0)).bind fun x1 =>
  some x1
set_option maxHeartbeats 1000000 in
theorem t_X6_isLabel_0 {tg r : Nat → Nat} {h : hp_H} {s : st_T} {n : Nat} {v0 : Nat} (I : iso tg r h s) (T_v0 : tg v0 = 16) {res : Int32} (hm : g_X6_isLabel_0 n v0 s = some res) : f_X6_isLabel_0 n (r v0) h = some res := by
  unfold g_X6_isLabel_0 at hm
  unfold f_X6_isLabel_0
  refine tr_eq0 (t_fI I T_v0 (by decide) (by decide) rfl) ?_
  obtain ⟨x1, hx1, hm⟩ := hp_bd hm
  refine tr_eq0 (tl_X6_isLabel_5 I T_v0 n _ _ hx1) ?_
  obtain rfl := Option.some.inj hm
  rfl
def g_X6_isLabel (n : Nat) (v0 : Nat) (s : st_T) : Option (Int32) := g_X6_isLabel_0 n v0 s
theorem t_X6_isLabel {tg r : Nat → Nat} {h : hp_H} {s : st_T} {n : Nat} {v0 : Nat} (I : iso tg r h s) (T_v0 : tg v0 = 16) {res : Int32} (hm : g_X6_isLabel n v0 s = some res) : f_X6_isLabel n (r v0) h = some res := by
  unfold g_X6_isLabel at hm
  unfold f_X6_isLabel
  refine tr_eq0 (t_ck I T_v0 (by decide)) ?_
  exact t_X6_isLabel_0 I T_v0 hm
