def g_X3_isOpen_17 (n : Nat) (v0 : Nat) (v1 : Int32) (v2 : Int32) (s : st_T) : Option ((Int32) ⊕ ((Unit) ⊕ (Int32))) :=
  if v1 ≤ v2 then
    some (.inr (.inl ()))
  else
    (g_X0_isJust n (gP s v0 6) (gF s v0 0) v2 (63 : Int32) s).bind fun x2 =>
    if x2 = 0 then
      some (.inl (v2 + (1 : Int32)))
    else
      some (.inr (.inr (1 : Int32)))
set_option maxHeartbeats 1000000 in
theorem t_X3_isOpen_17 {tg r : Nat → Nat} {h : hp_H} {s : st_T} {n : Nat} {v0 : Nat} {v1 : Int32} {v2 : Int32} (I : iso tg r h s) (T_v0 : tg v0 = 13) {res : (Int32) ⊕ ((Unit) ⊕ (Int32))} (hm : g_X3_isOpen_17 n v0 v1 v2 s = some res) : f_X3_isOpen_17 n (r v0) v1 v2 h = some res := by
  unfold g_X3_isOpen_17 at hm
  unfold f_X3_isOpen_17
  by_cases c4 : v1 ≤ v2
  · rw [if_pos c4] at hm ⊢
    obtain rfl := Option.some.inj hm
    rfl
  · rw [if_neg c4] at hm ⊢
    have T1 : tg (gP s v0 6) = 10 := t_tg (c := 3) I T_v0 (by decide) (by decide) rfl (by decide)
    refine tr_eq0 (t_fR I T_v0 (by decide) (by decide) (by decide)) ?_
    refine tr_eq0 (t_fI I T_v0 (by decide) (by decide) rfl) ?_
    obtain ⟨x2, hx2, hm⟩ := hp_bd hm
    refine tr_eq0 (t_X0_isJust I T1 hx2) ?_
    by_cases c3 : x2 = 0
    · rw [if_pos c3] at hm ⊢
      obtain rfl := Option.some.inj hm
      rfl
    · rw [if_neg c3] at hm ⊢
      obtain rfl := Option.some.inj hm
      rfl
def gL_X3_isOpen_17 (n : Nat) (v0 : Nat) (v1 : Int32) (s : st_T) (c : Int32) : Option ((Int32) ⊕ ((Unit) ⊕ (Int32))) := g_X3_isOpen_17 n v0 v1 c s
theorem tl_X3_isOpen_17 {tg r : Nat → Nat} {h : hp_H} {s : st_T} {n : Nat} {v0 : Nat} {v1 : Int32} (I : iso tg r h s) (T_v0 : tg v0 = 13) : ∀ (k : Nat) (c : Int32) (x : (Unit) ⊕ (Int32)), hp_lp (gL_X3_isOpen_17 n v0 v1 s) k c = some x → hp_lp (fL_X3_isOpen_17 n (r v0) v1 h) k c = some x := by
  intro k
  induction k with
  | zero => intro c x hx; exact (hp_lp_0 hx).elim
  | succ k ih =>
    intro c x hx
    obtain ⟨rr, hr, hc⟩ := hp_lp_1 hx
    have e2 := t_X3_isOpen_17 I T_v0 hr
    rcases hc with ⟨s3, e3, hx3⟩ | e3
    · subst e3
      exact hp_lp_s e2 (ih _ _ hx3)
    · subst e3
      exact hp_lp_x e2
def g_X3_isOpen_81 (n : Nat) (v0 : Nat) (v1 : Int32) (v2 : Int32) (v3 : Int32) (s : st_T) : Option ((Int32) ⊕ ((Unit) ⊕ (Int32))) :=
  if (gF s (gP s v0 6) 2) ≤ v3 then
    some (.inr (.inl ()))
  else
    (g_X0_isInToken n (gP s v0 6) v3 s).bind fun x3 =>
    if x3 = 0 then
      some (.inr (.inl ()))
    else
      (gA s (gP s (gP s v0 6) 1) v3).bind fun x6 =>
      if x6 = (63 : Int32) then
        some (.inr (.inr (1 : Int32)))
      else
        some (.inl (v3 + (1 : Int32)))
set_option maxHeartbeats 1000000 in
theorem t_X3_isOpen_81 {tg r : Nat → Nat} {h : hp_H} {s : st_T} {n : Nat} {v0 : Nat} {v1 : Int32} {v2 : Int32} {v3 : Int32} (I : iso tg r h s) (T_v0 : tg v0 = 13) {res : (Int32) ⊕ ((Unit) ⊕ (Int32))} (hm : g_X3_isOpen_81 n v0 v1 v2 v3 s = some res) : f_X3_isOpen_81 n (r v0) v1 v2 v3 h = some res := by
  unfold g_X3_isOpen_81 at hm
  unfold f_X3_isOpen_81
  have T1 : tg (gP s v0 6) = 10 := t_tg (c := 3) I T_v0 (by decide) (by decide) rfl (by decide)
  refine tr_eq0 (t_fR I T_v0 (by decide) (by decide) (by decide)) ?_
  refine tr_eq0 (t_fI I T1 (by decide) (by decide) rfl) ?_
  by_cases c9 : (gF s (gP s v0 6) 2) ≤ v3
  · rw [if_pos c9] at hm ⊢
    obtain rfl := Option.some.inj hm
    rfl
  · rw [if_neg c9] at hm ⊢
    have T2 : tg (gP s v0 6) = 10 := t_tg (c := 3) I T_v0 (by decide) (by decide) rfl (by decide)
    refine tr_eq0 (t_fR I T_v0 (by decide) (by decide) (by decide)) ?_
    obtain ⟨x3, hx3, hm⟩ := hp_bd hm
    refine tr_eq0 (t_X0_isInToken I T2 hx3) ?_
    by_cases c8 : x3 = 0
    · rw [if_pos c8] at hm ⊢
      obtain rfl := Option.some.inj hm
      rfl
    · rw [if_neg c8] at hm ⊢
      have T4 : tg (gP s v0 6) = 10 := t_tg (c := 3) I T_v0 (by decide) (by decide) rfl (by decide)
      refine tr_eq0 (t_fR I T_v0 (by decide) (by decide) (by decide)) ?_
      have T5 : tg (gP s (gP s v0 6) 1) = 1 := t_tg (c := 0) I T4 (by decide) (by decide) rfl (by decide)
      refine tr_eq0 (t_fR I T4 (by decide) (by decide) (by decide)) ?_
      obtain ⟨x6, hx6, hm⟩ := hp_bd hm
      refine tr_eq0 (t_aI I T5 (by decide) rfl hx6) ?_
      by_cases c7 : x6 = (63 : Int32)
      · rw [if_pos c7] at hm ⊢
        obtain rfl := Option.some.inj hm
        rfl
      · rw [if_neg c7] at hm ⊢
        obtain rfl := Option.some.inj hm
        rfl
def gL_X3_isOpen_81 (n : Nat) (v0 : Nat) (v1 : Int32) (v2 : Int32) (s : st_T) (c : Int32) : Option ((Int32) ⊕ ((Unit) ⊕ (Int32))) := g_X3_isOpen_81 n v0 v1 v2 c s
theorem tl_X3_isOpen_81 {tg r : Nat → Nat} {h : hp_H} {s : st_T} {n : Nat} {v0 : Nat} {v1 : Int32} {v2 : Int32} (I : iso tg r h s) (T_v0 : tg v0 = 13) : ∀ (k : Nat) (c : Int32) (x : (Unit) ⊕ (Int32)), hp_lp (gL_X3_isOpen_81 n v0 v1 v2 s) k c = some x → hp_lp (fL_X3_isOpen_81 n (r v0) v1 v2 h) k c = some x := by
  intro k
  induction k with
  | zero => intro c x hx; exact (hp_lp_0 hx).elim
  | succ k ih =>
    intro c x hx
    obtain ⟨rr, hr, hc⟩ := hp_lp_1 hx
    have e2 := t_X3_isOpen_81 I T_v0 hr
    rcases hc with ⟨s3, e3, hx3⟩ | e3
    · subst e3
      exact hp_lp_s e2 (ih _ _ hx3)
    · subst e3
      exact hp_lp_x e2
def g_X3_isOpen_125 (n : Nat) (v0 : Nat) (v1 : Int32) (v2 : Int32) (s : st_T) : Option ((Int32) ⊕ (Int32)) :=
  some (.inl (v2 + (1 : Int32)))
set_option maxHeartbeats 1000000 in
theorem t_X3_isOpen_125 {tg r : Nat → Nat} {h : hp_H} {s : st_T} {n : Nat} {v0 : Nat} {v1 : Int32} {v2 : Int32} (I : iso tg r h s) (T_v0 : tg v0 = 13) {res : (Int32) ⊕ (Int32)} (hm : g_X3_isOpen_125 n v0 v1 v2 s = some res) : f_X3_isOpen_125 n (r v0) v1 v2 h = some res := by
  unfold g_X3_isOpen_125 at hm
  unfold f_X3_isOpen_125
  obtain rfl := Option.some.inj hm
  rfl
def g_X3_isOpen_60 (n : Nat) (v0 : Nat) (v1 : Int32) (v2 : Int32) (s : st_T) : Option ((Int32) ⊕ (Int32)) :=
  if v1 ≤ v2 then
    some (.inr (0 : Int32))
  else
    (g_X5_get n (gP s (gP s v0 6) 10) (gF s v0 0) v2 s).bind fun x3 =>
    (hp_lp (gL_X3_isOpen_81 n v0 v1 v2 s) n x3).bind fun x4 =>
    Sum.elim (fun y5 =>
      g_X3_isOpen_125 n v0 v1 v2 s) (fun y6 =>
      some (.inr y6)) x4
set_option maxHeartbeats 1000000 in
theorem t_X3_isOpen_60 {tg r : Nat → Nat} {h : hp_H} {s : st_T} {n : Nat} {v0 : Nat} {v1 : Int32} {v2 : Int32} (I : iso tg r h s) (T_v0 : tg v0 = 13) {res : (Int32) ⊕ (Int32)} (hm : g_X3_isOpen_60 n v0 v1 v2 s = some res) : f_X3_isOpen_60 n (r v0) v1 v2 h = some res := by
  unfold g_X3_isOpen_60 at hm
  unfold f_X3_isOpen_60
  by_cases c7 : v1 ≤ v2
  · rw [if_pos c7] at hm ⊢
    obtain rfl := Option.some.inj hm
    rfl
  · rw [if_neg c7] at hm ⊢
    have T1 : tg (gP s v0 6) = 10 := t_tg (c := 3) I T_v0 (by decide) (by decide) rfl (by decide)
    refine tr_eq0 (t_fR I T_v0 (by decide) (by decide) (by decide)) ?_
    have T2 : tg (gP s (gP s v0 6) 10) = 15 := t_tg (c := 0) I T1 (by decide) (by decide) rfl (by decide)
    refine tr_eq0 (t_fR I T1 (by decide) (by decide) (by decide)) ?_
    refine tr_eq0 (t_fI I T_v0 (by decide) (by decide) rfl) ?_
    obtain ⟨x3, hx3, hm⟩ := hp_bd hm
    refine tr_eq0 (t_X5_get I T2 hx3) ?_
    obtain ⟨x4, hx4, hm⟩ := hp_bd hm
    refine tr_eq0 (tl_X3_isOpen_81 I T_v0 n _ _ hx4) ?_
    rcases x4 with y5 | y6
    · simp only [Sum.elim_inl, Sum.elim_inr] at hm ⊢
      exact t_X3_isOpen_125 I T_v0 hm
    · simp only [Sum.elim_inl, Sum.elim_inr] at hm ⊢
      obtain rfl := Option.some.inj hm
      rfl
def gL_X3_isOpen_60 (n : Nat) (v0 : Nat) (v1 : Int32) (s : st_T) (c : Int32) : Option ((Int32) ⊕ (Int32)) := g_X3_isOpen_60 n v0 v1 c s
theorem tl_X3_isOpen_60 {tg r : Nat → Nat} {h : hp_H} {s : st_T} {n : Nat} {v0 : Nat} {v1 : Int32} (I : iso tg r h s) (T_v0 : tg v0 = 13) : ∀ (k : Nat) (c : Int32) (x : Int32), hp_lp (gL_X3_isOpen_60 n v0 v1 s) k c = some x → hp_lp (fL_X3_isOpen_60 n (r v0) v1 h) k c = some x := by
  intro k
  induction k with
  | zero => intro c x hx; exact (hp_lp_0 hx).elim
  | succ k ih =>
    intro c x hx
    obtain ⟨rr, hr, hc⟩ := hp_lp_1 hx
    have e2 := t_X3_isOpen_60 I T_v0 hr
    rcases hc with ⟨s3, e3, hx3⟩ | e3
    · subst e3
      exact hp_lp_s e2 (ih _ _ hx3)
    · subst e3
      exact hp_lp_x e2
def g_X3_isOpen_0 (n : Nat) (v0 : Nat) (s : st_T) : Option (Int32) :=
  (g_X5_size n (gP s (gP s v0 6) 10) (gF s v0 0) s).bind fun x3 =>
  (hp_lp (gL_X3_isOpen_17 n v0 x3 s) n (0 : Int32)).bind fun x4 =>
  Sum.elim (fun y5 =>
    (gA s (gP s (gP s v0 6) 16) (gF s v0 0)).bind fun x9 =>
    (hp_lp (gL_X3_isOpen_60 n v0 x3 s) n x9).bind fun x10 =>
    some x10) (fun y6 =>
    some y6) x4
set_option maxHeartbeats 1000000 in
theorem t_X3_isOpen_0 {tg r : Nat → Nat} {h : hp_H} {s : st_T} {n : Nat} {v0 : Nat} (I : iso tg r h s) (T_v0 : tg v0 = 13) {res : Int32} (hm : g_X3_isOpen_0 n v0 s = some res) : f_X3_isOpen_0 n (r v0) h = some res := by
  unfold g_X3_isOpen_0 at hm
  unfold f_X3_isOpen_0
  have T1 : tg (gP s v0 6) = 10 := t_tg (c := 3) I T_v0 (by decide) (by decide) rfl (by decide)
  refine tr_eq0 (t_fR I T_v0 (by decide) (by decide) (by decide)) ?_
  have T2 : tg (gP s (gP s v0 6) 10) = 15 := t_tg (c := 0) I T1 (by decide) (by decide) rfl (by decide)
  refine tr_eq0 (t_fR I T1 (by decide) (by decide) (by decide)) ?_
  refine tr_eq0 (t_fI I T_v0 (by decide) (by decide) rfl) ?_
  obtain ⟨x3, hx3, hm⟩ := hp_bd hm
  refine tr_eq0 (t_X5_size I T2 hx3) ?_
  obtain ⟨x4, hx4, hm⟩ := hp_bd hm
  refine tr_eq0 (tl_X3_isOpen_17 I T_v0 n _ _ hx4) ?_
  rcases x4 with y5 | y6
  · simp only [Sum.elim_inl, Sum.elim_inr] at hm ⊢
    have T7 : tg (gP s v0 6) = 10 := t_tg (c := 3) I T_v0 (by decide) (by decide) rfl (by decide)
    refine tr_eq0 (t_fR I T_v0 (by decide) (by decide) (by decide)) ?_
    have T8 : tg (gP s (gP s v0 6) 16) = 0 := t_tg (c := 0) I T7 (by decide) (by decide) rfl (by decide)
    refine tr_eq0 (t_fR I T7 (by decide) (by decide) (by decide)) ?_
    refine tr_eq0 (t_fI I T_v0 (by decide) (by decide) rfl) ?_
    obtain ⟨x9, hx9, hm⟩ := hp_bd hm
    refine tr_eq0 (t_aI I T8 (by decide) rfl hx9) ?_
    obtain ⟨x10, hx10, hm⟩ := hp_bd hm
    refine tr_eq0 (tl_X3_isOpen_60 I T_v0 n _ _ hx10) ?_
    obtain rfl := Option.some.inj hm
    rfl
  · simp only [Sum.elim_inl, Sum.elim_inr] at hm ⊢
    obtain rfl := Option.some.inj hm
    rfl
def g_X3_isOpen (n : Nat) (v0 : Nat) (s : st_T) : Option (Int32) := g_X3_isOpen_0 n v0 s
theorem t_X3_isOpen {tg r : Nat → Nat} {h : hp_H} {s : st_T} {n : Nat} {v0 : Nat} (I : iso tg r h s) (T_v0 : tg v0 = 13) {res : Int32} (hm : g_X3_isOpen n v0 s = some res) : f_X3_isOpen n (r v0) h = some res := by
  unfold g_X3_isOpen at hm
  unfold f_X3_isOpen
  refine tr_eq0 (t_ck I T_v0 (by decide)) ?_
  exact t_X3_isOpen_0 I T_v0 hm
def g_X3_know_0 (n : Nat) (v0 : Nat) (v1 : Int32) (s : st_T) : Option (st_T) :=
  (uA 0 s (gP s v0 7) (gF s v0 8) v1).bind fun w2 =>
  (wF w2 v0 8 ((gF w2 v0 8) + (1 : Int32))).bind fun w3 =>
  (uA 1 w3 (gP w3 v0 9) v1 (1 : Int32)).bind fun w5 =>
  some w5
set_option maxHeartbeats 1000000 in
theorem t_X3_know_0 {tg r : Nat → Nat} {h hb : hp_H} {s sb : st_T} {n : Nat} {v0 : Nat} {v1 : Int32} (I : iso tg r h s) (F : isf tg r hb h sb s) (T_v0 : tg v0 = 13) {res : st_T} (hm : g_X3_know_0 n v0 v1 s = some res) : ∃ h2, f_X3_know_0 n (r v0) v1 h = some (h2) ∧ iso tg r h2 res ∧ isf tg r hb h2 sb res := by
  unfold g_X3_know_0 at hm
  unfold f_X3_know_0
  have T1 : tg (gP s v0 7) = 0 := t_tg (c := 3) I T_v0 (by decide) (by decide) rfl (by decide)
  refine tr_eq (t_fR I T_v0 (by decide) (by decide) (by decide)) ?_
  refine tr_eq (t_fI I T_v0 (by decide) (by decide) rfl) ?_
  obtain ⟨w2, hw2, hm⟩ := hp_bd hm
  obtain ⟨_, e2, I, F⟩ := t_sI I F T1 (by decide) rfl hw2
  refine tr_eq e2 ?_
  refine tr_eq (t_fI I T_v0 (by decide) (by decide) rfl) ?_
  obtain ⟨w3, hw3, hm⟩ := hp_bd hm
  obtain ⟨_, e2, I, F⟩ := t_wF (c := 3) (k := 8) I F T_v0 (by decide) (by decide) rfl hw3
  refine tr_eq e2 ?_
  have T4 : tg (gP w3 v0 9) = 1 := t_tg (c := 3) I T_v0 (by decide) (by decide) rfl (by decide)
  refine tr_eq (t_fR I T_v0 (by decide) (by decide) (by decide)) ?_
  obtain ⟨w5, hw5, hm⟩ := hp_bd hm
  obtain ⟨_, e2, I, F⟩ := t_sI I F T4 (by decide) rfl hw5
  refine tr_eq e2 ?_
  obtain rfl := Option.some.inj hm
  exact ⟨_, rfl, I, F⟩
def g_X3_know (n : Nat) (v0 : Nat) (v1 : Int32) (s : st_T) : Option (st_T) := g_X3_know_0 n v0 v1 s
theorem t_X3_know {tg r : Nat → Nat} {h hb : hp_H} {s sb : st_T} {n : Nat} {v0 : Nat} {v1 : Int32} (I : iso tg r h s) (F : isf tg r hb h sb s) (T_v0 : tg v0 = 13) {res : st_T} (hm : g_X3_know n v0 v1 s = some res) : ∃ h2, f_X3_know n (r v0) v1 h = some (h2) ∧ iso tg r h2 res ∧ isf tg r hb h2 sb res := by
  unfold g_X3_know at hm
  unfold f_X3_know
  refine tr_eq (t_ck I T_v0 (by decide)) ?_
  exact t_X3_know_0 I F T_v0 hm
abbrev eX_X3_knowHypotheses_30 (x : st_T) (h2 : hp_H) : hp_H := (fun y => h2) x
abbrev sX_X3_knowHypotheses_30 (x : st_T) : st_T := (fun y => y) x
abbrev eR_X3_knowHypotheses_30 (x : (Int32 × st_T) ⊕ (st_T)) (h2 : hp_H) : (Int32 × hp_H) ⊕ (hp_H) := Sum.elim (fun y => .inl (y.1, h2)) (fun y => .inr (eX_X3_knowHypotheses_30 y h2)) x
abbrev sR_X3_knowHypotheses_30 (x : (Int32 × st_T) ⊕ (st_T)) : st_T := Sum.elim (fun y => y.2) sX_X3_knowHypotheses_30 x
def g_X3_knowHypotheses_30 (n : Nat) (v0 : Nat) (v1 : Int32) (v2 : Int32) (s : st_T) : Option ((Int32 × st_T) ⊕ (st_T)) :=
  if v1 ≤ v2 then
    some (.inr s)
  else
    (g_X5_get n (gP s (gP s v0 6) 12) (gF s v0 0) v2 s).bind fun x3 =>
    (g_X3_know n v0 x3 s).bind fun x4 =>
    some (.inl ((v2 + (1 : Int32)), x4))
set_option maxHeartbeats 1000000 in
theorem t_X3_knowHypotheses_30 {tg r : Nat → Nat} {h hb : hp_H} {s sb : st_T} {n : Nat} {v0 : Nat} {v1 : Int32} {v2 : Int32} (I : iso tg r h s) (F : isf tg r hb h sb s) (T_v0 : tg v0 = 13) {res : (Int32 × st_T) ⊕ (st_T)} (hm : g_X3_knowHypotheses_30 n v0 v1 v2 s = some res) : ∃ h2, f_X3_knowHypotheses_30 n (r v0) v1 v2 h = some (eR_X3_knowHypotheses_30 res h2) ∧ iso tg r h2 (sR_X3_knowHypotheses_30 res) ∧ isf tg r hb h2 sb (sR_X3_knowHypotheses_30 res) := by
  unfold g_X3_knowHypotheses_30 at hm
  unfold f_X3_knowHypotheses_30
  by_cases c5 : v1 ≤ v2
  · rw [if_pos c5] at hm ⊢
    obtain rfl := Option.some.inj hm
    exact ⟨_, rfl, I, F⟩
  · rw [if_neg c5] at hm ⊢
    have T1 : tg (gP s v0 6) = 10 := t_tg (c := 3) I T_v0 (by decide) (by decide) rfl (by decide)
    refine tr_eq (t_fR I T_v0 (by decide) (by decide) (by decide)) ?_
    have T2 : tg (gP s (gP s v0 6) 12) = 15 := t_tg (c := 0) I T1 (by decide) (by decide) rfl (by decide)
    refine tr_eq (t_fR I T1 (by decide) (by decide) (by decide)) ?_
    refine tr_eq (t_fI I T_v0 (by decide) (by decide) rfl) ?_
    obtain ⟨x3, hx3, hm⟩ := hp_bd hm
    refine tr_eq (t_X5_get I T2 hx3) ?_
    obtain ⟨x4, hx4, hm⟩ := hp_bd hm
    obtain ⟨_, e2, I, F⟩ := t_X3_know I F T_v0 hx4
    refine tr_eq e2 ?_
    obtain rfl := Option.some.inj hm
    exact ⟨_, rfl, I, F⟩
def gL_X3_knowHypotheses_30 (n : Nat) (v0 : Nat) (v1 : Int32) (c : Int32 × st_T) : Option ((Int32 × st_T) ⊕ (st_T)) := g_X3_knowHypotheses_30 n v0 v1 c.1 c.2
theorem tl_X3_knowHypotheses_30 {tg r : Nat → Nat} {hb : hp_H} {sb : st_T} {n : Nat} {v0 : Nat} {v1 : Int32} (T_v0 : tg v0 = 13) : ∀ (k : Nat) (c0 : Int32) (h : hp_H) (s : st_T) (x : st_T), iso tg r h s → isf tg r hb h sb s → hp_lp (gL_X3_knowHypotheses_30 n v0 v1) k (c0, s) = some x → ∃ h2, hp_lp (fL_X3_knowHypotheses_30 n (r v0) v1) k (c0, h) = some (eX_X3_knowHypotheses_30 x h2) ∧ iso tg r h2 (sX_X3_knowHypotheses_30 x) ∧ isf tg r hb h2 sb (sX_X3_knowHypotheses_30 x) := by
  intro k
  induction k with
  | zero => intro c0 h s x I F hx; exact (hp_lp_0 hx).elim
  | succ k ih =>
    intro c0 h s x I F hx
    obtain ⟨rr, hr, hc⟩ := hp_lp_1 hx
    obtain ⟨h2, e2, I2, F2⟩ := t_X3_knowHypotheses_30 I F T_v0 hr
    rcases hc with ⟨s3, e3, hx3⟩ | e3
    · subst e3
      obtain ⟨h3, e4, I3, F3⟩ := ih _ h2 _ x I2 F2 hx3
      exact ⟨h3, hp_lp_s e2 e4, I3, F3⟩
    · subst e3
      exact ⟨h2, hp_lp_x e2, I2, F2⟩
def g_X3_knowHypotheses_0 (n : Nat) (v0 : Nat) (s : st_T) : Option (st_T) :=
  (wF s v0 8 (0 : Int32)).bind fun w1 =>
  (g_J7_fill_031fb n (gP w1 v0 9) (0 : Int32) w1).bind fun x3 =>
  (g_X5_size n (gP x3 (gP x3 v0 6) 12) (gF x3 v0 0) x3).bind fun x6 =>
  (hp_lp (gL_X3_knowHypotheses_30 n v0 x6) n ((0 : Int32), x3)).bind fun x7 =>
  some x7
set_option maxHeartbeats 1000000 in
theorem t_X3_knowHypotheses_0 {tg r : Nat → Nat} {h hb : hp_H} {s sb : st_T} {n : Nat} {v0 : Nat} (I : iso tg r h s) (F : isf tg r hb h sb s) (T_v0 : tg v0 = 13) {res : st_T} (hm : g_X3_knowHypotheses_0 n v0 s = some res) : ∃ h2, f_X3_knowHypotheses_0 n (r v0) h = some (h2) ∧ iso tg r h2 res ∧ isf tg r hb h2 sb res := by
  unfold g_X3_knowHypotheses_0 at hm
  unfold f_X3_knowHypotheses_0
  obtain ⟨w1, hw1, hm⟩ := hp_bd hm
  obtain ⟨_, e2, I, F⟩ := t_wF (c := 3) (k := 8) I F T_v0 (by decide) (by decide) rfl hw1
  refine tr_eq e2 ?_
  have T2 : tg (gP w1 v0 9) = 1 := t_tg (c := 3) I T_v0 (by decide) (by decide) rfl (by decide)
  refine tr_eq (t_fR I T_v0 (by decide) (by decide) (by decide)) ?_
  obtain ⟨x3, hx3, hm⟩ := hp_bd hm
  obtain ⟨_, e2, I, F⟩ := t_J7_fill_031fb I F T2 hx3
  refine tr_eq e2 ?_
  have T4 : tg (gP x3 v0 6) = 10 := t_tg (c := 3) I T_v0 (by decide) (by decide) rfl (by decide)
  refine tr_eq (t_fR I T_v0 (by decide) (by decide) (by decide)) ?_
  have T5 : tg (gP x3 (gP x3 v0 6) 12) = 15 := t_tg (c := 0) I T4 (by decide) (by decide) rfl (by decide)
  refine tr_eq (t_fR I T4 (by decide) (by decide) (by decide)) ?_
  refine tr_eq (t_fI I T_v0 (by decide) (by decide) rfl) ?_
  obtain ⟨x6, hx6, hm⟩ := hp_bd hm
  refine tr_eq (t_X5_size I T5 hx6) ?_
  obtain ⟨x7, hx7, hm⟩ := hp_bd hm
  obtain ⟨_, e2, I, F⟩ := tl_X3_knowHypotheses_30 T_v0 n _ _ _ _ I F hx7
  refine tr_eq e2 ?_
  try dsimp only [eX_X3_knowHypotheses_30]
  replace I : iso tg _ _ x7 := I
  replace F : isf tg _ _ _ _ x7 := F
  obtain rfl := Option.some.inj hm
  exact ⟨_, rfl, I, F⟩
def g_X3_knowHypotheses (n : Nat) (v0 : Nat) (s : st_T) : Option (st_T) := g_X3_knowHypotheses_0 n v0 s
theorem t_X3_knowHypotheses {tg r : Nat → Nat} {h hb : hp_H} {s sb : st_T} {n : Nat} {v0 : Nat} (I : iso tg r h s) (F : isf tg r hb h sb s) (T_v0 : tg v0 = 13) {res : st_T} (hm : g_X3_knowHypotheses n v0 s = some res) : ∃ h2, f_X3_knowHypotheses n (r v0) h = some (h2) ∧ iso tg r h2 res ∧ isf tg r hb h2 sb res := by
  unfold g_X3_knowHypotheses at hm
  unfold f_X3_knowHypotheses
  refine tr_eq (t_ck I T_v0 (by decide)) ?_
  exact t_X3_knowHypotheses_0 I F T_v0 hm
def g_X3_mayName_41 (n : Nat) (s : st_T) : Option (Int32) :=
  some (1 : Int32)
set_option maxHeartbeats 1000000 in
theorem t_X3_mayName_41 {tg r : Nat → Nat} {h : hp_H} {s : st_T} {n : Nat} (I : iso tg r h s) {res : Int32} (hm : g_X3_mayName_41 n  s = some res) : f_X3_mayName_41 n  h = some res := by
  unfold g_X3_mayName_41 at hm
  unfold f_X3_mayName_41
  obtain rfl := Option.some.inj hm
  rfl
def g_X3_mayName_0 (n : Nat) (v0 : Nat) (v1 : Int32) (s : st_T) : Option (Int32) :=
  if v1 < 0 then
    some (0 : Int32)
  else
    if (gF s v0 0) ≤ v1 then
      some (0 : Int32)
    else
      (gA s (gP s (gP s v0 6) 6) v1).bind fun x3 =>
      if (2 : Int32) ≤ x3 then
        g_X3_mayName_41 n  s
      else
        (gA s (gP s (gP s v0 6) 8) v1).bind fun x6 =>
        if x6 ≤ (gF s v0 0) then
          some (0 : Int32)
        else
          g_X3_mayName_41 n  s
set_option maxHeartbeats 1000000 in
theorem t_X3_mayName_0 {tg r : Nat → Nat} {h : hp_H} {s : st_T} {n : Nat} {v0 : Nat} {v1 : Int32} (I : iso tg r h s) (T_v0 : tg v0 = 13) {res : Int32} (hm : g_X3_mayName_0 n v0 v1 s = some res) : f_X3_mayName_0 n (r v0) v1 h = some res := by
  unfold g_X3_mayName_0 at hm
  unfold f_X3_mayName_0
  by_cases c10 : v1 < 0
  · rw [if_pos c10] at hm ⊢
    obtain rfl := Option.some.inj hm
    rfl
  · rw [if_neg c10] at hm ⊢
    refine tr_eq0 (t_fI I T_v0 (by decide) (by decide) rfl) ?_
    by_cases c9 : (gF s v0 0) ≤ v1
    · rw [if_pos c9] at hm ⊢
      obtain rfl := Option.some.inj hm
      rfl
    · rw [if_neg c9] at hm ⊢
      have T1 : tg (gP s v0 6) = 10 := t_tg (c := 3) I T_v0 (by decide) (by decide) rfl (by decide)
      refine tr_eq0 (t_fR I T_v0 (by decide) (by decide) (by decide)) ?_
      have T2 : tg (gP s (gP s v0 6) 6) = 0 := t_tg (c := 0) I T1 (by decide) (by decide) rfl (by decide)
      refine tr_eq0 (t_fR I T1 (by decide) (by decide) (by decide)) ?_
      obtain ⟨x3, hx3, hm⟩ := hp_bd hm
      refine tr_eq0 (t_aI I T2 (by decide) rfl hx3) ?_
      by_cases c8 : (2 : Int32) ≤ x3
      · rw [if_pos c8] at hm ⊢
        exact t_X3_mayName_41 I  hm
      · rw [if_neg c8] at hm ⊢
        refine tr_eq0 (t_fI I T_v0 (by decide) (by decide) rfl) ?_
        have T4 : tg (gP s v0 6) = 10 := t_tg (c := 3) I T_v0 (by decide) (by decide) rfl (by decide)
        refine tr_eq0 (t_fR I T_v0 (by decide) (by decide) (by decide)) ?_
        have T5 : tg (gP s (gP s v0 6) 8) = 0 := t_tg (c := 0) I T4 (by decide) (by decide) rfl (by decide)
        refine tr_eq0 (t_fR I T4 (by decide) (by decide) (by decide)) ?_
        obtain ⟨x6, hx6, hm⟩ := hp_bd hm
        refine tr_eq0 (t_aI I T5 (by decide) rfl hx6) ?_
        by_cases c7 : x6 ≤ (gF s v0 0)
        · rw [if_pos c7] at hm ⊢
          obtain rfl := Option.some.inj hm
          rfl
        · rw [if_neg c7] at hm ⊢
          exact t_X3_mayName_41 I  hm
def g_X3_mayName (n : Nat) (v0 : Nat) (v1 : Int32) (s : st_T) : Option (Int32) := g_X3_mayName_0 n v0 v1 s
theorem t_X3_mayName {tg r : Nat → Nat} {h : hp_H} {s : st_T} {n : Nat} {v0 : Nat} {v1 : Int32} (I : iso tg r h s) (T_v0 : tg v0 = 13) {res : Int32} (hm : g_X3_mayName n v0 v1 s = some res) : f_X3_mayName n (r v0) v1 h = some res := by
  unfold g_X3_mayName at hm
  unfold f_X3_mayName
  refine tr_eq0 (t_ck I T_v0 (by decide)) ?_
  exact t_X3_mayName_0 I T_v0 hm
def g_X3_fail_0 (n : Nat) (v0 : Nat) (v1 : Int32) (v2 : Int32) (s : st_T) : Option (Int32 × st_T) :=
  (wF s v0 2 v2).bind fun w1 =>
  some (v1, w1)
set_option maxHeartbeats 1000000 in
theorem t_X3_fail_0 {tg r : Nat → Nat} {h hb : hp_H} {s sb : st_T} {n : Nat} {v0 : Nat} {v1 : Int32} {v2 : Int32} (I : iso tg r h s) (F : isf tg r hb h sb s) (T_v0 : tg v0 = 13) {res : Int32 × st_T} (hm : g_X3_fail_0 n v0 v1 v2 s = some res) : ∃ h2, f_X3_fail_0 n (r v0) v1 v2 h = some ((res.1, h2)) ∧ iso tg r h2 res.2 ∧ isf tg r hb h2 sb res.2 := by
  unfold g_X3_fail_0 at hm
  unfold f_X3_fail_0
  obtain ⟨w1, hw1, hm⟩ := hp_bd hm
  obtain ⟨_, e2, I, F⟩ := t_wF (c := 3) (k := 2) I F T_v0 (by decide) (by decide) rfl hw1
  refine tr_eq e2 ?_
  obtain rfl := Option.some.inj hm
  exact ⟨_, rfl, I, F⟩
def g_X3_fail (n : Nat) (v0 : Nat) (v1 : Int32) (v2 : Int32) (s : st_T) : Option (Int32 × st_T) := g_X3_fail_0 n v0 v1 v2 s
theorem t_X3_fail {tg r : Nat → Nat} {h hb : hp_H} {s sb : st_T} {n : Nat} {v0 : Nat} {v1 : Int32} {v2 : Int32} (I : iso tg r h s) (F : isf tg r hb h sb s) (T_v0 : tg v0 = 13) {res : Int32 × st_T} (hm : g_X3_fail n v0 v1 v2 s = some res) : ∃ h2, f_X3_fail n (r v0) v1 v2 h = some ((res.1, h2)) ∧ iso tg r h2 res.2 ∧ isf tg r hb h2 sb res.2 := by
  unfold g_X3_fail at hm
  unfold f_X3_fail
  refine tr_eq (t_ck I T_v0 (by decide)) ?_
  exact t_X3_fail_0 I F T_v0 hm
abbrev eX_X3_decodeList_19 (x : (Int32 × st_T) ⊕ (st_T)) (h2 : hp_H) : (Int32 × hp_H) ⊕ (hp_H) := (Sum.elim (fun y => (.inl (y.1, h2))) (fun y => (.inr h2))) x
abbrev sX_X3_decodeList_19 (x : (Int32 × st_T) ⊕ (st_T)) : st_T := (Sum.elim (fun y => y.2) (fun y => y)) x
abbrev eR_X3_decodeList_19 (x : (Int32 × st_T) ⊕ ((Int32 × st_T) ⊕ (st_T))) (h2 : hp_H) : (Int32 × hp_H) ⊕ ((Int32 × hp_H) ⊕ (hp_H)) := Sum.elim (fun y => .inl (y.1, h2)) (fun y => .inr (eX_X3_decodeList_19 y h2)) x
abbrev sR_X3_decodeList_19 (x : (Int32 × st_T) ⊕ ((Int32 × st_T) ⊕ (st_T))) : st_T := Sum.elim (fun y => y.2) sX_X3_decodeList_19 x
def g_X3_decodeList_19 (n : Nat) (v0 : Nat) (v1 : Int32) (v2 : Int32) (s : st_T) : Option ((Int32 × st_T) ⊕ ((Int32 × st_T) ⊕ (st_T))) :=
  if v1 ≤ v2 then
    some (.inr (.inr s))
  else
    (g_X5_get n (gP s (gP s v0 6) 11) (gF s v0 0) v2 s).bind fun x3 =>
    (g_X3_mayName n v0 x3 s).bind fun x4 =>
    if x4 = 0 then
      some (.inr (.inl (v2, s)))
    else
      (gA s (gP s v0 9) x3).bind fun x6 =>
      if x6 = 0 then
        (g_X3_know n v0 x3 s).bind fun x7 =>
        some (.inl ((v2 + (1 : Int32)), x7))
      else
        some (.inr (.inl (v2, s)))
set_option maxHeartbeats 1000000 in
theorem t_X3_decodeList_19 {tg r : Nat → Nat} {h hb : hp_H} {s sb : st_T} {n : Nat} {v0 : Nat} {v1 : Int32} {v2 : Int32} (I : iso tg r h s) (F : isf tg r hb h sb s) (T_v0 : tg v0 = 13) {res : (Int32 × st_T) ⊕ ((Int32 × st_T) ⊕ (st_T))} (hm : g_X3_decodeList_19 n v0 v1 v2 s = some res) : ∃ h2, f_X3_decodeList_19 n (r v0) v1 v2 h = some (eR_X3_decodeList_19 res h2) ∧ iso tg r h2 (sR_X3_decodeList_19 res) ∧ isf tg r hb h2 sb (sR_X3_decodeList_19 res) := by
  unfold g_X3_decodeList_19 at hm
  unfold f_X3_decodeList_19
  by_cases c10 : v1 ≤ v2
  · rw [if_pos c10] at hm ⊢
    obtain rfl := Option.some.inj hm
    exact ⟨_, rfl, I, F⟩
  · rw [if_neg c10] at hm ⊢
    have T1 : tg (gP s v0 6) = 10 := t_tg (c := 3) I T_v0 (by decide) (by decide) rfl (by decide)
    refine tr_eq (t_fR I T_v0 (by decide) (by decide) (by decide)) ?_
    have T2 : tg (gP s (gP s v0 6) 11) = 15 := t_tg (c := 0) I T1 (by decide) (by decide) rfl (by decide)
    refine tr_eq (t_fR I T1 (by decide) (by decide) (by decide)) ?_
    refine tr_eq (t_fI I T_v0 (by decide) (by decide) rfl) ?_
    obtain ⟨x3, hx3, hm⟩ := hp_bd hm
    refine tr_eq (t_X5_get I T2 hx3) ?_
    obtain ⟨x4, hx4, hm⟩ := hp_bd hm
    refine tr_eq (t_X3_mayName I T_v0 hx4) ?_
    by_cases c9 : x4 = 0
    · rw [if_pos c9] at hm ⊢
      obtain rfl := Option.some.inj hm
      exact ⟨_, rfl, I, F⟩
    · rw [if_neg c9] at hm ⊢
      have T5 : tg (gP s v0 9) = 1 := t_tg (c := 3) I T_v0 (by decide) (by decide) rfl (by decide)
      refine tr_eq (t_fR I T_v0 (by decide) (by decide) (by decide)) ?_
      obtain ⟨x6, hx6, hm⟩ := hp_bd hm
      refine tr_eq (t_aI I T5 (by decide) rfl hx6) ?_
      by_cases c8 : x6 = 0
      · rw [if_pos c8] at hm ⊢
        obtain ⟨x7, hx7, hm⟩ := hp_bd hm
        obtain ⟨_, e2, I, F⟩ := t_X3_know I F T_v0 hx7
        refine tr_eq e2 ?_
        obtain rfl := Option.some.inj hm
        exact ⟨_, rfl, I, F⟩
      · rw [if_neg c8] at hm ⊢
        obtain rfl := Option.some.inj hm
        exact ⟨_, rfl, I, F⟩
def gL_X3_decodeList_19 (n : Nat) (v0 : Nat) (v1 : Int32) (c : Int32 × st_T) : Option ((Int32 × st_T) ⊕ ((Int32 × st_T) ⊕ (st_T))) := g_X3_decodeList_19 n v0 v1 c.1 c.2
theorem tl_X3_decodeList_19 {tg r : Nat → Nat} {hb : hp_H} {sb : st_T} {n : Nat} {v0 : Nat} {v1 : Int32} (T_v0 : tg v0 = 13) : ∀ (k : Nat) (c0 : Int32) (h : hp_H) (s : st_T) (x : (Int32 × st_T) ⊕ (st_T)), iso tg r h s → isf tg r hb h sb s → hp_lp (gL_X3_decodeList_19 n v0 v1) k (c0, s) = some x → ∃ h2, hp_lp (fL_X3_decodeList_19 n (r v0) v1) k (c0, h) = some (eX_X3_decodeList_19 x h2) ∧ iso tg r h2 (sX_X3_decodeList_19 x) ∧ isf tg r hb h2 sb (sX_X3_decodeList_19 x) := by
  intro k
  induction k with
  | zero => intro c0 h s x I F hx; exact (hp_lp_0 hx).elim
  | succ k ih =>
    intro c0 h s x I F hx
    obtain ⟨rr, hr, hc⟩ := hp_lp_1 hx
    obtain ⟨h2, e2, I2, F2⟩ := t_X3_decodeList_19 I F T_v0 hr
    rcases hc with ⟨s3, e3, hx3⟩ | e3
    · subst e3
      obtain ⟨h3, e4, I3, F3⟩ := ih _ h2 _ x I2 F2 hx3
      exact ⟨h3, hp_lp_s e2 e4, I3, F3⟩
    · subst e3
      exact ⟨h2, hp_lp_x e2, I2, F2⟩
def g_X3_decodeList_57 (n : Nat) (v0 : Nat) (v2 : Int32) (s : st_T) : Option (Int32 × st_T) :=
  (g_X3_fail n v0 (-2 : Int32) v2 s).bind fun x1 =>
  some (x1.1, x1.2)
set_option maxHeartbeats 1000000 in
theorem t_X3_decodeList_57 {tg r : Nat → Nat} {h hb : hp_H} {s sb : st_T} {n : Nat} {v0 : Nat} {v2 : Int32} (I : iso tg r h s) (F : isf tg r hb h sb s) (T_v0 : tg v0 = 13) {res : Int32 × st_T} (hm : g_X3_decodeList_57 n v0 v2 s = some res) : ∃ h2, f_X3_decodeList_57 n (r v0) v2 h = some ((res.1, h2)) ∧ iso tg r h2 res.2 ∧ isf tg r hb h2 sb res.2 := by
  unfold g_X3_decodeList_57 at hm
  unfold f_X3_decodeList_57
  obtain ⟨x1, hx1, hm⟩ := hp_bd hm
  obtain ⟨_, e2, I, F⟩ := t_X3_fail I F T_v0 hx1
  refine tr_eq e2 ?_
  try dsimp only
  obtain rfl := Option.some.inj hm
  exact ⟨_, rfl, I, F⟩
def g_X3_decodeList_0 (n : Nat) (v0 : Nat) (s : st_T) : Option (Int32 × st_T) :=
  (g_X3_knowHypotheses n v0 s).bind fun x1 =>
  (gA x1 (gP x1 (gP x1 v0 6) 16) (gF x1 v0 0)).bind fun x4 =>
  (hp_lp (gL_X3_decodeList_19 n v0 x4) n ((1 : Int32), x1)).bind fun x5 =>
  Sum.elim (fun y6 =>
    g_X3_decodeList_57 n v0 y6.1 y6.2) (fun y7 =>
    (g_X5_size n (gP y7 (gP y7 v0 6) 10) (gF y7 v0 0) y7).bind fun x10 =>
    if x4 = x10 then
      (g_X3_fail n v0 (-3 : Int32) x4 y7).bind fun x11 =>
      some (x11.1, x11.2)
    else
      some ((0 : Int32), y7)) x5
set_option maxHeartbeats 1000000 in
theorem t_X3_decodeList_0 {tg r : Nat → Nat} {h hb : hp_H} {s sb : st_T} {n : Nat} {v0 : Nat} (I : iso tg r h s) (F : isf tg r hb h sb s) (T_v0 : tg v0 = 13) {res : Int32 × st_T} (hm : g_X3_decodeList_0 n v0 s = some res) : ∃ h2, f_X3_decodeList_0 n (r v0) h = some ((res.1, h2)) ∧ iso tg r h2 res.2 ∧ isf tg r hb h2 sb res.2 := by
  unfold g_X3_decodeList_0 at hm
  unfold f_X3_decodeList_0
  obtain ⟨x1, hx1, hm⟩ := hp_bd hm
  obtain ⟨_, e2, I, F⟩ := t_X3_knowHypotheses I F T_v0 hx1
  refine tr_eq e2 ?_
  have T2 : tg (gP x1 v0 6) = 10 := t_tg (c := 3) I T_v0 (by decide) (by decide) rfl (by decide)
  refine tr_eq (t_fR I T_v0 (by decide) (by decide) (by decide)) ?_
  have T3 : tg (gP x1 (gP x1 v0 6) 16) = 0 := t_tg (c := 0) I T2 (by decide) (by decide) rfl (by decide)
  refine tr_eq (t_fR I T2 (by decide) (by decide) (by decide)) ?_
  refine tr_eq (t_fI I T_v0 (by decide) (by decide) rfl) ?_
  obtain ⟨x4, hx4, hm⟩ := hp_bd hm
  refine tr_eq (t_aI I T3 (by decide) rfl hx4) ?_
  obtain ⟨x5, hx5, hm⟩ := hp_bd hm
  obtain ⟨_, e2, I, F⟩ := tl_X3_decodeList_19 T_v0 n _ _ _ _ I F hx5
  refine tr_eq e2 ?_
  rcases x5 with y6 | y7
  · simp only [eX_X3_decodeList_19, Sum.elim_inl, Sum.elim_inr] at hm ⊢
    replace I : iso tg _ _ y6.2 := I
    replace F : isf tg _ _ _ _ y6.2 := F
    exact t_X3_decodeList_57 I F T_v0 hm
  · simp only [eX_X3_decodeList_19, Sum.elim_inl, Sum.elim_inr] at hm ⊢
    replace I : iso tg _ _ y7 := I
    replace F : isf tg _ _ _ _ y7 := F
    have T8 : tg (gP y7 v0 6) = 10 := t_tg (c := 3) I T_v0 (by decide) (by decide) rfl (by decide)
    refine tr_eq (t_fR I T_v0 (by decide) (by decide) (by decide)) ?_
    have T9 : tg (gP y7 (gP y7 v0 6) 10) = 15 := t_tg (c := 0) I T8 (by decide) (by decide) rfl (by decide)
    refine tr_eq (t_fR I T8 (by decide) (by decide) (by decide)) ?_
    refine tr_eq (t_fI I T_v0 (by decide) (by decide) rfl) ?_
    obtain ⟨x10, hx10, hm⟩ := hp_bd hm
    refine tr_eq (t_X5_size I T9 hx10) ?_
    by_cases c12 : x4 = x10
    · rw [if_pos c12] at hm ⊢
      obtain ⟨x11, hx11, hm⟩ := hp_bd hm
      obtain ⟨_, e2, I, F⟩ := t_X3_fail I F T_v0 hx11
      refine tr_eq e2 ?_
      try dsimp only
      obtain rfl := Option.some.inj hm
      exact ⟨_, rfl, I, F⟩
    · rw [if_neg c12] at hm ⊢
      obtain rfl := Option.some.inj hm
      exact ⟨_, rfl, I, F⟩
def g_X3_decodeList (n : Nat) (v0 : Nat) (s : st_T) : Option (Int32 × st_T) := g_X3_decodeList_0 n v0 s
theorem t_X3_decodeList {tg r : Nat → Nat} {h hb : hp_H} {s sb : st_T} {n : Nat} {v0 : Nat} (I : iso tg r h s) (F : isf tg r hb h sb s) (T_v0 : tg v0 = 13) {res : Int32 × st_T} (hm : g_X3_decodeList n v0 s = some res) : ∃ h2, f_X3_decodeList n (r v0) h = some ((res.1, h2)) ∧ iso tg r h2 res.2 ∧ isf tg r hb h2 sb res.2 := by
  unfold g_X3_decodeList at hm
  unfold f_X3_decodeList
  refine tr_eq (t_ck I T_v0 (by decide)) ?_
  exact t_X3_decodeList_0 I F T_v0 hm
def g_X3_addStep_0 (n : Nat) (v0 : Nat) (v1 : Int32) (s : st_T) : Option (st_T) :=
  (uA 0 s (gP s v0 3) (gF s v0 1) v1).bind fun w2 =>
  (uA 1 w2 (gP w2 v0 4) (gF w2 v0 1) (0 : Int32)).bind fun w4 =>
  (wF w4 v0 1 ((gF w4 v0 1) + (1 : Int32))).bind fun w5 =>
  some w5
set_option maxHeartbeats 1000000 in
theorem t_X3_addStep_0 {tg r : Nat → Nat} {h hb : hp_H} {s sb : st_T} {n : Nat} {v0 : Nat} {v1 : Int32} (I : iso tg r h s) (F : isf tg r hb h sb s) (T_v0 : tg v0 = 13) {res : st_T} (hm : g_X3_addStep_0 n v0 v1 s = some res) : ∃ h2, f_X3_addStep_0 n (r v0) v1 h = some (h2) ∧ iso tg r h2 res ∧ isf tg r hb h2 sb res := by
  unfold g_X3_addStep_0 at hm
  unfold f_X3_addStep_0
  have T1 : tg (gP s v0 3) = 0 := t_tg (c := 3) I T_v0 (by decide) (by decide) rfl (by decide)
  refine tr_eq (t_fR I T_v0 (by decide) (by decide) (by decide)) ?_
  refine tr_eq (t_fI I T_v0 (by decide) (by decide) rfl) ?_
  obtain ⟨w2, hw2, hm⟩ := hp_bd hm
  obtain ⟨_, e2, I, F⟩ := t_sI I F T1 (by decide) rfl hw2
  refine tr_eq e2 ?_
  have T3 : tg (gP w2 v0 4) = 1 := t_tg (c := 3) I T_v0 (by decide) (by decide) rfl (by decide)
  refine tr_eq (t_fR I T_v0 (by decide) (by decide) (by decide)) ?_
  refine tr_eq (t_fI I T_v0 (by decide) (by decide) rfl) ?_
  obtain ⟨w4, hw4, hm⟩ := hp_bd hm
  obtain ⟨_, e2, I, F⟩ := t_sI I F T3 (by decide) rfl hw4
  refine tr_eq e2 ?_
  refine tr_eq (t_fI I T_v0 (by decide) (by decide) rfl) ?_
  obtain ⟨w5, hw5, hm⟩ := hp_bd hm
  obtain ⟨_, e2, I, F⟩ := t_wF (c := 3) (k := 1) I F T_v0 (by decide) (by decide) rfl hw5
  refine tr_eq e2 ?_
  obtain rfl := Option.some.inj hm
  exact ⟨_, rfl, I, F⟩
def g_X3_addStep (n : Nat) (v0 : Nat) (v1 : Int32) (s : st_T) : Option (st_T) := g_X3_addStep_0 n v0 v1 s
theorem t_X3_addStep {tg r : Nat → Nat} {h hb : hp_H} {s sb : st_T} {n : Nat} {v0 : Nat} {v1 : Int32} (I : iso tg r h s) (F : isf tg r hb h sb s) (T_v0 : tg v0 = 13) {res : st_T} (hm : g_X3_addStep n v0 v1 s = some res) : ∃ h2, f_X3_addStep n (r v0) v1 h = some (h2) ∧ iso tg r h2 res ∧ isf tg r hb h2 sb res := by
  unfold g_X3_addStep at hm
  unfold f_X3_addStep
  refine tr_eq (t_ck I T_v0 (by decide)) ?_
  exact t_X3_addStep_0 I F T_v0 hm
abbrev eX_X3_decodeLabels_17 (x : (Int32 × st_T) ⊕ (Int32 × st_T)) (h2 : hp_H) : (Int32 × hp_H) ⊕ (Int32 × hp_H) := (Sum.elim (fun y => (.inl (y.1, h2))) (fun y => (.inr (y.1, h2)))) x
abbrev sX_X3_decodeLabels_17 (x : (Int32 × st_T) ⊕ (Int32 × st_T)) : st_T := (Sum.elim (fun y => y.2) (fun y => y.2)) x
abbrev eR_X3_decodeLabels_17 (x : (Int32 × st_T) ⊕ ((Int32 × st_T) ⊕ (Int32 × st_T))) (h2 : hp_H) : (Int32 × hp_H) ⊕ ((Int32 × hp_H) ⊕ (Int32 × hp_H)) := Sum.elim (fun y => .inl (y.1, h2)) (fun y => .inr (eX_X3_decodeLabels_17 y h2)) x
abbrev sR_X3_decodeLabels_17 (x : (Int32 × st_T) ⊕ ((Int32 × st_T) ⊕ (Int32 × st_T))) : st_T := Sum.elim (fun y => y.2) sX_X3_decodeLabels_17 x
def g_X3_decodeLabels_17 (n : Nat) (v0 : Nat) (v1 : Int32) (v2 : Int32) (s : st_T) : Option ((Int32 × st_T) ⊕ ((Int32 × st_T) ⊕ (Int32 × st_T))) :=
  if v1 ≤ v2 then
    some (.inr (.inr ((0 : Int32), s)))
  else
    (g_X5_get n (gP s (gP s v0 6) 11) (gF s v0 0) v2 s).bind fun x3 =>
    (g_X3_mayName n v0 x3 s).bind fun x4 =>
    if x4 = 0 then
      some (.inr (.inl (v2, s)))
    else
      (g_X3_addStep n v0 x3 s).bind fun x5 =>
      some (.inl ((v2 + (1 : Int32)), x5))
set_option maxHeartbeats 1000000 in
theorem t_X3_decodeLabels_17 {tg r : Nat → Nat} {h hb : hp_H} {s sb : st_T} {n : Nat} {v0 : Nat} {v1 : Int32} {v2 : Int32} (I : iso tg r h s) (F : isf tg r hb h sb s) (T_v0 : tg v0 = 13) {res : (Int32 × st_T) ⊕ ((Int32 × st_T) ⊕ (Int32 × st_T))} (hm : g_X3_decodeLabels_17 n v0 v1 v2 s = some res) : ∃ h2, f_X3_decodeLabels_17 n (r v0) v1 v2 h = some (eR_X3_decodeLabels_17 res h2) ∧ iso tg r h2 (sR_X3_decodeLabels_17 res) ∧ isf tg r hb h2 sb (sR_X3_decodeLabels_17 res) := by
  unfold g_X3_decodeLabels_17 at hm
  unfold f_X3_decodeLabels_17
  by_cases c7 : v1 ≤ v2
  · rw [if_pos c7] at hm ⊢
    obtain rfl := Option.some.inj hm
    exact ⟨_, rfl, I, F⟩
  · rw [if_neg c7] at hm ⊢
    have T1 : tg (gP s v0 6) = 10 := t_tg (c := 3) I T_v0 (by decide) (by decide) rfl (by decide)
    refine tr_eq (t_fR I T_v0 (by decide) (by decide) (by decide)) ?_
    have T2 : tg (gP s (gP s v0 6) 11) = 15 := t_tg (c := 0) I T1 (by decide) (by decide) rfl (by decide)
    refine tr_eq (t_fR I T1 (by decide) (by decide) (by decide)) ?_
    refine tr_eq (t_fI I T_v0 (by decide) (by decide) rfl) ?_
    obtain ⟨x3, hx3, hm⟩ := hp_bd hm
    refine tr_eq (t_X5_get I T2 hx3) ?_
    obtain ⟨x4, hx4, hm⟩ := hp_bd hm
    refine tr_eq (t_X3_mayName I T_v0 hx4) ?_
    by_cases c6 : x4 = 0
    · rw [if_pos c6] at hm ⊢
      obtain rfl := Option.some.inj hm
      exact ⟨_, rfl, I, F⟩
    · rw [if_neg c6] at hm ⊢
      obtain ⟨x5, hx5, hm⟩ := hp_bd hm
      obtain ⟨_, e2, I, F⟩ := t_X3_addStep I F T_v0 hx5
      refine tr_eq e2 ?_
      obtain rfl := Option.some.inj hm
      exact ⟨_, rfl, I, F⟩
def gL_X3_decodeLabels_17 (n : Nat) (v0 : Nat) (v1 : Int32) (c : Int32 × st_T) : Option ((Int32 × st_T) ⊕ ((Int32 × st_T) ⊕ (Int32 × st_T))) := g_X3_decodeLabels_17 n v0 v1 c.1 c.2
theorem tl_X3_decodeLabels_17 {tg r : Nat → Nat} {hb : hp_H} {sb : st_T} {n : Nat} {v0 : Nat} {v1 : Int32} (T_v0 : tg v0 = 13) : ∀ (k : Nat) (c0 : Int32) (h : hp_H) (s : st_T) (x : (Int32 × st_T) ⊕ (Int32 × st_T)), iso tg r h s → isf tg r hb h sb s → hp_lp (gL_X3_decodeLabels_17 n v0 v1) k (c0, s) = some x → ∃ h2, hp_lp (fL_X3_decodeLabels_17 n (r v0) v1) k (c0, h) = some (eX_X3_decodeLabels_17 x h2) ∧ iso tg r h2 (sX_X3_decodeLabels_17 x) ∧ isf tg r hb h2 sb (sX_X3_decodeLabels_17 x) := by
  intro k
  induction k with
  | zero => intro c0 h s x I F hx; exact (hp_lp_0 hx).elim
  | succ k ih =>
    intro c0 h s x I F hx
    obtain ⟨rr, hr, hc⟩ := hp_lp_1 hx
    obtain ⟨h2, e2, I2, F2⟩ := t_X3_decodeLabels_17 I F T_v0 hr
    rcases hc with ⟨s3, e3, hx3⟩ | e3
    · subst e3
      obtain ⟨h3, e4, I3, F3⟩ := ih _ h2 _ x I2 F2 hx3
      exact ⟨h3, hp_lp_s e2 e4, I3, F3⟩
    · subst e3
      exact ⟨h2, hp_lp_x e2, I2, F2⟩
def g_X3_decodeLabels_0 (n : Nat) (v0 : Nat) (s : st_T) : Option (Int32 × st_T) :=
  (g_X5_size n (gP s (gP s v0 6) 10) (gF s v0 0) s).bind fun x3 =>
  (hp_lp (gL_X3_decodeLabels_17 n v0 x3) n ((0 : Int32), s)).bind fun x4 =>
  Sum.elim (fun y5 =>
    (g_X3_fail n v0 (-2 : Int32) y5.1 y5.2).bind fun x7 =>
    some (x7.1, x7.2)) (fun y6 =>
    some (y6.1, y6.2)) x4
set_option maxHeartbeats 1000000 in
theorem t_X3_decodeLabels_0 {tg r : Nat → Nat} {h hb : hp_H} {s sb : st_T} {n : Nat} {v0 : Nat} (I : iso tg r h s) (F : isf tg r hb h sb s) (T_v0 : tg v0 = 13) {res : Int32 × st_T} (hm : g_X3_decodeLabels_0 n v0 s = some res) : ∃ h2, f_X3_decodeLabels_0 n (r v0) h = some ((res.1, h2)) ∧ iso tg r h2 res.2 ∧ isf tg r hb h2 sb res.2 := by
  unfold g_X3_decodeLabels_0 at hm
  unfold f_X3_decodeLabels_0
  have T1 : tg (gP s v0 6) = 10 := t_tg (c := 3) I T_v0 (by decide) (by decide) rfl (by decide)
  refine tr_eq (t_fR I T_v0 (by decide) (by decide) (by decide)) ?_
  have T2 : tg (gP s (gP s v0 6) 10) = 15 := t_tg (c := 0) I T1 (by decide) (by decide) rfl (by decide)
  refine tr_eq (t_fR I T1 (by decide) (by decide) (by decide)) ?_
  refine tr_eq (t_fI I T_v0 (by decide) (by decide) rfl) ?_
  obtain ⟨x3, hx3, hm⟩ := hp_bd hm
  refine tr_eq (t_X5_size I T2 hx3) ?_
  obtain ⟨x4, hx4, hm⟩ := hp_bd hm
  obtain ⟨_, e2, I, F⟩ := tl_X3_decodeLabels_17 T_v0 n _ _ _ _ I F hx4
  refine tr_eq e2 ?_
  rcases x4 with y5 | y6
  · simp only [eX_X3_decodeLabels_17, Sum.elim_inl, Sum.elim_inr] at hm ⊢
    replace I : iso tg _ _ y5.2 := I
    replace F : isf tg _ _ _ _ y5.2 := F
    obtain ⟨x7, hx7, hm⟩ := hp_bd hm
    obtain ⟨_, e2, I, F⟩ := t_X3_fail I F T_v0 hx7
    refine tr_eq e2 ?_
    try dsimp only
    obtain rfl := Option.some.inj hm
    exact ⟨_, rfl, I, F⟩
  · simp only [eX_X3_decodeLabels_17, Sum.elim_inl, Sum.elim_inr] at hm ⊢
    replace I : iso tg _ _ y6.2 := I
    replace F : isf tg _ _ _ _ y6.2 := F
    obtain rfl := Option.some.inj hm
    exact ⟨_, rfl, I, F⟩
def g_X3_decodeLabels (n : Nat) (v0 : Nat) (s : st_T) : Option (Int32 × st_T) := g_X3_decodeLabels_0 n v0 s
theorem t_X3_decodeLabels {tg r : Nat → Nat} {h hb : hp_H} {s sb : st_T} {n : Nat} {v0 : Nat} (I : iso tg r h s) (F : isf tg r hb h sb s) (T_v0 : tg v0 = 13) {res : Int32 × st_T} (hm : g_X3_decodeLabels n v0 s = some res) : ∃ h2, f_X3_decodeLabels n (r v0) h = some ((res.1, h2)) ∧ iso tg r h2 res.2 ∧ isf tg r hb h2 sb res.2 := by
  unfold g_X3_decodeLabels at hm
  unfold f_X3_decodeLabels
  refine tr_eq (t_ck I T_v0 (by decide)) ?_
  exact t_X3_decodeLabels_0 I F T_v0 hm
def g_X3_mark_0 (n : Nat) (v0 : Nat) (s : st_T) : Option (Int32 × st_T) :=
  if (gF s v0 12) = 0 then
    some ((-3 : Int32), s)
  else
    if (gF s v0 5) = (200 : Int32) then
      some ((-10 : Int32), s)
    else
      (uA 1 s (gP s v0 4) ((gF s v0 1) - (1 : Int32)) (1 : Int32)).bind fun w2 =>
      (wF w2 v0 5 ((gF w2 v0 5) + (1 : Int32))).bind fun w3 =>
      (wF w3 v0 12 (0 : Int32)).bind fun w4 =>
      some ((0 : Int32), w4)
set_option maxHeartbeats 1000000 in
theorem t_X3_mark_0 {tg r : Nat → Nat} {h hb : hp_H} {s sb : st_T} {n : Nat} {v0 : Nat} (I : iso tg r h s) (F : isf tg r hb h sb s) (T_v0 : tg v0 = 13) {res : Int32 × st_T} (hm : g_X3_mark_0 n v0 s = some res) : ∃ h2, f_X3_mark_0 n (r v0) h = some ((res.1, h2)) ∧ iso tg r h2 res.2 ∧ isf tg r hb h2 sb res.2 := by
  unfold g_X3_mark_0 at hm
  unfold f_X3_mark_0
  refine tr_eq (t_fI I T_v0 (by decide) (by decide) rfl) ?_
  by_cases c6 : (gF s v0 12) = 0
  · rw [if_pos c6] at hm ⊢
    obtain rfl := Option.some.inj hm
    exact ⟨_, rfl, I, F⟩
  · rw [if_neg c6] at hm ⊢
    refine tr_eq (t_fI I T_v0 (by decide) (by decide) rfl) ?_
    by_cases c5 : (gF s v0 5) = (200 : Int32)
    · rw [if_pos c5] at hm ⊢
      obtain rfl := Option.some.inj hm
      exact ⟨_, rfl, I, F⟩
    · rw [if_neg c5] at hm ⊢
      have T1 : tg (gP s v0 4) = 1 := t_tg (c := 3) I T_v0 (by decide) (by decide) rfl (by decide)
      refine tr_eq (t_fR I T_v0 (by decide) (by decide) (by decide)) ?_
      refine tr_eq (t_fI I T_v0 (by decide) (by decide) rfl) ?_
      obtain ⟨w2, hw2, hm⟩ := hp_bd hm
      obtain ⟨_, e2, I, F⟩ := t_sI I F T1 (by decide) rfl hw2
      refine tr_eq e2 ?_
      refine tr_eq (t_fI I T_v0 (by decide) (by decide) rfl) ?_
      obtain ⟨w3, hw3, hm⟩ := hp_bd hm
      obtain ⟨_, e2, I, F⟩ := t_wF (c := 3) (k := 5) I F T_v0 (by decide) (by decide) rfl hw3
      refine tr_eq e2 ?_
      obtain ⟨w4, hw4, hm⟩ := hp_bd hm
      obtain ⟨_, e2, I, F⟩ := t_wF (c := 3) (k := 12) I F T_v0 (by decide) (by decide) rfl hw4
      refine tr_eq e2 ?_
      obtain rfl := Option.some.inj hm
      exact ⟨_, rfl, I, F⟩
def g_X3_mark (n : Nat) (v0 : Nat) (s : st_T) : Option (Int32 × st_T) := g_X3_mark_0 n v0 s
theorem t_X3_mark {tg r : Nat → Nat} {h hb : hp_H} {s sb : st_T} {n : Nat} {v0 : Nat} (I : iso tg r h s) (F : isf tg r hb h sb s) (T_v0 : tg v0 = 13) {res : Int32 × st_T} (hm : g_X3_mark n v0 s = some res) : ∃ h2, f_X3_mark n (r v0) h = some ((res.1, h2)) ∧ iso tg r h2 res.2 ∧ isf tg r hb h2 sb res.2 := by
  unfold g_X3_mark at hm
  unfold f_X3_mark
  refine tr_eq (t_ck I T_v0 (by decide)) ?_
  exact t_X3_mark_0 I F T_v0 hm
def g_X3_takeNumber_55 (n : Nat) (s0 : Int32) (s1 : Nat) (s : st_T) : Option (Int32 × st_T) :=
  (g_X3_addStep n s1 s0 s).bind fun x1 =>
  some ((0 : Int32), x1)
set_option maxHeartbeats 1000000 in
theorem t_X3_takeNumber_55 {tg r : Nat → Nat} {h hb : hp_H} {s sb : st_T} {n : Nat} {s0 : Int32} {s1 : Nat} (I : iso tg r h s) (F : isf tg r hb h sb s) (T_s1 : tg s1 = 13) {res : Int32 × st_T} (hm : g_X3_takeNumber_55 n s0 s1 s = some res) : ∃ h2, f_X3_takeNumber_55 n s0 (r s1) h = some ((res.1, h2)) ∧ iso tg r h2 res.2 ∧ isf tg r hb h2 sb res.2 := by
  unfold g_X3_takeNumber_55 at hm
  unfold f_X3_takeNumber_55
  obtain ⟨x1, hx1, hm⟩ := hp_bd hm
  obtain ⟨_, e2, I, F⟩ := t_X3_addStep I F T_s1 hx1
  refine tr_eq e2 ?_
  obtain rfl := Option.some.inj hm
  exact ⟨_, rfl, I, F⟩
def g_X3_takeNumber_0 (n : Nat) (v0 : Nat) (v1 : Int32) (s : st_T) : Option (Int32 × st_T) :=
  if v1 ≤ ((gF s v0 8) + (gF s v0 5)) then
    if (gF s v0 1) = (1000 : Int32) then
      some ((-10 : Int32), s)
    else
      if (gF s v0 8) < v1 then
        g_X3_takeNumber_55 n ((gF s v0 8) - v1) v0 s
      else
        (gA s (gP s v0 7) (v1 - (1 : Int32))).bind fun x2 =>
        g_X3_takeNumber_55 n x2 v0 s
  else
    some ((-3 : Int32), s)
set_option maxHeartbeats 1000000 in
theorem t_X3_takeNumber_0 {tg r : Nat → Nat} {h hb : hp_H} {s sb : st_T} {n : Nat} {v0 : Nat} {v1 : Int32} (I : iso tg r h s) (F : isf tg r hb h sb s) (T_v0 : tg v0 = 13) {res : Int32 × st_T} (hm : g_X3_takeNumber_0 n v0 v1 s = some res) : ∃ h2, f_X3_takeNumber_0 n (r v0) v1 h = some ((res.1, h2)) ∧ iso tg r h2 res.2 ∧ isf tg r hb h2 sb res.2 := by
  unfold g_X3_takeNumber_0 at hm
  unfold f_X3_takeNumber_0
  refine tr_eq (t_fI I T_v0 (by decide) (by decide) rfl) ?_
  refine tr_eq (t_fI I T_v0 (by decide) (by decide) rfl) ?_
  by_cases c5 : v1 ≤ ((gF s v0 8) + (gF s v0 5))
  · rw [if_pos c5] at hm ⊢
    refine tr_eq (t_fI I T_v0 (by decide) (by decide) rfl) ?_
    by_cases c4 : (gF s v0 1) = (1000 : Int32)
    · rw [if_pos c4] at hm ⊢
      obtain rfl := Option.some.inj hm
      exact ⟨_, rfl, I, F⟩
    · rw [if_neg c4] at hm ⊢
      refine tr_eq (t_fI I T_v0 (by decide) (by decide) rfl) ?_
      by_cases c3 : (gF s v0 8) < v1
      · rw [if_pos c3] at hm ⊢
        refine tr_eq (t_fI I T_v0 (by decide) (by decide) rfl) ?_
        exact t_X3_takeNumber_55 I F T_v0 hm
      · rw [if_neg c3] at hm ⊢
        have T1 : tg (gP s v0 7) = 0 := t_tg (c := 3) I T_v0 (by decide) (by decide) rfl (by decide)
        refine tr_eq (t_fR I T_v0 (by decide) (by decide) (by decide)) ?_
        obtain ⟨x2, hx2, hm⟩ := hp_bd hm
        refine tr_eq (t_aI I T1 (by decide) rfl hx2) ?_
        exact t_X3_takeNumber_55 I F T_v0 hm
  · rw [if_neg c5] at hm ⊢
    obtain rfl := Option.some.inj hm
    exact ⟨_, rfl, I, F⟩
def g_X3_takeNumber (n : Nat) (v0 : Nat) (v1 : Int32) (s : st_T) : Option (Int32 × st_T) := g_X3_takeNumber_0 n v0 v1 s
theorem t_X3_takeNumber {tg r : Nat → Nat} {h hb : hp_H} {s sb : st_T} {n : Nat} {v0 : Nat} {v1 : Int32} (I : iso tg r h s) (F : isf tg r hb h sb s) (T_v0 : tg v0 = 13) {res : Int32 × st_T} (hm : g_X3_takeNumber n v0 v1 s = some res) : ∃ h2, f_X3_takeNumber n (r v0) v1 h = some ((res.1, h2)) ∧ iso tg r h2 res.2 ∧ isf tg r hb h2 sb res.2 := by
  unfold g_X3_takeNumber at hm
  unfold f_X3_takeNumber
  refine tr_eq (t_ck I T_v0 (by decide)) ?_
  exact t_X3_takeNumber_0 I F T_v0 hm
def g_X3_takeLetter_54 (n : Nat) (v0 : Nat) (v1 : Int32) (s0 : Int32) (s1 : Nat) (s : st_T) : Option (Int32 × st_T) :=
  (hp_bz s0).bind fun _ =>
  (wF s s1 11 s0).bind fun w2 =>
  if (gF w2 v0 11) = 0 then
    (wF w2 v0 10 (0 : Int32)).bind fun w3 =>
    (g_X3_takeNumber n v0 (((((20 : Int32) * (gF w2 v0 10)) + v1) - (65 : Int32)) + (1 : Int32)) w3).bind fun x4 =>
    some (x4.1, x4.2)
  else
    (wF w2 v0 10 (hp_mn (((((5 : Int32) * (gF w2 v0 10)) + v1) - (85 : Int32)) + (1 : Int32)) (100000 : Int32))).bind fun w5 =>
    some ((0 : Int32), w5)
set_option maxHeartbeats 1000000 in
theorem t_X3_takeLetter_54 {tg r : Nat → Nat} {h hb : hp_H} {s sb : st_T} {n : Nat} {v0 : Nat} {v1 : Int32} {s0 : Int32} {s1 : Nat} (I : iso tg r h s) (F : isf tg r hb h sb s) (T_v0 : tg v0 = 13) (T_s1 : tg s1 = 13) {res : Int32 × st_T} (hm : g_X3_takeLetter_54 n v0 v1 s0 s1 s = some res) : ∃ h2, f_X3_takeLetter_54 n (r v0) v1 s0 (r s1) h = some ((res.1, h2)) ∧ iso tg r h2 res.2 ∧ isf tg r hb h2 sb res.2 := by
  unfold g_X3_takeLetter_54 at hm
  unfold f_X3_takeLetter_54
  obtain ⟨_, hu1, hm⟩ := hp_bd hm
  refine tr_eq hu1 ?_
  obtain ⟨w2, hw2, hm⟩ := hp_bd hm
  obtain ⟨_, e2, I, F⟩ := t_wF (c := 3) (k := 11) I F T_s1 (by decide) (by decide) rfl hw2
  refine tr_eq e2 ?_
  refine tr_eq (t_fI I T_v0 (by decide) (by decide) rfl) ?_
  by_cases c6 : (gF w2 v0 11) = 0
  · rw [if_pos c6] at hm ⊢
    refine tr_eq (t_fI I T_v0 (by decide) (by decide) rfl) ?_
    obtain ⟨w3, hw3, hm⟩ := hp_bd hm
    obtain ⟨_, e2, I, F⟩ := t_wF (c := 3) (k := 10) I F T_v0 (by decide) (by decide) rfl hw3
    refine tr_eq e2 ?_
    obtain ⟨x4, hx4, hm⟩ := hp_bd hm
    obtain ⟨_, e2, I, F⟩ := t_X3_takeNumber I F T_v0 hx4
    refine tr_eq e2 ?_
    try dsimp only
    obtain rfl := Option.some.inj hm
    exact ⟨_, rfl, I, F⟩
  · rw [if_neg c6] at hm ⊢
    refine tr_eq (t_fI I T_v0 (by decide) (by decide) rfl) ?_
    obtain ⟨w5, hw5, hm⟩ := hp_bd hm
    obtain ⟨_, e2, I, F⟩ := t_wF (c := 3) (k := 10) I F T_v0 (by decide) (by decide) rfl hw5
    refine tr_eq e2 ?_
    obtain rfl := Option.some.inj hm
    exact ⟨_, rfl, I, F⟩
def g_X3_takeLetter_38 (n : Nat) (v0 : Nat) (v1 : Int32) (s0 : Int32) (s1 : Nat) (s : st_T) : Option (Int32 × st_T) :=
  (hp_bz s0).bind fun _ =>
  (wF s s1 12 s0).bind fun w2 =>
  if (gF w2 v0 12) = 0 then
    g_X3_takeLetter_54 n v0 v1 (1 : Int32) v0 w2
  else
    g_X3_takeLetter_54 n v0 v1 (0 : Int32) v0 w2
set_option maxHeartbeats 1000000 in
theorem t_X3_takeLetter_38 {tg r : Nat → Nat} {h hb : hp_H} {s sb : st_T} {n : Nat} {v0 : Nat} {v1 : Int32} {s0 : Int32} {s1 : Nat} (I : iso tg r h s) (F : isf tg r hb h sb s) (T_v0 : tg v0 = 13) (T_s1 : tg s1 = 13) {res : Int32 × st_T} (hm : g_X3_takeLetter_38 n v0 v1 s0 s1 s = some res) : ∃ h2, f_X3_takeLetter_38 n (r v0) v1 s0 (r s1) h = some ((res.1, h2)) ∧ iso tg r h2 res.2 ∧ isf tg r hb h2 sb res.2 := by
  unfold g_X3_takeLetter_38 at hm
  unfold f_X3_takeLetter_38
  obtain ⟨_, hu1, hm⟩ := hp_bd hm
  refine tr_eq hu1 ?_
  obtain ⟨w2, hw2, hm⟩ := hp_bd hm
  obtain ⟨_, e2, I, F⟩ := t_wF (c := 3) (k := 12) I F T_s1 (by decide) (by decide) rfl hw2
  refine tr_eq e2 ?_
  refine tr_eq (t_fI I T_v0 (by decide) (by decide) rfl) ?_
  by_cases c3 : (gF w2 v0 12) = 0
  · rw [if_pos c3] at hm ⊢
    exact t_X3_takeLetter_54 I F T_v0 T_v0 hm
  · rw [if_neg c3] at hm ⊢
    exact t_X3_takeLetter_54 I F T_v0 T_v0 hm
def g_X3_takeLetter_0 (n : Nat) (v0 : Nat) (v1 : Int32) (s : st_T) : Option (Int32 × st_T) :=
  if v1 < (65 : Int32) then
    some ((-3 : Int32), s)
  else
    if v1 ≤ (90 : Int32) then
      if v1 = (90 : Int32) then
        (g_X3_mark n v0 s).bind fun x2 =>
        some (x2.1, x2.2)
      else
        if (85 : Int32) ≤ v1 then
          g_X3_takeLetter_38 n v0 v1 (0 : Int32) v0 s
        else
          g_X3_takeLetter_38 n v0 v1 (1 : Int32) v0 s
    else
      some ((-3 : Int32), s)
set_option maxHeartbeats 1000000 in
theorem t_X3_takeLetter_0 {tg r : Nat → Nat} {h hb : hp_H} {s sb : st_T} {n : Nat} {v0 : Nat} {v1 : Int32} (I : iso tg r h s) (F : isf tg r hb h sb s) (T_v0 : tg v0 = 13) {res : Int32 × st_T} (hm : g_X3_takeLetter_0 n v0 v1 s = some res) : ∃ h2, f_X3_takeLetter_0 n (r v0) v1 h = some ((res.1, h2)) ∧ iso tg r h2 res.2 ∧ isf tg r hb h2 sb res.2 := by
  unfold g_X3_takeLetter_0 at hm
  unfold f_X3_takeLetter_0
  by_cases c5 : v1 < (65 : Int32)
  · rw [if_pos c5] at hm ⊢
    obtain rfl := Option.some.inj hm
    exact ⟨_, rfl, I, F⟩
  · rw [if_neg c5] at hm ⊢
    by_cases c4 : v1 ≤ (90 : Int32)
    · rw [if_pos c4] at hm ⊢
      by_cases c3 : v1 = (90 : Int32)
      · rw [if_pos c3] at hm ⊢
        obtain ⟨x2, hx2, hm⟩ := hp_bd hm
        obtain ⟨_, e2, I, F⟩ := t_X3_mark I F T_v0 hx2
        refine tr_eq e2 ?_
        try dsimp only
        obtain rfl := Option.some.inj hm
        exact ⟨_, rfl, I, F⟩
      · rw [if_neg c3] at hm ⊢
        by_cases c1 : (85 : Int32) ≤ v1
        · rw [if_pos c1] at hm ⊢
          exact t_X3_takeLetter_38 I F T_v0 T_v0 hm
        · rw [if_neg c1] at hm ⊢
          exact t_X3_takeLetter_38 I F T_v0 T_v0 hm
    · rw [if_neg c4] at hm ⊢
      obtain rfl := Option.some.inj hm
      exact ⟨_, rfl, I, F⟩
def g_X3_takeLetter (n : Nat) (v0 : Nat) (v1 : Int32) (s : st_T) : Option (Int32 × st_T) := g_X3_takeLetter_0 n v0 v1 s
theorem t_X3_takeLetter {tg r : Nat → Nat} {h hb : hp_H} {s sb : st_T} {n : Nat} {v0 : Nat} {v1 : Int32} (I : iso tg r h s) (F : isf tg r hb h sb s) (T_v0 : tg v0 = 13) {res : Int32 × st_T} (hm : g_X3_takeLetter n v0 v1 s = some res) : ∃ h2, f_X3_takeLetter n (r v0) v1 h = some ((res.1, h2)) ∧ iso tg r h2 res.2 ∧ isf tg r hb h2 sb res.2 := by
  unfold g_X3_takeLetter at hm
  unfold f_X3_takeLetter
  refine tr_eq (t_ck I T_v0 (by decide)) ?_
  exact t_X3_takeLetter_0 I F T_v0 hm
abbrev eX_X3_decodeLetters_47 (x : (Int32 × Int32 × st_T) ⊕ (Int32 × st_T)) (h2 : hp_H) : (Int32 × Int32 × hp_H) ⊕ (Int32 × hp_H) := (Sum.elim (fun y => (.inl (y.1, y.2.1, h2))) (fun y => (.inr (y.1, h2)))) x
abbrev sX_X3_decodeLetters_47 (x : (Int32 × Int32 × st_T) ⊕ (Int32 × st_T)) : st_T := (Sum.elim (fun y => y.2.2) (fun y => y.2)) x
abbrev eR_X3_decodeLetters_47 (x : (Int32 × Int32 × st_T) ⊕ ((Int32 × Int32 × st_T) ⊕ (Int32 × st_T))) (h2 : hp_H) : (Int32 × Int32 × hp_H) ⊕ ((Int32 × Int32 × hp_H) ⊕ (Int32 × hp_H)) := Sum.elim (fun y => .inl (y.1, y.2.1, h2)) (fun y => .inr (eX_X3_decodeLetters_47 y h2)) x
abbrev sR_X3_decodeLetters_47 (x : (Int32 × Int32 × st_T) ⊕ ((Int32 × Int32 × st_T) ⊕ (Int32 × st_T))) : st_T := Sum.elim (fun y => y.2.2) sX_X3_decodeLetters_47 x
abbrev eX_X3_decodeLetters_69 (x : (Int32 × Int32 × st_T) ⊕ (Int32 × st_T)) (h2 : hp_H) : (Int32 × Int32 × hp_H) ⊕ (Int32 × hp_H) := (Sum.elim (fun y => (.inl (y.1, y.2.1, h2))) (fun y => (.inr (y.1, h2)))) x
abbrev sX_X3_decodeLetters_69 (x : (Int32 × Int32 × st_T) ⊕ (Int32 × st_T)) : st_T := (Sum.elim (fun y => y.2.2) (fun y => y.2)) x
abbrev eR_X3_decodeLetters_69 (x : (Int32 × Int32 × st_T) ⊕ ((Int32 × Int32 × st_T) ⊕ (Int32 × st_T))) (h2 : hp_H) : (Int32 × Int32 × hp_H) ⊕ ((Int32 × Int32 × hp_H) ⊕ (Int32 × hp_H)) := Sum.elim (fun y => .inl (y.1, y.2.1, h2)) (fun y => .inr (eX_X3_decodeLetters_69 y h2)) x
abbrev sR_X3_decodeLetters_69 (x : (Int32 × Int32 × st_T) ⊕ ((Int32 × Int32 × st_T) ⊕ (Int32 × st_T))) : st_T := Sum.elim (fun y => y.2.2) sX_X3_decodeLetters_69 x
def g_X3_decodeLetters_69 (n : Nat) (v0 : Nat) (v1 : Int32) (v2 : Int32) (v3 : Int32) (v4 : Int32) (s : st_T) : Option ((Int32 × Int32 × st_T) ⊕ ((Int32 × Int32 × st_T) ⊕ (Int32 × st_T))) :=
  if (gF s (gP s v0 6) 2) ≤ v4 then
    some (.inr (.inr (v1, s)))
  else
    (g_X0_isInToken n (gP s v0 6) v4 s).bind fun x3 =>
    if x3 = 0 then
      some (.inr (.inr (v1, s)))
    else
      (gA s (gP s (gP s v0 6) 1) v4).bind fun x6 =>
      (g_X3_takeLetter n v0 x6 s).bind fun x7 =>
      if x7.1 = 0 then
        some (.inl ((v1 + (1 : Int32)), (v4 + (1 : Int32)), x7.2))
      else
        some (.inr (.inl (v1, x7.1, x7.2)))
set_option maxHeartbeats 1000000 in
theorem t_X3_decodeLetters_69 {tg r : Nat → Nat} {h hb : hp_H} {s sb : st_T} {n : Nat} {v0 : Nat} {v1 : Int32} {v2 : Int32} {v3 : Int32} {v4 : Int32} (I : iso tg r h s) (F : isf tg r hb h sb s) (T_v0 : tg v0 = 13) {res : (Int32 × Int32 × st_T) ⊕ ((Int32 × Int32 × st_T) ⊕ (Int32 × st_T))} (hm : g_X3_decodeLetters_69 n v0 v1 v2 v3 v4 s = some res) : ∃ h2, f_X3_decodeLetters_69 n (r v0) v1 v2 v3 v4 h = some (eR_X3_decodeLetters_69 res h2) ∧ iso tg r h2 (sR_X3_decodeLetters_69 res) ∧ isf tg r hb h2 sb (sR_X3_decodeLetters_69 res) := by
  unfold g_X3_decodeLetters_69 at hm
  unfold f_X3_decodeLetters_69
  have T1 : tg (gP s v0 6) = 10 := t_tg (c := 3) I T_v0 (by decide) (by decide) rfl (by decide)
  refine tr_eq (t_fR I T_v0 (by decide) (by decide) (by decide)) ?_
  refine tr_eq (t_fI I T1 (by decide) (by decide) rfl) ?_
  by_cases c10 : (gF s (gP s v0 6) 2) ≤ v4
  · rw [if_pos c10] at hm ⊢
    obtain rfl := Option.some.inj hm
    exact ⟨_, rfl, I, F⟩
  · rw [if_neg c10] at hm ⊢
    have T2 : tg (gP s v0 6) = 10 := t_tg (c := 3) I T_v0 (by decide) (by decide) rfl (by decide)
    refine tr_eq (t_fR I T_v0 (by decide) (by decide) (by decide)) ?_
    obtain ⟨x3, hx3, hm⟩ := hp_bd hm
    refine tr_eq (t_X0_isInToken I T2 hx3) ?_
    by_cases c9 : x3 = 0
    · rw [if_pos c9] at hm ⊢
      obtain rfl := Option.some.inj hm
      exact ⟨_, rfl, I, F⟩
    · rw [if_neg c9] at hm ⊢
      have T4 : tg (gP s v0 6) = 10 := t_tg (c := 3) I T_v0 (by decide) (by decide) rfl (by decide)
      refine tr_eq (t_fR I T_v0 (by decide) (by decide) (by decide)) ?_
      have T5 : tg (gP s (gP s v0 6) 1) = 1 := t_tg (c := 0) I T4 (by decide) (by decide) rfl (by decide)
      refine tr_eq (t_fR I T4 (by decide) (by decide) (by decide)) ?_
      obtain ⟨x6, hx6, hm⟩ := hp_bd hm
      refine tr_eq (t_aI I T5 (by decide) rfl hx6) ?_
      obtain ⟨x7, hx7, hm⟩ := hp_bd hm
      obtain ⟨_, e2, I, F⟩ := t_X3_takeLetter I F T_v0 hx7
      refine tr_eq e2 ?_
      try dsimp only
      by_cases c8 : x7.1 = 0
      · rw [if_pos c8] at hm ⊢
        obtain rfl := Option.some.inj hm
        exact ⟨_, rfl, I, F⟩
      · rw [if_neg c8] at hm ⊢
        obtain rfl := Option.some.inj hm
        exact ⟨_, rfl, I, F⟩
def gL_X3_decodeLetters_69 (n : Nat) (v0 : Nat) (v2 : Int32) (v3 : Int32) (c : Int32 × Int32 × st_T) : Option ((Int32 × Int32 × st_T) ⊕ ((Int32 × Int32 × st_T) ⊕ (Int32 × st_T))) := g_X3_decodeLetters_69 n v0 c.1 v2 v3 c.2.1 c.2.2
theorem tl_X3_decodeLetters_69 {tg r : Nat → Nat} {hb : hp_H} {sb : st_T} {n : Nat} {v0 : Nat} {v2 : Int32} {v3 : Int32} (T_v0 : tg v0 = 13) : ∀ (k : Nat) (c0 : Int32) (c1 : Int32) (h : hp_H) (s : st_T) (x : (Int32 × Int32 × st_T) ⊕ (Int32 × st_T)), iso tg r h s → isf tg r hb h sb s → hp_lp (gL_X3_decodeLetters_69 n v0 v2 v3) k (c0, c1, s) = some x → ∃ h2, hp_lp (fL_X3_decodeLetters_69 n (r v0) v2 v3) k (c0, c1, h) = some (eX_X3_decodeLetters_69 x h2) ∧ iso tg r h2 (sX_X3_decodeLetters_69 x) ∧ isf tg r hb h2 sb (sX_X3_decodeLetters_69 x) := by
  intro k
  induction k with
  | zero => intro c0 c1 h s x I F hx; exact (hp_lp_0 hx).elim
  | succ k ih =>
    intro c0 c1 h s x I F hx
    obtain ⟨rr, hr, hc⟩ := hp_lp_1 hx
    obtain ⟨h2, e2, I2, F2⟩ := t_X3_decodeLetters_69 I F T_v0 hr
    rcases hc with ⟨s3, e3, hx3⟩ | e3
    · subst e3
      obtain ⟨h3, e4, I3, F3⟩ := ih _ _ h2 _ x I2 F2 hx3
      exact ⟨h3, hp_lp_s e2 e4, I3, F3⟩
    · subst e3
      exact ⟨h2, hp_lp_x e2, I2, F2⟩
def g_X3_decodeLetters_131 (n : Nat) (v0 : Nat) (v1 : Int32) (v2 : Int32) (v3 : Int32) (s : st_T) : Option ((Int32 × Int32 × st_T) ⊕ ((Int32 × Int32 × st_T) ⊕ (Int32 × st_T))) :=
  some (.inl (v1, (v3 + (1 : Int32)), s))
set_option maxHeartbeats 1000000 in
theorem t_X3_decodeLetters_131 {tg r : Nat → Nat} {h hb : hp_H} {s sb : st_T} {n : Nat} {v0 : Nat} {v1 : Int32} {v2 : Int32} {v3 : Int32} (I : iso tg r h s) (F : isf tg r hb h sb s) (T_v0 : tg v0 = 13) {res : (Int32 × Int32 × st_T) ⊕ ((Int32 × Int32 × st_T) ⊕ (Int32 × st_T))} (hm : g_X3_decodeLetters_131 n v0 v1 v2 v3 s = some res) : ∃ h2, f_X3_decodeLetters_131 n (r v0) v1 v2 v3 h = some (eR_X3_decodeLetters_47 res h2) ∧ iso tg r h2 (sR_X3_decodeLetters_47 res) ∧ isf tg r hb h2 sb (sR_X3_decodeLetters_47 res) := by
  unfold g_X3_decodeLetters_131 at hm
  unfold f_X3_decodeLetters_131
  obtain rfl := Option.some.inj hm
  exact ⟨_, rfl, I, F⟩
def g_X3_decodeLetters_47 (n : Nat) (v0 : Nat) (v1 : Int32) (v2 : Int32) (v3 : Int32) (s : st_T) : Option ((Int32 × Int32 × st_T) ⊕ ((Int32 × Int32 × st_T) ⊕ (Int32 × st_T))) :=
  if v2 ≤ v3 then
    some (.inr (.inr (v1, s)))
  else
    (g_X5_get n (gP s (gP s v0 6) 10) (gF s v0 0) v3 s).bind fun x3 =>
    (hp_lp (gL_X3_decodeLetters_69 n v0 v2 v3) n (v1, x3, s)).bind fun x4 =>
    Sum.elim (fun y5 =>
      some (.inr (.inl (y5.1, y5.2.1, y5.2.2)))) (fun y6 =>
      g_X3_decodeLetters_131 n v0 y6.1 v2 v3 y6.2) x4
set_option maxHeartbeats 1000000 in
theorem t_X3_decodeLetters_47 {tg r : Nat → Nat} {h hb : hp_H} {s sb : st_T} {n : Nat} {v0 : Nat} {v1 : Int32} {v2 : Int32} {v3 : Int32} (I : iso tg r h s) (F : isf tg r hb h sb s) (T_v0 : tg v0 = 13) {res : (Int32 × Int32 × st_T) ⊕ ((Int32 × Int32 × st_T) ⊕ (Int32 × st_T))} (hm : g_X3_decodeLetters_47 n v0 v1 v2 v3 s = some res) : ∃ h2, f_X3_decodeLetters_47 n (r v0) v1 v2 v3 h = some (eR_X3_decodeLetters_47 res h2) ∧ iso tg r h2 (sR_X3_decodeLetters_47 res) ∧ isf tg r hb h2 sb (sR_X3_decodeLetters_47 res) := by
  unfold g_X3_decodeLetters_47 at hm
  unfold f_X3_decodeLetters_47
  by_cases c7 : v2 ≤ v3
  · rw [if_pos c7] at hm ⊢
    obtain rfl := Option.some.inj hm
    exact ⟨_, rfl, I, F⟩
  · rw [if_neg c7] at hm ⊢
    have T1 : tg (gP s v0 6) = 10 := t_tg (c := 3) I T_v0 (by decide) (by decide) rfl (by decide)
    refine tr_eq (t_fR I T_v0 (by decide) (by decide) (by decide)) ?_
    have T2 : tg (gP s (gP s v0 6) 10) = 15 := t_tg (c := 0) I T1 (by decide) (by decide) rfl (by decide)
    refine tr_eq (t_fR I T1 (by decide) (by decide) (by decide)) ?_
    refine tr_eq (t_fI I T_v0 (by decide) (by decide) rfl) ?_
    obtain ⟨x3, hx3, hm⟩ := hp_bd hm
    refine tr_eq (t_X5_get I T2 hx3) ?_
    obtain ⟨x4, hx4, hm⟩ := hp_bd hm
    obtain ⟨_, e2, I, F⟩ := tl_X3_decodeLetters_69 T_v0 n _ _ _ _ _ I F hx4
    refine tr_eq e2 ?_
    rcases x4 with y5 | y6
    · simp only [eX_X3_decodeLetters_69, Sum.elim_inl, Sum.elim_inr] at hm ⊢
      replace I : iso tg _ _ y5.2.2 := I
      replace F : isf tg _ _ _ _ y5.2.2 := F
      obtain rfl := Option.some.inj hm
      exact ⟨_, rfl, I, F⟩
    · simp only [eX_X3_decodeLetters_69, Sum.elim_inl, Sum.elim_inr] at hm ⊢
      replace I : iso tg _ _ y6.2 := I
      replace F : isf tg _ _ _ _ y6.2 := F
      exact t_X3_decodeLetters_131 I F T_v0 hm
def gL_X3_decodeLetters_47 (n : Nat) (v0 : Nat) (v2 : Int32) (c : Int32 × Int32 × st_T) : Option ((Int32 × Int32 × st_T) ⊕ ((Int32 × Int32 × st_T) ⊕ (Int32 × st_T))) := g_X3_decodeLetters_47 n v0 c.1 v2 c.2.1 c.2.2
theorem tl_X3_decodeLetters_47 {tg r : Nat → Nat} {hb : hp_H} {sb : st_T} {n : Nat} {v0 : Nat} {v2 : Int32} (T_v0 : tg v0 = 13) : ∀ (k : Nat) (c0 : Int32) (c1 : Int32) (h : hp_H) (s : st_T) (x : (Int32 × Int32 × st_T) ⊕ (Int32 × st_T)), iso tg r h s → isf tg r hb h sb s → hp_lp (gL_X3_decodeLetters_47 n v0 v2) k (c0, c1, s) = some x → ∃ h2, hp_lp (fL_X3_decodeLetters_47 n (r v0) v2) k (c0, c1, h) = some (eX_X3_decodeLetters_47 x h2) ∧ iso tg r h2 (sX_X3_decodeLetters_47 x) ∧ isf tg r hb h2 sb (sX_X3_decodeLetters_47 x) := by
  intro k
  induction k with
  | zero => intro c0 c1 h s x I F hx; exact (hp_lp_0 hx).elim
  | succ k ih =>
    intro c0 c1 h s x I F hx
    obtain ⟨rr, hr, hc⟩ := hp_lp_1 hx
    obtain ⟨h2, e2, I2, F2⟩ := t_X3_decodeLetters_47 I F T_v0 hr
    rcases hc with ⟨s3, e3, hx3⟩ | e3
    · subst e3
      obtain ⟨h3, e4, I3, F3⟩ := ih _ _ h2 _ x I2 F2 hx3
      exact ⟨h3, hp_lp_s e2 e4, I3, F3⟩
    · subst e3
      exact ⟨h2, hp_lp_x e2, I2, F2⟩
def g_X3_decodeLetters_148 (n : Nat) (v0 : Nat) (v1 : Int32) (s : st_T) : Option (Int32 × st_T) :=
  (g_X3_fail n v0 (-3 : Int32) v1 s).bind fun x1 =>
  some (x1.1, x1.2)
set_option maxHeartbeats 1000000 in
theorem t_X3_decodeLetters_148 {tg r : Nat → Nat} {h hb : hp_H} {s sb : st_T} {n : Nat} {v0 : Nat} {v1 : Int32} (I : iso tg r h s) (F : isf tg r hb h sb s) (T_v0 : tg v0 = 13) {res : Int32 × st_T} (hm : g_X3_decodeLetters_148 n v0 v1 s = some res) : ∃ h2, f_X3_decodeLetters_148 n (r v0) v1 h = some ((res.1, h2)) ∧ iso tg r h2 res.2 ∧ isf tg r hb h2 sb res.2 := by
  unfold g_X3_decodeLetters_148 at hm
  unfold f_X3_decodeLetters_148
  obtain ⟨x1, hx1, hm⟩ := hp_bd hm
  obtain ⟨_, e2, I, F⟩ := t_X3_fail I F T_v0 hx1
  refine tr_eq e2 ?_
  try dsimp only
  obtain rfl := Option.some.inj hm
  exact ⟨_, rfl, I, F⟩
def g_X3_decodeLetters_0 (n : Nat) (v0 : Nat) (s : st_T) : Option (Int32 × st_T) :=
  (wF s v0 10 (0 : Int32)).bind fun w1 =>
  (wF w1 v0 11 (0 : Int32)).bind fun w2 =>
  (wF w2 v0 12 (0 : Int32)).bind fun w3 =>
  (g_X5_size n (gP w3 (gP w3 v0 6) 10) (gF w3 v0 0) w3).bind fun x6 =>
  (gA w3 (gP w3 (gP w3 v0 6) 16) (gF w3 v0 0)).bind fun x9 =>
  (hp_lp (gL_X3_decodeLetters_47 n v0 x6) n ((0 : Int32), (x9 + (1 : Int32)), w3)).bind fun x10 =>
  Sum.elim (fun y11 =>
    (g_X3_fail n v0 y11.2.1 y11.1 y11.2.2).bind fun x13 =>
    some (x13.1, x13.2)) (fun y12 =>
    if (gF y12.2 v0 11) = 0 then
      if y12.1 = 0 then
        g_X3_decodeLetters_148 n v0 y12.1 y12.2
      else
        some ((0 : Int32), y12.2)
    else
      g_X3_decodeLetters_148 n v0 y12.1 y12.2) x10
set_option maxHeartbeats 1000000 in
theorem t_X3_decodeLetters_0 {tg r : Nat → Nat} {h hb : hp_H} {s sb : st_T} {n : Nat} {v0 : Nat} (I : iso tg r h s) (F : isf tg r hb h sb s) (T_v0 : tg v0 = 13) {res : Int32 × st_T} (hm : g_X3_decodeLetters_0 n v0 s = some res) : ∃ h2, f_X3_decodeLetters_0 n (r v0) h = some ((res.1, h2)) ∧ iso tg r h2 res.2 ∧ isf tg r hb h2 sb res.2 := by
  unfold g_X3_decodeLetters_0 at hm
  unfold f_X3_decodeLetters_0
  obtain ⟨w1, hw1, hm⟩ := hp_bd hm
  obtain ⟨_, e2, I, F⟩ := t_wF (c := 3) (k := 10) I F T_v0 (by decide) (by decide) rfl hw1
  refine tr_eq e2 ?_
  obtain ⟨w2, hw2, hm⟩ := hp_bd hm
  obtain ⟨_, e2, I, F⟩ := t_wF (c := 3) (k := 11) I F T_v0 (by decide) (by decide) rfl hw2
  refine tr_eq e2 ?_
  obtain ⟨w3, hw3, hm⟩ := hp_bd hm
  obtain ⟨_, e2, I, F⟩ := t_wF (c := 3) (k := 12) I F T_v0 (by decide) (by decide) rfl hw3
  refine tr_eq e2 ?_
  have T4 : tg (gP w3 v0 6) = 10 := t_tg (c := 3) I T_v0 (by decide) (by decide) rfl (by decide)
  refine tr_eq (t_fR I T_v0 (by decide) (by decide) (by decide)) ?_
  have T5 : tg (gP w3 (gP w3 v0 6) 10) = 15 := t_tg (c := 0) I T4 (by decide) (by decide) rfl (by decide)
  refine tr_eq (t_fR I T4 (by decide) (by decide) (by decide)) ?_
  refine tr_eq (t_fI I T_v0 (by decide) (by decide) rfl) ?_
  obtain ⟨x6, hx6, hm⟩ := hp_bd hm
  refine tr_eq (t_X5_size I T5 hx6) ?_
  have T7 : tg (gP w3 v0 6) = 10 := t_tg (c := 3) I T_v0 (by decide) (by decide) rfl (by decide)
  refine tr_eq (t_fR I T_v0 (by decide) (by decide) (by decide)) ?_
  have T8 : tg (gP w3 (gP w3 v0 6) 16) = 0 := t_tg (c := 0) I T7 (by decide) (by decide) rfl (by decide)
  refine tr_eq (t_fR I T7 (by decide) (by decide) (by decide)) ?_
  refine tr_eq (t_fI I T_v0 (by decide) (by decide) rfl) ?_
  obtain ⟨x9, hx9, hm⟩ := hp_bd hm
  refine tr_eq (t_aI I T8 (by decide) rfl hx9) ?_
  obtain ⟨x10, hx10, hm⟩ := hp_bd hm
  obtain ⟨_, e2, I, F⟩ := tl_X3_decodeLetters_47 T_v0 n _ _ _ _ _ I F hx10
  refine tr_eq e2 ?_
  rcases x10 with y11 | y12
  · simp only [eX_X3_decodeLetters_47, Sum.elim_inl, Sum.elim_inr] at hm ⊢
    replace I : iso tg _ _ y11.2.2 := I
    replace F : isf tg _ _ _ _ y11.2.2 := F
    obtain ⟨x13, hx13, hm⟩ := hp_bd hm
    obtain ⟨_, e2, I, F⟩ := t_X3_fail I F T_v0 hx13
    refine tr_eq e2 ?_
    try dsimp only
    obtain rfl := Option.some.inj hm
    exact ⟨_, rfl, I, F⟩
  · simp only [eX_X3_decodeLetters_47, Sum.elim_inl, Sum.elim_inr] at hm ⊢
    replace I : iso tg _ _ y12.2 := I
    replace F : isf tg _ _ _ _ y12.2 := F
    refine tr_eq (t_fI I T_v0 (by decide) (by decide) rfl) ?_
    by_cases c15 : (gF y12.2 v0 11) = 0
    · rw [if_pos c15] at hm ⊢
      by_cases c14 : y12.1 = 0
      · rw [if_pos c14] at hm ⊢
        exact t_X3_decodeLetters_148 I F T_v0 hm
      · rw [if_neg c14] at hm ⊢
        obtain rfl := Option.some.inj hm
        exact ⟨_, rfl, I, F⟩
    · rw [if_neg c15] at hm ⊢
      exact t_X3_decodeLetters_148 I F T_v0 hm
def g_X3_decodeLetters (n : Nat) (v0 : Nat) (s : st_T) : Option (Int32 × st_T) := g_X3_decodeLetters_0 n v0 s
theorem t_X3_decodeLetters {tg r : Nat → Nat} {h hb : hp_H} {s sb : st_T} {n : Nat} {v0 : Nat} (I : iso tg r h s) (F : isf tg r hb h sb s) (T_v0 : tg v0 = 13) {res : Int32 × st_T} (hm : g_X3_decodeLetters n v0 s = some res) : ∃ h2, f_X3_decodeLetters n (r v0) h = some ((res.1, h2)) ∧ iso tg r h2 res.2 ∧ isf tg r hb h2 sb res.2 := by
  unfold g_X3_decodeLetters at hm
  unfold f_X3_decodeLetters
  refine tr_eq (t_ck I T_v0 (by decide)) ?_
  exact t_X3_decodeLetters_0 I F T_v0 hm
def g_X3_decode_100 (n : Nat) (v0 : Nat) (v4 : Int32) (s : st_T) : Option (Int32 × st_T) :=
  if v4 = 0 then
    (wF s v0 2 (gF s v0 1)).bind fun w1 =>
    some (v4, w1)
  else
    some (v4, s)
set_option maxHeartbeats 1000000 in
theorem t_X3_decode_100 {tg r : Nat → Nat} {h hb : hp_H} {s sb : st_T} {n : Nat} {v0 : Nat} {v4 : Int32} (I : iso tg r h s) (F : isf tg r hb h sb s) (T_v0 : tg v0 = 13) {res : Int32 × st_T} (hm : g_X3_decode_100 n v0 v4 s = some res) : ∃ h2, f_X3_decode_100 n (r v0) v4 h = some ((res.1, h2)) ∧ iso tg r h2 res.2 ∧ isf tg r hb h2 sb res.2 := by
  unfold g_X3_decode_100 at hm
  unfold f_X3_decode_100
  by_cases c2 : v4 = 0
  · rw [if_pos c2] at hm ⊢
    refine tr_eq (t_fI I T_v0 (by decide) (by decide) rfl) ?_
    obtain ⟨w1, hw1, hm⟩ := hp_bd hm
    obtain ⟨_, e2, I, F⟩ := t_wF (c := 3) (k := 2) I F T_v0 (by decide) (by decide) rfl hw1
    refine tr_eq e2 ?_
    obtain rfl := Option.some.inj hm
    exact ⟨_, rfl, I, F⟩
  · rw [if_neg c2] at hm ⊢
    obtain rfl := Option.some.inj hm
    exact ⟨_, rfl, I, F⟩
def g_X3_decode_83 (n : Nat) (v0 : Nat) (v3 : Int32) (s0 : Int32) (s : st_T) : Option (Int32 × st_T) :=
  if s0 = 0 then
    if v3 = 0 then
      g_X3_decode_100 n v0 s0 s
    else
      (g_X3_decodeLetters n v0 s).bind fun x1 =>
      g_X3_decode_100 n v0 x1.1 x1.2
  else
    g_X3_decode_100 n v0 s0 s
set_option maxHeartbeats 1000000 in
theorem t_X3_decode_83 {tg r : Nat → Nat} {h hb : hp_H} {s sb : st_T} {n : Nat} {v0 : Nat} {v3 : Int32} {s0 : Int32} (I : iso tg r h s) (F : isf tg r hb h sb s) (T_v0 : tg v0 = 13) {res : Int32 × st_T} (hm : g_X3_decode_83 n v0 v3 s0 s = some res) : ∃ h2, f_X3_decode_83 n (r v0) v3 s0 h = some ((res.1, h2)) ∧ iso tg r h2 res.2 ∧ isf tg r hb h2 sb res.2 := by
  unfold g_X3_decode_83 at hm
  unfold f_X3_decode_83
  by_cases c3 : s0 = 0
  · rw [if_pos c3] at hm ⊢
    by_cases c2 : v3 = 0
    · rw [if_pos c2] at hm ⊢
      exact t_X3_decode_100 I F T_v0 hm
    · rw [if_neg c2] at hm ⊢
      obtain ⟨x1, hx1, hm⟩ := hp_bd hm
      obtain ⟨_, e2, I, F⟩ := t_X3_decodeLetters I F T_v0 hx1
      refine tr_eq e2 ?_
      try dsimp only
      exact t_X3_decode_100 I F T_v0 hm
  · rw [if_neg c3] at hm ⊢
    exact t_X3_decode_100 I F T_v0 hm
def g_X3_decode_67 (n : Nat) (v0 : Nat) (s0 : Int32) (s : st_T) : Option (Int32 × st_T) :=
  if s0 = 0 then
    (g_X3_decodeLabels n v0 s).bind fun x1 =>
    g_X3_decode_83 n v0 s0 x1.1 x1.2
  else
    (g_X3_decodeList n v0 s).bind fun x2 =>
    g_X3_decode_83 n v0 s0 x2.1 x2.2
set_option maxHeartbeats 1000000 in
theorem t_X3_decode_67 {tg r : Nat → Nat} {h hb : hp_H} {s sb : st_T} {n : Nat} {v0 : Nat} {s0 : Int32} (I : iso tg r h s) (F : isf tg r hb h sb s) (T_v0 : tg v0 = 13) {res : Int32 × st_T} (hm : g_X3_decode_67 n v0 s0 s = some res) : ∃ h2, f_X3_decode_67 n (r v0) s0 h = some ((res.1, h2)) ∧ iso tg r h2 res.2 ∧ isf tg r hb h2 sb res.2 := by
  unfold g_X3_decode_67 at hm
  unfold f_X3_decode_67
  by_cases c3 : s0 = 0
  · rw [if_pos c3] at hm ⊢
    obtain ⟨x1, hx1, hm⟩ := hp_bd hm
    obtain ⟨_, e2, I, F⟩ := t_X3_decodeLabels I F T_v0 hx1
    refine tr_eq e2 ?_
    try dsimp only
    exact t_X3_decode_83 I F T_v0 hm
  · rw [if_neg c3] at hm ⊢
    obtain ⟨x2, hx2, hm⟩ := hp_bd hm
    obtain ⟨_, e2, I, F⟩ := t_X3_decodeList I F T_v0 hx2
    refine tr_eq e2 ?_
    try dsimp only
    exact t_X3_decode_83 I F T_v0 hm
def g_X3_decode_0 (n : Nat) (v0 : Nat) (v1 : Nat) (v2 : Int32) (s : st_T) : Option (Int32 × st_T) :=
  (wP s v0 6 v1).bind fun w1 =>
  (wF w1 v0 0 v2).bind fun w2 =>
  (wF w2 v0 1 (0 : Int32)).bind fun w3 =>
  (wF w3 v0 5 (0 : Int32)).bind fun w4 =>
  (wF w4 v0 2 (0 : Int32)).bind fun w5 =>
  (g_X3_isOpen n v0 w5).bind fun x6 =>
  if x6 = 0 then
    (g_X5_size n (gP w5 (gP w5 v0 6) 10) v2 w5).bind fun x9 =>
    if x9 = 0 then
      some ((-1 : Int32), w5)
    else
      (gA w5 (gP w5 (gP w5 v0 6) 15) v2).bind fun x12 =>
      if x12 = 0 then
        g_X3_decode_67 n v0 (0 : Int32) w5
      else
        g_X3_decode_67 n v0 (1 : Int32) w5
  else
    some ((1 : Int32), w5)
set_option maxHeartbeats 1000000 in
theorem t_X3_decode_0 {tg r : Nat → Nat} {h hb : hp_H} {s sb : st_T} {n : Nat} {v0 : Nat} {v1 : Nat} {v2 : Int32} (I : iso tg r h s) (F : isf tg r hb h sb s) (T_v0 : tg v0 = 13) (T_v1 : tg v1 = 10) {res : Int32 × st_T} (hm : g_X3_decode_0 n v0 v1 v2 s = some res) : ∃ h2, f_X3_decode_0 n (r v0) (r v1) v2 h = some ((res.1, h2)) ∧ iso tg r h2 res.2 ∧ isf tg r hb h2 sb res.2 := by
  unfold g_X3_decode_0 at hm
  unfold f_X3_decode_0
  obtain ⟨w1, hw1, hm⟩ := hp_bd hm
  obtain ⟨_, e2, I, F⟩ := t_wP (c := 3) (k := 6) I F (by decide) T_v0 (by decide) (by decide) rfl (by decide) T_v1 hw1
  refine tr_eq e2 ?_
  obtain ⟨w2, hw2, hm⟩ := hp_bd hm
  obtain ⟨_, e2, I, F⟩ := t_wF (c := 3) (k := 0) I F T_v0 (by decide) (by decide) rfl hw2
  refine tr_eq e2 ?_
  obtain ⟨w3, hw3, hm⟩ := hp_bd hm
  obtain ⟨_, e2, I, F⟩ := t_wF (c := 3) (k := 1) I F T_v0 (by decide) (by decide) rfl hw3
  refine tr_eq e2 ?_
  obtain ⟨w4, hw4, hm⟩ := hp_bd hm
  obtain ⟨_, e2, I, F⟩ := t_wF (c := 3) (k := 5) I F T_v0 (by decide) (by decide) rfl hw4
  refine tr_eq e2 ?_
  obtain ⟨w5, hw5, hm⟩ := hp_bd hm
  obtain ⟨_, e2, I, F⟩ := t_wF (c := 3) (k := 2) I F T_v0 (by decide) (by decide) rfl hw5
  refine tr_eq e2 ?_
  obtain ⟨x6, hx6, hm⟩ := hp_bd hm
  refine tr_eq (t_X3_isOpen I T_v0 hx6) ?_
  by_cases c15 : x6 = 0
  · rw [if_pos c15] at hm ⊢
    have T7 : tg (gP w5 v0 6) = 10 := t_tg (c := 3) I T_v0 (by decide) (by decide) rfl (by decide)
    refine tr_eq (t_fR I T_v0 (by decide) (by decide) (by decide)) ?_
    have T8 : tg (gP w5 (gP w5 v0 6) 10) = 15 := t_tg (c := 0) I T7 (by decide) (by decide) rfl (by decide)
    refine tr_eq (t_fR I T7 (by decide) (by decide) (by decide)) ?_
    obtain ⟨x9, hx9, hm⟩ := hp_bd hm
    refine tr_eq (t_X5_size I T8 hx9) ?_
    by_cases c14 : x9 = 0
    · rw [if_pos c14] at hm ⊢
      obtain rfl := Option.some.inj hm
      exact ⟨_, rfl, I, F⟩
    · rw [if_neg c14] at hm ⊢
      have T10 : tg (gP w5 v0 6) = 10 := t_tg (c := 3) I T_v0 (by decide) (by decide) rfl (by decide)
      refine tr_eq (t_fR I T_v0 (by decide) (by decide) (by decide)) ?_
      have T11 : tg (gP w5 (gP w5 v0 6) 15) = 1 := t_tg (c := 0) I T10 (by decide) (by decide) rfl (by decide)
      refine tr_eq (t_fR I T10 (by decide) (by decide) (by decide)) ?_
      obtain ⟨x12, hx12, hm⟩ := hp_bd hm
      refine tr_eq (t_aI I T11 (by decide) rfl hx12) ?_
      by_cases c13 : x12 = 0
      · rw [if_pos c13] at hm ⊢
        exact t_X3_decode_67 I F T_v0 hm
      · rw [if_neg c13] at hm ⊢
        exact t_X3_decode_67 I F T_v0 hm
  · rw [if_neg c15] at hm ⊢
    obtain rfl := Option.some.inj hm
    exact ⟨_, rfl, I, F⟩
def g_X3_decode (n : Nat) (v0 : Nat) (v1 : Nat) (v2 : Int32) (s : st_T) : Option (Int32 × st_T) := g_X3_decode_0 n v0 v1 v2 s
theorem t_X3_decode {tg r : Nat → Nat} {h hb : hp_H} {s sb : st_T} {n : Nat} {v0 : Nat} {v1 : Nat} {v2 : Int32} (I : iso tg r h s) (F : isf tg r hb h sb s) (T_v0 : tg v0 = 13) (T_v1 : tg v1 = 10) {res : Int32 × st_T} (hm : g_X3_decode n v0 v1 v2 s = some res) : ∃ h2, f_X3_decode n (r v0) (r v1) v2 h = some ((res.1, h2)) ∧ iso tg r h2 res.2 ∧ isf tg r hb h2 sb res.2 := by
  unfold g_X3_decode at hm
  unfold f_X3_decode
  refine tr_eq (t_ck I T_v0 (by decide)) ?_
  exact t_X3_decode_0 I F T_v0 T_v1 hm
