def g_X1_addPartner_0 (n : Nat) (v0 : Nat) (v1 : Int32) (v2 : Int32) (s : st_T) : Option (st_T) :=
  (gJ s (gP s v0 4) ((v1 * (5 : Int32)) + (v2 / (64 : Int32)))).bind fun x2 =>
  (uJ s (gP s v0 4) ((v1 * (5 : Int32)) + (v2 / (64 : Int32))) (x2 ||| ((1 : Int64) <<< (Int32.toInt64 (v2 - v2 / (64 : Int32) * (64 : Int32)) &&& 63)))).bind fun w3 =>
  some w3
set_option maxHeartbeats 1000000 in
theorem t_X1_addPartner_0 {tg r : Nat → Nat} {h hb : hp_H} {s sb : st_T} {n : Nat} {v0 : Nat} {v1 : Int32} {v2 : Int32} (I : iso tg r h s) (F : isf tg r hb h sb s) (T_v0 : tg v0 = 11) {res : st_T} (hm : g_X1_addPartner_0 n v0 v1 v2 s = some res) : ∃ h2, f_X1_addPartner_0 n (r v0) v1 v2 h = some (h2) ∧ iso tg r h2 res ∧ isf tg r hb h2 sb res := by
  unfold g_X1_addPartner_0 at hm
  unfold f_X1_addPartner_0
  have T1 : tg (gP s v0 4) = 3 := t_tg (c := 1) I T_v0 (by decide) (by decide) rfl (by decide)
  refine tr_eq (t_fR I T_v0 (by decide) (by decide) (by decide)) ?_
  obtain ⟨x2, hx2, hm⟩ := hp_bd hm
  refine tr_eq (t_aJ I T1 hx2) ?_
  obtain ⟨w3, hw3, hm⟩ := hp_bd hm
  obtain ⟨_, e2, I, F⟩ := t_sJ I F T1 hw3
  refine tr_eq e2 ?_
  obtain rfl := Option.some.inj hm
  exact ⟨_, rfl, I, F⟩
def g_X1_addPartner (n : Nat) (v0 : Nat) (v1 : Int32) (v2 : Int32) (s : st_T) : Option (st_T) := g_X1_addPartner_0 n v0 v1 v2 s
theorem t_X1_addPartner {tg r : Nat → Nat} {h hb : hp_H} {s sb : st_T} {n : Nat} {v0 : Nat} {v1 : Int32} {v2 : Int32} (I : iso tg r h s) (F : isf tg r hb h sb s) (T_v0 : tg v0 = 11) {res : st_T} (hm : g_X1_addPartner n v0 v1 v2 s = some res) : ∃ h2, f_X1_addPartner n (r v0) v1 v2 h = some (h2) ∧ iso tg r h2 res ∧ isf tg r hb h2 sb res := by
  unfold g_X1_addPartner at hm
  unfold f_X1_addPartner
  refine tr_eq (t_ck I T_v0 (by decide)) ?_
  exact t_X1_addPartner_0 I F T_v0 hm
abbrev eX_X1_notePartners_22 (x : st_T) (h2 : hp_H) : hp_H := (fun y => h2) x
abbrev sX_X1_notePartners_22 (x : st_T) : st_T := (fun y => y) x
abbrev eR_X1_notePartners_22 (x : (Int32 × st_T) ⊕ (st_T)) (h2 : hp_H) : (Int32 × hp_H) ⊕ (hp_H) := Sum.elim (fun y => .inl (y.1, h2)) (fun y => .inr (eX_X1_notePartners_22 y h2)) x
abbrev sR_X1_notePartners_22 (x : (Int32 × st_T) ⊕ (st_T)) : st_T := Sum.elim (fun y => y.2) sX_X1_notePartners_22 x
def g_X1_notePartners_22 (n : Nat) (v0 : Nat) (v1 : Int32) (v2 : Int32) (v3 : Int32) (s : st_T) : Option ((Int32 × st_T) ⊕ (st_T)) :=
  if v2 ≤ v3 then
    some (.inr s)
  else
    (g_X5_get n (gP s (gP s v0 2) 14) v1 v3 s).bind fun x3 =>
    (g_X1_addPartner n v0 (x3 / (300 : Int32)) (x3 - x3 / (300 : Int32) * (300 : Int32)) s).bind fun x4 =>
    (g_X1_addPartner n v0 (x3 - x3 / (300 : Int32) * (300 : Int32)) (x3 / (300 : Int32)) x4).bind fun x5 =>
    some (.inl ((v3 + (1 : Int32)), x5))
set_option maxHeartbeats 1000000 in
theorem t_X1_notePartners_22 {tg r : Nat → Nat} {h hb : hp_H} {s sb : st_T} {n : Nat} {v0 : Nat} {v1 : Int32} {v2 : Int32} {v3 : Int32} (I : iso tg r h s) (F : isf tg r hb h sb s) (T_v0 : tg v0 = 11) {res : (Int32 × st_T) ⊕ (st_T)} (hm : g_X1_notePartners_22 n v0 v1 v2 v3 s = some res) : ∃ h2, f_X1_notePartners_22 n (r v0) v1 v2 v3 h = some (eR_X1_notePartners_22 res h2) ∧ iso tg r h2 (sR_X1_notePartners_22 res) ∧ isf tg r hb h2 sb (sR_X1_notePartners_22 res) := by
  unfold g_X1_notePartners_22 at hm
  unfold f_X1_notePartners_22
  by_cases c6 : v2 ≤ v3
  · rw [if_pos c6] at hm ⊢
    obtain rfl := Option.some.inj hm
    exact ⟨_, rfl, I, F⟩
  · rw [if_neg c6] at hm ⊢
    have T1 : tg (gP s v0 2) = 10 := t_tg (c := 1) I T_v0 (by decide) (by decide) rfl (by decide)
    refine tr_eq (t_fR I T_v0 (by decide) (by decide) (by decide)) ?_
    have T2 : tg (gP s (gP s v0 2) 14) = 15 := t_tg (c := 0) I T1 (by decide) (by decide) rfl (by decide)
    refine tr_eq (t_fR I T1 (by decide) (by decide) (by decide)) ?_
    obtain ⟨x3, hx3, hm⟩ := hp_bd hm
    refine tr_eq (t_X5_get I T2 hx3) ?_
    obtain ⟨x4, hx4, hm⟩ := hp_bd hm
    obtain ⟨_, e2, I, F⟩ := t_X1_addPartner I F T_v0 hx4
    refine tr_eq e2 ?_
    obtain ⟨x5, hx5, hm⟩ := hp_bd hm
    obtain ⟨_, e2, I, F⟩ := t_X1_addPartner I F T_v0 hx5
    refine tr_eq e2 ?_
    obtain rfl := Option.some.inj hm
    exact ⟨_, rfl, I, F⟩
def gL_X1_notePartners_22 (n : Nat) (v0 : Nat) (v1 : Int32) (v2 : Int32) (c : Int32 × st_T) : Option ((Int32 × st_T) ⊕ (st_T)) := g_X1_notePartners_22 n v0 v1 v2 c.1 c.2
theorem tl_X1_notePartners_22 {tg r : Nat → Nat} {hb : hp_H} {sb : st_T} {n : Nat} {v0 : Nat} {v1 : Int32} {v2 : Int32} (T_v0 : tg v0 = 11) : ∀ (k : Nat) (c0 : Int32) (h : hp_H) (s : st_T) (x : st_T), iso tg r h s → isf tg r hb h sb s → hp_lp (gL_X1_notePartners_22 n v0 v1 v2) k (c0, s) = some x → ∃ h2, hp_lp (fL_X1_notePartners_22 n (r v0) v1 v2) k (c0, h) = some (eX_X1_notePartners_22 x h2) ∧ iso tg r h2 (sX_X1_notePartners_22 x) ∧ isf tg r hb h2 sb (sX_X1_notePartners_22 x) := by
  intro k
  induction k with
  | zero => intro c0 h s x I F hx; exact (hp_lp_0 hx).elim
  | succ k ih =>
    intro c0 h s x I F hx
    obtain ⟨rr, hr, hc⟩ := hp_lp_1 hx
    obtain ⟨h2, e2, I2, F2⟩ := t_X1_notePartners_22 I F T_v0 hr
    rcases hc with ⟨s3, e3, hx3⟩ | e3
    · subst e3
      obtain ⟨h3, e4, I3, F3⟩ := ih _ h2 _ x I2 F2 hx3
      exact ⟨h3, hp_lp_s e2 e4, I3, F3⟩
    · subst e3
      exact ⟨h2, hp_lp_x e2, I2, F2⟩
def g_X1_notePartners_0 (n : Nat) (v0 : Nat) (v1 : Int32) (s : st_T) : Option (st_T) :=
  (g_J7_fill_d0a16 n (gP s v0 4) (0 : Int64) s).bind fun x2 =>
  (g_X5_size n (gP x2 (gP x2 v0 2) 14) v1 x2).bind fun x5 =>
  (hp_lp (gL_X1_notePartners_22 n v0 v1 x5) n ((0 : Int32), x2)).bind fun x6 =>
  some x6
set_option maxHeartbeats 1000000 in
theorem t_X1_notePartners_0 {tg r : Nat → Nat} {h hb : hp_H} {s sb : st_T} {n : Nat} {v0 : Nat} {v1 : Int32} (I : iso tg r h s) (F : isf tg r hb h sb s) (T_v0 : tg v0 = 11) {res : st_T} (hm : g_X1_notePartners_0 n v0 v1 s = some res) : ∃ h2, f_X1_notePartners_0 n (r v0) v1 h = some (h2) ∧ iso tg r h2 res ∧ isf tg r hb h2 sb res := by
  unfold g_X1_notePartners_0 at hm
  unfold f_X1_notePartners_0
  have T1 : tg (gP s v0 4) = 3 := t_tg (c := 1) I T_v0 (by decide) (by decide) rfl (by decide)
  refine tr_eq (t_fR I T_v0 (by decide) (by decide) (by decide)) ?_
  obtain ⟨x2, hx2, hm⟩ := hp_bd hm
  obtain ⟨_, e2, I, F⟩ := t_J7_fill_d0a16 I F T1 hx2
  refine tr_eq e2 ?_
  have T3 : tg (gP x2 v0 2) = 10 := t_tg (c := 1) I T_v0 (by decide) (by decide) rfl (by decide)
  refine tr_eq (t_fR I T_v0 (by decide) (by decide) (by decide)) ?_
  have T4 : tg (gP x2 (gP x2 v0 2) 14) = 15 := t_tg (c := 0) I T3 (by decide) (by decide) rfl (by decide)
  refine tr_eq (t_fR I T3 (by decide) (by decide) (by decide)) ?_
  obtain ⟨x5, hx5, hm⟩ := hp_bd hm
  refine tr_eq (t_X5_size I T4 hx5) ?_
  obtain ⟨x6, hx6, hm⟩ := hp_bd hm
  obtain ⟨_, e2, I, F⟩ := tl_X1_notePartners_22 T_v0 n _ _ _ _ I F hx6
  refine tr_eq e2 ?_
  try dsimp only [eX_X1_notePartners_22]
  replace I : iso tg _ _ x6 := I
  replace F : isf tg _ _ _ _ x6 := F
  obtain rfl := Option.some.inj hm
  exact ⟨_, rfl, I, F⟩
def g_X1_notePartners (n : Nat) (v0 : Nat) (v1 : Int32) (s : st_T) : Option (st_T) := g_X1_notePartners_0 n v0 v1 s
theorem t_X1_notePartners {tg r : Nat → Nat} {h hb : hp_H} {s sb : st_T} {n : Nat} {v0 : Nat} {v1 : Int32} (I : iso tg r h s) (F : isf tg r hb h sb s) (T_v0 : tg v0 = 11) {res : st_T} (hm : g_X1_notePartners n v0 v1 s = some res) : ∃ h2, f_X1_notePartners n (r v0) v1 h = some (h2) ∧ iso tg r h2 res ∧ isf tg r hb h2 sb res := by
  unfold g_X1_notePartners at hm
  unfold f_X1_notePartners
  refine tr_eq (t_ck I T_v0 (by decide)) ?_
  exact t_X1_notePartners_0 I F T_v0 hm
def g_X1_isInstance_93 (n : Nat) (v0 : Nat) (v1 : Int32) (v2 : Int32) (v3 : Int32) (v4 : Int32) (v5 : Int32) (v6 : Int32) (v7 : Int32) (v8 : Int32) (s : st_T) : Option ((Int32 × Int32) ⊕ ((Int32) ⊕ (Int32))) :=
  if v7 ≤ v8 then
    some (.inr (.inl v3))
  else
    (g_X5_get n (gP s v0 0) v2 v3 s).bind fun x2 =>
    (gA s (gP s v0 3) v6).bind fun x5 =>
    (g_X5_get n (gP s v0 0) x5 v8 s).bind fun x6 =>
    if x2 = x6 then
      some (.inl ((v3 + (1 : Int32)), (v8 + (1 : Int32))))
    else
      some (.inr (.inr (0 : Int32)))
set_option maxHeartbeats 1000000 in
theorem t_X1_isInstance_93 {tg r : Nat → Nat} {h : hp_H} {s : st_T} {n : Nat} {v0 : Nat} {v1 : Int32} {v2 : Int32} {v3 : Int32} {v4 : Int32} {v5 : Int32} {v6 : Int32} {v7 : Int32} {v8 : Int32} (I : iso tg r h s) (T_v0 : tg v0 = 11) {res : (Int32 × Int32) ⊕ ((Int32) ⊕ (Int32))} (hm : g_X1_isInstance_93 n v0 v1 v2 v3 v4 v5 v6 v7 v8 s = some res) : f_X1_isInstance_93 n (r v0) v1 v2 v3 v4 v5 v6 v7 v8 h = some res := by
  unfold g_X1_isInstance_93 at hm
  unfold f_X1_isInstance_93
  by_cases c8 : v7 ≤ v8
  · rw [if_pos c8] at hm ⊢
    obtain rfl := Option.some.inj hm
    rfl
  · rw [if_neg c8] at hm ⊢
    have T1 : tg (gP s v0 0) = 15 := t_tg (c := 1) I T_v0 (by decide) (by decide) rfl (by decide)
    refine tr_eq0 (t_fR I T_v0 (by decide) (by decide) (by decide)) ?_
    obtain ⟨x2, hx2, hm⟩ := hp_bd hm
    refine tr_eq0 (t_X5_get I T1 hx2) ?_
    have T3 : tg (gP s v0 0) = 15 := t_tg (c := 1) I T_v0 (by decide) (by decide) rfl (by decide)
    refine tr_eq0 (t_fR I T_v0 (by decide) (by decide) (by decide)) ?_
    have T4 : tg (gP s v0 3) = 0 := t_tg (c := 1) I T_v0 (by decide) (by decide) rfl (by decide)
    refine tr_eq0 (t_fR I T_v0 (by decide) (by decide) (by decide)) ?_
    obtain ⟨x5, hx5, hm⟩ := hp_bd hm
    refine tr_eq0 (t_aI I T4 (by decide) rfl hx5) ?_
    obtain ⟨x6, hx6, hm⟩ := hp_bd hm
    refine tr_eq0 (t_X5_get I T3 hx6) ?_
    by_cases c7 : x2 = x6
    · rw [if_pos c7] at hm ⊢
      obtain rfl := Option.some.inj hm
      rfl
    · rw [if_neg c7] at hm ⊢
      obtain rfl := Option.some.inj hm
      rfl
def gL_X1_isInstance_93 (n : Nat) (v0 : Nat) (v1 : Int32) (v2 : Int32) (v4 : Int32) (v5 : Int32) (v6 : Int32) (v7 : Int32) (s : st_T) (c : Int32 × Int32) : Option ((Int32 × Int32) ⊕ ((Int32) ⊕ (Int32))) := g_X1_isInstance_93 n v0 v1 v2 c.1 v4 v5 v6 v7 c.2 s
theorem tl_X1_isInstance_93 {tg r : Nat → Nat} {h : hp_H} {s : st_T} {n : Nat} {v0 : Nat} {v1 : Int32} {v2 : Int32} {v4 : Int32} {v5 : Int32} {v6 : Int32} {v7 : Int32} (I : iso tg r h s) (T_v0 : tg v0 = 11) : ∀ (k : Nat) (c : Int32 × Int32) (x : (Int32) ⊕ (Int32)), hp_lp (gL_X1_isInstance_93 n v0 v1 v2 v4 v5 v6 v7 s) k c = some x → hp_lp (fL_X1_isInstance_93 n (r v0) v1 v2 v4 v5 v6 v7 h) k c = some x := by
  intro k
  induction k with
  | zero => intro c x hx; exact (hp_lp_0 hx).elim
  | succ k ih =>
    intro c x hx
    obtain ⟨rr, hr, hc⟩ := hp_lp_1 hx
    have e2 := t_X1_isInstance_93 I T_v0 hr
    rcases hc with ⟨s3, e3, hx3⟩ | e3
    · subst e3
      exact hp_lp_s e2 (ih _ _ hx3)
    · subst e3
      exact hp_lp_x e2
def g_X1_isInstance_139 (n : Nat) (v0 : Nat) (v1 : Int32) (v2 : Int32) (v3 : Int32) (v4 : Int32) (v5 : Int32) (s : st_T) : Option ((Int32 × Int32) ⊕ ((Int32) ⊕ (Int32))) :=
  some (.inl (v3, (v5 + (1 : Int32))))
set_option maxHeartbeats 1000000 in
theorem t_X1_isInstance_139 {tg r : Nat → Nat} {h : hp_H} {s : st_T} {n : Nat} {v0 : Nat} {v1 : Int32} {v2 : Int32} {v3 : Int32} {v4 : Int32} {v5 : Int32} (I : iso tg r h s) (T_v0 : tg v0 = 11) {res : (Int32 × Int32) ⊕ ((Int32) ⊕ (Int32))} (hm : g_X1_isInstance_139 n v0 v1 v2 v3 v4 v5 s = some res) : f_X1_isInstance_139 n (r v0) v1 v2 v3 v4 v5 h = some res := by
  unfold g_X1_isInstance_139 at hm
  unfold f_X1_isInstance_139
  obtain rfl := Option.some.inj hm
  rfl
def g_X1_isInstance_18 (n : Nat) (v0 : Nat) (v1 : Int32) (v2 : Int32) (v3 : Int32) (v4 : Int32) (v5 : Int32) (s : st_T) : Option ((Int32 × Int32) ⊕ ((Int32) ⊕ (Int32))) :=
  if v4 ≤ v5 then
    some (.inr (.inl v3))
  else
    (g_X5_get n (gP s (gP s v0 2) 9) v1 v5 s).bind fun x3 =>
    (g_X0_isVariable n (gP s v0 2) x3 s).bind fun x5 =>
    if x5 = 0 then
      (g_X5_get n (gP s v0 0) v2 v3 s).bind fun x14 =>
      if x14 = x3 then
        g_X1_isInstance_139 n v0 v1 v2 (v3 + (1 : Int32)) v4 v5 s
      else
        some (.inr (.inr (0 : Int32)))
    else
      (gA s (gP s v0 3) x3).bind fun x8 =>
      (g_X5_size n (gP s v0 0) x8 s).bind fun x9 =>
      (hp_lp (gL_X1_isInstance_93 n v0 v1 v2 v4 v5 x3 x9 s) n (v3, (1 : Int32))).bind fun x10 =>
      Sum.elim (fun y11 =>
        g_X1_isInstance_139 n v0 v1 v2 y11 v4 v5 s) (fun y12 =>
        some (.inr (.inr y12))) x10
set_option maxHeartbeats 1000000 in
theorem t_X1_isInstance_18 {tg r : Nat → Nat} {h : hp_H} {s : st_T} {n : Nat} {v0 : Nat} {v1 : Int32} {v2 : Int32} {v3 : Int32} {v4 : Int32} {v5 : Int32} (I : iso tg r h s) (T_v0 : tg v0 = 11) {res : (Int32 × Int32) ⊕ ((Int32) ⊕ (Int32))} (hm : g_X1_isInstance_18 n v0 v1 v2 v3 v4 v5 s = some res) : f_X1_isInstance_18 n (r v0) v1 v2 v3 v4 v5 h = some res := by
  unfold g_X1_isInstance_18 at hm
  unfold f_X1_isInstance_18
  by_cases c17 : v4 ≤ v5
  · rw [if_pos c17] at hm ⊢
    obtain rfl := Option.some.inj hm
    rfl
  · rw [if_neg c17] at hm ⊢
    have T1 : tg (gP s v0 2) = 10 := t_tg (c := 1) I T_v0 (by decide) (by decide) rfl (by decide)
    refine tr_eq0 (t_fR I T_v0 (by decide) (by decide) (by decide)) ?_
    have T2 : tg (gP s (gP s v0 2) 9) = 15 := t_tg (c := 0) I T1 (by decide) (by decide) rfl (by decide)
    refine tr_eq0 (t_fR I T1 (by decide) (by decide) (by decide)) ?_
    obtain ⟨x3, hx3, hm⟩ := hp_bd hm
    refine tr_eq0 (t_X5_get I T2 hx3) ?_
    have T4 : tg (gP s v0 2) = 10 := t_tg (c := 1) I T_v0 (by decide) (by decide) rfl (by decide)
    refine tr_eq0 (t_fR I T_v0 (by decide) (by decide) (by decide)) ?_
    obtain ⟨x5, hx5, hm⟩ := hp_bd hm
    refine tr_eq0 (t_X0_isVariable I T4 hx5) ?_
    by_cases c16 : x5 = 0
    · rw [if_pos c16] at hm ⊢
      have T13 : tg (gP s v0 0) = 15 := t_tg (c := 1) I T_v0 (by decide) (by decide) rfl (by decide)
      refine tr_eq0 (t_fR I T_v0 (by decide) (by decide) (by decide)) ?_
      obtain ⟨x14, hx14, hm⟩ := hp_bd hm
      refine tr_eq0 (t_X5_get I T13 hx14) ?_
      by_cases c15 : x14 = x3
      · rw [if_pos c15] at hm ⊢
        exact t_X1_isInstance_139 I T_v0 hm
      · rw [if_neg c15] at hm ⊢
        obtain rfl := Option.some.inj hm
        rfl
    · rw [if_neg c16] at hm ⊢
      have T6 : tg (gP s v0 0) = 15 := t_tg (c := 1) I T_v0 (by decide) (by decide) rfl (by decide)
      refine tr_eq0 (t_fR I T_v0 (by decide) (by decide) (by decide)) ?_
      have T7 : tg (gP s v0 3) = 0 := t_tg (c := 1) I T_v0 (by decide) (by decide) rfl (by decide)
      refine tr_eq0 (t_fR I T_v0 (by decide) (by decide) (by decide)) ?_
      obtain ⟨x8, hx8, hm⟩ := hp_bd hm
      refine tr_eq0 (t_aI I T7 (by decide) rfl hx8) ?_
      obtain ⟨x9, hx9, hm⟩ := hp_bd hm
      refine tr_eq0 (t_X5_size I T6 hx9) ?_
      obtain ⟨x10, hx10, hm⟩ := hp_bd hm
      refine tr_eq0 (tl_X1_isInstance_93 I T_v0 n _ _ hx10) ?_
      rcases x10 with y11 | y12
      · simp only [Sum.elim_inl, Sum.elim_inr] at hm ⊢
        exact t_X1_isInstance_139 I T_v0 hm
      · simp only [Sum.elim_inl, Sum.elim_inr] at hm ⊢
        obtain rfl := Option.some.inj hm
        rfl
def gL_X1_isInstance_18 (n : Nat) (v0 : Nat) (v1 : Int32) (v2 : Int32) (v4 : Int32) (s : st_T) (c : Int32 × Int32) : Option ((Int32 × Int32) ⊕ ((Int32) ⊕ (Int32))) := g_X1_isInstance_18 n v0 v1 v2 c.1 v4 c.2 s
theorem tl_X1_isInstance_18 {tg r : Nat → Nat} {h : hp_H} {s : st_T} {n : Nat} {v0 : Nat} {v1 : Int32} {v2 : Int32} {v4 : Int32} (I : iso tg r h s) (T_v0 : tg v0 = 11) : ∀ (k : Nat) (c : Int32 × Int32) (x : (Int32) ⊕ (Int32)), hp_lp (gL_X1_isInstance_18 n v0 v1 v2 v4 s) k c = some x → hp_lp (fL_X1_isInstance_18 n (r v0) v1 v2 v4 h) k c = some x := by
  intro k
  induction k with
  | zero => intro c x hx; exact (hp_lp_0 hx).elim
  | succ k ih =>
    intro c x hx
    obtain ⟨rr, hr, hc⟩ := hp_lp_1 hx
    have e2 := t_X1_isInstance_18 I T_v0 hr
    rcases hc with ⟨s3, e3, hx3⟩ | e3
    · subst e3
      exact hp_lp_s e2 (ih _ _ hx3)
    · subst e3
      exact hp_lp_x e2
def g_X1_isInstance_0 (n : Nat) (v0 : Nat) (v1 : Int32) (v2 : Int32) (s : st_T) : Option (Int32) :=
  (g_X5_size n (gP s (gP s v0 2) 9) v1 s).bind fun x3 =>
  (hp_lp (gL_X1_isInstance_18 n v0 v1 v2 x3 s) n ((0 : Int32), (0 : Int32))).bind fun x4 =>
  Sum.elim (fun y5 =>
    (g_X5_size n (gP s v0 0) v2 s).bind fun x8 =>
    if y5 = x8 then
      some (1 : Int32)
    else
      some (0 : Int32)) (fun y6 =>
    some y6) x4
set_option maxHeartbeats 1000000 in
theorem t_X1_isInstance_0 {tg r : Nat → Nat} {h : hp_H} {s : st_T} {n : Nat} {v0 : Nat} {v1 : Int32} {v2 : Int32} (I : iso tg r h s) (T_v0 : tg v0 = 11) {res : Int32} (hm : g_X1_isInstance_0 n v0 v1 v2 s = some res) : f_X1_isInstance_0 n (r v0) v1 v2 h = some res := by
  unfold g_X1_isInstance_0 at hm
  unfold f_X1_isInstance_0
  have T1 : tg (gP s v0 2) = 10 := t_tg (c := 1) I T_v0 (by decide) (by decide) rfl (by decide)
  refine tr_eq0 (t_fR I T_v0 (by decide) (by decide) (by decide)) ?_
  have T2 : tg (gP s (gP s v0 2) 9) = 15 := t_tg (c := 0) I T1 (by decide) (by decide) rfl (by decide)
  refine tr_eq0 (t_fR I T1 (by decide) (by decide) (by decide)) ?_
  obtain ⟨x3, hx3, hm⟩ := hp_bd hm
  refine tr_eq0 (t_X5_size I T2 hx3) ?_
  obtain ⟨x4, hx4, hm⟩ := hp_bd hm
  refine tr_eq0 (tl_X1_isInstance_18 I T_v0 n _ _ hx4) ?_
  rcases x4 with y5 | y6
  · simp only [Sum.elim_inl, Sum.elim_inr] at hm ⊢
    have T7 : tg (gP s v0 0) = 15 := t_tg (c := 1) I T_v0 (by decide) (by decide) rfl (by decide)
    refine tr_eq0 (t_fR I T_v0 (by decide) (by decide) (by decide)) ?_
    obtain ⟨x8, hx8, hm⟩ := hp_bd hm
    refine tr_eq0 (t_X5_size I T7 hx8) ?_
    by_cases c9 : y5 = x8
    · rw [if_pos c9] at hm ⊢
      obtain rfl := Option.some.inj hm
      rfl
    · rw [if_neg c9] at hm ⊢
      obtain rfl := Option.some.inj hm
      rfl
  · simp only [Sum.elim_inl, Sum.elim_inr] at hm ⊢
    obtain rfl := Option.some.inj hm
    rfl
def g_X1_isInstance (n : Nat) (v0 : Nat) (v1 : Int32) (v2 : Int32) (s : st_T) : Option (Int32) := g_X1_isInstance_0 n v0 v1 v2 s
theorem t_X1_isInstance {tg r : Nat → Nat} {h : hp_H} {s : st_T} {n : Nat} {v0 : Nat} {v1 : Int32} {v2 : Int32} (I : iso tg r h s) (T_v0 : tg v0 = 11) {res : Int32} (hm : g_X1_isInstance n v0 v1 v2 s = some res) : f_X1_isInstance n (r v0) v1 v2 h = some res := by
  unfold g_X1_isInstance at hm
  unfold f_X1_isInstance
  refine tr_eq0 (t_ck I T_v0 (by decide)) ?_
  exact t_X1_isInstance_0 I T_v0 hm
def g_X1_fit_0 (n : Nat) (v0 : Nat) (v1 : Int32) (v2 : Int32) (s : st_T) : Option (Int32 × st_T) :=
  (gA s (gP s (gP s v0 2) 6) v1).bind fun x3 =>
  if x3 = (1 : Int32) then
    (g_X1_isInstance n v0 v1 v2 s).bind fun x15 =>
    if x15 = 0 then
      some ((-6 : Int32), s)
    else
      some ((0 : Int32), s)
  else
    (g_X5_get n (gP s v0 0) v2 (0 : Int32) s).bind fun x5 =>
    (g_X5_get n (gP s (gP s v0 2) 9) v1 (0 : Int32) s).bind fun x8 =>
    if x5 = x8 then
      (g_X5_get n (gP s (gP s v0 2) 9) v1 (1 : Int32) s).bind fun x12 =>
      (uA 0 s (gP s v0 3) x12 v2).bind fun w13 =>
      some ((0 : Int32), w13)
    else
      some ((-5 : Int32), s)
set_option maxHeartbeats 1000000 in
theorem t_X1_fit_0 {tg r : Nat → Nat} {h hb : hp_H} {s sb : st_T} {n : Nat} {v0 : Nat} {v1 : Int32} {v2 : Int32} (I : iso tg r h s) (F : isf tg r hb h sb s) (T_v0 : tg v0 = 11) {res : Int32 × st_T} (hm : g_X1_fit_0 n v0 v1 v2 s = some res) : ∃ h2, f_X1_fit_0 n (r v0) v1 v2 h = some ((res.1, h2)) ∧ iso tg r h2 res.2 ∧ isf tg r hb h2 sb res.2 := by
  unfold g_X1_fit_0 at hm
  unfold f_X1_fit_0
  have T1 : tg (gP s v0 2) = 10 := t_tg (c := 1) I T_v0 (by decide) (by decide) rfl (by decide)
  refine tr_eq (t_fR I T_v0 (by decide) (by decide) (by decide)) ?_
  have T2 : tg (gP s (gP s v0 2) 6) = 0 := t_tg (c := 0) I T1 (by decide) (by decide) rfl (by decide)
  refine tr_eq (t_fR I T1 (by decide) (by decide) (by decide)) ?_
  obtain ⟨x3, hx3, hm⟩ := hp_bd hm
  refine tr_eq (t_aI I T2 (by decide) rfl hx3) ?_
  by_cases c17 : x3 = (1 : Int32)
  · rw [if_pos c17] at hm ⊢
    obtain ⟨x15, hx15, hm⟩ := hp_bd hm
    refine tr_eq (t_X1_isInstance I T_v0 hx15) ?_
    by_cases c16 : x15 = 0
    · rw [if_pos c16] at hm ⊢
      obtain rfl := Option.some.inj hm
      exact ⟨_, rfl, I, F⟩
    · rw [if_neg c16] at hm ⊢
      obtain rfl := Option.some.inj hm
      exact ⟨_, rfl, I, F⟩
  · rw [if_neg c17] at hm ⊢
    have T4 : tg (gP s v0 0) = 15 := t_tg (c := 1) I T_v0 (by decide) (by decide) rfl (by decide)
    refine tr_eq (t_fR I T_v0 (by decide) (by decide) (by decide)) ?_
    obtain ⟨x5, hx5, hm⟩ := hp_bd hm
    refine tr_eq (t_X5_get I T4 hx5) ?_
    have T6 : tg (gP s v0 2) = 10 := t_tg (c := 1) I T_v0 (by decide) (by decide) rfl (by decide)
    refine tr_eq (t_fR I T_v0 (by decide) (by decide) (by decide)) ?_
    have T7 : tg (gP s (gP s v0 2) 9) = 15 := t_tg (c := 0) I T6 (by decide) (by decide) rfl (by decide)
    refine tr_eq (t_fR I T6 (by decide) (by decide) (by decide)) ?_
    obtain ⟨x8, hx8, hm⟩ := hp_bd hm
    refine tr_eq (t_X5_get I T7 hx8) ?_
    by_cases c14 : x5 = x8
    · rw [if_pos c14] at hm ⊢
      have T9 : tg (gP s v0 3) = 0 := t_tg (c := 1) I T_v0 (by decide) (by decide) rfl (by decide)
      refine tr_eq (t_fR I T_v0 (by decide) (by decide) (by decide)) ?_
      have T10 : tg (gP s v0 2) = 10 := t_tg (c := 1) I T_v0 (by decide) (by decide) rfl (by decide)
      refine tr_eq (t_fR I T_v0 (by decide) (by decide) (by decide)) ?_
      have T11 : tg (gP s (gP s v0 2) 9) = 15 := t_tg (c := 0) I T10 (by decide) (by decide) rfl (by decide)
      refine tr_eq (t_fR I T10 (by decide) (by decide) (by decide)) ?_
      obtain ⟨x12, hx12, hm⟩ := hp_bd hm
      refine tr_eq (t_X5_get I T11 hx12) ?_
      obtain ⟨w13, hw13, hm⟩ := hp_bd hm
      obtain ⟨_, e2, I, F⟩ := t_sI I F T9 (by decide) rfl hw13
      refine tr_eq e2 ?_
      obtain rfl := Option.some.inj hm
      exact ⟨_, rfl, I, F⟩
    · rw [if_neg c14] at hm ⊢
      obtain rfl := Option.some.inj hm
      exact ⟨_, rfl, I, F⟩
def g_X1_fit (n : Nat) (v0 : Nat) (v1 : Int32) (v2 : Int32) (s : st_T) : Option (Int32 × st_T) := g_X1_fit_0 n v0 v1 v2 s
theorem t_X1_fit {tg r : Nat → Nat} {h hb : hp_H} {s sb : st_T} {n : Nat} {v0 : Nat} {v1 : Int32} {v2 : Int32} (I : iso tg r h s) (F : isf tg r hb h sb s) (T_v0 : tg v0 = 11) {res : Int32 × st_T} (hm : g_X1_fit n v0 v1 v2 s = some res) : ∃ h2, f_X1_fit n (r v0) v1 v2 h = some ((res.1, h2)) ∧ iso tg r h2 res.2 ∧ isf tg r hb h2 sb res.2 := by
  unfold g_X1_fit at hm
  unfold f_X1_fit
  refine tr_eq (t_ck I T_v0 (by decide)) ?_
  exact t_X1_fit_0 I F T_v0 hm
def g_X1_isPartnerOfOthers_2 (n : Nat) (v0 : Nat) (v1 : Int32) (v2 : Int32) (s : st_T) : Option ((Int32) ⊕ (Int32)) :=
  if (5 : Int32) ≤ v2 then
    some (.inr (1 : Int32))
  else
    (gJ s (gP s v0 5) v2).bind fun x2 =>
    (gJ s (gP s v0 4) ((v1 * (5 : Int32)) + v2)).bind fun x4 =>
    if (lg_cmp (x2 &&& (x4 ^^^ (-1 : Int64))) (0 : Int64)) = 0 then
      some (.inl (v2 + (1 : Int32)))
    else
      some (.inr (0 : Int32))
set_option maxHeartbeats 1000000 in
theorem t_X1_isPartnerOfOthers_2 {tg r : Nat → Nat} {h : hp_H} {s : st_T} {n : Nat} {v0 : Nat} {v1 : Int32} {v2 : Int32} (I : iso tg r h s) (T_v0 : tg v0 = 11) {res : (Int32) ⊕ (Int32)} (hm : g_X1_isPartnerOfOthers_2 n v0 v1 v2 s = some res) : f_X1_isPartnerOfOthers_2 n (r v0) v1 v2 h = some res := by
  unfold g_X1_isPartnerOfOthers_2 at hm
  unfold f_X1_isPartnerOfOthers_2
  by_cases c6 : (5 : Int32) ≤ v2
  · rw [if_pos c6] at hm ⊢
    obtain rfl := Option.some.inj hm
    rfl
  · rw [if_neg c6] at hm ⊢
    have T1 : tg (gP s v0 5) = 3 := t_tg (c := 1) I T_v0 (by decide) (by decide) rfl (by decide)
    refine tr_eq0 (t_fR I T_v0 (by decide) (by decide) (by decide)) ?_
    obtain ⟨x2, hx2, hm⟩ := hp_bd hm
    refine tr_eq0 (t_aJ I T1 hx2) ?_
    have T3 : tg (gP s v0 4) = 3 := t_tg (c := 1) I T_v0 (by decide) (by decide) rfl (by decide)
    refine tr_eq0 (t_fR I T_v0 (by decide) (by decide) (by decide)) ?_
    obtain ⟨x4, hx4, hm⟩ := hp_bd hm
    refine tr_eq0 (t_aJ I T3 hx4) ?_
    by_cases c5 : (lg_cmp (x2 &&& (x4 ^^^ (-1 : Int64))) (0 : Int64)) = 0
    · rw [if_pos c5] at hm ⊢
      obtain rfl := Option.some.inj hm
      rfl
    · rw [if_neg c5] at hm ⊢
      obtain rfl := Option.some.inj hm
      rfl
def gL_X1_isPartnerOfOthers_2 (n : Nat) (v0 : Nat) (v1 : Int32) (s : st_T) (c : Int32) : Option ((Int32) ⊕ (Int32)) := g_X1_isPartnerOfOthers_2 n v0 v1 c s
theorem tl_X1_isPartnerOfOthers_2 {tg r : Nat → Nat} {h : hp_H} {s : st_T} {n : Nat} {v0 : Nat} {v1 : Int32} (I : iso tg r h s) (T_v0 : tg v0 = 11) : ∀ (k : Nat) (c : Int32) (x : Int32), hp_lp (gL_X1_isPartnerOfOthers_2 n v0 v1 s) k c = some x → hp_lp (fL_X1_isPartnerOfOthers_2 n (r v0) v1 h) k c = some x := by
  intro k
  induction k with
  | zero => intro c x hx; exact (hp_lp_0 hx).elim
  | succ k ih =>
    intro c x hx
    obtain ⟨rr, hr, hc⟩ := hp_lp_1 hx
    have e2 := t_X1_isPartnerOfOthers_2 I T_v0 hr
    rcases hc with ⟨s3, e3, hx3⟩ | e3
    · subst e3
      exact hp_lp_s e2 (ih _ _ hx3)
    · subst e3
      exact hp_lp_x e2
def g_X1_isPartnerOfOthers_0 (n : Nat) (v0 : Nat) (v1 : Int32) (s : st_T) : Option (Int32) :=
  (hp_lp (gL_X1_isPartnerOfOthers_2 n v0 v1 s) n (0 : Int32)).bind fun x1 =>
  some x1
set_option maxHeartbeats 1000000 in
theorem t_X1_isPartnerOfOthers_0 {tg r : Nat → Nat} {h : hp_H} {s : st_T} {n : Nat} {v0 : Nat} {v1 : Int32} (I : iso tg r h s) (T_v0 : tg v0 = 11) {res : Int32} (hm : g_X1_isPartnerOfOthers_0 n v0 v1 s = some res) : f_X1_isPartnerOfOthers_0 n (r v0) v1 h = some res := by
  unfold g_X1_isPartnerOfOthers_0 at hm
  unfold f_X1_isPartnerOfOthers_0
  obtain ⟨x1, hx1, hm⟩ := hp_bd hm
  refine tr_eq0 (tl_X1_isPartnerOfOthers_2 I T_v0 n _ _ hx1) ?_
  obtain rfl := Option.some.inj hm
  rfl
def g_X1_isPartnerOfOthers (n : Nat) (v0 : Nat) (v1 : Int32) (s : st_T) : Option (Int32) := g_X1_isPartnerOfOthers_0 n v0 v1 s
theorem t_X1_isPartnerOfOthers {tg r : Nat → Nat} {h : hp_H} {s : st_T} {n : Nat} {v0 : Nat} {v1 : Int32} (I : iso tg r h s) (T_v0 : tg v0 = 11) {res : Int32} (hm : g_X1_isPartnerOfOthers n v0 v1 s = some res) : f_X1_isPartnerOfOthers n (r v0) v1 h = some res := by
  unfold g_X1_isPartnerOfOthers at hm
  unfold f_X1_isPartnerOfOthers
  refine tr_eq0 (t_ck I T_v0 (by decide)) ?_
  exact t_X1_isPartnerOfOthers_0 I T_v0 hm
abbrev eX_X1_areApart_20 (x : st_T) (h2 : hp_H) : hp_H := (fun y => h2) x
abbrev sX_X1_areApart_20 (x : st_T) : st_T := (fun y => y) x
abbrev eR_X1_areApart_20 (x : (Int32 × st_T) ⊕ (st_T)) (h2 : hp_H) : (Int32 × hp_H) ⊕ (hp_H) := Sum.elim (fun y => .inl (y.1, h2)) (fun y => .inr (eX_X1_areApart_20 y h2)) x
abbrev sR_X1_areApart_20 (x : (Int32 × st_T) ⊕ (st_T)) : st_T := Sum.elim (fun y => y.2) sX_X1_areApart_20 x
def g_X1_areApart_70 (n : Nat) (v0 : Nat) (v1 : Int32) (v2 : Int32) (v3 : Int32) (v4 : Int32) (s : st_T) : Option ((Int32 × st_T) ⊕ (st_T)) :=
  some (.inl ((v4 + (1 : Int32)), s))
set_option maxHeartbeats 1000000 in
theorem t_X1_areApart_70 {tg r : Nat → Nat} {h hb : hp_H} {s sb : st_T} {n : Nat} {v0 : Nat} {v1 : Int32} {v2 : Int32} {v3 : Int32} {v4 : Int32} (I : iso tg r h s) (F : isf tg r hb h sb s) (T_v0 : tg v0 = 11) {res : (Int32 × st_T) ⊕ (st_T)} (hm : g_X1_areApart_70 n v0 v1 v2 v3 v4 s = some res) : ∃ h2, f_X1_areApart_70 n (r v0) v1 v2 v3 v4 h = some (eR_X1_areApart_20 res h2) ∧ iso tg r h2 (sR_X1_areApart_20 res) ∧ isf tg r hb h2 sb (sR_X1_areApart_20 res) := by
  unfold g_X1_areApart_70 at hm
  unfold f_X1_areApart_70
  obtain rfl := Option.some.inj hm
  exact ⟨_, rfl, I, F⟩
def g_X1_areApart_20 (n : Nat) (v0 : Nat) (v1 : Int32) (v2 : Int32) (v3 : Int32) (v4 : Int32) (s : st_T) : Option ((Int32 × st_T) ⊕ (st_T)) :=
  if v3 ≤ v4 then
    some (.inr s)
  else
    (g_X5_get n (gP s v0 0) v2 v4 s).bind fun x2 =>
    (g_X0_isVariable n (gP s v0 2) x2 s).bind fun x4 =>
    if x4 = 0 then
      g_X1_areApart_70 n v0 v1 v2 v3 v4 s
    else
      (gJ s (gP s v0 5) (x2 / (64 : Int32))).bind fun x6 =>
      (uJ s (gP s v0 5) (x2 / (64 : Int32)) (x6 ||| ((1 : Int64) <<< (Int32.toInt64 (x2 - x2 / (64 : Int32) * (64 : Int32)) &&& 63)))).bind fun w7 =>
      g_X1_areApart_70 n v0 v1 v2 v3 v4 w7
set_option maxHeartbeats 1000000 in
theorem t_X1_areApart_20 {tg r : Nat → Nat} {h hb : hp_H} {s sb : st_T} {n : Nat} {v0 : Nat} {v1 : Int32} {v2 : Int32} {v3 : Int32} {v4 : Int32} (I : iso tg r h s) (F : isf tg r hb h sb s) (T_v0 : tg v0 = 11) {res : (Int32 × st_T) ⊕ (st_T)} (hm : g_X1_areApart_20 n v0 v1 v2 v3 v4 s = some res) : ∃ h2, f_X1_areApart_20 n (r v0) v1 v2 v3 v4 h = some (eR_X1_areApart_20 res h2) ∧ iso tg r h2 (sR_X1_areApart_20 res) ∧ isf tg r hb h2 sb (sR_X1_areApart_20 res) := by
  unfold g_X1_areApart_20 at hm
  unfold f_X1_areApart_20
  by_cases c9 : v3 ≤ v4
  · rw [if_pos c9] at hm ⊢
    obtain rfl := Option.some.inj hm
    exact ⟨_, rfl, I, F⟩
  · rw [if_neg c9] at hm ⊢
    have T1 : tg (gP s v0 0) = 15 := t_tg (c := 1) I T_v0 (by decide) (by decide) rfl (by decide)
    refine tr_eq (t_fR I T_v0 (by decide) (by decide) (by decide)) ?_
    obtain ⟨x2, hx2, hm⟩ := hp_bd hm
    refine tr_eq (t_X5_get I T1 hx2) ?_
    have T3 : tg (gP s v0 2) = 10 := t_tg (c := 1) I T_v0 (by decide) (by decide) rfl (by decide)
    refine tr_eq (t_fR I T_v0 (by decide) (by decide) (by decide)) ?_
    obtain ⟨x4, hx4, hm⟩ := hp_bd hm
    refine tr_eq (t_X0_isVariable I T3 hx4) ?_
    by_cases c8 : x4 = 0
    · rw [if_pos c8] at hm ⊢
      exact t_X1_areApart_70 I F T_v0 hm
    · rw [if_neg c8] at hm ⊢
      have T5 : tg (gP s v0 5) = 3 := t_tg (c := 1) I T_v0 (by decide) (by decide) rfl (by decide)
      refine tr_eq (t_fR I T_v0 (by decide) (by decide) (by decide)) ?_
      obtain ⟨x6, hx6, hm⟩ := hp_bd hm
      refine tr_eq (t_aJ I T5 hx6) ?_
      obtain ⟨w7, hw7, hm⟩ := hp_bd hm
      obtain ⟨_, e2, I, F⟩ := t_sJ I F T5 hw7
      refine tr_eq e2 ?_
      exact t_X1_areApart_70 I F T_v0 hm
def gL_X1_areApart_20 (n : Nat) (v0 : Nat) (v1 : Int32) (v2 : Int32) (v3 : Int32) (c : Int32 × st_T) : Option ((Int32 × st_T) ⊕ (st_T)) := g_X1_areApart_20 n v0 v1 v2 v3 c.1 c.2
theorem tl_X1_areApart_20 {tg r : Nat → Nat} {hb : hp_H} {sb : st_T} {n : Nat} {v0 : Nat} {v1 : Int32} {v2 : Int32} {v3 : Int32} (T_v0 : tg v0 = 11) : ∀ (k : Nat) (c0 : Int32) (h : hp_H) (s : st_T) (x : st_T), iso tg r h s → isf tg r hb h sb s → hp_lp (gL_X1_areApart_20 n v0 v1 v2 v3) k (c0, s) = some x → ∃ h2, hp_lp (fL_X1_areApart_20 n (r v0) v1 v2 v3) k (c0, h) = some (eX_X1_areApart_20 x h2) ∧ iso tg r h2 (sX_X1_areApart_20 x) ∧ isf tg r hb h2 sb (sX_X1_areApart_20 x) := by
  intro k
  induction k with
  | zero => intro c0 h s x I F hx; exact (hp_lp_0 hx).elim
  | succ k ih =>
    intro c0 h s x I F hx
    obtain ⟨rr, hr, hc⟩ := hp_lp_1 hx
    obtain ⟨h2, e2, I2, F2⟩ := t_X1_areApart_20 I F T_v0 hr
    rcases hc with ⟨s3, e3, hx3⟩ | e3
    · subst e3
      obtain ⟨h3, e4, I3, F3⟩ := ih _ h2 _ x I2 F2 hx3
      exact ⟨h3, hp_lp_s e2 e4, I3, F3⟩
    · subst e3
      exact ⟨h2, hp_lp_x e2, I2, F2⟩
def g_X1_areApart_129 (n : Nat) (v0 : Nat) (v1 : Int32) (v3 : Int32) (v4 : Int32) (s : st_T) : Option ((Int32) ⊕ (Int32)) :=
  some (.inl (v4 + (1 : Int32)))
set_option maxHeartbeats 1000000 in
theorem t_X1_areApart_129 {tg r : Nat → Nat} {h : hp_H} {s : st_T} {n : Nat} {v0 : Nat} {v1 : Int32} {v3 : Int32} {v4 : Int32} (I : iso tg r h s) (T_v0 : tg v0 = 11) {res : (Int32) ⊕ (Int32)} (hm : g_X1_areApart_129 n v0 v1 v3 v4 s = some res) : f_X1_areApart_129 n (r v0) v1 v3 v4 h = some res := by
  unfold g_X1_areApart_129 at hm
  unfold f_X1_areApart_129
  obtain rfl := Option.some.inj hm
  rfl
def g_X1_areApart_88 (n : Nat) (v0 : Nat) (v1 : Int32) (v3 : Int32) (v4 : Int32) (s : st_T) : Option ((Int32) ⊕ (Int32)) :=
  if v3 ≤ v4 then
    some (.inr (1 : Int32))
  else
    (g_X5_get n (gP s v0 0) v1 v4 s).bind fun x2 =>
    (g_X0_isVariable n (gP s v0 2) x2 s).bind fun x4 =>
    if x4 = 0 then
      g_X1_areApart_129 n v0 v1 v3 v4 s
    else
      (g_X1_isPartnerOfOthers n v0 x2 s).bind fun x5 =>
      if x5 = 0 then
        some (.inr (0 : Int32))
      else
        g_X1_areApart_129 n v0 v1 v3 v4 s
set_option maxHeartbeats 1000000 in
theorem t_X1_areApart_88 {tg r : Nat → Nat} {h : hp_H} {s : st_T} {n : Nat} {v0 : Nat} {v1 : Int32} {v3 : Int32} {v4 : Int32} (I : iso tg r h s) (T_v0 : tg v0 = 11) {res : (Int32) ⊕ (Int32)} (hm : g_X1_areApart_88 n v0 v1 v3 v4 s = some res) : f_X1_areApart_88 n (r v0) v1 v3 v4 h = some res := by
  unfold g_X1_areApart_88 at hm
  unfold f_X1_areApart_88
  by_cases c8 : v3 ≤ v4
  · rw [if_pos c8] at hm ⊢
    obtain rfl := Option.some.inj hm
    rfl
  · rw [if_neg c8] at hm ⊢
    have T1 : tg (gP s v0 0) = 15 := t_tg (c := 1) I T_v0 (by decide) (by decide) rfl (by decide)
    refine tr_eq0 (t_fR I T_v0 (by decide) (by decide) (by decide)) ?_
    obtain ⟨x2, hx2, hm⟩ := hp_bd hm
    refine tr_eq0 (t_X5_get I T1 hx2) ?_
    have T3 : tg (gP s v0 2) = 10 := t_tg (c := 1) I T_v0 (by decide) (by decide) rfl (by decide)
    refine tr_eq0 (t_fR I T_v0 (by decide) (by decide) (by decide)) ?_
    obtain ⟨x4, hx4, hm⟩ := hp_bd hm
    refine tr_eq0 (t_X0_isVariable I T3 hx4) ?_
    by_cases c7 : x4 = 0
    · rw [if_pos c7] at hm ⊢
      exact t_X1_areApart_129 I T_v0 hm
    · rw [if_neg c7] at hm ⊢
      obtain ⟨x5, hx5, hm⟩ := hp_bd hm
      refine tr_eq0 (t_X1_isPartnerOfOthers I T_v0 hx5) ?_
      by_cases c6 : x5 = 0
      · rw [if_pos c6] at hm ⊢
        obtain rfl := Option.some.inj hm
        rfl
      · rw [if_neg c6] at hm ⊢
        exact t_X1_areApart_129 I T_v0 hm
def gL_X1_areApart_88 (n : Nat) (v0 : Nat) (v1 : Int32) (v3 : Int32) (s : st_T) (c : Int32) : Option ((Int32) ⊕ (Int32)) := g_X1_areApart_88 n v0 v1 v3 c s
theorem tl_X1_areApart_88 {tg r : Nat → Nat} {h : hp_H} {s : st_T} {n : Nat} {v0 : Nat} {v1 : Int32} {v3 : Int32} (I : iso tg r h s) (T_v0 : tg v0 = 11) : ∀ (k : Nat) (c : Int32) (x : Int32), hp_lp (gL_X1_areApart_88 n v0 v1 v3 s) k c = some x → hp_lp (fL_X1_areApart_88 n (r v0) v1 v3 h) k c = some x := by
  intro k
  induction k with
  | zero => intro c x hx; exact (hp_lp_0 hx).elim
  | succ k ih =>
    intro c x hx
    obtain ⟨rr, hr, hc⟩ := hp_lp_1 hx
    have e2 := t_X1_areApart_88 I T_v0 hr
    rcases hc with ⟨s3, e3, hx3⟩ | e3
    · subst e3
      exact hp_lp_s e2 (ih _ _ hx3)
    · subst e3
      exact hp_lp_x e2
def g_X1_areApart_0 (n : Nat) (v0 : Nat) (v1 : Int32) (v2 : Int32) (s : st_T) : Option (Int32 × st_T) :=
  (g_J7_fill_d0a16 n (gP s v0 5) (0 : Int64) s).bind fun x2 =>
  (g_X5_size n (gP x2 v0 0) v2 x2).bind fun x4 =>
  (hp_lp (gL_X1_areApart_20 n v0 v1 v2 x4) n ((1 : Int32), x2)).bind fun x5 =>
  (g_X5_size n (gP x5 v0 0) v1 x5).bind fun x8 =>
  (hp_lp (gL_X1_areApart_88 n v0 v1 x8 x5) n (1 : Int32)).bind fun x9 =>
  some (x9, x5)
set_option maxHeartbeats 1000000 in
theorem t_X1_areApart_0 {tg r : Nat → Nat} {h hb : hp_H} {s sb : st_T} {n : Nat} {v0 : Nat} {v1 : Int32} {v2 : Int32} (I : iso tg r h s) (F : isf tg r hb h sb s) (T_v0 : tg v0 = 11) {res : Int32 × st_T} (hm : g_X1_areApart_0 n v0 v1 v2 s = some res) : ∃ h2, f_X1_areApart_0 n (r v0) v1 v2 h = some ((res.1, h2)) ∧ iso tg r h2 res.2 ∧ isf tg r hb h2 sb res.2 := by
  unfold g_X1_areApart_0 at hm
  unfold f_X1_areApart_0
  have T1 : tg (gP s v0 5) = 3 := t_tg (c := 1) I T_v0 (by decide) (by decide) rfl (by decide)
  refine tr_eq (t_fR I T_v0 (by decide) (by decide) (by decide)) ?_
  obtain ⟨x2, hx2, hm⟩ := hp_bd hm
  obtain ⟨_, e2, I, F⟩ := t_J7_fill_d0a16 I F T1 hx2
  refine tr_eq e2 ?_
  have T3 : tg (gP x2 v0 0) = 15 := t_tg (c := 1) I T_v0 (by decide) (by decide) rfl (by decide)
  refine tr_eq (t_fR I T_v0 (by decide) (by decide) (by decide)) ?_
  obtain ⟨x4, hx4, hm⟩ := hp_bd hm
  refine tr_eq (t_X5_size I T3 hx4) ?_
  obtain ⟨x5, hx5, hm⟩ := hp_bd hm
  obtain ⟨_, e2, I, F⟩ := tl_X1_areApart_20 T_v0 n _ _ _ _ I F hx5
  refine tr_eq e2 ?_
  try dsimp only [eX_X1_areApart_20]
  replace I : iso tg _ _ x5 := I
  replace F : isf tg _ _ _ _ x5 := F
  have T7 : tg (gP x5 v0 0) = 15 := t_tg (c := 1) I T_v0 (by decide) (by decide) rfl (by decide)
  refine tr_eq (t_fR I T_v0 (by decide) (by decide) (by decide)) ?_
  obtain ⟨x8, hx8, hm⟩ := hp_bd hm
  refine tr_eq (t_X5_size I T7 hx8) ?_
  obtain ⟨x9, hx9, hm⟩ := hp_bd hm
  refine tr_eq (tl_X1_areApart_88 I T_v0 n _ _ hx9) ?_
  obtain rfl := Option.some.inj hm
  exact ⟨_, rfl, I, F⟩
def g_X1_areApart (n : Nat) (v0 : Nat) (v1 : Int32) (v2 : Int32) (s : st_T) : Option (Int32 × st_T) := g_X1_areApart_0 n v0 v1 v2 s
theorem t_X1_areApart {tg r : Nat → Nat} {h hb : hp_H} {s sb : st_T} {n : Nat} {v0 : Nat} {v1 : Int32} {v2 : Int32} (I : iso tg r h s) (F : isf tg r hb h sb s) (T_v0 : tg v0 = 11) {res : Int32 × st_T} (hm : g_X1_areApart n v0 v1 v2 s = some res) : ∃ h2, f_X1_areApart n (r v0) v1 v2 h = some ((res.1, h2)) ∧ iso tg r h2 res.2 ∧ isf tg r hb h2 sb res.2 := by
  unfold g_X1_areApart at hm
  unfold f_X1_areApart
  refine tr_eq (t_ck I T_v0 (by decide)) ?_
  exact t_X1_areApart_0 I F T_v0 hm
abbrev eX_X1_keepsApart_14 (x : Int32 × st_T) (h2 : hp_H) : Int32 × hp_H := (fun y => (y.1, h2)) x
abbrev sX_X1_keepsApart_14 (x : Int32 × st_T) : st_T := (fun y => y.2) x
abbrev eR_X1_keepsApart_14 (x : (Int32 × st_T) ⊕ (Int32 × st_T)) (h2 : hp_H) : (Int32 × hp_H) ⊕ (Int32 × hp_H) := Sum.elim (fun y => .inl (y.1, h2)) (fun y => .inr (eX_X1_keepsApart_14 y h2)) x
abbrev sR_X1_keepsApart_14 (x : (Int32 × st_T) ⊕ (Int32 × st_T)) : st_T := Sum.elim (fun y => y.2) sX_X1_keepsApart_14 x
def g_X1_keepsApart_14 (n : Nat) (v0 : Nat) (v1 : Int32) (v2 : Int32) (v3 : Int32) (s : st_T) : Option ((Int32 × st_T) ⊕ (Int32 × st_T)) :=
  if v2 ≤ v3 then
    some (.inr ((1 : Int32), s))
  else
    (g_X5_get n (gP s (gP s v0 2) 13) v1 v3 s).bind fun x3 =>
    (gA s (gP s v0 3) (x3 / (300 : Int32))).bind fun x5 =>
    (gA s (gP s v0 3) (x3 - x3 / (300 : Int32) * (300 : Int32))).bind fun x7 =>
    (g_X1_areApart n v0 x5 x7 s).bind fun x8 =>
    if x8.1 = 0 then
      some (.inr ((0 : Int32), x8.2))
    else
      some (.inl ((v3 + (1 : Int32)), x8.2))
set_option maxHeartbeats 1000000 in
theorem t_X1_keepsApart_14 {tg r : Nat → Nat} {h hb : hp_H} {s sb : st_T} {n : Nat} {v0 : Nat} {v1 : Int32} {v2 : Int32} {v3 : Int32} (I : iso tg r h s) (F : isf tg r hb h sb s) (T_v0 : tg v0 = 11) {res : (Int32 × st_T) ⊕ (Int32 × st_T)} (hm : g_X1_keepsApart_14 n v0 v1 v2 v3 s = some res) : ∃ h2, f_X1_keepsApart_14 n (r v0) v1 v2 v3 h = some (eR_X1_keepsApart_14 res h2) ∧ iso tg r h2 (sR_X1_keepsApart_14 res) ∧ isf tg r hb h2 sb (sR_X1_keepsApart_14 res) := by
  unfold g_X1_keepsApart_14 at hm
  unfold f_X1_keepsApart_14
  by_cases c10 : v2 ≤ v3
  · rw [if_pos c10] at hm ⊢
    obtain rfl := Option.some.inj hm
    exact ⟨_, rfl, I, F⟩
  · rw [if_neg c10] at hm ⊢
    have T1 : tg (gP s v0 2) = 10 := t_tg (c := 1) I T_v0 (by decide) (by decide) rfl (by decide)
    refine tr_eq (t_fR I T_v0 (by decide) (by decide) (by decide)) ?_
    have T2 : tg (gP s (gP s v0 2) 13) = 15 := t_tg (c := 0) I T1 (by decide) (by decide) rfl (by decide)
    refine tr_eq (t_fR I T1 (by decide) (by decide) (by decide)) ?_
    obtain ⟨x3, hx3, hm⟩ := hp_bd hm
    refine tr_eq (t_X5_get I T2 hx3) ?_
    have T4 : tg (gP s v0 3) = 0 := t_tg (c := 1) I T_v0 (by decide) (by decide) rfl (by decide)
    refine tr_eq (t_fR I T_v0 (by decide) (by decide) (by decide)) ?_
    obtain ⟨x5, hx5, hm⟩ := hp_bd hm
    refine tr_eq (t_aI I T4 (by decide) rfl hx5) ?_
    have T6 : tg (gP s v0 3) = 0 := t_tg (c := 1) I T_v0 (by decide) (by decide) rfl (by decide)
    refine tr_eq (t_fR I T_v0 (by decide) (by decide) (by decide)) ?_
    obtain ⟨x7, hx7, hm⟩ := hp_bd hm
    refine tr_eq (t_aI I T6 (by decide) rfl hx7) ?_
    obtain ⟨x8, hx8, hm⟩ := hp_bd hm
    obtain ⟨_, e2, I, F⟩ := t_X1_areApart I F T_v0 hx8
    refine tr_eq e2 ?_
    try dsimp only
    by_cases c9 : x8.1 = 0
    · rw [if_pos c9] at hm ⊢
      obtain rfl := Option.some.inj hm
      exact ⟨_, rfl, I, F⟩
    · rw [if_neg c9] at hm ⊢
      obtain rfl := Option.some.inj hm
      exact ⟨_, rfl, I, F⟩
def gL_X1_keepsApart_14 (n : Nat) (v0 : Nat) (v1 : Int32) (v2 : Int32) (c : Int32 × st_T) : Option ((Int32 × st_T) ⊕ (Int32 × st_T)) := g_X1_keepsApart_14 n v0 v1 v2 c.1 c.2
theorem tl_X1_keepsApart_14 {tg r : Nat → Nat} {hb : hp_H} {sb : st_T} {n : Nat} {v0 : Nat} {v1 : Int32} {v2 : Int32} (T_v0 : tg v0 = 11) : ∀ (k : Nat) (c0 : Int32) (h : hp_H) (s : st_T) (x : Int32 × st_T), iso tg r h s → isf tg r hb h sb s → hp_lp (gL_X1_keepsApart_14 n v0 v1 v2) k (c0, s) = some x → ∃ h2, hp_lp (fL_X1_keepsApart_14 n (r v0) v1 v2) k (c0, h) = some (eX_X1_keepsApart_14 x h2) ∧ iso tg r h2 (sX_X1_keepsApart_14 x) ∧ isf tg r hb h2 sb (sX_X1_keepsApart_14 x) := by
  intro k
  induction k with
  | zero => intro c0 h s x I F hx; exact (hp_lp_0 hx).elim
  | succ k ih =>
    intro c0 h s x I F hx
    obtain ⟨rr, hr, hc⟩ := hp_lp_1 hx
    obtain ⟨h2, e2, I2, F2⟩ := t_X1_keepsApart_14 I F T_v0 hr
    rcases hc with ⟨s3, e3, hx3⟩ | e3
    · subst e3
      obtain ⟨h3, e4, I3, F3⟩ := ih _ h2 _ x I2 F2 hx3
      exact ⟨h3, hp_lp_s e2 e4, I3, F3⟩
    · subst e3
      exact ⟨h2, hp_lp_x e2, I2, F2⟩
def g_X1_keepsApart_0 (n : Nat) (v0 : Nat) (v1 : Int32) (s : st_T) : Option (Int32 × st_T) :=
  (g_X5_size n (gP s (gP s v0 2) 13) v1 s).bind fun x3 =>
  (hp_lp (gL_X1_keepsApart_14 n v0 v1 x3) n ((0 : Int32), s)).bind fun x4 =>
  some (x4.1, x4.2)
set_option maxHeartbeats 1000000 in
theorem t_X1_keepsApart_0 {tg r : Nat → Nat} {h hb : hp_H} {s sb : st_T} {n : Nat} {v0 : Nat} {v1 : Int32} (I : iso tg r h s) (F : isf tg r hb h sb s) (T_v0 : tg v0 = 11) {res : Int32 × st_T} (hm : g_X1_keepsApart_0 n v0 v1 s = some res) : ∃ h2, f_X1_keepsApart_0 n (r v0) v1 h = some ((res.1, h2)) ∧ iso tg r h2 res.2 ∧ isf tg r hb h2 sb res.2 := by
  unfold g_X1_keepsApart_0 at hm
  unfold f_X1_keepsApart_0
  have T1 : tg (gP s v0 2) = 10 := t_tg (c := 1) I T_v0 (by decide) (by decide) rfl (by decide)
  refine tr_eq (t_fR I T_v0 (by decide) (by decide) (by decide)) ?_
  have T2 : tg (gP s (gP s v0 2) 13) = 15 := t_tg (c := 0) I T1 (by decide) (by decide) rfl (by decide)
  refine tr_eq (t_fR I T1 (by decide) (by decide) (by decide)) ?_
  obtain ⟨x3, hx3, hm⟩ := hp_bd hm
  refine tr_eq (t_X5_size I T2 hx3) ?_
  obtain ⟨x4, hx4, hm⟩ := hp_bd hm
  obtain ⟨_, e2, I, F⟩ := tl_X1_keepsApart_14 T_v0 n _ _ _ _ I F hx4
  refine tr_eq e2 ?_
  try dsimp only [eX_X1_keepsApart_14]
  replace I : iso tg _ _ x4.2 := I
  replace F : isf tg _ _ _ _ x4.2 := F
  obtain rfl := Option.some.inj hm
  exact ⟨_, rfl, I, F⟩
def g_X1_keepsApart (n : Nat) (v0 : Nat) (v1 : Int32) (s : st_T) : Option (Int32 × st_T) := g_X1_keepsApart_0 n v0 v1 s
theorem t_X1_keepsApart {tg r : Nat → Nat} {h hb : hp_H} {s sb : st_T} {n : Nat} {v0 : Nat} {v1 : Int32} (I : iso tg r h s) (F : isf tg r hb h sb s) (T_v0 : tg v0 = 11) {res : Int32 × st_T} (hm : g_X1_keepsApart n v0 v1 s = some res) : ∃ h2, f_X1_keepsApart n (r v0) v1 h = some ((res.1, h2)) ∧ iso tg r h2 res.2 ∧ isf tg r hb h2 sb res.2 := by
  unfold g_X1_keepsApart at hm
  unfold f_X1_keepsApart
  refine tr_eq (t_ck I T_v0 (by decide)) ?_
  exact t_X1_keepsApart_0 I F T_v0 hm
def g_X1_sizeOf_71 (n : Nat) (v0 : Nat) (v1 : Int32) (v3 : Int32) (v4 : Int32) (s0 : Int32) (s1 : Int32) (s : st_T) : Option ((Int32 × Int32) ⊕ (Int32)) :=
  some (.inl ((s1 + s0), (v4 + (1 : Int32))))
set_option maxHeartbeats 1000000 in
theorem t_X1_sizeOf_71 {tg r : Nat → Nat} {h : hp_H} {s : st_T} {n : Nat} {v0 : Nat} {v1 : Int32} {v3 : Int32} {v4 : Int32} {s0 : Int32} {s1 : Int32} (I : iso tg r h s) (T_v0 : tg v0 = 11) {res : (Int32 × Int32) ⊕ (Int32)} (hm : g_X1_sizeOf_71 n v0 v1 v3 v4 s0 s1 s = some res) : f_X1_sizeOf_71 n (r v0) v1 v3 v4 s0 s1 h = some res := by
  unfold g_X1_sizeOf_71 at hm
  unfold f_X1_sizeOf_71
  obtain rfl := Option.some.inj hm
  rfl
def g_X1_sizeOf_17 (n : Nat) (v0 : Nat) (v1 : Int32) (v2 : Int32) (v3 : Int32) (v4 : Int32) (s : st_T) : Option ((Int32 × Int32) ⊕ (Int32)) :=
  if v3 ≤ v4 then
    some (.inr v2)
  else
    (g_X5_get n (gP s (gP s v0 2) 9) v1 v4 s).bind fun x3 =>
    (g_X0_isVariable n (gP s v0 2) x3 s).bind fun x5 =>
    if x5 = 0 then
      g_X1_sizeOf_71 n v0 v1 v3 v4 (1 : Int32) v2 s
    else
      (gA s (gP s v0 3) x3).bind fun x8 =>
      (g_X5_size n (gP s v0 0) x8 s).bind fun x9 =>
      g_X1_sizeOf_71 n v0 v1 v3 v4 (x9 - (1 : Int32)) v2 s
set_option maxHeartbeats 1000000 in
theorem t_X1_sizeOf_17 {tg r : Nat → Nat} {h : hp_H} {s : st_T} {n : Nat} {v0 : Nat} {v1 : Int32} {v2 : Int32} {v3 : Int32} {v4 : Int32} (I : iso tg r h s) (T_v0 : tg v0 = 11) {res : (Int32 × Int32) ⊕ (Int32)} (hm : g_X1_sizeOf_17 n v0 v1 v2 v3 v4 s = some res) : f_X1_sizeOf_17 n (r v0) v1 v2 v3 v4 h = some res := by
  unfold g_X1_sizeOf_17 at hm
  unfold f_X1_sizeOf_17
  by_cases c11 : v3 ≤ v4
  · rw [if_pos c11] at hm ⊢
    obtain rfl := Option.some.inj hm
    rfl
  · rw [if_neg c11] at hm ⊢
    have T1 : tg (gP s v0 2) = 10 := t_tg (c := 1) I T_v0 (by decide) (by decide) rfl (by decide)
    refine tr_eq0 (t_fR I T_v0 (by decide) (by decide) (by decide)) ?_
    have T2 : tg (gP s (gP s v0 2) 9) = 15 := t_tg (c := 0) I T1 (by decide) (by decide) rfl (by decide)
    refine tr_eq0 (t_fR I T1 (by decide) (by decide) (by decide)) ?_
    obtain ⟨x3, hx3, hm⟩ := hp_bd hm
    refine tr_eq0 (t_X5_get I T2 hx3) ?_
    have T4 : tg (gP s v0 2) = 10 := t_tg (c := 1) I T_v0 (by decide) (by decide) rfl (by decide)
    refine tr_eq0 (t_fR I T_v0 (by decide) (by decide) (by decide)) ?_
    obtain ⟨x5, hx5, hm⟩ := hp_bd hm
    refine tr_eq0 (t_X0_isVariable I T4 hx5) ?_
    by_cases c10 : x5 = 0
    · rw [if_pos c10] at hm ⊢
      exact t_X1_sizeOf_71 I T_v0 hm
    · rw [if_neg c10] at hm ⊢
      have T6 : tg (gP s v0 0) = 15 := t_tg (c := 1) I T_v0 (by decide) (by decide) rfl (by decide)
      refine tr_eq0 (t_fR I T_v0 (by decide) (by decide) (by decide)) ?_
      have T7 : tg (gP s v0 3) = 0 := t_tg (c := 1) I T_v0 (by decide) (by decide) rfl (by decide)
      refine tr_eq0 (t_fR I T_v0 (by decide) (by decide) (by decide)) ?_
      obtain ⟨x8, hx8, hm⟩ := hp_bd hm
      refine tr_eq0 (t_aI I T7 (by decide) rfl hx8) ?_
      obtain ⟨x9, hx9, hm⟩ := hp_bd hm
      refine tr_eq0 (t_X5_size I T6 hx9) ?_
      exact t_X1_sizeOf_71 I T_v0 hm
def gL_X1_sizeOf_17 (n : Nat) (v0 : Nat) (v1 : Int32) (v3 : Int32) (s : st_T) (c : Int32 × Int32) : Option ((Int32 × Int32) ⊕ (Int32)) := g_X1_sizeOf_17 n v0 v1 c.1 v3 c.2 s
theorem tl_X1_sizeOf_17 {tg r : Nat → Nat} {h : hp_H} {s : st_T} {n : Nat} {v0 : Nat} {v1 : Int32} {v3 : Int32} (I : iso tg r h s) (T_v0 : tg v0 = 11) : ∀ (k : Nat) (c : Int32 × Int32) (x : Int32), hp_lp (gL_X1_sizeOf_17 n v0 v1 v3 s) k c = some x → hp_lp (fL_X1_sizeOf_17 n (r v0) v1 v3 h) k c = some x := by
  intro k
  induction k with
  | zero => intro c x hx; exact (hp_lp_0 hx).elim
  | succ k ih =>
    intro c x hx
    obtain ⟨rr, hr, hc⟩ := hp_lp_1 hx
    have e2 := t_X1_sizeOf_17 I T_v0 hr
    rcases hc with ⟨s3, e3, hx3⟩ | e3
    · subst e3
      exact hp_lp_s e2 (ih _ _ hx3)
    · subst e3
      exact hp_lp_x e2
def g_X1_sizeOf_0 (n : Nat) (v0 : Nat) (v1 : Int32) (s : st_T) : Option (Int32) :=
  (g_X5_size n (gP s (gP s v0 2) 9) v1 s).bind fun x3 =>
  (hp_lp (gL_X1_sizeOf_17 n v0 v1 x3 s) n ((0 : Int32), (0 : Int32))).bind fun x4 =>
  some x4
set_option maxHeartbeats 1000000 in
theorem t_X1_sizeOf_0 {tg r : Nat → Nat} {h : hp_H} {s : st_T} {n : Nat} {v0 : Nat} {v1 : Int32} (I : iso tg r h s) (T_v0 : tg v0 = 11) {res : Int32} (hm : g_X1_sizeOf_0 n v0 v1 s = some res) : f_X1_sizeOf_0 n (r v0) v1 h = some res := by
  unfold g_X1_sizeOf_0 at hm
  unfold f_X1_sizeOf_0
  have T1 : tg (gP s v0 2) = 10 := t_tg (c := 1) I T_v0 (by decide) (by decide) rfl (by decide)
  refine tr_eq0 (t_fR I T_v0 (by decide) (by decide) (by decide)) ?_
  have T2 : tg (gP s (gP s v0 2) 9) = 15 := t_tg (c := 0) I T1 (by decide) (by decide) rfl (by decide)
  refine tr_eq0 (t_fR I T1 (by decide) (by decide) (by decide)) ?_
  obtain ⟨x3, hx3, hm⟩ := hp_bd hm
  refine tr_eq0 (t_X5_size I T2 hx3) ?_
  obtain ⟨x4, hx4, hm⟩ := hp_bd hm
  refine tr_eq0 (tl_X1_sizeOf_17 I T_v0 n _ _ hx4) ?_
  obtain rfl := Option.some.inj hm
  rfl
def g_X1_sizeOf (n : Nat) (v0 : Nat) (v1 : Int32) (s : st_T) : Option (Int32) := g_X1_sizeOf_0 n v0 v1 s
theorem t_X1_sizeOf {tg r : Nat → Nat} {h : hp_H} {s : st_T} {n : Nat} {v0 : Nat} {v1 : Int32} (I : iso tg r h s) (T_v0 : tg v0 = 11) {res : Int32} (hm : g_X1_sizeOf n v0 v1 s = some res) : f_X1_sizeOf n (r v0) v1 h = some res := by
  unfold g_X1_sizeOf at hm
  unfold f_X1_sizeOf
  refine tr_eq0 (t_ck I T_v0 (by decide)) ?_
  exact t_X1_sizeOf_0 I T_v0 hm
abbrev eX_X1_pushInstance_14 (x : st_T) (h2 : hp_H) (sz2 sl2 : Nat) : hp_H × Nat × Nat := (fun y => (h2, sz2, sl2)) x
abbrev sX_X1_pushInstance_14 (x : st_T) : st_T := (fun y => y) x
abbrev eR_X1_pushInstance_14 (x : (Int32 × st_T) ⊕ (st_T)) (h2 : hp_H) (sz2 sl2 : Nat) : (Int32 × hp_H × Nat × Nat) ⊕ (hp_H × Nat × Nat) := Sum.elim (fun y => .inl (y.1, h2, sz2, sl2)) (fun y => .inr (eX_X1_pushInstance_14 y h2 sz2 sl2)) x
abbrev sR_X1_pushInstance_14 (x : (Int32 × st_T) ⊕ (st_T)) : st_T := Sum.elim (fun y => y.2) sX_X1_pushInstance_14 x
def g_X1_pushInstance_76 (n : Nat) (v0 : Nat) (v1 : Int32) (v2 : Int32) (v3 : Int32) (s : st_T) : Option ((Int32 × st_T) ⊕ (st_T)) :=
  some (.inl ((v3 + (1 : Int32)), s))
set_option maxHeartbeats 1000000 in
theorem t_X1_pushInstance_76 {tg r : Nat → Nat} {hb : hp_H} {zb c1 c2 : Nat} {r2 : Nat → Nat} {h : hp_H} {s : st_T} {sz sl n : Nat} {v0 : Nat} {v1 : Int32} {v2 : Int32} {v3 : Int32} (Z : iz tg r hb zb c1 c2 r2 h s sz sl) (T_v0 : tg v0 = 11) {res : (Int32 × st_T) ⊕ (st_T)} (hm : g_X1_pushInstance_76 n v0 v1 v2 v3 s = some res) : ∃ h2 sz2 sl2 r3, f_X1_pushInstance_76 n (r v0) v1 v2 v3 h sz sl = some (eR_X1_pushInstance_14 res h2 sz2 sl2) ∧ iz tg r hb zb c1 c2 r3 h2 (sR_X1_pushInstance_14 res) sz2 sl2 := by
  rw [← Z.2.1 v0 (by omega)]
  unfold g_X1_pushInstance_76 at hm
  unfold f_X1_pushInstance_76
  obtain rfl := Option.some.inj hm
  exact ⟨_, _, _, _, rfl, Z⟩
def g_X1_pushInstance_64 (n : Nat) (v0 : Nat) (v1 : Int32) (v2 : Int32) (v3 : Int32) (s : st_T) : Option ((Int32 × st_T) ⊕ (st_T)) :=
  g_X1_pushInstance_76 n v0 v1 v2 v3 s
set_option maxHeartbeats 1000000 in
theorem t_X1_pushInstance_64 {tg r : Nat → Nat} {hb : hp_H} {zb c1 c2 : Nat} {r2 : Nat → Nat} {h : hp_H} {s : st_T} {sz sl n : Nat} {v0 : Nat} {v1 : Int32} {v2 : Int32} {v3 : Int32} (Z : iz tg r hb zb c1 c2 r2 h s sz sl) (T_v0 : tg v0 = 11) {res : (Int32 × st_T) ⊕ (st_T)} (hm : g_X1_pushInstance_64 n v0 v1 v2 v3 s = some res) : ∃ h2 sz2 sl2 r3, f_X1_pushInstance_64 n (r v0) v1 v2 v3 h sz sl = some (eR_X1_pushInstance_14 res h2 sz2 sl2) ∧ iz tg r hb zb c1 c2 r3 h2 (sR_X1_pushInstance_14 res) sz2 sl2 := by
  rw [← Z.2.1 v0 (by omega)]
  unfold g_X1_pushInstance_64 at hm
  unfold f_X1_pushInstance_64
  try simp only [Z.2.1 v0 (by omega)]
  exact t_X1_pushInstance_76 Z T_v0 hm
def g_X1_pushInstance_14 (n : Nat) (v0 : Nat) (v1 : Int32) (v2 : Int32) (v3 : Int32) (s : st_T) : Option ((Int32 × st_T) ⊕ (st_T)) :=
  if v2 ≤ v3 then
    some (.inr s)
  else
    (g_X5_get n (gP s (gP s v0 2) 9) v1 v3 s).bind fun x3 =>
    (g_X0_isVariable n (gP s v0 2) x3 s).bind fun x5 =>
    if x5 = 0 then
      (g_X5_add n (gP s v0 0) x3 s).bind fun x7 =>
      g_X1_pushInstance_76 n v0 v1 v2 v3 x7
    else
      (gA s (gP s v0 3) x3).bind fun x11 =>
      (g_X5_addFrom n (gP s v0 0) (gP s v0 0) x11 (1 : Int32) s).bind fun x12 =>
      g_X1_pushInstance_64 n v0 v1 v2 v3 x12
set_option maxHeartbeats 1000000 in
theorem t_X1_pushInstance_14 {tg r : Nat → Nat} {hb : hp_H} {zb c1 c2 : Nat} {r2 : Nat → Nat} {h : hp_H} {s : st_T} {sz sl n : Nat} {v0 : Nat} {v1 : Int32} {v2 : Int32} {v3 : Int32} (Z : iz tg r hb zb c1 c2 r2 h s sz sl) (T_v0 : tg v0 = 11) {res : (Int32 × st_T) ⊕ (st_T)} (hm : g_X1_pushInstance_14 n v0 v1 v2 v3 s = some res) : ∃ h2 sz2 sl2 r3, f_X1_pushInstance_14 n (r v0) v1 v2 v3 h sz sl = some (eR_X1_pushInstance_14 res h2 sz2 sl2) ∧ iz tg r hb zb c1 c2 r3 h2 (sR_X1_pushInstance_14 res) sz2 sl2 := by
  rw [← Z.2.1 v0 (by omega)]
  unfold g_X1_pushInstance_14 at hm
  unfold f_X1_pushInstance_14
  by_cases c14 : v2 ≤ v3
  · rw [if_pos c14] at hm ⊢
    obtain rfl := Option.some.inj hm
    exact ⟨_, _, _, _, rfl, Z⟩
  · rw [if_neg c14] at hm ⊢
    have T1 : tg (gP s v0 2) = 10 := t_tg (c := 1) Z.1 T_v0 (by decide) (by decide) rfl (by decide)
    refine tr_eq2 (t_fR Z.1 T_v0 (by decide) (by decide) (by decide)) ?_
    have T2 : tg (gP s (gP s v0 2) 9) = 15 := t_tg (c := 0) Z.1 T1 (by decide) (by decide) rfl (by decide)
    refine tr_eq2 (t_fR Z.1 T1 (by decide) (by decide) (by decide)) ?_
    obtain ⟨x3, hx3, hm⟩ := hp_bd hm
    refine tr_eq2 (t_X5_get Z.1 T2 hx3) ?_
    have T4 : tg (gP s v0 2) = 10 := t_tg (c := 1) Z.1 T_v0 (by decide) (by decide) rfl (by decide)
    refine tr_eq2 (t_fR Z.1 T_v0 (by decide) (by decide) (by decide)) ?_
    obtain ⟨x5, hx5, hm⟩ := hp_bd hm
    refine tr_eq2 (t_X0_isVariable Z.1 T4 hx5) ?_
    by_cases c13 : x5 = 0
    · rw [if_pos c13] at hm ⊢
      have T6 : tg (gP s v0 0) = 15 := t_tg (c := 1) Z.1 T_v0 (by decide) (by decide) rfl (by decide)
      refine tr_eq2 (t_fR Z.1 T_v0 (by decide) (by decide) (by decide)) ?_
      try simp only [Z.2.1 v0 (by omega), Z.2.1 (gP s v0 0) (by omega)]
      obtain ⟨x7, hx7, hm⟩ := hp_bd hm
      obtain ⟨_, _, _, _, e2, Z⟩ := t2_X5_add Z T6 hx7
      refine tr_eq2 e2 ?_
      try dsimp only
      try simp only [Z.2.1 v0 (by omega)]
      exact t_X1_pushInstance_76 Z T_v0 hm
    · rw [if_neg c13] at hm ⊢
      have T8 : tg (gP s v0 0) = 15 := t_tg (c := 1) Z.1 T_v0 (by decide) (by decide) rfl (by decide)
      refine tr_eq2 (t_fR Z.1 T_v0 (by decide) (by decide) (by decide)) ?_
      have T9 : tg (gP s v0 0) = 15 := t_tg (c := 1) Z.1 T_v0 (by decide) (by decide) rfl (by decide)
      refine tr_eq2 (t_fR Z.1 T_v0 (by decide) (by decide) (by decide)) ?_
      have T10 : tg (gP s v0 3) = 0 := t_tg (c := 1) Z.1 T_v0 (by decide) (by decide) rfl (by decide)
      refine tr_eq2 (t_fR Z.1 T_v0 (by decide) (by decide) (by decide)) ?_
      obtain ⟨x11, hx11, hm⟩ := hp_bd hm
      refine tr_eq2 (t_aI Z.1 T10 (by decide) rfl hx11) ?_
      try simp only [Z.2.1 v0 (by omega), Z.2.1 (gP s v0 0) (by omega)]
      obtain ⟨x12, hx12, hm⟩ := hp_bd hm
      obtain ⟨_, _, _, _, e2, Z⟩ := t2_X5_addFrom Z T9 T9 hx12
      refine tr_eq2 e2 ?_
      try dsimp only
      try simp only [Z.2.1 v0 (by omega)]
      exact t_X1_pushInstance_64 Z T_v0 hm
def gL_X1_pushInstance_14 (n : Nat) (v0 : Nat) (v1 : Int32) (v2 : Int32) (c : Int32 × st_T) : Option ((Int32 × st_T) ⊕ (st_T)) := g_X1_pushInstance_14 n v0 v1 v2 c.1 c.2
theorem tl_X1_pushInstance_14 {tg r : Nat → Nat} {hb : hp_H} {zb c1 c2 n : Nat} {v0 : Nat} {v1 : Int32} {v2 : Int32} (T_v0 : tg v0 = 11) : ∀ (k : Nat) (k0 : Int32) (r2 : Nat → Nat) (h : hp_H) (s : st_T) (sz sl : Nat) (x : st_T), iz tg r hb zb c1 c2 r2 h s sz sl → hp_lp (gL_X1_pushInstance_14 n v0 v1 v2) k (k0, s) = some x → ∃ h2 sz2 sl2 r3, hp_lp (fL_X1_pushInstance_14 n (r v0) v1 v2) k (k0, h, sz, sl) = some (eX_X1_pushInstance_14 x h2 sz2 sl2) ∧ iz tg r hb zb c1 c2 r3 h2 (sX_X1_pushInstance_14 x) sz2 sl2 := by
  intro k
  induction k with
  | zero => intro k0 r2 h s sz sl x Z hx; exact (hp_lp_0 hx).elim
  | succ k ih =>
    intro k0 r2 h s sz sl x Z hx
    obtain ⟨rr, hr, hc⟩ := hp_lp_1 hx
    obtain ⟨h2, sz2, sl2, r3, e2, Z2⟩ := t_X1_pushInstance_14 Z T_v0 hr
    rcases hc with ⟨s3, e3, hx3⟩ | e3
    · subst e3
      obtain ⟨h3, sz3, sl3, r4, e4, Z3⟩ := ih _ r3 h2 _ sz2 sl2 x Z2 hx3
      exact ⟨h3, sz3, sl3, r4, hp_lp_s e2 e4, Z3⟩
    · subst e3
      exact ⟨h2, sz2, sl2, r3, hp_lp_x e2, Z2⟩
def g_X1_pushInstance_82 (n : Nat) (v0 : Nat) (s : st_T) : Option (st_T) :=
  (g_X5_endRow n (gP s v0 0) s).bind fun x2 =>
  some x2
set_option maxHeartbeats 1000000 in
theorem t_X1_pushInstance_82 {tg r : Nat → Nat} {hb : hp_H} {zb c1 c2 : Nat} {r2 : Nat → Nat} {h : hp_H} {s : st_T} {sz sl n : Nat} {v0 : Nat} (Z : iz tg r hb zb c1 c2 r2 h s sz sl) (T_v0 : tg v0 = 11) {res : st_T} (hm : g_X1_pushInstance_82 n v0 s = some res) : ∃ h2 sz2 sl2 r3, f_X1_pushInstance_82 n (r v0) h sz sl = some ((h2, sz2, sl2)) ∧ iz tg r hb zb c1 c2 r3 h2 res sz2 sl2 := by
  rw [← Z.2.1 v0 (by omega)]
  unfold g_X1_pushInstance_82 at hm
  unfold f_X1_pushInstance_82
  have T1 : tg (gP s v0 0) = 15 := t_tg (c := 1) Z.1 T_v0 (by decide) (by decide) rfl (by decide)
  refine tr_eq2 (t_fR Z.1 T_v0 (by decide) (by decide) (by decide)) ?_
  obtain ⟨x2, hx2, hm⟩ := hp_bd hm
  obtain ⟨_, e2, I, F⟩ := t_X5_endRow Z.1 isf.rf T1 hx2
  replace Z := Z.step I F
  refine tr_eq2 e2 ?_
  obtain rfl := Option.some.inj hm
  exact ⟨_, _, _, _, rfl, Z⟩
def g_X1_pushInstance_0 (n : Nat) (v0 : Nat) (v1 : Int32) (s : st_T) : Option (st_T) :=
  (g_X5_size n (gP s (gP s v0 2) 9) v1 s).bind fun x3 =>
  (hp_lp (gL_X1_pushInstance_14 n v0 v1 x3) n ((0 : Int32), s)).bind fun x4 =>
  g_X1_pushInstance_82 n v0 x4
set_option maxHeartbeats 1000000 in
theorem t_X1_pushInstance_0 {tg r : Nat → Nat} {hb : hp_H} {zb c1 c2 : Nat} {r2 : Nat → Nat} {h : hp_H} {s : st_T} {sz sl n : Nat} {v0 : Nat} {v1 : Int32} (Z : iz tg r hb zb c1 c2 r2 h s sz sl) (T_v0 : tg v0 = 11) {res : st_T} (hm : g_X1_pushInstance_0 n v0 v1 s = some res) : ∃ h2 sz2 sl2 r3, f_X1_pushInstance_0 n (r v0) v1 h sz sl = some ((h2, sz2, sl2)) ∧ iz tg r hb zb c1 c2 r3 h2 res sz2 sl2 := by
  rw [← Z.2.1 v0 (by omega)]
  unfold g_X1_pushInstance_0 at hm
  unfold f_X1_pushInstance_0
  have T1 : tg (gP s v0 2) = 10 := t_tg (c := 1) Z.1 T_v0 (by decide) (by decide) rfl (by decide)
  refine tr_eq2 (t_fR Z.1 T_v0 (by decide) (by decide) (by decide)) ?_
  have T2 : tg (gP s (gP s v0 2) 9) = 15 := t_tg (c := 0) Z.1 T1 (by decide) (by decide) rfl (by decide)
  refine tr_eq2 (t_fR Z.1 T1 (by decide) (by decide) (by decide)) ?_
  obtain ⟨x3, hx3, hm⟩ := hp_bd hm
  refine tr_eq2 (t_X5_size Z.1 T2 hx3) ?_
  obtain ⟨x4, hx4, hm⟩ := hp_bd hm
  try simp only [Z.2.1 v0 (by omega)]
  obtain ⟨_, _, _, _, e2, Z⟩ := tl_X1_pushInstance_14 T_v0 n _ _ _ _ _ _ _ Z hx4
  refine tr_eq2 e2 ?_
  try dsimp only [eX_X1_pushInstance_14]
  replace Z : iz tg r hb zb c1 c2 _ _ x4 _ _ := Z
  try simp only [Z.2.1 v0 (by omega)]
  exact t_X1_pushInstance_82 Z T_v0 hm
def g_X1_pushInstance (n : Nat) (v0 : Nat) (v1 : Int32) (s : st_T) : Option (st_T) := g_X1_pushInstance_0 n v0 v1 s
theorem t2_X1_pushInstance {tg r : Nat → Nat} {hb : hp_H} {zb c1 c2 : Nat} {r2 : Nat → Nat} {h : hp_H} {s : st_T} {sz sl n : Nat} {v0 : Nat} {v1 : Int32} (Z : iz tg r hb zb c1 c2 r2 h s sz sl) (T_v0 : tg v0 = 11) {res : st_T} (hm : g_X1_pushInstance n v0 v1 s = some res) : ∃ h2 sz2 sl2 r3, f_X1_pushInstance n (r v0) v1 h sz sl = some ((h2, sz2, sl2)) ∧ iz tg r hb zb c1 c2 r3 h2 res sz2 sl2 := by
  unfold g_X1_pushInstance at hm
  unfold f_X1_pushInstance
  have e0 := t_ck (c := 1) Z.1 T_v0 (by decide)
  rw [Z.2.1 v0 (by omega)] at e0
  refine tr_eq2 e0 ?_
  exact t_X1_pushInstance_0 Z T_v0 hm
abbrev eX_X1_apply_32 (x : (st_T) ⊕ (Int32 × st_T)) (h2 : hp_H) : (hp_H) ⊕ (Int32 × hp_H) := (Sum.elim (fun y => (.inl h2)) (fun y => (.inr (y.1, h2)))) x
abbrev sX_X1_apply_32 (x : (st_T) ⊕ (Int32 × st_T)) : st_T := (Sum.elim (fun y => y) (fun y => y.2)) x
abbrev eR_X1_apply_32 (x : (Int32 × st_T) ⊕ ((st_T) ⊕ (Int32 × st_T))) (h2 : hp_H) : (Int32 × hp_H) ⊕ ((hp_H) ⊕ (Int32 × hp_H)) := Sum.elim (fun y => .inl (y.1, h2)) (fun y => .inr (eX_X1_apply_32 y h2)) x
abbrev sR_X1_apply_32 (x : (Int32 × st_T) ⊕ ((st_T) ⊕ (Int32 × st_T))) : st_T := Sum.elim (fun y => y.2) sX_X1_apply_32 x
def g_X1_apply_32 (n : Nat) (v0 : Nat) (v1 : Int32) (v2 : Int32) (v3 : Int32) (v4 : Int32) (s : st_T) : Option ((Int32 × st_T) ⊕ ((st_T) ⊕ (Int32 × st_T))) :=
  if v2 ≤ v4 then
    some (.inr (.inl s))
  else
    (g_X5_get n (gP s (gP s v0 2) 12) v1 v4 s).bind fun x3 =>
    (g_X1_fit n v0 x3 (v3 + v4) s).bind fun x4 =>
    if x4.1 = 0 then
      some (.inl ((v4 + (1 : Int32)), x4.2))
    else
      some (.inr (.inr (x4.1, x4.2)))
set_option maxHeartbeats 1000000 in
theorem t_X1_apply_32 {tg r : Nat → Nat} {h hb : hp_H} {s sb : st_T} {n : Nat} {v0 : Nat} {v1 : Int32} {v2 : Int32} {v3 : Int32} {v4 : Int32} (I : iso tg r h s) (F : isf tg r hb h sb s) (T_v0 : tg v0 = 11) {res : (Int32 × st_T) ⊕ ((st_T) ⊕ (Int32 × st_T))} (hm : g_X1_apply_32 n v0 v1 v2 v3 v4 s = some res) : ∃ h2, f_X1_apply_32 n (r v0) v1 v2 v3 v4 h = some (eR_X1_apply_32 res h2) ∧ iso tg r h2 (sR_X1_apply_32 res) ∧ isf tg r hb h2 sb (sR_X1_apply_32 res) := by
  unfold g_X1_apply_32 at hm
  unfold f_X1_apply_32
  by_cases c6 : v2 ≤ v4
  · rw [if_pos c6] at hm ⊢
    obtain rfl := Option.some.inj hm
    exact ⟨_, rfl, I, F⟩
  · rw [if_neg c6] at hm ⊢
    have T1 : tg (gP s v0 2) = 10 := t_tg (c := 1) I T_v0 (by decide) (by decide) rfl (by decide)
    refine tr_eq (t_fR I T_v0 (by decide) (by decide) (by decide)) ?_
    have T2 : tg (gP s (gP s v0 2) 12) = 15 := t_tg (c := 0) I T1 (by decide) (by decide) rfl (by decide)
    refine tr_eq (t_fR I T1 (by decide) (by decide) (by decide)) ?_
    obtain ⟨x3, hx3, hm⟩ := hp_bd hm
    refine tr_eq (t_X5_get I T2 hx3) ?_
    obtain ⟨x4, hx4, hm⟩ := hp_bd hm
    obtain ⟨_, e2, I, F⟩ := t_X1_fit I F T_v0 hx4
    refine tr_eq e2 ?_
    try dsimp only
    by_cases c5 : x4.1 = 0
    · rw [if_pos c5] at hm ⊢
      obtain rfl := Option.some.inj hm
      exact ⟨_, rfl, I, F⟩
    · rw [if_neg c5] at hm ⊢
      obtain rfl := Option.some.inj hm
      exact ⟨_, rfl, I, F⟩
def gL_X1_apply_32 (n : Nat) (v0 : Nat) (v1 : Int32) (v2 : Int32) (v3 : Int32) (c : Int32 × st_T) : Option ((Int32 × st_T) ⊕ ((st_T) ⊕ (Int32 × st_T))) := g_X1_apply_32 n v0 v1 v2 v3 c.1 c.2
theorem tl_X1_apply_32 {tg r : Nat → Nat} {hb : hp_H} {sb : st_T} {n : Nat} {v0 : Nat} {v1 : Int32} {v2 : Int32} {v3 : Int32} (T_v0 : tg v0 = 11) : ∀ (k : Nat) (c0 : Int32) (h : hp_H) (s : st_T) (x : (st_T) ⊕ (Int32 × st_T)), iso tg r h s → isf tg r hb h sb s → hp_lp (gL_X1_apply_32 n v0 v1 v2 v3) k (c0, s) = some x → ∃ h2, hp_lp (fL_X1_apply_32 n (r v0) v1 v2 v3) k (c0, h) = some (eX_X1_apply_32 x h2) ∧ iso tg r h2 (sX_X1_apply_32 x) ∧ isf tg r hb h2 sb (sX_X1_apply_32 x) := by
  intro k
  induction k with
  | zero => intro c0 h s x I F hx; exact (hp_lp_0 hx).elim
  | succ k ih =>
    intro c0 h s x I F hx
    obtain ⟨rr, hr, hc⟩ := hp_lp_1 hx
    obtain ⟨h2, e2, I2, F2⟩ := t_X1_apply_32 I F T_v0 hr
    rcases hc with ⟨s3, e3, hx3⟩ | e3
    · subst e3
      obtain ⟨h3, e4, I3, F3⟩ := ih _ h2 _ x I2 F2 hx3
      exact ⟨h3, hp_lp_s e2 e4, I3, F3⟩
    · subst e3
      exact ⟨h2, hp_lp_x e2, I2, F2⟩
def g_X1_apply_111 (n : Nat) (v0 : Nat) (v2 : Int32) (s : st_T) : Option (Int32 × st_T) :=
  (g_X5_dropUnderLast n (gP s v0 0) v2 s).bind fun x2 =>
  some ((0 : Int32), x2)
set_option maxHeartbeats 1000000 in
theorem t_X1_apply_111 {tg r : Nat → Nat} {hb : hp_H} {zb c1 c2 : Nat} {r2 : Nat → Nat} {h : hp_H} {s : st_T} {sz sl n : Nat} {v0 : Nat} {v2 : Int32} (Z : iz tg r hb zb c1 c2 r2 h s sz sl) (T_v0 : tg v0 = 11) {res : Int32 × st_T} (hm : g_X1_apply_111 n v0 v2 s = some res) : ∃ h2 sz2 sl2 r3, f_X1_apply_111 n (r v0) v2 h sz sl = some ((res.1, h2, sz2, sl2)) ∧ iz tg r hb zb c1 c2 r3 h2 res.2 sz2 sl2 := by
  rw [← Z.2.1 v0 (by omega)]
  unfold g_X1_apply_111 at hm
  unfold f_X1_apply_111
  have T1 : tg (gP s v0 0) = 15 := t_tg (c := 1) Z.1 T_v0 (by decide) (by decide) rfl (by decide)
  refine tr_eq2 (t_fR Z.1 T_v0 (by decide) (by decide) (by decide)) ?_
  obtain ⟨x2, hx2, hm⟩ := hp_bd hm
  obtain ⟨_, e2, I, F⟩ := t_X5_dropUnderLast Z.1 isf.rf T1 hx2
  replace Z := Z.step I F
  refine tr_eq2 e2 ?_
  obtain rfl := Option.some.inj hm
  exact ⟨_, _, _, _, rfl, Z⟩
def g_X1_apply_0 (n : Nat) (v0 : Nat) (v1 : Int32) (s : st_T) : Option (Int32 × st_T) :=
  (g_X5_size n (gP s (gP s v0 2) 12) v1 s).bind fun x3 =>
  if 0 ≤ ((gF s (gP s v0 0) 3) - x3) then
    (hp_lp (gL_X1_apply_32 n v0 v1 x3 ((gF s (gP s v0 0) 3) - x3)) n ((0 : Int32), s)).bind fun x5 =>
    Sum.elim (fun y6 =>
      (g_X1_keepsApart n v0 v1 y6).bind fun x8 =>
      if x8.1 = 0 then
        some ((-7 : Int32), x8.2)
      else
        if ((gF s (gP s v0 0) 3) - x3) = (100 : Int32) then
          some ((-10 : Int32), x8.2)
        else
          (g_X1_sizeOf n v0 v1 x8.2).bind fun x9 =>
          if x9 ≤ (200 : Int32) then
            (g_X1_pushInstance n v0 v1 x8.2).bind fun x10 =>
            g_X1_apply_111 n v0 x3 x10
          else
            some ((-10 : Int32), x8.2)) (fun y7 =>
      some (y7.1, y7.2)) x5
  else
    some ((-4 : Int32), s)
set_option maxHeartbeats 1000000 in
theorem t_X1_apply_0 {tg r : Nat → Nat} {hb : hp_H} {zb c1 c2 : Nat} {r2 : Nat → Nat} {h : hp_H} {s : st_T} {sz sl n : Nat} {v0 : Nat} {v1 : Int32} (Z : iz tg r hb zb c1 c2 r2 h s sz sl) (T_v0 : tg v0 = 11) {res : Int32 × st_T} (hm : g_X1_apply_0 n v0 v1 s = some res) : ∃ h2 sz2 sl2 r3, f_X1_apply_0 n (r v0) v1 h sz sl = some ((res.1, h2, sz2, sl2)) ∧ iz tg r hb zb c1 c2 r3 h2 res.2 sz2 sl2 := by
  rw [← Z.2.1 v0 (by omega)]
  unfold g_X1_apply_0 at hm
  unfold f_X1_apply_0
  have T1 : tg (gP s v0 2) = 10 := t_tg (c := 1) Z.1 T_v0 (by decide) (by decide) rfl (by decide)
  refine tr_eq2 (t_fR Z.1 T_v0 (by decide) (by decide) (by decide)) ?_
  have T2 : tg (gP s (gP s v0 2) 12) = 15 := t_tg (c := 0) Z.1 T1 (by decide) (by decide) rfl (by decide)
  refine tr_eq2 (t_fR Z.1 T1 (by decide) (by decide) (by decide)) ?_
  obtain ⟨x3, hx3, hm⟩ := hp_bd hm
  refine tr_eq2 (t_X5_size Z.1 T2 hx3) ?_
  have T4 : tg (gP s v0 0) = 15 := t_tg (c := 1) Z.1 T_v0 (by decide) (by decide) rfl (by decide)
  refine tr_eq2 (t_fR Z.1 T_v0 (by decide) (by decide) (by decide)) ?_
  refine tr_eq2 (t_fI Z.1 T4 (by decide) (by decide) rfl) ?_
  by_cases c14 : 0 ≤ ((gF s (gP s v0 0) 3) - x3)
  · rw [if_pos c14] at hm ⊢
    obtain ⟨x5, hx5, hm⟩ := hp_bd hm
    obtain ⟨_, e2, I, F⟩ := tl_X1_apply_32 T_v0 n _ _ _ _ Z.1 isf.rf hx5
    refine tr_eq2 e2 ?_
    rcases x5 with y6 | y7
    · simp only [eX_X1_apply_32, Sum.elim_inl, Sum.elim_inr] at hm ⊢
      replace I : iso tg _ _ y6 := I
      replace F : isf tg _ _ _ _ y6 := F
      replace Z := Z.step I F
      obtain ⟨x8, hx8, hm⟩ := hp_bd hm
      obtain ⟨_, e2, I, F⟩ := t_X1_keepsApart Z.1 isf.rf T_v0 hx8
      replace Z := Z.step I F
      refine tr_eq2 e2 ?_
      try dsimp only
      by_cases c13 : x8.1 = 0
      · rw [if_pos c13] at hm ⊢
        obtain rfl := Option.some.inj hm
        exact ⟨_, _, _, _, rfl, Z⟩
      · rw [if_neg c13] at hm ⊢
        by_cases c12 : ((gF s (gP s v0 0) 3) - x3) = (100 : Int32)
        · rw [if_pos c12] at hm ⊢
          obtain rfl := Option.some.inj hm
          exact ⟨_, _, _, _, rfl, Z⟩
        · rw [if_neg c12] at hm ⊢
          obtain ⟨x9, hx9, hm⟩ := hp_bd hm
          refine tr_eq2 (t_X1_sizeOf Z.1 T_v0 hx9) ?_
          by_cases c11 : x9 ≤ (200 : Int32)
          · rw [if_pos c11] at hm ⊢
            try simp only [Z.2.1 v0 (by omega)]
            obtain ⟨x10, hx10, hm⟩ := hp_bd hm
            obtain ⟨_, _, _, _, e2, Z⟩ := t2_X1_pushInstance Z T_v0 hx10
            refine tr_eq2 e2 ?_
            try dsimp only
            try simp only [Z.2.1 v0 (by omega)]
            exact t_X1_apply_111 Z T_v0 hm
          · rw [if_neg c11] at hm ⊢
            obtain rfl := Option.some.inj hm
            exact ⟨_, _, _, _, rfl, Z⟩
    · simp only [eX_X1_apply_32, Sum.elim_inl, Sum.elim_inr] at hm ⊢
      replace I : iso tg _ _ y7.2 := I
      replace F : isf tg _ _ _ _ y7.2 := F
      replace Z := Z.step I F
      obtain rfl := Option.some.inj hm
      exact ⟨_, _, _, _, rfl, Z⟩
  · rw [if_neg c14] at hm ⊢
    obtain rfl := Option.some.inj hm
    exact ⟨_, _, _, _, rfl, Z⟩
def g_X1_apply (n : Nat) (v0 : Nat) (v1 : Int32) (s : st_T) : Option (Int32 × st_T) := g_X1_apply_0 n v0 v1 s
theorem t2_X1_apply {tg r : Nat → Nat} {hb : hp_H} {zb c1 c2 : Nat} {r2 : Nat → Nat} {h : hp_H} {s : st_T} {sz sl n : Nat} {v0 : Nat} {v1 : Int32} (Z : iz tg r hb zb c1 c2 r2 h s sz sl) (T_v0 : tg v0 = 11) {res : Int32 × st_T} (hm : g_X1_apply n v0 v1 s = some res) : ∃ h2 sz2 sl2 r3, f_X1_apply n (r v0) v1 h sz sl = some ((res.1, h2, sz2, sl2)) ∧ iz tg r hb zb c1 c2 r3 h2 res.2 sz2 sl2 := by
  unfold g_X1_apply at hm
  unfold f_X1_apply
  have e0 := t_ck (c := 1) Z.1 T_v0 (by decide)
  rw [Z.2.1 v0 (by omega)] at e0
  refine tr_eq2 e0 ?_
  exact t_X1_apply_0 Z T_v0 hm
def g_X1_push_53 (n : Nat) (v0 : Nat) (s : st_T) : Option (Int32 × st_T) :=
  (g_X5_endRow n (gP s v0 0) s).bind fun x2 =>
  some ((0 : Int32), x2)
set_option maxHeartbeats 1000000 in
theorem t_X1_push_53 {tg r : Nat → Nat} {hb : hp_H} {zb c1 c2 : Nat} {r2 : Nat → Nat} {h : hp_H} {s : st_T} {sz sl n : Nat} {v0 : Nat} (Z : iz tg r hb zb c1 c2 r2 h s sz sl) (T_v0 : tg v0 = 11) {res : Int32 × st_T} (hm : g_X1_push_53 n v0 s = some res) : ∃ h2 sz2 sl2 r3, f_X1_push_53 n (r v0) h sz sl = some ((res.1, h2, sz2, sl2)) ∧ iz tg r hb zb c1 c2 r3 h2 res.2 sz2 sl2 := by
  rw [← Z.2.1 v0 (by omega)]
  unfold g_X1_push_53 at hm
  unfold f_X1_push_53
  have T1 : tg (gP s v0 0) = 15 := t_tg (c := 1) Z.1 T_v0 (by decide) (by decide) rfl (by decide)
  refine tr_eq2 (t_fR Z.1 T_v0 (by decide) (by decide) (by decide)) ?_
  obtain ⟨x2, hx2, hm⟩ := hp_bd hm
  obtain ⟨_, e2, I, F⟩ := t_X5_endRow Z.1 isf.rf T1 hx2
  replace Z := Z.step I F
  refine tr_eq2 e2 ?_
  obtain rfl := Option.some.inj hm
  exact ⟨_, _, _, _, rfl, Z⟩
def g_X1_push_34 (n : Nat) (v0 : Nat) (s : st_T) : Option (Int32 × st_T) :=
  g_X1_push_53 n v0 s
set_option maxHeartbeats 1000000 in
theorem t_X1_push_34 {tg r : Nat → Nat} {hb : hp_H} {zb c1 c2 : Nat} {r2 : Nat → Nat} {h : hp_H} {s : st_T} {sz sl n : Nat} {v0 : Nat} (Z : iz tg r hb zb c1 c2 r2 h s sz sl) (T_v0 : tg v0 = 11) {res : Int32 × st_T} (hm : g_X1_push_34 n v0 s = some res) : ∃ h2 sz2 sl2 r3, f_X1_push_34 n (r v0) h sz sl = some ((res.1, h2, sz2, sl2)) ∧ iz tg r hb zb c1 c2 r3 h2 res.2 sz2 sl2 := by
  rw [← Z.2.1 v0 (by omega)]
  unfold g_X1_push_34 at hm
  unfold f_X1_push_34
  try simp only [Z.2.1 v0 (by omega)]
  exact t_X1_push_53 Z T_v0 hm
def g_X1_push_0 (n : Nat) (v0 : Nat) (v1 : Int32) (s : st_T) : Option (Int32 × st_T) :=
  if (gF s (gP s v0 0) 3) = (100 : Int32) then
    some ((-10 : Int32), s)
  else
    if 0 ≤ v1 then
      (g_X5_addFrom n (gP s v0 0) (gP s (gP s v0 2) 9) v1 (0 : Int32) s).bind fun x5 =>
      g_X1_push_53 n v0 x5
    else
      (g_X5_addFrom n (gP s v0 0) (gP s v0 1) ((-1 : Int32) - v1) (0 : Int32) s).bind fun x8 =>
      g_X1_push_34 n v0 x8
set_option maxHeartbeats 1000000 in
theorem t_X1_push_0 {tg r : Nat → Nat} {hb : hp_H} {zb c1 c2 : Nat} {r2 : Nat → Nat} {h : hp_H} {s : st_T} {sz sl n : Nat} {v0 : Nat} {v1 : Int32} (Z : iz tg r hb zb c1 c2 r2 h s sz sl) (T_v0 : tg v0 = 11) {res : Int32 × st_T} (hm : g_X1_push_0 n v0 v1 s = some res) : ∃ h2 sz2 sl2 r3, f_X1_push_0 n (r v0) v1 h sz sl = some ((res.1, h2, sz2, sl2)) ∧ iz tg r hb zb c1 c2 r3 h2 res.2 sz2 sl2 := by
  rw [← Z.2.1 v0 (by omega)]
  unfold g_X1_push_0 at hm
  unfold f_X1_push_0
  have T1 : tg (gP s v0 0) = 15 := t_tg (c := 1) Z.1 T_v0 (by decide) (by decide) rfl (by decide)
  refine tr_eq2 (t_fR Z.1 T_v0 (by decide) (by decide) (by decide)) ?_
  refine tr_eq2 (t_fI Z.1 T1 (by decide) (by decide) rfl) ?_
  by_cases c10 : (gF s (gP s v0 0) 3) = (100 : Int32)
  · rw [if_pos c10] at hm ⊢
    obtain rfl := Option.some.inj hm
    exact ⟨_, _, _, _, rfl, Z⟩
  · rw [if_neg c10] at hm ⊢
    by_cases c9 : 0 ≤ v1
    · rw [if_pos c9] at hm ⊢
      have T2 : tg (gP s v0 0) = 15 := t_tg (c := 1) Z.1 T_v0 (by decide) (by decide) rfl (by decide)
      refine tr_eq2 (t_fR Z.1 T_v0 (by decide) (by decide) (by decide)) ?_
      have T3 : tg (gP s v0 2) = 10 := t_tg (c := 1) Z.1 T_v0 (by decide) (by decide) rfl (by decide)
      refine tr_eq2 (t_fR Z.1 T_v0 (by decide) (by decide) (by decide)) ?_
      have T4 : tg (gP s (gP s v0 2) 9) = 15 := t_tg (c := 0) Z.1 T3 (by decide) (by decide) rfl (by decide)
      refine tr_eq2 (t_fR Z.1 T3 (by decide) (by decide) (by decide)) ?_
      try simp only [Z.2.1 v0 (by omega), Z.2.1 (gP s (gP s v0 2) 9) (by omega), Z.2.1 (gP s v0 0) (by omega)]
      obtain ⟨x5, hx5, hm⟩ := hp_bd hm
      obtain ⟨_, _, _, _, e2, Z⟩ := t2_X5_addFrom Z T2 T4 hx5
      refine tr_eq2 e2 ?_
      try dsimp only
      try simp only [Z.2.1 v0 (by omega)]
      exact t_X1_push_53 Z T_v0 hm
    · rw [if_neg c9] at hm ⊢
      have T6 : tg (gP s v0 0) = 15 := t_tg (c := 1) Z.1 T_v0 (by decide) (by decide) rfl (by decide)
      refine tr_eq2 (t_fR Z.1 T_v0 (by decide) (by decide) (by decide)) ?_
      have T7 : tg (gP s v0 1) = 15 := t_tg (c := 1) Z.1 T_v0 (by decide) (by decide) rfl (by decide)
      refine tr_eq2 (t_fR Z.1 T_v0 (by decide) (by decide) (by decide)) ?_
      try simp only [Z.2.1 v0 (by omega), Z.2.1 (gP s v0 1) (by omega), Z.2.1 (gP s v0 0) (by omega)]
      obtain ⟨x8, hx8, hm⟩ := hp_bd hm
      obtain ⟨_, _, _, _, e2, Z⟩ := t2_X5_addFrom Z T6 T7 hx8
      refine tr_eq2 e2 ?_
      try dsimp only
      try simp only [Z.2.1 v0 (by omega)]
      exact t_X1_push_34 Z T_v0 hm
def g_X1_push (n : Nat) (v0 : Nat) (v1 : Int32) (s : st_T) : Option (Int32 × st_T) := g_X1_push_0 n v0 v1 s
theorem t2_X1_push {tg r : Nat → Nat} {hb : hp_H} {zb c1 c2 : Nat} {r2 : Nat → Nat} {h : hp_H} {s : st_T} {sz sl n : Nat} {v0 : Nat} {v1 : Int32} (Z : iz tg r hb zb c1 c2 r2 h s sz sl) (T_v0 : tg v0 = 11) {res : Int32 × st_T} (hm : g_X1_push n v0 v1 s = some res) : ∃ h2 sz2 sl2 r3, f_X1_push n (r v0) v1 h sz sl = some ((res.1, h2, sz2, sl2)) ∧ iz tg r hb zb c1 c2 r3 h2 res.2 sz2 sl2 := by
  unfold g_X1_push at hm
  unfold f_X1_push
  have e0 := t_ck (c := 1) Z.1 T_v0 (by decide)
  rw [Z.2.1 v0 (by omega)] at e0
  refine tr_eq2 e0 ?_
  exact t_X1_push_0 Z T_v0 hm
abbrev eX_X1_run_40 (x : (Int32 × Int32 × st_T) ⊕ (Int32 × st_T)) (h2 : hp_H) (sz2 sl2 : Nat) : (Int32 × Int32 × hp_H × Nat × Nat) ⊕ (Int32 × hp_H × Nat × Nat) := (Sum.elim (fun y => (.inl (y.1, y.2.1, h2, sz2, sl2))) (fun y => (.inr (y.1, h2, sz2, sl2)))) x
abbrev sX_X1_run_40 (x : (Int32 × Int32 × st_T) ⊕ (Int32 × st_T)) : st_T := (Sum.elim (fun y => y.2.2) (fun y => y.2)) x
abbrev eR_X1_run_40 (x : (Int32 × st_T) ⊕ ((Int32 × Int32 × st_T) ⊕ (Int32 × st_T))) (h2 : hp_H) (sz2 sl2 : Nat) : (Int32 × hp_H × Nat × Nat) ⊕ ((Int32 × Int32 × hp_H × Nat × Nat) ⊕ (Int32 × hp_H × Nat × Nat)) := Sum.elim (fun y => .inl (y.1, h2, sz2, sl2)) (fun y => .inr (eX_X1_run_40 y h2 sz2 sl2)) x
abbrev sR_X1_run_40 (x : (Int32 × st_T) ⊕ ((Int32 × Int32 × st_T) ⊕ (Int32 × st_T))) : st_T := Sum.elim (fun y => y.2) sX_X1_run_40 x
def g_X1_run_156 (n : Nat) (v0 : Nat) (v2 : Nat) (v4 : Int32) (v5 : Int32) (s : st_T) : Option ((Int32 × st_T) ⊕ ((Int32 × Int32 × st_T) ⊕ (Int32 × st_T))) :=
  some (.inl ((v5 + (1 : Int32)), s))
set_option maxHeartbeats 1000000 in
theorem t_X1_run_156 {tg r : Nat → Nat} {hb : hp_H} {zb c1 c2 : Nat} {r2 : Nat → Nat} {h : hp_H} {s : st_T} {sz sl n : Nat} {v0 : Nat} {v2 : Nat} {v4 : Int32} {v5 : Int32} (Z : iz tg r hb zb c1 c2 r2 h s sz sl) (T_v0 : tg v0 = 11) (T_v2 : tg v2 = 13) {res : (Int32 × st_T) ⊕ ((Int32 × Int32 × st_T) ⊕ (Int32 × st_T))} (hm : g_X1_run_156 n v0 v2 v4 v5 s = some res) : ∃ h2 sz2 sl2 r3, f_X1_run_156 n (r v0) (r v2) v4 v5 h sz sl = some (eR_X1_run_40 res h2 sz2 sl2) ∧ iz tg r hb zb c1 c2 r3 h2 (sR_X1_run_40 res) sz2 sl2 := by
  rw [← Z.2.1 v0 (by omega)]
  rw [← Z.2.1 v2 (by omega)]
  unfold g_X1_run_156 at hm
  unfold f_X1_run_156
  obtain rfl := Option.some.inj hm
  exact ⟨_, _, _, _, rfl, Z⟩
def g_X1_run_149 (n : Nat) (v0 : Nat) (v2 : Nat) (v4 : Int32) (v5 : Int32) (s : st_T) : Option ((Int32 × st_T) ⊕ ((Int32 × Int32 × st_T) ⊕ (Int32 × st_T))) :=
  (g_X5_endRow n (gP s v0 1) s).bind fun x2 =>
  g_X1_run_156 n v0 v2 v4 v5 x2
set_option maxHeartbeats 1000000 in
theorem t_X1_run_149 {tg r : Nat → Nat} {hb : hp_H} {zb c1 c2 : Nat} {r2 : Nat → Nat} {h : hp_H} {s : st_T} {sz sl n : Nat} {v0 : Nat} {v2 : Nat} {v4 : Int32} {v5 : Int32} (Z : iz tg r hb zb c1 c2 r2 h s sz sl) (T_v0 : tg v0 = 11) (T_v2 : tg v2 = 13) {res : (Int32 × st_T) ⊕ ((Int32 × Int32 × st_T) ⊕ (Int32 × st_T))} (hm : g_X1_run_149 n v0 v2 v4 v5 s = some res) : ∃ h2 sz2 sl2 r3, f_X1_run_149 n (r v0) (r v2) v4 v5 h sz sl = some (eR_X1_run_40 res h2 sz2 sl2) ∧ iz tg r hb zb c1 c2 r3 h2 (sR_X1_run_40 res) sz2 sl2 := by
  rw [← Z.2.1 v0 (by omega)]
  rw [← Z.2.1 v2 (by omega)]
  unfold g_X1_run_149 at hm
  unfold f_X1_run_149
  have T1 : tg (gP s v0 1) = 15 := t_tg (c := 1) Z.1 T_v0 (by decide) (by decide) rfl (by decide)
  refine tr_eq2 (t_fR Z.1 T_v0 (by decide) (by decide) (by decide)) ?_
  obtain ⟨x2, hx2, hm⟩ := hp_bd hm
  obtain ⟨_, e2, I, F⟩ := t_X5_endRow Z.1 isf.rf T1 hx2
  replace Z := Z.step I F
  refine tr_eq2 e2 ?_
  try simp only [Z.2.1 v0 (by omega), Z.2.1 v2 (by omega)]
  exact t_X1_run_156 Z T_v0 T_v2 hm
def g_X1_run_102 (n : Nat) (v0 : Nat) (v2 : Nat) (v4 : Int32) (v5 : Int32) (s0 : Int32) (s : st_T) : Option ((Int32 × st_T) ⊕ ((Int32 × Int32 × st_T) ⊕ (Int32 × st_T))) :=
  if s0 = 0 then
    (gA s (gP s v2 4) v5).bind fun x2 =>
    if x2 = 0 then
      g_X1_run_156 n v0 v2 v4 v5 s
    else
      (g_X5_addFrom n (gP s v0 1) (gP s v0 0) ((gF s (gP s v0 0) 3) - (1 : Int32)) (0 : Int32) s).bind fun x6 =>
      g_X1_run_149 n v0 v2 v4 v5 x6
  else
    some (.inr (.inl (v5, s0, s)))
set_option maxHeartbeats 1000000 in
theorem t_X1_run_102 {tg r : Nat → Nat} {hb : hp_H} {zb c1 c2 : Nat} {r2 : Nat → Nat} {h : hp_H} {s : st_T} {sz sl n : Nat} {v0 : Nat} {v2 : Nat} {v4 : Int32} {v5 : Int32} {s0 : Int32} (Z : iz tg r hb zb c1 c2 r2 h s sz sl) (T_v0 : tg v0 = 11) (T_v2 : tg v2 = 13) {res : (Int32 × st_T) ⊕ ((Int32 × Int32 × st_T) ⊕ (Int32 × st_T))} (hm : g_X1_run_102 n v0 v2 v4 v5 s0 s = some res) : ∃ h2 sz2 sl2 r3, f_X1_run_102 n (r v0) (r v2) v4 v5 s0 h sz sl = some (eR_X1_run_40 res h2 sz2 sl2) ∧ iz tg r hb zb c1 c2 r3 h2 (sR_X1_run_40 res) sz2 sl2 := by
  rw [← Z.2.1 v0 (by omega)]
  rw [← Z.2.1 v2 (by omega)]
  unfold g_X1_run_102 at hm
  unfold f_X1_run_102
  by_cases c8 : s0 = 0
  · rw [if_pos c8] at hm ⊢
    have T1 : tg (gP s v2 4) = 1 := t_tg (c := 3) Z.1 T_v2 (by decide) (by decide) rfl (by decide)
    refine tr_eq2 (t_fR Z.1 T_v2 (by decide) (by decide) (by decide)) ?_
    obtain ⟨x2, hx2, hm⟩ := hp_bd hm
    refine tr_eq2 (t_aI Z.1 T1 (by decide) rfl hx2) ?_
    by_cases c7 : x2 = 0
    · rw [if_pos c7] at hm ⊢
      try simp only [Z.2.1 v0 (by omega), Z.2.1 v2 (by omega)]
      exact t_X1_run_156 Z T_v0 T_v2 hm
    · rw [if_neg c7] at hm ⊢
      have T3 : tg (gP s v0 1) = 15 := t_tg (c := 1) Z.1 T_v0 (by decide) (by decide) rfl (by decide)
      refine tr_eq2 (t_fR Z.1 T_v0 (by decide) (by decide) (by decide)) ?_
      have T4 : tg (gP s v0 0) = 15 := t_tg (c := 1) Z.1 T_v0 (by decide) (by decide) rfl (by decide)
      refine tr_eq2 (t_fR Z.1 T_v0 (by decide) (by decide) (by decide)) ?_
      have T5 : tg (gP s v0 0) = 15 := t_tg (c := 1) Z.1 T_v0 (by decide) (by decide) rfl (by decide)
      refine tr_eq2 (t_fR Z.1 T_v0 (by decide) (by decide) (by decide)) ?_
      refine tr_eq2 (t_fI Z.1 T5 (by decide) (by decide) rfl) ?_
      try simp only [Z.2.1 v0 (by omega), Z.2.1 v2 (by omega), Z.2.1 (gP s v0 0) (by omega), Z.2.1 (gP s v0 1) (by omega)]
      obtain ⟨x6, hx6, hm⟩ := hp_bd hm
      obtain ⟨_, _, _, _, e2, Z⟩ := t2_X5_addFrom Z T3 T5 hx6
      refine tr_eq2 e2 ?_
      try dsimp only
      try simp only [Z.2.1 v0 (by omega), Z.2.1 v2 (by omega)]
      exact t_X1_run_149 Z T_v0 T_v2 hm
  · rw [if_neg c8] at hm ⊢
    obtain rfl := Option.some.inj hm
    exact ⟨_, _, _, _, rfl, Z⟩
def g_X1_run_93 (n : Nat) (v0 : Nat) (v2 : Nat) (v4 : Int32) (v5 : Int32) (s0 : Int32) (s : st_T) : Option ((Int32 × st_T) ⊕ ((Int32 × Int32 × st_T) ⊕ (Int32 × st_T))) :=
  g_X1_run_102 n v0 v2 v4 v5 s0 s
set_option maxHeartbeats 1000000 in
theorem t_X1_run_93 {tg r : Nat → Nat} {hb : hp_H} {zb c1 c2 : Nat} {r2 : Nat → Nat} {h : hp_H} {s : st_T} {sz sl n : Nat} {v0 : Nat} {v2 : Nat} {v4 : Int32} {v5 : Int32} {s0 : Int32} (Z : iz tg r hb zb c1 c2 r2 h s sz sl) (T_v0 : tg v0 = 11) (T_v2 : tg v2 = 13) {res : (Int32 × st_T) ⊕ ((Int32 × Int32 × st_T) ⊕ (Int32 × st_T))} (hm : g_X1_run_93 n v0 v2 v4 v5 s0 s = some res) : ∃ h2 sz2 sl2 r3, f_X1_run_93 n (r v0) (r v2) v4 v5 s0 h sz sl = some (eR_X1_run_40 res h2 sz2 sl2) ∧ iz tg r hb zb c1 c2 r3 h2 (sR_X1_run_40 res) sz2 sl2 := by
  rw [← Z.2.1 v0 (by omega)]
  rw [← Z.2.1 v2 (by omega)]
  unfold g_X1_run_93 at hm
  unfold f_X1_run_93
  try simp only [Z.2.1 v0 (by omega), Z.2.1 v2 (by omega)]
  exact t_X1_run_102 Z T_v0 T_v2 hm
def g_X1_run_80 (n : Nat) (v0 : Nat) (v2 : Nat) (v4 : Int32) (v5 : Int32) (v6 : Int32) (s0 : Int32) (s : st_T) : Option ((Int32 × st_T) ⊕ ((Int32 × Int32 × st_T) ⊕ (Int32 × st_T))) :=
  if s0 = 0 then
    (g_X1_push n v0 v6 s).bind fun x1 =>
    g_X1_run_102 n v0 v2 v4 v5 x1.1 x1.2
  else
    (g_X1_apply n v0 v6 s).bind fun x2 =>
    g_X1_run_93 n v0 v2 v4 v5 x2.1 x2.2
set_option maxHeartbeats 1000000 in
theorem t_X1_run_80 {tg r : Nat → Nat} {hb : hp_H} {zb c1 c2 : Nat} {r2 : Nat → Nat} {h : hp_H} {s : st_T} {sz sl n : Nat} {v0 : Nat} {v2 : Nat} {v4 : Int32} {v5 : Int32} {v6 : Int32} {s0 : Int32} (Z : iz tg r hb zb c1 c2 r2 h s sz sl) (T_v0 : tg v0 = 11) (T_v2 : tg v2 = 13) {res : (Int32 × st_T) ⊕ ((Int32 × Int32 × st_T) ⊕ (Int32 × st_T))} (hm : g_X1_run_80 n v0 v2 v4 v5 v6 s0 s = some res) : ∃ h2 sz2 sl2 r3, f_X1_run_80 n (r v0) (r v2) v4 v5 v6 s0 h sz sl = some (eR_X1_run_40 res h2 sz2 sl2) ∧ iz tg r hb zb c1 c2 r3 h2 (sR_X1_run_40 res) sz2 sl2 := by
  rw [← Z.2.1 v0 (by omega)]
  rw [← Z.2.1 v2 (by omega)]
  unfold g_X1_run_80 at hm
  unfold f_X1_run_80
  by_cases c3 : s0 = 0
  · rw [if_pos c3] at hm ⊢
    try simp only [Z.2.1 v0 (by omega), Z.2.1 v2 (by omega)]
    obtain ⟨x1, hx1, hm⟩ := hp_bd hm
    obtain ⟨_, _, _, _, e2, Z⟩ := t2_X1_push Z T_v0 hx1
    refine tr_eq2 e2 ?_
    try dsimp only
    try simp only [Z.2.1 v0 (by omega), Z.2.1 v2 (by omega)]
    exact t_X1_run_102 Z T_v0 T_v2 hm
  · rw [if_neg c3] at hm ⊢
    try simp only [Z.2.1 v0 (by omega), Z.2.1 v2 (by omega)]
    obtain ⟨x2, hx2, hm⟩ := hp_bd hm
    obtain ⟨_, _, _, _, e2, Z⟩ := t2_X1_apply Z T_v0 hx2
    refine tr_eq2 e2 ?_
    try dsimp only
    try simp only [Z.2.1 v0 (by omega), Z.2.1 v2 (by omega)]
    exact t_X1_run_93 Z T_v0 T_v2 hm
def g_X1_run_79 (n : Nat) (v0 : Nat) (v2 : Nat) (v4 : Int32) (v5 : Int32) (v6 : Int32) (s : st_T) : Option ((Int32 × st_T) ⊕ ((Int32 × Int32 × st_T) ⊕ (Int32 × st_T))) :=
  g_X1_run_80 n v0 v2 v4 v5 v6 (0 : Int32) s
set_option maxHeartbeats 1000000 in
theorem t_X1_run_79 {tg r : Nat → Nat} {hb : hp_H} {zb c1 c2 : Nat} {r2 : Nat → Nat} {h : hp_H} {s : st_T} {sz sl n : Nat} {v0 : Nat} {v2 : Nat} {v4 : Int32} {v5 : Int32} {v6 : Int32} (Z : iz tg r hb zb c1 c2 r2 h s sz sl) (T_v0 : tg v0 = 11) (T_v2 : tg v2 = 13) {res : (Int32 × st_T) ⊕ ((Int32 × Int32 × st_T) ⊕ (Int32 × st_T))} (hm : g_X1_run_79 n v0 v2 v4 v5 v6 s = some res) : ∃ h2 sz2 sl2 r3, f_X1_run_79 n (r v0) (r v2) v4 v5 v6 h sz sl = some (eR_X1_run_40 res h2 sz2 sl2) ∧ iz tg r hb zb c1 c2 r3 h2 (sR_X1_run_40 res) sz2 sl2 := by
  rw [← Z.2.1 v0 (by omega)]
  rw [← Z.2.1 v2 (by omega)]
  unfold g_X1_run_79 at hm
  unfold f_X1_run_79
  try simp only [Z.2.1 v0 (by omega), Z.2.1 v2 (by omega)]
  exact t_X1_run_80 Z T_v0 T_v2 hm
def g_X1_run_40 (n : Nat) (v0 : Nat) (v2 : Nat) (v4 : Int32) (v5 : Int32) (s : st_T) : Option ((Int32 × st_T) ⊕ ((Int32 × Int32 × st_T) ⊕ (Int32 × st_T))) :=
  if v4 ≤ v5 then
    some (.inr (.inr ((0 : Int32), s)))
  else
    (gA s (gP s v2 3) v5).bind fun x2 =>
    if x2 < 0 then
      g_X1_run_79 n v0 v2 v4 v5 x2 s
    else
      (gA s (gP s (gP s v0 2) 6) x2).bind fun x5 =>
      if x5 < (2 : Int32) then
        g_X1_run_79 n v0 v2 v4 v5 x2 s
      else
        g_X1_run_80 n v0 v2 v4 v5 x2 (1 : Int32) s
set_option maxHeartbeats 1000000 in
theorem t_X1_run_40 {tg r : Nat → Nat} {hb : hp_H} {zb c1 c2 : Nat} {r2 : Nat → Nat} {h : hp_H} {s : st_T} {sz sl n : Nat} {v0 : Nat} {v2 : Nat} {v4 : Int32} {v5 : Int32} (Z : iz tg r hb zb c1 c2 r2 h s sz sl) (T_v0 : tg v0 = 11) (T_v2 : tg v2 = 13) {res : (Int32 × st_T) ⊕ ((Int32 × Int32 × st_T) ⊕ (Int32 × st_T))} (hm : g_X1_run_40 n v0 v2 v4 v5 s = some res) : ∃ h2 sz2 sl2 r3, f_X1_run_40 n (r v0) (r v2) v4 v5 h sz sl = some (eR_X1_run_40 res h2 sz2 sl2) ∧ iz tg r hb zb c1 c2 r3 h2 (sR_X1_run_40 res) sz2 sl2 := by
  rw [← Z.2.1 v0 (by omega)]
  rw [← Z.2.1 v2 (by omega)]
  unfold g_X1_run_40 at hm
  unfold f_X1_run_40
  by_cases c8 : v4 ≤ v5
  · rw [if_pos c8] at hm ⊢
    obtain rfl := Option.some.inj hm
    exact ⟨_, _, _, _, rfl, Z⟩
  · rw [if_neg c8] at hm ⊢
    have T1 : tg (gP s v2 3) = 0 := t_tg (c := 3) Z.1 T_v2 (by decide) (by decide) rfl (by decide)
    refine tr_eq2 (t_fR Z.1 T_v2 (by decide) (by decide) (by decide)) ?_
    obtain ⟨x2, hx2, hm⟩ := hp_bd hm
    refine tr_eq2 (t_aI Z.1 T1 (by decide) rfl hx2) ?_
    by_cases c7 : x2 < 0
    · rw [if_pos c7] at hm ⊢
      try simp only [Z.2.1 v0 (by omega), Z.2.1 v2 (by omega)]
      exact t_X1_run_79 Z T_v0 T_v2 hm
    · rw [if_neg c7] at hm ⊢
      have T3 : tg (gP s v0 2) = 10 := t_tg (c := 1) Z.1 T_v0 (by decide) (by decide) rfl (by decide)
      refine tr_eq2 (t_fR Z.1 T_v0 (by decide) (by decide) (by decide)) ?_
      have T4 : tg (gP s (gP s v0 2) 6) = 0 := t_tg (c := 0) Z.1 T3 (by decide) (by decide) rfl (by decide)
      refine tr_eq2 (t_fR Z.1 T3 (by decide) (by decide) (by decide)) ?_
      obtain ⟨x5, hx5, hm⟩ := hp_bd hm
      refine tr_eq2 (t_aI Z.1 T4 (by decide) rfl hx5) ?_
      by_cases c6 : x5 < (2 : Int32)
      · rw [if_pos c6] at hm ⊢
        try simp only [Z.2.1 v0 (by omega), Z.2.1 v2 (by omega)]
        exact t_X1_run_79 Z T_v0 T_v2 hm
      · rw [if_neg c6] at hm ⊢
        try simp only [Z.2.1 v0 (by omega), Z.2.1 v2 (by omega)]
        exact t_X1_run_80 Z T_v0 T_v2 hm
def gL_X1_run_40 (n : Nat) (v0 : Nat) (v2 : Nat) (v4 : Int32) (c : Int32 × st_T) : Option ((Int32 × st_T) ⊕ ((Int32 × Int32 × st_T) ⊕ (Int32 × st_T))) := g_X1_run_40 n v0 v2 v4 c.1 c.2
theorem tl_X1_run_40 {tg r : Nat → Nat} {hb : hp_H} {zb c1 c2 n : Nat} {v0 : Nat} {v2 : Nat} {v4 : Int32} (T_v0 : tg v0 = 11) (T_v2 : tg v2 = 13) : ∀ (k : Nat) (k0 : Int32) (r2 : Nat → Nat) (h : hp_H) (s : st_T) (sz sl : Nat) (x : (Int32 × Int32 × st_T) ⊕ (Int32 × st_T)), iz tg r hb zb c1 c2 r2 h s sz sl → hp_lp (gL_X1_run_40 n v0 v2 v4) k (k0, s) = some x → ∃ h2 sz2 sl2 r3, hp_lp (fL_X1_run_40 n (r v0) (r v2) v4) k (k0, h, sz, sl) = some (eX_X1_run_40 x h2 sz2 sl2) ∧ iz tg r hb zb c1 c2 r3 h2 (sX_X1_run_40 x) sz2 sl2 := by
  intro k
  induction k with
  | zero => intro k0 r2 h s sz sl x Z hx; exact (hp_lp_0 hx).elim
  | succ k ih =>
    intro k0 r2 h s sz sl x Z hx
    obtain ⟨rr, hr, hc⟩ := hp_lp_1 hx
    obtain ⟨h2, sz2, sl2, r3, e2, Z2⟩ := t_X1_run_40 Z T_v0 T_v2 hr
    rcases hc with ⟨s3, e3, hx3⟩ | e3
    · subst e3
      obtain ⟨h3, sz3, sl3, r4, e4, Z3⟩ := ih _ r3 h2 _ sz2 sl2 x Z2 hx3
      exact ⟨h3, sz3, sl3, r4, hp_lp_s e2 e4, Z3⟩
    · subst e3
      exact ⟨h2, sz2, sl2, r3, hp_lp_x e2, Z2⟩
def g_X1_run_109 (n : Nat) (v2 : Nat) (v5 : Int32) (v8 : Int32) (s : st_T) : Option (Int32 × st_T) :=
  (wF s v2 2 v5).bind fun w1 =>
  some (v8, w1)
set_option maxHeartbeats 1000000 in
theorem t_X1_run_109 {tg r : Nat → Nat} {hb : hp_H} {zb c1 c2 : Nat} {r2 : Nat → Nat} {h : hp_H} {s : st_T} {sz sl n : Nat} {v2 : Nat} {v5 : Int32} {v8 : Int32} (Z : iz tg r hb zb c1 c2 r2 h s sz sl) (T_v2 : tg v2 = 13) {res : Int32 × st_T} (hm : g_X1_run_109 n v2 v5 v8 s = some res) : ∃ h2 sz2 sl2 r3, f_X1_run_109 n (r v2) v5 v8 h sz sl = some ((res.1, h2, sz2, sl2)) ∧ iz tg r hb zb c1 c2 r3 h2 res.2 sz2 sl2 := by
  rw [← Z.2.1 v2 (by omega)]
  unfold g_X1_run_109 at hm
  unfold f_X1_run_109
  obtain ⟨w1, hw1, hm⟩ := hp_bd hm
  obtain ⟨_, e2, I, F⟩ := t_wF (c := 3) (k := 2) Z.1 isf.rf T_v2 (by decide) (by decide) rfl hw1
  replace Z := Z.step I F
  refine tr_eq2 e2 ?_
  obtain rfl := Option.some.inj hm
  exact ⟨_, _, _, _, rfl, Z⟩
def g_X1_run_0 (n : Nat) (v0 : Nat) (v1 : Nat) (v2 : Nat) (v3 : Int32) (s : st_T) : Option (Int32 × st_T) :=
  (wP s v0 2 v1).bind fun w1 =>
  (g_X5_clear n (gP w1 v0 0) w1).bind fun x3 =>
  (g_X5_clear n (gP x3 v0 1) x3).bind fun x5 =>
  (g_X1_notePartners n v0 (gF x5 v2 0) x5).bind fun x6 =>
  (hp_lp (gL_X1_run_40 n v0 v2 (hp_mn v3 (gF x6 v2 1))) n ((0 : Int32), x6)).bind fun x7 =>
  Sum.elim (fun y8 =>
    g_X1_run_109 n v2 y8.1 y8.2.1 y8.2.2) (fun y9 =>
    some (y9.1, y9.2)) x7
set_option maxHeartbeats 1000000 in
theorem t_X1_run_0 {tg r : Nat → Nat} {hb : hp_H} {zb c1 c2 : Nat} {r2 : Nat → Nat} {h : hp_H} {s : st_T} {sz sl n : Nat} {v0 : Nat} {v1 : Nat} {v2 : Nat} {v3 : Int32} (Z : iz tg r hb zb c1 c2 r2 h s sz sl) (T_v0 : tg v0 = 11) (T_v1 : tg v1 = 10) (T_v2 : tg v2 = 13) {res : Int32 × st_T} (hm : g_X1_run_0 n v0 v1 v2 v3 s = some res) : ∃ h2 sz2 sl2 r3, f_X1_run_0 n (r v0) (r v1) (r v2) v3 h sz sl = some ((res.1, h2, sz2, sl2)) ∧ iz tg r hb zb c1 c2 r3 h2 res.2 sz2 sl2 := by
  rw [← Z.2.1 v0 (by omega)]
  rw [← Z.2.1 v1 (by omega)]
  rw [← Z.2.1 v2 (by omega)]
  unfold g_X1_run_0 at hm
  unfold f_X1_run_0
  obtain ⟨w1, hw1, hm⟩ := hp_bd hm
  obtain ⟨_, e2, I, F⟩ := t_wP (c := 1) (k := 2) Z.1 isf.rf (by decide) T_v0 (by decide) (by decide) rfl (by decide) T_v1 hw1
  replace Z := Z.step I F
  refine tr_eq2 e2 ?_
  have T2 : tg (gP w1 v0 0) = 15 := t_tg (c := 1) Z.1 T_v0 (by decide) (by decide) rfl (by decide)
  refine tr_eq2 (t_fR Z.1 T_v0 (by decide) (by decide) (by decide)) ?_
  obtain ⟨x3, hx3, hm⟩ := hp_bd hm
  obtain ⟨_, e2, I, F⟩ := t_X5_clear Z.1 isf.rf T2 hx3
  replace Z := Z.step I F
  refine tr_eq2 e2 ?_
  have T4 : tg (gP x3 v0 1) = 15 := t_tg (c := 1) Z.1 T_v0 (by decide) (by decide) rfl (by decide)
  refine tr_eq2 (t_fR Z.1 T_v0 (by decide) (by decide) (by decide)) ?_
  obtain ⟨x5, hx5, hm⟩ := hp_bd hm
  obtain ⟨_, e2, I, F⟩ := t_X5_clear Z.1 isf.rf T4 hx5
  replace Z := Z.step I F
  refine tr_eq2 e2 ?_
  refine tr_eq2 (t_fI Z.1 T_v2 (by decide) (by decide) rfl) ?_
  obtain ⟨x6, hx6, hm⟩ := hp_bd hm
  obtain ⟨_, e2, I, F⟩ := t_X1_notePartners Z.1 isf.rf T_v0 hx6
  replace Z := Z.step I F
  refine tr_eq2 e2 ?_
  refine tr_eq2 (t_fI Z.1 T_v2 (by decide) (by decide) rfl) ?_
  obtain ⟨x7, hx7, hm⟩ := hp_bd hm
  try simp only [Z.2.1 v0 (by omega), Z.2.1 v1 (by omega), Z.2.1 v2 (by omega)]
  obtain ⟨_, _, _, _, e2, Z⟩ := tl_X1_run_40 T_v0 T_v2 n _ _ _ _ _ _ _ Z hx7
  refine tr_eq2 e2 ?_
  rcases x7 with y8 | y9
  · simp only [eX_X1_run_40, Sum.elim_inl, Sum.elim_inr] at hm ⊢
    replace Z : iz tg r hb zb c1 c2 _ _ y8.2.2 _ _ := Z
    try simp only [Z.2.1 v2 (by omega)]
    exact t_X1_run_109 Z T_v2 hm
  · simp only [eX_X1_run_40, Sum.elim_inl, Sum.elim_inr] at hm ⊢
    replace Z : iz tg r hb zb c1 c2 _ _ y9.2 _ _ := Z
    obtain rfl := Option.some.inj hm
    exact ⟨_, _, _, _, rfl, Z⟩
def g_X1_run (n : Nat) (v0 : Nat) (v1 : Nat) (v2 : Nat) (v3 : Int32) (s : st_T) : Option (Int32 × st_T) := g_X1_run_0 n v0 v1 v2 v3 s
theorem t2_X1_run {tg r : Nat → Nat} {hb : hp_H} {zb c1 c2 : Nat} {r2 : Nat → Nat} {h : hp_H} {s : st_T} {sz sl n : Nat} {v0 : Nat} {v1 : Nat} {v2 : Nat} {v3 : Int32} (Z : iz tg r hb zb c1 c2 r2 h s sz sl) (T_v0 : tg v0 = 11) (T_v1 : tg v1 = 10) (T_v2 : tg v2 = 13) {res : Int32 × st_T} (hm : g_X1_run n v0 v1 v2 v3 s = some res) : ∃ h2 sz2 sl2 r3, f_X1_run n (r v0) (r v1) (r v2) v3 h sz sl = some ((res.1, h2, sz2, sl2)) ∧ iz tg r hb zb c1 c2 r3 h2 res.2 sz2 sl2 := by
  unfold g_X1_run at hm
  unfold f_X1_run
  have e0 := t_ck (c := 1) Z.1 T_v0 (by decide)
  rw [Z.2.1 v0 (by omega)] at e0
  refine tr_eq2 e0 ?_
  exact t_X1_run_0 Z T_v0 T_v1 T_v2 hm
def g_X1_verdict_0 (n : Nat) (v0 : Nat) (v1 : Nat) (v2 : Nat) (s : st_T) : Option (Int32) :=
  if (gF s (gP s v0 0) 3) = (1 : Int32) then
    (g_X5_hasRow n (gP s v0 0) (0 : Int32) (gP s v1 9) (gF s v2 0) s).bind fun x4 =>
    if x4 = 0 then
      some (-9 : Int32)
    else
      some (0 : Int32)
  else
    some (-8 : Int32)
set_option maxHeartbeats 1000000 in
theorem t_X1_verdict_0 {tg r : Nat → Nat} {h : hp_H} {s : st_T} {n : Nat} {v0 : Nat} {v1 : Nat} {v2 : Nat} (I : iso tg r h s) (T_v0 : tg v0 = 11) (T_v1 : tg v1 = 10) (T_v2 : tg v2 = 13) {res : Int32} (hm : g_X1_verdict_0 n v0 v1 v2 s = some res) : f_X1_verdict_0 n (r v0) (r v1) (r v2) h = some res := by
  unfold g_X1_verdict_0 at hm
  unfold f_X1_verdict_0
  have T1 : tg (gP s v0 0) = 15 := t_tg (c := 1) I T_v0 (by decide) (by decide) rfl (by decide)
  refine tr_eq0 (t_fR I T_v0 (by decide) (by decide) (by decide)) ?_
  refine tr_eq0 (t_fI I T1 (by decide) (by decide) rfl) ?_
  by_cases c6 : (gF s (gP s v0 0) 3) = (1 : Int32)
  · rw [if_pos c6] at hm ⊢
    have T2 : tg (gP s v0 0) = 15 := t_tg (c := 1) I T_v0 (by decide) (by decide) rfl (by decide)
    refine tr_eq0 (t_fR I T_v0 (by decide) (by decide) (by decide)) ?_
    have T3 : tg (gP s v1 9) = 15 := t_tg (c := 0) I T_v1 (by decide) (by decide) rfl (by decide)
    refine tr_eq0 (t_fR I T_v1 (by decide) (by decide) (by decide)) ?_
    refine tr_eq0 (t_fI I T_v2 (by decide) (by decide) rfl) ?_
    obtain ⟨x4, hx4, hm⟩ := hp_bd hm
    refine tr_eq0 (t_X5_hasRow I T2 T3 hx4) ?_
    by_cases c5 : x4 = 0
    · rw [if_pos c5] at hm ⊢
      obtain rfl := Option.some.inj hm
      rfl
    · rw [if_neg c5] at hm ⊢
      obtain rfl := Option.some.inj hm
      rfl
  · rw [if_neg c6] at hm ⊢
    obtain rfl := Option.some.inj hm
    rfl
def g_X1_verdict (n : Nat) (v0 : Nat) (v1 : Nat) (v2 : Nat) (s : st_T) : Option (Int32) := g_X1_verdict_0 n v0 v1 v2 s
theorem t_X1_verdict {tg r : Nat → Nat} {h : hp_H} {s : st_T} {n : Nat} {v0 : Nat} {v1 : Nat} {v2 : Nat} (I : iso tg r h s) (T_v0 : tg v0 = 11) (T_v1 : tg v1 = 10) (T_v2 : tg v2 = 13) {res : Int32} (hm : g_X1_verdict n v0 v1 v2 s = some res) : f_X1_verdict n (r v0) (r v1) (r v2) h = some res := by
  unfold g_X1_verdict at hm
  unfold f_X1_verdict
  refine tr_eq0 (t_ck I T_v0 (by decide)) ?_
  exact t_X1_verdict_0 I T_v0 T_v1 T_v2 hm
