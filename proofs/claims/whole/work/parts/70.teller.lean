def g_X9_takesStack_12 (n : Nat) (v0 : Nat) (v1 : Int32) (v2 : Int32) (v3 : Int32) (v4 : Int32) (s : st_T) : Option ((Int32) ⊕ (Int32)) :=
  if v3 ≤ v4 then
    some (.inr (1 : Int32))
  else
    (g_X5_get n (gP s v0 5) v1 v4 s).bind fun x2 =>
    (gA s (gP s v0 10) (v2 + v4)).bind fun x4 =>
    if x2 = x4 then
      some (.inl (v4 + (1 : Int32)))
    else
      some (.inr (0 : Int32))
set_option maxHeartbeats 1000000 in
theorem t_X9_takesStack_12 {tg r : Nat → Nat} {h : hp_H} {s : st_T} {n : Nat} {v0 : Nat} {v1 : Int32} {v2 : Int32} {v3 : Int32} {v4 : Int32} (I : iso tg r h s) (T_v0 : tg v0 = 19) {res : (Int32) ⊕ (Int32)} (hm : g_X9_takesStack_12 n v0 v1 v2 v3 v4 s = some res) : f_X9_takesStack_12 n (r v0) v1 v2 v3 v4 h = some res := by
  unfold g_X9_takesStack_12 at hm
  unfold f_X9_takesStack_12
  by_cases c6 : v3 ≤ v4
  · rw [if_pos c6] at hm ⊢
    obtain rfl := Option.some.inj hm
    rfl
  · rw [if_neg c6] at hm ⊢
    have T1 : tg (gP s v0 5) = 15 := t_tg (c := 9) I T_v0 (by decide) (by decide) rfl (by decide)
    refine tr_eq0 (t_fR I T_v0 (by decide) (by decide) (by decide)) ?_
    obtain ⟨x2, hx2, hm⟩ := hp_bd hm
    refine tr_eq0 (t_X5_get I T1 hx2) ?_
    have T3 : tg (gP s v0 10) = 0 := t_tg (c := 9) I T_v0 (by decide) (by decide) rfl (by decide)
    refine tr_eq0 (t_fR I T_v0 (by decide) (by decide) (by decide)) ?_
    obtain ⟨x4, hx4, hm⟩ := hp_bd hm
    refine tr_eq0 (t_aI I T3 (by decide) rfl hx4) ?_
    by_cases c5 : x2 = x4
    · rw [if_pos c5] at hm ⊢
      obtain rfl := Option.some.inj hm
      rfl
    · rw [if_neg c5] at hm ⊢
      obtain rfl := Option.some.inj hm
      rfl
def gL_X9_takesStack_12 (n : Nat) (v0 : Nat) (v1 : Int32) (v2 : Int32) (v3 : Int32) (s : st_T) (c : Int32) : Option ((Int32) ⊕ (Int32)) := g_X9_takesStack_12 n v0 v1 v2 v3 c s
theorem tl_X9_takesStack_12 {tg r : Nat → Nat} {h : hp_H} {s : st_T} {n : Nat} {v0 : Nat} {v1 : Int32} {v2 : Int32} {v3 : Int32} (I : iso tg r h s) (T_v0 : tg v0 = 19) : ∀ (k : Nat) (c : Int32) (x : Int32), hp_lp (gL_X9_takesStack_12 n v0 v1 v2 v3 s) k c = some x → hp_lp (fL_X9_takesStack_12 n (r v0) v1 v2 v3 h) k c = some x := by
  intro k
  induction k with
  | zero => intro c x hx; exact (hp_lp_0 hx).elim
  | succ k ih =>
    intro c x hx
    obtain ⟨rr, hr, hc⟩ := hp_lp_1 hx
    have e2 := t_X9_takesStack_12 I T_v0 hr
    rcases hc with ⟨s3, e3, hx3⟩ | e3
    · subst e3
      exact hp_lp_s e2 (ih _ _ hx3)
    · subst e3
      exact hp_lp_x e2
def g_X9_takesStack_0 (n : Nat) (v0 : Nat) (v1 : Int32) (v2 : Int32) (s : st_T) : Option (Int32) :=
  (g_X5_size n (gP s v0 5) v1 s).bind fun x2 =>
  (hp_lp (gL_X9_takesStack_12 n v0 v1 v2 x2 s) n (0 : Int32)).bind fun x3 =>
  some x3
set_option maxHeartbeats 1000000 in
theorem t_X9_takesStack_0 {tg r : Nat → Nat} {h : hp_H} {s : st_T} {n : Nat} {v0 : Nat} {v1 : Int32} {v2 : Int32} (I : iso tg r h s) (T_v0 : tg v0 = 19) {res : Int32} (hm : g_X9_takesStack_0 n v0 v1 v2 s = some res) : f_X9_takesStack_0 n (r v0) v1 v2 h = some res := by
  unfold g_X9_takesStack_0 at hm
  unfold f_X9_takesStack_0
  have T1 : tg (gP s v0 5) = 15 := t_tg (c := 9) I T_v0 (by decide) (by decide) rfl (by decide)
  refine tr_eq0 (t_fR I T_v0 (by decide) (by decide) (by decide)) ?_
  obtain ⟨x2, hx2, hm⟩ := hp_bd hm
  refine tr_eq0 (t_X5_size I T1 hx2) ?_
  obtain ⟨x3, hx3, hm⟩ := hp_bd hm
  refine tr_eq0 (tl_X9_takesStack_12 I T_v0 n _ _ hx3) ?_
  obtain rfl := Option.some.inj hm
  rfl
def g_X9_takesStack (n : Nat) (v0 : Nat) (v1 : Int32) (v2 : Int32) (s : st_T) : Option (Int32) := g_X9_takesStack_0 n v0 v1 v2 s
theorem t_X9_takesStack {tg r : Nat → Nat} {h : hp_H} {s : st_T} {n : Nat} {v0 : Nat} {v1 : Int32} {v2 : Int32} (I : iso tg r h s) (T_v0 : tg v0 = 19) {res : Int32} (hm : g_X9_takesStack n v0 v1 v2 s = some res) : f_X9_takesStack n (r v0) v1 v2 h = some res := by
  unfold g_X9_takesStack at hm
  unfold f_X9_takesStack
  refine tr_eq0 (t_ck I T_v0 (by decide)) ?_
  exact t_X9_takesStack_0 I T_v0 hm
abbrev eX_X9_addNode_48 (x : st_T) (h2 : hp_H) (sz2 sl2 : Nat) : hp_H × Nat × Nat := (fun y => (h2, sz2, sl2)) x
abbrev sX_X9_addNode_48 (x : st_T) : st_T := (fun y => y) x
abbrev eR_X9_addNode_48 (x : (Int32 × st_T) ⊕ (st_T)) (h2 : hp_H) (sz2 sl2 : Nat) : (Int32 × hp_H × Nat × Nat) ⊕ (hp_H × Nat × Nat) := Sum.elim (fun y => .inl (y.1, h2, sz2, sl2)) (fun y => .inr (eX_X9_addNode_48 y h2 sz2 sl2)) x
abbrev sR_X9_addNode_48 (x : (Int32 × st_T) ⊕ (st_T)) : st_T := Sum.elim (fun y => y.2) sX_X9_addNode_48 x
def g_X9_addNode_70 (n : Nat) (v0 : Nat) (v2 : Int32) (v3 : Int32) (v5 : Int32) (v6 : Int32) (s : st_T) : Option ((Int32 × st_T) ⊕ (st_T)) :=
  (gA s (gP s v0 10) (v2 + v6)).bind fun x3 =>
  (gA s (gP s v0 6) x3).bind fun x4 =>
  (uA 0 s (gP s v0 6) x3 (x4 + (1 : Int32))).bind fun w5 =>
  some (.inl ((v6 + (1 : Int32)), w5))
set_option maxHeartbeats 1000000 in
theorem t_X9_addNode_70 {tg r : Nat → Nat} {hb : hp_H} {zb c1 c2 : Nat} {r2 : Nat → Nat} {h : hp_H} {s : st_T} {sz sl n : Nat} {v0 : Nat} {v2 : Int32} {v3 : Int32} {v5 : Int32} {v6 : Int32} (Z : iz tg r hb zb c1 c2 r2 h s sz sl) (T_v0 : tg v0 = 19) {res : (Int32 × st_T) ⊕ (st_T)} (hm : g_X9_addNode_70 n v0 v2 v3 v5 v6 s = some res) : ∃ h2 sz2 sl2 r3, f_X9_addNode_70 n (r v0) v2 v3 v5 v6 h sz sl = some (eR_X9_addNode_48 res h2 sz2 sl2) ∧ iz tg r hb zb c1 c2 r3 h2 (sR_X9_addNode_48 res) sz2 sl2 := by
  rw [← Z.2.1 v0 (by omega)]
  unfold g_X9_addNode_70 at hm
  unfold f_X9_addNode_70
  have T1 : tg (gP s v0 6) = 0 := t_tg (c := 9) Z.1 T_v0 (by decide) (by decide) rfl (by decide)
  refine tr_eq2 (t_fR Z.1 T_v0 (by decide) (by decide) (by decide)) ?_
  have T2 : tg (gP s v0 10) = 0 := t_tg (c := 9) Z.1 T_v0 (by decide) (by decide) rfl (by decide)
  refine tr_eq2 (t_fR Z.1 T_v0 (by decide) (by decide) (by decide)) ?_
  obtain ⟨x3, hx3, hm⟩ := hp_bd hm
  refine tr_eq2 (t_aI Z.1 T2 (by decide) rfl hx3) ?_
  obtain ⟨x4, hx4, hm⟩ := hp_bd hm
  refine tr_eq2 (t_aI Z.1 T1 (by decide) rfl hx4) ?_
  obtain ⟨w5, hw5, hm⟩ := hp_bd hm
  obtain ⟨_, e2, I, F⟩ := t_sI Z.1 isf.rf T1 (by decide) rfl hw5
  replace Z := Z.step I F
  refine tr_eq2 e2 ?_
  obtain rfl := Option.some.inj hm
  exact ⟨_, _, _, _, rfl, Z⟩
def g_X9_addNode_48 (n : Nat) (v0 : Nat) (v2 : Int32) (v3 : Int32) (v5 : Int32) (v6 : Int32) (s : st_T) : Option ((Int32 × st_T) ⊕ (st_T)) :=
  if v3 ≤ v6 then
    some (.inr s)
  else
    (gA s (gP s v0 10) (v2 + v6)).bind fun x3 =>
    (g_X5_add n (gP s v0 5) x3 s).bind fun x4 =>
    g_X9_addNode_70 n v0 v2 v3 v5 v6 x4
set_option maxHeartbeats 1000000 in
theorem t_X9_addNode_48 {tg r : Nat → Nat} {hb : hp_H} {zb c1 c2 : Nat} {r2 : Nat → Nat} {h : hp_H} {s : st_T} {sz sl n : Nat} {v0 : Nat} {v2 : Int32} {v3 : Int32} {v5 : Int32} {v6 : Int32} (Z : iz tg r hb zb c1 c2 r2 h s sz sl) (T_v0 : tg v0 = 19) {res : (Int32 × st_T) ⊕ (st_T)} (hm : g_X9_addNode_48 n v0 v2 v3 v5 v6 s = some res) : ∃ h2 sz2 sl2 r3, f_X9_addNode_48 n (r v0) v2 v3 v5 v6 h sz sl = some (eR_X9_addNode_48 res h2 sz2 sl2) ∧ iz tg r hb zb c1 c2 r3 h2 (sR_X9_addNode_48 res) sz2 sl2 := by
  rw [← Z.2.1 v0 (by omega)]
  unfold g_X9_addNode_48 at hm
  unfold f_X9_addNode_48
  by_cases c5 : v3 ≤ v6
  · rw [if_pos c5] at hm ⊢
    obtain rfl := Option.some.inj hm
    exact ⟨_, _, _, _, rfl, Z⟩
  · rw [if_neg c5] at hm ⊢
    have T1 : tg (gP s v0 5) = 15 := t_tg (c := 9) Z.1 T_v0 (by decide) (by decide) rfl (by decide)
    refine tr_eq2 (t_fR Z.1 T_v0 (by decide) (by decide) (by decide)) ?_
    have T2 : tg (gP s v0 10) = 0 := t_tg (c := 9) Z.1 T_v0 (by decide) (by decide) rfl (by decide)
    refine tr_eq2 (t_fR Z.1 T_v0 (by decide) (by decide) (by decide)) ?_
    obtain ⟨x3, hx3, hm⟩ := hp_bd hm
    refine tr_eq2 (t_aI Z.1 T2 (by decide) rfl hx3) ?_
    try simp only [Z.2.1 v0 (by omega), Z.2.1 (gP s v0 5) (by omega)]
    obtain ⟨x4, hx4, hm⟩ := hp_bd hm
    obtain ⟨_, _, _, _, e2, Z⟩ := t2_X5_add Z T1 hx4
    refine tr_eq2 e2 ?_
    try dsimp only
    try simp only [Z.2.1 v0 (by omega)]
    exact t_X9_addNode_70 Z T_v0 hm
def gL_X9_addNode_48 (n : Nat) (v0 : Nat) (v2 : Int32) (v3 : Int32) (v5 : Int32) (c : Int32 × st_T) : Option ((Int32 × st_T) ⊕ (st_T)) := g_X9_addNode_48 n v0 v2 v3 v5 c.1 c.2
theorem tl_X9_addNode_48 {tg r : Nat → Nat} {hb : hp_H} {zb c1 c2 n : Nat} {v0 : Nat} {v2 : Int32} {v3 : Int32} {v5 : Int32} (T_v0 : tg v0 = 19) : ∀ (k : Nat) (k0 : Int32) (r2 : Nat → Nat) (h : hp_H) (s : st_T) (sz sl : Nat) (x : st_T), iz tg r hb zb c1 c2 r2 h s sz sl → hp_lp (gL_X9_addNode_48 n v0 v2 v3 v5) k (k0, s) = some x → ∃ h2 sz2 sl2 r3, hp_lp (fL_X9_addNode_48 n (r v0) v2 v3 v5) k (k0, h, sz, sl) = some (eX_X9_addNode_48 x h2 sz2 sl2) ∧ iz tg r hb zb c1 c2 r3 h2 (sX_X9_addNode_48 x) sz2 sl2 := by
  intro k
  induction k with
  | zero => intro k0 r2 h s sz sl x Z hx; exact (hp_lp_0 hx).elim
  | succ k ih =>
    intro k0 r2 h s sz sl x Z hx
    obtain ⟨rr, hr, hc⟩ := hp_lp_1 hx
    obtain ⟨h2, sz2, sl2, r3, e2, Z2⟩ := t_X9_addNode_48 Z T_v0 hr
    rcases hc with ⟨s3, e3, hx3⟩ | e3
    · subst e3
      obtain ⟨h3, sz3, sl3, r4, e4, Z3⟩ := ih _ r3 h2 _ sz2 sl2 x Z2 hx3
      exact ⟨h3, sz3, sl3, r4, hp_lp_s e2 e4, Z3⟩
    · subst e3
      exact ⟨h2, sz2, sl2, r3, hp_lp_x e2, Z2⟩
def g_X9_addNode_94 (n : Nat) (v0 : Nat) (v5 : Int32) (s : st_T) : Option (Int32 × st_T) :=
  (g_X5_endRow n (gP s v0 5) s).bind fun x2 =>
  (wF x2 v0 2 ((gF x2 v0 2) + (1 : Int32))).bind fun w3 =>
  some (v5, w3)
set_option maxHeartbeats 1000000 in
theorem t_X9_addNode_94 {tg r : Nat → Nat} {hb : hp_H} {zb c1 c2 : Nat} {r2 : Nat → Nat} {h : hp_H} {s : st_T} {sz sl n : Nat} {v0 : Nat} {v5 : Int32} (Z : iz tg r hb zb c1 c2 r2 h s sz sl) (T_v0 : tg v0 = 19) {res : Int32 × st_T} (hm : g_X9_addNode_94 n v0 v5 s = some res) : ∃ h2 sz2 sl2 r3, f_X9_addNode_94 n (r v0) v5 h sz sl = some ((res.1, h2, sz2, sl2)) ∧ iz tg r hb zb c1 c2 r3 h2 res.2 sz2 sl2 := by
  rw [← Z.2.1 v0 (by omega)]
  unfold g_X9_addNode_94 at hm
  unfold f_X9_addNode_94
  have T1 : tg (gP s v0 5) = 15 := t_tg (c := 9) Z.1 T_v0 (by decide) (by decide) rfl (by decide)
  refine tr_eq2 (t_fR Z.1 T_v0 (by decide) (by decide) (by decide)) ?_
  obtain ⟨x2, hx2, hm⟩ := hp_bd hm
  obtain ⟨_, e2, I, F⟩ := t_X5_endRow Z.1 isf.rf T1 hx2
  replace Z := Z.step I F
  refine tr_eq2 e2 ?_
  refine tr_eq2 (t_fI Z.1 T_v0 (by decide) (by decide) rfl) ?_
  obtain ⟨w3, hw3, hm⟩ := hp_bd hm
  obtain ⟨_, e2, I, F⟩ := t_wF (c := 9) (k := 2) Z.1 isf.rf T_v0 (by decide) (by decide) rfl hw3
  replace Z := Z.step I F
  refine tr_eq2 e2 ?_
  obtain rfl := Option.some.inj hm
  exact ⟨_, _, _, _, rfl, Z⟩
def g_X9_addNode_0 (n : Nat) (v0 : Nat) (v1 : Int32) (v2 : Int32) (v3 : Int32) (v4 : Int32) (s : st_T) : Option (Int32 × st_T) :=
  (uA 0 s (gP s v0 4) (gF s v0 2) v1).bind fun w2 =>
  (uA 0 w2 (gP w2 v0 6) (gF s v0 2) (0 : Int32)).bind fun w4 =>
  (gA w4 (gP w4 v0 7) v4).bind fun x7 =>
  (uA 0 w4 (gP w4 v0 8) (gF s v0 2) x7).bind fun w8 =>
  (uA 0 w8 (gP w8 v0 7) v4 (gF s v0 2)).bind fun w10 =>
  (hp_lp (gL_X9_addNode_48 n v0 v2 v3 (gF s v0 2)) n ((0 : Int32), w10)).bind fun x11 =>
  g_X9_addNode_94 n v0 (gF s v0 2) x11
set_option maxHeartbeats 1000000 in
theorem t_X9_addNode_0 {tg r : Nat → Nat} {hb : hp_H} {zb c1 c2 : Nat} {r2 : Nat → Nat} {h : hp_H} {s : st_T} {sz sl n : Nat} {v0 : Nat} {v1 : Int32} {v2 : Int32} {v3 : Int32} {v4 : Int32} (Z : iz tg r hb zb c1 c2 r2 h s sz sl) (T_v0 : tg v0 = 19) {res : Int32 × st_T} (hm : g_X9_addNode_0 n v0 v1 v2 v3 v4 s = some res) : ∃ h2 sz2 sl2 r3, f_X9_addNode_0 n (r v0) v1 v2 v3 v4 h sz sl = some ((res.1, h2, sz2, sl2)) ∧ iz tg r hb zb c1 c2 r3 h2 res.2 sz2 sl2 := by
  rw [← Z.2.1 v0 (by omega)]
  unfold g_X9_addNode_0 at hm
  unfold f_X9_addNode_0
  refine tr_eq2 (t_fI Z.1 T_v0 (by decide) (by decide) rfl) ?_
  have T1 : tg (gP s v0 4) = 0 := t_tg (c := 9) Z.1 T_v0 (by decide) (by decide) rfl (by decide)
  refine tr_eq2 (t_fR Z.1 T_v0 (by decide) (by decide) (by decide)) ?_
  obtain ⟨w2, hw2, hm⟩ := hp_bd hm
  obtain ⟨_, e2, I, F⟩ := t_sI Z.1 isf.rf T1 (by decide) rfl hw2
  replace Z := Z.step I F
  refine tr_eq2 e2 ?_
  have T3 : tg (gP w2 v0 6) = 0 := t_tg (c := 9) Z.1 T_v0 (by decide) (by decide) rfl (by decide)
  refine tr_eq2 (t_fR Z.1 T_v0 (by decide) (by decide) (by decide)) ?_
  obtain ⟨w4, hw4, hm⟩ := hp_bd hm
  obtain ⟨_, e2, I, F⟩ := t_sI Z.1 isf.rf T3 (by decide) rfl hw4
  replace Z := Z.step I F
  refine tr_eq2 e2 ?_
  have T5 : tg (gP w4 v0 8) = 0 := t_tg (c := 9) Z.1 T_v0 (by decide) (by decide) rfl (by decide)
  refine tr_eq2 (t_fR Z.1 T_v0 (by decide) (by decide) (by decide)) ?_
  have T6 : tg (gP w4 v0 7) = 0 := t_tg (c := 9) Z.1 T_v0 (by decide) (by decide) rfl (by decide)
  refine tr_eq2 (t_fR Z.1 T_v0 (by decide) (by decide) (by decide)) ?_
  obtain ⟨x7, hx7, hm⟩ := hp_bd hm
  refine tr_eq2 (t_aI Z.1 T6 (by decide) rfl hx7) ?_
  obtain ⟨w8, hw8, hm⟩ := hp_bd hm
  obtain ⟨_, e2, I, F⟩ := t_sI Z.1 isf.rf T5 (by decide) rfl hw8
  replace Z := Z.step I F
  refine tr_eq2 e2 ?_
  have T9 : tg (gP w8 v0 7) = 0 := t_tg (c := 9) Z.1 T_v0 (by decide) (by decide) rfl (by decide)
  refine tr_eq2 (t_fR Z.1 T_v0 (by decide) (by decide) (by decide)) ?_
  obtain ⟨w10, hw10, hm⟩ := hp_bd hm
  obtain ⟨_, e2, I, F⟩ := t_sI Z.1 isf.rf T9 (by decide) rfl hw10
  replace Z := Z.step I F
  refine tr_eq2 e2 ?_
  obtain ⟨x11, hx11, hm⟩ := hp_bd hm
  try simp only [Z.2.1 v0 (by omega)]
  obtain ⟨_, _, _, _, e2, Z⟩ := tl_X9_addNode_48 T_v0 n _ _ _ _ _ _ _ Z hx11
  refine tr_eq2 e2 ?_
  try dsimp only [eX_X9_addNode_48]
  replace Z : iz tg r hb zb c1 c2 _ _ x11 _ _ := Z
  try simp only [Z.2.1 v0 (by omega)]
  exact t_X9_addNode_94 Z T_v0 hm
def g_X9_addNode (n : Nat) (v0 : Nat) (v1 : Int32) (v2 : Int32) (v3 : Int32) (v4 : Int32) (s : st_T) : Option (Int32 × st_T) := g_X9_addNode_0 n v0 v1 v2 v3 v4 s
theorem t2_X9_addNode {tg r : Nat → Nat} {hb : hp_H} {zb c1 c2 : Nat} {r2 : Nat → Nat} {h : hp_H} {s : st_T} {sz sl n : Nat} {v0 : Nat} {v1 : Int32} {v2 : Int32} {v3 : Int32} {v4 : Int32} (Z : iz tg r hb zb c1 c2 r2 h s sz sl) (T_v0 : tg v0 = 19) {res : Int32 × st_T} (hm : g_X9_addNode n v0 v1 v2 v3 v4 s = some res) : ∃ h2 sz2 sl2 r3, f_X9_addNode n (r v0) v1 v2 v3 v4 h sz sl = some ((res.1, h2, sz2, sl2)) ∧ iz tg r hb zb c1 c2 r3 h2 res.2 sz2 sl2 := by
  unfold g_X9_addNode at hm
  unfold f_X9_addNode
  have e0 := t_ck (c := 9) Z.1 T_v0 (by decide)
  rw [Z.2.1 v0 (by omega)] at e0
  refine tr_eq2 e0 ?_
  exact t_X9_addNode_0 Z T_v0 hm
def g_X9_nodeOf_6 (n : Nat) (v0 : Nat) (v1 : Int32) (v2 : Int32) (v3 : Int32) (v4 : Int32) (v5 : Int32) (s : st_T) : Option ((Int32 × Int32) ⊕ (Int32)) :=
  if v3 ≤ v5 then
    some (.inr v4)
  else
    (gA s (gP s v0 10) (v2 + v5)).bind fun x2 =>
    some (.inl ((((31 : Int32) * v4) + x2), (v5 + (1 : Int32))))
set_option maxHeartbeats 1000000 in
theorem t_X9_nodeOf_6 {tg r : Nat → Nat} {h : hp_H} {s : st_T} {n : Nat} {v0 : Nat} {v1 : Int32} {v2 : Int32} {v3 : Int32} {v4 : Int32} {v5 : Int32} (I : iso tg r h s) (T_v0 : tg v0 = 19) {res : (Int32 × Int32) ⊕ (Int32)} (hm : g_X9_nodeOf_6 n v0 v1 v2 v3 v4 v5 s = some res) : f_X9_nodeOf_6 n (r v0) v1 v2 v3 v4 v5 h = some res := by
  unfold g_X9_nodeOf_6 at hm
  unfold f_X9_nodeOf_6
  by_cases c3 : v3 ≤ v5
  · rw [if_pos c3] at hm ⊢
    obtain rfl := Option.some.inj hm
    rfl
  · rw [if_neg c3] at hm ⊢
    have T1 : tg (gP s v0 10) = 0 := t_tg (c := 9) I T_v0 (by decide) (by decide) rfl (by decide)
    refine tr_eq0 (t_fR I T_v0 (by decide) (by decide) (by decide)) ?_
    obtain ⟨x2, hx2, hm⟩ := hp_bd hm
    refine tr_eq0 (t_aI I T1 (by decide) rfl hx2) ?_
    obtain rfl := Option.some.inj hm
    rfl
def gL_X9_nodeOf_6 (n : Nat) (v0 : Nat) (v1 : Int32) (v2 : Int32) (v3 : Int32) (s : st_T) (c : Int32 × Int32) : Option ((Int32 × Int32) ⊕ (Int32)) := g_X9_nodeOf_6 n v0 v1 v2 v3 c.1 c.2 s
theorem tl_X9_nodeOf_6 {tg r : Nat → Nat} {h : hp_H} {s : st_T} {n : Nat} {v0 : Nat} {v1 : Int32} {v2 : Int32} {v3 : Int32} (I : iso tg r h s) (T_v0 : tg v0 = 19) : ∀ (k : Nat) (c : Int32 × Int32) (x : Int32), hp_lp (gL_X9_nodeOf_6 n v0 v1 v2 v3 s) k c = some x → hp_lp (fL_X9_nodeOf_6 n (r v0) v1 v2 v3 h) k c = some x := by
  intro k
  induction k with
  | zero => intro c x hx; exact (hp_lp_0 hx).elim
  | succ k ih =>
    intro c x hx
    obtain ⟨rr, hr, hc⟩ := hp_lp_1 hx
    have e2 := t_X9_nodeOf_6 I T_v0 hr
    rcases hc with ⟨s3, e3, hx3⟩ | e3
    · subst e3
      exact hp_lp_s e2 (ih _ _ hx3)
    · subst e3
      exact hp_lp_x e2
def g_X9_nodeOf_99 (n : Nat) (v0 : Nat) (v1 : Int32) (v2 : Int32) (v3 : Int32) (v5 : Int32) (v6 : Int32) (v7 : Int32) (s : st_T) : Option ((Int32 × Int32) ⊕ ((Unit) ⊕ (Int32))) :=
  (gA s (gP s v0 8) v6).bind fun x2 =>
  some (.inl (x2, (v7 + (1 : Int32))))
set_option maxHeartbeats 1000000 in
theorem t_X9_nodeOf_99 {tg r : Nat → Nat} {h : hp_H} {s : st_T} {n : Nat} {v0 : Nat} {v1 : Int32} {v2 : Int32} {v3 : Int32} {v5 : Int32} {v6 : Int32} {v7 : Int32} (I : iso tg r h s) (T_v0 : tg v0 = 19) {res : (Int32 × Int32) ⊕ ((Unit) ⊕ (Int32))} (hm : g_X9_nodeOf_99 n v0 v1 v2 v3 v5 v6 v7 s = some res) : f_X9_nodeOf_99 n (r v0) v1 v2 v3 v5 v6 v7 h = some res := by
  unfold g_X9_nodeOf_99 at hm
  unfold f_X9_nodeOf_99
  have T1 : tg (gP s v0 8) = 0 := t_tg (c := 9) I T_v0 (by decide) (by decide) rfl (by decide)
  refine tr_eq0 (t_fR I T_v0 (by decide) (by decide) (by decide)) ?_
  obtain ⟨x2, hx2, hm⟩ := hp_bd hm
  refine tr_eq0 (t_aI I T1 (by decide) rfl hx2) ?_
  obtain rfl := Option.some.inj hm
  rfl
def g_X9_nodeOf_61 (n : Nat) (v0 : Nat) (v1 : Int32) (v2 : Int32) (v3 : Int32) (v5 : Int32) (v6 : Int32) (v7 : Int32) (s : st_T) : Option ((Int32 × Int32) ⊕ ((Unit) ⊕ (Int32))) :=
  if (1000 : Int32) ≤ v7 then
    some (.inr (.inl ()))
  else
    if v6 = (-1 : Int32) then
      some (.inr (.inl ()))
    else
      (gA s (gP s v0 4) v6).bind fun x2 =>
      if x2 = v1 then
        (g_X9_takesStack n v0 v6 v2 s).bind fun x3 =>
        if x3 = 0 then
          g_X9_nodeOf_99 n v0 v1 v2 v3 v5 v6 v7 s
        else
          some (.inr (.inr v6))
      else
        g_X9_nodeOf_99 n v0 v1 v2 v3 v5 v6 v7 s
set_option maxHeartbeats 1000000 in
theorem t_X9_nodeOf_61 {tg r : Nat → Nat} {h : hp_H} {s : st_T} {n : Nat} {v0 : Nat} {v1 : Int32} {v2 : Int32} {v3 : Int32} {v5 : Int32} {v6 : Int32} {v7 : Int32} (I : iso tg r h s) (T_v0 : tg v0 = 19) {res : (Int32 × Int32) ⊕ ((Unit) ⊕ (Int32))} (hm : g_X9_nodeOf_61 n v0 v1 v2 v3 v5 v6 v7 s = some res) : f_X9_nodeOf_61 n (r v0) v1 v2 v3 v5 v6 v7 h = some res := by
  unfold g_X9_nodeOf_61 at hm
  unfold f_X9_nodeOf_61
  by_cases c7 : (1000 : Int32) ≤ v7
  · rw [if_pos c7] at hm ⊢
    obtain rfl := Option.some.inj hm
    rfl
  · rw [if_neg c7] at hm ⊢
    by_cases c6 : v6 = (-1 : Int32)
    · rw [if_pos c6] at hm ⊢
      obtain rfl := Option.some.inj hm
      rfl
    · rw [if_neg c6] at hm ⊢
      have T1 : tg (gP s v0 4) = 0 := t_tg (c := 9) I T_v0 (by decide) (by decide) rfl (by decide)
      refine tr_eq0 (t_fR I T_v0 (by decide) (by decide) (by decide)) ?_
      obtain ⟨x2, hx2, hm⟩ := hp_bd hm
      refine tr_eq0 (t_aI I T1 (by decide) rfl hx2) ?_
      by_cases c5 : x2 = v1
      · rw [if_pos c5] at hm ⊢
        obtain ⟨x3, hx3, hm⟩ := hp_bd hm
        refine tr_eq0 (t_X9_takesStack I T_v0 hx3) ?_
        by_cases c4 : x3 = 0
        · rw [if_pos c4] at hm ⊢
          exact t_X9_nodeOf_99 I T_v0 hm
        · rw [if_neg c4] at hm ⊢
          obtain rfl := Option.some.inj hm
          rfl
      · rw [if_neg c5] at hm ⊢
        exact t_X9_nodeOf_99 I T_v0 hm
def gL_X9_nodeOf_61 (n : Nat) (v0 : Nat) (v1 : Int32) (v2 : Int32) (v3 : Int32) (v5 : Int32) (s : st_T) (c : Int32 × Int32) : Option ((Int32 × Int32) ⊕ ((Unit) ⊕ (Int32))) := g_X9_nodeOf_61 n v0 v1 v2 v3 v5 c.1 c.2 s
theorem tl_X9_nodeOf_61 {tg r : Nat → Nat} {h : hp_H} {s : st_T} {n : Nat} {v0 : Nat} {v1 : Int32} {v2 : Int32} {v3 : Int32} {v5 : Int32} (I : iso tg r h s) (T_v0 : tg v0 = 19) : ∀ (k : Nat) (c : Int32 × Int32) (x : (Unit) ⊕ (Int32)), hp_lp (gL_X9_nodeOf_61 n v0 v1 v2 v3 v5 s) k c = some x → hp_lp (fL_X9_nodeOf_61 n (r v0) v1 v2 v3 v5 h) k c = some x := by
  intro k
  induction k with
  | zero => intro c x hx; exact (hp_lp_0 hx).elim
  | succ k ih =>
    intro c x hx
    obtain ⟨rr, hr, hc⟩ := hp_lp_1 hx
    have e2 := t_X9_nodeOf_61 I T_v0 hr
    rcases hc with ⟨s3, e3, hx3⟩ | e3
    · subst e3
      exact hp_lp_s e2 (ih _ _ hx3)
    · subst e3
      exact hp_lp_x e2
def g_X9_nodeOf_123 (n : Nat) (s0 : Int32) (s : st_T) : Option (Int32 × st_T) :=
  some (s0, s)
set_option maxHeartbeats 1000000 in
theorem t_X9_nodeOf_123 {tg r : Nat → Nat} {hb : hp_H} {zb c1 c2 : Nat} {r2 : Nat → Nat} {h : hp_H} {s : st_T} {sz sl n : Nat} {s0 : Int32} (Z : iz tg r hb zb c1 c2 r2 h s sz sl) {res : Int32 × st_T} (hm : g_X9_nodeOf_123 n s0 s = some res) : ∃ h2 sz2 sl2 r3, f_X9_nodeOf_123 n s0 h sz sl = some ((res.1, h2, sz2, sl2)) ∧ iz tg r hb zb c1 c2 r3 h2 res.2 sz2 sl2 := by
  unfold g_X9_nodeOf_123 at hm
  unfold f_X9_nodeOf_123
  obtain rfl := Option.some.inj hm
  exact ⟨_, _, _, _, rfl, Z⟩
def g_X9_nodeOf_114 (n : Nat) (v0 : Nat) (v1 : Int32) (v2 : Int32) (v3 : Int32) (v5 : Int32) (s : st_T) : Option (Int32 × st_T) :=
  (g_X9_addNode n v0 v1 v2 v3 v5 s).bind fun x1 =>
  g_X9_nodeOf_123 n x1.1 x1.2
set_option maxHeartbeats 1000000 in
theorem t_X9_nodeOf_114 {tg r : Nat → Nat} {hb : hp_H} {zb c1 c2 : Nat} {r2 : Nat → Nat} {h : hp_H} {s : st_T} {sz sl n : Nat} {v0 : Nat} {v1 : Int32} {v2 : Int32} {v3 : Int32} {v5 : Int32} (Z : iz tg r hb zb c1 c2 r2 h s sz sl) (T_v0 : tg v0 = 19) {res : Int32 × st_T} (hm : g_X9_nodeOf_114 n v0 v1 v2 v3 v5 s = some res) : ∃ h2 sz2 sl2 r3, f_X9_nodeOf_114 n (r v0) v1 v2 v3 v5 h sz sl = some ((res.1, h2, sz2, sl2)) ∧ iz tg r hb zb c1 c2 r3 h2 res.2 sz2 sl2 := by
  rw [← Z.2.1 v0 (by omega)]
  unfold g_X9_nodeOf_114 at hm
  unfold f_X9_nodeOf_114
  try simp only [Z.2.1 v0 (by omega)]
  obtain ⟨x1, hx1, hm⟩ := hp_bd hm
  obtain ⟨_, _, _, _, e2, Z⟩ := t2_X9_addNode Z T_v0 hx1
  refine tr_eq2 e2 ?_
  try dsimp only
  try simp only [Z.2.1 v0 (by omega)]
  exact t_X9_nodeOf_123 Z  hm
def g_X9_nodeOf_0 (n : Nat) (v0 : Nat) (v1 : Int32) (v2 : Int32) (v3 : Int32) (s : st_T) : Option (Int32 × st_T) :=
  (hp_lp (gL_X9_nodeOf_6 n v0 v1 v2 v3 s) n (v1, (0 : Int32))).bind fun x1 =>
  (gA s (gP s v0 7) ((x1 ^^^ ((Int32.toUInt32 x1 >>> (Int32.toUInt32 (8 : Int32) &&& Int32.toUInt32 31)).toInt32)) &&& (255 : Int32))).bind fun x4 =>
  (hp_lp (gL_X9_nodeOf_61 n v0 v1 v2 v3 ((x1 ^^^ ((Int32.toUInt32 x1 >>> (Int32.toUInt32 (8 : Int32) &&& Int32.toUInt32 31)).toInt32)) &&& (255 : Int32)) s) n (x4, (0 : Int32))).bind fun x5 =>
  Sum.elim (fun y6 =>
    g_X9_nodeOf_114 n v0 v1 v2 v3 ((x1 ^^^ ((Int32.toUInt32 x1 >>> (Int32.toUInt32 (8 : Int32) &&& Int32.toUInt32 31)).toInt32)) &&& (255 : Int32)) s) (fun y7 =>
    some (y7, s)) x5
set_option maxHeartbeats 1000000 in
theorem t_X9_nodeOf_0 {tg r : Nat → Nat} {hb : hp_H} {zb c1 c2 : Nat} {r2 : Nat → Nat} {h : hp_H} {s : st_T} {sz sl n : Nat} {v0 : Nat} {v1 : Int32} {v2 : Int32} {v3 : Int32} (Z : iz tg r hb zb c1 c2 r2 h s sz sl) (T_v0 : tg v0 = 19) {res : Int32 × st_T} (hm : g_X9_nodeOf_0 n v0 v1 v2 v3 s = some res) : ∃ h2 sz2 sl2 r3, f_X9_nodeOf_0 n (r v0) v1 v2 v3 h sz sl = some ((res.1, h2, sz2, sl2)) ∧ iz tg r hb zb c1 c2 r3 h2 res.2 sz2 sl2 := by
  rw [← Z.2.1 v0 (by omega)]
  unfold g_X9_nodeOf_0 at hm
  unfold f_X9_nodeOf_0
  obtain ⟨x1, hx1, hm⟩ := hp_bd hm
  refine tr_eq2 (tl_X9_nodeOf_6 Z.1 T_v0 n _ _ hx1) ?_
  have T3 : tg (gP s v0 7) = 0 := t_tg (c := 9) Z.1 T_v0 (by decide) (by decide) rfl (by decide)
  refine tr_eq2 (t_fR Z.1 T_v0 (by decide) (by decide) (by decide)) ?_
  obtain ⟨x4, hx4, hm⟩ := hp_bd hm
  refine tr_eq2 (t_aI Z.1 T3 (by decide) rfl hx4) ?_
  obtain ⟨x5, hx5, hm⟩ := hp_bd hm
  refine tr_eq2 (tl_X9_nodeOf_61 Z.1 T_v0 n _ _ hx5) ?_
  rcases x5 with y6 | y7
  · simp only [Sum.elim_inl, Sum.elim_inr] at hm ⊢
    try simp only [Z.2.1 v0 (by omega)]
    exact t_X9_nodeOf_114 Z T_v0 hm
  · simp only [Sum.elim_inl, Sum.elim_inr] at hm ⊢
    obtain rfl := Option.some.inj hm
    exact ⟨_, _, _, _, rfl, Z⟩
def g_X9_nodeOf (n : Nat) (v0 : Nat) (v1 : Int32) (v2 : Int32) (v3 : Int32) (s : st_T) : Option (Int32 × st_T) := g_X9_nodeOf_0 n v0 v1 v2 v3 s
theorem t2_X9_nodeOf {tg r : Nat → Nat} {hb : hp_H} {zb c1 c2 : Nat} {r2 : Nat → Nat} {h : hp_H} {s : st_T} {sz sl n : Nat} {v0 : Nat} {v1 : Int32} {v2 : Int32} {v3 : Int32} (Z : iz tg r hb zb c1 c2 r2 h s sz sl) (T_v0 : tg v0 = 19) {res : Int32 × st_T} (hm : g_X9_nodeOf n v0 v1 v2 v3 s = some res) : ∃ h2 sz2 sl2 r3, f_X9_nodeOf n (r v0) v1 v2 v3 h sz sl = some ((res.1, h2, sz2, sl2)) ∧ iz tg r hb zb c1 c2 r3 h2 res.2 sz2 sl2 := by
  unfold g_X9_nodeOf at hm
  unfold f_X9_nodeOf
  have e0 := t_ck (c := 9) Z.1 T_v0 (by decide)
  rw [Z.2.1 v0 (by omega)] at e0
  refine tr_eq2 e0 ?_
  exact t_X9_nodeOf_0 Z T_v0 hm
abbrev eX_X9_plant_38 (x : st_T) (h2 : hp_H) (sz2 sl2 : Nat) : hp_H × Nat × Nat := (fun y => (h2, sz2, sl2)) x
abbrev sX_X9_plant_38 (x : st_T) : st_T := (fun y => y) x
abbrev eR_X9_plant_38 (x : (Int32 × Int32 × Int32 × st_T) ⊕ (st_T)) (h2 : hp_H) (sz2 sl2 : Nat) : (Int32 × Int32 × Int32 × hp_H × Nat × Nat) ⊕ (hp_H × Nat × Nat) := Sum.elim (fun y => .inl (y.1, y.2.1, y.2.2.1, h2, sz2, sl2)) (fun y => .inr (eX_X9_plant_38 y h2 sz2 sl2)) x
abbrev sR_X9_plant_38 (x : (Int32 × Int32 × Int32 × st_T) ⊕ (st_T)) : st_T := Sum.elim (fun y => y.2.2.2) sX_X9_plant_38 x
def g_X9_plant_160 (n : Nat) (v0 : Nat) (v3 : Int32) (v4 : Int32) (v5 : Int32) (s : st_T) : Option ((Int32 × Int32 × Int32 × st_T) ⊕ (st_T)) :=
  some (.inl (v3, v4, (v5 + (1 : Int32)), s))
set_option maxHeartbeats 1000000 in
theorem t_X9_plant_160 {tg r : Nat → Nat} {hb : hp_H} {zb c1 c2 : Nat} {r2 : Nat → Nat} {h : hp_H} {s : st_T} {sz sl n : Nat} {v0 : Nat} {v3 : Int32} {v4 : Int32} {v5 : Int32} (Z : iz tg r hb zb c1 c2 r2 h s sz sl) (T_v0 : tg v0 = 19) {res : (Int32 × Int32 × Int32 × st_T) ⊕ (st_T)} (hm : g_X9_plant_160 n v0 v3 v4 v5 s = some res) : ∃ h2 sz2 sl2 r3, f_X9_plant_160 n (r v0) v3 v4 v5 h sz sl = some (eR_X9_plant_38 res h2 sz2 sl2) ∧ iz tg r hb zb c1 c2 r3 h2 (sR_X9_plant_38 res) sz2 sl2 := by
  rw [← Z.2.1 v0 (by omega)]
  unfold g_X9_plant_160 at hm
  unfold f_X9_plant_160
  obtain rfl := Option.some.inj hm
  exact ⟨_, _, _, _, rfl, Z⟩
def g_X9_plant_115 (n : Nat) (v0 : Nat) (v3 : Int32) (v4 : Int32) (v5 : Int32) (v7 : Int32) (s0 : Int32) (s : st_T) : Option ((Int32 × Int32 × Int32 × st_T) ⊕ (st_T)) :=
  (uA 0 s (gP s v0 10) (v4 - v7) s0).bind fun w2 =>
  (gA w2 (gP w2 (gP w2 v0 1) 4) v5).bind fun x5 =>
  if x5 = 0 then
    g_X9_plant_160 n v0 v3 ((v4 - v7) + (1 : Int32)) v5 w2
  else
    (uA 0 w2 (gP w2 v0 9) v3 s0).bind fun w7 =>
    g_X9_plant_160 n v0 (v3 + (1 : Int32)) ((v4 - v7) + (1 : Int32)) v5 w7
set_option maxHeartbeats 1000000 in
theorem t_X9_plant_115 {tg r : Nat → Nat} {hb : hp_H} {zb c1 c2 : Nat} {r2 : Nat → Nat} {h : hp_H} {s : st_T} {sz sl n : Nat} {v0 : Nat} {v3 : Int32} {v4 : Int32} {v5 : Int32} {v7 : Int32} {s0 : Int32} (Z : iz tg r hb zb c1 c2 r2 h s sz sl) (T_v0 : tg v0 = 19) {res : (Int32 × Int32 × Int32 × st_T) ⊕ (st_T)} (hm : g_X9_plant_115 n v0 v3 v4 v5 v7 s0 s = some res) : ∃ h2 sz2 sl2 r3, f_X9_plant_115 n (r v0) v3 v4 v5 v7 s0 h sz sl = some (eR_X9_plant_38 res h2 sz2 sl2) ∧ iz tg r hb zb c1 c2 r3 h2 (sR_X9_plant_38 res) sz2 sl2 := by
  rw [← Z.2.1 v0 (by omega)]
  unfold g_X9_plant_115 at hm
  unfold f_X9_plant_115
  have T1 : tg (gP s v0 10) = 0 := t_tg (c := 9) Z.1 T_v0 (by decide) (by decide) rfl (by decide)
  refine tr_eq2 (t_fR Z.1 T_v0 (by decide) (by decide) (by decide)) ?_
  obtain ⟨w2, hw2, hm⟩ := hp_bd hm
  obtain ⟨_, e2, I, F⟩ := t_sI Z.1 isf.rf T1 (by decide) rfl hw2
  replace Z := Z.step I F
  refine tr_eq2 e2 ?_
  have T3 : tg (gP w2 v0 1) = 13 := t_tg (c := 9) Z.1 T_v0 (by decide) (by decide) rfl (by decide)
  refine tr_eq2 (t_fR Z.1 T_v0 (by decide) (by decide) (by decide)) ?_
  have T4 : tg (gP w2 (gP w2 v0 1) 4) = 1 := t_tg (c := 3) Z.1 T3 (by decide) (by decide) rfl (by decide)
  refine tr_eq2 (t_fR Z.1 T3 (by decide) (by decide) (by decide)) ?_
  obtain ⟨x5, hx5, hm⟩ := hp_bd hm
  refine tr_eq2 (t_aI Z.1 T4 (by decide) rfl hx5) ?_
  by_cases c8 : x5 = 0
  · rw [if_pos c8] at hm ⊢
    try simp only [Z.2.1 v0 (by omega)]
    exact t_X9_plant_160 Z T_v0 hm
  · rw [if_neg c8] at hm ⊢
    have T6 : tg (gP w2 v0 9) = 0 := t_tg (c := 9) Z.1 T_v0 (by decide) (by decide) rfl (by decide)
    refine tr_eq2 (t_fR Z.1 T_v0 (by decide) (by decide) (by decide)) ?_
    obtain ⟨w7, hw7, hm⟩ := hp_bd hm
    obtain ⟨_, e2, I, F⟩ := t_sI Z.1 isf.rf T6 (by decide) rfl hw7
    replace Z := Z.step I F
    refine tr_eq2 e2 ?_
    try simp only [Z.2.1 v0 (by omega)]
    exact t_X9_plant_160 Z T_v0 hm
def g_X9_plant_83 (n : Nat) (v0 : Nat) (v3 : Int32) (v4 : Int32) (v5 : Int32) (v6 : Int32) (s0 : Int32) (s : st_T) : Option ((Int32 × Int32 × Int32 × st_T) ⊕ (st_T)) :=
  if 0 ≤ v6 then
    (g_X9_nodeOf n v0 v6 (v4 - s0) s0 s).bind fun x1 =>
    g_X9_plant_115 n v0 v3 v4 v5 s0 x1.1 x1.2
  else
    (gA s (gP s v0 9) ((-1 : Int32) - v6)).bind fun x3 =>
    g_X9_plant_115 n v0 v3 v4 v5 s0 x3 s
set_option maxHeartbeats 1000000 in
theorem t_X9_plant_83 {tg r : Nat → Nat} {hb : hp_H} {zb c1 c2 : Nat} {r2 : Nat → Nat} {h : hp_H} {s : st_T} {sz sl n : Nat} {v0 : Nat} {v3 : Int32} {v4 : Int32} {v5 : Int32} {v6 : Int32} {s0 : Int32} (Z : iz tg r hb zb c1 c2 r2 h s sz sl) (T_v0 : tg v0 = 19) {res : (Int32 × Int32 × Int32 × st_T) ⊕ (st_T)} (hm : g_X9_plant_83 n v0 v3 v4 v5 v6 s0 s = some res) : ∃ h2 sz2 sl2 r3, f_X9_plant_83 n (r v0) v3 v4 v5 v6 s0 h sz sl = some (eR_X9_plant_38 res h2 sz2 sl2) ∧ iz tg r hb zb c1 c2 r3 h2 (sR_X9_plant_38 res) sz2 sl2 := by
  rw [← Z.2.1 v0 (by omega)]
  unfold g_X9_plant_83 at hm
  unfold f_X9_plant_83
  by_cases c4 : 0 ≤ v6
  · rw [if_pos c4] at hm ⊢
    try simp only [Z.2.1 v0 (by omega)]
    obtain ⟨x1, hx1, hm⟩ := hp_bd hm
    obtain ⟨_, _, _, _, e2, Z⟩ := t2_X9_nodeOf Z T_v0 hx1
    refine tr_eq2 e2 ?_
    try dsimp only
    try simp only [Z.2.1 v0 (by omega)]
    exact t_X9_plant_115 Z T_v0 hm
  · rw [if_neg c4] at hm ⊢
    have T2 : tg (gP s v0 9) = 0 := t_tg (c := 9) Z.1 T_v0 (by decide) (by decide) rfl (by decide)
    refine tr_eq2 (t_fR Z.1 T_v0 (by decide) (by decide) (by decide)) ?_
    obtain ⟨x3, hx3, hm⟩ := hp_bd hm
    refine tr_eq2 (t_aI Z.1 T2 (by decide) rfl hx3) ?_
    try simp only [Z.2.1 v0 (by omega)]
    exact t_X9_plant_115 Z T_v0 hm
def g_X9_plant_38 (n : Nat) (v0 : Nat) (v3 : Int32) (v4 : Int32) (v5 : Int32) (s : st_T) : Option ((Int32 × Int32 × Int32 × st_T) ⊕ (st_T)) :=
  if (gF s (gP s v0 1) 1) ≤ v5 then
    some (.inr s)
  else
    (gA s (gP s (gP s v0 1) 3) v5).bind fun x4 =>
    if 0 ≤ x4 then
      (g_X5_size n (gP s (gP s v0 0) 12) x4 s).bind fun x7 =>
      g_X9_plant_83 n v0 v3 v4 v5 x4 x7 s
    else
      g_X9_plant_83 n v0 v3 v4 v5 x4 (0 : Int32) s
set_option maxHeartbeats 1000000 in
theorem t_X9_plant_38 {tg r : Nat → Nat} {hb : hp_H} {zb c1 c2 : Nat} {r2 : Nat → Nat} {h : hp_H} {s : st_T} {sz sl n : Nat} {v0 : Nat} {v3 : Int32} {v4 : Int32} {v5 : Int32} (Z : iz tg r hb zb c1 c2 r2 h s sz sl) (T_v0 : tg v0 = 19) {res : (Int32 × Int32 × Int32 × st_T) ⊕ (st_T)} (hm : g_X9_plant_38 n v0 v3 v4 v5 s = some res) : ∃ h2 sz2 sl2 r3, f_X9_plant_38 n (r v0) v3 v4 v5 h sz sl = some (eR_X9_plant_38 res h2 sz2 sl2) ∧ iz tg r hb zb c1 c2 r3 h2 (sR_X9_plant_38 res) sz2 sl2 := by
  rw [← Z.2.1 v0 (by omega)]
  unfold g_X9_plant_38 at hm
  unfold f_X9_plant_38
  have T1 : tg (gP s v0 1) = 13 := t_tg (c := 9) Z.1 T_v0 (by decide) (by decide) rfl (by decide)
  refine tr_eq2 (t_fR Z.1 T_v0 (by decide) (by decide) (by decide)) ?_
  refine tr_eq2 (t_fI Z.1 T1 (by decide) (by decide) rfl) ?_
  by_cases c9 : (gF s (gP s v0 1) 1) ≤ v5
  · rw [if_pos c9] at hm ⊢
    obtain rfl := Option.some.inj hm
    exact ⟨_, _, _, _, rfl, Z⟩
  · rw [if_neg c9] at hm ⊢
    have T2 : tg (gP s v0 1) = 13 := t_tg (c := 9) Z.1 T_v0 (by decide) (by decide) rfl (by decide)
    refine tr_eq2 (t_fR Z.1 T_v0 (by decide) (by decide) (by decide)) ?_
    have T3 : tg (gP s (gP s v0 1) 3) = 0 := t_tg (c := 3) Z.1 T2 (by decide) (by decide) rfl (by decide)
    refine tr_eq2 (t_fR Z.1 T2 (by decide) (by decide) (by decide)) ?_
    obtain ⟨x4, hx4, hm⟩ := hp_bd hm
    refine tr_eq2 (t_aI Z.1 T3 (by decide) rfl hx4) ?_
    by_cases c8 : 0 ≤ x4
    · rw [if_pos c8] at hm ⊢
      have T5 : tg (gP s v0 0) = 10 := t_tg (c := 9) Z.1 T_v0 (by decide) (by decide) rfl (by decide)
      refine tr_eq2 (t_fR Z.1 T_v0 (by decide) (by decide) (by decide)) ?_
      have T6 : tg (gP s (gP s v0 0) 12) = 15 := t_tg (c := 0) Z.1 T5 (by decide) (by decide) rfl (by decide)
      refine tr_eq2 (t_fR Z.1 T5 (by decide) (by decide) (by decide)) ?_
      obtain ⟨x7, hx7, hm⟩ := hp_bd hm
      refine tr_eq2 (t_X5_size Z.1 T6 hx7) ?_
      try simp only [Z.2.1 v0 (by omega)]
      exact t_X9_plant_83 Z T_v0 hm
    · rw [if_neg c8] at hm ⊢
      try simp only [Z.2.1 v0 (by omega)]
      exact t_X9_plant_83 Z T_v0 hm
def gL_X9_plant_38 (n : Nat) (v0 : Nat) (c : Int32 × Int32 × Int32 × st_T) : Option ((Int32 × Int32 × Int32 × st_T) ⊕ (st_T)) := g_X9_plant_38 n v0 c.1 c.2.1 c.2.2.1 c.2.2.2
theorem tl_X9_plant_38 {tg r : Nat → Nat} {hb : hp_H} {zb c1 c2 n : Nat} {v0 : Nat} (T_v0 : tg v0 = 19) : ∀ (k : Nat) (k0 : Int32) (k1 : Int32) (k2 : Int32) (r2 : Nat → Nat) (h : hp_H) (s : st_T) (sz sl : Nat) (x : st_T), iz tg r hb zb c1 c2 r2 h s sz sl → hp_lp (gL_X9_plant_38 n v0) k (k0, k1, k2, s) = some x → ∃ h2 sz2 sl2 r3, hp_lp (fL_X9_plant_38 n (r v0)) k (k0, k1, k2, h, sz, sl) = some (eX_X9_plant_38 x h2 sz2 sl2) ∧ iz tg r hb zb c1 c2 r3 h2 (sX_X9_plant_38 x) sz2 sl2 := by
  intro k
  induction k with
  | zero => intro k0 k1 k2 r2 h s sz sl x Z hx; exact (hp_lp_0 hx).elim
  | succ k ih =>
    intro k0 k1 k2 r2 h s sz sl x Z hx
    obtain ⟨rr, hr, hc⟩ := hp_lp_1 hx
    obtain ⟨h2, sz2, sl2, r3, e2, Z2⟩ := t_X9_plant_38 Z T_v0 hr
    rcases hc with ⟨s3, e3, hx3⟩ | e3
    · subst e3
      obtain ⟨h3, sz3, sl3, r4, e4, Z3⟩ := ih _ _ _ r3 h2 _ sz2 sl2 x Z2 hx3
      exact ⟨h3, sz3, sl3, r4, hp_lp_s e2 e4, Z3⟩
    · subst e3
      exact ⟨h2, sz2, sl2, r3, hp_lp_x e2, Z2⟩
def g_X9_plant_166 (n : Nat) (v0 : Nat) (s : st_T) : Option (st_T) :=
  (gA s (gP s v0 10) (0 : Int32)).bind fun x2 =>
  (wF s v0 3 x2).bind fun w3 =>
  some w3
set_option maxHeartbeats 1000000 in
theorem t_X9_plant_166 {tg r : Nat → Nat} {hb : hp_H} {zb c1 c2 : Nat} {r2 : Nat → Nat} {h : hp_H} {s : st_T} {sz sl n : Nat} {v0 : Nat} (Z : iz tg r hb zb c1 c2 r2 h s sz sl) (T_v0 : tg v0 = 19) {res : st_T} (hm : g_X9_plant_166 n v0 s = some res) : ∃ h2 sz2 sl2 r3, f_X9_plant_166 n (r v0) h sz sl = some ((h2, sz2, sl2)) ∧ iz tg r hb zb c1 c2 r3 h2 res sz2 sl2 := by
  rw [← Z.2.1 v0 (by omega)]
  unfold g_X9_plant_166 at hm
  unfold f_X9_plant_166
  have T1 : tg (gP s v0 10) = 0 := t_tg (c := 9) Z.1 T_v0 (by decide) (by decide) rfl (by decide)
  refine tr_eq2 (t_fR Z.1 T_v0 (by decide) (by decide) (by decide)) ?_
  obtain ⟨x2, hx2, hm⟩ := hp_bd hm
  refine tr_eq2 (t_aI Z.1 T1 (by decide) rfl hx2) ?_
  obtain ⟨w3, hw3, hm⟩ := hp_bd hm
  obtain ⟨_, e2, I, F⟩ := t_wF (c := 9) (k := 3) Z.1 isf.rf T_v0 (by decide) (by decide) rfl hw3
  replace Z := Z.step I F
  refine tr_eq2 e2 ?_
  obtain rfl := Option.some.inj hm
  exact ⟨_, _, _, _, rfl, Z⟩
def g_X9_plant_0 (n : Nat) (v0 : Nat) (v1 : Nat) (v2 : Nat) (s : st_T) : Option (st_T) :=
  (wP s v0 0 v1).bind fun w1 =>
  (wP w1 v0 1 v2).bind fun w2 =>
  (wF w2 v0 2 (0 : Int32)).bind fun w3 =>
  (g_X5_clear n (gP w3 v0 5) w3).bind fun x5 =>
  (g_J7_fill_53178 n (gP x5 v0 7) (-1 : Int32) x5).bind fun x7 =>
  (hp_lp (gL_X9_plant_38 n v0) n ((0 : Int32), (0 : Int32), (0 : Int32), x7)).bind fun x8 =>
  g_X9_plant_166 n v0 x8
set_option maxHeartbeats 1000000 in
theorem t_X9_plant_0 {tg r : Nat → Nat} {hb : hp_H} {zb c1 c2 : Nat} {r2 : Nat → Nat} {h : hp_H} {s : st_T} {sz sl n : Nat} {v0 : Nat} {v1 : Nat} {v2 : Nat} (Z : iz tg r hb zb c1 c2 r2 h s sz sl) (T_v0 : tg v0 = 19) (T_v1 : tg v1 = 10) (T_v2 : tg v2 = 13) {res : st_T} (hm : g_X9_plant_0 n v0 v1 v2 s = some res) : ∃ h2 sz2 sl2 r3, f_X9_plant_0 n (r v0) (r v1) (r v2) h sz sl = some ((h2, sz2, sl2)) ∧ iz tg r hb zb c1 c2 r3 h2 res sz2 sl2 := by
  rw [← Z.2.1 v0 (by omega)]
  rw [← Z.2.1 v1 (by omega)]
  rw [← Z.2.1 v2 (by omega)]
  unfold g_X9_plant_0 at hm
  unfold f_X9_plant_0
  obtain ⟨w1, hw1, hm⟩ := hp_bd hm
  obtain ⟨_, e2, I, F⟩ := t_wP (c := 9) (k := 0) Z.1 isf.rf (by decide) T_v0 (by decide) (by decide) rfl (by decide) T_v1 hw1
  replace Z := Z.step I F
  refine tr_eq2 e2 ?_
  obtain ⟨w2, hw2, hm⟩ := hp_bd hm
  obtain ⟨_, e2, I, F⟩ := t_wP (c := 9) (k := 1) Z.1 isf.rf (by decide) T_v0 (by decide) (by decide) rfl (by decide) T_v2 hw2
  replace Z := Z.step I F
  refine tr_eq2 e2 ?_
  obtain ⟨w3, hw3, hm⟩ := hp_bd hm
  obtain ⟨_, e2, I, F⟩ := t_wF (c := 9) (k := 2) Z.1 isf.rf T_v0 (by decide) (by decide) rfl hw3
  replace Z := Z.step I F
  refine tr_eq2 e2 ?_
  have T4 : tg (gP w3 v0 5) = 15 := t_tg (c := 9) Z.1 T_v0 (by decide) (by decide) rfl (by decide)
  refine tr_eq2 (t_fR Z.1 T_v0 (by decide) (by decide) (by decide)) ?_
  obtain ⟨x5, hx5, hm⟩ := hp_bd hm
  obtain ⟨_, e2, I, F⟩ := t_X5_clear Z.1 isf.rf T4 hx5
  replace Z := Z.step I F
  refine tr_eq2 e2 ?_
  have T6 : tg (gP x5 v0 7) = 0 := t_tg (c := 9) Z.1 T_v0 (by decide) (by decide) rfl (by decide)
  refine tr_eq2 (t_fR Z.1 T_v0 (by decide) (by decide) (by decide)) ?_
  obtain ⟨x7, hx7, hm⟩ := hp_bd hm
  obtain ⟨_, e2, I, F⟩ := t_J7_fill_53178 Z.1 isf.rf T6 hx7
  replace Z := Z.step I F
  refine tr_eq2 e2 ?_
  obtain ⟨x8, hx8, hm⟩ := hp_bd hm
  try simp only [Z.2.1 v0 (by omega), Z.2.1 v1 (by omega), Z.2.1 v2 (by omega)]
  obtain ⟨_, _, _, _, e2, Z⟩ := tl_X9_plant_38 T_v0 n _ _ _ _ _ _ _ _ _ Z hx8
  refine tr_eq2 e2 ?_
  try dsimp only [eX_X9_plant_38]
  replace Z : iz tg r hb zb c1 c2 _ _ x8 _ _ := Z
  try simp only [Z.2.1 v0 (by omega)]
  exact t_X9_plant_166 Z T_v0 hm
def g_X9_plant (n : Nat) (v0 : Nat) (v1 : Nat) (v2 : Nat) (s : st_T) : Option (st_T) := g_X9_plant_0 n v0 v1 v2 s
theorem t2_X9_plant {tg r : Nat → Nat} {hb : hp_H} {zb c1 c2 : Nat} {r2 : Nat → Nat} {h : hp_H} {s : st_T} {sz sl n : Nat} {v0 : Nat} {v1 : Nat} {v2 : Nat} (Z : iz tg r hb zb c1 c2 r2 h s sz sl) (T_v0 : tg v0 = 19) (T_v1 : tg v1 = 10) (T_v2 : tg v2 = 13) {res : st_T} (hm : g_X9_plant n v0 v1 v2 s = some res) : ∃ h2 sz2 sl2 r3, f_X9_plant n (r v0) (r v1) (r v2) h sz sl = some ((h2, sz2, sl2)) ∧ iz tg r hb zb c1 c2 r3 h2 res sz2 sl2 := by
  unfold g_X9_plant at hm
  unfold f_X9_plant
  have e0 := t_ck (c := 9) Z.1 T_v0 (by decide)
  rw [Z.2.1 v0 (by omega)] at e0
  refine tr_eq2 e0 ?_
  exact t_X9_plant_0 Z T_v0 T_v1 T_v2 hm
def g_X9_enter_0 (n : Nat) (v0 : Nat) (v1 : Int32) (s : st_T) : Option (st_T) :=
  (uA 0 s (gP s v0 10) (gF s v0 12) v1).bind fun w2 =>
  (uA 0 w2 (gP w2 v0 11) (gF w2 v0 12) (0 : Int32)).bind fun w4 =>
  (wF w4 v0 12 ((gF w4 v0 12) + (1 : Int32))).bind fun w5 =>
  some w5
set_option maxHeartbeats 1000000 in
theorem t_X9_enter_0 {tg r : Nat → Nat} {h hb : hp_H} {s sb : st_T} {n : Nat} {v0 : Nat} {v1 : Int32} (I : iso tg r h s) (F : isf tg r hb h sb s) (T_v0 : tg v0 = 19) {res : st_T} (hm : g_X9_enter_0 n v0 v1 s = some res) : ∃ h2, f_X9_enter_0 n (r v0) v1 h = some (h2) ∧ iso tg r h2 res ∧ isf tg r hb h2 sb res := by
  unfold g_X9_enter_0 at hm
  unfold f_X9_enter_0
  have T1 : tg (gP s v0 10) = 0 := t_tg (c := 9) I T_v0 (by decide) (by decide) rfl (by decide)
  refine tr_eq (t_fR I T_v0 (by decide) (by decide) (by decide)) ?_
  refine tr_eq (t_fI I T_v0 (by decide) (by decide) rfl) ?_
  obtain ⟨w2, hw2, hm⟩ := hp_bd hm
  obtain ⟨_, e2, I, F⟩ := t_sI I F T1 (by decide) rfl hw2
  refine tr_eq e2 ?_
  have T3 : tg (gP w2 v0 11) = 0 := t_tg (c := 9) I T_v0 (by decide) (by decide) rfl (by decide)
  refine tr_eq (t_fR I T_v0 (by decide) (by decide) (by decide)) ?_
  refine tr_eq (t_fI I T_v0 (by decide) (by decide) rfl) ?_
  obtain ⟨w4, hw4, hm⟩ := hp_bd hm
  obtain ⟨_, e2, I, F⟩ := t_sI I F T3 (by decide) rfl hw4
  refine tr_eq e2 ?_
  refine tr_eq (t_fI I T_v0 (by decide) (by decide) rfl) ?_
  obtain ⟨w5, hw5, hm⟩ := hp_bd hm
  obtain ⟨_, e2, I, F⟩ := t_wF (c := 9) (k := 12) I F T_v0 (by decide) (by decide) rfl hw5
  refine tr_eq e2 ?_
  obtain rfl := Option.some.inj hm
  exact ⟨_, rfl, I, F⟩
def g_X9_enter (n : Nat) (v0 : Nat) (v1 : Int32) (s : st_T) : Option (st_T) := g_X9_enter_0 n v0 v1 s
theorem t_X9_enter {tg r : Nat → Nat} {h hb : hp_H} {s sb : st_T} {n : Nat} {v0 : Nat} {v1 : Int32} (I : iso tg r h s) (F : isf tg r hb h sb s) (T_v0 : tg v0 = 19) {res : st_T} (hm : g_X9_enter n v0 v1 s = some res) : ∃ h2, f_X9_enter n (r v0) v1 h = some (h2) ∧ iso tg r h2 res ∧ isf tg r hb h2 sb res := by
  unfold g_X9_enter at hm
  unfold f_X9_enter
  refine tr_eq (t_ck I T_v0 (by decide)) ?_
  exact t_X9_enter_0 I F T_v0 hm
def g_X9_enterRoot_0 (n : Nat) (v0 : Nat) (s : st_T) : Option (st_T) :=
  (wF s v0 12 (0 : Int32)).bind fun w1 =>
  (g_X9_enter n v0 (gF w1 v0 3) w1).bind fun x2 =>
  some x2
set_option maxHeartbeats 1000000 in
theorem t_X9_enterRoot_0 {tg r : Nat → Nat} {h hb : hp_H} {s sb : st_T} {n : Nat} {v0 : Nat} (I : iso tg r h s) (F : isf tg r hb h sb s) (T_v0 : tg v0 = 19) {res : st_T} (hm : g_X9_enterRoot_0 n v0 s = some res) : ∃ h2, f_X9_enterRoot_0 n (r v0) h = some (h2) ∧ iso tg r h2 res ∧ isf tg r hb h2 sb res := by
  unfold g_X9_enterRoot_0 at hm
  unfold f_X9_enterRoot_0
  obtain ⟨w1, hw1, hm⟩ := hp_bd hm
  obtain ⟨_, e2, I, F⟩ := t_wF (c := 9) (k := 12) I F T_v0 (by decide) (by decide) rfl hw1
  refine tr_eq e2 ?_
  refine tr_eq (t_fI I T_v0 (by decide) (by decide) rfl) ?_
  obtain ⟨x2, hx2, hm⟩ := hp_bd hm
  obtain ⟨_, e2, I, F⟩ := t_X9_enter I F T_v0 hx2
  refine tr_eq e2 ?_
  obtain rfl := Option.some.inj hm
  exact ⟨_, rfl, I, F⟩
def g_X9_enterRoot (n : Nat) (v0 : Nat) (s : st_T) : Option (st_T) := g_X9_enterRoot_0 n v0 s
theorem t_X9_enterRoot {tg r : Nat → Nat} {h hb : hp_H} {s sb : st_T} {n : Nat} {v0 : Nat} (I : iso tg r h s) (F : isf tg r hb h sb s) (T_v0 : tg v0 = 19) {res : st_T} (hm : g_X9_enterRoot n v0 s = some res) : ∃ h2, f_X9_enterRoot n (r v0) h = some (h2) ∧ iso tg r h2 res ∧ isf tg r hb h2 sb res := by
  unfold g_X9_enterRoot at hm
  unfold f_X9_enterRoot
  refine tr_eq (t_ck I T_v0 (by decide)) ?_
  exact t_X9_enterRoot_0 I F T_v0 hm
def g_X9_nextTaken_0 (n : Nat) (v0 : Nat) (s : st_T) : Option (Int32 × st_T) :=
  (gA s (gP s v0 10) ((gF s v0 12) - (1 : Int32))).bind fun x3 =>
  (gA s (gP s v0 11) ((gF s v0 12) - (1 : Int32))).bind fun x5 =>
  (g_X5_get n (gP s v0 5) x3 x5 s).bind fun x6 =>
  (gA s (gP s v0 11) ((gF s v0 12) - (1 : Int32))).bind fun x8 =>
  (uA 0 s (gP s v0 11) ((gF s v0 12) - (1 : Int32)) (x8 + (1 : Int32))).bind fun w9 =>
  some (x6, w9)
set_option maxHeartbeats 1000000 in
theorem t_X9_nextTaken_0 {tg r : Nat → Nat} {h hb : hp_H} {s sb : st_T} {n : Nat} {v0 : Nat} (I : iso tg r h s) (F : isf tg r hb h sb s) (T_v0 : tg v0 = 19) {res : Int32 × st_T} (hm : g_X9_nextTaken_0 n v0 s = some res) : ∃ h2, f_X9_nextTaken_0 n (r v0) h = some ((res.1, h2)) ∧ iso tg r h2 res.2 ∧ isf tg r hb h2 sb res.2 := by
  unfold g_X9_nextTaken_0 at hm
  unfold f_X9_nextTaken_0
  refine tr_eq (t_fI I T_v0 (by decide) (by decide) rfl) ?_
  have T1 : tg (gP s v0 5) = 15 := t_tg (c := 9) I T_v0 (by decide) (by decide) rfl (by decide)
  refine tr_eq (t_fR I T_v0 (by decide) (by decide) (by decide)) ?_
  have T2 : tg (gP s v0 10) = 0 := t_tg (c := 9) I T_v0 (by decide) (by decide) rfl (by decide)
  refine tr_eq (t_fR I T_v0 (by decide) (by decide) (by decide)) ?_
  obtain ⟨x3, hx3, hm⟩ := hp_bd hm
  refine tr_eq (t_aI I T2 (by decide) rfl hx3) ?_
  have T4 : tg (gP s v0 11) = 0 := t_tg (c := 9) I T_v0 (by decide) (by decide) rfl (by decide)
  refine tr_eq (t_fR I T_v0 (by decide) (by decide) (by decide)) ?_
  obtain ⟨x5, hx5, hm⟩ := hp_bd hm
  refine tr_eq (t_aI I T4 (by decide) rfl hx5) ?_
  obtain ⟨x6, hx6, hm⟩ := hp_bd hm
  refine tr_eq (t_X5_get I T1 hx6) ?_
  have T7 : tg (gP s v0 11) = 0 := t_tg (c := 9) I T_v0 (by decide) (by decide) rfl (by decide)
  refine tr_eq (t_fR I T_v0 (by decide) (by decide) (by decide)) ?_
  obtain ⟨x8, hx8, hm⟩ := hp_bd hm
  refine tr_eq (t_aI I T7 (by decide) rfl hx8) ?_
  obtain ⟨w9, hw9, hm⟩ := hp_bd hm
  obtain ⟨_, e2, I, F⟩ := t_sI I F T7 (by decide) rfl hw9
  refine tr_eq e2 ?_
  obtain rfl := Option.some.inj hm
  exact ⟨_, rfl, I, F⟩
def g_X9_nextTaken (n : Nat) (v0 : Nat) (s : st_T) : Option (Int32 × st_T) := g_X9_nextTaken_0 n v0 s
theorem t_X9_nextTaken {tg r : Nat → Nat} {h hb : hp_H} {s sb : st_T} {n : Nat} {v0 : Nat} (I : iso tg r h s) (F : isf tg r hb h sb s) (T_v0 : tg v0 = 19) {res : Int32 × st_T} (hm : g_X9_nextTaken n v0 s = some res) : ∃ h2, f_X9_nextTaken n (r v0) h = some ((res.1, h2)) ∧ iso tg r h2 res.2 ∧ isf tg r hb h2 sb res.2 := by
  unfold g_X9_nextTaken at hm
  unfold f_X9_nextTaken
  refine tr_eq (t_ck I T_v0 (by decide)) ?_
  exact t_X9_nextTaken_0 I F T_v0 hm
abbrev eX_X9_writeOut_8 (x : Int32 × st_T) (h2 : hp_H) : Int32 × hp_H := (fun y => (y.1, h2)) x
abbrev sX_X9_writeOut_8 (x : Int32 × st_T) : st_T := (fun y => y.2) x
abbrev eR_X9_writeOut_8 (x : (Int32 × Int32 × st_T) ⊕ (Int32 × st_T)) (h2 : hp_H) : (Int32 × Int32 × hp_H) ⊕ (Int32 × hp_H) := Sum.elim (fun y => .inl (y.1, y.2.1, h2)) (fun y => .inr (eX_X9_writeOut_8 y h2)) x
abbrev sR_X9_writeOut_8 (x : (Int32 × Int32 × st_T) ⊕ (Int32 × st_T)) : st_T := Sum.elim (fun y => y.2.2) sX_X9_writeOut_8 x
def g_X9_writeOut_106 (n : Nat) (v0 : Nat) (v1 : Nat) (v2 : Int32) (v3 : Int32) (s : st_T) : Option ((Int32 × Int32 × st_T) ⊕ (Int32 × st_T)) :=
  some (.inl (v2, (v3 + (1 : Int32)), s))
set_option maxHeartbeats 1000000 in
theorem t_X9_writeOut_106 {tg r : Nat → Nat} {h hb : hp_H} {s sb : st_T} {n : Nat} {v0 : Nat} {v1 : Nat} {v2 : Int32} {v3 : Int32} (I : iso tg r h s) (F : isf tg r hb h sb s) (T_v0 : tg v0 = 19) (T_v1 : tg v1 = 18) {res : (Int32 × Int32 × st_T) ⊕ (Int32 × st_T)} (hm : g_X9_writeOut_106 n v0 v1 v2 v3 s = some res) : ∃ h2, f_X9_writeOut_106 n (r v0) (r v1) v2 v3 h = some (eR_X9_writeOut_8 res h2) ∧ iso tg r h2 (sR_X9_writeOut_8 res) ∧ isf tg r hb h2 sb (sR_X9_writeOut_8 res) := by
  unfold g_X9_writeOut_106 at hm
  unfold f_X9_writeOut_106
  obtain rfl := Option.some.inj hm
  exact ⟨_, rfl, I, F⟩
def g_X9_writeOut_62 (n : Nat) (v0 : Nat) (v1 : Nat) (v2 : Int32) (v3 : Int32) (s : st_T) : Option ((Int32 × Int32 × st_T) ⊕ (Int32 × st_T)) :=
  (gA s (gP s v0 10) ((gF s v0 12) - (1 : Int32))).bind fun x5 =>
  (gA s (gP s v0 4) x5).bind fun x6 =>
  (g_X8_putName n v1 (gP s (gP s v0 0) 0) ((300 : Int32) + x6) s).bind fun x7 =>
  (wF x7 v0 12 ((gF x7 v0 12) - (1 : Int32))).bind fun w8 =>
  g_X9_writeOut_106 n v0 v1 (v2 + (1 : Int32)) v3 w8
set_option maxHeartbeats 1000000 in
theorem t_X9_writeOut_62 {tg r : Nat → Nat} {h hb : hp_H} {s sb : st_T} {n : Nat} {v0 : Nat} {v1 : Nat} {v2 : Int32} {v3 : Int32} (I : iso tg r h s) (F : isf tg r hb h sb s) (T_v0 : tg v0 = 19) (T_v1 : tg v1 = 18) {res : (Int32 × Int32 × st_T) ⊕ (Int32 × st_T)} (hm : g_X9_writeOut_62 n v0 v1 v2 v3 s = some res) : ∃ h2, f_X9_writeOut_62 n (r v0) (r v1) v2 v3 h = some (eR_X9_writeOut_8 res h2) ∧ iso tg r h2 (sR_X9_writeOut_8 res) ∧ isf tg r hb h2 sb (sR_X9_writeOut_8 res) := by
  unfold g_X9_writeOut_62 at hm
  unfold f_X9_writeOut_62
  have T1 : tg (gP s v0 0) = 10 := t_tg (c := 9) I T_v0 (by decide) (by decide) rfl (by decide)
  refine tr_eq (t_fR I T_v0 (by decide) (by decide) (by decide)) ?_
  have T2 : tg (gP s (gP s v0 0) 0) = 12 := t_tg (c := 0) I T1 (by decide) (by decide) rfl (by decide)
  refine tr_eq (t_fR I T1 (by decide) (by decide) (by decide)) ?_
  have T3 : tg (gP s v0 4) = 0 := t_tg (c := 9) I T_v0 (by decide) (by decide) rfl (by decide)
  refine tr_eq (t_fR I T_v0 (by decide) (by decide) (by decide)) ?_
  have T4 : tg (gP s v0 10) = 0 := t_tg (c := 9) I T_v0 (by decide) (by decide) rfl (by decide)
  refine tr_eq (t_fR I T_v0 (by decide) (by decide) (by decide)) ?_
  refine tr_eq (t_fI I T_v0 (by decide) (by decide) rfl) ?_
  obtain ⟨x5, hx5, hm⟩ := hp_bd hm
  refine tr_eq (t_aI I T4 (by decide) rfl hx5) ?_
  obtain ⟨x6, hx6, hm⟩ := hp_bd hm
  refine tr_eq (t_aI I T3 (by decide) rfl hx6) ?_
  obtain ⟨x7, hx7, hm⟩ := hp_bd hm
  obtain ⟨_, e2, I, F⟩ := t_X8_putName I F T_v1 T2 hx7
  refine tr_eq e2 ?_
  refine tr_eq (t_fI I T_v0 (by decide) (by decide) rfl) ?_
  obtain ⟨w8, hw8, hm⟩ := hp_bd hm
  obtain ⟨_, e2, I, F⟩ := t_wF (c := 9) (k := 12) I F T_v0 (by decide) (by decide) rfl hw8
  refine tr_eq e2 ?_
  exact t_X9_writeOut_106 I F T_v0 T_v1 hm
def g_X9_writeOut_8 (n : Nat) (v0 : Nat) (v1 : Nat) (v2 : Int32) (v3 : Int32) (s : st_T) : Option ((Int32 × Int32 × st_T) ⊕ (Int32 × st_T)) :=
  if (4000 : Int32) ≤ v3 then
    some (.inr ((1 : Int32), s))
  else
    if (gF s v0 12) ≤ 0 then
      some (.inr ((1 : Int32), s))
    else
      (g_X9_nextTaken n v0 s).bind fun x1 =>
      if x1.1 = (-1 : Int32) then
        if v2 = (1000 : Int32) then
          some (.inr ((0 : Int32), x1.2))
        else
          if v2 ≤ 0 then
            g_X9_writeOut_62 n v0 v1 v2 v3 x1.2
          else
            (g_X8_put n v1 (32 : Int32) x1.2).bind fun x2 =>
            g_X9_writeOut_62 n v0 v1 v2 v3 x2
      else
        (g_X9_enter n v0 x1.1 x1.2).bind fun x5 =>
        g_X9_writeOut_106 n v0 v1 v2 v3 x5
set_option maxHeartbeats 1000000 in
theorem t_X9_writeOut_8 {tg r : Nat → Nat} {h hb : hp_H} {s sb : st_T} {n : Nat} {v0 : Nat} {v1 : Nat} {v2 : Int32} {v3 : Int32} (I : iso tg r h s) (F : isf tg r hb h sb s) (T_v0 : tg v0 = 19) (T_v1 : tg v1 = 18) {res : (Int32 × Int32 × st_T) ⊕ (Int32 × st_T)} (hm : g_X9_writeOut_8 n v0 v1 v2 v3 s = some res) : ∃ h2, f_X9_writeOut_8 n (r v0) (r v1) v2 v3 h = some (eR_X9_writeOut_8 res h2) ∧ iso tg r h2 (sR_X9_writeOut_8 res) ∧ isf tg r hb h2 sb (sR_X9_writeOut_8 res) := by
  unfold g_X9_writeOut_8 at hm
  unfold f_X9_writeOut_8
  by_cases c8 : (4000 : Int32) ≤ v3
  · rw [if_pos c8] at hm ⊢
    obtain rfl := Option.some.inj hm
    exact ⟨_, rfl, I, F⟩
  · rw [if_neg c8] at hm ⊢
    refine tr_eq (t_fI I T_v0 (by decide) (by decide) rfl) ?_
    by_cases c7 : (gF s v0 12) ≤ 0
    · rw [if_pos c7] at hm ⊢
      obtain rfl := Option.some.inj hm
      exact ⟨_, rfl, I, F⟩
    · rw [if_neg c7] at hm ⊢
      obtain ⟨x1, hx1, hm⟩ := hp_bd hm
      obtain ⟨_, e2, I, F⟩ := t_X9_nextTaken I F T_v0 hx1
      refine tr_eq e2 ?_
      try dsimp only
      by_cases c6 : x1.1 = (-1 : Int32)
      · rw [if_pos c6] at hm ⊢
        by_cases c4 : v2 = (1000 : Int32)
        · rw [if_pos c4] at hm ⊢
          obtain rfl := Option.some.inj hm
          exact ⟨_, rfl, I, F⟩
        · rw [if_neg c4] at hm ⊢
          by_cases c3 : v2 ≤ 0
          · rw [if_pos c3] at hm ⊢
            exact t_X9_writeOut_62 I F T_v0 T_v1 hm
          · rw [if_neg c3] at hm ⊢
            obtain ⟨x2, hx2, hm⟩ := hp_bd hm
            obtain ⟨_, e2, I, F⟩ := t_X8_put I F T_v1 hx2
            refine tr_eq e2 ?_
            exact t_X9_writeOut_62 I F T_v0 T_v1 hm
      · rw [if_neg c6] at hm ⊢
        obtain ⟨x5, hx5, hm⟩ := hp_bd hm
        obtain ⟨_, e2, I, F⟩ := t_X9_enter I F T_v0 hx5
        refine tr_eq e2 ?_
        exact t_X9_writeOut_106 I F T_v0 T_v1 hm
def gL_X9_writeOut_8 (n : Nat) (v0 : Nat) (v1 : Nat) (c : Int32 × Int32 × st_T) : Option ((Int32 × Int32 × st_T) ⊕ (Int32 × st_T)) := g_X9_writeOut_8 n v0 v1 c.1 c.2.1 c.2.2
theorem tl_X9_writeOut_8 {tg r : Nat → Nat} {hb : hp_H} {sb : st_T} {n : Nat} {v0 : Nat} {v1 : Nat} (T_v0 : tg v0 = 19) (T_v1 : tg v1 = 18) : ∀ (k : Nat) (c0 : Int32) (c1 : Int32) (h : hp_H) (s : st_T) (x : Int32 × st_T), iso tg r h s → isf tg r hb h sb s → hp_lp (gL_X9_writeOut_8 n v0 v1) k (c0, c1, s) = some x → ∃ h2, hp_lp (fL_X9_writeOut_8 n (r v0) (r v1)) k (c0, c1, h) = some (eX_X9_writeOut_8 x h2) ∧ iso tg r h2 (sX_X9_writeOut_8 x) ∧ isf tg r hb h2 sb (sX_X9_writeOut_8 x) := by
  intro k
  induction k with
  | zero => intro c0 c1 h s x I F hx; exact (hp_lp_0 hx).elim
  | succ k ih =>
    intro c0 c1 h s x I F hx
    obtain ⟨rr, hr, hc⟩ := hp_lp_1 hx
    obtain ⟨h2, e2, I2, F2⟩ := t_X9_writeOut_8 I F T_v0 T_v1 hr
    rcases hc with ⟨s3, e3, hx3⟩ | e3
    · subst e3
      obtain ⟨h3, e4, I3, F3⟩ := ih _ _ h2 _ x I2 F2 hx3
      exact ⟨h3, hp_lp_s e2 e4, I3, F3⟩
    · subst e3
      exact ⟨h2, hp_lp_x e2, I2, F2⟩
def g_X9_writeOut_0 (n : Nat) (v0 : Nat) (v1 : Nat) (s : st_T) : Option (Int32 × st_T) :=
  (g_X9_enterRoot n v0 s).bind fun x1 =>
  (hp_lp (gL_X9_writeOut_8 n v0 v1) n ((0 : Int32), (0 : Int32), x1)).bind fun x2 =>
  some (x2.1, x2.2)
set_option maxHeartbeats 1000000 in
theorem t_X9_writeOut_0 {tg r : Nat → Nat} {h hb : hp_H} {s sb : st_T} {n : Nat} {v0 : Nat} {v1 : Nat} (I : iso tg r h s) (F : isf tg r hb h sb s) (T_v0 : tg v0 = 19) (T_v1 : tg v1 = 18) {res : Int32 × st_T} (hm : g_X9_writeOut_0 n v0 v1 s = some res) : ∃ h2, f_X9_writeOut_0 n (r v0) (r v1) h = some ((res.1, h2)) ∧ iso tg r h2 res.2 ∧ isf tg r hb h2 sb res.2 := by
  unfold g_X9_writeOut_0 at hm
  unfold f_X9_writeOut_0
  obtain ⟨x1, hx1, hm⟩ := hp_bd hm
  obtain ⟨_, e2, I, F⟩ := t_X9_enterRoot I F T_v0 hx1
  refine tr_eq e2 ?_
  obtain ⟨x2, hx2, hm⟩ := hp_bd hm
  obtain ⟨_, e2, I, F⟩ := tl_X9_writeOut_8 T_v0 T_v1 n _ _ _ _ _ I F hx2
  refine tr_eq e2 ?_
  try dsimp only [eX_X9_writeOut_8]
  replace I : iso tg _ _ x2.2 := I
  replace F : isf tg _ _ _ _ x2.2 := F
  obtain rfl := Option.some.inj hm
  exact ⟨_, rfl, I, F⟩
def g_X9_writeOut (n : Nat) (v0 : Nat) (v1 : Nat) (s : st_T) : Option (Int32 × st_T) := g_X9_writeOut_0 n v0 v1 s
theorem t_X9_writeOut {tg r : Nat → Nat} {h hb : hp_H} {s sb : st_T} {n : Nat} {v0 : Nat} {v1 : Nat} (I : iso tg r h s) (F : isf tg r hb h sb s) (T_v0 : tg v0 = 19) (T_v1 : tg v1 = 18) {res : Int32 × st_T} (hm : g_X9_writeOut n v0 v1 s = some res) : ∃ h2, f_X9_writeOut n (r v0) (r v1) h = some ((res.1, h2)) ∧ iso tg r h2 res.2 ∧ isf tg r hb h2 sb res.2 := by
  unfold g_X9_writeOut at hm
  unfold f_X9_writeOut
  refine tr_eq (t_ck I T_v0 (by decide)) ?_
  exact t_X9_writeOut_0 I F T_v0 T_v1 hm
abbrev eX_X9_numberLabels_33 (x : st_T) (h2 : hp_H) : hp_H := (fun y => h2) x
abbrev sX_X9_numberLabels_33 (x : st_T) : st_T := (fun y => y) x
abbrev eR_X9_numberLabels_33 (x : (Int32 × st_T) ⊕ (st_T)) (h2 : hp_H) : (Int32 × hp_H) ⊕ (hp_H) := Sum.elim (fun y => .inl (y.1, h2)) (fun y => .inr (eX_X9_numberLabels_33 y h2)) x
abbrev sR_X9_numberLabels_33 (x : (Int32 × st_T) ⊕ (st_T)) : st_T := Sum.elim (fun y => y.2) sX_X9_numberLabels_33 x
def g_X9_numberLabels_33 (n : Nat) (v0 : Nat) (v1 : Nat) (v2 : Int32) (v3 : Int32) (s : st_T) : Option ((Int32 × st_T) ⊕ (st_T)) :=
  if v2 ≤ v3 then
    some (.inr s)
  else
    (wF s v0 15 ((gF s v0 15) + (1 : Int32))).bind fun w1 =>
    (g_X5_get n (gP w1 (gP w1 v0 0) 12) (gF w1 (gP w1 v0 1) 0) v3 w1).bind fun x6 =>
    (uA 0 w1 (gP w1 v0 13) x6 (gF w1 v0 15)).bind fun w7 =>
    some (.inl ((v3 + (1 : Int32)), w7))
set_option maxHeartbeats 1000000 in
theorem t_X9_numberLabels_33 {tg r : Nat → Nat} {h hb : hp_H} {s sb : st_T} {n : Nat} {v0 : Nat} {v1 : Nat} {v2 : Int32} {v3 : Int32} (I : iso tg r h s) (F : isf tg r hb h sb s) (T_v0 : tg v0 = 19) (T_v1 : tg v1 = 18) {res : (Int32 × st_T) ⊕ (st_T)} (hm : g_X9_numberLabels_33 n v0 v1 v2 v3 s = some res) : ∃ h2, f_X9_numberLabels_33 n (r v0) (r v1) v2 v3 h = some (eR_X9_numberLabels_33 res h2) ∧ iso tg r h2 (sR_X9_numberLabels_33 res) ∧ isf tg r hb h2 sb (sR_X9_numberLabels_33 res) := by
  unfold g_X9_numberLabels_33 at hm
  unfold f_X9_numberLabels_33
  by_cases c8 : v2 ≤ v3
  · rw [if_pos c8] at hm ⊢
    obtain rfl := Option.some.inj hm
    exact ⟨_, rfl, I, F⟩
  · rw [if_neg c8] at hm ⊢
    refine tr_eq (t_fI I T_v0 (by decide) (by decide) rfl) ?_
    obtain ⟨w1, hw1, hm⟩ := hp_bd hm
    obtain ⟨_, e2, I, F⟩ := t_wF (c := 9) (k := 15) I F T_v0 (by decide) (by decide) rfl hw1
    refine tr_eq e2 ?_
    have T2 : tg (gP w1 v0 13) = 0 := t_tg (c := 9) I T_v0 (by decide) (by decide) rfl (by decide)
    refine tr_eq (t_fR I T_v0 (by decide) (by decide) (by decide)) ?_
    have T3 : tg (gP w1 v0 0) = 10 := t_tg (c := 9) I T_v0 (by decide) (by decide) rfl (by decide)
    refine tr_eq (t_fR I T_v0 (by decide) (by decide) (by decide)) ?_
    have T4 : tg (gP w1 (gP w1 v0 0) 12) = 15 := t_tg (c := 0) I T3 (by decide) (by decide) rfl (by decide)
    refine tr_eq (t_fR I T3 (by decide) (by decide) (by decide)) ?_
    have T5 : tg (gP w1 v0 1) = 13 := t_tg (c := 9) I T_v0 (by decide) (by decide) rfl (by decide)
    refine tr_eq (t_fR I T_v0 (by decide) (by decide) (by decide)) ?_
    refine tr_eq (t_fI I T5 (by decide) (by decide) rfl) ?_
    obtain ⟨x6, hx6, hm⟩ := hp_bd hm
    refine tr_eq (t_X5_get I T4 hx6) ?_
    refine tr_eq (t_fI I T_v0 (by decide) (by decide) rfl) ?_
    obtain ⟨w7, hw7, hm⟩ := hp_bd hm
    obtain ⟨_, e2, I, F⟩ := t_sI I F T2 (by decide) rfl hw7
    refine tr_eq e2 ?_
    obtain rfl := Option.some.inj hm
    exact ⟨_, rfl, I, F⟩
def gL_X9_numberLabels_33 (n : Nat) (v0 : Nat) (v1 : Nat) (v2 : Int32) (c : Int32 × st_T) : Option ((Int32 × st_T) ⊕ (st_T)) := g_X9_numberLabels_33 n v0 v1 v2 c.1 c.2
theorem tl_X9_numberLabels_33 {tg r : Nat → Nat} {hb : hp_H} {sb : st_T} {n : Nat} {v0 : Nat} {v1 : Nat} {v2 : Int32} (T_v0 : tg v0 = 19) (T_v1 : tg v1 = 18) : ∀ (k : Nat) (c0 : Int32) (h : hp_H) (s : st_T) (x : st_T), iso tg r h s → isf tg r hb h sb s → hp_lp (gL_X9_numberLabels_33 n v0 v1 v2) k (c0, s) = some x → ∃ h2, hp_lp (fL_X9_numberLabels_33 n (r v0) (r v1) v2) k (c0, h) = some (eX_X9_numberLabels_33 x h2) ∧ iso tg r h2 (sX_X9_numberLabels_33 x) ∧ isf tg r hb h2 sb (sX_X9_numberLabels_33 x) := by
  intro k
  induction k with
  | zero => intro c0 h s x I F hx; exact (hp_lp_0 hx).elim
  | succ k ih =>
    intro c0 h s x I F hx
    obtain ⟨rr, hr, hc⟩ := hp_lp_1 hx
    obtain ⟨h2, e2, I2, F2⟩ := t_X9_numberLabels_33 I F T_v0 T_v1 hr
    rcases hc with ⟨s3, e3, hx3⟩ | e3
    · subst e3
      obtain ⟨h3, e4, I3, F3⟩ := ih _ h2 _ x I2 F2 hx3
      exact ⟨h3, hp_lp_s e2 e4, I3, F3⟩
    · subst e3
      exact ⟨h2, hp_lp_x e2, I2, F2⟩
abbrev eX_X9_numberLabels_95 (x : st_T) (h2 : hp_H) : hp_H := (fun y => h2) x
abbrev sX_X9_numberLabels_95 (x : st_T) : st_T := (fun y => y) x
abbrev eR_X9_numberLabels_95 (x : (Int32 × st_T) ⊕ (st_T)) (h2 : hp_H) : (Int32 × hp_H) ⊕ (hp_H) := Sum.elim (fun y => .inl (y.1, h2)) (fun y => .inr (eX_X9_numberLabels_95 y h2)) x
abbrev sR_X9_numberLabels_95 (x : (Int32 × st_T) ⊕ (st_T)) : st_T := Sum.elim (fun y => y.2) sX_X9_numberLabels_95 x
def g_X9_numberLabels_169 (n : Nat) (v0 : Nat) (v1 : Nat) (v3 : Int32) (s : st_T) : Option ((Int32 × st_T) ⊕ (st_T)) :=
  some (.inl ((v3 + (1 : Int32)), s))
set_option maxHeartbeats 1000000 in
theorem t_X9_numberLabels_169 {tg r : Nat → Nat} {h hb : hp_H} {s sb : st_T} {n : Nat} {v0 : Nat} {v1 : Nat} {v3 : Int32} (I : iso tg r h s) (F : isf tg r hb h sb s) (T_v0 : tg v0 = 19) (T_v1 : tg v1 = 18) {res : (Int32 × st_T) ⊕ (st_T)} (hm : g_X9_numberLabels_169 n v0 v1 v3 s = some res) : ∃ h2, f_X9_numberLabels_169 n (r v0) (r v1) v3 h = some (eR_X9_numberLabels_95 res h2) ∧ iso tg r h2 (sR_X9_numberLabels_95 res) ∧ isf tg r hb h2 sb (sR_X9_numberLabels_95 res) := by
  unfold g_X9_numberLabels_169 at hm
  unfold f_X9_numberLabels_169
  obtain rfl := Option.some.inj hm
  exact ⟨_, rfl, I, F⟩
def g_X9_numberLabels_95 (n : Nat) (v0 : Nat) (v1 : Nat) (v3 : Int32) (s : st_T) : Option ((Int32 × st_T) ⊕ (st_T)) :=
  if (gF s v0 2) ≤ v3 then
    some (.inr s)
  else
    (gA s (gP s v0 4) v3).bind fun x3 =>
    (gA s (gP s v0 13) x3).bind fun x4 =>
    if x4 = 0 then
      (wF s v0 15 ((gF s v0 15) + (1 : Int32))).bind fun w5 =>
      (gA w5 (gP w5 v0 4) v3).bind fun x8 =>
      (uA 0 w5 (gP w5 v0 13) x8 (gF w5 v0 15)).bind fun w9 =>
      (gA w9 (gP w9 v0 4) v3).bind fun x13 =>
      (g_X8_putName n v1 (gP w9 (gP w9 v0 0) 0) ((300 : Int32) + x13) w9).bind fun x14 =>
      (g_X8_put n v1 (32 : Int32) x14).bind fun x15 =>
      g_X9_numberLabels_169 n v0 v1 v3 x15
    else
      g_X9_numberLabels_169 n v0 v1 v3 s
set_option maxHeartbeats 1000000 in
theorem t_X9_numberLabels_95 {tg r : Nat → Nat} {h hb : hp_H} {s sb : st_T} {n : Nat} {v0 : Nat} {v1 : Nat} {v3 : Int32} (I : iso tg r h s) (F : isf tg r hb h sb s) (T_v0 : tg v0 = 19) (T_v1 : tg v1 = 18) {res : (Int32 × st_T) ⊕ (st_T)} (hm : g_X9_numberLabels_95 n v0 v1 v3 s = some res) : ∃ h2, f_X9_numberLabels_95 n (r v0) (r v1) v3 h = some (eR_X9_numberLabels_95 res h2) ∧ iso tg r h2 (sR_X9_numberLabels_95 res) ∧ isf tg r hb h2 sb (sR_X9_numberLabels_95 res) := by
  unfold g_X9_numberLabels_95 at hm
  unfold f_X9_numberLabels_95
  refine tr_eq (t_fI I T_v0 (by decide) (by decide) rfl) ?_
  by_cases c17 : (gF s v0 2) ≤ v3
  · rw [if_pos c17] at hm ⊢
    obtain rfl := Option.some.inj hm
    exact ⟨_, rfl, I, F⟩
  · rw [if_neg c17] at hm ⊢
    have T1 : tg (gP s v0 13) = 0 := t_tg (c := 9) I T_v0 (by decide) (by decide) rfl (by decide)
    refine tr_eq (t_fR I T_v0 (by decide) (by decide) (by decide)) ?_
    have T2 : tg (gP s v0 4) = 0 := t_tg (c := 9) I T_v0 (by decide) (by decide) rfl (by decide)
    refine tr_eq (t_fR I T_v0 (by decide) (by decide) (by decide)) ?_
    obtain ⟨x3, hx3, hm⟩ := hp_bd hm
    refine tr_eq (t_aI I T2 (by decide) rfl hx3) ?_
    obtain ⟨x4, hx4, hm⟩ := hp_bd hm
    refine tr_eq (t_aI I T1 (by decide) rfl hx4) ?_
    by_cases c16 : x4 = 0
    · rw [if_pos c16] at hm ⊢
      refine tr_eq (t_fI I T_v0 (by decide) (by decide) rfl) ?_
      obtain ⟨w5, hw5, hm⟩ := hp_bd hm
      obtain ⟨_, e2, I, F⟩ := t_wF (c := 9) (k := 15) I F T_v0 (by decide) (by decide) rfl hw5
      refine tr_eq e2 ?_
      have T6 : tg (gP w5 v0 13) = 0 := t_tg (c := 9) I T_v0 (by decide) (by decide) rfl (by decide)
      refine tr_eq (t_fR I T_v0 (by decide) (by decide) (by decide)) ?_
      have T7 : tg (gP w5 v0 4) = 0 := t_tg (c := 9) I T_v0 (by decide) (by decide) rfl (by decide)
      refine tr_eq (t_fR I T_v0 (by decide) (by decide) (by decide)) ?_
      obtain ⟨x8, hx8, hm⟩ := hp_bd hm
      refine tr_eq (t_aI I T7 (by decide) rfl hx8) ?_
      refine tr_eq (t_fI I T_v0 (by decide) (by decide) rfl) ?_
      obtain ⟨w9, hw9, hm⟩ := hp_bd hm
      obtain ⟨_, e2, I, F⟩ := t_sI I F T6 (by decide) rfl hw9
      refine tr_eq e2 ?_
      have T10 : tg (gP w9 v0 0) = 10 := t_tg (c := 9) I T_v0 (by decide) (by decide) rfl (by decide)
      refine tr_eq (t_fR I T_v0 (by decide) (by decide) (by decide)) ?_
      have T11 : tg (gP w9 (gP w9 v0 0) 0) = 12 := t_tg (c := 0) I T10 (by decide) (by decide) rfl (by decide)
      refine tr_eq (t_fR I T10 (by decide) (by decide) (by decide)) ?_
      have T12 : tg (gP w9 v0 4) = 0 := t_tg (c := 9) I T_v0 (by decide) (by decide) rfl (by decide)
      refine tr_eq (t_fR I T_v0 (by decide) (by decide) (by decide)) ?_
      obtain ⟨x13, hx13, hm⟩ := hp_bd hm
      refine tr_eq (t_aI I T12 (by decide) rfl hx13) ?_
      obtain ⟨x14, hx14, hm⟩ := hp_bd hm
      obtain ⟨_, e2, I, F⟩ := t_X8_putName I F T_v1 T11 hx14
      refine tr_eq e2 ?_
      obtain ⟨x15, hx15, hm⟩ := hp_bd hm
      obtain ⟨_, e2, I, F⟩ := t_X8_put I F T_v1 hx15
      refine tr_eq e2 ?_
      exact t_X9_numberLabels_169 I F T_v0 T_v1 hm
    · rw [if_neg c16] at hm ⊢
      exact t_X9_numberLabels_169 I F T_v0 T_v1 hm
def gL_X9_numberLabels_95 (n : Nat) (v0 : Nat) (v1 : Nat) (c : Int32 × st_T) : Option ((Int32 × st_T) ⊕ (st_T)) := g_X9_numberLabels_95 n v0 v1 c.1 c.2
theorem tl_X9_numberLabels_95 {tg r : Nat → Nat} {hb : hp_H} {sb : st_T} {n : Nat} {v0 : Nat} {v1 : Nat} (T_v0 : tg v0 = 19) (T_v1 : tg v1 = 18) : ∀ (k : Nat) (c0 : Int32) (h : hp_H) (s : st_T) (x : st_T), iso tg r h s → isf tg r hb h sb s → hp_lp (gL_X9_numberLabels_95 n v0 v1) k (c0, s) = some x → ∃ h2, hp_lp (fL_X9_numberLabels_95 n (r v0) (r v1)) k (c0, h) = some (eX_X9_numberLabels_95 x h2) ∧ iso tg r h2 (sX_X9_numberLabels_95 x) ∧ isf tg r hb h2 sb (sX_X9_numberLabels_95 x) := by
  intro k
  induction k with
  | zero => intro c0 h s x I F hx; exact (hp_lp_0 hx).elim
  | succ k ih =>
    intro c0 h s x I F hx
    obtain ⟨rr, hr, hc⟩ := hp_lp_1 hx
    obtain ⟨h2, e2, I2, F2⟩ := t_X9_numberLabels_95 I F T_v0 T_v1 hr
    rcases hc with ⟨s3, e3, hx3⟩ | e3
    · subst e3
      obtain ⟨h3, e4, I3, F3⟩ := ih _ h2 _ x I2 F2 hx3
      exact ⟨h3, hp_lp_s e2 e4, I3, F3⟩
    · subst e3
      exact ⟨h2, hp_lp_x e2, I2, F2⟩
def g_X9_numberLabels_0 (n : Nat) (v0 : Nat) (v1 : Nat) (s : st_T) : Option (st_T) :=
  (g_J7_fill_53178 n (gP s v0 13) (0 : Int32) s).bind fun x2 =>
  (wF x2 v0 15 (0 : Int32)).bind fun w3 =>
  (g_X5_size n (gP w3 (gP w3 v0 0) 12) (gF w3 (gP w3 v0 1) 0) w3).bind fun x7 =>
  (hp_lp (gL_X9_numberLabels_33 n v0 v1 x7) n ((0 : Int32), w3)).bind fun x8 =>
  (g_X8_put n v1 (40 : Int32) x8).bind fun x10 =>
  (g_X8_put n v1 (32 : Int32) x10).bind fun x11 =>
  (hp_lp (gL_X9_numberLabels_95 n v0 v1) n ((0 : Int32), x11)).bind fun x12 =>
  (g_X8_put n v1 (41 : Int32) x12).bind fun x14 =>
  (g_X8_put n v1 (32 : Int32) x14).bind fun x15 =>
  some x15
set_option maxHeartbeats 1000000 in
theorem t_X9_numberLabels_0 {tg r : Nat → Nat} {h hb : hp_H} {s sb : st_T} {n : Nat} {v0 : Nat} {v1 : Nat} (I : iso tg r h s) (F : isf tg r hb h sb s) (T_v0 : tg v0 = 19) (T_v1 : tg v1 = 18) {res : st_T} (hm : g_X9_numberLabels_0 n v0 v1 s = some res) : ∃ h2, f_X9_numberLabels_0 n (r v0) (r v1) h = some (h2) ∧ iso tg r h2 res ∧ isf tg r hb h2 sb res := by
  unfold g_X9_numberLabels_0 at hm
  unfold f_X9_numberLabels_0
  have T1 : tg (gP s v0 13) = 0 := t_tg (c := 9) I T_v0 (by decide) (by decide) rfl (by decide)
  refine tr_eq (t_fR I T_v0 (by decide) (by decide) (by decide)) ?_
  obtain ⟨x2, hx2, hm⟩ := hp_bd hm
  obtain ⟨_, e2, I, F⟩ := t_J7_fill_53178 I F T1 hx2
  refine tr_eq e2 ?_
  obtain ⟨w3, hw3, hm⟩ := hp_bd hm
  obtain ⟨_, e2, I, F⟩ := t_wF (c := 9) (k := 15) I F T_v0 (by decide) (by decide) rfl hw3
  refine tr_eq e2 ?_
  have T4 : tg (gP w3 v0 0) = 10 := t_tg (c := 9) I T_v0 (by decide) (by decide) rfl (by decide)
  refine tr_eq (t_fR I T_v0 (by decide) (by decide) (by decide)) ?_
  have T5 : tg (gP w3 (gP w3 v0 0) 12) = 15 := t_tg (c := 0) I T4 (by decide) (by decide) rfl (by decide)
  refine tr_eq (t_fR I T4 (by decide) (by decide) (by decide)) ?_
  have T6 : tg (gP w3 v0 1) = 13 := t_tg (c := 9) I T_v0 (by decide) (by decide) rfl (by decide)
  refine tr_eq (t_fR I T_v0 (by decide) (by decide) (by decide)) ?_
  refine tr_eq (t_fI I T6 (by decide) (by decide) rfl) ?_
  obtain ⟨x7, hx7, hm⟩ := hp_bd hm
  refine tr_eq (t_X5_size I T5 hx7) ?_
  obtain ⟨x8, hx8, hm⟩ := hp_bd hm
  obtain ⟨_, e2, I, F⟩ := tl_X9_numberLabels_33 T_v0 T_v1 n _ _ _ _ I F hx8
  refine tr_eq e2 ?_
  try dsimp only [eX_X9_numberLabels_33]
  replace I : iso tg _ _ x8 := I
  replace F : isf tg _ _ _ _ x8 := F
  obtain ⟨x10, hx10, hm⟩ := hp_bd hm
  obtain ⟨_, e2, I, F⟩ := t_X8_put I F T_v1 hx10
  refine tr_eq e2 ?_
  obtain ⟨x11, hx11, hm⟩ := hp_bd hm
  obtain ⟨_, e2, I, F⟩ := t_X8_put I F T_v1 hx11
  refine tr_eq e2 ?_
  obtain ⟨x12, hx12, hm⟩ := hp_bd hm
  obtain ⟨_, e2, I, F⟩ := tl_X9_numberLabels_95 T_v0 T_v1 n _ _ _ _ I F hx12
  refine tr_eq e2 ?_
  try dsimp only [eX_X9_numberLabels_95]
  replace I : iso tg _ _ x12 := I
  replace F : isf tg _ _ _ _ x12 := F
  obtain ⟨x14, hx14, hm⟩ := hp_bd hm
  obtain ⟨_, e2, I, F⟩ := t_X8_put I F T_v1 hx14
  refine tr_eq e2 ?_
  obtain ⟨x15, hx15, hm⟩ := hp_bd hm
  obtain ⟨_, e2, I, F⟩ := t_X8_put I F T_v1 hx15
  refine tr_eq e2 ?_
  obtain rfl := Option.some.inj hm
  exact ⟨_, rfl, I, F⟩
def g_X9_numberLabels (n : Nat) (v0 : Nat) (v1 : Nat) (s : st_T) : Option (st_T) := g_X9_numberLabels_0 n v0 v1 s
theorem t_X9_numberLabels {tg r : Nat → Nat} {h hb : hp_H} {s sb : st_T} {n : Nat} {v0 : Nat} {v1 : Nat} (I : iso tg r h s) (F : isf tg r hb h sb s) (T_v0 : tg v0 = 19) (T_v1 : tg v1 = 18) {res : st_T} (hm : g_X9_numberLabels n v0 v1 s = some res) : ∃ h2, f_X9_numberLabels n (r v0) (r v1) h = some (h2) ∧ iso tg r h2 res ∧ isf tg r hb h2 sb res := by
  unfold g_X9_numberLabels at hm
  unfold f_X9_numberLabels
  refine tr_eq (t_ck I T_v0 (by decide)) ?_
  exact t_X9_numberLabels_0 I F T_v0 T_v1 hm
abbrev eX_X9_putNumber_10 (x : Int32 × st_T) (h2 : hp_H) : Int32 × hp_H := (fun y => (y.1, h2)) x
abbrev sX_X9_putNumber_10 (x : Int32 × st_T) : st_T := (fun y => y.2) x
abbrev eR_X9_putNumber_10 (x : (Int32 × Int32 × st_T) ⊕ (Int32 × st_T)) (h2 : hp_H) : (Int32 × Int32 × hp_H) ⊕ (Int32 × hp_H) := Sum.elim (fun y => .inl (y.1, y.2.1, h2)) (fun y => .inr (eX_X9_putNumber_10 y h2)) x
abbrev sR_X9_putNumber_10 (x : (Int32 × Int32 × st_T) ⊕ (Int32 × st_T)) : st_T := Sum.elim (fun y => y.2.2) sX_X9_putNumber_10 x
def g_X9_putNumber_10 (n : Nat) (v0 : Nat) (v1 : Nat) (v2 : Int32) (v3 : Int32) (v4 : Int32) (s : st_T) : Option ((Int32 × Int32 × st_T) ⊕ (Int32 × st_T)) :=
  if v4 ≤ 0 then
    some (.inr (v3, s))
  else
    if (gL s (gP s v0 16)) ≤ v3 then
      some (.inr (v3, s))
    else
      (uA 0 s (gP s v0 16) v3 ((85 : Int32) + ((v4 - (1 : Int32)) - (v4 - (1 : Int32)) / (5 : Int32) * (5 : Int32)))).bind fun w3 =>
      some (.inl ((v3 + (1 : Int32)), ((v4 - (1 : Int32)) / (5 : Int32)), w3))
set_option maxHeartbeats 1000000 in
theorem t_X9_putNumber_10 {tg r : Nat → Nat} {h hb : hp_H} {s sb : st_T} {n : Nat} {v0 : Nat} {v1 : Nat} {v2 : Int32} {v3 : Int32} {v4 : Int32} (I : iso tg r h s) (F : isf tg r hb h sb s) (T_v0 : tg v0 = 19) (T_v1 : tg v1 = 18) {res : (Int32 × Int32 × st_T) ⊕ (Int32 × st_T)} (hm : g_X9_putNumber_10 n v0 v1 v2 v3 v4 s = some res) : ∃ h2, f_X9_putNumber_10 n (r v0) (r v1) v2 v3 v4 h = some (eR_X9_putNumber_10 res h2) ∧ iso tg r h2 (sR_X9_putNumber_10 res) ∧ isf tg r hb h2 sb (sR_X9_putNumber_10 res) := by
  unfold g_X9_putNumber_10 at hm
  unfold f_X9_putNumber_10
  by_cases c5 : v4 ≤ 0
  · rw [if_pos c5] at hm ⊢
    obtain rfl := Option.some.inj hm
    exact ⟨_, rfl, I, F⟩
  · rw [if_neg c5] at hm ⊢
    have T1 : tg (gP s v0 16) = 0 := t_tg (c := 9) I T_v0 (by decide) (by decide) rfl (by decide)
    refine tr_eq (t_fR I T_v0 (by decide) (by decide) (by decide)) ?_
    refine tr_eq (t_len I T1 (by decide)) ?_
    by_cases c4 : (gL s (gP s v0 16)) ≤ v3
    · rw [if_pos c4] at hm ⊢
      obtain rfl := Option.some.inj hm
      exact ⟨_, rfl, I, F⟩
    · rw [if_neg c4] at hm ⊢
      have T2 : tg (gP s v0 16) = 0 := t_tg (c := 9) I T_v0 (by decide) (by decide) rfl (by decide)
      refine tr_eq (t_fR I T_v0 (by decide) (by decide) (by decide)) ?_
      obtain ⟨w3, hw3, hm⟩ := hp_bd hm
      obtain ⟨_, e2, I, F⟩ := t_sI I F T2 (by decide) rfl hw3
      refine tr_eq e2 ?_
      obtain rfl := Option.some.inj hm
      exact ⟨_, rfl, I, F⟩
def gL_X9_putNumber_10 (n : Nat) (v0 : Nat) (v1 : Nat) (v2 : Int32) (c : Int32 × Int32 × st_T) : Option ((Int32 × Int32 × st_T) ⊕ (Int32 × st_T)) := g_X9_putNumber_10 n v0 v1 v2 c.1 c.2.1 c.2.2
theorem tl_X9_putNumber_10 {tg r : Nat → Nat} {hb : hp_H} {sb : st_T} {n : Nat} {v0 : Nat} {v1 : Nat} {v2 : Int32} (T_v0 : tg v0 = 19) (T_v1 : tg v1 = 18) : ∀ (k : Nat) (c0 : Int32) (c1 : Int32) (h : hp_H) (s : st_T) (x : Int32 × st_T), iso tg r h s → isf tg r hb h sb s → hp_lp (gL_X9_putNumber_10 n v0 v1 v2) k (c0, c1, s) = some x → ∃ h2, hp_lp (fL_X9_putNumber_10 n (r v0) (r v1) v2) k (c0, c1, h) = some (eX_X9_putNumber_10 x h2) ∧ iso tg r h2 (sX_X9_putNumber_10 x) ∧ isf tg r hb h2 sb (sX_X9_putNumber_10 x) := by
  intro k
  induction k with
  | zero => intro c0 c1 h s x I F hx; exact (hp_lp_0 hx).elim
  | succ k ih =>
    intro c0 c1 h s x I F hx
    obtain ⟨rr, hr, hc⟩ := hp_lp_1 hx
    obtain ⟨h2, e2, I2, F2⟩ := t_X9_putNumber_10 I F T_v0 T_v1 hr
    rcases hc with ⟨s3, e3, hx3⟩ | e3
    · subst e3
      obtain ⟨h3, e4, I3, F3⟩ := ih _ _ h2 _ x I2 F2 hx3
      exact ⟨h3, hp_lp_s e2 e4, I3, F3⟩
    · subst e3
      exact ⟨h2, hp_lp_x e2, I2, F2⟩
abbrev eX_X9_putNumber_58 (x : st_T) (h2 : hp_H) : hp_H := (fun y => h2) x
abbrev sX_X9_putNumber_58 (x : st_T) : st_T := (fun y => y) x
abbrev eR_X9_putNumber_58 (x : (Int32 × st_T) ⊕ (st_T)) (h2 : hp_H) : (Int32 × hp_H) ⊕ (hp_H) := Sum.elim (fun y => .inl (y.1, h2)) (fun y => .inr (eX_X9_putNumber_58 y h2)) x
abbrev sR_X9_putNumber_58 (x : (Int32 × st_T) ⊕ (st_T)) : st_T := Sum.elim (fun y => y.2) sX_X9_putNumber_58 x
def g_X9_putNumber_58 (n : Nat) (v0 : Nat) (v1 : Nat) (v2 : Int32) (v5 : Int32) (s : st_T) : Option ((Int32 × st_T) ⊕ (st_T)) :=
  if v5 < 0 then
    some (.inr s)
  else
    (gA s (gP s v0 16) v5).bind fun x2 =>
    (g_X8_put n v1 x2 s).bind fun x3 =>
    some (.inl ((v5 + (-1 : Int32)), x3))
set_option maxHeartbeats 1000000 in
theorem t_X9_putNumber_58 {tg r : Nat → Nat} {h hb : hp_H} {s sb : st_T} {n : Nat} {v0 : Nat} {v1 : Nat} {v2 : Int32} {v5 : Int32} (I : iso tg r h s) (F : isf tg r hb h sb s) (T_v0 : tg v0 = 19) (T_v1 : tg v1 = 18) {res : (Int32 × st_T) ⊕ (st_T)} (hm : g_X9_putNumber_58 n v0 v1 v2 v5 s = some res) : ∃ h2, f_X9_putNumber_58 n (r v0) (r v1) v2 v5 h = some (eR_X9_putNumber_58 res h2) ∧ iso tg r h2 (sR_X9_putNumber_58 res) ∧ isf tg r hb h2 sb (sR_X9_putNumber_58 res) := by
  unfold g_X9_putNumber_58 at hm
  unfold f_X9_putNumber_58
  by_cases c4 : v5 < 0
  · rw [if_pos c4] at hm ⊢
    obtain rfl := Option.some.inj hm
    exact ⟨_, rfl, I, F⟩
  · rw [if_neg c4] at hm ⊢
    have T1 : tg (gP s v0 16) = 0 := t_tg (c := 9) I T_v0 (by decide) (by decide) rfl (by decide)
    refine tr_eq (t_fR I T_v0 (by decide) (by decide) (by decide)) ?_
    obtain ⟨x2, hx2, hm⟩ := hp_bd hm
    refine tr_eq (t_aI I T1 (by decide) rfl hx2) ?_
    obtain ⟨x3, hx3, hm⟩ := hp_bd hm
    obtain ⟨_, e2, I, F⟩ := t_X8_put I F T_v1 hx3
    refine tr_eq e2 ?_
    obtain rfl := Option.some.inj hm
    exact ⟨_, rfl, I, F⟩
def gL_X9_putNumber_58 (n : Nat) (v0 : Nat) (v1 : Nat) (v2 : Int32) (c : Int32 × st_T) : Option ((Int32 × st_T) ⊕ (st_T)) := g_X9_putNumber_58 n v0 v1 v2 c.1 c.2
theorem tl_X9_putNumber_58 {tg r : Nat → Nat} {hb : hp_H} {sb : st_T} {n : Nat} {v0 : Nat} {v1 : Nat} {v2 : Int32} (T_v0 : tg v0 = 19) (T_v1 : tg v1 = 18) : ∀ (k : Nat) (c0 : Int32) (h : hp_H) (s : st_T) (x : st_T), iso tg r h s → isf tg r hb h sb s → hp_lp (gL_X9_putNumber_58 n v0 v1 v2) k (c0, s) = some x → ∃ h2, hp_lp (fL_X9_putNumber_58 n (r v0) (r v1) v2) k (c0, h) = some (eX_X9_putNumber_58 x h2) ∧ iso tg r h2 (sX_X9_putNumber_58 x) ∧ isf tg r hb h2 sb (sX_X9_putNumber_58 x) := by
  intro k
  induction k with
  | zero => intro c0 h s x I F hx; exact (hp_lp_0 hx).elim
  | succ k ih =>
    intro c0 h s x I F hx
    obtain ⟨rr, hr, hc⟩ := hp_lp_1 hx
    obtain ⟨h2, e2, I2, F2⟩ := t_X9_putNumber_58 I F T_v0 T_v1 hr
    rcases hc with ⟨s3, e3, hx3⟩ | e3
    · subst e3
      obtain ⟨h3, e4, I3, F3⟩ := ih _ h2 _ x I2 F2 hx3
      exact ⟨h3, hp_lp_s e2 e4, I3, F3⟩
    · subst e3
      exact ⟨h2, hp_lp_x e2, I2, F2⟩
def g_X9_putNumber_53 (n : Nat) (v0 : Nat) (v1 : Nat) (v2 : Int32) (v3 : Int32) (s : st_T) : Option (st_T) :=
  (hp_lp (gL_X9_putNumber_58 n v0 v1 v2) n ((v3 - (1 : Int32)), s)).bind fun x1 =>
  (g_X8_put n v1 ((65 : Int32) + ((v2 - (1 : Int32)) - (v2 - (1 : Int32)) / (20 : Int32) * (20 : Int32))) x1).bind fun x3 =>
  some x3
set_option maxHeartbeats 1000000 in
theorem t_X9_putNumber_53 {tg r : Nat → Nat} {h hb : hp_H} {s sb : st_T} {n : Nat} {v0 : Nat} {v1 : Nat} {v2 : Int32} {v3 : Int32} (I : iso tg r h s) (F : isf tg r hb h sb s) (T_v0 : tg v0 = 19) (T_v1 : tg v1 = 18) {res : st_T} (hm : g_X9_putNumber_53 n v0 v1 v2 v3 s = some res) : ∃ h2, f_X9_putNumber_53 n (r v0) (r v1) v2 v3 h = some (h2) ∧ iso tg r h2 res ∧ isf tg r hb h2 sb res := by
  unfold g_X9_putNumber_53 at hm
  unfold f_X9_putNumber_53
  obtain ⟨x1, hx1, hm⟩ := hp_bd hm
  obtain ⟨_, e2, I, F⟩ := tl_X9_putNumber_58 T_v0 T_v1 n _ _ _ _ I F hx1
  refine tr_eq e2 ?_
  try dsimp only [eX_X9_putNumber_58]
  replace I : iso tg _ _ x1 := I
  replace F : isf tg _ _ _ _ x1 := F
  obtain ⟨x3, hx3, hm⟩ := hp_bd hm
  obtain ⟨_, e2, I, F⟩ := t_X8_put I F T_v1 hx3
  refine tr_eq e2 ?_
  obtain rfl := Option.some.inj hm
  exact ⟨_, rfl, I, F⟩
def g_X9_putNumber_0 (n : Nat) (v0 : Nat) (v1 : Nat) (v2 : Int32) (s : st_T) : Option (st_T) :=
  (hp_lp (gL_X9_putNumber_10 n v0 v1 v2) n ((0 : Int32), ((v2 - (1 : Int32)) / (20 : Int32)), s)).bind fun x1 =>
  g_X9_putNumber_53 n v0 v1 v2 x1.1 x1.2
set_option maxHeartbeats 1000000 in
theorem t_X9_putNumber_0 {tg r : Nat → Nat} {h hb : hp_H} {s sb : st_T} {n : Nat} {v0 : Nat} {v1 : Nat} {v2 : Int32} (I : iso tg r h s) (F : isf tg r hb h sb s) (T_v0 : tg v0 = 19) (T_v1 : tg v1 = 18) {res : st_T} (hm : g_X9_putNumber_0 n v0 v1 v2 s = some res) : ∃ h2, f_X9_putNumber_0 n (r v0) (r v1) v2 h = some (h2) ∧ iso tg r h2 res ∧ isf tg r hb h2 sb res := by
  unfold g_X9_putNumber_0 at hm
  unfold f_X9_putNumber_0
  obtain ⟨x1, hx1, hm⟩ := hp_bd hm
  obtain ⟨_, e2, I, F⟩ := tl_X9_putNumber_10 T_v0 T_v1 n _ _ _ _ _ I F hx1
  refine tr_eq e2 ?_
  try dsimp only [eX_X9_putNumber_10]
  replace I : iso tg _ _ x1.2 := I
  replace F : isf tg _ _ _ _ x1.2 := F
  exact t_X9_putNumber_53 I F T_v0 T_v1 hm
def g_X9_putNumber (n : Nat) (v0 : Nat) (v1 : Nat) (v2 : Int32) (s : st_T) : Option (st_T) := g_X9_putNumber_0 n v0 v1 v2 s
theorem t_X9_putNumber {tg r : Nat → Nat} {h hb : hp_H} {s sb : st_T} {n : Nat} {v0 : Nat} {v1 : Nat} {v2 : Int32} (I : iso tg r h s) (F : isf tg r hb h sb s) (T_v0 : tg v0 = 19) (T_v1 : tg v1 = 18) {res : st_T} (hm : g_X9_putNumber n v0 v1 v2 s = some res) : ∃ h2, f_X9_putNumber n (r v0) (r v1) v2 h = some (h2) ∧ iso tg r h2 res ∧ isf tg r hb h2 sb res := by
  unfold g_X9_putNumber at hm
  unfold f_X9_putNumber
  refine tr_eq (t_ck I T_v0 (by decide)) ?_
  exact t_X9_putNumber_0 I F T_v0 T_v1 hm
def g_X9_leave_0 (n : Nat) (v0 : Nat) (v1 : Nat) (s : st_T) : Option (st_T) :=
  (gA s (gP s v0 10) ((gF s v0 12) - (1 : Int32))).bind fun x2 =>
  (wF s v0 12 ((gF s v0 12) - (1 : Int32))).bind fun w3 =>
  (gA w3 (gP w3 v0 4) x2).bind fun x6 =>
  (gA w3 (gP w3 v0 13) x6).bind fun x7 =>
  (g_X9_putNumber n v0 v1 x7 w3).bind fun x8 =>
  (g_X5_size n (gP x8 v0 5) x2 x8).bind fun x10 =>
  if x10 ≤ 0 then
    some x8
  else
    (gA x8 (gP x8 v0 6) x2).bind fun x12 =>
    if x12 ≤ (1 : Int32) then
      some x8
    else
      (g_X8_put n v1 (90 : Int32) x8).bind fun x13 =>
      (wF x13 v0 15 ((gF x13 v0 15) + (1 : Int32))).bind fun w14 =>
      (uA 0 w14 (gP w14 v0 14) x2 (gF w14 v0 15)).bind fun w16 =>
      some w16
set_option maxHeartbeats 1000000 in
theorem t_X9_leave_0 {tg r : Nat → Nat} {h hb : hp_H} {s sb : st_T} {n : Nat} {v0 : Nat} {v1 : Nat} (I : iso tg r h s) (F : isf tg r hb h sb s) (T_v0 : tg v0 = 19) (T_v1 : tg v1 = 18) {res : st_T} (hm : g_X9_leave_0 n v0 v1 s = some res) : ∃ h2, f_X9_leave_0 n (r v0) (r v1) h = some (h2) ∧ iso tg r h2 res ∧ isf tg r hb h2 sb res := by
  unfold g_X9_leave_0 at hm
  unfold f_X9_leave_0
  have T1 : tg (gP s v0 10) = 0 := t_tg (c := 9) I T_v0 (by decide) (by decide) rfl (by decide)
  refine tr_eq (t_fR I T_v0 (by decide) (by decide) (by decide)) ?_
  refine tr_eq (t_fI I T_v0 (by decide) (by decide) rfl) ?_
  obtain ⟨x2, hx2, hm⟩ := hp_bd hm
  refine tr_eq (t_aI I T1 (by decide) rfl hx2) ?_
  refine tr_eq (t_fI I T_v0 (by decide) (by decide) rfl) ?_
  obtain ⟨w3, hw3, hm⟩ := hp_bd hm
  obtain ⟨_, e2, I, F⟩ := t_wF (c := 9) (k := 12) I F T_v0 (by decide) (by decide) rfl hw3
  refine tr_eq e2 ?_
  have T4 : tg (gP w3 v0 13) = 0 := t_tg (c := 9) I T_v0 (by decide) (by decide) rfl (by decide)
  refine tr_eq (t_fR I T_v0 (by decide) (by decide) (by decide)) ?_
  have T5 : tg (gP w3 v0 4) = 0 := t_tg (c := 9) I T_v0 (by decide) (by decide) rfl (by decide)
  refine tr_eq (t_fR I T_v0 (by decide) (by decide) (by decide)) ?_
  obtain ⟨x6, hx6, hm⟩ := hp_bd hm
  refine tr_eq (t_aI I T5 (by decide) rfl hx6) ?_
  obtain ⟨x7, hx7, hm⟩ := hp_bd hm
  refine tr_eq (t_aI I T4 (by decide) rfl hx7) ?_
  obtain ⟨x8, hx8, hm⟩ := hp_bd hm
  obtain ⟨_, e2, I, F⟩ := t_X9_putNumber I F T_v0 T_v1 hx8
  refine tr_eq e2 ?_
  have T9 : tg (gP x8 v0 5) = 15 := t_tg (c := 9) I T_v0 (by decide) (by decide) rfl (by decide)
  refine tr_eq (t_fR I T_v0 (by decide) (by decide) (by decide)) ?_
  obtain ⟨x10, hx10, hm⟩ := hp_bd hm
  refine tr_eq (t_X5_size I T9 hx10) ?_
  by_cases c18 : x10 ≤ 0
  · rw [if_pos c18] at hm ⊢
    obtain rfl := Option.some.inj hm
    exact ⟨_, rfl, I, F⟩
  · rw [if_neg c18] at hm ⊢
    have T11 : tg (gP x8 v0 6) = 0 := t_tg (c := 9) I T_v0 (by decide) (by decide) rfl (by decide)
    refine tr_eq (t_fR I T_v0 (by decide) (by decide) (by decide)) ?_
    obtain ⟨x12, hx12, hm⟩ := hp_bd hm
    refine tr_eq (t_aI I T11 (by decide) rfl hx12) ?_
    by_cases c17 : x12 ≤ (1 : Int32)
    · rw [if_pos c17] at hm ⊢
      obtain rfl := Option.some.inj hm
      exact ⟨_, rfl, I, F⟩
    · rw [if_neg c17] at hm ⊢
      obtain ⟨x13, hx13, hm⟩ := hp_bd hm
      obtain ⟨_, e2, I, F⟩ := t_X8_put I F T_v1 hx13
      refine tr_eq e2 ?_
      refine tr_eq (t_fI I T_v0 (by decide) (by decide) rfl) ?_
      obtain ⟨w14, hw14, hm⟩ := hp_bd hm
      obtain ⟨_, e2, I, F⟩ := t_wF (c := 9) (k := 15) I F T_v0 (by decide) (by decide) rfl hw14
      refine tr_eq e2 ?_
      have T15 : tg (gP w14 v0 14) = 0 := t_tg (c := 9) I T_v0 (by decide) (by decide) rfl (by decide)
      refine tr_eq (t_fR I T_v0 (by decide) (by decide) (by decide)) ?_
      refine tr_eq (t_fI I T_v0 (by decide) (by decide) rfl) ?_
      obtain ⟨w16, hw16, hm⟩ := hp_bd hm
      obtain ⟨_, e2, I, F⟩ := t_sI I F T15 (by decide) rfl hw16
      refine tr_eq e2 ?_
      obtain rfl := Option.some.inj hm
      exact ⟨_, rfl, I, F⟩
def g_X9_leave (n : Nat) (v0 : Nat) (v1 : Nat) (s : st_T) : Option (st_T) := g_X9_leave_0 n v0 v1 s
theorem t_X9_leave {tg r : Nat → Nat} {h hb : hp_H} {s sb : st_T} {n : Nat} {v0 : Nat} {v1 : Nat} (I : iso tg r h s) (F : isf tg r hb h sb s) (T_v0 : tg v0 = 19) (T_v1 : tg v1 = 18) {res : st_T} (hm : g_X9_leave n v0 v1 s = some res) : ∃ h2, f_X9_leave n (r v0) (r v1) h = some (h2) ∧ iso tg r h2 res ∧ isf tg r hb h2 sb res := by
  unfold g_X9_leave at hm
  unfold f_X9_leave
  refine tr_eq (t_ck I T_v0 (by decide)) ?_
  exact t_X9_leave_0 I F T_v0 T_v1 hm
abbrev eX_X9_compress_19 (x : st_T) (h2 : hp_H) : hp_H := (fun y => h2) x
abbrev sX_X9_compress_19 (x : st_T) : st_T := (fun y => y) x
abbrev eR_X9_compress_19 (x : (Int32 × st_T) ⊕ (st_T)) (h2 : hp_H) : (Int32 × hp_H) ⊕ (hp_H) := Sum.elim (fun y => .inl (y.1, h2)) (fun y => .inr (eX_X9_compress_19 y h2)) x
abbrev sR_X9_compress_19 (x : (Int32 × st_T) ⊕ (st_T)) : st_T := Sum.elim (fun y => y.2) sX_X9_compress_19 x
def g_X9_compress_79 (n : Nat) (v0 : Nat) (v1 : Nat) (v2 : Int32) (s : st_T) : Option ((Int32 × st_T) ⊕ (st_T)) :=
  some (.inl ((v2 + (1 : Int32)), s))
set_option maxHeartbeats 1000000 in
theorem t_X9_compress_79 {tg r : Nat → Nat} {h hb : hp_H} {s sb : st_T} {n : Nat} {v0 : Nat} {v1 : Nat} {v2 : Int32} (I : iso tg r h s) (F : isf tg r hb h sb s) (T_v0 : tg v0 = 19) (T_v1 : tg v1 = 18) {res : (Int32 × st_T) ⊕ (st_T)} (hm : g_X9_compress_79 n v0 v1 v2 s = some res) : ∃ h2, f_X9_compress_79 n (r v0) (r v1) v2 h = some (eR_X9_compress_19 res h2) ∧ iso tg r h2 (sR_X9_compress_19 res) ∧ isf tg r hb h2 sb (sR_X9_compress_19 res) := by
  unfold g_X9_compress_79 at hm
  unfold f_X9_compress_79
  obtain rfl := Option.some.inj hm
  exact ⟨_, rfl, I, F⟩
def g_X9_compress_19 (n : Nat) (v0 : Nat) (v1 : Nat) (v2 : Int32) (s : st_T) : Option ((Int32 × st_T) ⊕ (st_T)) :=
  if (4000 : Int32) ≤ v2 then
    some (.inr s)
  else
    if (gF s v0 12) ≤ 0 then
      some (.inr s)
    else
      (g_X9_nextTaken n v0 s).bind fun x1 =>
      if x1.1 = (-1 : Int32) then
        (g_X9_leave n v0 v1 x1.2).bind fun x9 =>
        g_X9_compress_79 n v0 v1 v2 x9
      else
        (gA x1.2 (gP x1.2 v0 14) x1.1).bind fun x3 =>
        if x3 ≤ 0 then
          (g_X9_enter n v0 x1.1 x1.2).bind fun x4 =>
          g_X9_compress_79 n v0 v1 v2 x4
        else
          (gA x1.2 (gP x1.2 v0 14) x1.1).bind fun x6 =>
          (g_X9_putNumber n v0 v1 x6 x1.2).bind fun x7 =>
          g_X9_compress_79 n v0 v1 v2 x7
set_option maxHeartbeats 1000000 in
theorem t_X9_compress_19 {tg r : Nat → Nat} {h hb : hp_H} {s sb : st_T} {n : Nat} {v0 : Nat} {v1 : Nat} {v2 : Int32} (I : iso tg r h s) (F : isf tg r hb h sb s) (T_v0 : tg v0 = 19) (T_v1 : tg v1 = 18) {res : (Int32 × st_T) ⊕ (st_T)} (hm : g_X9_compress_19 n v0 v1 v2 s = some res) : ∃ h2, f_X9_compress_19 n (r v0) (r v1) v2 h = some (eR_X9_compress_19 res h2) ∧ iso tg r h2 (sR_X9_compress_19 res) ∧ isf tg r hb h2 sb (sR_X9_compress_19 res) := by
  unfold g_X9_compress_19 at hm
  unfold f_X9_compress_19
  by_cases c12 : (4000 : Int32) ≤ v2
  · rw [if_pos c12] at hm ⊢
    obtain rfl := Option.some.inj hm
    exact ⟨_, rfl, I, F⟩
  · rw [if_neg c12] at hm ⊢
    refine tr_eq (t_fI I T_v0 (by decide) (by decide) rfl) ?_
    by_cases c11 : (gF s v0 12) ≤ 0
    · rw [if_pos c11] at hm ⊢
      obtain rfl := Option.some.inj hm
      exact ⟨_, rfl, I, F⟩
    · rw [if_neg c11] at hm ⊢
      obtain ⟨x1, hx1, hm⟩ := hp_bd hm
      obtain ⟨_, e2, I, F⟩ := t_X9_nextTaken I F T_v0 hx1
      refine tr_eq e2 ?_
      try dsimp only
      by_cases c10 : x1.1 = (-1 : Int32)
      · rw [if_pos c10] at hm ⊢
        obtain ⟨x9, hx9, hm⟩ := hp_bd hm
        obtain ⟨_, e2, I, F⟩ := t_X9_leave I F T_v0 T_v1 hx9
        refine tr_eq e2 ?_
        exact t_X9_compress_79 I F T_v0 T_v1 hm
      · rw [if_neg c10] at hm ⊢
        have T2 : tg (gP x1.2 v0 14) = 0 := t_tg (c := 9) I T_v0 (by decide) (by decide) rfl (by decide)
        refine tr_eq (t_fR I T_v0 (by decide) (by decide) (by decide)) ?_
        obtain ⟨x3, hx3, hm⟩ := hp_bd hm
        refine tr_eq (t_aI I T2 (by decide) rfl hx3) ?_
        by_cases c8 : x3 ≤ 0
        · rw [if_pos c8] at hm ⊢
          obtain ⟨x4, hx4, hm⟩ := hp_bd hm
          obtain ⟨_, e2, I, F⟩ := t_X9_enter I F T_v0 hx4
          refine tr_eq e2 ?_
          exact t_X9_compress_79 I F T_v0 T_v1 hm
        · rw [if_neg c8] at hm ⊢
          have T5 : tg (gP x1.2 v0 14) = 0 := t_tg (c := 9) I T_v0 (by decide) (by decide) rfl (by decide)
          refine tr_eq (t_fR I T_v0 (by decide) (by decide) (by decide)) ?_
          obtain ⟨x6, hx6, hm⟩ := hp_bd hm
          refine tr_eq (t_aI I T5 (by decide) rfl hx6) ?_
          obtain ⟨x7, hx7, hm⟩ := hp_bd hm
          obtain ⟨_, e2, I, F⟩ := t_X9_putNumber I F T_v0 T_v1 hx7
          refine tr_eq e2 ?_
          exact t_X9_compress_79 I F T_v0 T_v1 hm
def gL_X9_compress_19 (n : Nat) (v0 : Nat) (v1 : Nat) (c : Int32 × st_T) : Option ((Int32 × st_T) ⊕ (st_T)) := g_X9_compress_19 n v0 v1 c.1 c.2
theorem tl_X9_compress_19 {tg r : Nat → Nat} {hb : hp_H} {sb : st_T} {n : Nat} {v0 : Nat} {v1 : Nat} (T_v0 : tg v0 = 19) (T_v1 : tg v1 = 18) : ∀ (k : Nat) (c0 : Int32) (h : hp_H) (s : st_T) (x : st_T), iso tg r h s → isf tg r hb h sb s → hp_lp (gL_X9_compress_19 n v0 v1) k (c0, s) = some x → ∃ h2, hp_lp (fL_X9_compress_19 n (r v0) (r v1)) k (c0, h) = some (eX_X9_compress_19 x h2) ∧ iso tg r h2 (sX_X9_compress_19 x) ∧ isf tg r hb h2 sb (sX_X9_compress_19 x) := by
  intro k
  induction k with
  | zero => intro c0 h s x I F hx; exact (hp_lp_0 hx).elim
  | succ k ih =>
    intro c0 h s x I F hx
    obtain ⟨rr, hr, hc⟩ := hp_lp_1 hx
    obtain ⟨h2, e2, I2, F2⟩ := t_X9_compress_19 I F T_v0 T_v1 hr
    rcases hc with ⟨s3, e3, hx3⟩ | e3
    · subst e3
      obtain ⟨h3, e4, I3, F3⟩ := ih _ h2 _ x I2 F2 hx3
      exact ⟨h3, hp_lp_s e2 e4, I3, F3⟩
    · subst e3
      exact ⟨h2, hp_lp_x e2, I2, F2⟩
def g_X9_compress_0 (n : Nat) (v0 : Nat) (v1 : Nat) (s : st_T) : Option (st_T) :=
  (g_X9_numberLabels n v0 v1 s).bind fun x1 =>
  (g_J7_fill_53178 n (gP x1 v0 14) (0 : Int32) x1).bind fun x3 =>
  (g_X9_enterRoot n v0 x3).bind fun x4 =>
  (hp_lp (gL_X9_compress_19 n v0 v1) n ((0 : Int32), x4)).bind fun x5 =>
  some x5
set_option maxHeartbeats 1000000 in
theorem t_X9_compress_0 {tg r : Nat → Nat} {h hb : hp_H} {s sb : st_T} {n : Nat} {v0 : Nat} {v1 : Nat} (I : iso tg r h s) (F : isf tg r hb h sb s) (T_v0 : tg v0 = 19) (T_v1 : tg v1 = 18) {res : st_T} (hm : g_X9_compress_0 n v0 v1 s = some res) : ∃ h2, f_X9_compress_0 n (r v0) (r v1) h = some (h2) ∧ iso tg r h2 res ∧ isf tg r hb h2 sb res := by
  unfold g_X9_compress_0 at hm
  unfold f_X9_compress_0
  obtain ⟨x1, hx1, hm⟩ := hp_bd hm
  obtain ⟨_, e2, I, F⟩ := t_X9_numberLabels I F T_v0 T_v1 hx1
  refine tr_eq e2 ?_
  have T2 : tg (gP x1 v0 14) = 0 := t_tg (c := 9) I T_v0 (by decide) (by decide) rfl (by decide)
  refine tr_eq (t_fR I T_v0 (by decide) (by decide) (by decide)) ?_
  obtain ⟨x3, hx3, hm⟩ := hp_bd hm
  obtain ⟨_, e2, I, F⟩ := t_J7_fill_53178 I F T2 hx3
  refine tr_eq e2 ?_
  obtain ⟨x4, hx4, hm⟩ := hp_bd hm
  obtain ⟨_, e2, I, F⟩ := t_X9_enterRoot I F T_v0 hx4
  refine tr_eq e2 ?_
  obtain ⟨x5, hx5, hm⟩ := hp_bd hm
  obtain ⟨_, e2, I, F⟩ := tl_X9_compress_19 T_v0 T_v1 n _ _ _ _ I F hx5
  refine tr_eq e2 ?_
  try dsimp only [eX_X9_compress_19]
  replace I : iso tg _ _ x5 := I
  replace F : isf tg _ _ _ _ x5 := F
  obtain rfl := Option.some.inj hm
  exact ⟨_, rfl, I, F⟩
def g_X9_compress (n : Nat) (v0 : Nat) (v1 : Nat) (s : st_T) : Option (st_T) := g_X9_compress_0 n v0 v1 s
theorem t_X9_compress {tg r : Nat → Nat} {h hb : hp_H} {s sb : st_T} {n : Nat} {v0 : Nat} {v1 : Nat} (I : iso tg r h s) (F : isf tg r hb h sb s) (T_v0 : tg v0 = 19) (T_v1 : tg v1 = 18) {res : st_T} (hm : g_X9_compress n v0 v1 s = some res) : ∃ h2, f_X9_compress n (r v0) (r v1) h = some (h2) ∧ iso tg r h2 res ∧ isf tg r hb h2 sb res := by
  unfold g_X9_compress at hm
  unfold f_X9_compress
  refine tr_eq (t_ck I T_v0 (by decide)) ?_
  exact t_X9_compress_0 I F T_v0 T_v1 hm
