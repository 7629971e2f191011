def g_X7_clear_0 (n : Nat) (v0 : Nat) (s : st_T) : Option (st_T) :=
  (wF s v0 0 (0 : Int32)).bind fun w1 =>
  (wF w1 v0 4 (0 : Int32)).bind fun w2 =>
  (wF w2 v0 9 (0 : Int32)).bind fun w3 =>
  (wF w3 v0 12 (0 : Int32)).bind fun w4 =>
  (g_J7_fill_031fb n (gP w4 v0 5) (0 : Int32) w4).bind fun x6 =>
  (g_J7_fill_031fb n (gP x6 v0 6) (0 : Int32) x6).bind fun x8 =>
  (g_J7_fill_53178 n (gP x8 v0 7) (0 : Int32) x8).bind fun x10 =>
  some x10
set_option maxHeartbeats 1000000 in
theorem t_X7_clear_0 {tg r : Nat → Nat} {h hb : hp_H} {s sb : st_T} {n : Nat} {v0 : Nat} (I : iso tg r h s) (F : isf tg r hb h sb s) (T_v0 : tg v0 = 17) {res : st_T} (hm : g_X7_clear_0 n v0 s = some res) : ∃ h2, f_X7_clear_0 n (r v0) h = some (h2) ∧ iso tg r h2 res ∧ isf tg r hb h2 sb res := by
  unfold g_X7_clear_0 at hm
  unfold f_X7_clear_0
  obtain ⟨w1, hw1, hm⟩ := hp_bd hm
  obtain ⟨_, e2, I, F⟩ := t_wF (c := 7) (k := 0) I F T_v0 (by decide) (by decide) rfl hw1
  refine tr_eq e2 ?_
  obtain ⟨w2, hw2, hm⟩ := hp_bd hm
  obtain ⟨_, e2, I, F⟩ := t_wF (c := 7) (k := 4) I F T_v0 (by decide) (by decide) rfl hw2
  refine tr_eq e2 ?_
  obtain ⟨w3, hw3, hm⟩ := hp_bd hm
  obtain ⟨_, e2, I, F⟩ := t_wF (c := 7) (k := 9) I F T_v0 (by decide) (by decide) rfl hw3
  refine tr_eq e2 ?_
  obtain ⟨w4, hw4, hm⟩ := hp_bd hm
  obtain ⟨_, e2, I, F⟩ := t_wF (c := 7) (k := 12) I F T_v0 (by decide) (by decide) rfl hw4
  refine tr_eq e2 ?_
  have T5 : tg (gP w4 v0 5) = 1 := t_tg (c := 7) I T_v0 (by decide) (by decide) rfl (by decide)
  refine tr_eq (t_fR I T_v0 (by decide) (by decide) (by decide)) ?_
  obtain ⟨x6, hx6, hm⟩ := hp_bd hm
  obtain ⟨_, e2, I, F⟩ := t_J7_fill_031fb I F T5 hx6
  refine tr_eq e2 ?_
  have T7 : tg (gP x6 v0 6) = 1 := t_tg (c := 7) I T_v0 (by decide) (by decide) rfl (by decide)
  refine tr_eq (t_fR I T_v0 (by decide) (by decide) (by decide)) ?_
  obtain ⟨x8, hx8, hm⟩ := hp_bd hm
  obtain ⟨_, e2, I, F⟩ := t_J7_fill_031fb I F T7 hx8
  refine tr_eq e2 ?_
  have T9 : tg (gP x8 v0 7) = 0 := t_tg (c := 7) I T_v0 (by decide) (by decide) rfl (by decide)
  refine tr_eq (t_fR I T_v0 (by decide) (by decide) (by decide)) ?_
  obtain ⟨x10, hx10, hm⟩ := hp_bd hm
  obtain ⟨_, e2, I, F⟩ := t_J7_fill_53178 I F T9 hx10
  refine tr_eq e2 ?_
  obtain rfl := Option.some.inj hm
  exact ⟨_, rfl, I, F⟩
def g_X7_clear (n : Nat) (v0 : Nat) (s : st_T) : Option (st_T) := g_X7_clear_0 n v0 s
theorem t_X7_clear {tg r : Nat → Nat} {h hb : hp_H} {s sb : st_T} {n : Nat} {v0 : Nat} (I : iso tg r h s) (F : isf tg r hb h sb s) (T_v0 : tg v0 = 17) {res : st_T} (hm : g_X7_clear n v0 s = some res) : ∃ h2, f_X7_clear n (r v0) h = some (h2) ∧ iso tg r h2 res ∧ isf tg r hb h2 sb res := by
  unfold g_X7_clear at hm
  unfold f_X7_clear
  refine tr_eq (t_ck I T_v0 (by decide)) ?_
  exact t_X7_clear_0 I F T_v0 hm
def g_X7_openBlock_0 (n : Nat) (v0 : Nat) (s : st_T) : Option (Int32 × st_T) :=
  if (gF s v0 0) = (16 : Int32) then
    some ((0 : Int32), s)
  else
    (uA 0 s (gP s v0 1) (gF s v0 0) (gF s v0 4)).bind fun w2 =>
    (uA 0 w2 (gP w2 v0 2) (gF w2 v0 0) (gF w2 v0 9)).bind fun w4 =>
    (wF w4 v0 0 ((gF w4 v0 0) + (1 : Int32))).bind fun w5 =>
    some ((1 : Int32), w5)
set_option maxHeartbeats 1000000 in
theorem t_X7_openBlock_0 {tg r : Nat → Nat} {h hb : hp_H} {s sb : st_T} {n : Nat} {v0 : Nat} (I : iso tg r h s) (F : isf tg r hb h sb s) (T_v0 : tg v0 = 17) {res : Int32 × st_T} (hm : g_X7_openBlock_0 n v0 s = some res) : ∃ h2, f_X7_openBlock_0 n (r v0) h = some ((res.1, h2)) ∧ iso tg r h2 res.2 ∧ isf tg r hb h2 sb res.2 := by
  unfold g_X7_openBlock_0 at hm
  unfold f_X7_openBlock_0
  refine tr_eq (t_fI I T_v0 (by decide) (by decide) rfl) ?_
  by_cases c6 : (gF s v0 0) = (16 : Int32)
  · rw [if_pos c6] at hm ⊢
    obtain rfl := Option.some.inj hm
    exact ⟨_, rfl, I, F⟩
  · rw [if_neg c6] at hm ⊢
    have T1 : tg (gP s v0 1) = 0 := t_tg (c := 7) I T_v0 (by decide) (by decide) rfl (by decide)
    refine tr_eq (t_fR I T_v0 (by decide) (by decide) (by decide)) ?_
    refine tr_eq (t_fI I T_v0 (by decide) (by decide) rfl) ?_
    refine tr_eq (t_fI I T_v0 (by decide) (by decide) rfl) ?_
    obtain ⟨w2, hw2, hm⟩ := hp_bd hm
    obtain ⟨_, e2, I, F⟩ := t_sI I F T1 (by decide) rfl hw2
    refine tr_eq e2 ?_
    have T3 : tg (gP w2 v0 2) = 0 := t_tg (c := 7) I T_v0 (by decide) (by decide) rfl (by decide)
    refine tr_eq (t_fR I T_v0 (by decide) (by decide) (by decide)) ?_
    refine tr_eq (t_fI I T_v0 (by decide) (by decide) rfl) ?_
    refine tr_eq (t_fI I T_v0 (by decide) (by decide) rfl) ?_
    obtain ⟨w4, hw4, hm⟩ := hp_bd hm
    obtain ⟨_, e2, I, F⟩ := t_sI I F T3 (by decide) rfl hw4
    refine tr_eq e2 ?_
    refine tr_eq (t_fI I T_v0 (by decide) (by decide) rfl) ?_
    obtain ⟨w5, hw5, hm⟩ := hp_bd hm
    obtain ⟨_, e2, I, F⟩ := t_wF (c := 7) (k := 0) I F T_v0 (by decide) (by decide) rfl hw5
    refine tr_eq e2 ?_
    obtain rfl := Option.some.inj hm
    exact ⟨_, rfl, I, F⟩
def g_X7_openBlock (n : Nat) (v0 : Nat) (s : st_T) : Option (Int32 × st_T) := g_X7_openBlock_0 n v0 s
theorem t_X7_openBlock {tg r : Nat → Nat} {h hb : hp_H} {s sb : st_T} {n : Nat} {v0 : Nat} (I : iso tg r h s) (F : isf tg r hb h sb s) (T_v0 : tg v0 = 17) {res : Int32 × st_T} (hm : g_X7_openBlock n v0 s = some res) : ∃ h2, f_X7_openBlock n (r v0) h = some ((res.1, h2)) ∧ iso tg r h2 res.2 ∧ isf tg r hb h2 sb res.2 := by
  unfold g_X7_openBlock at hm
  unfold f_X7_openBlock
  refine tr_eq (t_ck I T_v0 (by decide)) ?_
  exact t_X7_openBlock_0 I F T_v0 hm
abbrev eX_X7_dropPairs_4 (x : Int32 × st_T) (h2 : hp_H) : Int32 × hp_H := (fun y => (y.1, h2)) x
abbrev sX_X7_dropPairs_4 (x : Int32 × st_T) : st_T := (fun y => y.2) x
abbrev eR_X7_dropPairs_4 (x : (Int32 × Int32 × st_T) ⊕ (Int32 × st_T)) (h2 : hp_H) : (Int32 × Int32 × hp_H) ⊕ (Int32 × hp_H) := Sum.elim (fun y => .inl (y.1, y.2.1, h2)) (fun y => .inr (eX_X7_dropPairs_4 y h2)) x
abbrev sR_X7_dropPairs_4 (x : (Int32 × Int32 × st_T) ⊕ (Int32 × st_T)) : st_T := Sum.elim (fun y => y.2.2) sX_X7_dropPairs_4 x
def g_X7_dropPairs_52 (n : Nat) (v0 : Nat) (v1 : Int32) (v2 : Int32) (s : st_T) : Option ((Int32 × Int32 × st_T) ⊕ (Int32 × st_T)) :=
  some (.inl (v1, (v2 + (1 : Int32)), s))
set_option maxHeartbeats 1000000 in
theorem t_X7_dropPairs_52 {tg r : Nat → Nat} {h hb : hp_H} {s sb : st_T} {n : Nat} {v0 : Nat} {v1 : Int32} {v2 : Int32} (I : iso tg r h s) (F : isf tg r hb h sb s) (T_v0 : tg v0 = 17) {res : (Int32 × Int32 × st_T) ⊕ (Int32 × st_T)} (hm : g_X7_dropPairs_52 n v0 v1 v2 s = some res) : ∃ h2, f_X7_dropPairs_52 n (r v0) v1 v2 h = some (eR_X7_dropPairs_4 res h2) ∧ iso tg r h2 (sR_X7_dropPairs_4 res) ∧ isf tg r hb h2 sb (sR_X7_dropPairs_4 res) := by
  unfold g_X7_dropPairs_52 at hm
  unfold f_X7_dropPairs_52
  obtain rfl := Option.some.inj hm
  exact ⟨_, rfl, I, F⟩
def g_X7_dropPairs_4 (n : Nat) (v0 : Nat) (v1 : Int32) (v2 : Int32) (s : st_T) : Option ((Int32 × Int32 × st_T) ⊕ (Int32 × st_T)) :=
  if (gF s v0 12) ≤ v2 then
    some (.inr (v1, s))
  else
    (gA s (gP s v0 11) v2).bind fun x2 =>
    if (gF s v0 0) ≤ x2 then
      g_X7_dropPairs_52 n v0 v1 v2 s
    else
      (gA s (gP s v0 10) v2).bind fun x5 =>
      (uA 0 s (gP s v0 10) v1 x5).bind fun w6 =>
      (gA w6 (gP w6 v0 11) v2).bind fun x9 =>
      (uA 0 w6 (gP w6 v0 11) v1 x9).bind fun w10 =>
      g_X7_dropPairs_52 n v0 (v1 + (1 : Int32)) v2 w10
set_option maxHeartbeats 1000000 in
theorem t_X7_dropPairs_4 {tg r : Nat → Nat} {h hb : hp_H} {s sb : st_T} {n : Nat} {v0 : Nat} {v1 : Int32} {v2 : Int32} (I : iso tg r h s) (F : isf tg r hb h sb s) (T_v0 : tg v0 = 17) {res : (Int32 × Int32 × st_T) ⊕ (Int32 × st_T)} (hm : g_X7_dropPairs_4 n v0 v1 v2 s = some res) : ∃ h2, f_X7_dropPairs_4 n (r v0) v1 v2 h = some (eR_X7_dropPairs_4 res h2) ∧ iso tg r h2 (sR_X7_dropPairs_4 res) ∧ isf tg r hb h2 sb (sR_X7_dropPairs_4 res) := by
  unfold g_X7_dropPairs_4 at hm
  unfold f_X7_dropPairs_4
  refine tr_eq (t_fI I T_v0 (by decide) (by decide) rfl) ?_
  by_cases c12 : (gF s v0 12) ≤ v2
  · rw [if_pos c12] at hm ⊢
    obtain rfl := Option.some.inj hm
    exact ⟨_, rfl, I, F⟩
  · rw [if_neg c12] at hm ⊢
    have T1 : tg (gP s v0 11) = 0 := t_tg (c := 7) I T_v0 (by decide) (by decide) rfl (by decide)
    refine tr_eq (t_fR I T_v0 (by decide) (by decide) (by decide)) ?_
    obtain ⟨x2, hx2, hm⟩ := hp_bd hm
    refine tr_eq (t_aI I T1 (by decide) rfl hx2) ?_
    refine tr_eq (t_fI I T_v0 (by decide) (by decide) rfl) ?_
    by_cases c11 : (gF s v0 0) ≤ x2
    · rw [if_pos c11] at hm ⊢
      exact t_X7_dropPairs_52 I F T_v0 hm
    · rw [if_neg c11] at hm ⊢
      have T3 : tg (gP s v0 10) = 0 := t_tg (c := 7) I T_v0 (by decide) (by decide) rfl (by decide)
      refine tr_eq (t_fR I T_v0 (by decide) (by decide) (by decide)) ?_
      have T4 : tg (gP s v0 10) = 0 := t_tg (c := 7) I T_v0 (by decide) (by decide) rfl (by decide)
      refine tr_eq (t_fR I T_v0 (by decide) (by decide) (by decide)) ?_
      obtain ⟨x5, hx5, hm⟩ := hp_bd hm
      refine tr_eq (t_aI I T4 (by decide) rfl hx5) ?_
      obtain ⟨w6, hw6, hm⟩ := hp_bd hm
      obtain ⟨_, e2, I, F⟩ := t_sI I F T4 (by decide) rfl hw6
      refine tr_eq e2 ?_
      have T7 : tg (gP w6 v0 11) = 0 := t_tg (c := 7) I T_v0 (by decide) (by decide) rfl (by decide)
      refine tr_eq (t_fR I T_v0 (by decide) (by decide) (by decide)) ?_
      have T8 : tg (gP w6 v0 11) = 0 := t_tg (c := 7) I T_v0 (by decide) (by decide) rfl (by decide)
      refine tr_eq (t_fR I T_v0 (by decide) (by decide) (by decide)) ?_
      obtain ⟨x9, hx9, hm⟩ := hp_bd hm
      refine tr_eq (t_aI I T8 (by decide) rfl hx9) ?_
      obtain ⟨w10, hw10, hm⟩ := hp_bd hm
      obtain ⟨_, e2, I, F⟩ := t_sI I F T8 (by decide) rfl hw10
      refine tr_eq e2 ?_
      exact t_X7_dropPairs_52 I F T_v0 hm
def gL_X7_dropPairs_4 (n : Nat) (v0 : Nat) (c : Int32 × Int32 × st_T) : Option ((Int32 × Int32 × st_T) ⊕ (Int32 × st_T)) := g_X7_dropPairs_4 n v0 c.1 c.2.1 c.2.2
theorem tl_X7_dropPairs_4 {tg r : Nat → Nat} {hb : hp_H} {sb : st_T} {n : Nat} {v0 : Nat} (T_v0 : tg v0 = 17) : ∀ (k : Nat) (c0 : Int32) (c1 : Int32) (h : hp_H) (s : st_T) (x : Int32 × st_T), iso tg r h s → isf tg r hb h sb s → hp_lp (gL_X7_dropPairs_4 n v0) k (c0, c1, s) = some x → ∃ h2, hp_lp (fL_X7_dropPairs_4 n (r v0)) k (c0, c1, h) = some (eX_X7_dropPairs_4 x h2) ∧ iso tg r h2 (sX_X7_dropPairs_4 x) ∧ isf tg r hb h2 sb (sX_X7_dropPairs_4 x) := by
  intro k
  induction k with
  | zero => intro c0 c1 h s x I F hx; exact (hp_lp_0 hx).elim
  | succ k ih =>
    intro c0 c1 h s x I F hx
    obtain ⟨rr, hr, hc⟩ := hp_lp_1 hx
    obtain ⟨h2, e2, I2, F2⟩ := t_X7_dropPairs_4 I F T_v0 hr
    rcases hc with ⟨s3, e3, hx3⟩ | e3
    · subst e3
      obtain ⟨h3, e4, I3, F3⟩ := ih _ _ h2 _ x I2 F2 hx3
      exact ⟨h3, hp_lp_s e2 e4, I3, F3⟩
    · subst e3
      exact ⟨h2, hp_lp_x e2, I2, F2⟩
def g_X7_dropPairs_0 (n : Nat) (v0 : Nat) (s : st_T) : Option (st_T) :=
  (hp_lp (gL_X7_dropPairs_4 n v0) n ((0 : Int32), (0 : Int32), s)).bind fun x1 =>
  (wF x1.2 v0 12 x1.1).bind fun w3 =>
  some w3
set_option maxHeartbeats 1000000 in
theorem t_X7_dropPairs_0 {tg r : Nat → Nat} {h hb : hp_H} {s sb : st_T} {n : Nat} {v0 : Nat} (I : iso tg r h s) (F : isf tg r hb h sb s) (T_v0 : tg v0 = 17) {res : st_T} (hm : g_X7_dropPairs_0 n v0 s = some res) : ∃ h2, f_X7_dropPairs_0 n (r v0) h = some (h2) ∧ iso tg r h2 res ∧ isf tg r hb h2 sb res := by
  unfold g_X7_dropPairs_0 at hm
  unfold f_X7_dropPairs_0
  obtain ⟨x1, hx1, hm⟩ := hp_bd hm
  obtain ⟨_, e2, I, F⟩ := tl_X7_dropPairs_4 T_v0 n _ _ _ _ _ I F hx1
  refine tr_eq e2 ?_
  try dsimp only [eX_X7_dropPairs_4]
  replace I : iso tg _ _ x1.2 := I
  replace F : isf tg _ _ _ _ x1.2 := F
  obtain ⟨w3, hw3, hm⟩ := hp_bd hm
  obtain ⟨_, e2, I, F⟩ := t_wF (c := 7) (k := 12) I F T_v0 (by decide) (by decide) rfl hw3
  refine tr_eq e2 ?_
  obtain rfl := Option.some.inj hm
  exact ⟨_, rfl, I, F⟩
def g_X7_dropPairs (n : Nat) (v0 : Nat) (s : st_T) : Option (st_T) := g_X7_dropPairs_0 n v0 s
theorem t_X7_dropPairs {tg r : Nat → Nat} {h hb : hp_H} {s sb : st_T} {n : Nat} {v0 : Nat} (I : iso tg r h s) (F : isf tg r hb h sb s) (T_v0 : tg v0 = 17) {res : st_T} (hm : g_X7_dropPairs n v0 s = some res) : ∃ h2, f_X7_dropPairs n (r v0) h = some (h2) ∧ iso tg r h2 res ∧ isf tg r hb h2 sb res := by
  unfold g_X7_dropPairs at hm
  unfold f_X7_dropPairs
  refine tr_eq (t_ck I T_v0 (by decide)) ?_
  exact t_X7_dropPairs_0 I F T_v0 hm
abbrev eX_X7_addNeeds_13 (x : st_T) (h2 : hp_H) : hp_H := (fun y => h2) x
abbrev sX_X7_addNeeds_13 (x : st_T) : st_T := (fun y => y) x
abbrev eR_X7_addNeeds_13 (x : (Int32 × st_T) ⊕ (st_T)) (h2 : hp_H) : (Int32 × hp_H) ⊕ (hp_H) := Sum.elim (fun y => .inl (y.1, h2)) (fun y => .inr (eX_X7_addNeeds_13 y h2)) x
abbrev sR_X7_addNeeds_13 (x : (Int32 × st_T) ⊕ (st_T)) : st_T := Sum.elim (fun y => y.2) sX_X7_addNeeds_13 x
def g_X7_addNeeds_13 (n : Nat) (v0 : Nat) (v1 : Nat) (v2 : Int32) (v3 : Int32) (v4 : Int32) (v5 : Int32) (s : st_T) : Option ((Int32 × st_T) ⊕ (st_T)) :=
  if v4 ≤ v5 then
    some (.inr s)
  else
    (g_X5_get n (gP s v1 9) v2 v5 s).bind fun x3 =>
    (gA s (gP s v0 7) x3).bind fun x4 =>
    (uA 0 s (gP s v0 7) x3 (x4 + v3)).bind fun w5 =>
    some (.inl ((v5 + (1 : Int32)), w5))
set_option maxHeartbeats 1000000 in
theorem t_X7_addNeeds_13 {tg r : Nat → Nat} {h hb : hp_H} {s sb : st_T} {n : Nat} {v0 : Nat} {v1 : Nat} {v2 : Int32} {v3 : Int32} {v4 : Int32} {v5 : Int32} (I : iso tg r h s) (F : isf tg r hb h sb s) (T_v0 : tg v0 = 17) (T_v1 : tg v1 = 10) {res : (Int32 × st_T) ⊕ (st_T)} (hm : g_X7_addNeeds_13 n v0 v1 v2 v3 v4 v5 s = some res) : ∃ h2, f_X7_addNeeds_13 n (r v0) (r v1) v2 v3 v4 v5 h = some (eR_X7_addNeeds_13 res h2) ∧ iso tg r h2 (sR_X7_addNeeds_13 res) ∧ isf tg r hb h2 sb (sR_X7_addNeeds_13 res) := by
  unfold g_X7_addNeeds_13 at hm
  unfold f_X7_addNeeds_13
  by_cases c6 : v4 ≤ v5
  · rw [if_pos c6] at hm ⊢
    obtain rfl := Option.some.inj hm
    exact ⟨_, rfl, I, F⟩
  · rw [if_neg c6] at hm ⊢
    have T1 : tg (gP s v0 7) = 0 := t_tg (c := 7) I T_v0 (by decide) (by decide) rfl (by decide)
    refine tr_eq (t_fR I T_v0 (by decide) (by decide) (by decide)) ?_
    have T2 : tg (gP s v1 9) = 15 := t_tg (c := 0) I T_v1 (by decide) (by decide) rfl (by decide)
    refine tr_eq (t_fR I T_v1 (by decide) (by decide) (by decide)) ?_
    obtain ⟨x3, hx3, hm⟩ := hp_bd hm
    refine tr_eq (t_X5_get I T2 hx3) ?_
    obtain ⟨x4, hx4, hm⟩ := hp_bd hm
    refine tr_eq (t_aI I T1 (by decide) rfl hx4) ?_
    obtain ⟨w5, hw5, hm⟩ := hp_bd hm
    obtain ⟨_, e2, I, F⟩ := t_sI I F T1 (by decide) rfl hw5
    refine tr_eq e2 ?_
    obtain rfl := Option.some.inj hm
    exact ⟨_, rfl, I, F⟩
def gL_X7_addNeeds_13 (n : Nat) (v0 : Nat) (v1 : Nat) (v2 : Int32) (v3 : Int32) (v4 : Int32) (c : Int32 × st_T) : Option ((Int32 × st_T) ⊕ (st_T)) := g_X7_addNeeds_13 n v0 v1 v2 v3 v4 c.1 c.2
theorem tl_X7_addNeeds_13 {tg r : Nat → Nat} {hb : hp_H} {sb : st_T} {n : Nat} {v0 : Nat} {v1 : Nat} {v2 : Int32} {v3 : Int32} {v4 : Int32} (T_v0 : tg v0 = 17) (T_v1 : tg v1 = 10) : ∀ (k : Nat) (c0 : Int32) (h : hp_H) (s : st_T) (x : st_T), iso tg r h s → isf tg r hb h sb s → hp_lp (gL_X7_addNeeds_13 n v0 v1 v2 v3 v4) k (c0, s) = some x → ∃ h2, hp_lp (fL_X7_addNeeds_13 n (r v0) (r v1) v2 v3 v4) k (c0, h) = some (eX_X7_addNeeds_13 x h2) ∧ iso tg r h2 (sX_X7_addNeeds_13 x) ∧ isf tg r hb h2 sb (sX_X7_addNeeds_13 x) := by
  intro k
  induction k with
  | zero => intro c0 h s x I F hx; exact (hp_lp_0 hx).elim
  | succ k ih =>
    intro c0 h s x I F hx
    obtain ⟨rr, hr, hc⟩ := hp_lp_1 hx
    obtain ⟨h2, e2, I2, F2⟩ := t_X7_addNeeds_13 I F T_v0 T_v1 hr
    rcases hc with ⟨s3, e3, hx3⟩ | e3
    · subst e3
      obtain ⟨h3, e4, I3, F3⟩ := ih _ h2 _ x I2 F2 hx3
      exact ⟨h3, hp_lp_s e2 e4, I3, F3⟩
    · subst e3
      exact ⟨h2, hp_lp_x e2, I2, F2⟩
def g_X7_addNeeds_0 (n : Nat) (v0 : Nat) (v1 : Nat) (v2 : Int32) (v3 : Int32) (s : st_T) : Option (st_T) :=
  (g_X5_size n (gP s v1 9) v2 s).bind fun x2 =>
  (hp_lp (gL_X7_addNeeds_13 n v0 v1 v2 v3 x2) n ((0 : Int32), s)).bind fun x3 =>
  some x3
set_option maxHeartbeats 1000000 in
theorem t_X7_addNeeds_0 {tg r : Nat → Nat} {h hb : hp_H} {s sb : st_T} {n : Nat} {v0 : Nat} {v1 : Nat} {v2 : Int32} {v3 : Int32} (I : iso tg r h s) (F : isf tg r hb h sb s) (T_v0 : tg v0 = 17) (T_v1 : tg v1 = 10) {res : st_T} (hm : g_X7_addNeeds_0 n v0 v1 v2 v3 s = some res) : ∃ h2, f_X7_addNeeds_0 n (r v0) (r v1) v2 v3 h = some (h2) ∧ iso tg r h2 res ∧ isf tg r hb h2 sb res := by
  unfold g_X7_addNeeds_0 at hm
  unfold f_X7_addNeeds_0
  have T1 : tg (gP s v1 9) = 15 := t_tg (c := 0) I T_v1 (by decide) (by decide) rfl (by decide)
  refine tr_eq (t_fR I T_v1 (by decide) (by decide) (by decide)) ?_
  obtain ⟨x2, hx2, hm⟩ := hp_bd hm
  refine tr_eq (t_X5_size I T1 hx2) ?_
  obtain ⟨x3, hx3, hm⟩ := hp_bd hm
  obtain ⟨_, e2, I, F⟩ := tl_X7_addNeeds_13 T_v0 T_v1 n _ _ _ _ I F hx3
  refine tr_eq e2 ?_
  try dsimp only [eX_X7_addNeeds_13]
  replace I : iso tg _ _ x3 := I
  replace F : isf tg _ _ _ _ x3 := F
  obtain rfl := Option.some.inj hm
  exact ⟨_, rfl, I, F⟩
def g_X7_addNeeds (n : Nat) (v0 : Nat) (v1 : Nat) (v2 : Int32) (v3 : Int32) (s : st_T) : Option (st_T) := g_X7_addNeeds_0 n v0 v1 v2 v3 s
theorem t_X7_addNeeds {tg r : Nat → Nat} {h hb : hp_H} {s sb : st_T} {n : Nat} {v0 : Nat} {v1 : Nat} {v2 : Int32} {v3 : Int32} (I : iso tg r h s) (F : isf tg r hb h sb s) (T_v0 : tg v0 = 17) (T_v1 : tg v1 = 10) {res : st_T} (hm : g_X7_addNeeds n v0 v1 v2 v3 s = some res) : ∃ h2, f_X7_addNeeds n (r v0) (r v1) v2 v3 h = some (h2) ∧ iso tg r h2 res ∧ isf tg r hb h2 sb res := by
  unfold g_X7_addNeeds at hm
  unfold f_X7_addNeeds
  refine tr_eq (t_ck I T_v0 (by decide)) ?_
  exact t_X7_addNeeds_0 I F T_v0 T_v1 hm
def g_X7_dropHypothesis_0 (n : Nat) (v0 : Nat) (v1 : Nat) (v2 : Int32) (s : st_T) : Option (st_T) :=
  (uA 0 s (gP s v1 8) v2 (gF s v1 5)).bind fun w2 =>
  (gA w2 (gP w2 v1 6) v2).bind fun x4 =>
  if x4 = 0 then
    (g_X5_get n (gP w2 v1 9) v2 (1 : Int32) w2).bind fun x8 =>
    (uA 1 w2 (gP w2 v0 6) x8 (0 : Int32)).bind fun w9 =>
    some w9
  else
    (g_X7_addNeeds n v0 v1 v2 (-1 : Int32) w2).bind fun x5 =>
    some x5
set_option maxHeartbeats 1000000 in
theorem t_X7_dropHypothesis_0 {tg r : Nat → Nat} {h hb : hp_H} {s sb : st_T} {n : Nat} {v0 : Nat} {v1 : Nat} {v2 : Int32} (I : iso tg r h s) (F : isf tg r hb h sb s) (T_v0 : tg v0 = 17) (T_v1 : tg v1 = 10) {res : st_T} (hm : g_X7_dropHypothesis_0 n v0 v1 v2 s = some res) : ∃ h2, f_X7_dropHypothesis_0 n (r v0) (r v1) v2 h = some (h2) ∧ iso tg r h2 res ∧ isf tg r hb h2 sb res := by
  unfold g_X7_dropHypothesis_0 at hm
  unfold f_X7_dropHypothesis_0
  have T1 : tg (gP s v1 8) = 0 := t_tg (c := 0) I T_v1 (by decide) (by decide) rfl (by decide)
  refine tr_eq (t_fR I T_v1 (by decide) (by decide) (by decide)) ?_
  refine tr_eq (t_fI I T_v1 (by decide) (by decide) rfl) ?_
  obtain ⟨w2, hw2, hm⟩ := hp_bd hm
  obtain ⟨_, e2, I, F⟩ := t_sI I F T1 (by decide) rfl hw2
  refine tr_eq e2 ?_
  have T3 : tg (gP w2 v1 6) = 0 := t_tg (c := 0) I T_v1 (by decide) (by decide) rfl (by decide)
  refine tr_eq (t_fR I T_v1 (by decide) (by decide) (by decide)) ?_
  obtain ⟨x4, hx4, hm⟩ := hp_bd hm
  refine tr_eq (t_aI I T3 (by decide) rfl hx4) ?_
  by_cases c10 : x4 = 0
  · rw [if_pos c10] at hm ⊢
    have T6 : tg (gP w2 v0 6) = 1 := t_tg (c := 7) I T_v0 (by decide) (by decide) rfl (by decide)
    refine tr_eq (t_fR I T_v0 (by decide) (by decide) (by decide)) ?_
    have T7 : tg (gP w2 v1 9) = 15 := t_tg (c := 0) I T_v1 (by decide) (by decide) rfl (by decide)
    refine tr_eq (t_fR I T_v1 (by decide) (by decide) (by decide)) ?_
    obtain ⟨x8, hx8, hm⟩ := hp_bd hm
    refine tr_eq (t_X5_get I T7 hx8) ?_
    obtain ⟨w9, hw9, hm⟩ := hp_bd hm
    obtain ⟨_, e2, I, F⟩ := t_sI I F T6 (by decide) rfl hw9
    refine tr_eq e2 ?_
    obtain rfl := Option.some.inj hm
    exact ⟨_, rfl, I, F⟩
  · rw [if_neg c10] at hm ⊢
    obtain ⟨x5, hx5, hm⟩ := hp_bd hm
    obtain ⟨_, e2, I, F⟩ := t_X7_addNeeds I F T_v0 T_v1 hx5
    refine tr_eq e2 ?_
    obtain rfl := Option.some.inj hm
    exact ⟨_, rfl, I, F⟩
def g_X7_dropHypothesis (n : Nat) (v0 : Nat) (v1 : Nat) (v2 : Int32) (s : st_T) : Option (st_T) := g_X7_dropHypothesis_0 n v0 v1 v2 s
theorem t_X7_dropHypothesis {tg r : Nat → Nat} {h hb : hp_H} {s sb : st_T} {n : Nat} {v0 : Nat} {v1 : Nat} {v2 : Int32} (I : iso tg r h s) (F : isf tg r hb h sb s) (T_v0 : tg v0 = 17) (T_v1 : tg v1 = 10) {res : st_T} (hm : g_X7_dropHypothesis n v0 v1 v2 s = some res) : ∃ h2, f_X7_dropHypothesis n (r v0) (r v1) v2 h = some (h2) ∧ iso tg r h2 res ∧ isf tg r hb h2 sb res := by
  unfold g_X7_dropHypothesis at hm
  unfold f_X7_dropHypothesis
  refine tr_eq (t_ck I T_v0 (by decide)) ?_
  exact t_X7_dropHypothesis_0 I F T_v0 T_v1 hm
abbrev eX_X7_closeBlock_24 (x : st_T) (h2 : hp_H) : hp_H := (fun y => h2) x
abbrev sX_X7_closeBlock_24 (x : st_T) : st_T := (fun y => y) x
abbrev eR_X7_closeBlock_24 (x : (Int32 × st_T) ⊕ (st_T)) (h2 : hp_H) : (Int32 × hp_H) ⊕ (hp_H) := Sum.elim (fun y => .inl (y.1, h2)) (fun y => .inr (eX_X7_closeBlock_24 y h2)) x
abbrev sR_X7_closeBlock_24 (x : (Int32 × st_T) ⊕ (st_T)) : st_T := Sum.elim (fun y => y.2) sX_X7_closeBlock_24 x
def g_X7_closeBlock_24 (n : Nat) (v0 : Nat) (v1 : Nat) (v2 : Int32) (s : st_T) : Option ((Int32 × st_T) ⊕ (st_T)) :=
  if (gF s v0 9) ≤ v2 then
    some (.inr s)
  else
    (gA s (gP s v0 8) v2).bind fun x2 =>
    (g_X7_dropHypothesis n v0 v1 x2 s).bind fun x3 =>
    some (.inl ((v2 + (1 : Int32)), x3))
set_option maxHeartbeats 1000000 in
theorem t_X7_closeBlock_24 {tg r : Nat → Nat} {h hb : hp_H} {s sb : st_T} {n : Nat} {v0 : Nat} {v1 : Nat} {v2 : Int32} (I : iso tg r h s) (F : isf tg r hb h sb s) (T_v0 : tg v0 = 17) (T_v1 : tg v1 = 10) {res : (Int32 × st_T) ⊕ (st_T)} (hm : g_X7_closeBlock_24 n v0 v1 v2 s = some res) : ∃ h2, f_X7_closeBlock_24 n (r v0) (r v1) v2 h = some (eR_X7_closeBlock_24 res h2) ∧ iso tg r h2 (sR_X7_closeBlock_24 res) ∧ isf tg r hb h2 sb (sR_X7_closeBlock_24 res) := by
  unfold g_X7_closeBlock_24 at hm
  unfold f_X7_closeBlock_24
  refine tr_eq (t_fI I T_v0 (by decide) (by decide) rfl) ?_
  by_cases c4 : (gF s v0 9) ≤ v2
  · rw [if_pos c4] at hm ⊢
    obtain rfl := Option.some.inj hm
    exact ⟨_, rfl, I, F⟩
  · rw [if_neg c4] at hm ⊢
    have T1 : tg (gP s v0 8) = 0 := t_tg (c := 7) I T_v0 (by decide) (by decide) rfl (by decide)
    refine tr_eq (t_fR I T_v0 (by decide) (by decide) (by decide)) ?_
    obtain ⟨x2, hx2, hm⟩ := hp_bd hm
    refine tr_eq (t_aI I T1 (by decide) rfl hx2) ?_
    obtain ⟨x3, hx3, hm⟩ := hp_bd hm
    obtain ⟨_, e2, I, F⟩ := t_X7_dropHypothesis I F T_v0 T_v1 hx3
    refine tr_eq e2 ?_
    obtain rfl := Option.some.inj hm
    exact ⟨_, rfl, I, F⟩
def gL_X7_closeBlock_24 (n : Nat) (v0 : Nat) (v1 : Nat) (c : Int32 × st_T) : Option ((Int32 × st_T) ⊕ (st_T)) := g_X7_closeBlock_24 n v0 v1 c.1 c.2
theorem tl_X7_closeBlock_24 {tg r : Nat → Nat} {hb : hp_H} {sb : st_T} {n : Nat} {v0 : Nat} {v1 : Nat} (T_v0 : tg v0 = 17) (T_v1 : tg v1 = 10) : ∀ (k : Nat) (c0 : Int32) (h : hp_H) (s : st_T) (x : st_T), iso tg r h s → isf tg r hb h sb s → hp_lp (gL_X7_closeBlock_24 n v0 v1) k (c0, s) = some x → ∃ h2, hp_lp (fL_X7_closeBlock_24 n (r v0) (r v1)) k (c0, h) = some (eX_X7_closeBlock_24 x h2) ∧ iso tg r h2 (sX_X7_closeBlock_24 x) ∧ isf tg r hb h2 sb (sX_X7_closeBlock_24 x) := by
  intro k
  induction k with
  | zero => intro c0 h s x I F hx; exact (hp_lp_0 hx).elim
  | succ k ih =>
    intro c0 h s x I F hx
    obtain ⟨rr, hr, hc⟩ := hp_lp_1 hx
    obtain ⟨h2, e2, I2, F2⟩ := t_X7_closeBlock_24 I F T_v0 T_v1 hr
    rcases hc with ⟨s3, e3, hx3⟩ | e3
    · subst e3
      obtain ⟨h3, e4, I3, F3⟩ := ih _ h2 _ x I2 F2 hx3
      exact ⟨h3, hp_lp_s e2 e4, I3, F3⟩
    · subst e3
      exact ⟨h2, hp_lp_x e2, I2, F2⟩
abbrev eX_X7_closeBlock_72 (x : st_T) (h2 : hp_H) : hp_H := (fun y => h2) x
abbrev sX_X7_closeBlock_72 (x : st_T) : st_T := (fun y => y) x
abbrev eR_X7_closeBlock_72 (x : (Int32 × st_T) ⊕ (st_T)) (h2 : hp_H) : (Int32 × hp_H) ⊕ (hp_H) := Sum.elim (fun y => .inl (y.1, h2)) (fun y => .inr (eX_X7_closeBlock_72 y h2)) x
abbrev sR_X7_closeBlock_72 (x : (Int32 × st_T) ⊕ (st_T)) : st_T := Sum.elim (fun y => y.2) sX_X7_closeBlock_72 x
def g_X7_closeBlock_72 (n : Nat) (v0 : Nat) (v2 : Int32) (s : st_T) : Option ((Int32 × st_T) ⊕ (st_T)) :=
  if (gF s v0 4) ≤ v2 then
    some (.inr s)
  else
    (gA s (gP s v0 3) v2).bind fun x3 =>
    (uA 1 s (gP s v0 5) x3 (0 : Int32)).bind fun w4 =>
    some (.inl ((v2 + (1 : Int32)), w4))
set_option maxHeartbeats 1000000 in
theorem t_X7_closeBlock_72 {tg r : Nat → Nat} {h hb : hp_H} {s sb : st_T} {n : Nat} {v0 : Nat} {v2 : Int32} (I : iso tg r h s) (F : isf tg r hb h sb s) (T_v0 : tg v0 = 17) {res : (Int32 × st_T) ⊕ (st_T)} (hm : g_X7_closeBlock_72 n v0 v2 s = some res) : ∃ h2, f_X7_closeBlock_72 n (r v0) v2 h = some (eR_X7_closeBlock_72 res h2) ∧ iso tg r h2 (sR_X7_closeBlock_72 res) ∧ isf tg r hb h2 sb (sR_X7_closeBlock_72 res) := by
  unfold g_X7_closeBlock_72 at hm
  unfold f_X7_closeBlock_72
  refine tr_eq (t_fI I T_v0 (by decide) (by decide) rfl) ?_
  by_cases c5 : (gF s v0 4) ≤ v2
  · rw [if_pos c5] at hm ⊢
    obtain rfl := Option.some.inj hm
    exact ⟨_, rfl, I, F⟩
  · rw [if_neg c5] at hm ⊢
    have T1 : tg (gP s v0 5) = 1 := t_tg (c := 7) I T_v0 (by decide) (by decide) rfl (by decide)
    refine tr_eq (t_fR I T_v0 (by decide) (by decide) (by decide)) ?_
    have T2 : tg (gP s v0 3) = 0 := t_tg (c := 7) I T_v0 (by decide) (by decide) rfl (by decide)
    refine tr_eq (t_fR I T_v0 (by decide) (by decide) (by decide)) ?_
    obtain ⟨x3, hx3, hm⟩ := hp_bd hm
    refine tr_eq (t_aI I T2 (by decide) rfl hx3) ?_
    obtain ⟨w4, hw4, hm⟩ := hp_bd hm
    obtain ⟨_, e2, I, F⟩ := t_sI I F T1 (by decide) rfl hw4
    refine tr_eq e2 ?_
    obtain rfl := Option.some.inj hm
    exact ⟨_, rfl, I, F⟩
def gL_X7_closeBlock_72 (n : Nat) (v0 : Nat) (c : Int32 × st_T) : Option ((Int32 × st_T) ⊕ (st_T)) := g_X7_closeBlock_72 n v0 c.1 c.2
theorem tl_X7_closeBlock_72 {tg r : Nat → Nat} {hb : hp_H} {sb : st_T} {n : Nat} {v0 : Nat} (T_v0 : tg v0 = 17) : ∀ (k : Nat) (c0 : Int32) (h : hp_H) (s : st_T) (x : st_T), iso tg r h s → isf tg r hb h sb s → hp_lp (gL_X7_closeBlock_72 n v0) k (c0, s) = some x → ∃ h2, hp_lp (fL_X7_closeBlock_72 n (r v0)) k (c0, h) = some (eX_X7_closeBlock_72 x h2) ∧ iso tg r h2 (sX_X7_closeBlock_72 x) ∧ isf tg r hb h2 sb (sX_X7_closeBlock_72 x) := by
  intro k
  induction k with
  | zero => intro c0 h s x I F hx; exact (hp_lp_0 hx).elim
  | succ k ih =>
    intro c0 h s x I F hx
    obtain ⟨rr, hr, hc⟩ := hp_lp_1 hx
    obtain ⟨h2, e2, I2, F2⟩ := t_X7_closeBlock_72 I F T_v0 hr
    rcases hc with ⟨s3, e3, hx3⟩ | e3
    · subst e3
      obtain ⟨h3, e4, I3, F3⟩ := ih _ h2 _ x I2 F2 hx3
      exact ⟨h3, hp_lp_s e2 e4, I3, F3⟩
    · subst e3
      exact ⟨h2, hp_lp_x e2, I2, F2⟩
def g_X7_closeBlock_0 (n : Nat) (v0 : Nat) (v1 : Nat) (s : st_T) : Option (st_T) :=
  (g_X7_dropPairs n v0 s).bind fun x1 =>
  (wF x1 v0 0 ((gF x1 v0 0) - (1 : Int32))).bind fun w2 =>
  (gA w2 (gP w2 v0 2) (gF w2 v0 0)).bind fun x4 =>
  (hp_lp (gL_X7_closeBlock_24 n v0 v1) n (x4, w2)).bind fun x5 =>
  (gA x5 (gP x5 v0 2) (gF x5 v0 0)).bind fun x8 =>
  (wF x5 v0 9 x8).bind fun w9 =>
  (gA w9 (gP w9 v0 1) (gF w9 v0 0)).bind fun x11 =>
  (hp_lp (gL_X7_closeBlock_72 n v0) n (x11, w9)).bind fun x12 =>
  (gA x12 (gP x12 v0 1) (gF x12 v0 0)).bind fun x15 =>
  (wF x12 v0 4 x15).bind fun w16 =>
  some w16
set_option maxHeartbeats 1000000 in
theorem t_X7_closeBlock_0 {tg r : Nat → Nat} {h hb : hp_H} {s sb : st_T} {n : Nat} {v0 : Nat} {v1 : Nat} (I : iso tg r h s) (F : isf tg r hb h sb s) (T_v0 : tg v0 = 17) (T_v1 : tg v1 = 10) {res : st_T} (hm : g_X7_closeBlock_0 n v0 v1 s = some res) : ∃ h2, f_X7_closeBlock_0 n (r v0) (r v1) h = some (h2) ∧ iso tg r h2 res ∧ isf tg r hb h2 sb res := by
  unfold g_X7_closeBlock_0 at hm
  unfold f_X7_closeBlock_0
  obtain ⟨x1, hx1, hm⟩ := hp_bd hm
  obtain ⟨_, e2, I, F⟩ := t_X7_dropPairs I F T_v0 hx1
  refine tr_eq e2 ?_
  refine tr_eq (t_fI I T_v0 (by decide) (by decide) rfl) ?_
  obtain ⟨w2, hw2, hm⟩ := hp_bd hm
  obtain ⟨_, e2, I, F⟩ := t_wF (c := 7) (k := 0) I F T_v0 (by decide) (by decide) rfl hw2
  refine tr_eq e2 ?_
  have T3 : tg (gP w2 v0 2) = 0 := t_tg (c := 7) I T_v0 (by decide) (by decide) rfl (by decide)
  refine tr_eq (t_fR I T_v0 (by decide) (by decide) (by decide)) ?_
  refine tr_eq (t_fI I T_v0 (by decide) (by decide) rfl) ?_
  obtain ⟨x4, hx4, hm⟩ := hp_bd hm
  refine tr_eq (t_aI I T3 (by decide) rfl hx4) ?_
  obtain ⟨x5, hx5, hm⟩ := hp_bd hm
  obtain ⟨_, e2, I, F⟩ := tl_X7_closeBlock_24 T_v0 T_v1 n _ _ _ _ I F hx5
  refine tr_eq e2 ?_
  try dsimp only [eX_X7_closeBlock_24]
  replace I : iso tg _ _ x5 := I
  replace F : isf tg _ _ _ _ x5 := F
  have T7 : tg (gP x5 v0 2) = 0 := t_tg (c := 7) I T_v0 (by decide) (by decide) rfl (by decide)
  refine tr_eq (t_fR I T_v0 (by decide) (by decide) (by decide)) ?_
  refine tr_eq (t_fI I T_v0 (by decide) (by decide) rfl) ?_
  obtain ⟨x8, hx8, hm⟩ := hp_bd hm
  refine tr_eq (t_aI I T7 (by decide) rfl hx8) ?_
  obtain ⟨w9, hw9, hm⟩ := hp_bd hm
  obtain ⟨_, e2, I, F⟩ := t_wF (c := 7) (k := 9) I F T_v0 (by decide) (by decide) rfl hw9
  refine tr_eq e2 ?_
  have T10 : tg (gP w9 v0 1) = 0 := t_tg (c := 7) I T_v0 (by decide) (by decide) rfl (by decide)
  refine tr_eq (t_fR I T_v0 (by decide) (by decide) (by decide)) ?_
  refine tr_eq (t_fI I T_v0 (by decide) (by decide) rfl) ?_
  obtain ⟨x11, hx11, hm⟩ := hp_bd hm
  refine tr_eq (t_aI I T10 (by decide) rfl hx11) ?_
  obtain ⟨x12, hx12, hm⟩ := hp_bd hm
  obtain ⟨_, e2, I, F⟩ := tl_X7_closeBlock_72 T_v0 n _ _ _ _ I F hx12
  refine tr_eq e2 ?_
  try dsimp only [eX_X7_closeBlock_72]
  replace I : iso tg _ _ x12 := I
  replace F : isf tg _ _ _ _ x12 := F
  have T14 : tg (gP x12 v0 1) = 0 := t_tg (c := 7) I T_v0 (by decide) (by decide) rfl (by decide)
  refine tr_eq (t_fR I T_v0 (by decide) (by decide) (by decide)) ?_
  refine tr_eq (t_fI I T_v0 (by decide) (by decide) rfl) ?_
  obtain ⟨x15, hx15, hm⟩ := hp_bd hm
  refine tr_eq (t_aI I T14 (by decide) rfl hx15) ?_
  obtain ⟨w16, hw16, hm⟩ := hp_bd hm
  obtain ⟨_, e2, I, F⟩ := t_wF (c := 7) (k := 4) I F T_v0 (by decide) (by decide) rfl hw16
  refine tr_eq e2 ?_
  obtain rfl := Option.some.inj hm
  exact ⟨_, rfl, I, F⟩
def g_X7_closeBlock (n : Nat) (v0 : Nat) (v1 : Nat) (s : st_T) : Option (st_T) := g_X7_closeBlock_0 n v0 v1 s
theorem t_X7_closeBlock {tg r : Nat → Nat} {h hb : hp_H} {s sb : st_T} {n : Nat} {v0 : Nat} {v1 : Nat} (I : iso tg r h s) (F : isf tg r hb h sb s) (T_v0 : tg v0 = 17) (T_v1 : tg v1 = 10) {res : st_T} (hm : g_X7_closeBlock n v0 v1 s = some res) : ∃ h2, f_X7_closeBlock n (r v0) (r v1) h = some (h2) ∧ iso tg r h2 res ∧ isf tg r hb h2 sb res := by
  unfold g_X7_closeBlock at hm
  unfold f_X7_closeBlock
  refine tr_eq (t_ck I T_v0 (by decide)) ?_
  exact t_X7_closeBlock_0 I F T_v0 T_v1 hm
def g_X7_isActive_0 (n : Nat) (v0 : Nat) (v1 : Int32) (s : st_T) : Option (Int32) :=
  if v1 < 0 then
    some (0 : Int32)
  else
    if (300 : Int32) ≤ v1 then
      some (0 : Int32)
    else
      (gA s (gP s v0 5) v1).bind fun x2 =>
      if x2 = 0 then
        some (0 : Int32)
      else
        some (1 : Int32)
set_option maxHeartbeats 1000000 in
theorem t_X7_isActive_0 {tg r : Nat → Nat} {h : hp_H} {s : st_T} {n : Nat} {v0 : Nat} {v1 : Int32} (I : iso tg r h s) (T_v0 : tg v0 = 17) {res : Int32} (hm : g_X7_isActive_0 n v0 v1 s = some res) : f_X7_isActive_0 n (r v0) v1 h = some res := by
  unfold g_X7_isActive_0 at hm
  unfold f_X7_isActive_0
  by_cases c5 : v1 < 0
  · rw [if_pos c5] at hm ⊢
    obtain rfl := Option.some.inj hm
    rfl
  · rw [if_neg c5] at hm ⊢
    by_cases c4 : (300 : Int32) ≤ v1
    · rw [if_pos c4] at hm ⊢
      obtain rfl := Option.some.inj hm
      rfl
    · rw [if_neg c4] at hm ⊢
      have T1 : tg (gP s v0 5) = 1 := t_tg (c := 7) I T_v0 (by decide) (by decide) rfl (by decide)
      refine tr_eq0 (t_fR I T_v0 (by decide) (by decide) (by decide)) ?_
      obtain ⟨x2, hx2, hm⟩ := hp_bd hm
      refine tr_eq0 (t_aI I T1 (by decide) rfl hx2) ?_
      by_cases c3 : x2 = 0
      · rw [if_pos c3] at hm ⊢
        obtain rfl := Option.some.inj hm
        rfl
      · rw [if_neg c3] at hm ⊢
        obtain rfl := Option.some.inj hm
        rfl
def g_X7_isActive (n : Nat) (v0 : Nat) (v1 : Int32) (s : st_T) : Option (Int32) := g_X7_isActive_0 n v0 v1 s
theorem t_X7_isActive {tg r : Nat → Nat} {h : hp_H} {s : st_T} {n : Nat} {v0 : Nat} {v1 : Int32} (I : iso tg r h s) (T_v0 : tg v0 = 17) {res : Int32} (hm : g_X7_isActive n v0 v1 s = some res) : f_X7_isActive n (r v0) v1 h = some res := by
  unfold g_X7_isActive at hm
  unfold f_X7_isActive
  refine tr_eq0 (t_ck I T_v0 (by decide)) ?_
  exact t_X7_isActive_0 I T_v0 hm
def g_X7_activate_0 (n : Nat) (v0 : Nat) (v1 : Int32) (s : st_T) : Option (st_T) :=
  (uA 1 s (gP s v0 5) v1 (1 : Int32)).bind fun w2 =>
  (uA 0 w2 (gP w2 v0 3) (gF w2 v0 4) v1).bind fun w4 =>
  (wF w4 v0 4 ((gF w4 v0 4) + (1 : Int32))).bind fun w5 =>
  some w5
set_option maxHeartbeats 1000000 in
theorem t_X7_activate_0 {tg r : Nat → Nat} {h hb : hp_H} {s sb : st_T} {n : Nat} {v0 : Nat} {v1 : Int32} (I : iso tg r h s) (F : isf tg r hb h sb s) (T_v0 : tg v0 = 17) {res : st_T} (hm : g_X7_activate_0 n v0 v1 s = some res) : ∃ h2, f_X7_activate_0 n (r v0) v1 h = some (h2) ∧ iso tg r h2 res ∧ isf tg r hb h2 sb res := by
  unfold g_X7_activate_0 at hm
  unfold f_X7_activate_0
  have T1 : tg (gP s v0 5) = 1 := t_tg (c := 7) I T_v0 (by decide) (by decide) rfl (by decide)
  refine tr_eq (t_fR I T_v0 (by decide) (by decide) (by decide)) ?_
  obtain ⟨w2, hw2, hm⟩ := hp_bd hm
  obtain ⟨_, e2, I, F⟩ := t_sI I F T1 (by decide) rfl hw2
  refine tr_eq e2 ?_
  have T3 : tg (gP w2 v0 3) = 0 := t_tg (c := 7) I T_v0 (by decide) (by decide) rfl (by decide)
  refine tr_eq (t_fR I T_v0 (by decide) (by decide) (by decide)) ?_
  refine tr_eq (t_fI I T_v0 (by decide) (by decide) rfl) ?_
  obtain ⟨w4, hw4, hm⟩ := hp_bd hm
  obtain ⟨_, e2, I, F⟩ := t_sI I F T3 (by decide) rfl hw4
  refine tr_eq e2 ?_
  refine tr_eq (t_fI I T_v0 (by decide) (by decide) rfl) ?_
  obtain ⟨w5, hw5, hm⟩ := hp_bd hm
  obtain ⟨_, e2, I, F⟩ := t_wF (c := 7) (k := 4) I F T_v0 (by decide) (by decide) rfl hw5
  refine tr_eq e2 ?_
  obtain rfl := Option.some.inj hm
  exact ⟨_, rfl, I, F⟩
def g_X7_activate (n : Nat) (v0 : Nat) (v1 : Int32) (s : st_T) : Option (st_T) := g_X7_activate_0 n v0 v1 s
theorem t_X7_activate {tg r : Nat → Nat} {h hb : hp_H} {s sb : st_T} {n : Nat} {v0 : Nat} {v1 : Int32} (I : iso tg r h s) (F : isf tg r hb h sb s) (T_v0 : tg v0 = 17) {res : st_T} (hm : g_X7_activate n v0 v1 s = some res) : ∃ h2, f_X7_activate n (r v0) v1 h = some (h2) ∧ iso tg r h2 res ∧ isf tg r hb h2 sb res := by
  unfold g_X7_activate at hm
  unfold f_X7_activate
  refine tr_eq (t_ck I T_v0 (by decide)) ?_
  exact t_X7_activate_0 I F T_v0 hm
def g_X7_addPair_19 (n : Nat) (v0 : Nat) (v3 : Int32) (v4 : Int32) (s : st_T) : Option ((Int32) ⊕ (Int32)) :=
  if (gF s v0 12) ≤ v4 then
    some (.inr v4)
  else
    (gA s (gP s v0 10) v4).bind fun x2 =>
    if v3 ≤ x2 then
      some (.inr v4)
    else
      some (.inl (v4 + (1 : Int32)))
set_option maxHeartbeats 1000000 in
theorem t_X7_addPair_19 {tg r : Nat → Nat} {h : hp_H} {s : st_T} {n : Nat} {v0 : Nat} {v3 : Int32} {v4 : Int32} (I : iso tg r h s) (T_v0 : tg v0 = 17) {res : (Int32) ⊕ (Int32)} (hm : g_X7_addPair_19 n v0 v3 v4 s = some res) : f_X7_addPair_19 n (r v0) v3 v4 h = some res := by
  unfold g_X7_addPair_19 at hm
  unfold f_X7_addPair_19
  refine tr_eq0 (t_fI I T_v0 (by decide) (by decide) rfl) ?_
  by_cases c4 : (gF s v0 12) ≤ v4
  · rw [if_pos c4] at hm ⊢
    obtain rfl := Option.some.inj hm
    rfl
  · rw [if_neg c4] at hm ⊢
    have T1 : tg (gP s v0 10) = 0 := t_tg (c := 7) I T_v0 (by decide) (by decide) rfl (by decide)
    refine tr_eq0 (t_fR I T_v0 (by decide) (by decide) (by decide)) ?_
    obtain ⟨x2, hx2, hm⟩ := hp_bd hm
    refine tr_eq0 (t_aI I T1 (by decide) rfl hx2) ?_
    by_cases c3 : v3 ≤ x2
    · rw [if_pos c3] at hm ⊢
      obtain rfl := Option.some.inj hm
      rfl
    · rw [if_neg c3] at hm ⊢
      obtain rfl := Option.some.inj hm
      rfl
def gL_X7_addPair_19 (n : Nat) (v0 : Nat) (v3 : Int32) (s : st_T) (c : Int32) : Option ((Int32) ⊕ (Int32)) := g_X7_addPair_19 n v0 v3 c s
theorem tl_X7_addPair_19 {tg r : Nat → Nat} {h : hp_H} {s : st_T} {n : Nat} {v0 : Nat} {v3 : Int32} (I : iso tg r h s) (T_v0 : tg v0 = 17) : ∀ (k : Nat) (c : Int32) (x : Int32), hp_lp (gL_X7_addPair_19 n v0 v3 s) k c = some x → hp_lp (fL_X7_addPair_19 n (r v0) v3 h) k c = some x := by
  intro k
  induction k with
  | zero => intro c x hx; exact (hp_lp_0 hx).elim
  | succ k ih =>
    intro c x hx
    obtain ⟨rr, hr, hc⟩ := hp_lp_1 hx
    have e2 := t_X7_addPair_19 I T_v0 hr
    rcases hc with ⟨s3, e3, hx3⟩ | e3
    · subst e3
      exact hp_lp_s e2 (ih _ _ hx3)
    · subst e3
      exact hp_lp_x e2
def g_X7_addPair_67 (n : Nat) (v0 : Nat) (v3 : Int32) (v4 : Int32) (s : st_T) : Option (Int32 × st_T) :=
  if (gF s v0 12) = (200 : Int32) then
    some ((0 : Int32), s)
  else
    (uC s (gP s v0 10) v4 (gP s v0 10) (v4 + (1 : Int32)) ((gF s v0 12) - v4)).bind fun w3 =>
    (uC w3 (gP w3 v0 11) v4 (gP w3 v0 11) (v4 + (1 : Int32)) ((gF w3 v0 12) - v4)).bind fun w6 =>
    (uA 0 w6 (gP w6 v0 10) v4 v3).bind fun w8 =>
    (uA 0 w8 (gP w8 v0 11) v4 (gF w8 v0 0)).bind fun w10 =>
    (wF w10 v0 12 ((gF w10 v0 12) + (1 : Int32))).bind fun w11 =>
    some ((1 : Int32), w11)
set_option maxHeartbeats 1000000 in
theorem t_X7_addPair_67 {tg r : Nat → Nat} {h hb : hp_H} {s sb : st_T} {n : Nat} {v0 : Nat} {v3 : Int32} {v4 : Int32} (I : iso tg r h s) (F : isf tg r hb h sb s) (T_v0 : tg v0 = 17) {res : Int32 × st_T} (hm : g_X7_addPair_67 n v0 v3 v4 s = some res) : ∃ h2, f_X7_addPair_67 n (r v0) v3 v4 h = some ((res.1, h2)) ∧ iso tg r h2 res.2 ∧ isf tg r hb h2 sb res.2 := by
  unfold g_X7_addPair_67 at hm
  unfold f_X7_addPair_67
  refine tr_eq (t_fI I T_v0 (by decide) (by decide) rfl) ?_
  by_cases c12 : (gF s v0 12) = (200 : Int32)
  · rw [if_pos c12] at hm ⊢
    obtain rfl := Option.some.inj hm
    exact ⟨_, rfl, I, F⟩
  · rw [if_neg c12] at hm ⊢
    have T1 : tg (gP s v0 10) = 0 := t_tg (c := 7) I T_v0 (by decide) (by decide) rfl (by decide)
    refine tr_eq (t_fR I T_v0 (by decide) (by decide) (by decide)) ?_
    have T2 : tg (gP s v0 10) = 0 := t_tg (c := 7) I T_v0 (by decide) (by decide) rfl (by decide)
    refine tr_eq (t_fR I T_v0 (by decide) (by decide) (by decide)) ?_
    refine tr_eq (t_fI I T_v0 (by decide) (by decide) rfl) ?_
    obtain ⟨w3, hw3, hm⟩ := hp_bd hm
    obtain ⟨_, e2, I, F⟩ := t_cp I F T2 T2 (by decide) (by decide) hw3
    refine tr_eq e2 ?_
    have T4 : tg (gP w3 v0 11) = 0 := t_tg (c := 7) I T_v0 (by decide) (by decide) rfl (by decide)
    refine tr_eq (t_fR I T_v0 (by decide) (by decide) (by decide)) ?_
    have T5 : tg (gP w3 v0 11) = 0 := t_tg (c := 7) I T_v0 (by decide) (by decide) rfl (by decide)
    refine tr_eq (t_fR I T_v0 (by decide) (by decide) (by decide)) ?_
    refine tr_eq (t_fI I T_v0 (by decide) (by decide) rfl) ?_
    obtain ⟨w6, hw6, hm⟩ := hp_bd hm
    obtain ⟨_, e2, I, F⟩ := t_cp I F T5 T5 (by decide) (by decide) hw6
    refine tr_eq e2 ?_
    have T7 : tg (gP w6 v0 10) = 0 := t_tg (c := 7) I T_v0 (by decide) (by decide) rfl (by decide)
    refine tr_eq (t_fR I T_v0 (by decide) (by decide) (by decide)) ?_
    obtain ⟨w8, hw8, hm⟩ := hp_bd hm
    obtain ⟨_, e2, I, F⟩ := t_sI I F T7 (by decide) rfl hw8
    refine tr_eq e2 ?_
    have T9 : tg (gP w8 v0 11) = 0 := t_tg (c := 7) I T_v0 (by decide) (by decide) rfl (by decide)
    refine tr_eq (t_fR I T_v0 (by decide) (by decide) (by decide)) ?_
    refine tr_eq (t_fI I T_v0 (by decide) (by decide) rfl) ?_
    obtain ⟨w10, hw10, hm⟩ := hp_bd hm
    obtain ⟨_, e2, I, F⟩ := t_sI I F T9 (by decide) rfl hw10
    refine tr_eq e2 ?_
    refine tr_eq (t_fI I T_v0 (by decide) (by decide) rfl) ?_
    obtain ⟨w11, hw11, hm⟩ := hp_bd hm
    obtain ⟨_, e2, I, F⟩ := t_wF (c := 7) (k := 12) I F T_v0 (by decide) (by decide) rfl hw11
    refine tr_eq e2 ?_
    obtain rfl := Option.some.inj hm
    exact ⟨_, rfl, I, F⟩
def g_X7_addPair_45 (n : Nat) (v0 : Nat) (v3 : Int32) (v4 : Int32) (s : st_T) : Option (Int32 × st_T) :=
  if (gF s v0 12) ≤ v4 then
    g_X7_addPair_67 n v0 v3 v4 s
  else
    (gA s (gP s v0 10) v4).bind fun x2 =>
    if x2 = v3 then
      some ((1 : Int32), s)
    else
      g_X7_addPair_67 n v0 v3 v4 s
set_option maxHeartbeats 1000000 in
theorem t_X7_addPair_45 {tg r : Nat → Nat} {h hb : hp_H} {s sb : st_T} {n : Nat} {v0 : Nat} {v3 : Int32} {v4 : Int32} (I : iso tg r h s) (F : isf tg r hb h sb s) (T_v0 : tg v0 = 17) {res : Int32 × st_T} (hm : g_X7_addPair_45 n v0 v3 v4 s = some res) : ∃ h2, f_X7_addPair_45 n (r v0) v3 v4 h = some ((res.1, h2)) ∧ iso tg r h2 res.2 ∧ isf tg r hb h2 sb res.2 := by
  unfold g_X7_addPair_45 at hm
  unfold f_X7_addPair_45
  refine tr_eq (t_fI I T_v0 (by decide) (by decide) rfl) ?_
  by_cases c4 : (gF s v0 12) ≤ v4
  · rw [if_pos c4] at hm ⊢
    exact t_X7_addPair_67 I F T_v0 hm
  · rw [if_neg c4] at hm ⊢
    have T1 : tg (gP s v0 10) = 0 := t_tg (c := 7) I T_v0 (by decide) (by decide) rfl (by decide)
    refine tr_eq (t_fR I T_v0 (by decide) (by decide) (by decide)) ?_
    obtain ⟨x2, hx2, hm⟩ := hp_bd hm
    refine tr_eq (t_aI I T1 (by decide) rfl hx2) ?_
    by_cases c3 : x2 = v3
    · rw [if_pos c3] at hm ⊢
      obtain rfl := Option.some.inj hm
      exact ⟨_, rfl, I, F⟩
    · rw [if_neg c3] at hm ⊢
      exact t_X7_addPair_67 I F T_v0 hm
def g_X7_addPair_0 (n : Nat) (v0 : Nat) (v1 : Int32) (v2 : Int32) (s : st_T) : Option (Int32 × st_T) :=
  (hp_lp (gL_X7_addPair_19 n v0 (((hp_mn v1 v2) * (300 : Int32)) + (hp_mx v1 v2)) s) n (0 : Int32)).bind fun x1 =>
  g_X7_addPair_45 n v0 (((hp_mn v1 v2) * (300 : Int32)) + (hp_mx v1 v2)) x1 s
set_option maxHeartbeats 1000000 in
theorem t_X7_addPair_0 {tg r : Nat → Nat} {h hb : hp_H} {s sb : st_T} {n : Nat} {v0 : Nat} {v1 : Int32} {v2 : Int32} (I : iso tg r h s) (F : isf tg r hb h sb s) (T_v0 : tg v0 = 17) {res : Int32 × st_T} (hm : g_X7_addPair_0 n v0 v1 v2 s = some res) : ∃ h2, f_X7_addPair_0 n (r v0) v1 v2 h = some ((res.1, h2)) ∧ iso tg r h2 res.2 ∧ isf tg r hb h2 sb res.2 := by
  unfold g_X7_addPair_0 at hm
  unfold f_X7_addPair_0
  obtain ⟨x1, hx1, hm⟩ := hp_bd hm
  refine tr_eq (tl_X7_addPair_19 I T_v0 n _ _ hx1) ?_
  exact t_X7_addPair_45 I F T_v0 hm
def g_X7_addPair (n : Nat) (v0 : Nat) (v1 : Int32) (v2 : Int32) (s : st_T) : Option (Int32 × st_T) := g_X7_addPair_0 n v0 v1 v2 s
theorem t_X7_addPair {tg r : Nat → Nat} {h hb : hp_H} {s sb : st_T} {n : Nat} {v0 : Nat} {v1 : Int32} {v2 : Int32} (I : iso tg r h s) (F : isf tg r hb h sb s) (T_v0 : tg v0 = 17) {res : Int32 × st_T} (hm : g_X7_addPair n v0 v1 v2 s = some res) : ∃ h2, f_X7_addPair n (r v0) v1 v2 h = some ((res.1, h2)) ∧ iso tg r h2 res.2 ∧ isf tg r hb h2 sb res.2 := by
  unfold g_X7_addPair at hm
  unfold f_X7_addPair
  refine tr_eq (t_ck I T_v0 (by decide)) ?_
  exact t_X7_addPair_0 I F T_v0 hm
def g_X7_isTyped_0 (n : Nat) (v0 : Nat) (v1 : Int32) (s : st_T) : Option (Int32) :=
  if v1 < 0 then
    some (0 : Int32)
  else
    if (300 : Int32) ≤ v1 then
      some (0 : Int32)
    else
      (gA s (gP s v0 6) v1).bind fun x2 =>
      if x2 = 0 then
        some (0 : Int32)
      else
        some (1 : Int32)
set_option maxHeartbeats 1000000 in
theorem t_X7_isTyped_0 {tg r : Nat → Nat} {h : hp_H} {s : st_T} {n : Nat} {v0 : Nat} {v1 : Int32} (I : iso tg r h s) (T_v0 : tg v0 = 17) {res : Int32} (hm : g_X7_isTyped_0 n v0 v1 s = some res) : f_X7_isTyped_0 n (r v0) v1 h = some res := by
  unfold g_X7_isTyped_0 at hm
  unfold f_X7_isTyped_0
  by_cases c5 : v1 < 0
  · rw [if_pos c5] at hm ⊢
    obtain rfl := Option.some.inj hm
    rfl
  · rw [if_neg c5] at hm ⊢
    by_cases c4 : (300 : Int32) ≤ v1
    · rw [if_pos c4] at hm ⊢
      obtain rfl := Option.some.inj hm
      rfl
    · rw [if_neg c4] at hm ⊢
      have T1 : tg (gP s v0 6) = 1 := t_tg (c := 7) I T_v0 (by decide) (by decide) rfl (by decide)
      refine tr_eq0 (t_fR I T_v0 (by decide) (by decide) (by decide)) ?_
      obtain ⟨x2, hx2, hm⟩ := hp_bd hm
      refine tr_eq0 (t_aI I T1 (by decide) rfl hx2) ?_
      by_cases c3 : x2 = 0
      · rw [if_pos c3] at hm ⊢
        obtain rfl := Option.some.inj hm
        rfl
      · rw [if_neg c3] at hm ⊢
        obtain rfl := Option.some.inj hm
        rfl
def g_X7_isTyped (n : Nat) (v0 : Nat) (v1 : Int32) (s : st_T) : Option (Int32) := g_X7_isTyped_0 n v0 v1 s
theorem t_X7_isTyped {tg r : Nat → Nat} {h : hp_H} {s : st_T} {n : Nat} {v0 : Nat} {v1 : Int32} (I : iso tg r h s) (T_v0 : tg v0 = 17) {res : Int32} (hm : g_X7_isTyped n v0 v1 s = some res) : f_X7_isTyped n (r v0) v1 h = some res := by
  unfold g_X7_isTyped at hm
  unfold f_X7_isTyped
  refine tr_eq0 (t_ck I T_v0 (by decide)) ?_
  exact t_X7_isTyped_0 I T_v0 hm
abbrev eX_X7_makeFrame_9 (x : st_T) (h2 : hp_H) (sz2 sl2 : Nat) : hp_H × Nat × Nat := (fun y => (h2, sz2, sl2)) x
abbrev sX_X7_makeFrame_9 (x : st_T) : st_T := (fun y => y) x
abbrev eR_X7_makeFrame_9 (x : (Int32 × st_T) ⊕ (st_T)) (h2 : hp_H) (sz2 sl2 : Nat) : (Int32 × hp_H × Nat × Nat) ⊕ (hp_H × Nat × Nat) := Sum.elim (fun y => .inl (y.1, h2, sz2, sl2)) (fun y => .inr (eX_X7_makeFrame_9 y h2 sz2 sl2)) x
abbrev sR_X7_makeFrame_9 (x : (Int32 × st_T) ⊕ (st_T)) : st_T := Sum.elim (fun y => y.2) sX_X7_makeFrame_9 x
def g_X7_makeFrame_63 (n : Nat) (v0 : Nat) (v1 : Nat) (v2 : Int32) (v3 : Int32) (s : st_T) : Option ((Int32 × st_T) ⊕ (st_T)) :=
  some (.inl ((v3 + (1 : Int32)), s))
set_option maxHeartbeats 1000000 in
theorem t_X7_makeFrame_63 {tg r : Nat → Nat} {hb : hp_H} {zb c1 c2 : Nat} {r2 : Nat → Nat} {h : hp_H} {s : st_T} {sz sl n : Nat} {v0 : Nat} {v1 : Nat} {v2 : Int32} {v3 : Int32} (Z : iz tg r hb zb c1 c2 r2 h s sz sl) (T_v0 : tg v0 = 17) (T_v1 : tg v1 = 10) {res : (Int32 × st_T) ⊕ (st_T)} (hm : g_X7_makeFrame_63 n v0 v1 v2 v3 s = some res) : ∃ h2 sz2 sl2 r3, f_X7_makeFrame_63 n (r v0) (r v1) v2 v3 h sz sl = some (eR_X7_makeFrame_9 res h2 sz2 sl2) ∧ iz tg r hb zb c1 c2 r3 h2 (sR_X7_makeFrame_9 res) sz2 sl2 := by
  rw [← Z.2.1 v0 (by omega)]
  rw [← Z.2.1 v1 (by omega)]
  unfold g_X7_makeFrame_63 at hm
  unfold f_X7_makeFrame_63
  obtain rfl := Option.some.inj hm
  exact ⟨_, _, _, _, rfl, Z⟩
def g_X7_makeFrame_54 (n : Nat) (v0 : Nat) (v1 : Nat) (v2 : Int32) (v3 : Int32) (v4 : Int32) (s : st_T) : Option ((Int32 × st_T) ⊕ (st_T)) :=
  (g_X5_add n (gP s v1 12) v4 s).bind fun x2 =>
  g_X7_makeFrame_63 n v0 v1 v2 v3 x2
set_option maxHeartbeats 1000000 in
theorem t_X7_makeFrame_54 {tg r : Nat → Nat} {hb : hp_H} {zb c1 c2 : Nat} {r2 : Nat → Nat} {h : hp_H} {s : st_T} {sz sl n : Nat} {v0 : Nat} {v1 : Nat} {v2 : Int32} {v3 : Int32} {v4 : Int32} (Z : iz tg r hb zb c1 c2 r2 h s sz sl) (T_v0 : tg v0 = 17) (T_v1 : tg v1 = 10) {res : (Int32 × st_T) ⊕ (st_T)} (hm : g_X7_makeFrame_54 n v0 v1 v2 v3 v4 s = some res) : ∃ h2 sz2 sl2 r3, f_X7_makeFrame_54 n (r v0) (r v1) v2 v3 v4 h sz sl = some (eR_X7_makeFrame_9 res h2 sz2 sl2) ∧ iz tg r hb zb c1 c2 r3 h2 (sR_X7_makeFrame_9 res) sz2 sl2 := by
  rw [← Z.2.1 v0 (by omega)]
  rw [← Z.2.1 v1 (by omega)]
  unfold g_X7_makeFrame_54 at hm
  unfold f_X7_makeFrame_54
  have T1 : tg (gP s v1 12) = 15 := t_tg (c := 0) Z.1 T_v1 (by decide) (by decide) rfl (by decide)
  refine tr_eq2 (t_fR Z.1 T_v1 (by decide) (by decide) (by decide)) ?_
  try simp only [Z.2.1 v0 (by omega), Z.2.1 v1 (by omega), Z.2.1 (gP s v1 12) (by omega)]
  obtain ⟨x2, hx2, hm⟩ := hp_bd hm
  obtain ⟨_, _, _, _, e2, Z⟩ := t2_X5_add Z T1 hx2
  refine tr_eq2 e2 ?_
  try dsimp only
  try simp only [Z.2.1 v0 (by omega), Z.2.1 v1 (by omega)]
  exact t_X7_makeFrame_63 Z T_v0 T_v1 hm
def g_X7_makeFrame_9 (n : Nat) (v0 : Nat) (v1 : Nat) (v2 : Int32) (v3 : Int32) (s : st_T) : Option ((Int32 × st_T) ⊕ (st_T)) :=
  if (gF s v0 9) ≤ v3 then
    some (.inr s)
  else
    (gA s (gP s v0 8) v3).bind fun x2 =>
    (gA s (gP s v1 6) x2).bind fun x4 =>
    if x4 = (1 : Int32) then
      g_X7_makeFrame_54 n v0 v1 v2 v3 x2 s
    else
      (g_X5_get n (gP s v1 9) x2 (1 : Int32) s).bind fun x7 =>
      (gA s (gP s v0 7) x7).bind fun x8 =>
      if x8 ≤ 0 then
        g_X7_makeFrame_63 n v0 v1 v2 v3 s
      else
        g_X7_makeFrame_54 n v0 v1 v2 v3 x2 s
set_option maxHeartbeats 1000000 in
theorem t_X7_makeFrame_9 {tg r : Nat → Nat} {hb : hp_H} {zb c1 c2 : Nat} {r2 : Nat → Nat} {h : hp_H} {s : st_T} {sz sl n : Nat} {v0 : Nat} {v1 : Nat} {v2 : Int32} {v3 : Int32} (Z : iz tg r hb zb c1 c2 r2 h s sz sl) (T_v0 : tg v0 = 17) (T_v1 : tg v1 = 10) {res : (Int32 × st_T) ⊕ (st_T)} (hm : g_X7_makeFrame_9 n v0 v1 v2 v3 s = some res) : ∃ h2 sz2 sl2 r3, f_X7_makeFrame_9 n (r v0) (r v1) v2 v3 h sz sl = some (eR_X7_makeFrame_9 res h2 sz2 sl2) ∧ iz tg r hb zb c1 c2 r3 h2 (sR_X7_makeFrame_9 res) sz2 sl2 := by
  rw [← Z.2.1 v0 (by omega)]
  rw [← Z.2.1 v1 (by omega)]
  unfold g_X7_makeFrame_9 at hm
  unfold f_X7_makeFrame_9
  refine tr_eq2 (t_fI Z.1 T_v0 (by decide) (by decide) rfl) ?_
  by_cases c11 : (gF s v0 9) ≤ v3
  · rw [if_pos c11] at hm ⊢
    obtain rfl := Option.some.inj hm
    exact ⟨_, _, _, _, rfl, Z⟩
  · rw [if_neg c11] at hm ⊢
    have T1 : tg (gP s v0 8) = 0 := t_tg (c := 7) Z.1 T_v0 (by decide) (by decide) rfl (by decide)
    refine tr_eq2 (t_fR Z.1 T_v0 (by decide) (by decide) (by decide)) ?_
    obtain ⟨x2, hx2, hm⟩ := hp_bd hm
    refine tr_eq2 (t_aI Z.1 T1 (by decide) rfl hx2) ?_
    have T3 : tg (gP s v1 6) = 0 := t_tg (c := 0) Z.1 T_v1 (by decide) (by decide) rfl (by decide)
    refine tr_eq2 (t_fR Z.1 T_v1 (by decide) (by decide) (by decide)) ?_
    obtain ⟨x4, hx4, hm⟩ := hp_bd hm
    refine tr_eq2 (t_aI Z.1 T3 (by decide) rfl hx4) ?_
    by_cases c10 : x4 = (1 : Int32)
    · rw [if_pos c10] at hm ⊢
      try simp only [Z.2.1 v0 (by omega), Z.2.1 v1 (by omega)]
      exact t_X7_makeFrame_54 Z T_v0 T_v1 hm
    · rw [if_neg c10] at hm ⊢
      have T5 : tg (gP s v0 7) = 0 := t_tg (c := 7) Z.1 T_v0 (by decide) (by decide) rfl (by decide)
      refine tr_eq2 (t_fR Z.1 T_v0 (by decide) (by decide) (by decide)) ?_
      have T6 : tg (gP s v1 9) = 15 := t_tg (c := 0) Z.1 T_v1 (by decide) (by decide) rfl (by decide)
      refine tr_eq2 (t_fR Z.1 T_v1 (by decide) (by decide) (by decide)) ?_
      obtain ⟨x7, hx7, hm⟩ := hp_bd hm
      refine tr_eq2 (t_X5_get Z.1 T6 hx7) ?_
      obtain ⟨x8, hx8, hm⟩ := hp_bd hm
      refine tr_eq2 (t_aI Z.1 T5 (by decide) rfl hx8) ?_
      by_cases c9 : x8 ≤ 0
      · rw [if_pos c9] at hm ⊢
        try simp only [Z.2.1 v0 (by omega), Z.2.1 v1 (by omega)]
        exact t_X7_makeFrame_63 Z T_v0 T_v1 hm
      · rw [if_neg c9] at hm ⊢
        try simp only [Z.2.1 v0 (by omega), Z.2.1 v1 (by omega)]
        exact t_X7_makeFrame_54 Z T_v0 T_v1 hm
def gL_X7_makeFrame_9 (n : Nat) (v0 : Nat) (v1 : Nat) (v2 : Int32) (c : Int32 × st_T) : Option ((Int32 × st_T) ⊕ (st_T)) := g_X7_makeFrame_9 n v0 v1 v2 c.1 c.2
theorem tl_X7_makeFrame_9 {tg r : Nat → Nat} {hb : hp_H} {zb c1 c2 n : Nat} {v0 : Nat} {v1 : Nat} {v2 : Int32} (T_v0 : tg v0 = 17) (T_v1 : tg v1 = 10) : ∀ (k : Nat) (k0 : Int32) (r2 : Nat → Nat) (h : hp_H) (s : st_T) (sz sl : Nat) (x : st_T), iz tg r hb zb c1 c2 r2 h s sz sl → hp_lp (gL_X7_makeFrame_9 n v0 v1 v2) k (k0, s) = some x → ∃ h2 sz2 sl2 r3, hp_lp (fL_X7_makeFrame_9 n (r v0) (r v1) v2) k (k0, h, sz, sl) = some (eX_X7_makeFrame_9 x h2 sz2 sl2) ∧ iz tg r hb zb c1 c2 r3 h2 (sX_X7_makeFrame_9 x) sz2 sl2 := by
  intro k
  induction k with
  | zero => intro k0 r2 h s sz sl x Z hx; exact (hp_lp_0 hx).elim
  | succ k ih =>
    intro k0 r2 h s sz sl x Z hx
    obtain ⟨rr, hr, hc⟩ := hp_lp_1 hx
    obtain ⟨h2, sz2, sl2, r3, e2, Z2⟩ := t_X7_makeFrame_9 Z T_v0 T_v1 hr
    rcases hc with ⟨s3, e3, hx3⟩ | e3
    · subst e3
      obtain ⟨h3, sz3, sl3, r4, e4, Z3⟩ := ih _ r3 h2 _ sz2 sl2 x Z2 hx3
      exact ⟨h3, sz3, sl3, r4, hp_lp_s e2 e4, Z3⟩
    · subst e3
      exact ⟨h2, sz2, sl2, r3, hp_lp_x e2, Z2⟩
abbrev eX_X7_makeFrame_88 (x : st_T) (h2 : hp_H) (sz2 sl2 : Nat) : hp_H × Nat × Nat := (fun y => (h2, sz2, sl2)) x
abbrev sX_X7_makeFrame_88 (x : st_T) : st_T := (fun y => y) x
abbrev eR_X7_makeFrame_88 (x : (Int32 × st_T) ⊕ (st_T)) (h2 : hp_H) (sz2 sl2 : Nat) : (Int32 × hp_H × Nat × Nat) ⊕ (hp_H × Nat × Nat) := Sum.elim (fun y => .inl (y.1, h2, sz2, sl2)) (fun y => .inr (eX_X7_makeFrame_88 y h2 sz2 sl2)) x
abbrev sR_X7_makeFrame_88 (x : (Int32 × st_T) ⊕ (st_T)) : st_T := Sum.elim (fun y => y.2) sX_X7_makeFrame_88 x
def g_X7_makeFrame_167 (n : Nat) (v0 : Nat) (v1 : Nat) (v2 : Int32) (v3 : Int32) (v4 : Int32) (s : st_T) : Option ((Int32 × st_T) ⊕ (st_T)) :=
  some (.inl ((v4 + (1 : Int32)), s))
set_option maxHeartbeats 1000000 in
theorem t_X7_makeFrame_167 {tg r : Nat → Nat} {hb : hp_H} {zb c1 c2 : Nat} {r2 : Nat → Nat} {h : hp_H} {s : st_T} {sz sl n : Nat} {v0 : Nat} {v1 : Nat} {v2 : Int32} {v3 : Int32} {v4 : Int32} (Z : iz tg r hb zb c1 c2 r2 h s sz sl) (T_v0 : tg v0 = 17) (T_v1 : tg v1 = 10) {res : (Int32 × st_T) ⊕ (st_T)} (hm : g_X7_makeFrame_167 n v0 v1 v2 v3 v4 s = some res) : ∃ h2 sz2 sl2 r3, f_X7_makeFrame_167 n (r v0) (r v1) v2 v3 v4 h sz sl = some (eR_X7_makeFrame_88 res h2 sz2 sl2) ∧ iz tg r hb zb c1 c2 r3 h2 (sR_X7_makeFrame_88 res) sz2 sl2 := by
  rw [← Z.2.1 v0 (by omega)]
  rw [← Z.2.1 v1 (by omega)]
  unfold g_X7_makeFrame_167 at hm
  unfold f_X7_makeFrame_167
  obtain rfl := Option.some.inj hm
  exact ⟨_, _, _, _, rfl, Z⟩
def g_X7_makeFrame_149 (n : Nat) (v0 : Nat) (v1 : Nat) (v2 : Int32) (v3 : Int32) (v4 : Int32) (s : st_T) : Option ((Int32 × st_T) ⊕ (st_T)) :=
  if v3 = 0 then
    g_X7_makeFrame_167 n v0 v1 v2 v3 v4 s
  else
    (gA s (gP s v0 10) v4).bind fun x3 =>
    (g_X5_add n (gP s v1 14) x3 s).bind fun x4 =>
    g_X7_makeFrame_167 n v0 v1 v2 v3 v4 x4
set_option maxHeartbeats 1000000 in
theorem t_X7_makeFrame_149 {tg r : Nat → Nat} {hb : hp_H} {zb c1 c2 : Nat} {r2 : Nat → Nat} {h : hp_H} {s : st_T} {sz sl n : Nat} {v0 : Nat} {v1 : Nat} {v2 : Int32} {v3 : Int32} {v4 : Int32} (Z : iz tg r hb zb c1 c2 r2 h s sz sl) (T_v0 : tg v0 = 17) (T_v1 : tg v1 = 10) {res : (Int32 × st_T) ⊕ (st_T)} (hm : g_X7_makeFrame_149 n v0 v1 v2 v3 v4 s = some res) : ∃ h2 sz2 sl2 r3, f_X7_makeFrame_149 n (r v0) (r v1) v2 v3 v4 h sz sl = some (eR_X7_makeFrame_88 res h2 sz2 sl2) ∧ iz tg r hb zb c1 c2 r3 h2 (sR_X7_makeFrame_88 res) sz2 sl2 := by
  rw [← Z.2.1 v0 (by omega)]
  rw [← Z.2.1 v1 (by omega)]
  unfold g_X7_makeFrame_149 at hm
  unfold f_X7_makeFrame_149
  by_cases c5 : v3 = 0
  · rw [if_pos c5] at hm ⊢
    try simp only [Z.2.1 v0 (by omega), Z.2.1 v1 (by omega)]
    exact t_X7_makeFrame_167 Z T_v0 T_v1 hm
  · rw [if_neg c5] at hm ⊢
    have T1 : tg (gP s v1 14) = 15 := t_tg (c := 0) Z.1 T_v1 (by decide) (by decide) rfl (by decide)
    refine tr_eq2 (t_fR Z.1 T_v1 (by decide) (by decide) (by decide)) ?_
    have T2 : tg (gP s v0 10) = 0 := t_tg (c := 7) Z.1 T_v0 (by decide) (by decide) rfl (by decide)
    refine tr_eq2 (t_fR Z.1 T_v0 (by decide) (by decide) (by decide)) ?_
    obtain ⟨x3, hx3, hm⟩ := hp_bd hm
    refine tr_eq2 (t_aI Z.1 T2 (by decide) rfl hx3) ?_
    try simp only [Z.2.1 v0 (by omega), Z.2.1 v1 (by omega), Z.2.1 (gP s v1 14) (by omega)]
    obtain ⟨x4, hx4, hm⟩ := hp_bd hm
    obtain ⟨_, _, _, _, e2, Z⟩ := t2_X5_add Z T1 hx4
    refine tr_eq2 e2 ?_
    try dsimp only
    try simp only [Z.2.1 v0 (by omega), Z.2.1 v1 (by omega)]
    exact t_X7_makeFrame_167 Z T_v0 T_v1 hm
def g_X7_makeFrame_88 (n : Nat) (v0 : Nat) (v1 : Nat) (v2 : Int32) (v3 : Int32) (v4 : Int32) (s : st_T) : Option ((Int32 × st_T) ⊕ (st_T)) :=
  if (gF s v0 12) ≤ v4 then
    some (.inr s)
  else
    (gA s (gP s v0 10) v4).bind fun x3 =>
    (gA s (gP s v0 7) (x3 / (300 : Int32))).bind fun x4 =>
    if x4 ≤ 0 then
      g_X7_makeFrame_149 n v0 v1 v2 v3 v4 s
    else
      (gA s (gP s v0 10) v4).bind fun x7 =>
      (gA s (gP s v0 7) (x7 - x7 / (300 : Int32) * (300 : Int32))).bind fun x8 =>
      if x8 ≤ 0 then
        g_X7_makeFrame_149 n v0 v1 v2 v3 v4 s
      else
        (gA s (gP s v0 10) v4).bind fun x11 =>
        (g_X5_add n (gP s v1 13) x11 s).bind fun x12 =>
        g_X7_makeFrame_149 n v0 v1 v2 v3 v4 x12
set_option maxHeartbeats 1000000 in
theorem t_X7_makeFrame_88 {tg r : Nat → Nat} {hb : hp_H} {zb c1 c2 : Nat} {r2 : Nat → Nat} {h : hp_H} {s : st_T} {sz sl n : Nat} {v0 : Nat} {v1 : Nat} {v2 : Int32} {v3 : Int32} {v4 : Int32} (Z : iz tg r hb zb c1 c2 r2 h s sz sl) (T_v0 : tg v0 = 17) (T_v1 : tg v1 = 10) {res : (Int32 × st_T) ⊕ (st_T)} (hm : g_X7_makeFrame_88 n v0 v1 v2 v3 v4 s = some res) : ∃ h2 sz2 sl2 r3, f_X7_makeFrame_88 n (r v0) (r v1) v2 v3 v4 h sz sl = some (eR_X7_makeFrame_88 res h2 sz2 sl2) ∧ iz tg r hb zb c1 c2 r3 h2 (sR_X7_makeFrame_88 res) sz2 sl2 := by
  rw [← Z.2.1 v0 (by omega)]
  rw [← Z.2.1 v1 (by omega)]
  unfold g_X7_makeFrame_88 at hm
  unfold f_X7_makeFrame_88
  refine tr_eq2 (t_fI Z.1 T_v0 (by decide) (by decide) rfl) ?_
  by_cases c15 : (gF s v0 12) ≤ v4
  · rw [if_pos c15] at hm ⊢
    obtain rfl := Option.some.inj hm
    exact ⟨_, _, _, _, rfl, Z⟩
  · rw [if_neg c15] at hm ⊢
    have T1 : tg (gP s v0 7) = 0 := t_tg (c := 7) Z.1 T_v0 (by decide) (by decide) rfl (by decide)
    refine tr_eq2 (t_fR Z.1 T_v0 (by decide) (by decide) (by decide)) ?_
    have T2 : tg (gP s v0 10) = 0 := t_tg (c := 7) Z.1 T_v0 (by decide) (by decide) rfl (by decide)
    refine tr_eq2 (t_fR Z.1 T_v0 (by decide) (by decide) (by decide)) ?_
    obtain ⟨x3, hx3, hm⟩ := hp_bd hm
    refine tr_eq2 (t_aI Z.1 T2 (by decide) rfl hx3) ?_
    obtain ⟨x4, hx4, hm⟩ := hp_bd hm
    refine tr_eq2 (t_aI Z.1 T1 (by decide) rfl hx4) ?_
    by_cases c14 : x4 ≤ 0
    · rw [if_pos c14] at hm ⊢
      try simp only [Z.2.1 v0 (by omega), Z.2.1 v1 (by omega)]
      exact t_X7_makeFrame_149 Z T_v0 T_v1 hm
    · rw [if_neg c14] at hm ⊢
      have T5 : tg (gP s v0 7) = 0 := t_tg (c := 7) Z.1 T_v0 (by decide) (by decide) rfl (by decide)
      refine tr_eq2 (t_fR Z.1 T_v0 (by decide) (by decide) (by decide)) ?_
      have T6 : tg (gP s v0 10) = 0 := t_tg (c := 7) Z.1 T_v0 (by decide) (by decide) rfl (by decide)
      refine tr_eq2 (t_fR Z.1 T_v0 (by decide) (by decide) (by decide)) ?_
      obtain ⟨x7, hx7, hm⟩ := hp_bd hm
      refine tr_eq2 (t_aI Z.1 T6 (by decide) rfl hx7) ?_
      obtain ⟨x8, hx8, hm⟩ := hp_bd hm
      refine tr_eq2 (t_aI Z.1 T5 (by decide) rfl hx8) ?_
      by_cases c13 : x8 ≤ 0
      · rw [if_pos c13] at hm ⊢
        try simp only [Z.2.1 v0 (by omega), Z.2.1 v1 (by omega)]
        exact t_X7_makeFrame_149 Z T_v0 T_v1 hm
      · rw [if_neg c13] at hm ⊢
        have T9 : tg (gP s v1 13) = 15 := t_tg (c := 0) Z.1 T_v1 (by decide) (by decide) rfl (by decide)
        refine tr_eq2 (t_fR Z.1 T_v1 (by decide) (by decide) (by decide)) ?_
        have T10 : tg (gP s v0 10) = 0 := t_tg (c := 7) Z.1 T_v0 (by decide) (by decide) rfl (by decide)
        refine tr_eq2 (t_fR Z.1 T_v0 (by decide) (by decide) (by decide)) ?_
        obtain ⟨x11, hx11, hm⟩ := hp_bd hm
        refine tr_eq2 (t_aI Z.1 T10 (by decide) rfl hx11) ?_
        try simp only [Z.2.1 v0 (by omega), Z.2.1 v1 (by omega), Z.2.1 (gP s v1 13) (by omega)]
        obtain ⟨x12, hx12, hm⟩ := hp_bd hm
        obtain ⟨_, _, _, _, e2, Z⟩ := t2_X5_add Z T9 hx12
        refine tr_eq2 e2 ?_
        try dsimp only
        try simp only [Z.2.1 v0 (by omega), Z.2.1 v1 (by omega)]
        exact t_X7_makeFrame_149 Z T_v0 T_v1 hm
def gL_X7_makeFrame_88 (n : Nat) (v0 : Nat) (v1 : Nat) (v2 : Int32) (v3 : Int32) (c : Int32 × st_T) : Option ((Int32 × st_T) ⊕ (st_T)) := g_X7_makeFrame_88 n v0 v1 v2 v3 c.1 c.2
theorem tl_X7_makeFrame_88 {tg r : Nat → Nat} {hb : hp_H} {zb c1 c2 n : Nat} {v0 : Nat} {v1 : Nat} {v2 : Int32} {v3 : Int32} (T_v0 : tg v0 = 17) (T_v1 : tg v1 = 10) : ∀ (k : Nat) (k0 : Int32) (r2 : Nat → Nat) (h : hp_H) (s : st_T) (sz sl : Nat) (x : st_T), iz tg r hb zb c1 c2 r2 h s sz sl → hp_lp (gL_X7_makeFrame_88 n v0 v1 v2 v3) k (k0, s) = some x → ∃ h2 sz2 sl2 r3, hp_lp (fL_X7_makeFrame_88 n (r v0) (r v1) v2 v3) k (k0, h, sz, sl) = some (eX_X7_makeFrame_88 x h2 sz2 sl2) ∧ iz tg r hb zb c1 c2 r3 h2 (sX_X7_makeFrame_88 x) sz2 sl2 := by
  intro k
  induction k with
  | zero => intro k0 r2 h s sz sl x Z hx; exact (hp_lp_0 hx).elim
  | succ k ih =>
    intro k0 r2 h s sz sl x Z hx
    obtain ⟨rr, hr, hc⟩ := hp_lp_1 hx
    obtain ⟨h2, sz2, sl2, r3, e2, Z2⟩ := t_X7_makeFrame_88 Z T_v0 T_v1 hr
    rcases hc with ⟨s3, e3, hx3⟩ | e3
    · subst e3
      obtain ⟨h3, sz3, sl3, r4, e4, Z3⟩ := ih _ r3 h2 _ sz2 sl2 x Z2 hx3
      exact ⟨h3, sz3, sl3, r4, hp_lp_s e2 e4, Z3⟩
    · subst e3
      exact ⟨h2, sz2, sl2, r3, hp_lp_x e2, Z2⟩
def g_X7_makeFrame_173 (n : Nat) (v0 : Nat) (v1 : Nat) (v2 : Int32) (s : st_T) : Option (st_T) :=
  (g_X7_addNeeds n v0 v1 v2 (-1 : Int32) s).bind fun x1 =>
  some x1
set_option maxHeartbeats 1000000 in
theorem t_X7_makeFrame_173 {tg r : Nat → Nat} {hb : hp_H} {zb c1 c2 : Nat} {r2 : Nat → Nat} {h : hp_H} {s : st_T} {sz sl n : Nat} {v0 : Nat} {v1 : Nat} {v2 : Int32} (Z : iz tg r hb zb c1 c2 r2 h s sz sl) (T_v0 : tg v0 = 17) (T_v1 : tg v1 = 10) {res : st_T} (hm : g_X7_makeFrame_173 n v0 v1 v2 s = some res) : ∃ h2 sz2 sl2 r3, f_X7_makeFrame_173 n (r v0) (r v1) v2 h sz sl = some ((h2, sz2, sl2)) ∧ iz tg r hb zb c1 c2 r3 h2 res sz2 sl2 := by
  rw [← Z.2.1 v0 (by omega)]
  rw [← Z.2.1 v1 (by omega)]
  unfold g_X7_makeFrame_173 at hm
  unfold f_X7_makeFrame_173
  obtain ⟨x1, hx1, hm⟩ := hp_bd hm
  obtain ⟨_, e2, I, F⟩ := t_X7_addNeeds Z.1 isf.rf T_v0 T_v1 hx1
  replace Z := Z.step I F
  refine tr_eq2 e2 ?_
  obtain rfl := Option.some.inj hm
  exact ⟨_, _, _, _, rfl, Z⟩
def g_X7_makeFrame_84 (n : Nat) (v0 : Nat) (v1 : Nat) (v2 : Int32) (s0 : Int32) (s : st_T) : Option (st_T) :=
  (hp_lp (gL_X7_makeFrame_88 n v0 v1 v2 s0) n ((0 : Int32), s)).bind fun x1 =>
  g_X7_makeFrame_173 n v0 v1 v2 x1
set_option maxHeartbeats 1000000 in
theorem t_X7_makeFrame_84 {tg r : Nat → Nat} {hb : hp_H} {zb c1 c2 : Nat} {r2 : Nat → Nat} {h : hp_H} {s : st_T} {sz sl n : Nat} {v0 : Nat} {v1 : Nat} {v2 : Int32} {s0 : Int32} (Z : iz tg r hb zb c1 c2 r2 h s sz sl) (T_v0 : tg v0 = 17) (T_v1 : tg v1 = 10) {res : st_T} (hm : g_X7_makeFrame_84 n v0 v1 v2 s0 s = some res) : ∃ h2 sz2 sl2 r3, f_X7_makeFrame_84 n (r v0) (r v1) v2 s0 h sz sl = some ((h2, sz2, sl2)) ∧ iz tg r hb zb c1 c2 r3 h2 res sz2 sl2 := by
  rw [← Z.2.1 v0 (by omega)]
  rw [← Z.2.1 v1 (by omega)]
  unfold g_X7_makeFrame_84 at hm
  unfold f_X7_makeFrame_84
  obtain ⟨x1, hx1, hm⟩ := hp_bd hm
  try simp only [Z.2.1 v0 (by omega), Z.2.1 v1 (by omega)]
  obtain ⟨_, _, _, _, e2, Z⟩ := tl_X7_makeFrame_88 T_v0 T_v1 n _ _ _ _ _ _ _ Z hx1
  refine tr_eq2 e2 ?_
  try dsimp only [eX_X7_makeFrame_88]
  replace Z : iz tg r hb zb c1 c2 _ _ x1 _ _ := Z
  try simp only [Z.2.1 v0 (by omega), Z.2.1 v1 (by omega)]
  exact t_X7_makeFrame_173 Z T_v0 T_v1 hm
def g_X7_makeFrame_69 (n : Nat) (v0 : Nat) (v1 : Nat) (v2 : Int32) (s : st_T) : Option (st_T) :=
  (gA s (gP s v1 6) v2).bind fun x2 =>
  if x2 = (3 : Int32) then
    g_X7_makeFrame_84 n v0 v1 v2 (1 : Int32) s
  else
    g_X7_makeFrame_84 n v0 v1 v2 (0 : Int32) s
set_option maxHeartbeats 1000000 in
theorem t_X7_makeFrame_69 {tg r : Nat → Nat} {hb : hp_H} {zb c1 c2 : Nat} {r2 : Nat → Nat} {h : hp_H} {s : st_T} {sz sl n : Nat} {v0 : Nat} {v1 : Nat} {v2 : Int32} (Z : iz tg r hb zb c1 c2 r2 h s sz sl) (T_v0 : tg v0 = 17) (T_v1 : tg v1 = 10) {res : st_T} (hm : g_X7_makeFrame_69 n v0 v1 v2 s = some res) : ∃ h2 sz2 sl2 r3, f_X7_makeFrame_69 n (r v0) (r v1) v2 h sz sl = some ((h2, sz2, sl2)) ∧ iz tg r hb zb c1 c2 r3 h2 res sz2 sl2 := by
  rw [← Z.2.1 v0 (by omega)]
  rw [← Z.2.1 v1 (by omega)]
  unfold g_X7_makeFrame_69 at hm
  unfold f_X7_makeFrame_69
  have T1 : tg (gP s v1 6) = 0 := t_tg (c := 0) Z.1 T_v1 (by decide) (by decide) rfl (by decide)
  refine tr_eq2 (t_fR Z.1 T_v1 (by decide) (by decide) (by decide)) ?_
  obtain ⟨x2, hx2, hm⟩ := hp_bd hm
  refine tr_eq2 (t_aI Z.1 T1 (by decide) rfl hx2) ?_
  by_cases c3 : x2 = (3 : Int32)
  · rw [if_pos c3] at hm ⊢
    try simp only [Z.2.1 v0 (by omega), Z.2.1 v1 (by omega)]
    exact t_X7_makeFrame_84 Z T_v0 T_v1 hm
  · rw [if_neg c3] at hm ⊢
    try simp only [Z.2.1 v0 (by omega), Z.2.1 v1 (by omega)]
    exact t_X7_makeFrame_84 Z T_v0 T_v1 hm
def g_X7_makeFrame_0 (n : Nat) (v0 : Nat) (v1 : Nat) (v2 : Int32) (s : st_T) : Option (st_T) :=
  (g_X7_addNeeds n v0 v1 v2 (1 : Int32) s).bind fun x1 =>
  (hp_lp (gL_X7_makeFrame_9 n v0 v1 v2) n ((0 : Int32), x1)).bind fun x2 =>
  g_X7_makeFrame_69 n v0 v1 v2 x2
set_option maxHeartbeats 1000000 in
theorem t_X7_makeFrame_0 {tg r : Nat → Nat} {hb : hp_H} {zb c1 c2 : Nat} {r2 : Nat → Nat} {h : hp_H} {s : st_T} {sz sl n : Nat} {v0 : Nat} {v1 : Nat} {v2 : Int32} (Z : iz tg r hb zb c1 c2 r2 h s sz sl) (T_v0 : tg v0 = 17) (T_v1 : tg v1 = 10) {res : st_T} (hm : g_X7_makeFrame_0 n v0 v1 v2 s = some res) : ∃ h2 sz2 sl2 r3, f_X7_makeFrame_0 n (r v0) (r v1) v2 h sz sl = some ((h2, sz2, sl2)) ∧ iz tg r hb zb c1 c2 r3 h2 res sz2 sl2 := by
  rw [← Z.2.1 v0 (by omega)]
  rw [← Z.2.1 v1 (by omega)]
  unfold g_X7_makeFrame_0 at hm
  unfold f_X7_makeFrame_0
  obtain ⟨x1, hx1, hm⟩ := hp_bd hm
  obtain ⟨_, e2, I, F⟩ := t_X7_addNeeds Z.1 isf.rf T_v0 T_v1 hx1
  replace Z := Z.step I F
  refine tr_eq2 e2 ?_
  obtain ⟨x2, hx2, hm⟩ := hp_bd hm
  try simp only [Z.2.1 v0 (by omega), Z.2.1 v1 (by omega)]
  obtain ⟨_, _, _, _, e2, Z⟩ := tl_X7_makeFrame_9 T_v0 T_v1 n _ _ _ _ _ _ _ Z hx2
  refine tr_eq2 e2 ?_
  try dsimp only [eX_X7_makeFrame_9]
  replace Z : iz tg r hb zb c1 c2 _ _ x2 _ _ := Z
  try simp only [Z.2.1 v0 (by omega), Z.2.1 v1 (by omega)]
  exact t_X7_makeFrame_69 Z T_v0 T_v1 hm
def g_X7_makeFrame (n : Nat) (v0 : Nat) (v1 : Nat) (v2 : Int32) (s : st_T) : Option (st_T) := g_X7_makeFrame_0 n v0 v1 v2 s
theorem t2_X7_makeFrame {tg r : Nat → Nat} {hb : hp_H} {zb c1 c2 : Nat} {r2 : Nat → Nat} {h : hp_H} {s : st_T} {sz sl n : Nat} {v0 : Nat} {v1 : Nat} {v2 : Int32} (Z : iz tg r hb zb c1 c2 r2 h s sz sl) (T_v0 : tg v0 = 17) (T_v1 : tg v1 = 10) {res : st_T} (hm : g_X7_makeFrame n v0 v1 v2 s = some res) : ∃ h2 sz2 sl2 r3, f_X7_makeFrame n (r v0) (r v1) v2 h sz sl = some ((h2, sz2, sl2)) ∧ iz tg r hb zb c1 c2 r3 h2 res sz2 sl2 := by
  unfold g_X7_makeFrame at hm
  unfold f_X7_makeFrame
  have e0 := t_ck (c := 7) Z.1 T_v0 (by decide)
  rw [Z.2.1 v0 (by omega)] at e0
  refine tr_eq2 e0 ?_
  exact t_X7_makeFrame_0 Z T_v0 T_v1 hm
def g_X7_addHypothesis_0 (n : Nat) (v0 : Nat) (v1 : Nat) (v2 : Int32) (s : st_T) : Option (st_T) :=
  (uA 0 s (gP s v1 8) v2 (200 : Int32)).bind fun w2 =>
  (uA 0 w2 (gP w2 v0 8) (gF w2 v0 9) v2).bind fun w4 =>
  (wF w4 v0 9 ((gF w4 v0 9) + (1 : Int32))).bind fun w5 =>
  (gA w5 (gP w5 v1 6) v2).bind fun x7 =>
  if x7 = 0 then
    (g_X5_get n (gP w5 v1 9) v2 (1 : Int32) w5).bind fun x11 =>
    (uA 1 w5 (gP w5 v0 6) x11 (1 : Int32)).bind fun w12 =>
    some w12
  else
    (g_X7_addNeeds n v0 v1 v2 (1 : Int32) w5).bind fun x8 =>
    some x8
set_option maxHeartbeats 1000000 in
theorem t_X7_addHypothesis_0 {tg r : Nat → Nat} {h hb : hp_H} {s sb : st_T} {n : Nat} {v0 : Nat} {v1 : Nat} {v2 : Int32} (I : iso tg r h s) (F : isf tg r hb h sb s) (T_v0 : tg v0 = 17) (T_v1 : tg v1 = 10) {res : st_T} (hm : g_X7_addHypothesis_0 n v0 v1 v2 s = some res) : ∃ h2, f_X7_addHypothesis_0 n (r v0) (r v1) v2 h = some (h2) ∧ iso tg r h2 res ∧ isf tg r hb h2 sb res := by
  unfold g_X7_addHypothesis_0 at hm
  unfold f_X7_addHypothesis_0
  have T1 : tg (gP s v1 8) = 0 := t_tg (c := 0) I T_v1 (by decide) (by decide) rfl (by decide)
  refine tr_eq (t_fR I T_v1 (by decide) (by decide) (by decide)) ?_
  obtain ⟨w2, hw2, hm⟩ := hp_bd hm
  obtain ⟨_, e2, I, F⟩ := t_sI I F T1 (by decide) rfl hw2
  refine tr_eq e2 ?_
  have T3 : tg (gP w2 v0 8) = 0 := t_tg (c := 7) I T_v0 (by decide) (by decide) rfl (by decide)
  refine tr_eq (t_fR I T_v0 (by decide) (by decide) (by decide)) ?_
  refine tr_eq (t_fI I T_v0 (by decide) (by decide) rfl) ?_
  obtain ⟨w4, hw4, hm⟩ := hp_bd hm
  obtain ⟨_, e2, I, F⟩ := t_sI I F T3 (by decide) rfl hw4
  refine tr_eq e2 ?_
  refine tr_eq (t_fI I T_v0 (by decide) (by decide) rfl) ?_
  obtain ⟨w5, hw5, hm⟩ := hp_bd hm
  obtain ⟨_, e2, I, F⟩ := t_wF (c := 7) (k := 9) I F T_v0 (by decide) (by decide) rfl hw5
  refine tr_eq e2 ?_
  have T6 : tg (gP w5 v1 6) = 0 := t_tg (c := 0) I T_v1 (by decide) (by decide) rfl (by decide)
  refine tr_eq (t_fR I T_v1 (by decide) (by decide) (by decide)) ?_
  obtain ⟨x7, hx7, hm⟩ := hp_bd hm
  refine tr_eq (t_aI I T6 (by decide) rfl hx7) ?_
  by_cases c13 : x7 = 0
  · rw [if_pos c13] at hm ⊢
    have T9 : tg (gP w5 v0 6) = 1 := t_tg (c := 7) I T_v0 (by decide) (by decide) rfl (by decide)
    refine tr_eq (t_fR I T_v0 (by decide) (by decide) (by decide)) ?_
    have T10 : tg (gP w5 v1 9) = 15 := t_tg (c := 0) I T_v1 (by decide) (by decide) rfl (by decide)
    refine tr_eq (t_fR I T_v1 (by decide) (by decide) (by decide)) ?_
    obtain ⟨x11, hx11, hm⟩ := hp_bd hm
    refine tr_eq (t_X5_get I T10 hx11) ?_
    obtain ⟨w12, hw12, hm⟩ := hp_bd hm
    obtain ⟨_, e2, I, F⟩ := t_sI I F T9 (by decide) rfl hw12
    refine tr_eq e2 ?_
    obtain rfl := Option.some.inj hm
    exact ⟨_, rfl, I, F⟩
  · rw [if_neg c13] at hm ⊢
    obtain ⟨x8, hx8, hm⟩ := hp_bd hm
    obtain ⟨_, e2, I, F⟩ := t_X7_addNeeds I F T_v0 T_v1 hx8
    refine tr_eq e2 ?_
    obtain rfl := Option.some.inj hm
    exact ⟨_, rfl, I, F⟩
def g_X7_addHypothesis (n : Nat) (v0 : Nat) (v1 : Nat) (v2 : Int32) (s : st_T) : Option (st_T) := g_X7_addHypothesis_0 n v0 v1 v2 s
theorem t_X7_addHypothesis {tg r : Nat → Nat} {h hb : hp_H} {s sb : st_T} {n : Nat} {v0 : Nat} {v1 : Nat} {v2 : Int32} (I : iso tg r h s) (F : isf tg r hb h sb s) (T_v0 : tg v0 = 17) (T_v1 : tg v1 = 10) {res : st_T} (hm : g_X7_addHypothesis n v0 v1 v2 s = some res) : ∃ h2, f_X7_addHypothesis n (r v0) (r v1) v2 h = some (h2) ∧ iso tg r h2 res ∧ isf tg r hb h2 sb res := by
  unfold g_X7_addHypothesis at hm
  unfold f_X7_addHypothesis
  refine tr_eq (t_ck I T_v0 (by decide)) ?_
  exact t_X7_addHypothesis_0 I F T_v0 T_v1 hm
