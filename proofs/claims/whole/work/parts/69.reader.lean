def g_X4_namedByToken_0 (n : Nat) (v0 : Nat) (s : st_T) : Option (Int32) :=
  (g_X2_lookUp n (gP s (gP s v0 1) 0) (gP s (gP s v0 1) 1) (gF s (gP s v0 2) 0) ((gF s (gP s v0 2) 1) - (gF s (gP s v0 2) 0)) s).bind fun x8 =>
  some x8
set_option maxHeartbeats 1000000 in
theorem t_X4_namedByToken_0 {tg r : Nat → Nat} {h : hp_H} {s : st_T} {n : Nat} {v0 : Nat} (I : iso tg r h s) (T_v0 : tg v0 = 14) {res : Int32} (hm : g_X4_namedByToken_0 n v0 s = some res) : f_X4_namedByToken_0 n (r v0) h = some res := by
  unfold g_X4_namedByToken_0 at hm
  unfold f_X4_namedByToken_0
  have T1 : tg (gP s v0 1) = 10 := t_tg (c := 4) I T_v0 (by decide) (by decide) rfl (by decide)
  refine tr_eq0 (t_fR I T_v0 (by decide) (by decide) (by decide)) ?_
  have T2 : tg (gP s (gP s v0 1) 0) = 12 := t_tg (c := 0) I T1 (by decide) (by decide) rfl (by decide)
  refine tr_eq0 (t_fR I T1 (by decide) (by decide) (by decide)) ?_
  have T3 : tg (gP s v0 1) = 10 := t_tg (c := 4) I T_v0 (by decide) (by decide) rfl (by decide)
  refine tr_eq0 (t_fR I T_v0 (by decide) (by decide) (by decide)) ?_
  have T4 : tg (gP s (gP s v0 1) 1) = 1 := t_tg (c := 0) I T3 (by decide) (by decide) rfl (by decide)
  refine tr_eq0 (t_fR I T3 (by decide) (by decide) (by decide)) ?_
  have T5 : tg (gP s v0 2) = 16 := t_tg (c := 4) I T_v0 (by decide) (by decide) rfl (by decide)
  refine tr_eq0 (t_fR I T_v0 (by decide) (by decide) (by decide)) ?_
  refine tr_eq0 (t_fI I T5 (by decide) (by decide) rfl) ?_
  have T6 : tg (gP s v0 2) = 16 := t_tg (c := 4) I T_v0 (by decide) (by decide) rfl (by decide)
  refine tr_eq0 (t_fR I T_v0 (by decide) (by decide) (by decide)) ?_
  refine tr_eq0 (t_fI I T6 (by decide) (by decide) rfl) ?_
  have T7 : tg (gP s v0 2) = 16 := t_tg (c := 4) I T_v0 (by decide) (by decide) rfl (by decide)
  refine tr_eq0 (t_fR I T_v0 (by decide) (by decide) (by decide)) ?_
  refine tr_eq0 (t_fI I T7 (by decide) (by decide) rfl) ?_
  obtain ⟨x8, hx8, hm⟩ := hp_bd hm
  refine tr_eq0 (t_X2_lookUp I T2 T4 hx8) ?_
  obtain rfl := Option.some.inj hm
  rfl
def g_X4_namedByToken (n : Nat) (v0 : Nat) (s : st_T) : Option (Int32) := g_X4_namedByToken_0 n v0 s
theorem t_X4_namedByToken {tg r : Nat → Nat} {h : hp_H} {s : st_T} {n : Nat} {v0 : Nat} (I : iso tg r h s) (T_v0 : tg v0 = 14) {res : Int32} (hm : g_X4_namedByToken n v0 s = some res) : f_X4_namedByToken n (r v0) h = some res := by
  unfold g_X4_namedByToken at hm
  unfold f_X4_namedByToken
  refine tr_eq0 (t_ck I T_v0 (by decide)) ?_
  exact t_X4_namedByToken_0 I T_v0 hm
def g_X4_takeLabel_0 (n : Nat) (v0 : Nat) (s : st_T) : Option (Int32 × st_T) :=
  if (gF s (gP s v0 1) 5) = (200 : Int32) then
    some ((7 : Int32), s)
  else
    (g_X6_isLabel n (gP s v0 2) s).bind fun x3 =>
    if x3 = 0 then
      some ((4 : Int32), s)
    else
      (g_X4_namedByToken n v0 s).bind fun x4 =>
      if x4 = (-1 : Int32) then
        (wF s v0 7 (gF s (gP s v0 2) 0)).bind fun w6 =>
        (wF w6 v0 8 ((gF w6 (gP w6 v0 2) 1) - (gF w6 (gP w6 v0 2) 0))).bind fun w9 =>
        (wF w9 v0 4 (1 : Int32)).bind fun w10 =>
        some ((0 : Int32), w10)
      else
        some ((4 : Int32), s)
set_option maxHeartbeats 1000000 in
theorem t_X4_takeLabel_0 {tg r : Nat → Nat} {h hb : hp_H} {s sb : st_T} {n : Nat} {v0 : Nat} (I : iso tg r h s) (F : isf tg r hb h sb s) (T_v0 : tg v0 = 14) {res : Int32 × st_T} (hm : g_X4_takeLabel_0 n v0 s = some res) : ∃ h2, f_X4_takeLabel_0 n (r v0) h = some ((res.1, h2)) ∧ iso tg r h2 res.2 ∧ isf tg r hb h2 sb res.2 := by
  unfold g_X4_takeLabel_0 at hm
  unfold f_X4_takeLabel_0
  have T1 : tg (gP s v0 1) = 10 := t_tg (c := 4) I T_v0 (by decide) (by decide) rfl (by decide)
  refine tr_eq (t_fR I T_v0 (by decide) (by decide) (by decide)) ?_
  refine tr_eq (t_fI I T1 (by decide) (by decide) rfl) ?_
  by_cases c13 : (gF s (gP s v0 1) 5) = (200 : Int32)
  · rw [if_pos c13] at hm ⊢
    obtain rfl := Option.some.inj hm
    exact ⟨_, rfl, I, F⟩
  · rw [if_neg c13] at hm ⊢
    have T2 : tg (gP s v0 2) = 16 := t_tg (c := 4) I T_v0 (by decide) (by decide) rfl (by decide)
    refine tr_eq (t_fR I T_v0 (by decide) (by decide) (by decide)) ?_
    obtain ⟨x3, hx3, hm⟩ := hp_bd hm
    refine tr_eq (t_X6_isLabel I T2 hx3) ?_
    by_cases c12 : x3 = 0
    · rw [if_pos c12] at hm ⊢
      obtain rfl := Option.some.inj hm
      exact ⟨_, rfl, I, F⟩
    · rw [if_neg c12] at hm ⊢
      obtain ⟨x4, hx4, hm⟩ := hp_bd hm
      refine tr_eq (t_X4_namedByToken I T_v0 hx4) ?_
      by_cases c11 : x4 = (-1 : Int32)
      · rw [if_pos c11] at hm ⊢
        have T5 : tg (gP s v0 2) = 16 := t_tg (c := 4) I T_v0 (by decide) (by decide) rfl (by decide)
        refine tr_eq (t_fR I T_v0 (by decide) (by decide) (by decide)) ?_
        refine tr_eq (t_fI I T5 (by decide) (by decide) rfl) ?_
        obtain ⟨w6, hw6, hm⟩ := hp_bd hm
        obtain ⟨_, e2, I, F⟩ := t_wF (c := 4) (k := 7) I F T_v0 (by decide) (by decide) rfl hw6
        refine tr_eq e2 ?_
        have T7 : tg (gP w6 v0 2) = 16 := t_tg (c := 4) I T_v0 (by decide) (by decide) rfl (by decide)
        refine tr_eq (t_fR I T_v0 (by decide) (by decide) (by decide)) ?_
        refine tr_eq (t_fI I T7 (by decide) (by decide) rfl) ?_
        have T8 : tg (gP w6 v0 2) = 16 := t_tg (c := 4) I T_v0 (by decide) (by decide) rfl (by decide)
        refine tr_eq (t_fR I T_v0 (by decide) (by decide) (by decide)) ?_
        refine tr_eq (t_fI I T8 (by decide) (by decide) rfl) ?_
        obtain ⟨w9, hw9, hm⟩ := hp_bd hm
        obtain ⟨_, e2, I, F⟩ := t_wF (c := 4) (k := 8) I F T_v0 (by decide) (by decide) rfl hw9
        refine tr_eq e2 ?_
        obtain ⟨w10, hw10, hm⟩ := hp_bd hm
        obtain ⟨_, e2, I, F⟩ := t_wF (c := 4) (k := 4) I F T_v0 (by decide) (by decide) rfl hw10
        refine tr_eq e2 ?_
        obtain rfl := Option.some.inj hm
        exact ⟨_, rfl, I, F⟩
      · rw [if_neg c11] at hm ⊢
        obtain rfl := Option.some.inj hm
        exact ⟨_, rfl, I, F⟩
def g_X4_takeLabel (n : Nat) (v0 : Nat) (s : st_T) : Option (Int32 × st_T) := g_X4_takeLabel_0 n v0 s
theorem t_X4_takeLabel {tg r : Nat → Nat} {h hb : hp_H} {s sb : st_T} {n : Nat} {v0 : Nat} (I : iso tg r h s) (F : isf tg r hb h sb s) (T_v0 : tg v0 = 14) {res : Int32 × st_T} (hm : g_X4_takeLabel n v0 s = some res) : ∃ h2, f_X4_takeLabel n (r v0) h = some ((res.1, h2)) ∧ iso tg r h2 res.2 ∧ isf tg r hb h2 sb res.2 := by
  unfold g_X4_takeLabel at hm
  unfold f_X4_takeLabel
  refine tr_eq (t_ck I T_v0 (by decide)) ?_
  exact t_X4_takeLabel_0 I F T_v0 hm
def g_X4_begin_0 (n : Nat) (v0 : Nat) (v1 : Int32) (s : st_T) : Option (Int32 × st_T) :=
  (wF s v0 4 v1).bind fun w1 =>
  (wF w1 v0 9 (0 : Int32)).bind fun w2 =>
  some ((0 : Int32), w2)
set_option maxHeartbeats 1000000 in
theorem t_X4_begin_0 {tg r : Nat → Nat} {h hb : hp_H} {s sb : st_T} {n : Nat} {v0 : Nat} {v1 : Int32} (I : iso tg r h s) (F : isf tg r hb h sb s) (T_v0 : tg v0 = 14) {res : Int32 × st_T} (hm : g_X4_begin_0 n v0 v1 s = some res) : ∃ h2, f_X4_begin_0 n (r v0) v1 h = some ((res.1, h2)) ∧ iso tg r h2 res.2 ∧ isf tg r hb h2 sb res.2 := by
  unfold g_X4_begin_0 at hm
  unfold f_X4_begin_0
  obtain ⟨w1, hw1, hm⟩ := hp_bd hm
  obtain ⟨_, e2, I, F⟩ := t_wF (c := 4) (k := 4) I F T_v0 (by decide) (by decide) rfl hw1
  refine tr_eq e2 ?_
  obtain ⟨w2, hw2, hm⟩ := hp_bd hm
  obtain ⟨_, e2, I, F⟩ := t_wF (c := 4) (k := 9) I F T_v0 (by decide) (by decide) rfl hw2
  refine tr_eq e2 ?_
  obtain rfl := Option.some.inj hm
  exact ⟨_, rfl, I, F⟩
def g_X4_begin (n : Nat) (v0 : Nat) (v1 : Int32) (s : st_T) : Option (Int32 × st_T) := g_X4_begin_0 n v0 v1 s
theorem t_X4_begin {tg r : Nat → Nat} {h hb : hp_H} {s sb : st_T} {n : Nat} {v0 : Nat} {v1 : Int32} (I : iso tg r h s) (F : isf tg r hb h sb s) (T_v0 : tg v0 = 14) {res : Int32 × st_T} (hm : g_X4_begin n v0 v1 s = some res) : ∃ h2, f_X4_begin n (r v0) v1 h = some ((res.1, h2)) ∧ iso tg r h2 res.2 ∧ isf tg r hb h2 sb res.2 := by
  unfold g_X4_begin at hm
  unfold f_X4_begin
  refine tr_eq (t_ck I T_v0 (by decide)) ?_
  exact t_X4_begin_0 I F T_v0 hm
def g_X4_takeOutside_84 (n : Nat) (v0 : Nat) (s : st_T) : Option (Int32 × st_T) :=
  (g_X4_begin n v0 (2 : Int32) s).bind fun x1 =>
  some (x1.1, x1.2)
set_option maxHeartbeats 1000000 in
theorem t_X4_takeOutside_84 {tg r : Nat → Nat} {h hb : hp_H} {s sb : st_T} {n : Nat} {v0 : Nat} (I : iso tg r h s) (F : isf tg r hb h sb s) (T_v0 : tg v0 = 14) {res : Int32 × st_T} (hm : g_X4_takeOutside_84 n v0 s = some res) : ∃ h2, f_X4_takeOutside_84 n (r v0) h = some ((res.1, h2)) ∧ iso tg r h2 res.2 ∧ isf tg r hb h2 sb res.2 := by
  unfold g_X4_takeOutside_84 at hm
  unfold f_X4_takeOutside_84
  obtain ⟨x1, hx1, hm⟩ := hp_bd hm
  obtain ⟨_, e2, I, F⟩ := t_X4_begin I F T_v0 hx1
  refine tr_eq e2 ?_
  try dsimp only
  obtain rfl := Option.some.inj hm
  exact ⟨_, rfl, I, F⟩
def g_X4_takeOutside_64 (n : Nat) (v0 : Nat) (s0 : Int32) (s1 : Nat) (s : st_T) : Option (Int32 × st_T) :=
  (hp_bz s0).bind fun _ =>
  (wF s s1 5 s0).bind fun w2 =>
  if (gF w2 v0 5) = 0 then
    if (gF w2 (gP w2 v0 3) 0) = 0 then
      g_X4_takeOutside_84 n v0 w2
    else
      some ((3 : Int32), w2)
  else
    g_X4_takeOutside_84 n v0 w2
set_option maxHeartbeats 1000000 in
theorem t_X4_takeOutside_64 {tg r : Nat → Nat} {h hb : hp_H} {s sb : st_T} {n : Nat} {v0 : Nat} {s0 : Int32} {s1 : Nat} (I : iso tg r h s) (F : isf tg r hb h sb s) (T_v0 : tg v0 = 14) (T_s1 : tg s1 = 14) {res : Int32 × st_T} (hm : g_X4_takeOutside_64 n v0 s0 s1 s = some res) : ∃ h2, f_X4_takeOutside_64 n (r v0) s0 (r s1) h = some ((res.1, h2)) ∧ iso tg r h2 res.2 ∧ isf tg r hb h2 sb res.2 := by
  unfold g_X4_takeOutside_64 at hm
  unfold f_X4_takeOutside_64
  obtain ⟨_, hu1, hm⟩ := hp_bd hm
  refine tr_eq hu1 ?_
  obtain ⟨w2, hw2, hm⟩ := hp_bd hm
  obtain ⟨_, e2, I, F⟩ := t_wF (c := 4) (k := 5) I F T_s1 (by decide) (by decide) rfl hw2
  refine tr_eq e2 ?_
  refine tr_eq (t_fI I T_v0 (by decide) (by decide) rfl) ?_
  by_cases c5 : (gF w2 v0 5) = 0
  · rw [if_pos c5] at hm ⊢
    have T3 : tg (gP w2 v0 3) = 17 := t_tg (c := 4) I T_v0 (by decide) (by decide) rfl (by decide)
    refine tr_eq (t_fR I T_v0 (by decide) (by decide) (by decide)) ?_
    refine tr_eq (t_fI I T3 (by decide) (by decide) rfl) ?_
    by_cases c4 : (gF w2 (gP w2 v0 3) 0) = 0
    · rw [if_pos c4] at hm ⊢
      exact t_X4_takeOutside_84 I F T_v0 hm
    · rw [if_neg c4] at hm ⊢
      obtain rfl := Option.some.inj hm
      exact ⟨_, rfl, I, F⟩
  · rw [if_neg c5] at hm ⊢
    exact t_X4_takeOutside_84 I F T_v0 hm
def g_X4_takeOutside_52 (n : Nat) (v0 : Nat) (v1 : Int32) (s : st_T) : Option (Int32 × st_T) :=
  if v1 = (118 : Int32) then
    g_X4_takeOutside_64 n v0 (1 : Int32) v0 s
  else
    g_X4_takeOutside_64 n v0 (0 : Int32) v0 s
set_option maxHeartbeats 1000000 in
theorem t_X4_takeOutside_52 {tg r : Nat → Nat} {h hb : hp_H} {s sb : st_T} {n : Nat} {v0 : Nat} {v1 : Int32} (I : iso tg r h s) (F : isf tg r hb h sb s) (T_v0 : tg v0 = 14) {res : Int32 × st_T} (hm : g_X4_takeOutside_52 n v0 v1 s = some res) : ∃ h2, f_X4_takeOutside_52 n (r v0) v1 h = some ((res.1, h2)) ∧ iso tg r h2 res.2 ∧ isf tg r hb h2 sb res.2 := by
  unfold g_X4_takeOutside_52 at hm
  unfold f_X4_takeOutside_52
  by_cases c1 : v1 = (118 : Int32)
  · rw [if_pos c1] at hm ⊢
    exact t_X4_takeOutside_64 I F T_v0 T_v0 hm
  · rw [if_neg c1] at hm ⊢
    exact t_X4_takeOutside_64 I F T_v0 T_v0 hm
def g_X4_takeOutside_0 (n : Nat) (v0 : Nat) (v1 : Int32) (s : st_T) : Option (Int32 × st_T) :=
  if v1 = (99 : Int32) then
    g_X4_takeOutside_52 n v0 v1 s
  else if v1 = (100 : Int32) then
    (g_X4_begin n v0 (3 : Int32) s).bind fun x3 =>
    some (x3.1, x3.2)
  else if v1 = (118 : Int32) then
    g_X4_takeOutside_52 n v0 v1 s
  else if v1 = (123 : Int32) then
    (g_X7_openBlock n (gP s v0 3) s).bind fun x7 =>
    if x7.1 = 0 then
      some ((7 : Int32), x7.2)
    else
      some ((0 : Int32), x7.2)
  else if v1 = (125 : Int32) then
    if (gF s (gP s v0 3) 0) = 0 then
      some ((3 : Int32), s)
    else
      (g_X7_closeBlock n (gP s v0 3) (gP s v0 1) s).bind fun x13 =>
      some ((0 : Int32), x13)
  else 
    some ((3 : Int32), s)
set_option maxHeartbeats 1000000 in
theorem t_X4_takeOutside_0 {tg r : Nat → Nat} {h hb : hp_H} {s sb : st_T} {n : Nat} {v0 : Nat} {v1 : Int32} (I : iso tg r h s) (F : isf tg r hb h sb s) (T_v0 : tg v0 = 14) {res : Int32 × st_T} (hm : g_X4_takeOutside_0 n v0 v1 s = some res) : ∃ h2, f_X4_takeOutside_0 n (r v0) v1 h = some ((res.1, h2)) ∧ iso tg r h2 res.2 ∧ isf tg r hb h2 sb res.2 := by
  unfold g_X4_takeOutside_0 at hm
  unfold f_X4_takeOutside_0
  by_cases c1 : v1 = (99 : Int32)
  · rw [if_pos c1] at hm ⊢
    exact t_X4_takeOutside_52 I F T_v0 hm
  rw [if_neg c1] at hm ⊢
  by_cases c2 : v1 = (100 : Int32)
  · rw [if_pos c2] at hm ⊢
    obtain ⟨x3, hx3, hm⟩ := hp_bd hm
    obtain ⟨_, e2, I, F⟩ := t_X4_begin I F T_v0 hx3
    refine tr_eq e2 ?_
    try dsimp only
    obtain rfl := Option.some.inj hm
    exact ⟨_, rfl, I, F⟩
  rw [if_neg c2] at hm ⊢
  by_cases c4 : v1 = (118 : Int32)
  · rw [if_pos c4] at hm ⊢
    exact t_X4_takeOutside_52 I F T_v0 hm
  rw [if_neg c4] at hm ⊢
  by_cases c5 : v1 = (123 : Int32)
  · rw [if_pos c5] at hm ⊢
    have T6 : tg (gP s v0 3) = 17 := t_tg (c := 4) I T_v0 (by decide) (by decide) rfl (by decide)
    refine tr_eq (t_fR I T_v0 (by decide) (by decide) (by decide)) ?_
    obtain ⟨x7, hx7, hm⟩ := hp_bd hm
    obtain ⟨_, e2, I, F⟩ := t_X7_openBlock I F T6 hx7
    refine tr_eq e2 ?_
    try dsimp only
    by_cases c8 : x7.1 = 0
    · rw [if_pos c8] at hm ⊢
      obtain rfl := Option.some.inj hm
      exact ⟨_, rfl, I, F⟩
    · rw [if_neg c8] at hm ⊢
      obtain rfl := Option.some.inj hm
      exact ⟨_, rfl, I, F⟩
  rw [if_neg c5] at hm ⊢
  by_cases c9 : v1 = (125 : Int32)
  · rw [if_pos c9] at hm ⊢
    have T10 : tg (gP s v0 3) = 17 := t_tg (c := 4) I T_v0 (by decide) (by decide) rfl (by decide)
    refine tr_eq (t_fR I T_v0 (by decide) (by decide) (by decide)) ?_
    refine tr_eq (t_fI I T10 (by decide) (by decide) rfl) ?_
    by_cases c14 : (gF s (gP s v0 3) 0) = 0
    · rw [if_pos c14] at hm ⊢
      obtain rfl := Option.some.inj hm
      exact ⟨_, rfl, I, F⟩
    · rw [if_neg c14] at hm ⊢
      have T11 : tg (gP s v0 3) = 17 := t_tg (c := 4) I T_v0 (by decide) (by decide) rfl (by decide)
      refine tr_eq (t_fR I T_v0 (by decide) (by decide) (by decide)) ?_
      have T12 : tg (gP s v0 1) = 10 := t_tg (c := 4) I T_v0 (by decide) (by decide) rfl (by decide)
      refine tr_eq (t_fR I T_v0 (by decide) (by decide) (by decide)) ?_
      obtain ⟨x13, hx13, hm⟩ := hp_bd hm
      obtain ⟨_, e2, I, F⟩ := t_X7_closeBlock I F T11 T12 hx13
      refine tr_eq e2 ?_
      obtain rfl := Option.some.inj hm
      exact ⟨_, rfl, I, F⟩
  rw [if_neg c9] at hm ⊢
  obtain rfl := Option.some.inj hm
  exact ⟨_, rfl, I, F⟩
def g_X4_takeOutside (n : Nat) (v0 : Nat) (v1 : Int32) (s : st_T) : Option (Int32 × st_T) := g_X4_takeOutside_0 n v0 v1 s
theorem t_X4_takeOutside {tg r : Nat → Nat} {h hb : hp_H} {s sb : st_T} {n : Nat} {v0 : Nat} {v1 : Int32} (I : iso tg r h s) (F : isf tg r hb h sb s) (T_v0 : tg v0 = 14) {res : Int32 × st_T} (hm : g_X4_takeOutside n v0 v1 s = some res) : ∃ h2, f_X4_takeOutside n (r v0) v1 h = some ((res.1, h2)) ∧ iso tg r h2 res.2 ∧ isf tg r hb h2 sb res.2 := by
  unfold g_X4_takeOutside at hm
  unfold f_X4_takeOutside
  refine tr_eq (t_ck I T_v0 (by decide)) ?_
  exact t_X4_takeOutside_0 I F T_v0 hm
def g_X4_takeKind_0 (n : Nat) (v0 : Nat) (v1 : Int32) (s : st_T) : Option (Int32 × st_T) :=
  if v1 = (97 : Int32) then
    (wF s v0 6 (2 : Int32)).bind fun w2 =>
    (g_X4_begin n v0 (4 : Int32) w2).bind fun x3 =>
    some (x3.1, x3.2)
  else if v1 = (101 : Int32) then
    (wF s v0 6 (1 : Int32)).bind fun w5 =>
    (g_X4_begin n v0 (4 : Int32) w5).bind fun x6 =>
    some (x6.1, x6.2)
  else if v1 = (102 : Int32) then
    (wF s v0 6 (0 : Int32)).bind fun w8 =>
    (g_X4_begin n v0 (4 : Int32) w8).bind fun x9 =>
    some (x9.1, x9.2)
  else if v1 = (112 : Int32) then
    (wF s v0 6 (3 : Int32)).bind fun w11 =>
    (g_X4_begin n v0 (4 : Int32) w11).bind fun x12 =>
    some (x12.1, x12.2)
  else 
    some ((3 : Int32), s)
set_option maxHeartbeats 1000000 in
theorem t_X4_takeKind_0 {tg r : Nat → Nat} {h hb : hp_H} {s sb : st_T} {n : Nat} {v0 : Nat} {v1 : Int32} (I : iso tg r h s) (F : isf tg r hb h sb s) (T_v0 : tg v0 = 14) {res : Int32 × st_T} (hm : g_X4_takeKind_0 n v0 v1 s = some res) : ∃ h2, f_X4_takeKind_0 n (r v0) v1 h = some ((res.1, h2)) ∧ iso tg r h2 res.2 ∧ isf tg r hb h2 sb res.2 := by
  unfold g_X4_takeKind_0 at hm
  unfold f_X4_takeKind_0
  by_cases c1 : v1 = (97 : Int32)
  · rw [if_pos c1] at hm ⊢
    obtain ⟨w2, hw2, hm⟩ := hp_bd hm
    obtain ⟨_, e2, I, F⟩ := t_wF (c := 4) (k := 6) I F T_v0 (by decide) (by decide) rfl hw2
    refine tr_eq e2 ?_
    obtain ⟨x3, hx3, hm⟩ := hp_bd hm
    obtain ⟨_, e2, I, F⟩ := t_X4_begin I F T_v0 hx3
    refine tr_eq e2 ?_
    try dsimp only
    obtain rfl := Option.some.inj hm
    exact ⟨_, rfl, I, F⟩
  rw [if_neg c1] at hm ⊢
  by_cases c4 : v1 = (101 : Int32)
  · rw [if_pos c4] at hm ⊢
    obtain ⟨w5, hw5, hm⟩ := hp_bd hm
    obtain ⟨_, e2, I, F⟩ := t_wF (c := 4) (k := 6) I F T_v0 (by decide) (by decide) rfl hw5
    refine tr_eq e2 ?_
    obtain ⟨x6, hx6, hm⟩ := hp_bd hm
    obtain ⟨_, e2, I, F⟩ := t_X4_begin I F T_v0 hx6
    refine tr_eq e2 ?_
    try dsimp only
    obtain rfl := Option.some.inj hm
    exact ⟨_, rfl, I, F⟩
  rw [if_neg c4] at hm ⊢
  by_cases c7 : v1 = (102 : Int32)
  · rw [if_pos c7] at hm ⊢
    obtain ⟨w8, hw8, hm⟩ := hp_bd hm
    obtain ⟨_, e2, I, F⟩ := t_wF (c := 4) (k := 6) I F T_v0 (by decide) (by decide) rfl hw8
    refine tr_eq e2 ?_
    obtain ⟨x9, hx9, hm⟩ := hp_bd hm
    obtain ⟨_, e2, I, F⟩ := t_X4_begin I F T_v0 hx9
    refine tr_eq e2 ?_
    try dsimp only
    obtain rfl := Option.some.inj hm
    exact ⟨_, rfl, I, F⟩
  rw [if_neg c7] at hm ⊢
  by_cases c10 : v1 = (112 : Int32)
  · rw [if_pos c10] at hm ⊢
    obtain ⟨w11, hw11, hm⟩ := hp_bd hm
    obtain ⟨_, e2, I, F⟩ := t_wF (c := 4) (k := 6) I F T_v0 (by decide) (by decide) rfl hw11
    refine tr_eq e2 ?_
    obtain ⟨x12, hx12, hm⟩ := hp_bd hm
    obtain ⟨_, e2, I, F⟩ := t_X4_begin I F T_v0 hx12
    refine tr_eq e2 ?_
    try dsimp only
    obtain rfl := Option.some.inj hm
    exact ⟨_, rfl, I, F⟩
  rw [if_neg c10] at hm ⊢
  obtain rfl := Option.some.inj hm
  exact ⟨_, rfl, I, F⟩
def g_X4_takeKind (n : Nat) (v0 : Nat) (v1 : Int32) (s : st_T) : Option (Int32 × st_T) := g_X4_takeKind_0 n v0 v1 s
theorem t_X4_takeKind {tg r : Nat → Nat} {h hb : hp_H} {s sb : st_T} {n : Nat} {v0 : Nat} {v1 : Int32} (I : iso tg r h s) (F : isf tg r hb h sb s) (T_v0 : tg v0 = 14) {res : Int32 × st_T} (hm : g_X4_takeKind n v0 v1 s = some res) : ∃ h2, f_X4_takeKind n (r v0) v1 h = some ((res.1, h2)) ∧ iso tg r h2 res.2 ∧ isf tg r hb h2 sb res.2 := by
  unfold g_X4_takeKind at hm
  unfold f_X4_takeKind
  refine tr_eq (t_ck I T_v0 (by decide)) ?_
  exact t_X4_takeKind_0 I F T_v0 hm
def g_X4_takeDeclared_170 (n : Nat) (v0 : Nat) (s : st_T) : Option (Int32 × st_T) :=
  (wF s v0 9 ((gF s v0 9) + (1 : Int32))).bind fun w1 =>
  some ((0 : Int32), w1)
set_option maxHeartbeats 1000000 in
theorem t_X4_takeDeclared_170 {tg r : Nat → Nat} {h hb : hp_H} {s sb : st_T} {n : Nat} {v0 : Nat} (I : iso tg r h s) (F : isf tg r hb h sb s) (T_v0 : tg v0 = 14) {res : Int32 × st_T} (hm : g_X4_takeDeclared_170 n v0 s = some res) : ∃ h2, f_X4_takeDeclared_170 n (r v0) h = some ((res.1, h2)) ∧ iso tg r h2 res.2 ∧ isf tg r hb h2 sb res.2 := by
  unfold g_X4_takeDeclared_170 at hm
  unfold f_X4_takeDeclared_170
  refine tr_eq (t_fI I T_v0 (by decide) (by decide) rfl) ?_
  obtain ⟨w1, hw1, hm⟩ := hp_bd hm
  obtain ⟨_, e2, I, F⟩ := t_wF (c := 4) (k := 9) I F T_v0 (by decide) (by decide) rfl hw1
  refine tr_eq e2 ?_
  obtain rfl := Option.some.inj hm
  exact ⟨_, rfl, I, F⟩
def g_X4_takeDeclared_155 (n : Nat) (v0 : Nat) (v2 : Int32) (s : st_T) : Option (Int32 × st_T) :=
  if (gF s v0 5) = 0 then
    g_X4_takeDeclared_170 n v0 s
  else
    (g_X7_activate n (gP s v0 3) v2 s).bind fun x2 =>
    g_X4_takeDeclared_170 n v0 x2
set_option maxHeartbeats 1000000 in
theorem t_X4_takeDeclared_155 {tg r : Nat → Nat} {h hb : hp_H} {s sb : st_T} {n : Nat} {v0 : Nat} {v2 : Int32} (I : iso tg r h s) (F : isf tg r hb h sb s) (T_v0 : tg v0 = 14) {res : Int32 × st_T} (hm : g_X4_takeDeclared_155 n v0 v2 s = some res) : ∃ h2, f_X4_takeDeclared_155 n (r v0) v2 h = some ((res.1, h2)) ∧ iso tg r h2 res.2 ∧ isf tg r hb h2 sb res.2 := by
  unfold g_X4_takeDeclared_155 at hm
  unfold f_X4_takeDeclared_155
  refine tr_eq (t_fI I T_v0 (by decide) (by decide) rfl) ?_
  by_cases c3 : (gF s v0 5) = 0
  · rw [if_pos c3] at hm ⊢
    exact t_X4_takeDeclared_170 I F T_v0 hm
  · rw [if_neg c3] at hm ⊢
    have T1 : tg (gP s v0 3) = 17 := t_tg (c := 4) I T_v0 (by decide) (by decide) rfl (by decide)
    refine tr_eq (t_fR I T_v0 (by decide) (by decide) (by decide)) ?_
    obtain ⟨x2, hx2, hm⟩ := hp_bd hm
    obtain ⟨_, e2, I, F⟩ := t_X7_activate I F T1 hx2
    refine tr_eq e2 ?_
    exact t_X4_takeDeclared_170 I F T_v0 hm
def g_X4_takeDeclared_116 (n : Nat) (v0 : Nat) (v2 : Int32) (v4 : Int32) (s : st_T) : Option (Int32 × st_T) :=
  if v4 = 0 then
    (g_X0_addSymbol n (gP s v0 1) (gF s v0 5) (gF s (gP s v0 2) 0) ((gF s (gP s v0 2) 1) - (gF s (gP s v0 2) 0)) s).bind fun x5 =>
    g_X4_takeDeclared_155 n v0 x5.1 x5.2
  else
    g_X4_takeDeclared_155 n v0 v2 s
set_option maxHeartbeats 1000000 in
theorem t_X4_takeDeclared_116 {tg r : Nat → Nat} {h hb : hp_H} {s sb : st_T} {n : Nat} {v0 : Nat} {v2 : Int32} {v4 : Int32} (I : iso tg r h s) (F : isf tg r hb h sb s) (T_v0 : tg v0 = 14) {res : Int32 × st_T} (hm : g_X4_takeDeclared_116 n v0 v2 v4 s = some res) : ∃ h2, f_X4_takeDeclared_116 n (r v0) v2 v4 h = some ((res.1, h2)) ∧ iso tg r h2 res.2 ∧ isf tg r hb h2 sb res.2 := by
  unfold g_X4_takeDeclared_116 at hm
  unfold f_X4_takeDeclared_116
  by_cases c6 : v4 = 0
  · rw [if_pos c6] at hm ⊢
    have T1 : tg (gP s v0 1) = 10 := t_tg (c := 4) I T_v0 (by decide) (by decide) rfl (by decide)
    refine tr_eq (t_fR I T_v0 (by decide) (by decide) (by decide)) ?_
    refine tr_eq (t_fI I T_v0 (by decide) (by decide) rfl) ?_
    have T2 : tg (gP s v0 2) = 16 := t_tg (c := 4) I T_v0 (by decide) (by decide) rfl (by decide)
    refine tr_eq (t_fR I T_v0 (by decide) (by decide) (by decide)) ?_
    refine tr_eq (t_fI I T2 (by decide) (by decide) rfl) ?_
    have T3 : tg (gP s v0 2) = 16 := t_tg (c := 4) I T_v0 (by decide) (by decide) rfl (by decide)
    refine tr_eq (t_fR I T_v0 (by decide) (by decide) (by decide)) ?_
    refine tr_eq (t_fI I T3 (by decide) (by decide) rfl) ?_
    have T4 : tg (gP s v0 2) = 16 := t_tg (c := 4) I T_v0 (by decide) (by decide) rfl (by decide)
    refine tr_eq (t_fR I T_v0 (by decide) (by decide) (by decide)) ?_
    refine tr_eq (t_fI I T4 (by decide) (by decide) rfl) ?_
    obtain ⟨x5, hx5, hm⟩ := hp_bd hm
    obtain ⟨_, e2, I, F⟩ := t_X0_addSymbol I F T1 hx5
    refine tr_eq e2 ?_
    try dsimp only
    exact t_X4_takeDeclared_155 I F T_v0 hm
  · rw [if_neg c6] at hm ⊢
    exact t_X4_takeDeclared_155 I F T_v0 hm
def g_X4_takeDeclared_102 (n : Nat) (v0 : Nat) (v2 : Int32) (s0 : Int32) (s : st_T) : Option (Int32 × st_T) :=
  if v2 = (-1 : Int32) then
    g_X4_takeDeclared_116 n v0 v2 s0 s
  else
    if s0 = 0 then
      some ((5 : Int32), s)
    else
      g_X4_takeDeclared_116 n v0 v2 s0 s
set_option maxHeartbeats 1000000 in
theorem t_X4_takeDeclared_102 {tg r : Nat → Nat} {h hb : hp_H} {s sb : st_T} {n : Nat} {v0 : Nat} {v2 : Int32} {s0 : Int32} (I : iso tg r h s) (F : isf tg r hb h sb s) (T_v0 : tg v0 = 14) {res : Int32 × st_T} (hm : g_X4_takeDeclared_102 n v0 v2 s0 s = some res) : ∃ h2, f_X4_takeDeclared_102 n (r v0) v2 s0 h = some ((res.1, h2)) ∧ iso tg r h2 res.2 ∧ isf tg r hb h2 sb res.2 := by
  unfold g_X4_takeDeclared_102 at hm
  unfold f_X4_takeDeclared_102
  by_cases c2 : v2 = (-1 : Int32)
  · rw [if_pos c2] at hm ⊢
    exact t_X4_takeDeclared_116 I F T_v0 hm
  · rw [if_neg c2] at hm ⊢
    by_cases c1 : s0 = 0
    · rw [if_pos c1] at hm ⊢
      obtain rfl := Option.some.inj hm
      exact ⟨_, rfl, I, F⟩
    · rw [if_neg c1] at hm ⊢
      exact t_X4_takeDeclared_116 I F T_v0 hm
def g_X4_takeDeclared_101 (n : Nat) (v0 : Nat) (v2 : Int32) (s : st_T) : Option (Int32 × st_T) :=
  g_X4_takeDeclared_102 n v0 v2 (0 : Int32) s
set_option maxHeartbeats 1000000 in
theorem t_X4_takeDeclared_101 {tg r : Nat → Nat} {h hb : hp_H} {s sb : st_T} {n : Nat} {v0 : Nat} {v2 : Int32} (I : iso tg r h s) (F : isf tg r hb h sb s) (T_v0 : tg v0 = 14) {res : Int32 × st_T} (hm : g_X4_takeDeclared_101 n v0 v2 s = some res) : ∃ h2, f_X4_takeDeclared_101 n (r v0) v2 h = some ((res.1, h2)) ∧ iso tg r h2 res.2 ∧ isf tg r hb h2 sb res.2 := by
  unfold g_X4_takeDeclared_101 at hm
  unfold f_X4_takeDeclared_101
  exact t_X4_takeDeclared_102 I F T_v0 hm
def g_X4_takeDeclared_68 (n : Nat) (v0 : Nat) (v2 : Int32) (s : st_T) : Option (Int32 × st_T) :=
  if (gF s v0 5) = 0 then
    g_X4_takeDeclared_101 n v0 v2 s
  else
    (g_X0_isVariable n (gP s v0 1) v2 s).bind fun x2 =>
    if x2 = 0 then
      g_X4_takeDeclared_101 n v0 v2 s
    else
      (g_X7_isActive n (gP s v0 3) v2 s).bind fun x4 =>
      if x4 = 0 then
        g_X4_takeDeclared_102 n v0 v2 (1 : Int32) s
      else
        g_X4_takeDeclared_101 n v0 v2 s
set_option maxHeartbeats 1000000 in
theorem t_X4_takeDeclared_68 {tg r : Nat → Nat} {h hb : hp_H} {s sb : st_T} {n : Nat} {v0 : Nat} {v2 : Int32} (I : iso tg r h s) (F : isf tg r hb h sb s) (T_v0 : tg v0 = 14) {res : Int32 × st_T} (hm : g_X4_takeDeclared_68 n v0 v2 s = some res) : ∃ h2, f_X4_takeDeclared_68 n (r v0) v2 h = some ((res.1, h2)) ∧ iso tg r h2 res.2 ∧ isf tg r hb h2 sb res.2 := by
  unfold g_X4_takeDeclared_68 at hm
  unfold f_X4_takeDeclared_68
  refine tr_eq (t_fI I T_v0 (by decide) (by decide) rfl) ?_
  by_cases c7 : (gF s v0 5) = 0
  · rw [if_pos c7] at hm ⊢
    exact t_X4_takeDeclared_101 I F T_v0 hm
  · rw [if_neg c7] at hm ⊢
    have T1 : tg (gP s v0 1) = 10 := t_tg (c := 4) I T_v0 (by decide) (by decide) rfl (by decide)
    refine tr_eq (t_fR I T_v0 (by decide) (by decide) (by decide)) ?_
    obtain ⟨x2, hx2, hm⟩ := hp_bd hm
    refine tr_eq (t_X0_isVariable I T1 hx2) ?_
    by_cases c6 : x2 = 0
    · rw [if_pos c6] at hm ⊢
      exact t_X4_takeDeclared_101 I F T_v0 hm
    · rw [if_neg c6] at hm ⊢
      have T3 : tg (gP s v0 3) = 17 := t_tg (c := 4) I T_v0 (by decide) (by decide) rfl (by decide)
      refine tr_eq (t_fR I T_v0 (by decide) (by decide) (by decide)) ?_
      obtain ⟨x4, hx4, hm⟩ := hp_bd hm
      refine tr_eq (t_X7_isActive I T3 hx4) ?_
      by_cases c5 : x4 = 0
      · rw [if_pos c5] at hm ⊢
        exact t_X4_takeDeclared_102 I F T_v0 hm
      · rw [if_neg c5] at hm ⊢
        exact t_X4_takeDeclared_101 I F T_v0 hm
def g_X4_takeDeclared_47 (n : Nat) (v0 : Nat) (v2 : Int32) (s0 : Int32) (s : st_T) : Option (Int32 × st_T) :=
  if s0 = 0 then
    if (gF s (gP s v0 1) 3) = (300 : Int32) then
      some ((7 : Int32), s)
    else
      g_X4_takeDeclared_68 n v0 v2 s
  else
    g_X4_takeDeclared_68 n v0 v2 s
set_option maxHeartbeats 1000000 in
theorem t_X4_takeDeclared_47 {tg r : Nat → Nat} {h hb : hp_H} {s sb : st_T} {n : Nat} {v0 : Nat} {v2 : Int32} {s0 : Int32} (I : iso tg r h s) (F : isf tg r hb h sb s) (T_v0 : tg v0 = 14) {res : Int32 × st_T} (hm : g_X4_takeDeclared_47 n v0 v2 s0 s = some res) : ∃ h2, f_X4_takeDeclared_47 n (r v0) v2 s0 h = some ((res.1, h2)) ∧ iso tg r h2 res.2 ∧ isf tg r hb h2 sb res.2 := by
  unfold g_X4_takeDeclared_47 at hm
  unfold f_X4_takeDeclared_47
  by_cases c3 : s0 = 0
  · rw [if_pos c3] at hm ⊢
    have T1 : tg (gP s v0 1) = 10 := t_tg (c := 4) I T_v0 (by decide) (by decide) rfl (by decide)
    refine tr_eq (t_fR I T_v0 (by decide) (by decide) (by decide)) ?_
    refine tr_eq (t_fI I T1 (by decide) (by decide) rfl) ?_
    by_cases c2 : (gF s (gP s v0 1) 3) = (300 : Int32)
    · rw [if_pos c2] at hm ⊢
      obtain rfl := Option.some.inj hm
      exact ⟨_, rfl, I, F⟩
    · rw [if_neg c2] at hm ⊢
      exact t_X4_takeDeclared_68 I F T_v0 hm
  · rw [if_neg c3] at hm ⊢
    exact t_X4_takeDeclared_68 I F T_v0 hm
def g_X4_takeDeclared_46 (n : Nat) (v0 : Nat) (v2 : Int32) (s : st_T) : Option (Int32 × st_T) :=
  g_X4_takeDeclared_47 n v0 v2 (0 : Int32) s
set_option maxHeartbeats 1000000 in
theorem t_X4_takeDeclared_46 {tg r : Nat → Nat} {h hb : hp_H} {s sb : st_T} {n : Nat} {v0 : Nat} {v2 : Int32} (I : iso tg r h s) (F : isf tg r hb h sb s) (T_v0 : tg v0 = 14) {res : Int32 × st_T} (hm : g_X4_takeDeclared_46 n v0 v2 s = some res) : ∃ h2, f_X4_takeDeclared_46 n (r v0) v2 h = some ((res.1, h2)) ∧ iso tg r h2 res.2 ∧ isf tg r hb h2 sb res.2 := by
  unfold g_X4_takeDeclared_46 at hm
  unfold f_X4_takeDeclared_46
  exact t_X4_takeDeclared_47 I F T_v0 hm
def g_X4_takeDeclared_19 (n : Nat) (v0 : Nat) (v1 : Int32) (s : st_T) : Option (Int32 × st_T) :=
  if v1 = 0 then
    (g_X4_namedByToken n v0 s).bind fun x1 =>
    if x1 = (-1 : Int32) then
      g_X4_takeDeclared_46 n v0 x1 s
    else
      if (300 : Int32) ≤ x1 then
        g_X4_takeDeclared_46 n v0 x1 s
      else
        g_X4_takeDeclared_47 n v0 x1 (1 : Int32) s
  else
    some ((3 : Int32), s)
set_option maxHeartbeats 1000000 in
theorem t_X4_takeDeclared_19 {tg r : Nat → Nat} {h hb : hp_H} {s sb : st_T} {n : Nat} {v0 : Nat} {v1 : Int32} (I : iso tg r h s) (F : isf tg r hb h sb s) (T_v0 : tg v0 = 14) {res : Int32 × st_T} (hm : g_X4_takeDeclared_19 n v0 v1 s = some res) : ∃ h2, f_X4_takeDeclared_19 n (r v0) v1 h = some ((res.1, h2)) ∧ iso tg r h2 res.2 ∧ isf tg r hb h2 sb res.2 := by
  unfold g_X4_takeDeclared_19 at hm
  unfold f_X4_takeDeclared_19
  by_cases c4 : v1 = 0
  · rw [if_pos c4] at hm ⊢
    obtain ⟨x1, hx1, hm⟩ := hp_bd hm
    refine tr_eq (t_X4_namedByToken I T_v0 hx1) ?_
    by_cases c3 : x1 = (-1 : Int32)
    · rw [if_pos c3] at hm ⊢
      exact t_X4_takeDeclared_46 I F T_v0 hm
    · rw [if_neg c3] at hm ⊢
      by_cases c2 : (300 : Int32) ≤ x1
      · rw [if_pos c2] at hm ⊢
        exact t_X4_takeDeclared_46 I F T_v0 hm
      · rw [if_neg c2] at hm ⊢
        exact t_X4_takeDeclared_47 I F T_v0 hm
  · rw [if_neg c4] at hm ⊢
    obtain rfl := Option.some.inj hm
    exact ⟨_, rfl, I, F⟩
def g_X4_takeDeclared_0 (n : Nat) (v0 : Nat) (v1 : Int32) (s : st_T) : Option (Int32 × st_T) :=
  if v1 = (46 : Int32) then
    if (gF s v0 9) ≤ 0 then
      g_X4_takeDeclared_19 n v0 v1 s
    else
      (g_X4_begin n v0 (0 : Int32) s).bind fun x1 =>
      some (x1.1, x1.2)
  else
    g_X4_takeDeclared_19 n v0 v1 s
set_option maxHeartbeats 1000000 in
theorem t_X4_takeDeclared_0 {tg r : Nat → Nat} {h hb : hp_H} {s sb : st_T} {n : Nat} {v0 : Nat} {v1 : Int32} (I : iso tg r h s) (F : isf tg r hb h sb s) (T_v0 : tg v0 = 14) {res : Int32 × st_T} (hm : g_X4_takeDeclared_0 n v0 v1 s = some res) : ∃ h2, f_X4_takeDeclared_0 n (r v0) v1 h = some ((res.1, h2)) ∧ iso tg r h2 res.2 ∧ isf tg r hb h2 sb res.2 := by
  unfold g_X4_takeDeclared_0 at hm
  unfold f_X4_takeDeclared_0
  by_cases c3 : v1 = (46 : Int32)
  · rw [if_pos c3] at hm ⊢
    refine tr_eq (t_fI I T_v0 (by decide) (by decide) rfl) ?_
    by_cases c2 : (gF s v0 9) ≤ 0
    · rw [if_pos c2] at hm ⊢
      exact t_X4_takeDeclared_19 I F T_v0 hm
    · rw [if_neg c2] at hm ⊢
      obtain ⟨x1, hx1, hm⟩ := hp_bd hm
      obtain ⟨_, e2, I, F⟩ := t_X4_begin I F T_v0 hx1
      refine tr_eq e2 ?_
      try dsimp only
      obtain rfl := Option.some.inj hm
      exact ⟨_, rfl, I, F⟩
  · rw [if_neg c3] at hm ⊢
    exact t_X4_takeDeclared_19 I F T_v0 hm
def g_X4_takeDeclared (n : Nat) (v0 : Nat) (v1 : Int32) (s : st_T) : Option (Int32 × st_T) := g_X4_takeDeclared_0 n v0 v1 s
theorem t_X4_takeDeclared {tg r : Nat → Nat} {h hb : hp_H} {s sb : st_T} {n : Nat} {v0 : Nat} {v1 : Int32} (I : iso tg r h s) (F : isf tg r hb h sb s) (T_v0 : tg v0 = 14) {res : Int32 × st_T} (hm : g_X4_takeDeclared n v0 v1 s = some res) : ∃ h2, f_X4_takeDeclared n (r v0) v1 h = some ((res.1, h2)) ∧ iso tg r h2 res.2 ∧ isf tg r hb h2 sb res.2 := by
  unfold g_X4_takeDeclared at hm
  unfold f_X4_takeDeclared
  refine tr_eq (t_ck I T_v0 (by decide)) ?_
  exact t_X4_takeDeclared_0 I F T_v0 hm
def g_X4_takeSeparated_59 (n : Nat) (v0 : Nat) (v2 : Int32) (v3 : Int32) (s : st_T) : Option ((Int32) ⊕ ((Unit) ⊕ (Int32))) :=
  if (gF s v0 9) ≤ v3 then
    some (.inr (.inl ()))
  else
    (gA s (gP s v0 10) v3).bind fun x2 =>
    if x2 = v2 then
      some (.inr (.inr (6 : Int32)))
    else
      some (.inl (v3 + (1 : Int32)))
set_option maxHeartbeats 1000000 in
theorem t_X4_takeSeparated_59 {tg r : Nat → Nat} {h : hp_H} {s : st_T} {n : Nat} {v0 : Nat} {v2 : Int32} {v3 : Int32} (I : iso tg r h s) (T_v0 : tg v0 = 14) {res : (Int32) ⊕ ((Unit) ⊕ (Int32))} (hm : g_X4_takeSeparated_59 n v0 v2 v3 s = some res) : f_X4_takeSeparated_59 n (r v0) v2 v3 h = some res := by
  unfold g_X4_takeSeparated_59 at hm
  unfold f_X4_takeSeparated_59
  refine tr_eq0 (t_fI I T_v0 (by decide) (by decide) rfl) ?_
  by_cases c4 : (gF s v0 9) ≤ v3
  · rw [if_pos c4] at hm ⊢
    obtain rfl := Option.some.inj hm
    rfl
  · rw [if_neg c4] at hm ⊢
    have T1 : tg (gP s v0 10) = 0 := t_tg (c := 4) I T_v0 (by decide) (by decide) rfl (by decide)
    refine tr_eq0 (t_fR I T_v0 (by decide) (by decide) (by decide)) ?_
    obtain ⟨x2, hx2, hm⟩ := hp_bd hm
    refine tr_eq0 (t_aI I T1 (by decide) hx2) ?_
    by_cases c3 : x2 = v2
    · rw [if_pos c3] at hm ⊢
      obtain rfl := Option.some.inj hm
      rfl
    · rw [if_neg c3] at hm ⊢
      obtain rfl := Option.some.inj hm
      rfl
def gL_X4_takeSeparated_59 (n : Nat) (v0 : Nat) (v2 : Int32) (s : st_T) (c : Int32) : Option ((Int32) ⊕ ((Unit) ⊕ (Int32))) := g_X4_takeSeparated_59 n v0 v2 c s
theorem tl_X4_takeSeparated_59 {tg r : Nat → Nat} {h : hp_H} {s : st_T} {n : Nat} {v0 : Nat} {v2 : Int32} (I : iso tg r h s) (T_v0 : tg v0 = 14) : ∀ (k : Nat) (c : Int32) (x : (Unit) ⊕ (Int32)), hp_lp (gL_X4_takeSeparated_59 n v0 v2 s) k c = some x → hp_lp (fL_X4_takeSeparated_59 n (r v0) v2 h) k c = some x := by
  intro k
  induction k with
  | zero => intro c x hx; exact (hp_lp_0 hx).elim
  | succ k ih =>
    intro c x hx
    obtain ⟨rr, hr, hc⟩ := hp_lp_1 hx
    have e2 := t_X4_takeSeparated_59 I T_v0 hr
    rcases hc with ⟨s3, e3, hx3⟩ | e3
    · subst e3
      exact hp_lp_s e2 (ih _ _ hx3)
    · subst e3
      exact hp_lp_x e2
abbrev eX_X4_takeSeparated_88 (x : (st_T) ⊕ (Int32 × st_T)) (h2 : hp_H) : (hp_H) ⊕ (Int32 × hp_H) := (Sum.elim (fun y => (.inl h2)) (fun y => (.inr (y.1, h2)))) x
abbrev sX_X4_takeSeparated_88 (x : (st_T) ⊕ (Int32 × st_T)) : st_T := (Sum.elim (fun y => y) (fun y => y.2)) x
abbrev eR_X4_takeSeparated_88 (x : (Int32 × st_T) ⊕ ((st_T) ⊕ (Int32 × st_T))) (h2 : hp_H) : (Int32 × hp_H) ⊕ ((hp_H) ⊕ (Int32 × hp_H)) := Sum.elim (fun y => .inl (y.1, h2)) (fun y => .inr (eX_X4_takeSeparated_88 y h2)) x
abbrev sR_X4_takeSeparated_88 (x : (Int32 × st_T) ⊕ ((st_T) ⊕ (Int32 × st_T))) : st_T := Sum.elim (fun y => y.2) sX_X4_takeSeparated_88 x
def g_X4_takeSeparated_88 (n : Nat) (v0 : Nat) (v2 : Int32) (v3 : Int32) (s : st_T) : Option ((Int32 × st_T) ⊕ ((st_T) ⊕ (Int32 × st_T))) :=
  if (gF s v0 9) ≤ v3 then
    some (.inr (.inl s))
  else
    (gA s (gP s v0 10) v3).bind fun x3 =>
    (g_X7_addPair n (gP s v0 3) x3 v2 s).bind fun x4 =>
    if x4.1 = 0 then
      some (.inr (.inr ((7 : Int32), x4.2)))
    else
      some (.inl ((v3 + (1 : Int32)), x4.2))
set_option maxHeartbeats 1000000 in
theorem t_X4_takeSeparated_88 {tg r : Nat → Nat} {h hb : hp_H} {s sb : st_T} {n : Nat} {v0 : Nat} {v2 : Int32} {v3 : Int32} (I : iso tg r h s) (F : isf tg r hb h sb s) (T_v0 : tg v0 = 14) {res : (Int32 × st_T) ⊕ ((st_T) ⊕ (Int32 × st_T))} (hm : g_X4_takeSeparated_88 n v0 v2 v3 s = some res) : ∃ h2, f_X4_takeSeparated_88 n (r v0) v2 v3 h = some (eR_X4_takeSeparated_88 res h2) ∧ iso tg r h2 (sR_X4_takeSeparated_88 res) ∧ isf tg r hb h2 sb (sR_X4_takeSeparated_88 res) := by
  unfold g_X4_takeSeparated_88 at hm
  unfold f_X4_takeSeparated_88
  refine tr_eq (t_fI I T_v0 (by decide) (by decide) rfl) ?_
  by_cases c6 : (gF s v0 9) ≤ v3
  · rw [if_pos c6] at hm ⊢
    obtain rfl := Option.some.inj hm
    exact ⟨_, rfl, I, F⟩
  · rw [if_neg c6] at hm ⊢
    have T1 : tg (gP s v0 3) = 17 := t_tg (c := 4) I T_v0 (by decide) (by decide) rfl (by decide)
    refine tr_eq (t_fR I T_v0 (by decide) (by decide) (by decide)) ?_
    have T2 : tg (gP s v0 10) = 0 := t_tg (c := 4) I T_v0 (by decide) (by decide) rfl (by decide)
    refine tr_eq (t_fR I T_v0 (by decide) (by decide) (by decide)) ?_
    obtain ⟨x3, hx3, hm⟩ := hp_bd hm
    refine tr_eq (t_aI I T2 (by decide) hx3) ?_
    obtain ⟨x4, hx4, hm⟩ := hp_bd hm
    obtain ⟨_, e2, I, F⟩ := t_X7_addPair I F T1 hx4
    refine tr_eq e2 ?_
    try dsimp only
    by_cases c5 : x4.1 = 0
    · rw [if_pos c5] at hm ⊢
      obtain rfl := Option.some.inj hm
      exact ⟨_, rfl, I, F⟩
    · rw [if_neg c5] at hm ⊢
      obtain rfl := Option.some.inj hm
      exact ⟨_, rfl, I, F⟩
def gL_X4_takeSeparated_88 (n : Nat) (v0 : Nat) (v2 : Int32) (c : Int32 × st_T) : Option ((Int32 × st_T) ⊕ ((st_T) ⊕ (Int32 × st_T))) := g_X4_takeSeparated_88 n v0 v2 c.1 c.2
theorem tl_X4_takeSeparated_88 {tg r : Nat → Nat} {hb : hp_H} {sb : st_T} {n : Nat} {v0 : Nat} {v2 : Int32} (T_v0 : tg v0 = 14) : ∀ (k : Nat) (c0 : Int32) (h : hp_H) (s : st_T) (x : (st_T) ⊕ (Int32 × st_T)), iso tg r h s → isf tg r hb h sb s → hp_lp (gL_X4_takeSeparated_88 n v0 v2) k (c0, s) = some x → ∃ h2, hp_lp (fL_X4_takeSeparated_88 n (r v0) v2) k (c0, h) = some (eX_X4_takeSeparated_88 x h2) ∧ iso tg r h2 (sX_X4_takeSeparated_88 x) ∧ isf tg r hb h2 sb (sX_X4_takeSeparated_88 x) := by
  intro k
  induction k with
  | zero => intro c0 h s x I F hx; exact (hp_lp_0 hx).elim
  | succ k ih =>
    intro c0 h s x I F hx
    obtain ⟨rr, hr, hc⟩ := hp_lp_1 hx
    obtain ⟨h2, e2, I2, F2⟩ := t_X4_takeSeparated_88 I F T_v0 hr
    rcases hc with ⟨s3, e3, hx3⟩ | e3
    · subst e3
      obtain ⟨h3, e4, I3, F3⟩ := ih _ h2 _ x I2 F2 hx3
      exact ⟨h3, hp_lp_s e2 e4, I3, F3⟩
    · subst e3
      exact ⟨h2, hp_lp_x e2, I2, F2⟩
def g_X4_takeSeparated_20 (n : Nat) (v0 : Nat) (v1 : Int32) (s : st_T) : Option (Int32 × st_T) :=
  if v1 = 0 then
    if (gF s v0 9) = (8 : Int32) then
      some ((7 : Int32), s)
    else
      (g_X4_namedByToken n v0 s).bind fun x1 =>
      (g_X7_isActive n (gP s v0 3) x1 s).bind fun x3 =>
      if x3 = 0 then
        some ((6 : Int32), s)
      else
        (hp_lp (gL_X4_takeSeparated_59 n v0 x1 s) n (0 : Int32)).bind fun x4 =>
        Sum.elim (fun y5 =>
          (hp_lp (gL_X4_takeSeparated_88 n v0 x1) n ((0 : Int32), s)).bind fun x7 =>
          Sum.elim (fun y8 =>
            (uA 0 y8 (gP y8 v0 10) (gF y8 v0 9) x1).bind fun w11 =>
            (wF w11 v0 9 ((gF w11 v0 9) + (1 : Int32))).bind fun w12 =>
            some ((0 : Int32), w12)) (fun y9 =>
            some (y9.1, y9.2)) x7) (fun y6 =>
          some (y6, s)) x4
  else
    some ((3 : Int32), s)
set_option maxHeartbeats 1000000 in
theorem t_X4_takeSeparated_20 {tg r : Nat → Nat} {h hb : hp_H} {s sb : st_T} {n : Nat} {v0 : Nat} {v1 : Int32} (I : iso tg r h s) (F : isf tg r hb h sb s) (T_v0 : tg v0 = 14) {res : Int32 × st_T} (hm : g_X4_takeSeparated_20 n v0 v1 s = some res) : ∃ h2, f_X4_takeSeparated_20 n (r v0) v1 h = some ((res.1, h2)) ∧ iso tg r h2 res.2 ∧ isf tg r hb h2 sb res.2 := by
  unfold g_X4_takeSeparated_20 at hm
  unfold f_X4_takeSeparated_20
  by_cases c15 : v1 = 0
  · rw [if_pos c15] at hm ⊢
    refine tr_eq (t_fI I T_v0 (by decide) (by decide) rfl) ?_
    by_cases c14 : (gF s v0 9) = (8 : Int32)
    · rw [if_pos c14] at hm ⊢
      obtain rfl := Option.some.inj hm
      exact ⟨_, rfl, I, F⟩
    · rw [if_neg c14] at hm ⊢
      obtain ⟨x1, hx1, hm⟩ := hp_bd hm
      refine tr_eq (t_X4_namedByToken I T_v0 hx1) ?_
      have T2 : tg (gP s v0 3) = 17 := t_tg (c := 4) I T_v0 (by decide) (by decide) rfl (by decide)
      refine tr_eq (t_fR I T_v0 (by decide) (by decide) (by decide)) ?_
      obtain ⟨x3, hx3, hm⟩ := hp_bd hm
      refine tr_eq (t_X7_isActive I T2 hx3) ?_
      by_cases c13 : x3 = 0
      · rw [if_pos c13] at hm ⊢
        obtain rfl := Option.some.inj hm
        exact ⟨_, rfl, I, F⟩
      · rw [if_neg c13] at hm ⊢
        obtain ⟨x4, hx4, hm⟩ := hp_bd hm
        refine tr_eq (tl_X4_takeSeparated_59 I T_v0 n _ _ hx4) ?_
        rcases x4 with y5 | y6
        · simp only [Sum.elim_inl, Sum.elim_inr] at hm ⊢
          obtain ⟨x7, hx7, hm⟩ := hp_bd hm
          obtain ⟨_, e2, I, F⟩ := tl_X4_takeSeparated_88 T_v0 n _ _ _ _ I F hx7
          refine tr_eq e2 ?_
          rcases x7 with y8 | y9
          · simp only [eX_X4_takeSeparated_88, Sum.elim_inl, Sum.elim_inr] at hm ⊢
            replace I : iso tg r _ y8 := I
            replace F : isf tg r hb _ sb y8 := F
            have T10 : tg (gP y8 v0 10) = 0 := t_tg (c := 4) I T_v0 (by decide) (by decide) rfl (by decide)
            refine tr_eq (t_fR I T_v0 (by decide) (by decide) (by decide)) ?_
            refine tr_eq (t_fI I T_v0 (by decide) (by decide) rfl) ?_
            obtain ⟨w11, hw11, hm⟩ := hp_bd hm
            obtain ⟨_, e2, I, F⟩ := t_sI I F T10 (by decide) hw11
            refine tr_eq e2 ?_
            refine tr_eq (t_fI I T_v0 (by decide) (by decide) rfl) ?_
            obtain ⟨w12, hw12, hm⟩ := hp_bd hm
            obtain ⟨_, e2, I, F⟩ := t_wF (c := 4) (k := 9) I F T_v0 (by decide) (by decide) rfl hw12
            refine tr_eq e2 ?_
            obtain rfl := Option.some.inj hm
            exact ⟨_, rfl, I, F⟩
          · simp only [eX_X4_takeSeparated_88, Sum.elim_inl, Sum.elim_inr] at hm ⊢
            replace I : iso tg r _ y9.2 := I
            replace F : isf tg r hb _ sb y9.2 := F
            obtain rfl := Option.some.inj hm
            exact ⟨_, rfl, I, F⟩
        · simp only [Sum.elim_inl, Sum.elim_inr] at hm ⊢
          obtain rfl := Option.some.inj hm
          exact ⟨_, rfl, I, F⟩
  · rw [if_neg c15] at hm ⊢
    obtain rfl := Option.some.inj hm
    exact ⟨_, rfl, I, F⟩
def g_X4_takeSeparated_0 (n : Nat) (v0 : Nat) (v1 : Int32) (s : st_T) : Option (Int32 × st_T) :=
  if v1 = (46 : Int32) then
    if (gF s v0 9) < (2 : Int32) then
      g_X4_takeSeparated_20 n v0 v1 s
    else
      (g_X4_begin n v0 (0 : Int32) s).bind fun x1 =>
      some (x1.1, x1.2)
  else
    g_X4_takeSeparated_20 n v0 v1 s
set_option maxHeartbeats 1000000 in
theorem t_X4_takeSeparated_0 {tg r : Nat → Nat} {h hb : hp_H} {s sb : st_T} {n : Nat} {v0 : Nat} {v1 : Int32} (I : iso tg r h s) (F : isf tg r hb h sb s) (T_v0 : tg v0 = 14) {res : Int32 × st_T} (hm : g_X4_takeSeparated_0 n v0 v1 s = some res) : ∃ h2, f_X4_takeSeparated_0 n (r v0) v1 h = some ((res.1, h2)) ∧ iso tg r h2 res.2 ∧ isf tg r hb h2 sb res.2 := by
  unfold g_X4_takeSeparated_0 at hm
  unfold f_X4_takeSeparated_0
  by_cases c3 : v1 = (46 : Int32)
  · rw [if_pos c3] at hm ⊢
    refine tr_eq (t_fI I T_v0 (by decide) (by decide) rfl) ?_
    by_cases c2 : (gF s v0 9) < (2 : Int32)
    · rw [if_pos c2] at hm ⊢
      exact t_X4_takeSeparated_20 I F T_v0 hm
    · rw [if_neg c2] at hm ⊢
      obtain ⟨x1, hx1, hm⟩ := hp_bd hm
      obtain ⟨_, e2, I, F⟩ := t_X4_begin I F T_v0 hx1
      refine tr_eq e2 ?_
      try dsimp only
      obtain rfl := Option.some.inj hm
      exact ⟨_, rfl, I, F⟩
  · rw [if_neg c3] at hm ⊢
    exact t_X4_takeSeparated_20 I F T_v0 hm
def g_X4_takeSeparated (n : Nat) (v0 : Nat) (v1 : Int32) (s : st_T) : Option (Int32 × st_T) := g_X4_takeSeparated_0 n v0 v1 s
theorem t_X4_takeSeparated {tg r : Nat → Nat} {h hb : hp_H} {s sb : st_T} {n : Nat} {v0 : Nat} {v1 : Int32} (I : iso tg r h s) (F : isf tg r hb h sb s) (T_v0 : tg v0 = 14) {res : Int32 × st_T} (hm : g_X4_takeSeparated n v0 v1 s = some res) : ∃ h2, f_X4_takeSeparated n (r v0) v1 h = some ((res.1, h2)) ∧ iso tg r h2 res.2 ∧ isf tg r hb h2 sb res.2 := by
  unfold g_X4_takeSeparated at hm
  unfold f_X4_takeSeparated
  refine tr_eq (t_ck I T_v0 (by decide)) ?_
  exact t_X4_takeSeparated_0 I F T_v0 hm
def g_X4_mayStand_73 (n : Nat) (s : st_T) : Option (Int32) :=
  some (1 : Int32)
set_option maxHeartbeats 1000000 in
theorem t_X4_mayStand_73 {tg r : Nat → Nat} {h : hp_H} {s : st_T} {n : Nat} (I : iso tg r h s) {res : Int32} (hm : g_X4_mayStand_73 n  s = some res) : f_X4_mayStand_73 n  h = some res := by
  unfold g_X4_mayStand_73 at hm
  unfold f_X4_mayStand_73
  obtain rfl := Option.some.inj hm
  rfl
def g_X4_mayStand_0 (n : Nat) (v0 : Nat) (v1 : Int32) (s : st_T) : Option (Int32) :=
  if (gF s v0 9) = 0 then
    (g_X0_isConstant n (gP s v0 1) v1 s).bind fun x15 =>
    (hp_bz x15).bind fun _ =>
    some x15
  else
    if (gF s v0 6) = 0 then
      (g_X7_isActive n (gP s v0 3) v1 s).bind fun x8 =>
      if x8 = 0 then
        some (0 : Int32)
      else
        (g_X7_isTyped n (gP s v0 3) v1 s).bind fun x10 =>
        if x10 = 0 then
          some (1 : Int32)
        else
          some (0 : Int32)
    else
      (g_X0_isConstant n (gP s v0 1) v1 s).bind fun x2 =>
      if x2 = 0 then
        (g_X7_isTyped n (gP s v0 3) v1 s).bind fun x4 =>
        if x4 = 0 then
          some (0 : Int32)
        else
          g_X4_mayStand_73 n  s
      else
        g_X4_mayStand_73 n  s
set_option maxHeartbeats 1000000 in
theorem t_X4_mayStand_0 {tg r : Nat → Nat} {h : hp_H} {s : st_T} {n : Nat} {v0 : Nat} {v1 : Int32} (I : iso tg r h s) (T_v0 : tg v0 = 14) {res : Int32} (hm : g_X4_mayStand_0 n v0 v1 s = some res) : f_X4_mayStand_0 n (r v0) v1 h = some res := by
  unfold g_X4_mayStand_0 at hm
  unfold f_X4_mayStand_0
  refine tr_eq0 (t_fI I T_v0 (by decide) (by decide) rfl) ?_
  by_cases c17 : (gF s v0 9) = 0
  · rw [if_pos c17] at hm ⊢
    have T14 : tg (gP s v0 1) = 10 := t_tg (c := 4) I T_v0 (by decide) (by decide) rfl (by decide)
    refine tr_eq0 (t_fR I T_v0 (by decide) (by decide) (by decide)) ?_
    obtain ⟨x15, hx15, hm⟩ := hp_bd hm
    refine tr_eq0 (t_X0_isConstant I T14 hx15) ?_
    obtain ⟨_, hu16, hm⟩ := hp_bd hm
    refine tr_eq0 hu16 ?_
    obtain rfl := Option.some.inj hm
    rfl
  · rw [if_neg c17] at hm ⊢
    refine tr_eq0 (t_fI I T_v0 (by decide) (by decide) rfl) ?_
    by_cases c13 : (gF s v0 6) = 0
    · rw [if_pos c13] at hm ⊢
      have T7 : tg (gP s v0 3) = 17 := t_tg (c := 4) I T_v0 (by decide) (by decide) rfl (by decide)
      refine tr_eq0 (t_fR I T_v0 (by decide) (by decide) (by decide)) ?_
      obtain ⟨x8, hx8, hm⟩ := hp_bd hm
      refine tr_eq0 (t_X7_isActive I T7 hx8) ?_
      by_cases c12 : x8 = 0
      · rw [if_pos c12] at hm ⊢
        obtain rfl := Option.some.inj hm
        rfl
      · rw [if_neg c12] at hm ⊢
        have T9 : tg (gP s v0 3) = 17 := t_tg (c := 4) I T_v0 (by decide) (by decide) rfl (by decide)
        refine tr_eq0 (t_fR I T_v0 (by decide) (by decide) (by decide)) ?_
        obtain ⟨x10, hx10, hm⟩ := hp_bd hm
        refine tr_eq0 (t_X7_isTyped I T9 hx10) ?_
        by_cases c11 : x10 = 0
        · rw [if_pos c11] at hm ⊢
          obtain rfl := Option.some.inj hm
          rfl
        · rw [if_neg c11] at hm ⊢
          obtain rfl := Option.some.inj hm
          rfl
    · rw [if_neg c13] at hm ⊢
      have T1 : tg (gP s v0 1) = 10 := t_tg (c := 4) I T_v0 (by decide) (by decide) rfl (by decide)
      refine tr_eq0 (t_fR I T_v0 (by decide) (by decide) (by decide)) ?_
      obtain ⟨x2, hx2, hm⟩ := hp_bd hm
      refine tr_eq0 (t_X0_isConstant I T1 hx2) ?_
      by_cases c6 : x2 = 0
      · rw [if_pos c6] at hm ⊢
        have T3 : tg (gP s v0 3) = 17 := t_tg (c := 4) I T_v0 (by decide) (by decide) rfl (by decide)
        refine tr_eq0 (t_fR I T_v0 (by decide) (by decide) (by decide)) ?_
        obtain ⟨x4, hx4, hm⟩ := hp_bd hm
        refine tr_eq0 (t_X7_isTyped I T3 hx4) ?_
        by_cases c5 : x4 = 0
        · rw [if_pos c5] at hm ⊢
          obtain rfl := Option.some.inj hm
          rfl
        · rw [if_neg c5] at hm ⊢
          exact t_X4_mayStand_73 I  hm
      · rw [if_neg c6] at hm ⊢
        exact t_X4_mayStand_73 I  hm
def g_X4_mayStand (n : Nat) (v0 : Nat) (v1 : Int32) (s : st_T) : Option (Int32) := g_X4_mayStand_0 n v0 v1 s
theorem t_X4_mayStand {tg r : Nat → Nat} {h : hp_H} {s : st_T} {n : Nat} {v0 : Nat} {v1 : Int32} (I : iso tg r h s) (T_v0 : tg v0 = 14) {res : Int32} (hm : g_X4_mayStand n v0 v1 s = some res) : f_X4_mayStand n (r v0) v1 h = some res := by
  unfold g_X4_mayStand at hm
  unfold f_X4_mayStand
  refine tr_eq0 (t_ck I T_v0 (by decide)) ?_
  exact t_X4_mayStand_0 I T_v0 hm
def g_X4_takeEnd_59 (n : Nat) (s0 : Int32) (s1 : Nat) (s : st_T) : Option (Int32 × st_T) :=
  (g_X4_begin n s1 s0 s).bind fun x1 =>
  some (x1.1, x1.2)
set_option maxHeartbeats 1000000 in
theorem t_X4_takeEnd_59 {tg r : Nat → Nat} {h hb : hp_H} {s sb : st_T} {n : Nat} {s0 : Int32} {s1 : Nat} (I : iso tg r h s) (F : isf tg r hb h sb s) (T_s1 : tg s1 = 14) {res : Int32 × st_T} (hm : g_X4_takeEnd_59 n s0 s1 s = some res) : ∃ h2, f_X4_takeEnd_59 n s0 (r s1) h = some ((res.1, h2)) ∧ iso tg r h2 res.2 ∧ isf tg r hb h2 sb res.2 := by
  unfold g_X4_takeEnd_59 at hm
  unfold f_X4_takeEnd_59
  obtain ⟨x1, hx1, hm⟩ := hp_bd hm
  obtain ⟨_, e2, I, F⟩ := t_X4_begin I F T_s1 hx1
  refine tr_eq e2 ?_
  try dsimp only
  obtain rfl := Option.some.inj hm
  exact ⟨_, rfl, I, F⟩
def g_X4_takeEnd_28 (n : Nat) (v0 : Nat) (v1 : Int32) (v2 : Int32) (s0 : Int32) (s : st_T) : Option (Int32 × st_T) :=
  if v1 = s0 then
    if v2 ≤ (gF s v0 9) then
      if (gF s v0 6) = (3 : Int32) then
        g_X4_takeEnd_59 n (5 : Int32) v0 s
      else
        g_X4_takeEnd_59 n (6 : Int32) v0 s
    else
      some ((3 : Int32), s)
  else
    some ((3 : Int32), s)
set_option maxHeartbeats 1000000 in
theorem t_X4_takeEnd_28 {tg r : Nat → Nat} {h hb : hp_H} {s sb : st_T} {n : Nat} {v0 : Nat} {v1 : Int32} {v2 : Int32} {s0 : Int32} (I : iso tg r h s) (F : isf tg r hb h sb s) (T_v0 : tg v0 = 14) {res : Int32 × st_T} (hm : g_X4_takeEnd_28 n v0 v1 v2 s0 s = some res) : ∃ h2, f_X4_takeEnd_28 n (r v0) v1 v2 s0 h = some ((res.1, h2)) ∧ iso tg r h2 res.2 ∧ isf tg r hb h2 sb res.2 := by
  unfold g_X4_takeEnd_28 at hm
  unfold f_X4_takeEnd_28
  by_cases c3 : v1 = s0
  · rw [if_pos c3] at hm ⊢
    refine tr_eq (t_fI I T_v0 (by decide) (by decide) rfl) ?_
    by_cases c2 : v2 ≤ (gF s v0 9)
    · rw [if_pos c2] at hm ⊢
      refine tr_eq (t_fI I T_v0 (by decide) (by decide) rfl) ?_
      by_cases c1 : (gF s v0 6) = (3 : Int32)
      · rw [if_pos c1] at hm ⊢
        exact t_X4_takeEnd_59 I F T_v0 hm
      · rw [if_neg c1] at hm ⊢
        exact t_X4_takeEnd_59 I F T_v0 hm
    · rw [if_neg c2] at hm ⊢
      obtain rfl := Option.some.inj hm
      exact ⟨_, rfl, I, F⟩
  · rw [if_neg c3] at hm ⊢
    obtain rfl := Option.some.inj hm
    exact ⟨_, rfl, I, F⟩
def g_X4_takeEnd_12 (n : Nat) (v0 : Nat) (v1 : Int32) (s0 : Int32) (s : st_T) : Option (Int32 × st_T) :=
  if (gF s v0 6) = (3 : Int32) then
    g_X4_takeEnd_28 n v0 v1 s0 (61 : Int32) s
  else
    g_X4_takeEnd_28 n v0 v1 s0 (46 : Int32) s
set_option maxHeartbeats 1000000 in
theorem t_X4_takeEnd_12 {tg r : Nat → Nat} {h hb : hp_H} {s sb : st_T} {n : Nat} {v0 : Nat} {v1 : Int32} {s0 : Int32} (I : iso tg r h s) (F : isf tg r hb h sb s) (T_v0 : tg v0 = 14) {res : Int32 × st_T} (hm : g_X4_takeEnd_12 n v0 v1 s0 s = some res) : ∃ h2, f_X4_takeEnd_12 n (r v0) v1 s0 h = some ((res.1, h2)) ∧ iso tg r h2 res.2 ∧ isf tg r hb h2 sb res.2 := by
  unfold g_X4_takeEnd_12 at hm
  unfold f_X4_takeEnd_12
  refine tr_eq (t_fI I T_v0 (by decide) (by decide) rfl) ?_
  by_cases c1 : (gF s v0 6) = (3 : Int32)
  · rw [if_pos c1] at hm ⊢
    exact t_X4_takeEnd_28 I F T_v0 hm
  · rw [if_neg c1] at hm ⊢
    exact t_X4_takeEnd_28 I F T_v0 hm
def g_X4_takeEnd_0 (n : Nat) (v0 : Nat) (v1 : Int32) (s : st_T) : Option (Int32 × st_T) :=
  if (gF s v0 6) = 0 then
    g_X4_takeEnd_12 n v0 v1 (2 : Int32) s
  else
    g_X4_takeEnd_12 n v0 v1 (1 : Int32) s
set_option maxHeartbeats 1000000 in
theorem t_X4_takeEnd_0 {tg r : Nat → Nat} {h hb : hp_H} {s sb : st_T} {n : Nat} {v0 : Nat} {v1 : Int32} (I : iso tg r h s) (F : isf tg r hb h sb s) (T_v0 : tg v0 = 14) {res : Int32 × st_T} (hm : g_X4_takeEnd_0 n v0 v1 s = some res) : ∃ h2, f_X4_takeEnd_0 n (r v0) v1 h = some ((res.1, h2)) ∧ iso tg r h2 res.2 ∧ isf tg r hb h2 sb res.2 := by
  unfold g_X4_takeEnd_0 at hm
  unfold f_X4_takeEnd_0
  refine tr_eq (t_fI I T_v0 (by decide) (by decide) rfl) ?_
  by_cases c1 : (gF s v0 6) = 0
  · rw [if_pos c1] at hm ⊢
    exact t_X4_takeEnd_12 I F T_v0 hm
  · rw [if_neg c1] at hm ⊢
    exact t_X4_takeEnd_12 I F T_v0 hm
def g_X4_takeEnd (n : Nat) (v0 : Nat) (v1 : Int32) (s : st_T) : Option (Int32 × st_T) := g_X4_takeEnd_0 n v0 v1 s
theorem t_X4_takeEnd {tg r : Nat → Nat} {h hb : hp_H} {s sb : st_T} {n : Nat} {v0 : Nat} {v1 : Int32} (I : iso tg r h s) (F : isf tg r hb h sb s) (T_v0 : tg v0 = 14) {res : Int32 × st_T} (hm : g_X4_takeEnd n v0 v1 s = some res) : ∃ h2, f_X4_takeEnd n (r v0) v1 h = some ((res.1, h2)) ∧ iso tg r h2 res.2 ∧ isf tg r hb h2 sb res.2 := by
  unfold g_X4_takeEnd at hm
  unfold f_X4_takeEnd
  refine tr_eq (t_ck I T_v0 (by decide)) ?_
  exact t_X4_takeEnd_0 I F T_v0 hm
