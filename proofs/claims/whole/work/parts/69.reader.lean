def g_X4_namedByToken_0 (n : Nat) (v0 : Nat) (s : st_T) : Option (Int32) :=
  (g_X2_lookUp n (gP s (gP s v0 1) 0) (gP s (gP s v0 1) 1) (gF s (gP s v0 2) 0) ((gF s (gP s v0 2) 1) - (gF s (gP s v0 2) 0)) s).bind fun x8 =>
  some x8
set_option maxHeartbeats 1000000 in
theorem t_X4_namedByToken_0 {tg r : Nat → Nat} {h : hp_H} {s : st_T} {n : Nat} {v0 : Nat} (I : iso tg r h s) (T_v0 : tg v0 = 14) {res : Int32} (hm : g_X4_namedByToken_0 n v0 s = some res) : f_X4_namedByToken_0 n (r v0) h = some res := by
  unfold g_X4_namedByToken_0 at hm
  unfold f_X4_namedByToken_0
  have T1 : tg (gP s v0 1) = 10 := t_tg (c := 4) I T_v0 (by decide) (by decide) rfl (by decide)
  refine tr_eq0 (t_fR I T_v0 (by decide) (by decide) (by decide)) ?_
  have T2 : tg (gP s (gP s v0 1) 0) = 12 := t_tg (c := 0) I T1 (by decide) (by decide) rfl (by decide)
  refine tr_eq0 (t_fR I T1 (by decide) (by decide) (by decide)) ?_
  have T3 : tg (gP s v0 1) = 10 := t_tg (c := 4) I T_v0 (by decide) (by decide) rfl (by decide)
  refine tr_eq0 (t_fR I T_v0 (by decide) (by decide) (by decide)) ?_
  have T4 : tg (gP s (gP s v0 1) 1) = 1 := t_tg (c := 0) I T3 (by decide) (by decide) rfl (by decide)
  refine tr_eq0 (t_fR I T3 (by decide) (by decide) (by decide)) ?_
  have T5 : tg (gP s v0 2) = 16 := t_tg (c := 4) I T_v0 (by decide) (by decide) rfl (by decide)
  refine tr_eq0 (t_fR I T_v0 (by decide) (by decide) (by decide)) ?_
  refine tr_eq0 (t_fI I T5 (by decide) (by decide) rfl) ?_
  have T6 : tg (gP s v0 2) = 16 := t_tg (c := 4) I T_v0 (by decide) (by decide) rfl (by decide)
  refine tr_eq0 (t_fR I T_v0 (by decide) (by decide) (by decide)) ?_
  refine tr_eq0 (t_fI I T6 (by decide) (by decide) rfl) ?_
  have T7 : tg (gP s v0 2) = 16 := t_tg (c := 4) I T_v0 (by decide) (by decide) rfl (by decide)
  refine tr_eq0 (t_fR I T_v0 (by decide) (by decide) (by decide)) ?_
  refine tr_eq0 (t_fI I T7 (by decide) (by decide) rfl) ?_
  obtain ⟨x8, hx8, hm⟩ := hp_bd hm
  refine tr_eq0 (t_X2_lookUp I T2 T4 hx8) ?_
  obtain rfl := Option.some.inj hm
  rfl
def g_X4_namedByToken (n : Nat) (v0 : Nat) (s : st_T) : Option (Int32) := g_X4_namedByToken_0 n v0 s
theorem t_X4_namedByToken {tg r : Nat → Nat} {h : hp_H} {s : st_T} {n : Nat} {v0 : Nat} (I : iso tg r h s) (T_v0 : tg v0 = 14) {res : Int32} (hm : g_X4_namedByToken n v0 s = some res) : f_X4_namedByToken n (r v0) h = some res := by
  unfold g_X4_namedByToken at hm
  unfold f_X4_namedByToken
  refine tr_eq0 (t_ck I T_v0 (by decide)) ?_
  exact t_X4_namedByToken_0 I T_v0 hm
def g_X4_takeLabel_0 (n : Nat) (v0 : Nat) (s : st_T) : Option (Int32 × st_T) :=
  if (gF s (gP s v0 1) 5) = (200 : Int32) then
    some ((7 : Int32), s)
  else
    (g_X6_isLabel n (gP s v0 2) s).bind fun x3 =>
    if x3 = 0 then
      some ((4 : Int32), s)
    else
      (g_X4_namedByToken n v0 s).bind fun x4 =>
      if x4 = (-1 : Int32) then
        (wF s v0 7 (gF s (gP s v0 2) 0)).bind fun w6 =>
        (wF w6 v0 8 ((gF w6 (gP w6 v0 2) 1) - (gF w6 (gP w6 v0 2) 0))).bind fun w9 =>
        (wF w9 v0 4 (1 : Int32)).bind fun w10 =>
        some ((0 : Int32), w10)
      else
        some ((4 : Int32), s)
set_option maxHeartbeats 1000000 in
theorem t_X4_takeLabel_0 {tg r : Nat → Nat} {h hb : hp_H} {s sb : st_T} {n : Nat} {v0 : Nat} (I : iso tg r h s) (F : isf tg r hb h sb s) (T_v0 : tg v0 = 14) {res : Int32 × st_T} (hm : g_X4_takeLabel_0 n v0 s = some res) : ∃ h2, f_X4_takeLabel_0 n (r v0) h = some ((res.1, h2)) ∧ iso tg r h2 res.2 ∧ isf tg r hb h2 sb res.2 := by
  unfold g_X4_takeLabel_0 at hm
  unfold f_X4_takeLabel_0
  have T1 : tg (gP s v0 1) = 10 := t_tg (c := 4) I T_v0 (by decide) (by decide) rfl (by decide)
  refine tr_eq (t_fR I T_v0 (by decide) (by decide) (by decide)) ?_
  refine tr_eq (t_fI I T1 (by decide) (by decide) rfl) ?_
  by_cases c13 : (gF s (gP s v0 1) 5) = (200 : Int32)
  · rw [if_pos c13] at hm ⊢
    obtain rfl := Option.some.inj hm
    exact ⟨_, rfl, I, F⟩
  · rw [if_neg c13] at hm ⊢
    have T2 : tg (gP s v0 2) = 16 := t_tg (c := 4) I T_v0 (by decide) (by decide) rfl (by decide)
    refine tr_eq (t_fR I T_v0 (by decide) (by decide) (by decide)) ?_
    obtain ⟨x3, hx3, hm⟩ := hp_bd hm
    refine tr_eq (t_X6_isLabel I T2 hx3) ?_
    by_cases c12 : x3 = 0
    · rw [if_pos c12] at hm ⊢
      obtain rfl := Option.some.inj hm
      exact ⟨_, rfl, I, F⟩
    · rw [if_neg c12] at hm ⊢
      obtain ⟨x4, hx4, hm⟩ := hp_bd hm
      refine tr_eq (t_X4_namedByToken I T_v0 hx4) ?_
      by_cases c11 : x4 = (-1 : Int32)
      · rw [if_pos c11] at hm ⊢
        have T5 : tg (gP s v0 2) = 16 := t_tg (c := 4) I T_v0 (by decide) (by decide) rfl (by decide)
        refine tr_eq (t_fR I T_v0 (by decide) (by decide) (by decide)) ?_
        refine tr_eq (t_fI I T5 (by decide) (by decide) rfl) ?_
        obtain ⟨w6, hw6, hm⟩ := hp_bd hm
        obtain ⟨_, e2, I, F⟩ := t_wF (c := 4) (k := 7) I F T_v0 (by decide) (by decide) rfl hw6
        refine tr_eq e2 ?_
        have T7 : tg (gP w6 v0 2) = 16 := t_tg (c := 4) I T_v0 (by decide) (by decide) rfl (by decide)
        refine tr_eq (t_fR I T_v0 (by decide) (by decide) (by decide)) ?_
        refine tr_eq (t_fI I T7 (by decide) (by decide) rfl) ?_
        have T8 : tg (gP w6 v0 2) = 16 := t_tg (c := 4) I T_v0 (by decide) (by decide) rfl (by decide)
        refine tr_eq (t_fR I T_v0 (by decide) (by decide) (by decide)) ?_
        refine tr_eq (t_fI I T8 (by decide) (by decide) rfl) ?_
        obtain ⟨w9, hw9, hm⟩ := hp_bd hm
        obtain ⟨_, e2, I, F⟩ := t_wF (c := 4) (k := 8) I F T_v0 (by decide) (by decide) rfl hw9
        refine tr_eq e2 ?_
        obtain ⟨w10, hw10, hm⟩ := hp_bd hm
        obtain ⟨_, e2, I, F⟩ := t_wF (c := 4) (k := 4) I F T_v0 (by decide) (by decide) rfl hw10
        refine tr_eq e2 ?_
        obtain rfl := Option.some.inj hm
        exact ⟨_, rfl, I, F⟩
      · rw [if_neg c11] at hm ⊢
        obtain rfl := Option.some.inj hm
        exact ⟨_, rfl, I, F⟩
def g_X4_takeLabel (n : Nat) (v0 : Nat) (s : st_T) : Option (Int32 × st_T) := g_X4_takeLabel_0 n v0 s
theorem t_X4_takeLabel {tg r : Nat → Nat} {h hb : hp_H} {s sb : st_T} {n : Nat} {v0 : Nat} (I : iso tg r h s) (F : isf tg r hb h sb s) (T_v0 : tg v0 = 14) {res : Int32 × st_T} (hm : g_X4_takeLabel n v0 s = some res) : ∃ h2, f_X4_takeLabel n (r v0) h = some ((res.1, h2)) ∧ iso tg r h2 res.2 ∧ isf tg r hb h2 sb res.2 := by
  unfold g_X4_takeLabel at hm
  unfold f_X4_takeLabel
  refine tr_eq (t_ck I T_v0 (by decide)) ?_
  exact t_X4_takeLabel_0 I F T_v0 hm
def g_X4_begin_0 (n : Nat) (v0 : Nat) (v1 : Int32) (s : st_T) : Option (Int32 × st_T) :=
  (wF s v0 4 v1).bind fun w1 =>
  (wF w1 v0 9 (0 : Int32)).bind fun w2 =>
  some ((0 : Int32), w2)
set_option maxHeartbeats 1000000 in
theorem t_X4_begin_0 {tg r : Nat → Nat} {h hb : hp_H} {s sb : st_T} {n : Nat} {v0 : Nat} {v1 : Int32} (I : iso tg r h s) (F : isf tg r hb h sb s) (T_v0 : tg v0 = 14) {res : Int32 × st_T} (hm : g_X4_begin_0 n v0 v1 s = some res) : ∃ h2, f_X4_begin_0 n (r v0) v1 h = some ((res.1, h2)) ∧ iso tg r h2 res.2 ∧ isf tg r hb h2 sb res.2 := by
  unfold g_X4_begin_0 at hm
  unfold f_X4_begin_0
  obtain ⟨w1, hw1, hm⟩ := hp_bd hm
  obtain ⟨_, e2, I, F⟩ := t_wF (c := 4) (k := 4) I F T_v0 (by decide) (by decide) rfl hw1
  refine tr_eq e2 ?_
  obtain ⟨w2, hw2, hm⟩ := hp_bd hm
  obtain ⟨_, e2, I, F⟩ := t_wF (c := 4) (k := 9) I F T_v0 (by decide) (by decide) rfl hw2
  refine tr_eq e2 ?_
  obtain rfl := Option.some.inj hm
  exact ⟨_, rfl, I, F⟩
def g_X4_begin (n : Nat) (v0 : Nat) (v1 : Int32) (s : st_T) : Option (Int32 × st_T) := g_X4_begin_0 n v0 v1 s
theorem t_X4_begin {tg r : Nat → Nat} {h hb : hp_H} {s sb : st_T} {n : Nat} {v0 : Nat} {v1 : Int32} (I : iso tg r h s) (F : isf tg r hb h sb s) (T_v0 : tg v0 = 14) {res : Int32 × st_T} (hm : g_X4_begin n v0 v1 s = some res) : ∃ h2, f_X4_begin n (r v0) v1 h = some ((res.1, h2)) ∧ iso tg r h2 res.2 ∧ isf tg r hb h2 sb res.2 := by
  unfold g_X4_begin at hm
  unfold f_X4_begin
  refine tr_eq (t_ck I T_v0 (by decide)) ?_
  exact t_X4_begin_0 I F T_v0 hm
def g_X4_takeOutside_84 (n : Nat) (v0 : Nat) (s : st_T) : Option (Int32 × st_T) :=
  (g_X4_begin n v0 (2 : Int32) s).bind fun x1 =>
  some (x1.1, x1.2)
set_option maxHeartbeats 1000000 in
theorem t_X4_takeOutside_84 {tg r : Nat → Nat} {h hb : hp_H} {s sb : st_T} {n : Nat} {v0 : Nat} (I : iso tg r h s) (F : isf tg r hb h sb s) (T_v0 : tg v0 = 14) {res : Int32 × st_T} (hm : g_X4_takeOutside_84 n v0 s = some res) : ∃ h2, f_X4_takeOutside_84 n (r v0) h = some ((res.1, h2)) ∧ iso tg r h2 res.2 ∧ isf tg r hb h2 sb res.2 := by
  unfold g_X4_takeOutside_84 at hm
  unfold f_X4_takeOutside_84
  obtain ⟨x1, hx1, hm⟩ := hp_bd hm
  obtain ⟨_, e2, I, F⟩ := t_X4_begin I F T_v0 hx1
  refine tr_eq e2 ?_
  try dsimp only
  obtain rfl := Option.some.inj hm
  exact ⟨_, rfl, I, F⟩
def g_X4_takeOutside_64 (n : Nat) (v0 : Nat) (s0 : Int32) (s1 : Nat) (s : st_T) : Option (Int32 × st_T) :=
  (hp_bz s0).bind fun _ =>
  (wF s s1 5 s0).bind fun w2 =>
  if (gF w2 v0 5) = 0 then
    if (gF w2 (gP w2 v0 3) 0) = 0 then
      g_X4_takeOutside_84 n v0 w2
    else
      some ((3 : Int32), w2)
  else
    g_X4_takeOutside_84 n v0 w2
set_option maxHeartbeats 1000000 in
theorem t_X4_takeOutside_64 {tg r : Nat → Nat} {h hb : hp_H} {s sb : st_T} {n : Nat} {v0 : Nat} {s0 : Int32} {s1 : Nat} (I : iso tg r h s) (F : isf tg r hb h sb s) (T_v0 : tg v0 = 14) (T_s1 : tg s1 = 14) {res : Int32 × st_T} (hm : g_X4_takeOutside_64 n v0 s0 s1 s = some res) : ∃ h2, f_X4_takeOutside_64 n (r v0) s0 (r s1) h = some ((res.1, h2)) ∧ iso tg r h2 res.2 ∧ isf tg r hb h2 sb res.2 := by
  unfold g_X4_takeOutside_64 at hm
  unfold f_X4_takeOutside_64
  obtain ⟨_, hu1, hm⟩ := hp_bd hm
  refine tr_eq hu1 ?_
  obtain ⟨w2, hw2, hm⟩ := hp_bd hm
  obtain ⟨_, e2, I, F⟩ := t_wF (c := 4) (k := 5) I F T_s1 (by decide) (by decide) rfl hw2
  refine tr_eq e2 ?_
  refine tr_eq (t_fI I T_v0 (by decide) (by decide) rfl) ?_
  by_cases c5 : (gF w2 v0 5) = 0
  · rw [if_pos c5] at hm ⊢
    have T3 : tg (gP w2 v0 3) = 17 := t_tg (c := 4) I T_v0 (by decide) (by decide) rfl (by decide)
    refine tr_eq (t_fR I T_v0 (by decide) (by decide) (by decide)) ?_
    refine tr_eq (t_fI I T3 (by decide) (by decide) rfl) ?_
    by_cases c4 : (gF w2 (gP w2 v0 3) 0) = 0
    · rw [if_pos c4] at hm ⊢
      exact t_X4_takeOutside_84 I F T_v0 hm
    · rw [if_neg c4] at hm ⊢
      obtain rfl := Option.some.inj hm
      exact ⟨_, rfl, I, F⟩
  · rw [if_neg c5] at hm ⊢
    exact t_X4_takeOutside_84 I F T_v0 hm
def g_X4_takeOutside_52 (n : Nat) (v0 : Nat) (v1 : Int32) (s : st_T) : Option (Int32 × st_T) :=
  if v1 = (118 : Int32) then
    g_X4_takeOutside_64 n v0 (1 : Int32) v0 s
  else
    g_X4_takeOutside_64 n v0 (0 : Int32) v0 s
set_option maxHeartbeats 1000000 in
theorem t_X4_takeOutside_52 {tg r : Nat → Nat} {h hb : hp_H} {s sb : st_T} {n : Nat} {v0 : Nat} {v1 : Int32} (I : iso tg r h s) (F : isf tg r hb h sb s) (T_v0 : tg v0 = 14) {res : Int32 × st_T} (hm : g_X4_takeOutside_52 n v0 v1 s = some res) : ∃ h2, f_X4_takeOutside_52 n (r v0) v1 h = some ((res.1, h2)) ∧ iso tg r h2 res.2 ∧ isf tg r hb h2 sb res.2 := by
  unfold g_X4_takeOutside_52 at hm
  unfold f_X4_takeOutside_52
  by_cases c1 : v1 = (118 : Int32)
  · rw [if_pos c1] at hm ⊢
    exact t_X4_takeOutside_64 I F T_v0 T_v0 hm
  · rw [if_neg c1] at hm ⊢
    exact t_X4_takeOutside_64 I F T_v0 T_v0 hm
def g_X4_takeOutside_0 (n : Nat) (v0 : Nat) (v1 : Int32) (s : st_T) : Option (Int32 × st_T) :=
  if v1 = (99 : Int32) then
    g_X4_takeOutside_52 n v0 v1 s
  else if v1 = (100 : Int32) then
    (g_X4_begin n v0 (3 : Int32) s).bind fun x3 =>
    some (x3.1, x3.2)
  else if v1 = (118 : Int32) then
    g_X4_takeOutside_52 n v0 v1 s
  else if v1 = (123 : Int32) then
    (g_X7_openBlock n (gP s v0 3) s).bind fun x7 =>
    if x7.1 = 0 then
      some ((7 : Int32), x7.2)
    else
      some ((0 : Int32), x7.2)
  else if v1 = (125 : Int32) then
    if (gF s (gP s v0 3) 0) = 0 then
      some ((3 : Int32), s)
    else
      (g_X7_closeBlock n (gP s v0 3) (gP s v0 1) s).bind fun x13 =>
      some ((0 : Int32), x13)
  else 
    some ((3 : Int32), s)
set_option maxHeartbeats 1000000 in
theorem t_X4_takeOutside_0 {tg r : Nat → Nat} {h hb : hp_H} {s sb : st_T} {n : Nat} {v0 : Nat} {v1 : Int32} (I : iso tg r h s) (F : isf tg r hb h sb s) (T_v0 : tg v0 = 14) {res : Int32 × st_T} (hm : g_X4_takeOutside_0 n v0 v1 s = some res) : ∃ h2, f_X4_takeOutside_0 n (r v0) v1 h = some ((res.1, h2)) ∧ iso tg r h2 res.2 ∧ isf tg r hb h2 sb res.2 := by
  unfold g_X4_takeOutside_0 at hm
  unfold f_X4_takeOutside_0
  by_cases c1 : v1 = (99 : Int32)
  · rw [if_pos c1] at hm ⊢
    exact t_X4_takeOutside_52 I F T_v0 hm
  rw [if_neg c1] at hm ⊢
  by_cases c2 : v1 = (100 : Int32)
  · rw [if_pos c2] at hm ⊢
    obtain ⟨x3, hx3, hm⟩ := hp_bd hm
    obtain ⟨_, e2, I, F⟩ := t_X4_begin I F T_v0 hx3
    refine tr_eq e2 ?_
    try dsimp only
    obtain rfl := Option.some.inj hm
    exact ⟨_, rfl, I, F⟩
  rw [if_neg c2] at hm ⊢
  by_cases c4 : v1 = (118 : Int32)
  · rw [if_pos c4] at hm ⊢
    exact t_X4_takeOutside_52 I F T_v0 hm
  rw [if_neg c4] at hm ⊢
  by_cases c5 : v1 = (123 : Int32)
  · rw [if_pos c5] at hm ⊢
    have T6 : tg (gP s v0 3) = 17 := t_tg (c := 4) I T_v0 (by decide) (by decide) rfl (by decide)
    refine tr_eq (t_fR I T_v0 (by decide) (by decide) (by decide)) ?_
    obtain ⟨x7, hx7, hm⟩ := hp_bd hm
    obtain ⟨_, e2, I, F⟩ := t_X7_openBlock I F T6 hx7
    refine tr_eq e2 ?_
    try dsimp only
    by_cases c8 : x7.1 = 0
    · rw [if_pos c8] at hm ⊢
      obtain rfl := Option.some.inj hm
      exact ⟨_, rfl, I, F⟩
    · rw [if_neg c8] at hm ⊢
      obtain rfl := Option.some.inj hm
      exact ⟨_, rfl, I, F⟩
  rw [if_neg c5] at hm ⊢
  by_cases c9 : v1 = (125 : Int32)
  · rw [if_pos c9] at hm ⊢
    have T10 : tg (gP s v0 3) = 17 := t_tg (c := 4) I T_v0 (by decide) (by decide) rfl (by decide)
    refine tr_eq (t_fR I T_v0 (by decide) (by decide) (by decide)) ?_
    refine tr_eq (t_fI I T10 (by decide) (by decide) rfl) ?_
    by_cases c14 : (gF s (gP s v0 3) 0) = 0
    · rw [if_pos c14] at hm ⊢
      obtain rfl := Option.some.inj hm
      exact ⟨_, rfl, I, F⟩
    · rw [if_neg c14] at hm ⊢
      have T11 : tg (gP s v0 3) = 17 := t_tg (c := 4) I T_v0 (by decide) (by decide) rfl (by decide)
      refine tr_eq (t_fR I T_v0 (by decide) (by decide) (by decide)) ?_
      have T12 : tg (gP s v0 1) = 10 := t_tg (c := 4) I T_v0 (by decide) (by decide) rfl (by decide)
      refine tr_eq (t_fR I T_v0 (by decide) (by decide) (by decide)) ?_
      obtain ⟨x13, hx13, hm⟩ := hp_bd hm
      obtain ⟨_, e2, I, F⟩ := t_X7_closeBlock I F T11 T12 hx13
      refine tr_eq e2 ?_
      obtain rfl := Option.some.inj hm
      exact ⟨_, rfl, I, F⟩
  rw [if_neg c9] at hm ⊢
  obtain rfl := Option.some.inj hm
  exact ⟨_, rfl, I, F⟩
def g_X4_takeOutside (n : Nat) (v0 : Nat) (v1 : Int32) (s : st_T) : Option (Int32 × st_T) := g_X4_takeOutside_0 n v0 v1 s
theorem t_X4_takeOutside {tg r : Nat → Nat} {h hb : hp_H} {s sb : st_T} {n : Nat} {v0 : Nat} {v1 : Int32} (I : iso tg r h s) (F : isf tg r hb h sb s) (T_v0 : tg v0 = 14) {res : Int32 × st_T} (hm : g_X4_takeOutside n v0 v1 s = some res) : ∃ h2, f_X4_takeOutside n (r v0) v1 h = some ((res.1, h2)) ∧ iso tg r h2 res.2 ∧ isf tg r hb h2 sb res.2 := by
  unfold g_X4_takeOutside at hm
  unfold f_X4_takeOutside
  refine tr_eq (t_ck I T_v0 (by decide)) ?_
  exact t_X4_takeOutside_0 I F T_v0 hm
def g_X4_takeKind_0 (n : Nat) (v0 : Nat) (v1 : Int32) (s : st_T) : Option (Int32 × st_T) :=
  if v1 = (97 : Int32) then
    (wF s v0 6 (2 : Int32)).bind fun w2 =>
    (g_X4_begin n v0 (4 : Int32) w2).bind fun x3 =>
    some (x3.1, x3.2)
  else if v1 = (101 : Int32) then
    (wF s v0 6 (1 : Int32)).bind fun w5 =>
    (g_X4_begin n v0 (4 : Int32) w5).bind fun x6 =>
    some (x6.1, x6.2)
  else if v1 = (102 : Int32) then
    (wF s v0 6 (0 : Int32)).bind fun w8 =>
    (g_X4_begin n v0 (4 : Int32) w8).bind fun x9 =>
    some (x9.1, x9.2)
  else if v1 = (112 : Int32) then
    (wF s v0 6 (3 : Int32)).bind fun w11 =>
    (g_X4_begin n v0 (4 : Int32) w11).bind fun x12 =>
    some (x12.1, x12.2)
  else 
    some ((3 : Int32), s)
set_option maxHeartbeats 1000000 in
theorem t_X4_takeKind_0 {tg r : Nat → Nat} {h hb : hp_H} {s sb : st_T} {n : Nat} {v0 : Nat} {v1 : Int32} (I : iso tg r h s) (F : isf tg r hb h sb s) (T_v0 : tg v0 = 14) {res : Int32 × st_T} (hm : g_X4_takeKind_0 n v0 v1 s = some res) : ∃ h2, f_X4_takeKind_0 n (r v0) v1 h = some ((res.1, h2)) ∧ iso tg r h2 res.2 ∧ isf tg r hb h2 sb res.2 := by
  unfold g_X4_takeKind_0 at hm
  unfold f_X4_takeKind_0
  by_cases c1 : v1 = (97 : Int32)
  · rw [if_pos c1] at hm ⊢
    obtain ⟨w2, hw2, hm⟩ := hp_bd hm
    obtain ⟨_, e2, I, F⟩ := t_wF (c := 4) (k := 6) I F T_v0 (by decide) (by decide) rfl hw2
    refine tr_eq e2 ?_
    obtain ⟨x3, hx3, hm⟩ := hp_bd hm
    obtain ⟨_, e2, I, F⟩ := t_X4_begin I F T_v0 hx3
    refine tr_eq e2 ?_
    try dsimp only
    obtain rfl := Option.some.inj hm
    exact ⟨_, rfl, I, F⟩
  rw [if_neg c1] at hm ⊢
  by_cases c4 : v1 = (101 : Int32)
  · rw [if_pos c4] at hm ⊢
    obtain ⟨w5, hw5, hm⟩ := hp_bd hm
    obtain ⟨_, e2, I, F⟩ := t_wF (c := 4) (k := 6) I F T_v0 (by decide) (by decide) rfl hw5
    refine tr_eq e2 ?_
    obtain ⟨x6, hx6, hm⟩ := hp_bd hm
    obtain ⟨_, e2, I, F⟩ := t_X4_begin I F T_v0 hx6
    refine tr_eq e2 ?_
    try dsimp only
    obtain rfl := Option.some.inj hm
    exact ⟨_, rfl, I, F⟩
  rw [if_neg c4] at hm ⊢
  by_cases c7 : v1 = (102 : Int32)
  · rw [if_pos c7] at hm ⊢
    obtain ⟨w8, hw8, hm⟩ := hp_bd hm
    obtain ⟨_, e2, I, F⟩ := t_wF (c := 4) (k := 6) I F T_v0 (by decide) (by decide) rfl hw8
    refine tr_eq e2 ?_
    obtain ⟨x9, hx9, hm⟩ := hp_bd hm
    obtain ⟨_, e2, I, F⟩ := t_X4_begin I F T_v0 hx9
    refine tr_eq e2 ?_
    try dsimp only
    obtain rfl := Option.some.inj hm
    exact ⟨_, rfl, I, F⟩
  rw [if_neg c7] at hm ⊢
  by_cases c10 : v1 = (112 : Int32)
  · rw [if_pos c10] at hm ⊢
    obtain ⟨w11, hw11, hm⟩ := hp_bd hm
    obtain ⟨_, e2, I, F⟩ := t_wF (c := 4) (k := 6) I F T_v0 (by decide) (by decide) rfl hw11
    refine tr_eq e2 ?_
    obtain ⟨x12, hx12, hm⟩ := hp_bd hm
    obtain ⟨_, e2, I, F⟩ := t_X4_begin I F T_v0 hx12
    refine tr_eq e2 ?_
    try dsimp only
    obtain rfl := Option.some.inj hm
    exact ⟨_, rfl, I, F⟩
  rw [if_neg c10] at hm ⊢
  obtain rfl := Option.some.inj hm
  exact ⟨_, rfl, I, F⟩
def g_X4_takeKind (n : Nat) (v0 : Nat) (v1 : Int32) (s : st_T) : Option (Int32 × st_T) := g_X4_takeKind_0 n v0 v1 s
theorem t_X4_takeKind {tg r : Nat → Nat} {h hb : hp_H} {s sb : st_T} {n : Nat} {v0 : Nat} {v1 : Int32} (I : iso tg r h s) (F : isf tg r hb h sb s) (T_v0 : tg v0 = 14) {res : Int32 × st_T} (hm : g_X4_takeKind n v0 v1 s = some res) : ∃ h2, f_X4_takeKind n (r v0) v1 h = some ((res.1, h2)) ∧ iso tg r h2 res.2 ∧ isf tg r hb h2 sb res.2 := by
  unfold g_X4_takeKind at hm
  unfold f_X4_takeKind
  refine tr_eq (t_ck I T_v0 (by decide)) ?_
  exact t_X4_takeKind_0 I F T_v0 hm
def g_X4_takeDeclared_170 (n : Nat) (v0 : Nat) (s : st_T) : Option (Int32 × st_T) :=
  (wF s v0 9 ((gF s v0 9) + (1 : Int32))).bind fun w1 =>
  some ((0 : Int32), w1)
set_option maxHeartbeats 1000000 in
theorem t_X4_takeDeclared_170 {tg r : Nat → Nat} {h hb : hp_H} {s sb : st_T} {n : Nat} {v0 : Nat} (I : iso tg r h s) (F : isf tg r hb h sb s) (T_v0 : tg v0 = 14) {res : Int32 × st_T} (hm : g_X4_takeDeclared_170 n v0 s = some res) : ∃ h2, f_X4_takeDeclared_170 n (r v0) h = some ((res.1, h2)) ∧ iso tg r h2 res.2 ∧ isf tg r hb h2 sb res.2 := by
  unfold g_X4_takeDeclared_170 at hm
  unfold f_X4_takeDeclared_170
  refine tr_eq (t_fI I T_v0 (by decide) (by decide) rfl) ?_
  obtain ⟨w1, hw1, hm⟩ := hp_bd hm
  obtain ⟨_, e2, I, F⟩ := t_wF (c := 4) (k := 9) I F T_v0 (by decide) (by decide) rfl hw1
  refine tr_eq e2 ?_
  obtain rfl := Option.some.inj hm
  exact ⟨_, rfl, I, F⟩
def g_X4_takeDeclared_155 (n : Nat) (v0 : Nat) (v2 : Int32) (s : st_T) : Option (Int32 × st_T) :=
  if (gF s v0 5) = 0 then
    g_X4_takeDeclared_170 n v0 s
  else
    (g_X7_activate n (gP s v0 3) v2 s).bind fun x2 =>
    g_X4_takeDeclared_170 n v0 x2
set_option maxHeartbeats 1000000 in
theorem t_X4_takeDeclared_155 {tg r : Nat → Nat} {h hb : hp_H} {s sb : st_T} {n : Nat} {v0 : Nat} {v2 : Int32} (I : iso tg r h s) (F : isf tg r hb h sb s) (T_v0 : tg v0 = 14) {res : Int32 × st_T} (hm : g_X4_takeDeclared_155 n v0 v2 s = some res) : ∃ h2, f_X4_takeDeclared_155 n (r v0) v2 h = some ((res.1, h2)) ∧ iso tg r h2 res.2 ∧ isf tg r hb h2 sb res.2 := by
  unfold g_X4_takeDeclared_155 at hm
  unfold f_X4_takeDeclared_155
  refine tr_eq (t_fI I T_v0 (by decide) (by decide) rfl) ?_
  by_cases c3 : (gF s v0 5) = 0
  · rw [if_pos c3] at hm ⊢
    exact t_X4_takeDeclared_170 I F T_v0 hm
  · rw [if_neg c3] at hm ⊢
    have T1 : tg (gP s v0 3) = 17 := t_tg (c := 4) I T_v0 (by decide) (by decide) rfl (by decide)
    refine tr_eq (t_fR I T_v0 (by decide) (by decide) (by decide)) ?_
    obtain ⟨x2, hx2, hm⟩ := hp_bd hm
    obtain ⟨_, e2, I, F⟩ := t_X7_activate I F T1 hx2
    refine tr_eq e2 ?_
    exact t_X4_takeDeclared_170 I F T_v0 hm
def g_X4_takeDeclared_116 (n : Nat) (v0 : Nat) (v2 : Int32) (v4 : Int32) (s : st_T) : Option (Int32 × st_T) :=
  if v4 = 0 then
    (g_X0_addSymbol n (gP s v0 1) (gF s v0 5) (gF s (gP s v0 2) 0) ((gF s (gP s v0 2) 1) - (gF s (gP s v0 2) 0)) s).bind fun x5 =>
    g_X4_takeDeclared_155 n v0 x5.1 x5.2
  else
    g_X4_takeDeclared_155 n v0 v2 s
set_option maxHeartbeats 1000000 in
theorem t_X4_takeDeclared_116 {tg r : Nat → Nat} {h hb : hp_H} {s sb : st_T} {n : Nat} {v0 : Nat} {v2 : Int32} {v4 : Int32} (I : iso tg r h s) (F : isf tg r hb h sb s) (T_v0 : tg v0 = 14) {res : Int32 × st_T} (hm : g_X4_takeDeclared_116 n v0 v2 v4 s = some res) : ∃ h2, f_X4_takeDeclared_116 n (r v0) v2 v4 h = some ((res.1, h2)) ∧ iso tg r h2 res.2 ∧ isf tg r hb h2 sb res.2 := by
  unfold g_X4_takeDeclared_116 at hm
  unfold f_X4_takeDeclared_116
  by_cases c6 : v4 = 0
  · rw [if_pos c6] at hm ⊢
    have T1 : tg (gP s v0 1) = 10 := t_tg (c := 4) I T_v0 (by decide) (by decide) rfl (by decide)
    refine tr_eq (t_fR I T_v0 (by decide) (by decide) (by decide)) ?_
    refine tr_eq (t_fI I T_v0 (by decide) (by decide) rfl) ?_
    have T2 : tg (gP s v0 2) = 16 := t_tg (c := 4) I T_v0 (by decide) (by decide) rfl (by decide)
    refine tr_eq (t_fR I T_v0 (by decide) (by decide) (by decide)) ?_
    refine tr_eq (t_fI I T2 (by decide) (by decide) rfl) ?_
    have T3 : tg (gP s v0 2) = 16 := t_tg (c := 4) I T_v0 (by decide) (by decide) rfl (by decide)
    refine tr_eq (t_fR I T_v0 (by decide) (by decide) (by decide)) ?_
    refine tr_eq (t_fI I T3 (by decide) (by decide) rfl) ?_
    have T4 : tg (gP s v0 2) = 16 := t_tg (c := 4) I T_v0 (by decide) (by decide) rfl (by decide)
    refine tr_eq (t_fR I T_v0 (by decide) (by decide) (by decide)) ?_
    refine tr_eq (t_fI I T4 (by decide) (by decide) rfl) ?_
    obtain ⟨x5, hx5, hm⟩ := hp_bd hm
    obtain ⟨_, e2, I, F⟩ := t_X0_addSymbol I F T1 hx5
    refine tr_eq e2 ?_
    try dsimp only
    exact t_X4_takeDeclared_155 I F T_v0 hm
  · rw [if_neg c6] at hm ⊢
    exact t_X4_takeDeclared_155 I F T_v0 hm
def g_X4_takeDeclared_102 (n : Nat) (v0 : Nat) (v2 : Int32) (s0 : Int32) (s : st_T) : Option (Int32 × st_T) :=
  if v2 = (-1 : Int32) then
    g_X4_takeDeclared_116 n v0 v2 s0 s
  else
    if s0 = 0 then
      some ((5 : Int32), s)
    else
      g_X4_takeDeclared_116 n v0 v2 s0 s
set_option maxHeartbeats 1000000 in
theorem t_X4_takeDeclared_102 {tg r : Nat → Nat} {h hb : hp_H} {s sb : st_T} {n : Nat} {v0 : Nat} {v2 : Int32} {s0 : Int32} (I : iso tg r h s) (F : isf tg r hb h sb s) (T_v0 : tg v0 = 14) {res : Int32 × st_T} (hm : g_X4_takeDeclared_102 n v0 v2 s0 s = some res) : ∃ h2, f_X4_takeDeclared_102 n (r v0) v2 s0 h = some ((res.1, h2)) ∧ iso tg r h2 res.2 ∧ isf tg r hb h2 sb res.2 := by
  unfold g_X4_takeDeclared_102 at hm
  unfold f_X4_takeDeclared_102
  by_cases c2 : v2 = (-1 : Int32)
  · rw [if_pos c2] at hm ⊢
    exact t_X4_takeDeclared_116 I F T_v0 hm
  · rw [if_neg c2] at hm ⊢
    by_cases c1 : s0 = 0
    · rw [if_pos c1] at hm ⊢
      obtain rfl := Option.some.inj hm
      exact ⟨_, rfl, I, F⟩
    · rw [if_neg c1] at hm ⊢
      exact t_X4_takeDeclared_116 I F T_v0 hm
def g_X4_takeDeclared_101 (n : Nat) (v0 : Nat) (v2 : Int32) (s : st_T) : Option (Int32 × st_T) :=
  g_X4_takeDeclared_102 n v0 v2 (0 : Int32) s
set_option maxHeartbeats 1000000 in
theorem t_X4_takeDeclared_101 {tg r : Nat → Nat} {h hb : hp_H} {s sb : st_T} {n : Nat} {v0 : Nat} {v2 : Int32} (I : iso tg r h s) (F : isf tg r hb h sb s) (T_v0 : tg v0 = 14) {res : Int32 × st_T} (hm : g_X4_takeDeclared_101 n v0 v2 s = some res) : ∃ h2, f_X4_takeDeclared_101 n (r v0) v2 h = some ((res.1, h2)) ∧ iso tg r h2 res.2 ∧ isf tg r hb h2 sb res.2 := by
  unfold g_X4_takeDeclared_101 at hm
  unfold f_X4_takeDeclared_101
  exact t_X4_takeDeclared_102 I F T_v0 hm
def g_X4_takeDeclared_68 (n : Nat) (v0 : Nat) (v2 : Int32) (s : st_T) : Option (Int32 × st_T) :=
  if (gF s v0 5) = 0 then
    g_X4_takeDeclared_101 n v0 v2 s
  else
    (g_X0_isVariable n (gP s v0 1) v2 s).bind fun x2 =>
    if x2 = 0 then
      g_X4_takeDeclared_101 n v0 v2 s
    else
      (g_X7_isActive n (gP s v0 3) v2 s).bind fun x4 =>
      if x4 = 0 then
        g_X4_takeDeclared_102 n v0 v2 (1 : Int32) s
      else
        g_X4_takeDeclared_101 n v0 v2 s
set_option maxHeartbeats 1000000 in
theorem t_X4_takeDeclared_68 {tg r : Nat → Nat} {h hb : hp_H} {s sb : st_T} {n : Nat} {v0 : Nat} {v2 : Int32} (I : iso tg r h s) (F : isf tg r hb h sb s) (T_v0 : tg v0 = 14) {res : Int32 × st_T} (hm : g_X4_takeDeclared_68 n v0 v2 s = some res) : ∃ h2, f_X4_takeDeclared_68 n (r v0) v2 h = some ((res.1, h2)) ∧ iso tg r h2 res.2 ∧ isf tg r hb h2 sb res.2 := by
  unfold g_X4_takeDeclared_68 at hm
  unfold f_X4_takeDeclared_68
  refine tr_eq (t_fI I T_v0 (by decide) (by decide) rfl) ?_
  by_cases c7 : (gF s v0 5) = 0
  · rw [if_pos c7] at hm ⊢
    exact t_X4_takeDeclared_101 I F T_v0 hm
  · rw [if_neg c7] at hm ⊢
    have T1 : tg (gP s v0 1) = 10 := t_tg (c := 4) I T_v0 (by decide) (by decide) rfl (by decide)
    refine tr_eq (t_fR I T_v0 (by decide) (by decide) (by decide)) ?_
    obtain ⟨x2, hx2, hm⟩ := hp_bd hm
    refine tr_eq (t_X0_isVariable I T1 hx2) ?_
    by_cases c6 : x2 = 0
    · rw [if_pos c6] at hm ⊢
      exact t_X4_takeDeclared_101 I F T_v0 hm
    · rw [if_neg c6] at hm ⊢
      have T3 : tg (gP s v0 3) = 17 := t_tg (c := 4) I T_v0 (by decide) (by decide) rfl (by decide)
      refine tr_eq (t_fR I T_v0 (by decide) (by decide) (by decide)) ?_
      obtain ⟨x4, hx4, hm⟩ := hp_bd hm
      refine tr_eq (t_X7_isActive I T3 hx4) ?_
      by_cases c5 : x4 = 0
      · rw [if_pos c5] at hm ⊢
        exact t_X4_takeDeclared_102 I F T_v0 hm
      · rw [if_neg c5] at hm ⊢
        exact t_X4_takeDeclared_101 I F T_v0 hm
def g_X4_takeDeclared_47 (n : Nat) (v0 : Nat) (v2 : Int32) (s0 : Int32) (s : st_T) : Option (Int32 × st_T) :=
  if s0 = 0 then
    if (gF s (gP s v0 1) 3) = (300 : Int32) then
      some ((7 : Int32), s)
    else
      g_X4_takeDeclared_68 n v0 v2 s
  else
    g_X4_takeDeclared_68 n v0 v2 s
set_option maxHeartbeats 1000000 in
theorem t_X4_takeDeclared_47 {tg r : Nat → Nat} {h hb : hp_H} {s sb : st_T} {n : Nat} {v0 : Nat} {v2 : Int32} {s0 : Int32} (I : iso tg r h s) (F : isf tg r hb h sb s) (T_v0 : tg v0 = 14) {res : Int32 × st_T} (hm : g_X4_takeDeclared_47 n v0 v2 s0 s = some res) : ∃ h2, f_X4_takeDeclared_47 n (r v0) v2 s0 h = some ((res.1, h2)) ∧ iso tg r h2 res.2 ∧ isf tg r hb h2 sb res.2 := by
  unfold g_X4_takeDeclared_47 at hm
  unfold f_X4_takeDeclared_47
  by_cases c3 : s0 = 0
  · rw [if_pos c3] at hm ⊢
    have T1 : tg (gP s v0 1) = 10 := t_tg (c := 4) I T_v0 (by decide) (by decide) rfl (by decide)
    refine tr_eq (t_fR I T_v0 (by decide) (by decide) (by decide)) ?_
    refine tr_eq (t_fI I T1 (by decide) (by decide) rfl) ?_
    by_cases c2 : (gF s (gP s v0 1) 3) = (300 : Int32)
    · rw [if_pos c2] at hm ⊢
      obtain rfl := Option.some.inj hm
      exact ⟨_, rfl, I, F⟩
    · rw [if_neg c2] at hm ⊢
      exact t_X4_takeDeclared_68 I F T_v0 hm
  · rw [if_neg c3] at hm ⊢
    exact t_X4_takeDeclared_68 I F T_v0 hm
def g_X4_takeDeclared_46 (n : Nat) (v0 : Nat) (v2 : Int32) (s : st_T) : Option (Int32 × st_T) :=
  g_X4_takeDeclared_47 n v0 v2 (0 : Int32) s
set_option maxHeartbeats 1000000 in
theorem t_X4_takeDeclared_46 {tg r : Nat → Nat} {h hb : hp_H} {s sb : st_T} {n : Nat} {v0 : Nat} {v2 : Int32} (I : iso tg r h s) (F : isf tg r hb h sb s) (T_v0 : tg v0 = 14) {res : Int32 × st_T} (hm : g_X4_takeDeclared_46 n v0 v2 s = some res) : ∃ h2, f_X4_takeDeclared_46 n (r v0) v2 h = some ((res.1, h2)) ∧ iso tg r h2 res.2 ∧ isf tg r hb h2 sb res.2 := by
  unfold g_X4_takeDeclared_46 at hm
  unfold f_X4_takeDeclared_46
  exact t_X4_takeDeclared_47 I F T_v0 hm
def g_X4_takeDeclared_19 (n : Nat) (v0 : Nat) (v1 : Int32) (s : st_T) : Option (Int32 × st_T) :=
  if v1 = 0 then
    (g_X4_namedByToken n v0 s).bind fun x1 =>
    if x1 = (-1 : Int32) then
      g_X4_takeDeclared_46 n v0 x1 s
    else
      if (300 : Int32) ≤ x1 then
        g_X4_takeDeclared_46 n v0 x1 s
      else
        g_X4_takeDeclared_47 n v0 x1 (1 : Int32) s
  else
    some ((3 : Int32), s)
set_option maxHeartbeats 1000000 in
theorem t_X4_takeDeclared_19 {tg r : Nat → Nat} {h hb : hp_H} {s sb : st_T} {n : Nat} {v0 : Nat} {v1 : Int32} (I : iso tg r h s) (F : isf tg r hb h sb s) (T_v0 : tg v0 = 14) {res : Int32 × st_T} (hm : g_X4_takeDeclared_19 n v0 v1 s = some res) : ∃ h2, f_X4_takeDeclared_19 n (r v0) v1 h = some ((res.1, h2)) ∧ iso tg r h2 res.2 ∧ isf tg r hb h2 sb res.2 := by
  unfold g_X4_takeDeclared_19 at hm
  unfold f_X4_takeDeclared_19
  by_cases c4 : v1 = 0
  · rw [if_pos c4] at hm ⊢
    obtain ⟨x1, hx1, hm⟩ := hp_bd hm
    refine tr_eq (t_X4_namedByToken I T_v0 hx1) ?_
    by_cases c3 : x1 = (-1 : Int32)
    · rw [if_pos c3] at hm ⊢
      exact t_X4_takeDeclared_46 I F T_v0 hm
    · rw [if_neg c3] at hm ⊢
      by_cases c2 : (300 : Int32) ≤ x1
      · rw [if_pos c2] at hm ⊢
        exact t_X4_takeDeclared_46 I F T_v0 hm
      · rw [if_neg c2] at hm ⊢
        exact t_X4_takeDeclared_47 I F T_v0 hm
  · rw [if_neg c4] at hm ⊢
    obtain rfl := Option.some.inj hm
    exact ⟨_, rfl, I, F⟩
def g_X4_takeDeclared_0 (n : Nat) (v0 : Nat) (v1 : Int32) (s : st_T) : Option (Int32 × st_T) :=
  if v1 = (46 : Int32) then
    if (gF s v0 9) ≤ 0 then
      g_X4_takeDeclared_19 n v0 v1 s
    else
      (g_X4_begin n v0 (0 : Int32) s).bind fun x1 =>
      some (x1.1, x1.2)
  else
    g_X4_takeDeclared_19 n v0 v1 s
set_option maxHeartbeats 1000000 in
theorem t_X4_takeDeclared_0 {tg r : Nat → Nat} {h hb : hp_H} {s sb : st_T} {n : Nat} {v0 : Nat} {v1 : Int32} (I : iso tg r h s) (F : isf tg r hb h sb s) (T_v0 : tg v0 = 14) {res : Int32 × st_T} (hm : g_X4_takeDeclared_0 n v0 v1 s = some res) : ∃ h2, f_X4_takeDeclared_0 n (r v0) v1 h = some ((res.1, h2)) ∧ iso tg r h2 res.2 ∧ isf tg r hb h2 sb res.2 := by
  unfold g_X4_takeDeclared_0 at hm
  unfold f_X4_takeDeclared_0
  by_cases c3 : v1 = (46 : Int32)
  · rw [if_pos c3] at hm ⊢
    refine tr_eq (t_fI I T_v0 (by decide) (by decide) rfl) ?_
    by_cases c2 : (gF s v0 9) ≤ 0
    · rw [if_pos c2] at hm ⊢
      exact t_X4_takeDeclared_19 I F T_v0 hm
    · rw [if_neg c2] at hm ⊢
      obtain ⟨x1, hx1, hm⟩ := hp_bd hm
      obtain ⟨_, e2, I, F⟩ := t_X4_begin I F T_v0 hx1
      refine tr_eq e2 ?_
      try dsimp only
      obtain rfl := Option.some.inj hm
      exact ⟨_, rfl, I, F⟩
  · rw [if_neg c3] at hm ⊢
    exact t_X4_takeDeclared_19 I F T_v0 hm
def g_X4_takeDeclared (n : Nat) (v0 : Nat) (v1 : Int32) (s : st_T) : Option (Int32 × st_T) := g_X4_takeDeclared_0 n v0 v1 s
theorem t_X4_takeDeclared {tg r : Nat → Nat} {h hb : hp_H} {s sb : st_T} {n : Nat} {v0 : Nat} {v1 : Int32} (I : iso tg r h s) (F : isf tg r hb h sb s) (T_v0 : tg v0 = 14) {res : Int32 × st_T} (hm : g_X4_takeDeclared n v0 v1 s = some res) : ∃ h2, f_X4_takeDeclared n (r v0) v1 h = some ((res.1, h2)) ∧ iso tg r h2 res.2 ∧ isf tg r hb h2 sb res.2 := by
  unfold g_X4_takeDeclared at hm
  unfold f_X4_takeDeclared
  refine tr_eq (t_ck I T_v0 (by decide)) ?_
  exact t_X4_takeDeclared_0 I F T_v0 hm
def g_X4_takeSeparated_59 (n : Nat) (v0 : Nat) (v2 : Int32) (v3 : Int32) (s : st_T) : Option ((Int32) ⊕ ((Unit) ⊕ (Int32))) :=
  if (gF s v0 9) ≤ v3 then
    some (.inr (.inl ()))
  else
    (gA s (gP s v0 10) v3).bind fun x2 =>
    if x2 = v2 then
      some (.inr (.inr (6 : Int32)))
    else
      some (.inl (v3 + (1 : Int32)))
set_option maxHeartbeats 1000000 in
theorem t_X4_takeSeparated_59 {tg r : Nat → Nat} {h : hp_H} {s : st_T} {n : Nat} {v0 : Nat} {v2 : Int32} {v3 : Int32} (I : iso tg r h s) (T_v0 : tg v0 = 14) {res : (Int32) ⊕ ((Unit) ⊕ (Int32))} (hm : g_X4_takeSeparated_59 n v0 v2 v3 s = some res) : f_X4_takeSeparated_59 n (r v0) v2 v3 h = some res := by
  unfold g_X4_takeSeparated_59 at hm
  unfold f_X4_takeSeparated_59
  refine tr_eq0 (t_fI I T_v0 (by decide) (by decide) rfl) ?_
  by_cases c4 : (gF s v0 9) ≤ v3
  · rw [if_pos c4] at hm ⊢
    obtain rfl := Option.some.inj hm
    rfl
  · rw [if_neg c4] at hm ⊢
    have T1 : tg (gP s v0 10) = 0 := t_tg (c := 4) I T_v0 (by decide) (by decide) rfl (by decide)
    refine tr_eq0 (t_fR I T_v0 (by decide) (by decide) (by decide)) ?_
    obtain ⟨x2, hx2, hm⟩ := hp_bd hm
    refine tr_eq0 (t_aI I T1 (by decide) rfl hx2) ?_
    by_cases c3 : x2 = v2
    · rw [if_pos c3] at hm ⊢
      obtain rfl := Option.some.inj hm
      rfl
    · rw [if_neg c3] at hm ⊢
      obtain rfl := Option.some.inj hm
      rfl
def gL_X4_takeSeparated_59 (n : Nat) (v0 : Nat) (v2 : Int32) (s : st_T) (c : Int32) : Option ((Int32) ⊕ ((Unit) ⊕ (Int32))) := g_X4_takeSeparated_59 n v0 v2 c s
theorem tl_X4_takeSeparated_59 {tg r : Nat → Nat} {h : hp_H} {s : st_T} {n : Nat} {v0 : Nat} {v2 : Int32} (I : iso tg r h s) (T_v0 : tg v0 = 14) : ∀ (k : Nat) (c : Int32) (x : (Unit) ⊕ (Int32)), hp_lp (gL_X4_takeSeparated_59 n v0 v2 s) k c = some x → hp_lp (fL_X4_takeSeparated_59 n (r v0) v2 h) k c = some x := by
  intro k
  induction k with
  | zero => intro c x hx; exact (hp_lp_0 hx).elim
  | succ k ih =>
    intro c x hx
    obtain ⟨rr, hr, hc⟩ := hp_lp_1 hx
    have e2 := t_X4_takeSeparated_59 I T_v0 hr
    rcases hc with ⟨s3, e3, hx3⟩ | e3
    · subst e3
      exact hp_lp_s e2 (ih _ _ hx3)
    · subst e3
      exact hp_lp_x e2
abbrev eX_X4_takeSeparated_88 (x : (st_T) ⊕ (Int32 × st_T)) (h2 : hp_H) : (hp_H) ⊕ (Int32 × hp_H) := (Sum.elim (fun y => (.inl h2)) (fun y => (.inr (y.1, h2)))) x
abbrev sX_X4_takeSeparated_88 (x : (st_T) ⊕ (Int32 × st_T)) : st_T := (Sum.elim (fun y => y) (fun y => y.2)) x
abbrev eR_X4_takeSeparated_88 (x : (Int32 × st_T) ⊕ ((st_T) ⊕ (Int32 × st_T))) (h2 : hp_H) : (Int32 × hp_H) ⊕ ((hp_H) ⊕ (Int32 × hp_H)) := Sum.elim (fun y => .inl (y.1, h2)) (fun y => .inr (eX_X4_takeSeparated_88 y h2)) x
abbrev sR_X4_takeSeparated_88 (x : (Int32 × st_T) ⊕ ((st_T) ⊕ (Int32 × st_T))) : st_T := Sum.elim (fun y => y.2) sX_X4_takeSeparated_88 x
def g_X4_takeSeparated_88 (n : Nat) (v0 : Nat) (v2 : Int32) (v3 : Int32) (s : st_T) : Option ((Int32 × st_T) ⊕ ((st_T) ⊕ (Int32 × st_T))) :=
  if (gF s v0 9) ≤ v3 then
    some (.inr (.inl s))
  else
    (gA s (gP s v0 10) v3).bind fun x3 =>
    (g_X7_addPair n (gP s v0 3) x3 v2 s).bind fun x4 =>
    if x4.1 = 0 then
      some (.inr (.inr ((7 : Int32), x4.2)))
    else
      some (.inl ((v3 + (1 : Int32)), x4.2))
set_option maxHeartbeats 1000000 in
theorem t_X4_takeSeparated_88 {tg r : Nat → Nat} {h hb : hp_H} {s sb : st_T} {n : Nat} {v0 : Nat} {v2 : Int32} {v3 : Int32} (I : iso tg r h s) (F : isf tg r hb h sb s) (T_v0 : tg v0 = 14) {res : (Int32 × st_T) ⊕ ((st_T) ⊕ (Int32 × st_T))} (hm : g_X4_takeSeparated_88 n v0 v2 v3 s = some res) : ∃ h2, f_X4_takeSeparated_88 n (r v0) v2 v3 h = some (eR_X4_takeSeparated_88 res h2) ∧ iso tg r h2 (sR_X4_takeSeparated_88 res) ∧ isf tg r hb h2 sb (sR_X4_takeSeparated_88 res) := by
  unfold g_X4_takeSeparated_88 at hm
  unfold f_X4_takeSeparated_88
  refine tr_eq (t_fI I T_v0 (by decide) (by decide) rfl) ?_
  by_cases c6 : (gF s v0 9) ≤ v3
  · rw [if_pos c6] at hm ⊢
    obtain rfl := Option.some.inj hm
    exact ⟨_, rfl, I, F⟩
  · rw [if_neg c6] at hm ⊢
    have T1 : tg (gP s v0 3) = 17 := t_tg (c := 4) I T_v0 (by decide) (by decide) rfl (by decide)
    refine tr_eq (t_fR I T_v0 (by decide) (by decide) (by decide)) ?_
    have T2 : tg (gP s v0 10) = 0 := t_tg (c := 4) I T_v0 (by decide) (by decide) rfl (by decide)
    refine tr_eq (t_fR I T_v0 (by decide) (by decide) (by decide)) ?_
    obtain ⟨x3, hx3, hm⟩ := hp_bd hm
    refine tr_eq (t_aI I T2 (by decide) rfl hx3) ?_
    obtain ⟨x4, hx4, hm⟩ := hp_bd hm
    obtain ⟨_, e2, I, F⟩ := t_X7_addPair I F T1 hx4
    refine tr_eq e2 ?_
    try dsimp only
    by_cases c5 : x4.1 = 0
    · rw [if_pos c5] at hm ⊢
      obtain rfl := Option.some.inj hm
      exact ⟨_, rfl, I, F⟩
    · rw [if_neg c5] at hm ⊢
      obtain rfl := Option.some.inj hm
      exact ⟨_, rfl, I, F⟩
def gL_X4_takeSeparated_88 (n : Nat) (v0 : Nat) (v2 : Int32) (c : Int32 × st_T) : Option ((Int32 × st_T) ⊕ ((st_T) ⊕ (Int32 × st_T))) := g_X4_takeSeparated_88 n v0 v2 c.1 c.2
theorem tl_X4_takeSeparated_88 {tg r : Nat → Nat} {hb : hp_H} {sb : st_T} {n : Nat} {v0 : Nat} {v2 : Int32} (T_v0 : tg v0 = 14) : ∀ (k : Nat) (c0 : Int32) (h : hp_H) (s : st_T) (x : (st_T) ⊕ (Int32 × st_T)), iso tg r h s → isf tg r hb h sb s → hp_lp (gL_X4_takeSeparated_88 n v0 v2) k (c0, s) = some x → ∃ h2, hp_lp (fL_X4_takeSeparated_88 n (r v0) v2) k (c0, h) = some (eX_X4_takeSeparated_88 x h2) ∧ iso tg r h2 (sX_X4_takeSeparated_88 x) ∧ isf tg r hb h2 sb (sX_X4_takeSeparated_88 x) := by
  intro k
  induction k with
  | zero => intro c0 h s x I F hx; exact (hp_lp_0 hx).elim
  | succ k ih =>
    intro c0 h s x I F hx
    obtain ⟨rr, hr, hc⟩ := hp_lp_1 hx
    obtain ⟨h2, e2, I2, F2⟩ := t_X4_takeSeparated_88 I F T_v0 hr
    rcases hc with ⟨s3, e3, hx3⟩ | e3
    · subst e3
      obtain ⟨h3, e4, I3, F3⟩ := ih _ h2 _ x I2 F2 hx3
      exact ⟨h3, hp_lp_s e2 e4, I3, F3⟩
    · subst e3
      exact ⟨h2, hp_lp_x e2, I2, F2⟩
def g_X4_takeSeparated_20 (n : Nat) (v0 : Nat) (v1 : Int32) (s : st_T) : Option (Int32 × st_T) :=
  if v1 = 0 then
    if (gF s v0 9) = (8 : Int32) then
      some ((7 : Int32), s)
    else
      (g_X4_namedByToken n v0 s).bind fun x1 =>
      (g_X7_isActive n (gP s v0 3) x1 s).bind fun x3 =>
      if x3 = 0 then
        some ((6 : Int32), s)
      else
        (hp_lp (gL_X4_takeSeparated_59 n v0 x1 s) n (0 : Int32)).bind fun x4 =>
        Sum.elim (fun y5 =>
          (hp_lp (gL_X4_takeSeparated_88 n v0 x1) n ((0 : Int32), s)).bind fun x7 =>
          Sum.elim (fun y8 =>
            (uA 0 y8 (gP y8 v0 10) (gF y8 v0 9) x1).bind fun w11 =>
            (wF w11 v0 9 ((gF w11 v0 9) + (1 : Int32))).bind fun w12 =>
            some ((0 : Int32), w12)) (fun y9 =>
            some (y9.1, y9.2)) x7) (fun y6 =>
          some (y6, s)) x4
  else
    some ((3 : Int32), s)
set_option maxHeartbeats 1000000 in
theorem t_X4_takeSeparated_20 {tg r : Nat → Nat} {h hb : hp_H} {s sb : st_T} {n : Nat} {v0 : Nat} {v1 : Int32} (I : iso tg r h s) (F : isf tg r hb h sb s) (T_v0 : tg v0 = 14) {res : Int32 × st_T} (hm : g_X4_takeSeparated_20 n v0 v1 s = some res) : ∃ h2, f_X4_takeSeparated_20 n (r v0) v1 h = some ((res.1, h2)) ∧ iso tg r h2 res.2 ∧ isf tg r hb h2 sb res.2 := by
  unfold g_X4_takeSeparated_20 at hm
  unfold f_X4_takeSeparated_20
  by_cases c15 : v1 = 0
  · rw [if_pos c15] at hm ⊢
    refine tr_eq (t_fI I T_v0 (by decide) (by decide) rfl) ?_
    by_cases c14 : (gF s v0 9) = (8 : Int32)
    · rw [if_pos c14] at hm ⊢
      obtain rfl := Option.some.inj hm
      exact ⟨_, rfl, I, F⟩
    · rw [if_neg c14] at hm ⊢
      obtain ⟨x1, hx1, hm⟩ := hp_bd hm
      refine tr_eq (t_X4_namedByToken I T_v0 hx1) ?_
      have T2 : tg (gP s v0 3) = 17 := t_tg (c := 4) I T_v0 (by decide) (by decide) rfl (by decide)
      refine tr_eq (t_fR I T_v0 (by decide) (by decide) (by decide)) ?_
      obtain ⟨x3, hx3, hm⟩ := hp_bd hm
      refine tr_eq (t_X7_isActive I T2 hx3) ?_
      by_cases c13 : x3 = 0
      · rw [if_pos c13] at hm ⊢
        obtain rfl := Option.some.inj hm
        exact ⟨_, rfl, I, F⟩
      · rw [if_neg c13] at hm ⊢
        obtain ⟨x4, hx4, hm⟩ := hp_bd hm
        refine tr_eq (tl_X4_takeSeparated_59 I T_v0 n _ _ hx4) ?_
        rcases x4 with y5 | y6
        · simp only [Sum.elim_inl, Sum.elim_inr] at hm ⊢
          obtain ⟨x7, hx7, hm⟩ := hp_bd hm
          obtain ⟨_, e2, I, F⟩ := tl_X4_takeSeparated_88 T_v0 n _ _ _ _ I F hx7
          refine tr_eq e2 ?_
          rcases x7 with y8 | y9
          · simp only [eX_X4_takeSeparated_88, Sum.elim_inl, Sum.elim_inr] at hm ⊢
            replace I : iso tg _ _ y8 := I
            replace F : isf tg _ _ _ _ y8 := F
            have T10 : tg (gP y8 v0 10) = 0 := t_tg (c := 4) I T_v0 (by decide) (by decide) rfl (by decide)
            refine tr_eq (t_fR I T_v0 (by decide) (by decide) (by decide)) ?_
            refine tr_eq (t_fI I T_v0 (by decide) (by decide) rfl) ?_
            obtain ⟨w11, hw11, hm⟩ := hp_bd hm
            obtain ⟨_, e2, I, F⟩ := t_sI I F T10 (by decide) rfl hw11
            refine tr_eq e2 ?_
            refine tr_eq (t_fI I T_v0 (by decide) (by decide) rfl) ?_
            obtain ⟨w12, hw12, hm⟩ := hp_bd hm
            obtain ⟨_, e2, I, F⟩ := t_wF (c := 4) (k := 9) I F T_v0 (by decide) (by decide) rfl hw12
            refine tr_eq e2 ?_
            obtain rfl := Option.some.inj hm
            exact ⟨_, rfl, I, F⟩
          · simp only [eX_X4_takeSeparated_88, Sum.elim_inl, Sum.elim_inr] at hm ⊢
            replace I : iso tg _ _ y9.2 := I
            replace F : isf tg _ _ _ _ y9.2 := F
            obtain rfl := Option.some.inj hm
            exact ⟨_, rfl, I, F⟩
        · simp only [Sum.elim_inl, Sum.elim_inr] at hm ⊢
          obtain rfl := Option.some.inj hm
          exact ⟨_, rfl, I, F⟩
  · rw [if_neg c15] at hm ⊢
    obtain rfl := Option.some.inj hm
    exact ⟨_, rfl, I, F⟩
def g_X4_takeSeparated_0 (n : Nat) (v0 : Nat) (v1 : Int32) (s : st_T) : Option (Int32 × st_T) :=
  if v1 = (46 : Int32) then
    if (gF s v0 9) < (2 : Int32) then
      g_X4_takeSeparated_20 n v0 v1 s
    else
      (g_X4_begin n v0 (0 : Int32) s).bind fun x1 =>
      some (x1.1, x1.2)
  else
    g_X4_takeSeparated_20 n v0 v1 s
set_option maxHeartbeats 1000000 in
theorem t_X4_takeSeparated_0 {tg r : Nat → Nat} {h hb : hp_H} {s sb : st_T} {n : Nat} {v0 : Nat} {v1 : Int32} (I : iso tg r h s) (F : isf tg r hb h sb s) (T_v0 : tg v0 = 14) {res : Int32 × st_T} (hm : g_X4_takeSeparated_0 n v0 v1 s = some res) : ∃ h2, f_X4_takeSeparated_0 n (r v0) v1 h = some ((res.1, h2)) ∧ iso tg r h2 res.2 ∧ isf tg r hb h2 sb res.2 := by
  unfold g_X4_takeSeparated_0 at hm
  unfold f_X4_takeSeparated_0
  by_cases c3 : v1 = (46 : Int32)
  · rw [if_pos c3] at hm ⊢
    refine tr_eq (t_fI I T_v0 (by decide) (by decide) rfl) ?_
    by_cases c2 : (gF s v0 9) < (2 : Int32)
    · rw [if_pos c2] at hm ⊢
      exact t_X4_takeSeparated_20 I F T_v0 hm
    · rw [if_neg c2] at hm ⊢
      obtain ⟨x1, hx1, hm⟩ := hp_bd hm
      obtain ⟨_, e2, I, F⟩ := t_X4_begin I F T_v0 hx1
      refine tr_eq e2 ?_
      try dsimp only
      obtain rfl := Option.some.inj hm
      exact ⟨_, rfl, I, F⟩
  · rw [if_neg c3] at hm ⊢
    exact t_X4_takeSeparated_20 I F T_v0 hm
def g_X4_takeSeparated (n : Nat) (v0 : Nat) (v1 : Int32) (s : st_T) : Option (Int32 × st_T) := g_X4_takeSeparated_0 n v0 v1 s
theorem t_X4_takeSeparated {tg r : Nat → Nat} {h hb : hp_H} {s sb : st_T} {n : Nat} {v0 : Nat} {v1 : Int32} (I : iso tg r h s) (F : isf tg r hb h sb s) (T_v0 : tg v0 = 14) {res : Int32 × st_T} (hm : g_X4_takeSeparated n v0 v1 s = some res) : ∃ h2, f_X4_takeSeparated n (r v0) v1 h = some ((res.1, h2)) ∧ iso tg r h2 res.2 ∧ isf tg r hb h2 sb res.2 := by
  unfold g_X4_takeSeparated at hm
  unfold f_X4_takeSeparated
  refine tr_eq (t_ck I T_v0 (by decide)) ?_
  exact t_X4_takeSeparated_0 I F T_v0 hm
def g_X4_mayStand_73 (n : Nat) (s : st_T) : Option (Int32) :=
  some (1 : Int32)
set_option maxHeartbeats 1000000 in
theorem t_X4_mayStand_73 {tg r : Nat → Nat} {h : hp_H} {s : st_T} {n : Nat} (I : iso tg r h s) {res : Int32} (hm : g_X4_mayStand_73 n  s = some res) : f_X4_mayStand_73 n  h = some res := by
  unfold g_X4_mayStand_73 at hm
  unfold f_X4_mayStand_73
  obtain rfl := Option.some.inj hm
  rfl
def g_X4_mayStand_0 (n : Nat) (v0 : Nat) (v1 : Int32) (s : st_T) : Option (Int32) :=
  if (gF s v0 9) = 0 then
    (g_X0_isConstant n (gP s v0 1) v1 s).bind fun x15 =>
    (hp_bz x15).bind fun _ =>
    some x15
  else
    if (gF s v0 6) = 0 then
      (g_X7_isActive n (gP s v0 3) v1 s).bind fun x8 =>
      if x8 = 0 then
        some (0 : Int32)
      else
        (g_X7_isTyped n (gP s v0 3) v1 s).bind fun x10 =>
        if x10 = 0 then
          some (1 : Int32)
        else
          some (0 : Int32)
    else
      (g_X0_isConstant n (gP s v0 1) v1 s).bind fun x2 =>
      if x2 = 0 then
        (g_X7_isTyped n (gP s v0 3) v1 s).bind fun x4 =>
        if x4 = 0 then
          some (0 : Int32)
        else
          g_X4_mayStand_73 n  s
      else
        g_X4_mayStand_73 n  s
set_option maxHeartbeats 1000000 in
theorem t_X4_mayStand_0 {tg r : Nat → Nat} {h : hp_H} {s : st_T} {n : Nat} {v0 : Nat} {v1 : Int32} (I : iso tg r h s) (T_v0 : tg v0 = 14) {res : Int32} (hm : g_X4_mayStand_0 n v0 v1 s = some res) : f_X4_mayStand_0 n (r v0) v1 h = some res := by
  unfold g_X4_mayStand_0 at hm
  unfold f_X4_mayStand_0
  refine tr_eq0 (t_fI I T_v0 (by decide) (by decide) rfl) ?_
  by_cases c17 : (gF s v0 9) = 0
  · rw [if_pos c17] at hm ⊢
    have T14 : tg (gP s v0 1) = 10 := t_tg (c := 4) I T_v0 (by decide) (by decide) rfl (by decide)
    refine tr_eq0 (t_fR I T_v0 (by decide) (by decide) (by decide)) ?_
    obtain ⟨x15, hx15, hm⟩ := hp_bd hm
    refine tr_eq0 (t_X0_isConstant I T14 hx15) ?_
    obtain ⟨_, hu16, hm⟩ := hp_bd hm
    refine tr_eq0 hu16 ?_
    obtain rfl := Option.some.inj hm
    rfl
  · rw [if_neg c17] at hm ⊢
    refine tr_eq0 (t_fI I T_v0 (by decide) (by decide) rfl) ?_
    by_cases c13 : (gF s v0 6) = 0
    · rw [if_pos c13] at hm ⊢
      have T7 : tg (gP s v0 3) = 17 := t_tg (c := 4) I T_v0 (by decide) (by decide) rfl (by decide)
      refine tr_eq0 (t_fR I T_v0 (by decide) (by decide) (by decide)) ?_
      obtain ⟨x8, hx8, hm⟩ := hp_bd hm
      refine tr_eq0 (t_X7_isActive I T7 hx8) ?_
      by_cases c12 : x8 = 0
      · rw [if_pos c12] at hm ⊢
        obtain rfl := Option.some.inj hm
        rfl
      · rw [if_neg c12] at hm ⊢
        have T9 : tg (gP s v0 3) = 17 := t_tg (c := 4) I T_v0 (by decide) (by decide) rfl (by decide)
        refine tr_eq0 (t_fR I T_v0 (by decide) (by decide) (by decide)) ?_
        obtain ⟨x10, hx10, hm⟩ := hp_bd hm
        refine tr_eq0 (t_X7_isTyped I T9 hx10) ?_
        by_cases c11 : x10 = 0
        · rw [if_pos c11] at hm ⊢
          obtain rfl := Option.some.inj hm
          rfl
        · rw [if_neg c11] at hm ⊢
          obtain rfl := Option.some.inj hm
          rfl
    · rw [if_neg c13] at hm ⊢
      have T1 : tg (gP s v0 1) = 10 := t_tg (c := 4) I T_v0 (by decide) (by decide) rfl (by decide)
      refine tr_eq0 (t_fR I T_v0 (by decide) (by decide) (by decide)) ?_
      obtain ⟨x2, hx2, hm⟩ := hp_bd hm
      refine tr_eq0 (t_X0_isConstant I T1 hx2) ?_
      by_cases c6 : x2 = 0
      · rw [if_pos c6] at hm ⊢
        have T3 : tg (gP s v0 3) = 17 := t_tg (c := 4) I T_v0 (by decide) (by decide) rfl (by decide)
        refine tr_eq0 (t_fR I T_v0 (by decide) (by decide) (by decide)) ?_
        obtain ⟨x4, hx4, hm⟩ := hp_bd hm
        refine tr_eq0 (t_X7_isTyped I T3 hx4) ?_
        by_cases c5 : x4 = 0
        · rw [if_pos c5] at hm ⊢
          obtain rfl := Option.some.inj hm
          rfl
        · rw [if_neg c5] at hm ⊢
          exact t_X4_mayStand_73 I  hm
      · rw [if_neg c6] at hm ⊢
        exact t_X4_mayStand_73 I  hm
def g_X4_mayStand (n : Nat) (v0 : Nat) (v1 : Int32) (s : st_T) : Option (Int32) := g_X4_mayStand_0 n v0 v1 s
theorem t_X4_mayStand {tg r : Nat → Nat} {h : hp_H} {s : st_T} {n : Nat} {v0 : Nat} {v1 : Int32} (I : iso tg r h s) (T_v0 : tg v0 = 14) {res : Int32} (hm : g_X4_mayStand n v0 v1 s = some res) : f_X4_mayStand n (r v0) v1 h = some res := by
  unfold g_X4_mayStand at hm
  unfold f_X4_mayStand
  refine tr_eq0 (t_ck I T_v0 (by decide)) ?_
  exact t_X4_mayStand_0 I T_v0 hm
def g_X4_takeSymbol_56 (n : Nat) (v0 : Nat) (s : st_T) : Option (Int32 × st_T) :=
  (wF s v0 9 ((gF s v0 9) + (1 : Int32))).bind fun w1 =>
  some ((0 : Int32), w1)
set_option maxHeartbeats 1000000 in
theorem t_X4_takeSymbol_56 {tg r : Nat → Nat} {hb : hp_H} {zb c1 c2 : Nat} {r2 : Nat → Nat} {h : hp_H} {s : st_T} {sz sl n : Nat} {v0 : Nat} (Z : iz tg r hb zb c1 c2 r2 h s sz sl) (T_v0 : tg v0 = 14) {res : Int32 × st_T} (hm : g_X4_takeSymbol_56 n v0 s = some res) : ∃ h2 sz2 sl2 r3, f_X4_takeSymbol_56 n (r v0) h sz sl = some ((res.1, h2, sz2, sl2)) ∧ iz tg r hb zb c1 c2 r3 h2 res.2 sz2 sl2 := by
  rw [← Z.2.1 v0 (by omega)]
  unfold g_X4_takeSymbol_56 at hm
  unfold f_X4_takeSymbol_56
  refine tr_eq2 (t_fI Z.1 T_v0 (by decide) (by decide) rfl) ?_
  obtain ⟨w1, hw1, hm⟩ := hp_bd hm
  obtain ⟨_, e2, I, F⟩ := t_wF (c := 4) (k := 9) Z.1 isf.rf T_v0 (by decide) (by decide) rfl hw1
  replace Z := Z.step I F
  refine tr_eq2 e2 ?_
  obtain rfl := Option.some.inj hm
  exact ⟨_, _, _, _, rfl, Z⟩
def g_X4_takeSymbol_17 (n : Nat) (v0 : Nat) (s : st_T) : Option (Int32 × st_T) :=
  if (gF s v0 9) = (60 : Int32) then
    some ((7 : Int32), s)
  else
    (g_X4_namedByToken n v0 s).bind fun x1 =>
    (g_X4_mayStand n v0 x1 s).bind fun x2 =>
    if x2 = 0 then
      some ((6 : Int32), s)
    else
      (g_X5_add n (gP s (gP s v0 1) 9) x1 s).bind fun x5 =>
      g_X4_takeSymbol_56 n v0 x5
set_option maxHeartbeats 1000000 in
theorem t_X4_takeSymbol_17 {tg r : Nat → Nat} {hb : hp_H} {zb c1 c2 : Nat} {r2 : Nat → Nat} {h : hp_H} {s : st_T} {sz sl n : Nat} {v0 : Nat} (Z : iz tg r hb zb c1 c2 r2 h s sz sl) (T_v0 : tg v0 = 14) {res : Int32 × st_T} (hm : g_X4_takeSymbol_17 n v0 s = some res) : ∃ h2 sz2 sl2 r3, f_X4_takeSymbol_17 n (r v0) h sz sl = some ((res.1, h2, sz2, sl2)) ∧ iz tg r hb zb c1 c2 r3 h2 res.2 sz2 sl2 := by
  rw [← Z.2.1 v0 (by omega)]
  unfold g_X4_takeSymbol_17 at hm
  unfold f_X4_takeSymbol_17
  refine tr_eq2 (t_fI Z.1 T_v0 (by decide) (by decide) rfl) ?_
  by_cases c7 : (gF s v0 9) = (60 : Int32)
  · rw [if_pos c7] at hm ⊢
    obtain rfl := Option.some.inj hm
    exact ⟨_, _, _, _, rfl, Z⟩
  · rw [if_neg c7] at hm ⊢
    obtain ⟨x1, hx1, hm⟩ := hp_bd hm
    refine tr_eq2 (t_X4_namedByToken Z.1 T_v0 hx1) ?_
    obtain ⟨x2, hx2, hm⟩ := hp_bd hm
    refine tr_eq2 (t_X4_mayStand Z.1 T_v0 hx2) ?_
    by_cases c6 : x2 = 0
    · rw [if_pos c6] at hm ⊢
      obtain rfl := Option.some.inj hm
      exact ⟨_, _, _, _, rfl, Z⟩
    · rw [if_neg c6] at hm ⊢
      have T3 : tg (gP s v0 1) = 10 := t_tg (c := 4) Z.1 T_v0 (by decide) (by decide) rfl (by decide)
      refine tr_eq2 (t_fR Z.1 T_v0 (by decide) (by decide) (by decide)) ?_
      have T4 : tg (gP s (gP s v0 1) 9) = 15 := t_tg (c := 0) Z.1 T3 (by decide) (by decide) rfl (by decide)
      refine tr_eq2 (t_fR Z.1 T3 (by decide) (by decide) (by decide)) ?_
      try simp only [Z.2.1 v0 (by omega), Z.2.1 (gP s (gP s v0 1) 9) (by omega)]
      obtain ⟨x5, hx5, hm⟩ := hp_bd hm
      obtain ⟨_, _, _, _, e2, Z⟩ := t2_X5_add Z T4 hx5
      refine tr_eq2 e2 ?_
      try dsimp only
      try simp only [Z.2.1 v0 (by omega)]
      exact t_X4_takeSymbol_56 Z T_v0 hm
def g_X4_takeSymbol_0 (n : Nat) (v0 : Nat) (s : st_T) : Option (Int32 × st_T) :=
  if (gF s v0 6) = 0 then
    if (gF s v0 9) = (2 : Int32) then
      some ((3 : Int32), s)
    else
      g_X4_takeSymbol_17 n v0 s
  else
    g_X4_takeSymbol_17 n v0 s
set_option maxHeartbeats 1000000 in
theorem t_X4_takeSymbol_0 {tg r : Nat → Nat} {hb : hp_H} {zb c1 c2 : Nat} {r2 : Nat → Nat} {h : hp_H} {s : st_T} {sz sl n : Nat} {v0 : Nat} (Z : iz tg r hb zb c1 c2 r2 h s sz sl) (T_v0 : tg v0 = 14) {res : Int32 × st_T} (hm : g_X4_takeSymbol_0 n v0 s = some res) : ∃ h2 sz2 sl2 r3, f_X4_takeSymbol_0 n (r v0) h sz sl = some ((res.1, h2, sz2, sl2)) ∧ iz tg r hb zb c1 c2 r3 h2 res.2 sz2 sl2 := by
  rw [← Z.2.1 v0 (by omega)]
  unfold g_X4_takeSymbol_0 at hm
  unfold f_X4_takeSymbol_0
  refine tr_eq2 (t_fI Z.1 T_v0 (by decide) (by decide) rfl) ?_
  by_cases c2 : (gF s v0 6) = 0
  · rw [if_pos c2] at hm ⊢
    refine tr_eq2 (t_fI Z.1 T_v0 (by decide) (by decide) rfl) ?_
    by_cases c1 : (gF s v0 9) = (2 : Int32)
    · rw [if_pos c1] at hm ⊢
      obtain rfl := Option.some.inj hm
      exact ⟨_, _, _, _, rfl, Z⟩
    · rw [if_neg c1] at hm ⊢
      try simp only [Z.2.1 v0 (by omega)]
      exact t_X4_takeSymbol_17 Z T_v0 hm
  · rw [if_neg c2] at hm ⊢
    try simp only [Z.2.1 v0 (by omega)]
    exact t_X4_takeSymbol_17 Z T_v0 hm
def g_X4_takeSymbol (n : Nat) (v0 : Nat) (s : st_T) : Option (Int32 × st_T) := g_X4_takeSymbol_0 n v0 s
theorem t2_X4_takeSymbol {tg r : Nat → Nat} {hb : hp_H} {zb c1 c2 : Nat} {r2 : Nat → Nat} {h : hp_H} {s : st_T} {sz sl n : Nat} {v0 : Nat} (Z : iz tg r hb zb c1 c2 r2 h s sz sl) (T_v0 : tg v0 = 14) {res : Int32 × st_T} (hm : g_X4_takeSymbol n v0 s = some res) : ∃ h2 sz2 sl2 r3, f_X4_takeSymbol n (r v0) h sz sl = some ((res.1, h2, sz2, sl2)) ∧ iz tg r hb zb c1 c2 r3 h2 res.2 sz2 sl2 := by
  unfold g_X4_takeSymbol at hm
  unfold f_X4_takeSymbol
  have e0 := t_ck (c := 4) Z.1 T_v0 (by decide)
  rw [Z.2.1 v0 (by omega)] at e0
  refine tr_eq2 e0 ?_
  exact t_X4_takeSymbol_0 Z T_v0 hm
def g_X4_takeEnd_59 (n : Nat) (s0 : Int32) (s1 : Nat) (s : st_T) : Option (Int32 × st_T) :=
  (g_X4_begin n s1 s0 s).bind fun x1 =>
  some (x1.1, x1.2)
set_option maxHeartbeats 1000000 in
theorem t_X4_takeEnd_59 {tg r : Nat → Nat} {h hb : hp_H} {s sb : st_T} {n : Nat} {s0 : Int32} {s1 : Nat} (I : iso tg r h s) (F : isf tg r hb h sb s) (T_s1 : tg s1 = 14) {res : Int32 × st_T} (hm : g_X4_takeEnd_59 n s0 s1 s = some res) : ∃ h2, f_X4_takeEnd_59 n s0 (r s1) h = some ((res.1, h2)) ∧ iso tg r h2 res.2 ∧ isf tg r hb h2 sb res.2 := by
  unfold g_X4_takeEnd_59 at hm
  unfold f_X4_takeEnd_59
  obtain ⟨x1, hx1, hm⟩ := hp_bd hm
  obtain ⟨_, e2, I, F⟩ := t_X4_begin I F T_s1 hx1
  refine tr_eq e2 ?_
  try dsimp only
  obtain rfl := Option.some.inj hm
  exact ⟨_, rfl, I, F⟩
def g_X4_takeEnd_28 (n : Nat) (v0 : Nat) (v1 : Int32) (v2 : Int32) (s0 : Int32) (s : st_T) : Option (Int32 × st_T) :=
  if v1 = s0 then
    if v2 ≤ (gF s v0 9) then
      if (gF s v0 6) = (3 : Int32) then
        g_X4_takeEnd_59 n (5 : Int32) v0 s
      else
        g_X4_takeEnd_59 n (6 : Int32) v0 s
    else
      some ((3 : Int32), s)
  else
    some ((3 : Int32), s)
set_option maxHeartbeats 1000000 in
theorem t_X4_takeEnd_28 {tg r : Nat → Nat} {h hb : hp_H} {s sb : st_T} {n : Nat} {v0 : Nat} {v1 : Int32} {v2 : Int32} {s0 : Int32} (I : iso tg r h s) (F : isf tg r hb h sb s) (T_v0 : tg v0 = 14) {res : Int32 × st_T} (hm : g_X4_takeEnd_28 n v0 v1 v2 s0 s = some res) : ∃ h2, f_X4_takeEnd_28 n (r v0) v1 v2 s0 h = some ((res.1, h2)) ∧ iso tg r h2 res.2 ∧ isf tg r hb h2 sb res.2 := by
  unfold g_X4_takeEnd_28 at hm
  unfold f_X4_takeEnd_28
  by_cases c3 : v1 = s0
  · rw [if_pos c3] at hm ⊢
    refine tr_eq (t_fI I T_v0 (by decide) (by decide) rfl) ?_
    by_cases c2 : v2 ≤ (gF s v0 9)
    · rw [if_pos c2] at hm ⊢
      refine tr_eq (t_fI I T_v0 (by decide) (by decide) rfl) ?_
      by_cases c1 : (gF s v0 6) = (3 : Int32)
      · rw [if_pos c1] at hm ⊢
        exact t_X4_takeEnd_59 I F T_v0 hm
      · rw [if_neg c1] at hm ⊢
        exact t_X4_takeEnd_59 I F T_v0 hm
    · rw [if_neg c2] at hm ⊢
      obtain rfl := Option.some.inj hm
      exact ⟨_, rfl, I, F⟩
  · rw [if_neg c3] at hm ⊢
    obtain rfl := Option.some.inj hm
    exact ⟨_, rfl, I, F⟩
def g_X4_takeEnd_12 (n : Nat) (v0 : Nat) (v1 : Int32) (s0 : Int32) (s : st_T) : Option (Int32 × st_T) :=
  if (gF s v0 6) = (3 : Int32) then
    g_X4_takeEnd_28 n v0 v1 s0 (61 : Int32) s
  else
    g_X4_takeEnd_28 n v0 v1 s0 (46 : Int32) s
set_option maxHeartbeats 1000000 in
theorem t_X4_takeEnd_12 {tg r : Nat → Nat} {h hb : hp_H} {s sb : st_T} {n : Nat} {v0 : Nat} {v1 : Int32} {s0 : Int32} (I : iso tg r h s) (F : isf tg r hb h sb s) (T_v0 : tg v0 = 14) {res : Int32 × st_T} (hm : g_X4_takeEnd_12 n v0 v1 s0 s = some res) : ∃ h2, f_X4_takeEnd_12 n (r v0) v1 s0 h = some ((res.1, h2)) ∧ iso tg r h2 res.2 ∧ isf tg r hb h2 sb res.2 := by
  unfold g_X4_takeEnd_12 at hm
  unfold f_X4_takeEnd_12
  refine tr_eq (t_fI I T_v0 (by decide) (by decide) rfl) ?_
  by_cases c1 : (gF s v0 6) = (3 : Int32)
  · rw [if_pos c1] at hm ⊢
    exact t_X4_takeEnd_28 I F T_v0 hm
  · rw [if_neg c1] at hm ⊢
    exact t_X4_takeEnd_28 I F T_v0 hm
def g_X4_takeEnd_0 (n : Nat) (v0 : Nat) (v1 : Int32) (s : st_T) : Option (Int32 × st_T) :=
  if (gF s v0 6) = 0 then
    g_X4_takeEnd_12 n v0 v1 (2 : Int32) s
  else
    g_X4_takeEnd_12 n v0 v1 (1 : Int32) s
set_option maxHeartbeats 1000000 in
theorem t_X4_takeEnd_0 {tg r : Nat → Nat} {h hb : hp_H} {s sb : st_T} {n : Nat} {v0 : Nat} {v1 : Int32} (I : iso tg r h s) (F : isf tg r hb h sb s) (T_v0 : tg v0 = 14) {res : Int32 × st_T} (hm : g_X4_takeEnd_0 n v0 v1 s = some res) : ∃ h2, f_X4_takeEnd_0 n (r v0) v1 h = some ((res.1, h2)) ∧ iso tg r h2 res.2 ∧ isf tg r hb h2 sb res.2 := by
  unfold g_X4_takeEnd_0 at hm
  unfold f_X4_takeEnd_0
  refine tr_eq (t_fI I T_v0 (by decide) (by decide) rfl) ?_
  by_cases c1 : (gF s v0 6) = 0
  · rw [if_pos c1] at hm ⊢
    exact t_X4_takeEnd_12 I F T_v0 hm
  · rw [if_neg c1] at hm ⊢
    exact t_X4_takeEnd_12 I F T_v0 hm
def g_X4_takeEnd (n : Nat) (v0 : Nat) (v1 : Int32) (s : st_T) : Option (Int32 × st_T) := g_X4_takeEnd_0 n v0 v1 s
theorem t_X4_takeEnd {tg r : Nat → Nat} {h hb : hp_H} {s sb : st_T} {n : Nat} {v0 : Nat} {v1 : Int32} (I : iso tg r h s) (F : isf tg r hb h sb s) (T_v0 : tg v0 = 14) {res : Int32 × st_T} (hm : g_X4_takeEnd n v0 v1 s = some res) : ∃ h2, f_X4_takeEnd n (r v0) v1 h = some ((res.1, h2)) ∧ iso tg r h2 res.2 ∧ isf tg r hb h2 sb res.2 := by
  unfold g_X4_takeEnd at hm
  unfold f_X4_takeEnd
  refine tr_eq (t_ck I T_v0 (by decide)) ?_
  exact t_X4_takeEnd_0 I F T_v0 hm
def g_X4_takeProofToken_80 (n : Nat) (v0 : Nat) (s : st_T) : Option (Int32 × st_T) :=
  (wF s v0 9 ((gF s v0 9) + (1 : Int32))).bind fun w1 =>
  some ((0 : Int32), w1)
set_option maxHeartbeats 1000000 in
theorem t_X4_takeProofToken_80 {tg r : Nat → Nat} {hb : hp_H} {zb c1 c2 : Nat} {r2 : Nat → Nat} {h : hp_H} {s : st_T} {sz sl n : Nat} {v0 : Nat} (Z : iz tg r hb zb c1 c2 r2 h s sz sl) (T_v0 : tg v0 = 14) {res : Int32 × st_T} (hm : g_X4_takeProofToken_80 n v0 s = some res) : ∃ h2 sz2 sl2 r3, f_X4_takeProofToken_80 n (r v0) h sz sl = some ((res.1, h2, sz2, sl2)) ∧ iz tg r hb zb c1 c2 r3 h2 res.2 sz2 sl2 := by
  rw [← Z.2.1 v0 (by omega)]
  unfold g_X4_takeProofToken_80 at hm
  unfold f_X4_takeProofToken_80
  refine tr_eq2 (t_fI Z.1 T_v0 (by decide) (by decide) rfl) ?_
  obtain ⟨w1, hw1, hm⟩ := hp_bd hm
  obtain ⟨_, e2, I, F⟩ := t_wF (c := 4) (k := 9) Z.1 isf.rf T_v0 (by decide) (by decide) rfl hw1
  replace Z := Z.step I F
  refine tr_eq2 e2 ?_
  obtain rfl := Option.some.inj hm
  exact ⟨_, _, _, _, rfl, Z⟩
def g_X4_takeProofToken_77 (n : Nat) (v0 : Nat) (s0 : Int32) (s1 : Nat) (s : st_T) : Option (Int32 × st_T) :=
  (g_X5_add n s1 s0 s).bind fun x1 =>
  g_X4_takeProofToken_80 n v0 x1
set_option maxHeartbeats 1000000 in
theorem t_X4_takeProofToken_77 {tg r : Nat → Nat} {hb : hp_H} {zb c1 c2 : Nat} {r2 : Nat → Nat} {h : hp_H} {s : st_T} {sz sl n : Nat} {v0 : Nat} {s0 : Int32} {s1 : Nat} (Z : iz tg r hb zb c1 c2 r2 h s sz sl) (T_v0 : tg v0 = 14) (T_s1 : tg s1 = 15) {res : Int32 × st_T} (hm : g_X4_takeProofToken_77 n v0 s0 s1 s = some res) : ∃ h2 sz2 sl2 r3, f_X4_takeProofToken_77 n (r v0) s0 (r s1) h sz sl = some ((res.1, h2, sz2, sl2)) ∧ iz tg r hb zb c1 c2 r3 h2 res.2 sz2 sl2 := by
  rw [← Z.2.1 v0 (by omega)]
  rw [← Z.2.1 s1 (by omega)]
  unfold g_X4_takeProofToken_77 at hm
  unfold f_X4_takeProofToken_77
  try simp only [Z.2.1 v0 (by omega), Z.2.1 s1 (by omega)]
  obtain ⟨x1, hx1, hm⟩ := hp_bd hm
  obtain ⟨_, _, _, _, e2, Z⟩ := t2_X5_add Z T_s1 hx1
  refine tr_eq2 e2 ?_
  try dsimp only
  try simp only [Z.2.1 v0 (by omega)]
  exact t_X4_takeProofToken_80 Z T_v0 hm
def g_X4_takeProofToken_54 (n : Nat) (v0 : Nat) (v2 : Int32) (s : st_T) : Option (Int32 × st_T) :=
  if v2 < (300 : Int32) then
    g_X4_takeProofToken_77 n v0 (-1 : Int32) (gP s (gP s v0 1) 11) s
  else
    g_X4_takeProofToken_77 n v0 (v2 - (300 : Int32)) (gP s (gP s v0 1) 11) s
set_option maxHeartbeats 1000000 in
theorem t_X4_takeProofToken_54 {tg r : Nat → Nat} {hb : hp_H} {zb c1 c2 : Nat} {r2 : Nat → Nat} {h : hp_H} {s : st_T} {sz sl n : Nat} {v0 : Nat} {v2 : Int32} (Z : iz tg r hb zb c1 c2 r2 h s sz sl) (T_v0 : tg v0 = 14) {res : Int32 × st_T} (hm : g_X4_takeProofToken_54 n v0 v2 s = some res) : ∃ h2 sz2 sl2 r3, f_X4_takeProofToken_54 n (r v0) v2 h sz sl = some ((res.1, h2, sz2, sl2)) ∧ iz tg r hb zb c1 c2 r3 h2 res.2 sz2 sl2 := by
  rw [← Z.2.1 v0 (by omega)]
  unfold g_X4_takeProofToken_54 at hm
  unfold f_X4_takeProofToken_54
  have T1 : tg (gP s v0 1) = 10 := t_tg (c := 4) Z.1 T_v0 (by decide) (by decide) rfl (by decide)
  refine tr_eq2 (t_fR Z.1 T_v0 (by decide) (by decide) (by decide)) ?_
  have T2 : tg (gP s (gP s v0 1) 11) = 15 := t_tg (c := 0) Z.1 T1 (by decide) (by decide) rfl (by decide)
  refine tr_eq2 (t_fR Z.1 T1 (by decide) (by decide) (by decide)) ?_
  by_cases c3 : v2 < (300 : Int32)
  · rw [if_pos c3] at hm ⊢
    try simp only [Z.2.1 v0 (by omega), Z.2.1 (gP s (gP s v0 1) 11) (by omega)]
    exact t_X4_takeProofToken_77 Z T_v0 T2 hm
  · rw [if_neg c3] at hm ⊢
    try simp only [Z.2.1 v0 (by omega), Z.2.1 (gP s (gP s v0 1) 11) (by omega)]
    exact t_X4_takeProofToken_77 Z T_v0 T2 hm
def g_X4_takeProofToken_0 (n : Nat) (v0 : Nat) (v1 : Int32) (s : st_T) : Option (Int32 × st_T) :=
  if v1 = (46 : Int32) then
    (g_X4_begin n v0 (6 : Int32) s).bind fun x8 =>
    some (x8.1, x8.2)
  else
    if v1 = 0 then
      if (gF s v0 9) = (400 : Int32) then
        some ((7 : Int32), s)
      else
        (g_X4_namedByToken n v0 s).bind fun x1 =>
        (g_X5_add n (gP s (gP s v0 1) 10) (gF s (gP s v0 2) 0) s).bind fun x5 =>
        g_X4_takeProofToken_54 n v0 x1 x5
    else
      some ((3 : Int32), s)
set_option maxHeartbeats 1000000 in
theorem t_X4_takeProofToken_0 {tg r : Nat → Nat} {hb : hp_H} {zb c1 c2 : Nat} {r2 : Nat → Nat} {h : hp_H} {s : st_T} {sz sl n : Nat} {v0 : Nat} {v1 : Int32} (Z : iz tg r hb zb c1 c2 r2 h s sz sl) (T_v0 : tg v0 = 14) {res : Int32 × st_T} (hm : g_X4_takeProofToken_0 n v0 v1 s = some res) : ∃ h2 sz2 sl2 r3, f_X4_takeProofToken_0 n (r v0) v1 h sz sl = some ((res.1, h2, sz2, sl2)) ∧ iz tg r hb zb c1 c2 r3 h2 res.2 sz2 sl2 := by
  rw [← Z.2.1 v0 (by omega)]
  unfold g_X4_takeProofToken_0 at hm
  unfold f_X4_takeProofToken_0
  by_cases c9 : v1 = (46 : Int32)
  · rw [if_pos c9] at hm ⊢
    obtain ⟨x8, hx8, hm⟩ := hp_bd hm
    obtain ⟨_, e2, I, F⟩ := t_X4_begin Z.1 isf.rf T_v0 hx8
    replace Z := Z.step I F
    refine tr_eq2 e2 ?_
    try dsimp only
    obtain rfl := Option.some.inj hm
    exact ⟨_, _, _, _, rfl, Z⟩
  · rw [if_neg c9] at hm ⊢
    by_cases c7 : v1 = 0
    · rw [if_pos c7] at hm ⊢
      refine tr_eq2 (t_fI Z.1 T_v0 (by decide) (by decide) rfl) ?_
      by_cases c6 : (gF s v0 9) = (400 : Int32)
      · rw [if_pos c6] at hm ⊢
        obtain rfl := Option.some.inj hm
        exact ⟨_, _, _, _, rfl, Z⟩
      · rw [if_neg c6] at hm ⊢
        obtain ⟨x1, hx1, hm⟩ := hp_bd hm
        refine tr_eq2 (t_X4_namedByToken Z.1 T_v0 hx1) ?_
        have T2 : tg (gP s v0 1) = 10 := t_tg (c := 4) Z.1 T_v0 (by decide) (by decide) rfl (by decide)
        refine tr_eq2 (t_fR Z.1 T_v0 (by decide) (by decide) (by decide)) ?_
        have T3 : tg (gP s (gP s v0 1) 10) = 15 := t_tg (c := 0) Z.1 T2 (by decide) (by decide) rfl (by decide)
        refine tr_eq2 (t_fR Z.1 T2 (by decide) (by decide) (by decide)) ?_
        have T4 : tg (gP s v0 2) = 16 := t_tg (c := 4) Z.1 T_v0 (by decide) (by decide) rfl (by decide)
        refine tr_eq2 (t_fR Z.1 T_v0 (by decide) (by decide) (by decide)) ?_
        refine tr_eq2 (t_fI Z.1 T4 (by decide) (by decide) rfl) ?_
        try simp only [Z.2.1 v0 (by omega), Z.2.1 (gP s (gP s v0 1) 10) (by omega)]
        obtain ⟨x5, hx5, hm⟩ := hp_bd hm
        obtain ⟨_, _, _, _, e2, Z⟩ := t2_X5_add Z T3 hx5
        refine tr_eq2 e2 ?_
        try dsimp only
        try simp only [Z.2.1 v0 (by omega)]
        exact t_X4_takeProofToken_54 Z T_v0 hm
    · rw [if_neg c7] at hm ⊢
      obtain rfl := Option.some.inj hm
      exact ⟨_, _, _, _, rfl, Z⟩
def g_X4_takeProofToken (n : Nat) (v0 : Nat) (v1 : Int32) (s : st_T) : Option (Int32 × st_T) := g_X4_takeProofToken_0 n v0 v1 s
theorem t2_X4_takeProofToken {tg r : Nat → Nat} {hb : hp_H} {zb c1 c2 : Nat} {r2 : Nat → Nat} {h : hp_H} {s : st_T} {sz sl n : Nat} {v0 : Nat} {v1 : Int32} (Z : iz tg r hb zb c1 c2 r2 h s sz sl) (T_v0 : tg v0 = 14) {res : Int32 × st_T} (hm : g_X4_takeProofToken n v0 v1 s = some res) : ∃ h2 sz2 sl2 r3, f_X4_takeProofToken n (r v0) v1 h sz sl = some ((res.1, h2, sz2, sl2)) ∧ iz tg r hb zb c1 c2 r3 h2 res.2 sz2 sl2 := by
  unfold g_X4_takeProofToken at hm
  unfold f_X4_takeProofToken
  have e0 := t_ck (c := 4) Z.1 T_v0 (by decide)
  rw [Z.2.1 v0 (by omega)] at e0
  refine tr_eq2 e0 ?_
  exact t_X4_takeProofToken_0 Z T_v0 hm
def g_X4_endStatement_179 (n : Nat) (v0 : Nat) (s : st_T) : Option (st_T) :=
  (wF s (gP s v0 1) 5 ((gF s (gP s v0 1) 5) + (1 : Int32))).bind fun w2 =>
  (wF w2 v0 4 (0 : Int32)).bind fun w3 =>
  some w3
set_option maxHeartbeats 1000000 in
theorem t_X4_endStatement_179 {tg r : Nat → Nat} {hb : hp_H} {zb c1 c2 : Nat} {r2 : Nat → Nat} {h : hp_H} {s : st_T} {sz sl n : Nat} {v0 : Nat} (Z : iz tg r hb zb c1 c2 r2 h s sz sl) (T_v0 : tg v0 = 14) {res : st_T} (hm : g_X4_endStatement_179 n v0 s = some res) : ∃ h2 sz2 sl2 r3, f_X4_endStatement_179 n (r v0) h sz sl = some ((h2, sz2, sl2)) ∧ iz tg r hb zb c1 c2 r3 h2 res sz2 sl2 := by
  rw [← Z.2.1 v0 (by omega)]
  unfold g_X4_endStatement_179 at hm
  unfold f_X4_endStatement_179
  have T1 : tg (gP s v0 1) = 10 := t_tg (c := 4) Z.1 T_v0 (by decide) (by decide) rfl (by decide)
  refine tr_eq2 (t_fR Z.1 T_v0 (by decide) (by decide) (by decide)) ?_
  refine tr_eq2 (t_fI Z.1 T1 (by decide) (by decide) rfl) ?_
  obtain ⟨w2, hw2, hm⟩ := hp_bd hm
  obtain ⟨_, e2, I, F⟩ := t_wF (c := 0) (k := 5) Z.1 isf.rf T1 (by decide) (by decide) rfl hw2
  replace Z := Z.step I F
  refine tr_eq2 e2 ?_
  obtain ⟨w3, hw3, hm⟩ := hp_bd hm
  obtain ⟨_, e2, I, F⟩ := t_wF (c := 4) (k := 4) Z.1 isf.rf T_v0 (by decide) (by decide) rfl hw3
  replace Z := Z.step I F
  refine tr_eq2 e2 ?_
  obtain rfl := Option.some.inj hm
  exact ⟨_, _, _, _, rfl, Z⟩
def g_X4_endStatement_125 (n : Nat) (v0 : Nat) (v1 : Int32) (s : st_T) : Option (st_T) :=
  (g_X5_endRow n (gP s (gP s v0 1) 12) s).bind fun x3 =>
  (g_X5_endRow n (gP x3 (gP x3 v0 1) 13) x3).bind fun x6 =>
  (g_X5_endRow n (gP x6 (gP x6 v0 1) 14) x6).bind fun x9 =>
  if (gF x9 v0 6) = (3 : Int32) then
    (g_X0_noteForm n (gP x9 v0 1) v1 x9).bind fun x11 =>
    (g_X0_noteAxioms n (gP x11 v0 1) v1 x11).bind fun x13 =>
    g_X4_endStatement_179 n v0 x13
  else
    g_X4_endStatement_179 n v0 x9
set_option maxHeartbeats 1000000 in
theorem t_X4_endStatement_125 {tg r : Nat → Nat} {hb : hp_H} {zb c1 c2 : Nat} {r2 : Nat → Nat} {h : hp_H} {s : st_T} {sz sl n : Nat} {v0 : Nat} {v1 : Int32} (Z : iz tg r hb zb c1 c2 r2 h s sz sl) (T_v0 : tg v0 = 14) {res : st_T} (hm : g_X4_endStatement_125 n v0 v1 s = some res) : ∃ h2 sz2 sl2 r3, f_X4_endStatement_125 n (r v0) v1 h sz sl = some ((h2, sz2, sl2)) ∧ iz tg r hb zb c1 c2 r3 h2 res sz2 sl2 := by
  rw [← Z.2.1 v0 (by omega)]
  unfold g_X4_endStatement_125 at hm
  unfold f_X4_endStatement_125
  have T1 : tg (gP s v0 1) = 10 := t_tg (c := 4) Z.1 T_v0 (by decide) (by decide) rfl (by decide)
  refine tr_eq2 (t_fR Z.1 T_v0 (by decide) (by decide) (by decide)) ?_
  have T2 : tg (gP s (gP s v0 1) 12) = 15 := t_tg (c := 0) Z.1 T1 (by decide) (by decide) rfl (by decide)
  refine tr_eq2 (t_fR Z.1 T1 (by decide) (by decide) (by decide)) ?_
  obtain ⟨x3, hx3, hm⟩ := hp_bd hm
  obtain ⟨_, e2, I, F⟩ := t_X5_endRow Z.1 isf.rf T2 hx3
  replace Z := Z.step I F
  refine tr_eq2 e2 ?_
  have T4 : tg (gP x3 v0 1) = 10 := t_tg (c := 4) Z.1 T_v0 (by decide) (by decide) rfl (by decide)
  refine tr_eq2 (t_fR Z.1 T_v0 (by decide) (by decide) (by decide)) ?_
  have T5 : tg (gP x3 (gP x3 v0 1) 13) = 15 := t_tg (c := 0) Z.1 T4 (by decide) (by decide) rfl (by decide)
  refine tr_eq2 (t_fR Z.1 T4 (by decide) (by decide) (by decide)) ?_
  obtain ⟨x6, hx6, hm⟩ := hp_bd hm
  obtain ⟨_, e2, I, F⟩ := t_X5_endRow Z.1 isf.rf T5 hx6
  replace Z := Z.step I F
  refine tr_eq2 e2 ?_
  have T7 : tg (gP x6 v0 1) = 10 := t_tg (c := 4) Z.1 T_v0 (by decide) (by decide) rfl (by decide)
  refine tr_eq2 (t_fR Z.1 T_v0 (by decide) (by decide) (by decide)) ?_
  have T8 : tg (gP x6 (gP x6 v0 1) 14) = 15 := t_tg (c := 0) Z.1 T7 (by decide) (by decide) rfl (by decide)
  refine tr_eq2 (t_fR Z.1 T7 (by decide) (by decide) (by decide)) ?_
  obtain ⟨x9, hx9, hm⟩ := hp_bd hm
  obtain ⟨_, e2, I, F⟩ := t_X5_endRow Z.1 isf.rf T8 hx9
  replace Z := Z.step I F
  refine tr_eq2 e2 ?_
  refine tr_eq2 (t_fI Z.1 T_v0 (by decide) (by decide) rfl) ?_
  by_cases c14 : (gF x9 v0 6) = (3 : Int32)
  · rw [if_pos c14] at hm ⊢
    have T10 : tg (gP x9 v0 1) = 10 := t_tg (c := 4) Z.1 T_v0 (by decide) (by decide) rfl (by decide)
    refine tr_eq2 (t_fR Z.1 T_v0 (by decide) (by decide) (by decide)) ?_
    obtain ⟨x11, hx11, hm⟩ := hp_bd hm
    obtain ⟨_, e2, I, F⟩ := t_X0_noteForm Z.1 isf.rf T10 hx11
    replace Z := Z.step I F
    refine tr_eq2 e2 ?_
    have T12 : tg (gP x11 v0 1) = 10 := t_tg (c := 4) Z.1 T_v0 (by decide) (by decide) rfl (by decide)
    refine tr_eq2 (t_fR Z.1 T_v0 (by decide) (by decide) (by decide)) ?_
    obtain ⟨x13, hx13, hm⟩ := hp_bd hm
    obtain ⟨_, e2, I, F⟩ := t_X0_noteAxioms Z.1 isf.rf T12 hx13
    replace Z := Z.step I F
    refine tr_eq2 e2 ?_
    try simp only [Z.2.1 v0 (by omega)]
    exact t_X4_endStatement_179 Z T_v0 hm
  · rw [if_neg c14] at hm ⊢
    try simp only [Z.2.1 v0 (by omega)]
    exact t_X4_endStatement_179 Z T_v0 hm
def g_X4_endStatement_110 (n : Nat) (v0 : Nat) (v1 : Int32) (s : st_T) : Option (st_T) :=
  g_X4_endStatement_125 n v0 v1 s
set_option maxHeartbeats 1000000 in
theorem t_X4_endStatement_110 {tg r : Nat → Nat} {hb : hp_H} {zb c1 c2 : Nat} {r2 : Nat → Nat} {h : hp_H} {s : st_T} {sz sl n : Nat} {v0 : Nat} {v1 : Int32} (Z : iz tg r hb zb c1 c2 r2 h s sz sl) (T_v0 : tg v0 = 14) {res : st_T} (hm : g_X4_endStatement_110 n v0 v1 s = some res) : ∃ h2 sz2 sl2 r3, f_X4_endStatement_110 n (r v0) v1 h sz sl = some ((h2, sz2, sl2)) ∧ iz tg r hb zb c1 c2 r3 h2 res sz2 sl2 := by
  rw [← Z.2.1 v0 (by omega)]
  unfold g_X4_endStatement_110 at hm
  unfold f_X4_endStatement_110
  try simp only [Z.2.1 v0 (by omega)]
  exact t_X4_endStatement_125 Z T_v0 hm
def g_X4_endStatement_0 (n : Nat) (v0 : Nat) (s : st_T) : Option (st_T) :=
  (uA 0 s (gP s (gP s v0 1) 6) (gF s (gP s v0 1) 5) (gF s v0 6)).bind fun w4 =>
  (uA 0 w4 (gP w4 (gP w4 v0 1) 7) (gF s (gP s v0 1) 5) (gF w4 (gP w4 v0 3) 0)).bind fun w8 =>
  (g_X2_add n (gP w8 (gP w8 v0 1) 0) ((300 : Int32) + (gF s (gP s v0 1) 5)) (gF w8 v0 7) (gF w8 v0 8) w8).bind fun x11 =>
  (g_X5_endRow n (gP x11 (gP x11 v0 1) 9) x11).bind fun x14 =>
  (g_X5_endRow n (gP x14 (gP x14 v0 1) 10) x14).bind fun x17 =>
  (g_X5_endRow n (gP x17 (gP x17 v0 1) 11) x17).bind fun x20 =>
  if (gF x20 v0 6) < (2 : Int32) then
    (g_X7_addHypothesis n (gP x20 v0 3) (gP x20 v0 1) (gF s (gP s v0 1) 5) x20).bind fun x23 =>
    g_X4_endStatement_125 n v0 (gF s (gP s v0 1) 5) x23
  else
    (g_X7_makeFrame n (gP x20 v0 3) (gP x20 v0 1) (gF s (gP s v0 1) 5) x20).bind fun x26 =>
    g_X4_endStatement_110 n v0 (gF s (gP s v0 1) 5) x26
set_option maxHeartbeats 1000000 in
theorem t_X4_endStatement_0 {tg r : Nat → Nat} {hb : hp_H} {zb c1 c2 : Nat} {r2 : Nat → Nat} {h : hp_H} {s : st_T} {sz sl n : Nat} {v0 : Nat} (Z : iz tg r hb zb c1 c2 r2 h s sz sl) (T_v0 : tg v0 = 14) {res : st_T} (hm : g_X4_endStatement_0 n v0 s = some res) : ∃ h2 sz2 sl2 r3, f_X4_endStatement_0 n (r v0) h sz sl = some ((h2, sz2, sl2)) ∧ iz tg r hb zb c1 c2 r3 h2 res sz2 sl2 := by
  rw [← Z.2.1 v0 (by omega)]
  unfold g_X4_endStatement_0 at hm
  unfold f_X4_endStatement_0
  have T1 : tg (gP s v0 1) = 10 := t_tg (c := 4) Z.1 T_v0 (by decide) (by decide) rfl (by decide)
  refine tr_eq2 (t_fR Z.1 T_v0 (by decide) (by decide) (by decide)) ?_
  refine tr_eq2 (t_fI Z.1 T1 (by decide) (by decide) rfl) ?_
  have T2 : tg (gP s v0 1) = 10 := t_tg (c := 4) Z.1 T_v0 (by decide) (by decide) rfl (by decide)
  refine tr_eq2 (t_fR Z.1 T_v0 (by decide) (by decide) (by decide)) ?_
  have T3 : tg (gP s (gP s v0 1) 6) = 0 := t_tg (c := 0) Z.1 T2 (by decide) (by decide) rfl (by decide)
  refine tr_eq2 (t_fR Z.1 T2 (by decide) (by decide) (by decide)) ?_
  refine tr_eq2 (t_fI Z.1 T_v0 (by decide) (by decide) rfl) ?_
  obtain ⟨w4, hw4, hm⟩ := hp_bd hm
  obtain ⟨_, e2, I, F⟩ := t_sI Z.1 isf.rf T3 (by decide) rfl hw4
  replace Z := Z.step I F
  refine tr_eq2 e2 ?_
  have T5 : tg (gP w4 v0 1) = 10 := t_tg (c := 4) Z.1 T_v0 (by decide) (by decide) rfl (by decide)
  refine tr_eq2 (t_fR Z.1 T_v0 (by decide) (by decide) (by decide)) ?_
  have T6 : tg (gP w4 (gP w4 v0 1) 7) = 0 := t_tg (c := 0) Z.1 T5 (by decide) (by decide) rfl (by decide)
  refine tr_eq2 (t_fR Z.1 T5 (by decide) (by decide) (by decide)) ?_
  have T7 : tg (gP w4 v0 3) = 17 := t_tg (c := 4) Z.1 T_v0 (by decide) (by decide) rfl (by decide)
  refine tr_eq2 (t_fR Z.1 T_v0 (by decide) (by decide) (by decide)) ?_
  refine tr_eq2 (t_fI Z.1 T7 (by decide) (by decide) rfl) ?_
  obtain ⟨w8, hw8, hm⟩ := hp_bd hm
  obtain ⟨_, e2, I, F⟩ := t_sI Z.1 isf.rf T6 (by decide) rfl hw8
  replace Z := Z.step I F
  refine tr_eq2 e2 ?_
  have T9 : tg (gP w8 v0 1) = 10 := t_tg (c := 4) Z.1 T_v0 (by decide) (by decide) rfl (by decide)
  refine tr_eq2 (t_fR Z.1 T_v0 (by decide) (by decide) (by decide)) ?_
  have T10 : tg (gP w8 (gP w8 v0 1) 0) = 12 := t_tg (c := 0) Z.1 T9 (by decide) (by decide) rfl (by decide)
  refine tr_eq2 (t_fR Z.1 T9 (by decide) (by decide) (by decide)) ?_
  refine tr_eq2 (t_fI Z.1 T_v0 (by decide) (by decide) rfl) ?_
  refine tr_eq2 (t_fI Z.1 T_v0 (by decide) (by decide) rfl) ?_
  obtain ⟨x11, hx11, hm⟩ := hp_bd hm
  obtain ⟨_, e2, I, F⟩ := t_X2_add Z.1 isf.rf T10 hx11
  replace Z := Z.step I F
  refine tr_eq2 e2 ?_
  have T12 : tg (gP x11 v0 1) = 10 := t_tg (c := 4) Z.1 T_v0 (by decide) (by decide) rfl (by decide)
  refine tr_eq2 (t_fR Z.1 T_v0 (by decide) (by decide) (by decide)) ?_
  have T13 : tg (gP x11 (gP x11 v0 1) 9) = 15 := t_tg (c := 0) Z.1 T12 (by decide) (by decide) rfl (by decide)
  refine tr_eq2 (t_fR Z.1 T12 (by decide) (by decide) (by decide)) ?_
  obtain ⟨x14, hx14, hm⟩ := hp_bd hm
  obtain ⟨_, e2, I, F⟩ := t_X5_endRow Z.1 isf.rf T13 hx14
  replace Z := Z.step I F
  refine tr_eq2 e2 ?_
  have T15 : tg (gP x14 v0 1) = 10 := t_tg (c := 4) Z.1 T_v0 (by decide) (by decide) rfl (by decide)
  refine tr_eq2 (t_fR Z.1 T_v0 (by decide) (by decide) (by decide)) ?_
  have T16 : tg (gP x14 (gP x14 v0 1) 10) = 15 := t_tg (c := 0) Z.1 T15 (by decide) (by decide) rfl (by decide)
  refine tr_eq2 (t_fR Z.1 T15 (by decide) (by decide) (by decide)) ?_
  obtain ⟨x17, hx17, hm⟩ := hp_bd hm
  obtain ⟨_, e2, I, F⟩ := t_X5_endRow Z.1 isf.rf T16 hx17
  replace Z := Z.step I F
  refine tr_eq2 e2 ?_
  have T18 : tg (gP x17 v0 1) = 10 := t_tg (c := 4) Z.1 T_v0 (by decide) (by decide) rfl (by decide)
  refine tr_eq2 (t_fR Z.1 T_v0 (by decide) (by decide) (by decide)) ?_
  have T19 : tg (gP x17 (gP x17 v0 1) 11) = 15 := t_tg (c := 0) Z.1 T18 (by decide) (by decide) rfl (by decide)
  refine tr_eq2 (t_fR Z.1 T18 (by decide) (by decide) (by decide)) ?_
  obtain ⟨x20, hx20, hm⟩ := hp_bd hm
  obtain ⟨_, e2, I, F⟩ := t_X5_endRow Z.1 isf.rf T19 hx20
  replace Z := Z.step I F
  refine tr_eq2 e2 ?_
  refine tr_eq2 (t_fI Z.1 T_v0 (by decide) (by decide) rfl) ?_
  by_cases c27 : (gF x20 v0 6) < (2 : Int32)
  · rw [if_pos c27] at hm ⊢
    have T21 : tg (gP x20 v0 3) = 17 := t_tg (c := 4) Z.1 T_v0 (by decide) (by decide) rfl (by decide)
    refine tr_eq2 (t_fR Z.1 T_v0 (by decide) (by decide) (by decide)) ?_
    have T22 : tg (gP x20 v0 1) = 10 := t_tg (c := 4) Z.1 T_v0 (by decide) (by decide) rfl (by decide)
    refine tr_eq2 (t_fR Z.1 T_v0 (by decide) (by decide) (by decide)) ?_
    obtain ⟨x23, hx23, hm⟩ := hp_bd hm
    obtain ⟨_, e2, I, F⟩ := t_X7_addHypothesis Z.1 isf.rf T21 T22 hx23
    replace Z := Z.step I F
    refine tr_eq2 e2 ?_
    try simp only [Z.2.1 v0 (by omega)]
    exact t_X4_endStatement_125 Z T_v0 hm
  · rw [if_neg c27] at hm ⊢
    have T24 : tg (gP x20 v0 3) = 17 := t_tg (c := 4) Z.1 T_v0 (by decide) (by decide) rfl (by decide)
    refine tr_eq2 (t_fR Z.1 T_v0 (by decide) (by decide) (by decide)) ?_
    have T25 : tg (gP x20 v0 1) = 10 := t_tg (c := 4) Z.1 T_v0 (by decide) (by decide) rfl (by decide)
    refine tr_eq2 (t_fR Z.1 T_v0 (by decide) (by decide) (by decide)) ?_
    try simp only [Z.2.1 v0 (by omega), Z.2.1 (gP x20 v0 1) (by omega), Z.2.1 (gP x20 v0 3) (by omega)]
    obtain ⟨x26, hx26, hm⟩ := hp_bd hm
    obtain ⟨_, _, _, _, e2, Z⟩ := t2_X7_makeFrame Z T24 T25 hx26
    refine tr_eq2 e2 ?_
    try dsimp only
    try simp only [Z.2.1 v0 (by omega)]
    exact t_X4_endStatement_110 Z T_v0 hm
def g_X4_endStatement (n : Nat) (v0 : Nat) (s : st_T) : Option (st_T) := g_X4_endStatement_0 n v0 s
theorem t2_X4_endStatement {tg r : Nat → Nat} {hb : hp_H} {zb c1 c2 : Nat} {r2 : Nat → Nat} {h : hp_H} {s : st_T} {sz sl n : Nat} {v0 : Nat} (Z : iz tg r hb zb c1 c2 r2 h s sz sl) (T_v0 : tg v0 = 14) {res : st_T} (hm : g_X4_endStatement n v0 s = some res) : ∃ h2 sz2 sl2 r3, f_X4_endStatement n (r v0) h sz sl = some ((h2, sz2, sl2)) ∧ iz tg r hb zb c1 c2 r3 h2 res sz2 sl2 := by
  unfold g_X4_endStatement at hm
  unfold f_X4_endStatement
  have e0 := t_ck (c := 4) Z.1 T_v0 (by decide)
  rw [Z.2.1 v0 (by omega)] at e0
  refine tr_eq2 e0 ?_
  exact t_X4_endStatement_0 Z T_v0 hm
abbrev eX_X4_readBook_49 (x : Int32 × st_T) (h2 : hp_H) (sz2 sl2 : Nat) : Int32 × hp_H × Nat × Nat := (fun y => (y.1, h2, sz2, sl2)) x
abbrev sX_X4_readBook_49 (x : Int32 × st_T) : st_T := (fun y => y.2) x
abbrev eR_X4_readBook_49 (x : (Int32 × Int32 × st_T) ⊕ (Int32 × st_T)) (h2 : hp_H) (sz2 sl2 : Nat) : (Int32 × Int32 × hp_H × Nat × Nat) ⊕ (Int32 × hp_H × Nat × Nat) := Sum.elim (fun y => .inl (y.1, y.2.1, h2, sz2, sl2)) (fun y => .inr (eX_X4_readBook_49 y h2 sz2 sl2)) x
abbrev sR_X4_readBook_49 (x : (Int32 × Int32 × st_T) ⊕ (Int32 × st_T)) : st_T := Sum.elim (fun y => y.2.2) sX_X4_readBook_49 x
def g_X4_readBook_210 (n : Nat) (v0 : Nat) (v2 : Int32) (v3 : Int32) (s : st_T) : Option ((Int32 × Int32 × st_T) ⊕ (Int32 × st_T)) :=
  some (.inl (v2, (v3 + (1 : Int32)), s))
set_option maxHeartbeats 1000000 in
theorem t_X4_readBook_210 {tg r : Nat → Nat} {hb : hp_H} {zb c1 c2 : Nat} {r2 : Nat → Nat} {h : hp_H} {s : st_T} {sz sl n : Nat} {v0 : Nat} {v2 : Int32} {v3 : Int32} (Z : iz tg r hb zb c1 c2 r2 h s sz sl) (T_v0 : tg v0 = 14) {res : (Int32 × Int32 × st_T) ⊕ (Int32 × st_T)} (hm : g_X4_readBook_210 n v0 v2 v3 s = some res) : ∃ h2 sz2 sl2 r3, f_X4_readBook_210 n (r v0) v2 v3 h sz sl = some (eR_X4_readBook_49 res h2 sz2 sl2) ∧ iz tg r hb zb c1 c2 r3 h2 (sR_X4_readBook_49 res) sz2 sl2 := by
  rw [← Z.2.1 v0 (by omega)]
  unfold g_X4_readBook_210 at hm
  unfold f_X4_readBook_210
  obtain rfl := Option.some.inj hm
  exact ⟨_, _, _, _, rfl, Z⟩
def g_X4_readBook_197 (n : Nat) (v0 : Nat) (v2 : Int32) (v3 : Int32) (s : st_T) : Option ((Int32 × Int32 × st_T) ⊕ (Int32 × st_T)) :=
  if (gF s v0 4) = (6 : Int32) then
    (g_X4_endStatement n v0 s).bind fun x1 =>
    g_X4_readBook_210 n v0 v2 v3 x1
  else
    g_X4_readBook_210 n v0 v2 v3 s
set_option maxHeartbeats 1000000 in
theorem t_X4_readBook_197 {tg r : Nat → Nat} {hb : hp_H} {zb c1 c2 : Nat} {r2 : Nat → Nat} {h : hp_H} {s : st_T} {sz sl n : Nat} {v0 : Nat} {v2 : Int32} {v3 : Int32} (Z : iz tg r hb zb c1 c2 r2 h s sz sl) (T_v0 : tg v0 = 14) {res : (Int32 × Int32 × st_T) ⊕ (Int32 × st_T)} (hm : g_X4_readBook_197 n v0 v2 v3 s = some res) : ∃ h2 sz2 sl2 r3, f_X4_readBook_197 n (r v0) v2 v3 h sz sl = some (eR_X4_readBook_49 res h2 sz2 sl2) ∧ iz tg r hb zb c1 c2 r3 h2 (sR_X4_readBook_49 res) sz2 sl2 := by
  rw [← Z.2.1 v0 (by omega)]
  unfold g_X4_readBook_197 at hm
  unfold f_X4_readBook_197
  refine tr_eq2 (t_fI Z.1 T_v0 (by decide) (by decide) rfl) ?_
  by_cases c2 : (gF s v0 4) = (6 : Int32)
  · rw [if_pos c2] at hm ⊢
    try simp only [Z.2.1 v0 (by omega)]
    obtain ⟨x1, hx1, hm⟩ := hp_bd hm
    obtain ⟨_, _, _, _, e2, Z⟩ := t2_X4_endStatement Z T_v0 hx1
    refine tr_eq2 e2 ?_
    try dsimp only
    try simp only [Z.2.1 v0 (by omega)]
    exact t_X4_readBook_210 Z T_v0 hm
  · rw [if_neg c2] at hm ⊢
    try simp only [Z.2.1 v0 (by omega)]
    exact t_X4_readBook_210 Z T_v0 hm
def g_X4_readBook_134 (n : Nat) (v0 : Nat) (v3 : Int32) (s0 : Int32) (s : st_T) : Option ((Int32 × Int32 × st_T) ⊕ (Int32 × st_T)) :=
  g_X4_readBook_197 n v0 s0 v3 s
set_option maxHeartbeats 1000000 in
theorem t_X4_readBook_134 {tg r : Nat → Nat} {hb : hp_H} {zb c1 c2 : Nat} {r2 : Nat → Nat} {h : hp_H} {s : st_T} {sz sl n : Nat} {v0 : Nat} {v3 : Int32} {s0 : Int32} (Z : iz tg r hb zb c1 c2 r2 h s sz sl) (T_v0 : tg v0 = 14) {res : (Int32 × Int32 × st_T) ⊕ (Int32 × st_T)} (hm : g_X4_readBook_134 n v0 v3 s0 s = some res) : ∃ h2 sz2 sl2 r3, f_X4_readBook_134 n (r v0) v3 s0 h sz sl = some (eR_X4_readBook_49 res h2 sz2 sl2) ∧ iz tg r hb zb c1 c2 r3 h2 (sR_X4_readBook_49 res) sz2 sl2 := by
  rw [← Z.2.1 v0 (by omega)]
  unfold g_X4_readBook_134 at hm
  unfold f_X4_readBook_134
  try simp only [Z.2.1 v0 (by omega)]
  exact t_X4_readBook_197 Z T_v0 hm
def g_X4_readBook_186 (n : Nat) (v0 : Nat) (v3 : Int32) (s0 : Int32) (s : st_T) : Option ((Int32 × Int32 × st_T) ⊕ (Int32 × st_T)) :=
  g_X4_readBook_197 n v0 s0 v3 s
set_option maxHeartbeats 1000000 in
theorem t_X4_readBook_186 {tg r : Nat → Nat} {hb : hp_H} {zb c1 c2 : Nat} {r2 : Nat → Nat} {h : hp_H} {s : st_T} {sz sl n : Nat} {v0 : Nat} {v3 : Int32} {s0 : Int32} (Z : iz tg r hb zb c1 c2 r2 h s sz sl) (T_v0 : tg v0 = 14) {res : (Int32 × Int32 × st_T) ⊕ (Int32 × st_T)} (hm : g_X4_readBook_186 n v0 v3 s0 s = some res) : ∃ h2 sz2 sl2 r3, f_X4_readBook_186 n (r v0) v3 s0 h sz sl = some (eR_X4_readBook_49 res h2 sz2 sl2) ∧ iz tg r hb zb c1 c2 r3 h2 (sR_X4_readBook_49 res) sz2 sl2 := by
  rw [← Z.2.1 v0 (by omega)]
  unfold g_X4_readBook_186 at hm
  unfold f_X4_readBook_186
  try simp only [Z.2.1 v0 (by omega)]
  exact t_X4_readBook_197 Z T_v0 hm
def g_X4_readBook_177 (n : Nat) (v0 : Nat) (v3 : Int32) (s0 : Int32) (s : st_T) : Option ((Int32 × Int32 × st_T) ⊕ (Int32 × st_T)) :=
  g_X4_readBook_186 n v0 v3 s0 s
set_option maxHeartbeats 1000000 in
theorem t_X4_readBook_177 {tg r : Nat → Nat} {hb : hp_H} {zb c1 c2 : Nat} {r2 : Nat → Nat} {h : hp_H} {s : st_T} {sz sl n : Nat} {v0 : Nat} {v3 : Int32} {s0 : Int32} (Z : iz tg r hb zb c1 c2 r2 h s sz sl) (T_v0 : tg v0 = 14) {res : (Int32 × Int32 × st_T) ⊕ (Int32 × st_T)} (hm : g_X4_readBook_177 n v0 v3 s0 s = some res) : ∃ h2 sz2 sl2 r3, f_X4_readBook_177 n (r v0) v3 s0 h sz sl = some (eR_X4_readBook_49 res h2 sz2 sl2) ∧ iz tg r hb zb c1 c2 r3 h2 (sR_X4_readBook_49 res) sz2 sl2 := by
  rw [← Z.2.1 v0 (by omega)]
  unfold g_X4_readBook_177 at hm
  unfold f_X4_readBook_177
  try simp only [Z.2.1 v0 (by omega)]
  exact t_X4_readBook_186 Z T_v0 hm
def g_X4_readBook_196 (n : Nat) (v0 : Nat) (v3 : Int32) (s0 : Int32) (s : st_T) : Option ((Int32 × Int32 × st_T) ⊕ (Int32 × st_T)) :=
  g_X4_readBook_197 n v0 s0 v3 s
set_option maxHeartbeats 1000000 in
theorem t_X4_readBook_196 {tg r : Nat → Nat} {hb : hp_H} {zb c1 c2 : Nat} {r2 : Nat → Nat} {h : hp_H} {s : st_T} {sz sl n : Nat} {v0 : Nat} {v3 : Int32} {s0 : Int32} (Z : iz tg r hb zb c1 c2 r2 h s sz sl) (T_v0 : tg v0 = 14) {res : (Int32 × Int32 × st_T) ⊕ (Int32 × st_T)} (hm : g_X4_readBook_196 n v0 v3 s0 s = some res) : ∃ h2 sz2 sl2 r3, f_X4_readBook_196 n (r v0) v3 s0 h sz sl = some (eR_X4_readBook_49 res h2 sz2 sl2) ∧ iz tg r hb zb c1 c2 r3 h2 (sR_X4_readBook_49 res) sz2 sl2 := by
  rw [← Z.2.1 v0 (by omega)]
  unfold g_X4_readBook_196 at hm
  unfold f_X4_readBook_196
  try simp only [Z.2.1 v0 (by omega)]
  exact t_X4_readBook_197 Z T_v0 hm
def g_X4_readBook_49 (n : Nat) (v0 : Nat) (v2 : Int32) (v3 : Int32) (s : st_T) : Option ((Int32 × Int32 × st_T) ⊕ (Int32 × st_T)) :=
  if (4096 : Int32) < v3 then
    some (.inr (v2, s))
  else
    if v2 = 0 then
      (g_X6_advance n (gP s v0 2) s).bind fun x2 =>
      if x2.1 = 0 then
        some (.inr (v2, x2.2))
      else
        (g_X6_word n (gP x2.2 v0 2) x2.2).bind fun x4 =>
        if (gF x2.2 v0 4) = (0 : Int32) then
          if x4 = 0 then
            (g_X4_takeLabel n v0 x2.2).bind fun x7 =>
            g_X4_readBook_134 n v0 v3 x7.1 x7.2
          else
            (g_X4_takeOutside n v0 x4 x2.2).bind fun x6 =>
            g_X4_readBook_134 n v0 v3 x6.1 x6.2
        else if (gF x2.2 v0 4) = (1 : Int32) then
          (g_X4_takeKind n v0 x4 x2.2).bind fun x10 =>
          g_X4_readBook_197 n v0 x10.1 v3 x10.2
        else if (gF x2.2 v0 4) = (2 : Int32) then
          (g_X4_takeDeclared n v0 x4 x2.2).bind fun x12 =>
          g_X4_readBook_197 n v0 x12.1 v3 x12.2
        else if (gF x2.2 v0 4) = (3 : Int32) then
          (g_X4_takeSeparated n v0 x4 x2.2).bind fun x14 =>
          g_X4_readBook_197 n v0 x14.1 v3 x14.2
        else if (gF x2.2 v0 4) = (4 : Int32) then
          if x4 = 0 then
            (g_X4_takeSymbol n v0 x2.2).bind fun x17 =>
            g_X4_readBook_177 n v0 v3 x17.1 x17.2
          else
            (g_X4_takeEnd n v0 x4 x2.2).bind fun x16 =>
            g_X4_readBook_186 n v0 v3 x16.1 x16.2
        else 
          (g_X4_takeProofToken n v0 x4 x2.2).bind fun x19 =>
          g_X4_readBook_196 n v0 v3 x19.1 x19.2
    else
      some (.inr (v2, s))
set_option maxHeartbeats 1000000 in
theorem t_X4_readBook_49 {tg r : Nat → Nat} {hb : hp_H} {zb c1 c2 : Nat} {r2 : Nat → Nat} {h : hp_H} {s : st_T} {sz sl n : Nat} {v0 : Nat} {v2 : Int32} {v3 : Int32} (Z : iz tg r hb zb c1 c2 r2 h s sz sl) (T_v0 : tg v0 = 14) {res : (Int32 × Int32 × st_T) ⊕ (Int32 × st_T)} (hm : g_X4_readBook_49 n v0 v2 v3 s = some res) : ∃ h2 sz2 sl2 r3, f_X4_readBook_49 n (r v0) v2 v3 h sz sl = some (eR_X4_readBook_49 res h2 sz2 sl2) ∧ iz tg r hb zb c1 c2 r3 h2 (sR_X4_readBook_49 res) sz2 sl2 := by
  rw [← Z.2.1 v0 (by omega)]
  unfold g_X4_readBook_49 at hm
  unfold f_X4_readBook_49
  by_cases c22 : (4096 : Int32) < v3
  · rw [if_pos c22] at hm ⊢
    obtain rfl := Option.some.inj hm
    exact ⟨_, _, _, _, rfl, Z⟩
  · rw [if_neg c22] at hm ⊢
    by_cases c21 : v2 = 0
    · rw [if_pos c21] at hm ⊢
      have T1 : tg (gP s v0 2) = 16 := t_tg (c := 4) Z.1 T_v0 (by decide) (by decide) rfl (by decide)
      refine tr_eq2 (t_fR Z.1 T_v0 (by decide) (by decide) (by decide)) ?_
      obtain ⟨x2, hx2, hm⟩ := hp_bd hm
      obtain ⟨_, e2, I, F⟩ := t_X6_advance Z.1 isf.rf T1 hx2
      replace Z := Z.step I F
      refine tr_eq2 e2 ?_
      try dsimp only
      by_cases c20 : x2.1 = 0
      · rw [if_pos c20] at hm ⊢
        obtain rfl := Option.some.inj hm
        exact ⟨_, _, _, _, rfl, Z⟩
      · rw [if_neg c20] at hm ⊢
        have T3 : tg (gP x2.2 v0 2) = 16 := t_tg (c := 4) Z.1 T_v0 (by decide) (by decide) rfl (by decide)
        refine tr_eq2 (t_fR Z.1 T_v0 (by decide) (by decide) (by decide)) ?_
        obtain ⟨x4, hx4, hm⟩ := hp_bd hm
        refine tr_eq2 (t_X6_word Z.1 T3 hx4) ?_
        refine tr_eq2 (t_fI Z.1 T_v0 (by decide) (by decide) rfl) ?_
        by_cases c5 : (gF x2.2 v0 4) = (0 : Int32)
        · rw [if_pos c5] at hm ⊢
          by_cases c8 : x4 = 0
          · rw [if_pos c8] at hm ⊢
            obtain ⟨x7, hx7, hm⟩ := hp_bd hm
            obtain ⟨_, e2, I, F⟩ := t_X4_takeLabel Z.1 isf.rf T_v0 hx7
            replace Z := Z.step I F
            refine tr_eq2 e2 ?_
            try dsimp only
            try simp only [Z.2.1 v0 (by omega)]
            exact t_X4_readBook_134 Z T_v0 hm
          · rw [if_neg c8] at hm ⊢
            obtain ⟨x6, hx6, hm⟩ := hp_bd hm
            obtain ⟨_, e2, I, F⟩ := t_X4_takeOutside Z.1 isf.rf T_v0 hx6
            replace Z := Z.step I F
            refine tr_eq2 e2 ?_
            try dsimp only
            try simp only [Z.2.1 v0 (by omega)]
            exact t_X4_readBook_134 Z T_v0 hm
        rw [if_neg c5] at hm ⊢
        by_cases c9 : (gF x2.2 v0 4) = (1 : Int32)
        · rw [if_pos c9] at hm ⊢
          obtain ⟨x10, hx10, hm⟩ := hp_bd hm
          obtain ⟨_, e2, I, F⟩ := t_X4_takeKind Z.1 isf.rf T_v0 hx10
          replace Z := Z.step I F
          refine tr_eq2 e2 ?_
          try dsimp only
          try simp only [Z.2.1 v0 (by omega)]
          exact t_X4_readBook_197 Z T_v0 hm
        rw [if_neg c9] at hm ⊢
        by_cases c11 : (gF x2.2 v0 4) = (2 : Int32)
        · rw [if_pos c11] at hm ⊢
          obtain ⟨x12, hx12, hm⟩ := hp_bd hm
          obtain ⟨_, e2, I, F⟩ := t_X4_takeDeclared Z.1 isf.rf T_v0 hx12
          replace Z := Z.step I F
          refine tr_eq2 e2 ?_
          try dsimp only
          try simp only [Z.2.1 v0 (by omega)]
          exact t_X4_readBook_197 Z T_v0 hm
        rw [if_neg c11] at hm ⊢
        by_cases c13 : (gF x2.2 v0 4) = (3 : Int32)
        · rw [if_pos c13] at hm ⊢
          obtain ⟨x14, hx14, hm⟩ := hp_bd hm
          obtain ⟨_, e2, I, F⟩ := t_X4_takeSeparated Z.1 isf.rf T_v0 hx14
          replace Z := Z.step I F
          refine tr_eq2 e2 ?_
          try dsimp only
          try simp only [Z.2.1 v0 (by omega)]
          exact t_X4_readBook_197 Z T_v0 hm
        rw [if_neg c13] at hm ⊢
        by_cases c15 : (gF x2.2 v0 4) = (4 : Int32)
        · rw [if_pos c15] at hm ⊢
          by_cases c18 : x4 = 0
          · rw [if_pos c18] at hm ⊢
            try simp only [Z.2.1 v0 (by omega)]
            obtain ⟨x17, hx17, hm⟩ := hp_bd hm
            obtain ⟨_, _, _, _, e2, Z⟩ := t2_X4_takeSymbol Z T_v0 hx17
            refine tr_eq2 e2 ?_
            try dsimp only
            try simp only [Z.2.1 v0 (by omega)]
            exact t_X4_readBook_177 Z T_v0 hm
          · rw [if_neg c18] at hm ⊢
            obtain ⟨x16, hx16, hm⟩ := hp_bd hm
            obtain ⟨_, e2, I, F⟩ := t_X4_takeEnd Z.1 isf.rf T_v0 hx16
            replace Z := Z.step I F
            refine tr_eq2 e2 ?_
            try dsimp only
            try simp only [Z.2.1 v0 (by omega)]
            exact t_X4_readBook_186 Z T_v0 hm
        rw [if_neg c15] at hm ⊢
        try simp only [Z.2.1 v0 (by omega)]
        obtain ⟨x19, hx19, hm⟩ := hp_bd hm
        obtain ⟨_, _, _, _, e2, Z⟩ := t2_X4_takeProofToken Z T_v0 hx19
        refine tr_eq2 e2 ?_
        try dsimp only
        try simp only [Z.2.1 v0 (by omega)]
        exact t_X4_readBook_196 Z T_v0 hm
    · rw [if_neg c21] at hm ⊢
      obtain rfl := Option.some.inj hm
      exact ⟨_, _, _, _, rfl, Z⟩
def gL_X4_readBook_49 (n : Nat) (v0 : Nat) (c : Int32 × Int32 × st_T) : Option ((Int32 × Int32 × st_T) ⊕ (Int32 × st_T)) := g_X4_readBook_49 n v0 c.1 c.2.1 c.2.2
theorem tl_X4_readBook_49 {tg r : Nat → Nat} {hb : hp_H} {zb c1 c2 n : Nat} {v0 : Nat} (T_v0 : tg v0 = 14) : ∀ (k : Nat) (k0 : Int32) (k1 : Int32) (r2 : Nat → Nat) (h : hp_H) (s : st_T) (sz sl : Nat) (x : Int32 × st_T), iz tg r hb zb c1 c2 r2 h s sz sl → hp_lp (gL_X4_readBook_49 n v0) k (k0, k1, s) = some x → ∃ h2 sz2 sl2 r3, hp_lp (fL_X4_readBook_49 n (r v0)) k (k0, k1, h, sz, sl) = some (eX_X4_readBook_49 x h2 sz2 sl2) ∧ iz tg r hb zb c1 c2 r3 h2 (sX_X4_readBook_49 x) sz2 sl2 := by
  intro k
  induction k with
  | zero => intro k0 k1 r2 h s sz sl x Z hx; exact (hp_lp_0 hx).elim
  | succ k ih =>
    intro k0 k1 r2 h s sz sl x Z hx
    obtain ⟨rr, hr, hc⟩ := hp_lp_1 hx
    obtain ⟨h2, sz2, sl2, r3, e2, Z2⟩ := t_X4_readBook_49 Z T_v0 hr
    rcases hc with ⟨s3, e3, hx3⟩ | e3
    · subst e3
      obtain ⟨h3, sz3, sl3, r4, e4, Z3⟩ := ih _ _ r3 h2 _ sz2 sl2 x Z2 hx3
      exact ⟨h3, sz3, sl3, r4, hp_lp_s e2 e4, Z3⟩
    · subst e3
      exact ⟨h2, sz2, sl2, r3, hp_lp_x e2, Z2⟩
def g_X4_readBook_241 (n : Nat) (v0 : Nat) (v2 : Int32) (s : st_T) : Option (Int32 × st_T) :=
  if v2 = 0 then
    some ((gF s (gP s v0 2) 2), s)
  else
    some (v2, s)
set_option maxHeartbeats 1000000 in
theorem t_X4_readBook_241 {tg r : Nat → Nat} {hb : hp_H} {zb c1 c2 : Nat} {r2 : Nat → Nat} {h : hp_H} {s : st_T} {sz sl n : Nat} {v0 : Nat} {v2 : Int32} (Z : iz tg r hb zb c1 c2 r2 h s sz sl) (T_v0 : tg v0 = 14) {res : Int32 × st_T} (hm : g_X4_readBook_241 n v0 v2 s = some res) : ∃ h2 sz2 sl2 r3, f_X4_readBook_241 n (r v0) v2 h sz sl = some ((res.1, h2, sz2, sl2)) ∧ iz tg r hb zb c1 c2 r3 h2 res.2 sz2 sl2 := by
  rw [← Z.2.1 v0 (by omega)]
  unfold g_X4_readBook_241 at hm
  unfold f_X4_readBook_241
  by_cases c2 : v2 = 0
  · rw [if_pos c2] at hm ⊢
    have T1 : tg (gP s v0 2) = 16 := t_tg (c := 4) Z.1 T_v0 (by decide) (by decide) rfl (by decide)
    refine tr_eq2 (t_fR Z.1 T_v0 (by decide) (by decide) (by decide)) ?_
    refine tr_eq2 (t_fI Z.1 T1 (by decide) (by decide) rfl) ?_
    obtain rfl := Option.some.inj hm
    exact ⟨_, _, _, _, rfl, Z⟩
  · rw [if_neg c2] at hm ⊢
    obtain rfl := Option.some.inj hm
    exact ⟨_, _, _, _, rfl, Z⟩
def g_X4_readBook_274 (n : Nat) (s : st_T) : Option (Int32 × st_T) :=
  some ((2 : Int32), s)
set_option maxHeartbeats 1000000 in
theorem t_X4_readBook_274 {tg r : Nat → Nat} {hb : hp_H} {zb c1 c2 : Nat} {r2 : Nat → Nat} {h : hp_H} {s : st_T} {sz sl n : Nat} (Z : iz tg r hb zb c1 c2 r2 h s sz sl) {res : Int32 × st_T} (hm : g_X4_readBook_274 n  s = some res) : ∃ h2 sz2 sl2 r3, f_X4_readBook_274 n  h sz sl = some ((res.1, h2, sz2, sl2)) ∧ iz tg r hb zb c1 c2 r3 h2 res.2 sz2 sl2 := by
  unfold g_X4_readBook_274 at hm
  unfold f_X4_readBook_274
  obtain rfl := Option.some.inj hm
  exact ⟨_, _, _, _, rfl, Z⟩
def g_X4_readBook_216 (n : Nat) (v0 : Nat) (v2 : Int32) (s : st_T) : Option (Int32 × st_T) :=
  (wF s v0 0 (gF s (gP s v0 2) 0)).bind fun w2 =>
  if v2 = 0 then
    if (gF w2 (gP w2 v0 2) 2) = 0 then
      if (gF w2 v0 4) = 0 then
        if (gF w2 (gP w2 v0 3) 0) ≤ 0 then
          some ((0 : Int32), w2)
        else
          g_X4_readBook_274 n  w2
      else
        g_X4_readBook_274 n  w2
    else
      g_X4_readBook_241 n v0 v2 w2
  else
    g_X4_readBook_241 n v0 v2 w2
set_option maxHeartbeats 1000000 in
theorem t_X4_readBook_216 {tg r : Nat → Nat} {hb : hp_H} {zb c1 c2 : Nat} {r2 : Nat → Nat} {h : hp_H} {s : st_T} {sz sl n : Nat} {v0 : Nat} {v2 : Int32} (Z : iz tg r hb zb c1 c2 r2 h s sz sl) (T_v0 : tg v0 = 14) {res : Int32 × st_T} (hm : g_X4_readBook_216 n v0 v2 s = some res) : ∃ h2 sz2 sl2 r3, f_X4_readBook_216 n (r v0) v2 h sz sl = some ((res.1, h2, sz2, sl2)) ∧ iz tg r hb zb c1 c2 r3 h2 res.2 sz2 sl2 := by
  rw [← Z.2.1 v0 (by omega)]
  unfold g_X4_readBook_216 at hm
  unfold f_X4_readBook_216
  have T1 : tg (gP s v0 2) = 16 := t_tg (c := 4) Z.1 T_v0 (by decide) (by decide) rfl (by decide)
  refine tr_eq2 (t_fR Z.1 T_v0 (by decide) (by decide) (by decide)) ?_
  refine tr_eq2 (t_fI Z.1 T1 (by decide) (by decide) rfl) ?_
  obtain ⟨w2, hw2, hm⟩ := hp_bd hm
  obtain ⟨_, e2, I, F⟩ := t_wF (c := 4) (k := 0) Z.1 isf.rf T_v0 (by decide) (by decide) rfl hw2
  replace Z := Z.step I F
  refine tr_eq2 e2 ?_
  by_cases c8 : v2 = 0
  · rw [if_pos c8] at hm ⊢
    have T3 : tg (gP w2 v0 2) = 16 := t_tg (c := 4) Z.1 T_v0 (by decide) (by decide) rfl (by decide)
    refine tr_eq2 (t_fR Z.1 T_v0 (by decide) (by decide) (by decide)) ?_
    refine tr_eq2 (t_fI Z.1 T3 (by decide) (by decide) rfl) ?_
    by_cases c7 : (gF w2 (gP w2 v0 2) 2) = 0
    · rw [if_pos c7] at hm ⊢
      refine tr_eq2 (t_fI Z.1 T_v0 (by decide) (by decide) rfl) ?_
      by_cases c6 : (gF w2 v0 4) = 0
      · rw [if_pos c6] at hm ⊢
        have T4 : tg (gP w2 v0 3) = 17 := t_tg (c := 4) Z.1 T_v0 (by decide) (by decide) rfl (by decide)
        refine tr_eq2 (t_fR Z.1 T_v0 (by decide) (by decide) (by decide)) ?_
        refine tr_eq2 (t_fI Z.1 T4 (by decide) (by decide) rfl) ?_
        by_cases c5 : (gF w2 (gP w2 v0 3) 0) ≤ 0
        · rw [if_pos c5] at hm ⊢
          obtain rfl := Option.some.inj hm
          exact ⟨_, _, _, _, rfl, Z⟩
        · rw [if_neg c5] at hm ⊢
          try simp only [Z.2.1 v0 (by omega)]
          exact t_X4_readBook_274 Z  hm
      · rw [if_neg c6] at hm ⊢
        try simp only [Z.2.1 v0 (by omega)]
        exact t_X4_readBook_274 Z  hm
    · rw [if_neg c7] at hm ⊢
      try simp only [Z.2.1 v0 (by omega)]
      exact t_X4_readBook_241 Z T_v0 hm
  · rw [if_neg c8] at hm ⊢
    try simp only [Z.2.1 v0 (by omega)]
    exact t_X4_readBook_241 Z T_v0 hm
def g_X4_readBook_0 (n : Nat) (v0 : Nat) (v1 : Nat) (s : st_T) : Option (Int32 × st_T) :=
  (wP s v0 1 v1).bind fun w1 =>
  (g_X0_clear n (gP w1 v0 1) w1).bind fun x3 =>
  (g_X7_clear n (gP x3 v0 3) x3).bind fun x5 =>
  (g_X6_open n (gP x5 v0 2) (gP x5 (gP x5 v0 1) 1) (gF x5 (gP x5 v0 1) 2) x5).bind fun x10 =>
  (wF x10 v0 4 (0 : Int32)).bind fun w11 =>
  (hp_lp (gL_X4_readBook_49 n v0) n ((0 : Int32), (0 : Int32), w11)).bind fun x12 =>
  g_X4_readBook_216 n v0 x12.1 x12.2
set_option maxHeartbeats 1000000 in
theorem t_X4_readBook_0 {tg r : Nat → Nat} {hb : hp_H} {zb c1 c2 : Nat} {r2 : Nat → Nat} {h : hp_H} {s : st_T} {sz sl n : Nat} {v0 : Nat} {v1 : Nat} (Z : iz tg r hb zb c1 c2 r2 h s sz sl) (T_v0 : tg v0 = 14) (T_v1 : tg v1 = 10) {res : Int32 × st_T} (hm : g_X4_readBook_0 n v0 v1 s = some res) : ∃ h2 sz2 sl2 r3, f_X4_readBook_0 n (r v0) (r v1) h sz sl = some ((res.1, h2, sz2, sl2)) ∧ iz tg r hb zb c1 c2 r3 h2 res.2 sz2 sl2 := by
  rw [← Z.2.1 v0 (by omega)]
  rw [← Z.2.1 v1 (by omega)]
  unfold g_X4_readBook_0 at hm
  unfold f_X4_readBook_0
  obtain ⟨w1, hw1, hm⟩ := hp_bd hm
  obtain ⟨_, e2, I, F⟩ := t_wP (c := 4) (k := 1) Z.1 isf.rf (by decide) T_v0 (by decide) (by decide) rfl (by decide) T_v1 hw1
  replace Z := Z.step I F
  refine tr_eq2 e2 ?_
  have T2 : tg (gP w1 v0 1) = 10 := t_tg (c := 4) Z.1 T_v0 (by decide) (by decide) rfl (by decide)
  refine tr_eq2 (t_fR Z.1 T_v0 (by decide) (by decide) (by decide)) ?_
  obtain ⟨x3, hx3, hm⟩ := hp_bd hm
  obtain ⟨_, e2, I, F⟩ := t_X0_clear Z.1 isf.rf T2 hx3
  replace Z := Z.step I F
  refine tr_eq2 e2 ?_
  have T4 : tg (gP x3 v0 3) = 17 := t_tg (c := 4) Z.1 T_v0 (by decide) (by decide) rfl (by decide)
  refine tr_eq2 (t_fR Z.1 T_v0 (by decide) (by decide) (by decide)) ?_
  obtain ⟨x5, hx5, hm⟩ := hp_bd hm
  obtain ⟨_, e2, I, F⟩ := t_X7_clear Z.1 isf.rf T4 hx5
  replace Z := Z.step I F
  refine tr_eq2 e2 ?_
  have T6 : tg (gP x5 v0 2) = 16 := t_tg (c := 4) Z.1 T_v0 (by decide) (by decide) rfl (by decide)
  refine tr_eq2 (t_fR Z.1 T_v0 (by decide) (by decide) (by decide)) ?_
  have T7 : tg (gP x5 v0 1) = 10 := t_tg (c := 4) Z.1 T_v0 (by decide) (by decide) rfl (by decide)
  refine tr_eq2 (t_fR Z.1 T_v0 (by decide) (by decide) (by decide)) ?_
  have T8 : tg (gP x5 (gP x5 v0 1) 1) = 1 := t_tg (c := 0) Z.1 T7 (by decide) (by decide) rfl (by decide)
  refine tr_eq2 (t_fR Z.1 T7 (by decide) (by decide) (by decide)) ?_
  have T9 : tg (gP x5 v0 1) = 10 := t_tg (c := 4) Z.1 T_v0 (by decide) (by decide) rfl (by decide)
  refine tr_eq2 (t_fR Z.1 T_v0 (by decide) (by decide) (by decide)) ?_
  refine tr_eq2 (t_fI Z.1 T9 (by decide) (by decide) rfl) ?_
  obtain ⟨x10, hx10, hm⟩ := hp_bd hm
  obtain ⟨_, e2, I, F⟩ := t_X6_open Z.1 isf.rf T6 T8 hx10
  replace Z := Z.step I F
  refine tr_eq2 e2 ?_
  obtain ⟨w11, hw11, hm⟩ := hp_bd hm
  obtain ⟨_, e2, I, F⟩ := t_wF (c := 4) (k := 4) Z.1 isf.rf T_v0 (by decide) (by decide) rfl hw11
  replace Z := Z.step I F
  refine tr_eq2 e2 ?_
  obtain ⟨x12, hx12, hm⟩ := hp_bd hm
  try simp only [Z.2.1 v0 (by omega), Z.2.1 v1 (by omega)]
  obtain ⟨_, _, _, _, e2, Z⟩ := tl_X4_readBook_49 T_v0 n _ _ _ _ _ _ _ _ Z hx12
  refine tr_eq2 e2 ?_
  try dsimp only [eX_X4_readBook_49]
  replace Z : iz tg r hb zb c1 c2 _ _ x12.2 _ _ := Z
  try simp only [Z.2.1 v0 (by omega)]
  exact t_X4_readBook_216 Z T_v0 hm
def g_X4_readBook (n : Nat) (v0 : Nat) (v1 : Nat) (s : st_T) : Option (Int32 × st_T) := g_X4_readBook_0 n v0 v1 s
theorem t2_X4_readBook {tg r : Nat → Nat} {hb : hp_H} {zb c1 c2 : Nat} {r2 : Nat → Nat} {h : hp_H} {s : st_T} {sz sl n : Nat} {v0 : Nat} {v1 : Nat} (Z : iz tg r hb zb c1 c2 r2 h s sz sl) (T_v0 : tg v0 = 14) (T_v1 : tg v1 = 10) {res : Int32 × st_T} (hm : g_X4_readBook n v0 v1 s = some res) : ∃ h2 sz2 sl2 r3, f_X4_readBook n (r v0) (r v1) h sz sl = some ((res.1, h2, sz2, sl2)) ∧ iz tg r hb zb c1 c2 r3 h2 res.2 sz2 sl2 := by
  unfold g_X4_readBook at hm
  unfold f_X4_readBook
  have e0 := t_ck (c := 4) Z.1 T_v0 (by decide)
  rw [Z.2.1 v0 (by omega)] at e0
  refine tr_eq2 e0 ?_
  exact t_X4_readBook_0 Z T_v0 T_v1 hm
