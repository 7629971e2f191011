def g_X0_clear_0 (n : Nat) (v0 : Nat) (s : st_T) : Option (st_T) :=
  (g_X2_clear n (gP s v0 0) s).bind fun x2 =>
  (wF x2 v0 3 (0 : Int32)).bind fun w3 =>
  (wF w3 v0 5 (0 : Int32)).bind fun w4 =>
  (g_X5_clear n (gP w4 v0 9) w4).bind fun x6 =>
  (g_X5_clear n (gP x6 v0 10) x6).bind fun x8 =>
  (g_X5_clear n (gP x8 v0 11) x8).bind fun x10 =>
  (g_X5_clear n (gP x10 v0 12) x10).bind fun x12 =>
  (g_X5_clear n (gP x12 v0 13) x12).bind fun x14 =>
  (g_X5_clear n (gP x14 v0 14) x14).bind fun x16 =>
  some x16
set_option maxHeartbeats 1000000 in
theorem t_X0_clear_0 {tg r : Nat → Nat} {h hb : hp_H} {s sb : st_T} {n : Nat} {v0 : Nat} (I : iso tg r h s) (F : isf tg r hb h sb s) (T_v0 : tg v0 = 10) {res : st_T} (hm : g_X0_clear_0 n v0 s = some res) : ∃ h2, f_X0_clear_0 n (r v0) h = some (h2) ∧ iso tg r h2 res ∧ isf tg r hb h2 sb res := by
  unfold g_X0_clear_0 at hm
  unfold f_X0_clear_0
  have T1 : tg (gP s v0 0) = 12 := t_tg (c := 0) I T_v0 (by decide) (by decide) rfl (by decide)
  refine tr_eq (t_fR I T_v0 (by decide) (by decide) (by decide)) ?_
  obtain ⟨x2, hx2, hm⟩ := hp_bd hm
  obtain ⟨_, e2, I, F⟩ := t_X2_clear I F T1 hx2
  refine tr_eq e2 ?_
  obtain ⟨w3, hw3, hm⟩ := hp_bd hm
  obtain ⟨_, e2, I, F⟩ := t_wF (c := 0) (k := 3) I F T_v0 (by decide) (by decide) rfl hw3
  refine tr_eq e2 ?_
  obtain ⟨w4, hw4, hm⟩ := hp_bd hm
  obtain ⟨_, e2, I, F⟩ := t_wF (c := 0) (k := 5) I F T_v0 (by decide) (by decide) rfl hw4
  refine tr_eq e2 ?_
  have T5 : tg (gP w4 v0 9) = 15 := t_tg (c := 0) I T_v0 (by decide) (by decide) rfl (by decide)
  refine tr_eq (t_fR I T_v0 (by decide) (by decide) (by decide)) ?_
  obtain ⟨x6, hx6, hm⟩ := hp_bd hm
  obtain ⟨_, e2, I, F⟩ := t_X5_clear I F T5 hx6
  refine tr_eq e2 ?_
  have T7 : tg (gP x6 v0 10) = 15 := t_tg (c := 0) I T_v0 (by decide) (by decide) rfl (by decide)
  refine tr_eq (t_fR I T_v0 (by decide) (by decide) (by decide)) ?_
  obtain ⟨x8, hx8, hm⟩ := hp_bd hm
  obtain ⟨_, e2, I, F⟩ := t_X5_clear I F T7 hx8
  refine tr_eq e2 ?_
  have T9 : tg (gP x8 v0 11) = 15 := t_tg (c := 0) I T_v0 (by decide) (by decide) rfl (by decide)
  refine tr_eq (t_fR I T_v0 (by decide) (by decide) (by decide)) ?_
  obtain ⟨x10, hx10, hm⟩ := hp_bd hm
  obtain ⟨_, e2, I, F⟩ := t_X5_clear I F T9 hx10
  refine tr_eq e2 ?_
  have T11 : tg (gP x10 v0 12) = 15 := t_tg (c := 0) I T_v0 (by decide) (by decide) rfl (by decide)
  refine tr_eq (t_fR I T_v0 (by decide) (by decide) (by decide)) ?_
  obtain ⟨x12, hx12, hm⟩ := hp_bd hm
  obtain ⟨_, e2, I, F⟩ := t_X5_clear I F T11 hx12
  refine tr_eq e2 ?_
  have T13 : tg (gP x12 v0 13) = 15 := t_tg (c := 0) I T_v0 (by decide) (by decide) rfl (by decide)
  refine tr_eq (t_fR I T_v0 (by decide) (by decide) (by decide)) ?_
  obtain ⟨x14, hx14, hm⟩ := hp_bd hm
  obtain ⟨_, e2, I, F⟩ := t_X5_clear I F T13 hx14
  refine tr_eq e2 ?_
  have T15 : tg (gP x14 v0 14) = 15 := t_tg (c := 0) I T_v0 (by decide) (by decide) rfl (by decide)
  refine tr_eq (t_fR I T_v0 (by decide) (by decide) (by decide)) ?_
  obtain ⟨x16, hx16, hm⟩ := hp_bd hm
  obtain ⟨_, e2, I, F⟩ := t_X5_clear I F T15 hx16
  refine tr_eq e2 ?_
  obtain rfl := Option.some.inj hm
  exact ⟨_, rfl, I, F⟩
def g_X0_clear (n : Nat) (v0 : Nat) (s : st_T) : Option (st_T) := g_X0_clear_0 n v0 s
theorem t_X0_clear {tg r : Nat → Nat} {h hb : hp_H} {s sb : st_T} {n : Nat} {v0 : Nat} (I : iso tg r h s) (F : isf tg r hb h sb s) (T_v0 : tg v0 = 10) {res : st_T} (hm : g_X0_clear n v0 s = some res) : ∃ h2, f_X0_clear n (r v0) h = some (h2) ∧ iso tg r h2 res ∧ isf tg r hb h2 sb res := by
  unfold g_X0_clear at hm
  unfold f_X0_clear
  refine tr_eq (t_ck I T_v0 (by decide)) ?_
  exact t_X0_clear_0 I F T_v0 hm
def g_X0_isStatement_0 (n : Nat) (v0 : Nat) (v1 : Int32) (s : st_T) : Option (Int32) :=
  if v1 < 0 then
    some (0 : Int32)
  else
    if (gF s v0 5) ≤ v1 then
      some (0 : Int32)
    else
      some (1 : Int32)
set_option maxHeartbeats 1000000 in
theorem t_X0_isStatement_0 {tg r : Nat → Nat} {h : hp_H} {s : st_T} {n : Nat} {v0 : Nat} {v1 : Int32} (I : iso tg r h s) (T_v0 : tg v0 = 10) {res : Int32} (hm : g_X0_isStatement_0 n v0 v1 s = some res) : f_X0_isStatement_0 n (r v0) v1 h = some res := by
  unfold g_X0_isStatement_0 at hm
  unfold f_X0_isStatement_0
  by_cases c2 : v1 < 0
  · rw [if_pos c2] at hm ⊢
    obtain rfl := Option.some.inj hm
    rfl
  · rw [if_neg c2] at hm ⊢
    refine tr_eq0 (t_fI I T_v0 (by decide) (by decide) rfl) ?_
    by_cases c1 : (gF s v0 5) ≤ v1
    · rw [if_pos c1] at hm ⊢
      obtain rfl := Option.some.inj hm
      rfl
    · rw [if_neg c1] at hm ⊢
      obtain rfl := Option.some.inj hm
      rfl
def g_X0_isStatement (n : Nat) (v0 : Nat) (v1 : Int32) (s : st_T) : Option (Int32) := g_X0_isStatement_0 n v0 v1 s
theorem t_X0_isStatement {tg r : Nat → Nat} {h : hp_H} {s : st_T} {n : Nat} {v0 : Nat} {v1 : Int32} (I : iso tg r h s) (T_v0 : tg v0 = 10) {res : Int32} (hm : g_X0_isStatement n v0 v1 s = some res) : f_X0_isStatement n (r v0) v1 h = some res := by
  unfold g_X0_isStatement at hm
  unfold f_X0_isStatement
  refine tr_eq0 (t_ck I T_v0 (by decide)) ?_
  exact t_X0_isStatement_0 I T_v0 hm
def g_X0_isAssertion_0 (n : Nat) (v0 : Nat) (v1 : Int32) (s : st_T) : Option (Int32) :=
  (g_X0_isStatement n v0 v1 s).bind fun x1 =>
  if x1 = 0 then
    some (0 : Int32)
  else
    (gA s (gP s v0 6) v1).bind fun x3 =>
    if x3 < (2 : Int32) then
      some (0 : Int32)
    else
      some (1 : Int32)
set_option maxHeartbeats 1000000 in
theorem t_X0_isAssertion_0 {tg r : Nat → Nat} {h : hp_H} {s : st_T} {n : Nat} {v0 : Nat} {v1 : Int32} (I : iso tg r h s) (T_v0 : tg v0 = 10) {res : Int32} (hm : g_X0_isAssertion_0 n v0 v1 s = some res) : f_X0_isAssertion_0 n (r v0) v1 h = some res := by
  unfold g_X0_isAssertion_0 at hm
  unfold f_X0_isAssertion_0
  obtain ⟨x1, hx1, hm⟩ := hp_bd hm
  refine tr_eq0 (t_X0_isStatement I T_v0 hx1) ?_
  by_cases c5 : x1 = 0
  · rw [if_pos c5] at hm ⊢
    obtain rfl := Option.some.inj hm
    rfl
  · rw [if_neg c5] at hm ⊢
    have T2 : tg (gP s v0 6) = 0 := t_tg (c := 0) I T_v0 (by decide) (by decide) rfl (by decide)
    refine tr_eq0 (t_fR I T_v0 (by decide) (by decide) (by decide)) ?_
    obtain ⟨x3, hx3, hm⟩ := hp_bd hm
    refine tr_eq0 (t_aI I T2 (by decide) rfl hx3) ?_
    by_cases c4 : x3 < (2 : Int32)
    · rw [if_pos c4] at hm ⊢
      obtain rfl := Option.some.inj hm
      rfl
    · rw [if_neg c4] at hm ⊢
      obtain rfl := Option.some.inj hm
      rfl
def g_X0_isAssertion (n : Nat) (v0 : Nat) (v1 : Int32) (s : st_T) : Option (Int32) := g_X0_isAssertion_0 n v0 v1 s
theorem t_X0_isAssertion {tg r : Nat → Nat} {h : hp_H} {s : st_T} {n : Nat} {v0 : Nat} {v1 : Int32} (I : iso tg r h s) (T_v0 : tg v0 = 10) {res : Int32} (hm : g_X0_isAssertion n v0 v1 s = some res) : f_X0_isAssertion n (r v0) v1 h = some res := by
  unfold g_X0_isAssertion at hm
  unfold f_X0_isAssertion
  refine tr_eq0 (t_ck I T_v0 (by decide)) ?_
  exact t_X0_isAssertion_0 I T_v0 hm
def g_X0_isProvable_0 (n : Nat) (v0 : Nat) (v1 : Int32) (s : st_T) : Option (Int32) :=
  (g_X0_isStatement n v0 v1 s).bind fun x1 =>
  if x1 = 0 then
    some (0 : Int32)
  else
    (gA s (gP s v0 6) v1).bind fun x3 =>
    if x3 = (3 : Int32) then
      some (1 : Int32)
    else
      some (0 : Int32)
set_option maxHeartbeats 1000000 in
theorem t_X0_isProvable_0 {tg r : Nat → Nat} {h : hp_H} {s : st_T} {n : Nat} {v0 : Nat} {v1 : Int32} (I : iso tg r h s) (T_v0 : tg v0 = 10) {res : Int32} (hm : g_X0_isProvable_0 n v0 v1 s = some res) : f_X0_isProvable_0 n (r v0) v1 h = some res := by
  unfold g_X0_isProvable_0 at hm
  unfold f_X0_isProvable_0
  obtain ⟨x1, hx1, hm⟩ := hp_bd hm
  refine tr_eq0 (t_X0_isStatement I T_v0 hx1) ?_
  by_cases c5 : x1 = 0
  · rw [if_pos c5] at hm ⊢
    obtain rfl := Option.some.inj hm
    rfl
  · rw [if_neg c5] at hm ⊢
    have T2 : tg (gP s v0 6) = 0 := t_tg (c := 0) I T_v0 (by decide) (by decide) rfl (by decide)
    refine tr_eq0 (t_fR I T_v0 (by decide) (by decide) (by decide)) ?_
    obtain ⟨x3, hx3, hm⟩ := hp_bd hm
    refine tr_eq0 (t_aI I T2 (by decide) rfl hx3) ?_
    by_cases c4 : x3 = (3 : Int32)
    · rw [if_pos c4] at hm ⊢
      obtain rfl := Option.some.inj hm
      rfl
    · rw [if_neg c4] at hm ⊢
      obtain rfl := Option.some.inj hm
      rfl
def g_X0_isProvable (n : Nat) (v0 : Nat) (v1 : Int32) (s : st_T) : Option (Int32) := g_X0_isProvable_0 n v0 v1 s
theorem t_X0_isProvable {tg r : Nat → Nat} {h : hp_H} {s : st_T} {n : Nat} {v0 : Nat} {v1 : Int32} (I : iso tg r h s) (T_v0 : tg v0 = 10) {res : Int32} (hm : g_X0_isProvable n v0 v1 s = some res) : f_X0_isProvable n (r v0) v1 h = some res := by
  unfold g_X0_isProvable at hm
  unfold f_X0_isProvable
  refine tr_eq0 (t_ck I T_v0 (by decide)) ?_
  exact t_X0_isProvable_0 I T_v0 hm
def g_X0_isVariable_0 (n : Nat) (v0 : Nat) (v1 : Int32) (s : st_T) : Option (Int32) :=
  if v1 < 0 then
    some (0 : Int32)
  else
    if (gF s v0 3) ≤ v1 then
      some (0 : Int32)
    else
      (gA s (gP s v0 4) v1).bind fun x2 =>
      if x2 = 0 then
        some (0 : Int32)
      else
        some (1 : Int32)
set_option maxHeartbeats 1000000 in
theorem t_X0_isVariable_0 {tg r : Nat → Nat} {h : hp_H} {s : st_T} {n : Nat} {v0 : Nat} {v1 : Int32} (I : iso tg r h s) (T_v0 : tg v0 = 10) {res : Int32} (hm : g_X0_isVariable_0 n v0 v1 s = some res) : f_X0_isVariable_0 n (r v0) v1 h = some res := by
  unfold g_X0_isVariable_0 at hm
  unfold f_X0_isVariable_0
  by_cases c5 : v1 < 0
  · rw [if_pos c5] at hm ⊢
    obtain rfl := Option.some.inj hm
    rfl
  · rw [if_neg c5] at hm ⊢
    refine tr_eq0 (t_fI I T_v0 (by decide) (by decide) rfl) ?_
    by_cases c4 : (gF s v0 3) ≤ v1
    · rw [if_pos c4] at hm ⊢
      obtain rfl := Option.some.inj hm
      rfl
    · rw [if_neg c4] at hm ⊢
      have T1 : tg (gP s v0 4) = 1 := t_tg (c := 0) I T_v0 (by decide) (by decide) rfl (by decide)
      refine tr_eq0 (t_fR I T_v0 (by decide) (by decide) (by decide)) ?_
      obtain ⟨x2, hx2, hm⟩ := hp_bd hm
      refine tr_eq0 (t_aI I T1 (by decide) rfl hx2) ?_
      by_cases c3 : x2 = 0
      · rw [if_pos c3] at hm ⊢
        obtain rfl := Option.some.inj hm
        rfl
      · rw [if_neg c3] at hm ⊢
        obtain rfl := Option.some.inj hm
        rfl
def g_X0_isVariable (n : Nat) (v0 : Nat) (v1 : Int32) (s : st_T) : Option (Int32) := g_X0_isVariable_0 n v0 v1 s
theorem t_X0_isVariable {tg r : Nat → Nat} {h : hp_H} {s : st_T} {n : Nat} {v0 : Nat} {v1 : Int32} (I : iso tg r h s) (T_v0 : tg v0 = 10) {res : Int32} (hm : g_X0_isVariable n v0 v1 s = some res) : f_X0_isVariable n (r v0) v1 h = some res := by
  unfold g_X0_isVariable at hm
  unfold f_X0_isVariable
  refine tr_eq0 (t_ck I T_v0 (by decide)) ?_
  exact t_X0_isVariable_0 I T_v0 hm
def g_X0_isConstant_0 (n : Nat) (v0 : Nat) (v1 : Int32) (s : st_T) : Option (Int32) :=
  if v1 < 0 then
    some (0 : Int32)
  else
    if (gF s v0 3) ≤ v1 then
      some (0 : Int32)
    else
      (gA s (gP s v0 4) v1).bind fun x2 =>
      if x2 = 0 then
        some (1 : Int32)
      else
        some (0 : Int32)
set_option maxHeartbeats 1000000 in
theorem t_X0_isConstant_0 {tg r : Nat → Nat} {h : hp_H} {s : st_T} {n : Nat} {v0 : Nat} {v1 : Int32} (I : iso tg r h s) (T_v0 : tg v0 = 10) {res : Int32} (hm : g_X0_isConstant_0 n v0 v1 s = some res) : f_X0_isConstant_0 n (r v0) v1 h = some res := by
  unfold g_X0_isConstant_0 at hm
  unfold f_X0_isConstant_0
  by_cases c5 : v1 < 0
  · rw [if_pos c5] at hm ⊢
    obtain rfl := Option.some.inj hm
    rfl
  · rw [if_neg c5] at hm ⊢
    refine tr_eq0 (t_fI I T_v0 (by decide) (by decide) rfl) ?_
    by_cases c4 : (gF s v0 3) ≤ v1
    · rw [if_pos c4] at hm ⊢
      obtain rfl := Option.some.inj hm
      rfl
    · rw [if_neg c4] at hm ⊢
      have T1 : tg (gP s v0 4) = 1 := t_tg (c := 0) I T_v0 (by decide) (by decide) rfl (by decide)
      refine tr_eq0 (t_fR I T_v0 (by decide) (by decide) (by decide)) ?_
      obtain ⟨x2, hx2, hm⟩ := hp_bd hm
      refine tr_eq0 (t_aI I T1 (by decide) rfl hx2) ?_
      by_cases c3 : x2 = 0
      · rw [if_pos c3] at hm ⊢
        obtain rfl := Option.some.inj hm
        rfl
      · rw [if_neg c3] at hm ⊢
        obtain rfl := Option.some.inj hm
        rfl
def g_X0_isConstant (n : Nat) (v0 : Nat) (v1 : Int32) (s : st_T) : Option (Int32) := g_X0_isConstant_0 n v0 v1 s
theorem t_X0_isConstant {tg r : Nat → Nat} {h : hp_H} {s : st_T} {n : Nat} {v0 : Nat} {v1 : Int32} (I : iso tg r h s) (T_v0 : tg v0 = 10) {res : Int32} (hm : g_X0_isConstant n v0 v1 s = some res) : f_X0_isConstant n (r v0) v1 h = some res := by
  unfold g_X0_isConstant at hm
  unfold f_X0_isConstant
  refine tr_eq0 (t_ck I T_v0 (by decide)) ?_
  exact t_X0_isConstant_0 I T_v0 hm
def g_X0_addSymbol_32 (n : Nat) (v0 : Nat) (v4 : Int32) (s0 : Int32) (s1 : Int32) (s2 : Nat) (s : st_T) : Option (Int32 × st_T) :=
  (uA 1 s s2 s1 ((Int32.toInt8 s0).toInt32)).bind fun w1 =>
  (wF w1 v0 3 ((gF w1 v0 3) + (1 : Int32))).bind fun w2 =>
  some (v4, w2)
set_option maxHeartbeats 1000000 in
theorem t_X0_addSymbol_32 {tg r : Nat → Nat} {h hb : hp_H} {s sb : st_T} {n : Nat} {v0 : Nat} {v4 : Int32} {s0 : Int32} {s1 : Int32} {s2 : Nat} (I : iso tg r h s) (F : isf tg r hb h sb s) (T_v0 : tg v0 = 10) (T_s2 : tg s2 = 1) {res : Int32 × st_T} (hm : g_X0_addSymbol_32 n v0 v4 s0 s1 s2 s = some res) : ∃ h2, f_X0_addSymbol_32 n (r v0) v4 s0 s1 (r s2) h = some ((res.1, h2)) ∧ iso tg r h2 res.2 ∧ isf tg r hb h2 sb res.2 := by
  unfold g_X0_addSymbol_32 at hm
  unfold f_X0_addSymbol_32
  obtain ⟨w1, hw1, hm⟩ := hp_bd hm
  obtain ⟨_, e2, I, F⟩ := t_sI I F T_s2 (by decide) rfl hw1
  refine tr_eq e2 ?_
  refine tr_eq (t_fI I T_v0 (by decide) (by decide) rfl) ?_
  obtain ⟨w2, hw2, hm⟩ := hp_bd hm
  obtain ⟨_, e2, I, F⟩ := t_wF (c := 0) (k := 3) I F T_v0 (by decide) (by decide) rfl hw2
  refine tr_eq e2 ?_
  obtain rfl := Option.some.inj hm
  exact ⟨_, rfl, I, F⟩
def g_X0_addSymbol_0 (n : Nat) (v0 : Nat) (v1 : Int32) (v2 : Int32) (v3 : Int32) (s : st_T) : Option (Int32 × st_T) :=
  (g_X2_add n (gP s v0 0) (gF s v0 3) v2 v3 s).bind fun x2 =>
  if v1 = 0 then
    g_X0_addSymbol_32 n v0 (gF s v0 3) (0 : Int32) (gF s v0 3) (gP x2 v0 4) x2
  else
    g_X0_addSymbol_32 n v0 (gF s v0 3) (1 : Int32) (gF s v0 3) (gP x2 v0 4) x2
set_option maxHeartbeats 1000000 in
theorem t_X0_addSymbol_0 {tg r : Nat → Nat} {h hb : hp_H} {s sb : st_T} {n : Nat} {v0 : Nat} {v1 : Int32} {v2 : Int32} {v3 : Int32} (I : iso tg r h s) (F : isf tg r hb h sb s) (T_v0 : tg v0 = 10) {res : Int32 × st_T} (hm : g_X0_addSymbol_0 n v0 v1 v2 v3 s = some res) : ∃ h2, f_X0_addSymbol_0 n (r v0) v1 v2 v3 h = some ((res.1, h2)) ∧ iso tg r h2 res.2 ∧ isf tg r hb h2 sb res.2 := by
  unfold g_X0_addSymbol_0 at hm
  unfold f_X0_addSymbol_0
  refine tr_eq (t_fI I T_v0 (by decide) (by decide) rfl) ?_
  have T1 : tg (gP s v0 0) = 12 := t_tg (c := 0) I T_v0 (by decide) (by decide) rfl (by decide)
  refine tr_eq (t_fR I T_v0 (by decide) (by decide) (by decide)) ?_
  obtain ⟨x2, hx2, hm⟩ := hp_bd hm
  obtain ⟨_, e2, I, F⟩ := t_X2_add I F T1 hx2
  refine tr_eq e2 ?_
  have T3 : tg (gP x2 v0 4) = 1 := t_tg (c := 0) I T_v0 (by decide) (by decide) rfl (by decide)
  refine tr_eq (t_fR I T_v0 (by decide) (by decide) (by decide)) ?_
  by_cases c4 : v1 = 0
  · rw [if_pos c4] at hm ⊢
    exact t_X0_addSymbol_32 I F T_v0 T3 hm
  · rw [if_neg c4] at hm ⊢
    exact t_X0_addSymbol_32 I F T_v0 T3 hm
def g_X0_addSymbol (n : Nat) (v0 : Nat) (v1 : Int32) (v2 : Int32) (v3 : Int32) (s : st_T) : Option (Int32 × st_T) := g_X0_addSymbol_0 n v0 v1 v2 v3 s
theorem t_X0_addSymbol {tg r : Nat → Nat} {h hb : hp_H} {s sb : st_T} {n : Nat} {v0 : Nat} {v1 : Int32} {v2 : Int32} {v3 : Int32} (I : iso tg r h s) (F : isf tg r hb h sb s) (T_v0 : tg v0 = 10) {res : Int32 × st_T} (hm : g_X0_addSymbol n v0 v1 v2 v3 s = some res) : ∃ h2, f_X0_addSymbol n (r v0) v1 v2 v3 h = some ((res.1, h2)) ∧ iso tg r h2 res.2 ∧ isf tg r hb h2 sb res.2 := by
  unfold g_X0_addSymbol at hm
  unfold f_X0_addSymbol
  refine tr_eq (t_ck I T_v0 (by decide)) ?_
  exact t_X0_addSymbol_0 I F T_v0 hm
def g_X0_isInToken_0 (n : Nat) (v0 : Nat) (v1 : Int32) (s : st_T) : Option (Int32) :=
  if (gF s v0 2) ≤ v1 then
    some (0 : Int32)
  else
    (gA s (gP s v0 1) v1).bind fun x2 =>
    if x2 ≤ (32 : Int32) then
      some (0 : Int32)
    else
      some (1 : Int32)
set_option maxHeartbeats 1000000 in
theorem t_X0_isInToken_0 {tg r : Nat → Nat} {h : hp_H} {s : st_T} {n : Nat} {v0 : Nat} {v1 : Int32} (I : iso tg r h s) (T_v0 : tg v0 = 10) {res : Int32} (hm : g_X0_isInToken_0 n v0 v1 s = some res) : f_X0_isInToken_0 n (r v0) v1 h = some res := by
  unfold g_X0_isInToken_0 at hm
  unfold f_X0_isInToken_0
  refine tr_eq0 (t_fI I T_v0 (by decide) (by decide) rfl) ?_
  by_cases c4 : (gF s v0 2) ≤ v1
  · rw [if_pos c4] at hm ⊢
    obtain rfl := Option.some.inj hm
    rfl
  · rw [if_neg c4] at hm ⊢
    have T1 : tg (gP s v0 1) = 1 := t_tg (c := 0) I T_v0 (by decide) (by decide) rfl (by decide)
    refine tr_eq0 (t_fR I T_v0 (by decide) (by decide) (by decide)) ?_
    obtain ⟨x2, hx2, hm⟩ := hp_bd hm
    refine tr_eq0 (t_aI I T1 (by decide) rfl hx2) ?_
    by_cases c3 : x2 ≤ (32 : Int32)
    · rw [if_pos c3] at hm ⊢
      obtain rfl := Option.some.inj hm
      rfl
    · rw [if_neg c3] at hm ⊢
      obtain rfl := Option.some.inj hm
      rfl
def g_X0_isInToken (n : Nat) (v0 : Nat) (v1 : Int32) (s : st_T) : Option (Int32) := g_X0_isInToken_0 n v0 v1 s
theorem t_X0_isInToken {tg r : Nat → Nat} {h : hp_H} {s : st_T} {n : Nat} {v0 : Nat} {v1 : Int32} (I : iso tg r h s) (T_v0 : tg v0 = 10) {res : Int32} (hm : g_X0_isInToken n v0 v1 s = some res) : f_X0_isInToken n (r v0) v1 h = some res := by
  unfold g_X0_isInToken at hm
  unfold f_X0_isInToken
  refine tr_eq0 (t_ck I T_v0 (by decide)) ?_
  exact t_X0_isInToken_0 I T_v0 hm
def g_X0_isJust_0 (n : Nat) (v0 : Nat) (v1 : Int32) (v2 : Int32) (v3 : Int32) (s : st_T) : Option (Int32) :=
  (g_X5_get n (gP s v0 10) v1 v2 s).bind fun x2 =>
  if x2 < 0 then
    some (0 : Int32)
  else
    (gA s (gP s v0 1) x2).bind fun x4 =>
    if x4 = v3 then
      (g_X0_isInToken n v0 (x2 + (1 : Int32)) s).bind fun x5 =>
      if x5 = 0 then
        some (1 : Int32)
      else
        some (0 : Int32)
    else
      some (0 : Int32)
set_option maxHeartbeats 1000000 in
theorem t_X0_isJust_0 {tg r : Nat → Nat} {h : hp_H} {s : st_T} {n : Nat} {v0 : Nat} {v1 : Int32} {v2 : Int32} {v3 : Int32} (I : iso tg r h s) (T_v0 : tg v0 = 10) {res : Int32} (hm : g_X0_isJust_0 n v0 v1 v2 v3 s = some res) : f_X0_isJust_0 n (r v0) v1 v2 v3 h = some res := by
  unfold g_X0_isJust_0 at hm
  unfold f_X0_isJust_0
  have T1 : tg (gP s v0 10) = 15 := t_tg (c := 0) I T_v0 (by decide) (by decide) rfl (by decide)
  refine tr_eq0 (t_fR I T_v0 (by decide) (by decide) (by decide)) ?_
  obtain ⟨x2, hx2, hm⟩ := hp_bd hm
  refine tr_eq0 (t_X5_get I T1 hx2) ?_
  by_cases c8 : x2 < 0
  · rw [if_pos c8] at hm ⊢
    obtain rfl := Option.some.inj hm
    rfl
  · rw [if_neg c8] at hm ⊢
    have T3 : tg (gP s v0 1) = 1 := t_tg (c := 0) I T_v0 (by decide) (by decide) rfl (by decide)
    refine tr_eq0 (t_fR I T_v0 (by decide) (by decide) (by decide)) ?_
    obtain ⟨x4, hx4, hm⟩ := hp_bd hm
    refine tr_eq0 (t_aI I T3 (by decide) rfl hx4) ?_
    by_cases c7 : x4 = v3
    · rw [if_pos c7] at hm ⊢
      obtain ⟨x5, hx5, hm⟩ := hp_bd hm
      refine tr_eq0 (t_X0_isInToken I T_v0 hx5) ?_
      by_cases c6 : x5 = 0
      · rw [if_pos c6] at hm ⊢
        obtain rfl := Option.some.inj hm
        rfl
      · rw [if_neg c6] at hm ⊢
        obtain rfl := Option.some.inj hm
        rfl
    · rw [if_neg c7] at hm ⊢
      obtain rfl := Option.some.inj hm
      rfl
def g_X0_isJust (n : Nat) (v0 : Nat) (v1 : Int32) (v2 : Int32) (v3 : Int32) (s : st_T) : Option (Int32) := g_X0_isJust_0 n v0 v1 v2 v3 s
theorem t_X0_isJust {tg r : Nat → Nat} {h : hp_H} {s : st_T} {n : Nat} {v0 : Nat} {v1 : Int32} {v2 : Int32} {v3 : Int32} (I : iso tg r h s) (T_v0 : tg v0 = 10) {res : Int32} (hm : g_X0_isJust n v0 v1 v2 v3 s = some res) : f_X0_isJust n (r v0) v1 v2 v3 h = some res := by
  unfold g_X0_isJust at hm
  unfold f_X0_isJust
  refine tr_eq0 (t_ck I T_v0 (by decide)) ?_
  exact t_X0_isJust_0 I T_v0 hm
abbrev eX_X0_noteForm_43 (x : st_T) (h2 : hp_H) : hp_H := (fun y => h2) x
abbrev sX_X0_noteForm_43 (x : st_T) : st_T := (fun y => y) x
abbrev eR_X0_noteForm_43 (x : (Int32 × st_T) ⊕ (st_T)) (h2 : hp_H) : (Int32 × hp_H) ⊕ (hp_H) := Sum.elim (fun y => .inl (y.1, h2)) (fun y => .inr (eX_X0_noteForm_43 y h2)) x
abbrev sR_X0_noteForm_43 (x : (Int32 × st_T) ⊕ (st_T)) : st_T := Sum.elim (fun y => y.2) sX_X0_noteForm_43 x
def g_X0_noteForm_74 (n : Nat) (v0 : Nat) (v1 : Int32) (v3 : Int32) (s : st_T) : Option ((Int32 × st_T) ⊕ (st_T)) :=
  some (.inl ((v3 + (-1 : Int32)), s))
set_option maxHeartbeats 1000000 in
theorem t_X0_noteForm_74 {tg r : Nat → Nat} {h hb : hp_H} {s sb : st_T} {n : Nat} {v0 : Nat} {v1 : Int32} {v3 : Int32} (I : iso tg r h s) (F : isf tg r hb h sb s) (T_v0 : tg v0 = 10) {res : (Int32 × st_T) ⊕ (st_T)} (hm : g_X0_noteForm_74 n v0 v1 v3 s = some res) : ∃ h2, f_X0_noteForm_74 n (r v0) v1 v3 h = some (eR_X0_noteForm_43 res h2) ∧ iso tg r h2 (sR_X0_noteForm_43 res) ∧ isf tg r hb h2 sb (sR_X0_noteForm_43 res) := by
  unfold g_X0_noteForm_74 at hm
  unfold f_X0_noteForm_74
  obtain rfl := Option.some.inj hm
  exact ⟨_, rfl, I, F⟩
def g_X0_noteForm_43 (n : Nat) (v0 : Nat) (v1 : Int32) (v3 : Int32) (s : st_T) : Option ((Int32 × st_T) ⊕ (st_T)) :=
  if v3 ≤ 0 then
    some (.inr s)
  else
    (gA s (gP s v0 15) v1).bind fun x2 =>
    if x2 = 0 then
      some (.inr s)
    else
      (g_X0_isJust n v0 v1 v3 (41 : Int32) s).bind fun x3 =>
      if x3 = 0 then
        g_X0_noteForm_74 n v0 v1 v3 s
      else
        (uA 0 s (gP s v0 16) v1 v3).bind fun w5 =>
        g_X0_noteForm_74 n v0 v1 v3 w5
set_option maxHeartbeats 1000000 in
theorem t_X0_noteForm_43 {tg r : Nat → Nat} {h hb : hp_H} {s sb : st_T} {n : Nat} {v0 : Nat} {v1 : Int32} {v3 : Int32} (I : iso tg r h s) (F : isf tg r hb h sb s) (T_v0 : tg v0 = 10) {res : (Int32 × st_T) ⊕ (st_T)} (hm : g_X0_noteForm_43 n v0 v1 v3 s = some res) : ∃ h2, f_X0_noteForm_43 n (r v0) v1 v3 h = some (eR_X0_noteForm_43 res h2) ∧ iso tg r h2 (sR_X0_noteForm_43 res) ∧ isf tg r hb h2 sb (sR_X0_noteForm_43 res) := by
  unfold g_X0_noteForm_43 at hm
  unfold f_X0_noteForm_43
  by_cases c8 : v3 ≤ 0
  · rw [if_pos c8] at hm ⊢
    obtain rfl := Option.some.inj hm
    exact ⟨_, rfl, I, F⟩
  · rw [if_neg c8] at hm ⊢
    have T1 : tg (gP s v0 15) = 1 := t_tg (c := 0) I T_v0 (by decide) (by decide) rfl (by decide)
    refine tr_eq (t_fR I T_v0 (by decide) (by decide) (by decide)) ?_
    obtain ⟨x2, hx2, hm⟩ := hp_bd hm
    refine tr_eq (t_aI I T1 (by decide) rfl hx2) ?_
    by_cases c7 : x2 = 0
    · rw [if_pos c7] at hm ⊢
      obtain rfl := Option.some.inj hm
      exact ⟨_, rfl, I, F⟩
    · rw [if_neg c7] at hm ⊢
      obtain ⟨x3, hx3, hm⟩ := hp_bd hm
      refine tr_eq (t_X0_isJust I T_v0 hx3) ?_
      by_cases c6 : x3 = 0
      · rw [if_pos c6] at hm ⊢
        exact t_X0_noteForm_74 I F T_v0 hm
      · rw [if_neg c6] at hm ⊢
        have T4 : tg (gP s v0 16) = 0 := t_tg (c := 0) I T_v0 (by decide) (by decide) rfl (by decide)
        refine tr_eq (t_fR I T_v0 (by decide) (by decide) (by decide)) ?_
        obtain ⟨w5, hw5, hm⟩ := hp_bd hm
        obtain ⟨_, e2, I, F⟩ := t_sI I F T4 (by decide) rfl hw5
        refine tr_eq e2 ?_
        exact t_X0_noteForm_74 I F T_v0 hm
def gL_X0_noteForm_43 (n : Nat) (v0 : Nat) (v1 : Int32) (c : Int32 × st_T) : Option ((Int32 × st_T) ⊕ (st_T)) := g_X0_noteForm_43 n v0 v1 c.1 c.2
theorem tl_X0_noteForm_43 {tg r : Nat → Nat} {hb : hp_H} {sb : st_T} {n : Nat} {v0 : Nat} {v1 : Int32} (T_v0 : tg v0 = 10) : ∀ (k : Nat) (c0 : Int32) (h : hp_H) (s : st_T) (x : st_T), iso tg r h s → isf tg r hb h sb s → hp_lp (gL_X0_noteForm_43 n v0 v1) k (c0, s) = some x → ∃ h2, hp_lp (fL_X0_noteForm_43 n (r v0) v1) k (c0, h) = some (eX_X0_noteForm_43 x h2) ∧ iso tg r h2 (sX_X0_noteForm_43 x) ∧ isf tg r hb h2 sb (sX_X0_noteForm_43 x) := by
  intro k
  induction k with
  | zero => intro c0 h s x I F hx; exact (hp_lp_0 hx).elim
  | succ k ih =>
    intro c0 h s x I F hx
    obtain ⟨rr, hr, hc⟩ := hp_lp_1 hx
    obtain ⟨h2, e2, I2, F2⟩ := t_X0_noteForm_43 I F T_v0 hr
    rcases hc with ⟨s3, e3, hx3⟩ | e3
    · subst e3
      obtain ⟨h3, e4, I3, F3⟩ := ih _ h2 _ x I2 F2 hx3
      exact ⟨h3, hp_lp_s e2 e4, I3, F3⟩
    · subst e3
      exact ⟨h2, hp_lp_x e2, I2, F2⟩
def g_X0_noteForm_30 (n : Nat) (v0 : Nat) (v1 : Int32) (v2 : Int32) (s0 : Int32) (s1 : Int32) (s2 : Nat) (s : st_T) : Option (st_T) :=
  (uA 1 s s2 s1 ((Int32.toInt8 s0).toInt32)).bind fun w1 =>
  (uA 0 w1 (gP w1 v0 16) v1 v2).bind fun w3 =>
  (hp_lp (gL_X0_noteForm_43 n v0 v1) n ((v2 - (1 : Int32)), w3)).bind fun x4 =>
  some x4
set_option maxHeartbeats 1000000 in
theorem t_X0_noteForm_30 {tg r : Nat → Nat} {h hb : hp_H} {s sb : st_T} {n : Nat} {v0 : Nat} {v1 : Int32} {v2 : Int32} {s0 : Int32} {s1 : Int32} {s2 : Nat} (I : iso tg r h s) (F : isf tg r hb h sb s) (T_v0 : tg v0 = 10) (T_s2 : tg s2 = 1) {res : st_T} (hm : g_X0_noteForm_30 n v0 v1 v2 s0 s1 s2 s = some res) : ∃ h2, f_X0_noteForm_30 n (r v0) v1 v2 s0 s1 (r s2) h = some (h2) ∧ iso tg r h2 res ∧ isf tg r hb h2 sb res := by
  unfold g_X0_noteForm_30 at hm
  unfold f_X0_noteForm_30
  obtain ⟨w1, hw1, hm⟩ := hp_bd hm
  obtain ⟨_, e2, I, F⟩ := t_sI I F T_s2 (by decide) rfl hw1
  refine tr_eq e2 ?_
  have T2 : tg (gP w1 v0 16) = 0 := t_tg (c := 0) I T_v0 (by decide) (by decide) rfl (by decide)
  refine tr_eq (t_fR I T_v0 (by decide) (by decide) (by decide)) ?_
  obtain ⟨w3, hw3, hm⟩ := hp_bd hm
  obtain ⟨_, e2, I, F⟩ := t_sI I F T2 (by decide) rfl hw3
  refine tr_eq e2 ?_
  obtain ⟨x4, hx4, hm⟩ := hp_bd hm
  obtain ⟨_, e2, I, F⟩ := tl_X0_noteForm_43 T_v0 n _ _ _ _ I F hx4
  refine tr_eq e2 ?_
  try dsimp only [eX_X0_noteForm_43]
  replace I : iso tg _ _ x4 := I
  replace F : isf tg _ _ _ _ x4 := F
  obtain rfl := Option.some.inj hm
  exact ⟨_, rfl, I, F⟩
def g_X0_noteForm_0 (n : Nat) (v0 : Nat) (v1 : Int32) (s : st_T) : Option (st_T) :=
  (g_X5_size n (gP s v0 10) v1 s).bind fun x2 =>
  (g_X0_isJust n v0 v1 (0 : Int32) (40 : Int32) s).bind fun x4 =>
  if x4 = 0 then
    g_X0_noteForm_30 n v0 v1 x2 (0 : Int32) v1 (gP s v0 15) s
  else
    g_X0_noteForm_30 n v0 v1 x2 (1 : Int32) v1 (gP s v0 15) s
set_option maxHeartbeats 1000000 in
theorem t_X0_noteForm_0 {tg r : Nat → Nat} {h hb : hp_H} {s sb : st_T} {n : Nat} {v0 : Nat} {v1 : Int32} (I : iso tg r h s) (F : isf tg r hb h sb s) (T_v0 : tg v0 = 10) {res : st_T} (hm : g_X0_noteForm_0 n v0 v1 s = some res) : ∃ h2, f_X0_noteForm_0 n (r v0) v1 h = some (h2) ∧ iso tg r h2 res ∧ isf tg r hb h2 sb res := by
  unfold g_X0_noteForm_0 at hm
  unfold f_X0_noteForm_0
  have T1 : tg (gP s v0 10) = 15 := t_tg (c := 0) I T_v0 (by decide) (by decide) rfl (by decide)
  refine tr_eq (t_fR I T_v0 (by decide) (by decide) (by decide)) ?_
  obtain ⟨x2, hx2, hm⟩ := hp_bd hm
  refine tr_eq (t_X5_size I T1 hx2) ?_
  have T3 : tg (gP s v0 15) = 1 := t_tg (c := 0) I T_v0 (by decide) (by decide) rfl (by decide)
  refine tr_eq (t_fR I T_v0 (by decide) (by decide) (by decide)) ?_
  obtain ⟨x4, hx4, hm⟩ := hp_bd hm
  refine tr_eq (t_X0_isJust I T_v0 hx4) ?_
  by_cases c5 : x4 = 0
  · rw [if_pos c5] at hm ⊢
    exact t_X0_noteForm_30 I F T_v0 T3 hm
  · rw [if_neg c5] at hm ⊢
    exact t_X0_noteForm_30 I F T_v0 T3 hm
def g_X0_noteForm (n : Nat) (v0 : Nat) (v1 : Int32) (s : st_T) : Option (st_T) := g_X0_noteForm_0 n v0 v1 s
theorem t_X0_noteForm {tg r : Nat → Nat} {h hb : hp_H} {s sb : st_T} {n : Nat} {v0 : Nat} {v1 : Int32} (I : iso tg r h s) (F : isf tg r hb h sb s) (T_v0 : tg v0 = 10) {res : st_T} (hm : g_X0_noteForm n v0 v1 s = some res) : ∃ h2, f_X0_noteForm n (r v0) v1 h = some (h2) ∧ iso tg r h2 res ∧ isf tg r hb h2 sb res := by
  unfold g_X0_noteForm at hm
  unfold f_X0_noteForm
  refine tr_eq (t_ck I T_v0 (by decide)) ?_
  exact t_X0_noteForm_0 I F T_v0 hm
abbrev eX_X0_noteAxioms_6 (x : st_T) (h2 : hp_H) : hp_H := (fun y => h2) x
abbrev sX_X0_noteAxioms_6 (x : st_T) : st_T := (fun y => y) x
abbrev eR_X0_noteAxioms_6 (x : (Int32 × st_T) ⊕ (st_T)) (h2 : hp_H) : (Int32 × hp_H) ⊕ (hp_H) := Sum.elim (fun y => .inl (y.1, h2)) (fun y => .inr (eX_X0_noteAxioms_6 y h2)) x
abbrev sR_X0_noteAxioms_6 (x : (Int32 × st_T) ⊕ (st_T)) : st_T := Sum.elim (fun y => y.2) sX_X0_noteAxioms_6 x
def g_X0_noteAxioms_6 (n : Nat) (v0 : Nat) (v1 : Int32) (v2 : Int32) (v3 : Int32) (s : st_T) : Option ((Int32 × st_T) ⊕ (st_T)) :=
  if (4 : Int32) ≤ v3 then
    some (.inr s)
  else
    (uJ s (gP s v0 17) (v2 + v3) (0 : Int64)).bind fun w2 =>
    some (.inl ((v3 + (1 : Int32)), w2))
set_option maxHeartbeats 1000000 in
theorem t_X0_noteAxioms_6 {tg r : Nat → Nat} {h hb : hp_H} {s sb : st_T} {n : Nat} {v0 : Nat} {v1 : Int32} {v2 : Int32} {v3 : Int32} (I : iso tg r h s) (F : isf tg r hb h sb s) (T_v0 : tg v0 = 10) {res : (Int32 × st_T) ⊕ (st_T)} (hm : g_X0_noteAxioms_6 n v0 v1 v2 v3 s = some res) : ∃ h2, f_X0_noteAxioms_6 n (r v0) v1 v2 v3 h = some (eR_X0_noteAxioms_6 res h2) ∧ iso tg r h2 (sR_X0_noteAxioms_6 res) ∧ isf tg r hb h2 sb (sR_X0_noteAxioms_6 res) := by
  unfold g_X0_noteAxioms_6 at hm
  unfold f_X0_noteAxioms_6
  by_cases c3 : (4 : Int32) ≤ v3
  · rw [if_pos c3] at hm ⊢
    obtain rfl := Option.some.inj hm
    exact ⟨_, rfl, I, F⟩
  · rw [if_neg c3] at hm ⊢
    have T1 : tg (gP s v0 17) = 3 := t_tg (c := 0) I T_v0 (by decide) (by decide) rfl (by decide)
    refine tr_eq (t_fR I T_v0 (by decide) (by decide) (by decide)) ?_
    obtain ⟨w2, hw2, hm⟩ := hp_bd hm
    obtain ⟨_, e2, I, F⟩ := t_sJ I F T1 hw2
    refine tr_eq e2 ?_
    obtain rfl := Option.some.inj hm
    exact ⟨_, rfl, I, F⟩
def gL_X0_noteAxioms_6 (n : Nat) (v0 : Nat) (v1 : Int32) (v2 : Int32) (c : Int32 × st_T) : Option ((Int32 × st_T) ⊕ (st_T)) := g_X0_noteAxioms_6 n v0 v1 v2 c.1 c.2
theorem tl_X0_noteAxioms_6 {tg r : Nat → Nat} {hb : hp_H} {sb : st_T} {n : Nat} {v0 : Nat} {v1 : Int32} {v2 : Int32} (T_v0 : tg v0 = 10) : ∀ (k : Nat) (c0 : Int32) (h : hp_H) (s : st_T) (x : st_T), iso tg r h s → isf tg r hb h sb s → hp_lp (gL_X0_noteAxioms_6 n v0 v1 v2) k (c0, s) = some x → ∃ h2, hp_lp (fL_X0_noteAxioms_6 n (r v0) v1 v2) k (c0, h) = some (eX_X0_noteAxioms_6 x h2) ∧ iso tg r h2 (sX_X0_noteAxioms_6 x) ∧ isf tg r hb h2 sb (sX_X0_noteAxioms_6 x) := by
  intro k
  induction k with
  | zero => intro c0 h s x I F hx; exact (hp_lp_0 hx).elim
  | succ k ih =>
    intro c0 h s x I F hx
    obtain ⟨rr, hr, hc⟩ := hp_lp_1 hx
    obtain ⟨h2, e2, I2, F2⟩ := t_X0_noteAxioms_6 I F T_v0 hr
    rcases hc with ⟨s3, e3, hx3⟩ | e3
    · subst e3
      obtain ⟨h3, e4, I3, F3⟩ := ih _ h2 _ x I2 F2 hx3
      exact ⟨h3, hp_lp_s e2 e4, I3, F3⟩
    · subst e3
      exact ⟨h2, hp_lp_x e2, I2, F2⟩
abbrev eX_X0_noteAxioms_28 (x : st_T) (h2 : hp_H) : hp_H := (fun y => h2) x
abbrev sX_X0_noteAxioms_28 (x : st_T) : st_T := (fun y => y) x
abbrev eR_X0_noteAxioms_28 (x : (Int32 × st_T) ⊕ (st_T)) (h2 : hp_H) : (Int32 × hp_H) ⊕ (hp_H) := Sum.elim (fun y => .inl (y.1, h2)) (fun y => .inr (eX_X0_noteAxioms_28 y h2)) x
abbrev sR_X0_noteAxioms_28 (x : (Int32 × st_T) ⊕ (st_T)) : st_T := Sum.elim (fun y => y.2) sX_X0_noteAxioms_28 x
def g_X0_noteAxioms_145 (n : Nat) (v0 : Nat) (v1 : Int32) (v2 : Int32) (v3 : Int32) (s : st_T) : Option ((Int32 × st_T) ⊕ (st_T)) :=
  some (.inl ((v3 + (1 : Int32)), s))
set_option maxHeartbeats 1000000 in
theorem t_X0_noteAxioms_145 {tg r : Nat → Nat} {h hb : hp_H} {s sb : st_T} {n : Nat} {v0 : Nat} {v1 : Int32} {v2 : Int32} {v3 : Int32} (I : iso tg r h s) (F : isf tg r hb h sb s) (T_v0 : tg v0 = 10) {res : (Int32 × st_T) ⊕ (st_T)} (hm : g_X0_noteAxioms_145 n v0 v1 v2 v3 s = some res) : ∃ h2, f_X0_noteAxioms_145 n (r v0) v1 v2 v3 h = some (eR_X0_noteAxioms_28 res h2) ∧ iso tg r h2 (sR_X0_noteAxioms_28 res) ∧ isf tg r hb h2 sb (sR_X0_noteAxioms_28 res) := by
  unfold g_X0_noteAxioms_145 at hm
  unfold f_X0_noteAxioms_145
  obtain rfl := Option.some.inj hm
  exact ⟨_, rfl, I, F⟩
abbrev eX_X0_noteAxioms_109 (x : st_T) (h2 : hp_H) : hp_H := (fun y => h2) x
abbrev sX_X0_noteAxioms_109 (x : st_T) : st_T := (fun y => y) x
abbrev eR_X0_noteAxioms_109 (x : (Int32 × st_T) ⊕ (st_T)) (h2 : hp_H) : (Int32 × hp_H) ⊕ (hp_H) := Sum.elim (fun y => .inl (y.1, h2)) (fun y => .inr (eX_X0_noteAxioms_109 y h2)) x
abbrev sR_X0_noteAxioms_109 (x : (Int32 × st_T) ⊕ (st_T)) : st_T := Sum.elim (fun y => y.2) sX_X0_noteAxioms_109 x
def g_X0_noteAxioms_109 (n : Nat) (v0 : Nat) (v1 : Int32) (v2 : Int32) (v3 : Int32) (v4 : Int32) (v5 : Int32) (s : st_T) : Option ((Int32 × st_T) ⊕ (st_T)) :=
  if (4 : Int32) ≤ v5 then
    some (.inr s)
  else
    (gJ s (gP s v0 17) (v2 + v5)).bind fun x2 =>
    (gJ s (gP s v0 17) ((v4 * (4 : Int32)) + v5)).bind fun x4 =>
    (uJ s (gP s v0 17) (v2 + v5) (x2 ||| x4)).bind fun w5 =>
    some (.inl ((v5 + (1 : Int32)), w5))
set_option maxHeartbeats 1000000 in
theorem t_X0_noteAxioms_109 {tg r : Nat → Nat} {h hb : hp_H} {s sb : st_T} {n : Nat} {v0 : Nat} {v1 : Int32} {v2 : Int32} {v3 : Int32} {v4 : Int32} {v5 : Int32} (I : iso tg r h s) (F : isf tg r hb h sb s) (T_v0 : tg v0 = 10) {res : (Int32 × st_T) ⊕ (st_T)} (hm : g_X0_noteAxioms_109 n v0 v1 v2 v3 v4 v5 s = some res) : ∃ h2, f_X0_noteAxioms_109 n (r v0) v1 v2 v3 v4 v5 h = some (eR_X0_noteAxioms_109 res h2) ∧ iso tg r h2 (sR_X0_noteAxioms_109 res) ∧ isf tg r hb h2 sb (sR_X0_noteAxioms_109 res) := by
  unfold g_X0_noteAxioms_109 at hm
  unfold f_X0_noteAxioms_109
  by_cases c6 : (4 : Int32) ≤ v5
  · rw [if_pos c6] at hm ⊢
    obtain rfl := Option.some.inj hm
    exact ⟨_, rfl, I, F⟩
  · rw [if_neg c6] at hm ⊢
    have T1 : tg (gP s v0 17) = 3 := t_tg (c := 0) I T_v0 (by decide) (by decide) rfl (by decide)
    refine tr_eq (t_fR I T_v0 (by decide) (by decide) (by decide)) ?_
    obtain ⟨x2, hx2, hm⟩ := hp_bd hm
    refine tr_eq (t_aJ I T1 hx2) ?_
    have T3 : tg (gP s v0 17) = 3 := t_tg (c := 0) I T_v0 (by decide) (by decide) rfl (by decide)
    refine tr_eq (t_fR I T_v0 (by decide) (by decide) (by decide)) ?_
    obtain ⟨x4, hx4, hm⟩ := hp_bd hm
    refine tr_eq (t_aJ I T3 hx4) ?_
    obtain ⟨w5, hw5, hm⟩ := hp_bd hm
    obtain ⟨_, e2, I, F⟩ := t_sJ I F T3 hw5
    refine tr_eq e2 ?_
    obtain rfl := Option.some.inj hm
    exact ⟨_, rfl, I, F⟩
def gL_X0_noteAxioms_109 (n : Nat) (v0 : Nat) (v1 : Int32) (v2 : Int32) (v3 : Int32) (v4 : Int32) (c : Int32 × st_T) : Option ((Int32 × st_T) ⊕ (st_T)) := g_X0_noteAxioms_109 n v0 v1 v2 v3 v4 c.1 c.2
theorem tl_X0_noteAxioms_109 {tg r : Nat → Nat} {hb : hp_H} {sb : st_T} {n : Nat} {v0 : Nat} {v1 : Int32} {v2 : Int32} {v3 : Int32} {v4 : Int32} (T_v0 : tg v0 = 10) : ∀ (k : Nat) (c0 : Int32) (h : hp_H) (s : st_T) (x : st_T), iso tg r h s → isf tg r hb h sb s → hp_lp (gL_X0_noteAxioms_109 n v0 v1 v2 v3 v4) k (c0, s) = some x → ∃ h2, hp_lp (fL_X0_noteAxioms_109 n (r v0) v1 v2 v3 v4) k (c0, h) = some (eX_X0_noteAxioms_109 x h2) ∧ iso tg r h2 (sX_X0_noteAxioms_109 x) ∧ isf tg r hb h2 sb (sX_X0_noteAxioms_109 x) := by
  intro k
  induction k with
  | zero => intro c0 h s x I F hx; exact (hp_lp_0 hx).elim
  | succ k ih =>
    intro c0 h s x I F hx
    obtain ⟨rr, hr, hc⟩ := hp_lp_1 hx
    obtain ⟨h2, e2, I2, F2⟩ := t_X0_noteAxioms_109 I F T_v0 hr
    rcases hc with ⟨s3, e3, hx3⟩ | e3
    · subst e3
      obtain ⟨h3, e4, I3, F3⟩ := ih _ h2 _ x I2 F2 hx3
      exact ⟨h3, hp_lp_s e2 e4, I3, F3⟩
    · subst e3
      exact ⟨h2, hp_lp_x e2, I2, F2⟩
def g_X0_noteAxioms_90 (n : Nat) (v0 : Nat) (v1 : Int32) (v2 : Int32) (v3 : Int32) (v4 : Int32) (s : st_T) : Option ((Int32 × st_T) ⊕ (st_T)) :=
  if v4 < 0 then
    g_X0_noteAxioms_145 n v0 v1 v2 v3 s
  else
    (gA s (gP s v0 6) v4).bind fun x2 =>
    if x2 = (3 : Int32) then
      (hp_lp (gL_X0_noteAxioms_109 n v0 v1 v2 v3 v4) n ((0 : Int32), s)).bind fun x3 =>
      g_X0_noteAxioms_145 n v0 v1 v2 v3 x3
    else
      g_X0_noteAxioms_145 n v0 v1 v2 v3 s
set_option maxHeartbeats 1000000 in
theorem t_X0_noteAxioms_90 {tg r : Nat → Nat} {h hb : hp_H} {s sb : st_T} {n : Nat} {v0 : Nat} {v1 : Int32} {v2 : Int32} {v3 : Int32} {v4 : Int32} (I : iso tg r h s) (F : isf tg r hb h sb s) (T_v0 : tg v0 = 10) {res : (Int32 × st_T) ⊕ (st_T)} (hm : g_X0_noteAxioms_90 n v0 v1 v2 v3 v4 s = some res) : ∃ h2, f_X0_noteAxioms_90 n (r v0) v1 v2 v3 v4 h = some (eR_X0_noteAxioms_28 res h2) ∧ iso tg r h2 (sR_X0_noteAxioms_28 res) ∧ isf tg r hb h2 sb (sR_X0_noteAxioms_28 res) := by
  unfold g_X0_noteAxioms_90 at hm
  unfold f_X0_noteAxioms_90
  by_cases c6 : v4 < 0
  · rw [if_pos c6] at hm ⊢
    exact t_X0_noteAxioms_145 I F T_v0 hm
  · rw [if_neg c6] at hm ⊢
    have T1 : tg (gP s v0 6) = 0 := t_tg (c := 0) I T_v0 (by decide) (by decide) rfl (by decide)
    refine tr_eq (t_fR I T_v0 (by decide) (by decide) (by decide)) ?_
    obtain ⟨x2, hx2, hm⟩ := hp_bd hm
    refine tr_eq (t_aI I T1 (by decide) rfl hx2) ?_
    by_cases c5 : x2 = (3 : Int32)
    · rw [if_pos c5] at hm ⊢
      obtain ⟨x3, hx3, hm⟩ := hp_bd hm
      obtain ⟨_, e2, I, F⟩ := tl_X0_noteAxioms_109 T_v0 n _ _ _ _ I F hx3
      refine tr_eq e2 ?_
      try dsimp only [eX_X0_noteAxioms_109]
      replace I : iso tg _ _ x3 := I
      replace F : isf tg _ _ _ _ x3 := F
      exact t_X0_noteAxioms_145 I F T_v0 hm
    · rw [if_neg c5] at hm ⊢
      exact t_X0_noteAxioms_145 I F T_v0 hm
def g_X0_noteAxioms_28 (n : Nat) (v0 : Nat) (v1 : Int32) (v2 : Int32) (v3 : Int32) (s : st_T) : Option ((Int32 × st_T) ⊕ (st_T)) :=
  (gA s (gP s v0 16) v1).bind fun x2 =>
  if x2 ≤ v3 then
    some (.inr s)
  else
    (g_X5_get n (gP s v0 11) v1 v3 s).bind fun x4 =>
    if x4 < 0 then
      g_X0_noteAxioms_90 n v0 v1 v2 v3 x4 s
    else
      (gA s (gP s v0 6) x4).bind fun x6 =>
      if x6 = (2 : Int32) then
        (gJ s (gP s v0 17) (v2 + (x4 / (64 : Int32)))).bind fun x8 =>
        (uJ s (gP s v0 17) (v2 + (x4 / (64 : Int32))) (x8 ||| ((1 : Int64) <<< (Int32.toInt64 (x4 - x4 / (64 : Int32) * (64 : Int32)) &&& 63)))).bind fun w9 =>
        g_X0_noteAxioms_145 n v0 v1 v2 v3 w9
      else
        g_X0_noteAxioms_90 n v0 v1 v2 v3 x4 s
set_option maxHeartbeats 1000000 in
theorem t_X0_noteAxioms_28 {tg r : Nat → Nat} {h hb : hp_H} {s sb : st_T} {n : Nat} {v0 : Nat} {v1 : Int32} {v2 : Int32} {v3 : Int32} (I : iso tg r h s) (F : isf tg r hb h sb s) (T_v0 : tg v0 = 10) {res : (Int32 × st_T) ⊕ (st_T)} (hm : g_X0_noteAxioms_28 n v0 v1 v2 v3 s = some res) : ∃ h2, f_X0_noteAxioms_28 n (r v0) v1 v2 v3 h = some (eR_X0_noteAxioms_28 res h2) ∧ iso tg r h2 (sR_X0_noteAxioms_28 res) ∧ isf tg r hb h2 sb (sR_X0_noteAxioms_28 res) := by
  unfold g_X0_noteAxioms_28 at hm
  unfold f_X0_noteAxioms_28
  have T1 : tg (gP s v0 16) = 0 := t_tg (c := 0) I T_v0 (by decide) (by decide) rfl (by decide)
  refine tr_eq (t_fR I T_v0 (by decide) (by decide) (by decide)) ?_
  obtain ⟨x2, hx2, hm⟩ := hp_bd hm
  refine tr_eq (t_aI I T1 (by decide) rfl hx2) ?_
  by_cases c12 : x2 ≤ v3
  · rw [if_pos c12] at hm ⊢
    obtain rfl := Option.some.inj hm
    exact ⟨_, rfl, I, F⟩
  · rw [if_neg c12] at hm ⊢
    have T3 : tg (gP s v0 11) = 15 := t_tg (c := 0) I T_v0 (by decide) (by decide) rfl (by decide)
    refine tr_eq (t_fR I T_v0 (by decide) (by decide) (by decide)) ?_
    obtain ⟨x4, hx4, hm⟩ := hp_bd hm
    refine tr_eq (t_X5_get I T3 hx4) ?_
    by_cases c11 : x4 < 0
    · rw [if_pos c11] at hm ⊢
      exact t_X0_noteAxioms_90 I F T_v0 hm
    · rw [if_neg c11] at hm ⊢
      have T5 : tg (gP s v0 6) = 0 := t_tg (c := 0) I T_v0 (by decide) (by decide) rfl (by decide)
      refine tr_eq (t_fR I T_v0 (by decide) (by decide) (by decide)) ?_
      obtain ⟨x6, hx6, hm⟩ := hp_bd hm
      refine tr_eq (t_aI I T5 (by decide) rfl hx6) ?_
      by_cases c10 : x6 = (2 : Int32)
      · rw [if_pos c10] at hm ⊢
        have T7 : tg (gP s v0 17) = 3 := t_tg (c := 0) I T_v0 (by decide) (by decide) rfl (by decide)
        refine tr_eq (t_fR I T_v0 (by decide) (by decide) (by decide)) ?_
        obtain ⟨x8, hx8, hm⟩ := hp_bd hm
        refine tr_eq (t_aJ I T7 hx8) ?_
        obtain ⟨w9, hw9, hm⟩ := hp_bd hm
        obtain ⟨_, e2, I, F⟩ := t_sJ I F T7 hw9
        refine tr_eq e2 ?_
        exact t_X0_noteAxioms_145 I F T_v0 hm
      · rw [if_neg c10] at hm ⊢
        exact t_X0_noteAxioms_90 I F T_v0 hm
def gL_X0_noteAxioms_28 (n : Nat) (v0 : Nat) (v1 : Int32) (v2 : Int32) (c : Int32 × st_T) : Option ((Int32 × st_T) ⊕ (st_T)) := g_X0_noteAxioms_28 n v0 v1 v2 c.1 c.2
theorem tl_X0_noteAxioms_28 {tg r : Nat → Nat} {hb : hp_H} {sb : st_T} {n : Nat} {v0 : Nat} {v1 : Int32} {v2 : Int32} (T_v0 : tg v0 = 10) : ∀ (k : Nat) (c0 : Int32) (h : hp_H) (s : st_T) (x : st_T), iso tg r h s → isf tg r hb h sb s → hp_lp (gL_X0_noteAxioms_28 n v0 v1 v2) k (c0, s) = some x → ∃ h2, hp_lp (fL_X0_noteAxioms_28 n (r v0) v1 v2) k (c0, h) = some (eX_X0_noteAxioms_28 x h2) ∧ iso tg r h2 (sX_X0_noteAxioms_28 x) ∧ isf tg r hb h2 sb (sX_X0_noteAxioms_28 x) := by
  intro k
  induction k with
  | zero => intro c0 h s x I F hx; exact (hp_lp_0 hx).elim
  | succ k ih =>
    intro c0 h s x I F hx
    obtain ⟨rr, hr, hc⟩ := hp_lp_1 hx
    obtain ⟨h2, e2, I2, F2⟩ := t_X0_noteAxioms_28 I F T_v0 hr
    rcases hc with ⟨s3, e3, hx3⟩ | e3
    · subst e3
      obtain ⟨h3, e4, I3, F3⟩ := ih _ h2 _ x I2 F2 hx3
      exact ⟨h3, hp_lp_s e2 e4, I3, F3⟩
    · subst e3
      exact ⟨h2, hp_lp_x e2, I2, F2⟩
def g_X0_noteAxioms_0 (n : Nat) (v0 : Nat) (v1 : Int32) (s : st_T) : Option (st_T) :=
  (hp_lp (gL_X0_noteAxioms_6 n v0 v1 (v1 * (4 : Int32))) n ((0 : Int32), s)).bind fun x1 =>
  (hp_lp (gL_X0_noteAxioms_28 n v0 v1 (v1 * (4 : Int32))) n ((0 : Int32), x1)).bind fun x3 =>
  some x3
set_option maxHeartbeats 1000000 in
theorem t_X0_noteAxioms_0 {tg r : Nat → Nat} {h hb : hp_H} {s sb : st_T} {n : Nat} {v0 : Nat} {v1 : Int32} (I : iso tg r h s) (F : isf tg r hb h sb s) (T_v0 : tg v0 = 10) {res : st_T} (hm : g_X0_noteAxioms_0 n v0 v1 s = some res) : ∃ h2, f_X0_noteAxioms_0 n (r v0) v1 h = some (h2) ∧ iso tg r h2 res ∧ isf tg r hb h2 sb res := by
  unfold g_X0_noteAxioms_0 at hm
  unfold f_X0_noteAxioms_0
  obtain ⟨x1, hx1, hm⟩ := hp_bd hm
  obtain ⟨_, e2, I, F⟩ := tl_X0_noteAxioms_6 T_v0 n _ _ _ _ I F hx1
  refine tr_eq e2 ?_
  try dsimp only [eX_X0_noteAxioms_6]
  replace I : iso tg _ _ x1 := I
  replace F : isf tg _ _ _ _ x1 := F
  obtain ⟨x3, hx3, hm⟩ := hp_bd hm
  obtain ⟨_, e2, I, F⟩ := tl_X0_noteAxioms_28 T_v0 n _ _ _ _ I F hx3
  refine tr_eq e2 ?_
  try dsimp only [eX_X0_noteAxioms_28]
  replace I : iso tg _ _ x3 := I
  replace F : isf tg _ _ _ _ x3 := F
  obtain rfl := Option.some.inj hm
  exact ⟨_, rfl, I, F⟩
def g_X0_noteAxioms (n : Nat) (v0 : Nat) (v1 : Int32) (s : st_T) : Option (st_T) := g_X0_noteAxioms_0 n v0 v1 s
theorem t_X0_noteAxioms {tg r : Nat → Nat} {h hb : hp_H} {s sb : st_T} {n : Nat} {v0 : Nat} {v1 : Int32} (I : iso tg r h s) (F : isf tg r hb h sb s) (T_v0 : tg v0 = 10) {res : st_T} (hm : g_X0_noteAxioms n v0 v1 s = some res) : ∃ h2, f_X0_noteAxioms n (r v0) v1 h = some (h2) ∧ iso tg r h2 res ∧ isf tg r hb h2 sb res := by
  unfold g_X0_noteAxioms at hm
  unfold f_X0_noteAxioms
  refine tr_eq (t_ck I T_v0 (by decide)) ?_
  exact t_X0_noteAxioms_0 I F T_v0 hm
def g_X0_axiomUnder_56 (n : Nat) (v0 : Nat) (v1 : Int32) (v3 : Int32) (v4 : Int32) (s : st_T) : Option ((Int32 × Int32) ⊕ (Int32)) :=
  some (.inl (v3, (v4 + (1 : Int32))))
set_option maxHeartbeats 1000000 in
theorem t_X0_axiomUnder_56 {tg r : Nat → Nat} {h : hp_H} {s : st_T} {n : Nat} {v0 : Nat} {v1 : Int32} {v3 : Int32} {v4 : Int32} (I : iso tg r h s) (T_v0 : tg v0 = 10) {res : (Int32 × Int32) ⊕ (Int32)} (hm : g_X0_axiomUnder_56 n v0 v1 v3 v4 s = some res) : f_X0_axiomUnder_56 n (r v0) v1 v3 v4 h = some res := by
  unfold g_X0_axiomUnder_56 at hm
  unfold f_X0_axiomUnder_56
  obtain rfl := Option.some.inj hm
  rfl
def g_X0_axiomUnder_5 (n : Nat) (v0 : Nat) (v1 : Int32) (v3 : Int32) (v4 : Int32) (s : st_T) : Option ((Int32 × Int32) ⊕ (Int32)) :=
  if v1 ≤ v4 then
    some (.inr (-2 : Int32))
  else
    if v3 < 0 then
      some (.inr (-2 : Int32))
    else
      (gJ s (gP s v0 17) ((v1 * (4 : Int32)) + (v4 / (64 : Int32)))).bind fun x2 =>
      if (lg_cmp (((Int64.toUInt64 x2 >>> (Int64.toUInt64 (Int32.toInt64 (v4 - v4 / (64 : Int32) * (64 : Int32))) &&& Int64.toUInt64 63)).toInt64) &&& (1 : Int64)) (0 : Int64)) = 0 then
        g_X0_axiomUnder_56 n v0 v1 v3 v4 s
      else
        if v3 = 0 then
          some (.inr v4)
        else
          g_X0_axiomUnder_56 n v0 v1 (v3 + (-1 : Int32)) v4 s
set_option maxHeartbeats 1000000 in
theorem t_X0_axiomUnder_5 {tg r : Nat → Nat} {h : hp_H} {s : st_T} {n : Nat} {v0 : Nat} {v1 : Int32} {v3 : Int32} {v4 : Int32} (I : iso tg r h s) (T_v0 : tg v0 = 10) {res : (Int32 × Int32) ⊕ (Int32)} (hm : g_X0_axiomUnder_5 n v0 v1 v3 v4 s = some res) : f_X0_axiomUnder_5 n (r v0) v1 v3 v4 h = some res := by
  unfold g_X0_axiomUnder_5 at hm
  unfold f_X0_axiomUnder_5
  by_cases c6 : v1 ≤ v4
  · rw [if_pos c6] at hm ⊢
    obtain rfl := Option.some.inj hm
    rfl
  · rw [if_neg c6] at hm ⊢
    by_cases c5 : v3 < 0
    · rw [if_pos c5] at hm ⊢
      obtain rfl := Option.some.inj hm
      rfl
    · rw [if_neg c5] at hm ⊢
      have T1 : tg (gP s v0 17) = 3 := t_tg (c := 0) I T_v0 (by decide) (by decide) rfl (by decide)
      refine tr_eq0 (t_fR I T_v0 (by decide) (by decide) (by decide)) ?_
      obtain ⟨x2, hx2, hm⟩ := hp_bd hm
      refine tr_eq0 (t_aJ I T1 hx2) ?_
      by_cases c4 : (lg_cmp (((Int64.toUInt64 x2 >>> (Int64.toUInt64 (Int32.toInt64 (v4 - v4 / (64 : Int32) * (64 : Int32))) &&& Int64.toUInt64 63)).toInt64) &&& (1 : Int64)) (0 : Int64)) = 0
      · rw [if_pos c4] at hm ⊢
        exact t_X0_axiomUnder_56 I T_v0 hm
      · rw [if_neg c4] at hm ⊢
        by_cases c3 : v3 = 0
        · rw [if_pos c3] at hm ⊢
          obtain rfl := Option.some.inj hm
          rfl
        · rw [if_neg c3] at hm ⊢
          exact t_X0_axiomUnder_56 I T_v0 hm
def gL_X0_axiomUnder_5 (n : Nat) (v0 : Nat) (v1 : Int32) (s : st_T) (c : Int32 × Int32) : Option ((Int32 × Int32) ⊕ (Int32)) := g_X0_axiomUnder_5 n v0 v1 c.1 c.2 s
theorem tl_X0_axiomUnder_5 {tg r : Nat → Nat} {h : hp_H} {s : st_T} {n : Nat} {v0 : Nat} {v1 : Int32} (I : iso tg r h s) (T_v0 : tg v0 = 10) : ∀ (k : Nat) (c : Int32 × Int32) (x : Int32), hp_lp (gL_X0_axiomUnder_5 n v0 v1 s) k c = some x → hp_lp (fL_X0_axiomUnder_5 n (r v0) v1 h) k c = some x := by
  intro k
  induction k with
  | zero => intro c x hx; exact (hp_lp_0 hx).elim
  | succ k ih =>
    intro c x hx
    obtain ⟨rr, hr, hc⟩ := hp_lp_1 hx
    have e2 := t_X0_axiomUnder_5 I T_v0 hr
    rcases hc with ⟨s3, e3, hx3⟩ | e3
    · subst e3
      exact hp_lp_s e2 (ih _ _ hx3)
    · subst e3
      exact hp_lp_x e2
def g_X0_axiomUnder_0 (n : Nat) (v0 : Nat) (v1 : Int32) (v2 : Int32) (s : st_T) : Option (Int32) :=
  (hp_lp (gL_X0_axiomUnder_5 n v0 v1 s) n (v2, (0 : Int32))).bind fun x1 =>
  some x1
set_option maxHeartbeats 1000000 in
theorem t_X0_axiomUnder_0 {tg r : Nat → Nat} {h : hp_H} {s : st_T} {n : Nat} {v0 : Nat} {v1 : Int32} {v2 : Int32} (I : iso tg r h s) (T_v0 : tg v0 = 10) {res : Int32} (hm : g_X0_axiomUnder_0 n v0 v1 v2 s = some res) : f_X0_axiomUnder_0 n (r v0) v1 v2 h = some res := by
  unfold g_X0_axiomUnder_0 at hm
  unfold f_X0_axiomUnder_0
  obtain ⟨x1, hx1, hm⟩ := hp_bd hm
  refine tr_eq0 (tl_X0_axiomUnder_5 I T_v0 n _ _ hx1) ?_
  obtain rfl := Option.some.inj hm
  rfl
def g_X0_axiomUnder (n : Nat) (v0 : Nat) (v1 : Int32) (v2 : Int32) (s : st_T) : Option (Int32) := g_X0_axiomUnder_0 n v0 v1 v2 s
theorem t_X0_axiomUnder {tg r : Nat → Nat} {h : hp_H} {s : st_T} {n : Nat} {v0 : Nat} {v1 : Int32} {v2 : Int32} (I : iso tg r h s) (T_v0 : tg v0 = 10) {res : Int32} (hm : g_X0_axiomUnder n v0 v1 v2 s = some res) : f_X0_axiomUnder n (r v0) v1 v2 h = some res := by
  unfold g_X0_axiomUnder at hm
  unfold f_X0_axiomUnder
  refine tr_eq0 (t_ck I T_v0 (by decide)) ?_
  exact t_X0_axiomUnder_0 I T_v0 hm
