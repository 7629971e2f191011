def g_X5_clear_0 (n : Nat) (v0 : Nat) (s : st_T) : Option (st_T) :=
  (wF s v0 3 (0 : Int32)).bind fun w1 =>
  (wF w1 v0 2 (0 : Int32)).bind fun w2 =>
  some w2
set_option maxHeartbeats 1000000 in
theorem t_X5_clear_0 {tg r : Nat → Nat} {h hb : hp_H} {s sb : st_T} {n : Nat} {v0 : Nat} (I : iso tg r h s) (F : isf tg r hb h sb s) (T_v0 : tg v0 = 15) {res : st_T} (hm : g_X5_clear_0 n v0 s = some res) : ∃ h2, f_X5_clear_0 n (r v0) h = some (h2) ∧ iso tg r h2 res ∧ isf tg r hb h2 sb res := by
  unfold g_X5_clear_0 at hm
  unfold f_X5_clear_0
  obtain ⟨w1, hw1, hm⟩ := hp_bd hm
  obtain ⟨_, e2, I, F⟩ := t_wF (c := 5) (k := 3) I F T_v0 (by decide) (by decide) rfl hw1
  refine tr_eq e2 ?_
  obtain ⟨w2, hw2, hm⟩ := hp_bd hm
  obtain ⟨_, e2, I, F⟩ := t_wF (c := 5) (k := 2) I F T_v0 (by decide) (by decide) rfl hw2
  refine tr_eq e2 ?_
  obtain rfl := Option.some.inj hm
  exact ⟨_, rfl, I, F⟩
def g_X5_clear (n : Nat) (v0 : Nat) (s : st_T) : Option (st_T) := g_X5_clear_0 n v0 s
theorem t_X5_clear {tg r : Nat → Nat} {h hb : hp_H} {s sb : st_T} {n : Nat} {v0 : Nat} (I : iso tg r h s) (F : isf tg r hb h sb s) (T_v0 : tg v0 = 15) {res : st_T} (hm : g_X5_clear n v0 s = some res) : ∃ h2, f_X5_clear n (r v0) h = some (h2) ∧ iso tg r h2 res ∧ isf tg r hb h2 sb res := by
  unfold g_X5_clear at hm
  unfold f_X5_clear
  refine tr_eq (t_ck I T_v0 (by decide)) ?_
  exact t_X5_clear_0 I F T_v0 hm
def g_X5_get_0 (n : Nat) (v0 : Nat) (v1 : Int32) (v2 : Int32) (s : st_T) : Option (Int32) :=
  if v1 < 0 then
    some (-1 : Int32)
  else
    if (gF s v0 3) ≤ v1 then
      some (-1 : Int32)
    else
      if v2 < 0 then
        some (-1 : Int32)
      else
        (gA s (gP s v0 1) (v1 + (1 : Int32))).bind fun x2 =>
        (gA s (gP s v0 1) v1).bind fun x4 =>
        if v2 < (x2 - x4) then
          (gA s (gP s v0 1) v1).bind fun x7 =>
          (gA s (gP s v0 0) (x7 + v2)).bind fun x8 =>
          some x8
        else
          some (-1 : Int32)
set_option maxHeartbeats 1000000 in
theorem t_X5_get_0 {tg r : Nat → Nat} {h : hp_H} {s : st_T} {n : Nat} {v0 : Nat} {v1 : Int32} {v2 : Int32} (I : iso tg r h s) (T_v0 : tg v0 = 15) {res : Int32} (hm : g_X5_get_0 n v0 v1 v2 s = some res) : f_X5_get_0 n (r v0) v1 v2 h = some res := by
  unfold g_X5_get_0 at hm
  unfold f_X5_get_0
  by_cases c12 : v1 < 0
  · rw [if_pos c12] at hm ⊢
    obtain rfl := Option.some.inj hm
    rfl
  · rw [if_neg c12] at hm ⊢
    refine tr_eq0 (t_fI I T_v0 (by decide) (by decide) rfl) ?_
    by_cases c11 : (gF s v0 3) ≤ v1
    · rw [if_pos c11] at hm ⊢
      obtain rfl := Option.some.inj hm
      rfl
    · rw [if_neg c11] at hm ⊢
      by_cases c10 : v2 < 0
      · rw [if_pos c10] at hm ⊢
        obtain rfl := Option.some.inj hm
        rfl
      · rw [if_neg c10] at hm ⊢
        have T1 : tg (gP s v0 1) = 0 := t_tg (c := 5) I T_v0 (by decide) (by decide) rfl (by decide)
        refine tr_eq0 (t_fR I T_v0 (by decide) (by decide) (by decide)) ?_
        obtain ⟨x2, hx2, hm⟩ := hp_bd hm
        refine tr_eq0 (t_aI I T1 (by decide) rfl hx2) ?_
        have T3 : tg (gP s v0 1) = 0 := t_tg (c := 5) I T_v0 (by decide) (by decide) rfl (by decide)
        refine tr_eq0 (t_fR I T_v0 (by decide) (by decide) (by decide)) ?_
        obtain ⟨x4, hx4, hm⟩ := hp_bd hm
        refine tr_eq0 (t_aI I T3 (by decide) rfl hx4) ?_
        by_cases c9 : v2 < (x2 - x4)
        · rw [if_pos c9] at hm ⊢
          have T5 : tg (gP s v0 0) = 4 := t_tg (c := 5) I T_v0 (by decide) (by decide) rfl (by decide)
          refine tr_eq0 (t_fR I T_v0 (by decide) (by decide) (by decide)) ?_
          have T6 : tg (gP s v0 1) = 0 := t_tg (c := 5) I T_v0 (by decide) (by decide) rfl (by decide)
          refine tr_eq0 (t_fR I T_v0 (by decide) (by decide) (by decide)) ?_
          obtain ⟨x7, hx7, hm⟩ := hp_bd hm
          refine tr_eq0 (t_aI I T6 (by decide) rfl hx7) ?_
          obtain ⟨x8, hx8, hm⟩ := hp_bd hm
          refine tr_eq0 (t_aI I T5 (by decide) rfl hx8) ?_
          obtain rfl := Option.some.inj hm
          rfl
        · rw [if_neg c9] at hm ⊢
          obtain rfl := Option.some.inj hm
          rfl
def g_X5_get (n : Nat) (v0 : Nat) (v1 : Int32) (v2 : Int32) (s : st_T) : Option (Int32) := g_X5_get_0 n v0 v1 v2 s
theorem t_X5_get {tg r : Nat → Nat} {h : hp_H} {s : st_T} {n : Nat} {v0 : Nat} {v1 : Int32} {v2 : Int32} (I : iso tg r h s) (T_v0 : tg v0 = 15) {res : Int32} (hm : g_X5_get n v0 v1 v2 s = some res) : f_X5_get n (r v0) v1 v2 h = some res := by
  unfold g_X5_get at hm
  unfold f_X5_get
  refine tr_eq0 (t_ck I T_v0 (by decide)) ?_
  exact t_X5_get_0 I T_v0 hm
def g_X5_size_0 (n : Nat) (v0 : Nat) (v1 : Int32) (s : st_T) : Option (Int32) :=
  if v1 < 0 then
    some (0 : Int32)
  else
    if (gF s v0 3) ≤ v1 then
      some (0 : Int32)
    else
      (gA s (gP s v0 1) (v1 + (1 : Int32))).bind fun x2 =>
      (gA s (gP s v0 1) v1).bind fun x4 =>
      some (x2 - x4)
set_option maxHeartbeats 1000000 in
theorem t_X5_size_0 {tg r : Nat → Nat} {h : hp_H} {s : st_T} {n : Nat} {v0 : Nat} {v1 : Int32} (I : iso tg r h s) (T_v0 : tg v0 = 15) {res : Int32} (hm : g_X5_size_0 n v0 v1 s = some res) : f_X5_size_0 n (r v0) v1 h = some res := by
  unfold g_X5_size_0 at hm
  unfold f_X5_size_0
  by_cases c6 : v1 < 0
  · rw [if_pos c6] at hm ⊢
    obtain rfl := Option.some.inj hm
    rfl
  · rw [if_neg c6] at hm ⊢
    refine tr_eq0 (t_fI I T_v0 (by decide) (by decide) rfl) ?_
    by_cases c5 : (gF s v0 3) ≤ v1
    · rw [if_pos c5] at hm ⊢
      obtain rfl := Option.some.inj hm
      rfl
    · rw [if_neg c5] at hm ⊢
      have T1 : tg (gP s v0 1) = 0 := t_tg (c := 5) I T_v0 (by decide) (by decide) rfl (by decide)
      refine tr_eq0 (t_fR I T_v0 (by decide) (by decide) (by decide)) ?_
      obtain ⟨x2, hx2, hm⟩ := hp_bd hm
      refine tr_eq0 (t_aI I T1 (by decide) rfl hx2) ?_
      have T3 : tg (gP s v0 1) = 0 := t_tg (c := 5) I T_v0 (by decide) (by decide) rfl (by decide)
      refine tr_eq0 (t_fR I T_v0 (by decide) (by decide) (by decide)) ?_
      obtain ⟨x4, hx4, hm⟩ := hp_bd hm
      refine tr_eq0 (t_aI I T3 (by decide) rfl hx4) ?_
      obtain rfl := Option.some.inj hm
      rfl
def g_X5_size (n : Nat) (v0 : Nat) (v1 : Int32) (s : st_T) : Option (Int32) := g_X5_size_0 n v0 v1 s
theorem t_X5_size {tg r : Nat → Nat} {h : hp_H} {s : st_T} {n : Nat} {v0 : Nat} {v1 : Int32} (I : iso tg r h s) (T_v0 : tg v0 = 15) {res : Int32} (hm : g_X5_size n v0 v1 s = some res) : f_X5_size n (r v0) v1 h = some res := by
  unfold g_X5_size at hm
  unfold f_X5_size
  refine tr_eq0 (t_ck I T_v0 (by decide)) ?_
  exact t_X5_size_0 I T_v0 hm
abbrev eX_X5_addFrom_10 (x : st_T) (h2 : hp_H) (sz2 sl2 : Nat) : hp_H × Nat × Nat := (fun y => (h2, sz2, sl2)) x
abbrev sX_X5_addFrom_10 (x : st_T) : st_T := (fun y => y) x
abbrev eR_X5_addFrom_10 (x : (Int32 × st_T) ⊕ (st_T)) (h2 : hp_H) (sz2 sl2 : Nat) : (Int32 × hp_H × Nat × Nat) ⊕ (hp_H × Nat × Nat) := Sum.elim (fun y => .inl (y.1, h2, sz2, sl2)) (fun y => .inr (eX_X5_addFrom_10 y h2 sz2 sl2)) x
abbrev sR_X5_addFrom_10 (x : (Int32 × st_T) ⊕ (st_T)) : st_T := Sum.elim (fun y => y.2) sX_X5_addFrom_10 x
def g_X5_addFrom_28 (n : Nat) (v0 : Nat) (v1 : Nat) (v2 : Int32) (v4 : Int32) (v5 : Int32) (s : st_T) : Option ((Int32 × st_T) ⊕ (st_T)) :=
  some (.inl ((v5 + (1 : Int32)), s))
set_option maxHeartbeats 1000000 in
theorem t_X5_addFrom_28 {tg r : Nat → Nat} {hb : hp_H} {zb c1 c2 : Nat} {r2 : Nat → Nat} {h : hp_H} {s : st_T} {sz sl n : Nat} {v0 : Nat} {v1 : Nat} {v2 : Int32} {v4 : Int32} {v5 : Int32} (Z : iz tg r hb zb c1 c2 r2 h s sz sl) (T_v0 : tg v0 = 15) (T_v1 : tg v1 = 15) {res : (Int32 × st_T) ⊕ (st_T)} (hm : g_X5_addFrom_28 n v0 v1 v2 v4 v5 s = some res) : ∃ h2 sz2 sl2 r3, f_X5_addFrom_28 n (r v0) (r v1) v2 v4 v5 h sz sl = some (eR_X5_addFrom_10 res h2 sz2 sl2) ∧ iz tg r hb zb c1 c2 r3 h2 (sR_X5_addFrom_10 res) sz2 sl2 := by
  rw [← Z.2.1 v0 (by omega)]
  rw [← Z.2.1 v1 (by omega)]
  unfold g_X5_addFrom_28 at hm
  unfold f_X5_addFrom_28
  obtain rfl := Option.some.inj hm
  exact ⟨_, _, _, _, rfl, Z⟩
def g_X5_addFrom_10 (n : Nat) (v0 : Nat) (v1 : Nat) (v2 : Int32) (v4 : Int32) (v5 : Int32) (s : st_T) : Option ((Int32 × st_T) ⊕ (st_T)) :=
  if v4 ≤ v5 then
    some (.inr s)
  else
    (g_X5_get n v1 v2 v5 s).bind fun x1 =>
    (g_X5_add n v0 x1 s).bind fun x2 =>
    g_X5_addFrom_28 n v0 v1 v2 v4 v5 x2
set_option maxHeartbeats 1000000 in
theorem t_X5_addFrom_10 {tg r : Nat → Nat} {hb : hp_H} {zb c1 c2 : Nat} {r2 : Nat → Nat} {h : hp_H} {s : st_T} {sz sl n : Nat} {v0 : Nat} {v1 : Nat} {v2 : Int32} {v4 : Int32} {v5 : Int32} (Z : iz tg r hb zb c1 c2 r2 h s sz sl) (T_v0 : tg v0 = 15) (T_v1 : tg v1 = 15) {res : (Int32 × st_T) ⊕ (st_T)} (hm : g_X5_addFrom_10 n v0 v1 v2 v4 v5 s = some res) : ∃ h2 sz2 sl2 r3, f_X5_addFrom_10 n (r v0) (r v1) v2 v4 v5 h sz sl = some (eR_X5_addFrom_10 res h2 sz2 sl2) ∧ iz tg r hb zb c1 c2 r3 h2 (sR_X5_addFrom_10 res) sz2 sl2 := by
  rw [← Z.2.1 v0 (by omega)]
  rw [← Z.2.1 v1 (by omega)]
  unfold g_X5_addFrom_10 at hm
  unfold f_X5_addFrom_10
  by_cases c3 : v4 ≤ v5
  · rw [if_pos c3] at hm ⊢
    obtain rfl := Option.some.inj hm
    exact ⟨_, _, _, _, rfl, Z⟩
  · rw [if_neg c3] at hm ⊢
    obtain ⟨x1, hx1, hm⟩ := hp_bd hm
    refine tr_eq2 (t_X5_get Z.1 T_v1 hx1) ?_
    try simp only [Z.2.1 v0 (by omega), Z.2.1 v1 (by omega)]
    obtain ⟨x2, hx2, hm⟩ := hp_bd hm
    obtain ⟨_, _, _, _, e2, Z⟩ := t2_X5_add Z T_v0 hx2
    refine tr_eq2 e2 ?_
    try dsimp only
    try simp only [Z.2.1 v0 (by omega), Z.2.1 v1 (by omega)]
    exact t_X5_addFrom_28 Z T_v0 T_v1 hm
def gL_X5_addFrom_10 (n : Nat) (v0 : Nat) (v1 : Nat) (v2 : Int32) (v4 : Int32) (c : Int32 × st_T) : Option ((Int32 × st_T) ⊕ (st_T)) := g_X5_addFrom_10 n v0 v1 v2 v4 c.1 c.2
theorem tl_X5_addFrom_10 {tg r : Nat → Nat} {hb : hp_H} {zb c1 c2 n : Nat} {v0 : Nat} {v1 : Nat} {v2 : Int32} {v4 : Int32} (T_v0 : tg v0 = 15) (T_v1 : tg v1 = 15) : ∀ (k : Nat) (k0 : Int32) (r2 : Nat → Nat) (h : hp_H) (s : st_T) (sz sl : Nat) (x : st_T), iz tg r hb zb c1 c2 r2 h s sz sl → hp_lp (gL_X5_addFrom_10 n v0 v1 v2 v4) k (k0, s) = some x → ∃ h2 sz2 sl2 r3, hp_lp (fL_X5_addFrom_10 n (r v0) (r v1) v2 v4) k (k0, h, sz, sl) = some (eX_X5_addFrom_10 x h2 sz2 sl2) ∧ iz tg r hb zb c1 c2 r3 h2 (sX_X5_addFrom_10 x) sz2 sl2 := by
  intro k
  induction k with
  | zero => intro k0 r2 h s sz sl x Z hx; exact (hp_lp_0 hx).elim
  | succ k ih =>
    intro k0 r2 h s sz sl x Z hx
    obtain ⟨rr, hr, hc⟩ := hp_lp_1 hx
    obtain ⟨h2, sz2, sl2, r3, e2, Z2⟩ := t_X5_addFrom_10 Z T_v0 T_v1 hr
    rcases hc with ⟨s3, e3, hx3⟩ | e3
    · subst e3
      obtain ⟨h3, sz3, sl3, r4, e4, Z3⟩ := ih _ r3 h2 _ sz2 sl2 x Z2 hx3
      exact ⟨h3, sz3, sl3, r4, hp_lp_s e2 e4, Z3⟩
    · subst e3
      exact ⟨h2, sz2, sl2, r3, hp_lp_x e2, Z2⟩
def g_X5_addFrom_0 (n : Nat) (v0 : Nat) (v1 : Nat) (v2 : Int32) (v3 : Int32) (s : st_T) : Option (st_T) :=
  (g_X5_size n v1 v2 s).bind fun x1 =>
  (hp_lp (gL_X5_addFrom_10 n v0 v1 v2 x1) n (v3, s)).bind fun x2 =>
  some x2
set_option maxHeartbeats 1000000 in
theorem t_X5_addFrom_0 {tg r : Nat → Nat} {hb : hp_H} {zb c1 c2 : Nat} {r2 : Nat → Nat} {h : hp_H} {s : st_T} {sz sl n : Nat} {v0 : Nat} {v1 : Nat} {v2 : Int32} {v3 : Int32} (Z : iz tg r hb zb c1 c2 r2 h s sz sl) (T_v0 : tg v0 = 15) (T_v1 : tg v1 = 15) {res : st_T} (hm : g_X5_addFrom_0 n v0 v1 v2 v3 s = some res) : ∃ h2 sz2 sl2 r3, f_X5_addFrom_0 n (r v0) (r v1) v2 v3 h sz sl = some ((h2, sz2, sl2)) ∧ iz tg r hb zb c1 c2 r3 h2 res sz2 sl2 := by
  rw [← Z.2.1 v0 (by omega)]
  rw [← Z.2.1 v1 (by omega)]
  unfold g_X5_addFrom_0 at hm
  unfold f_X5_addFrom_0
  obtain ⟨x1, hx1, hm⟩ := hp_bd hm
  refine tr_eq2 (t_X5_size Z.1 T_v1 hx1) ?_
  obtain ⟨x2, hx2, hm⟩ := hp_bd hm
  try simp only [Z.2.1 v0 (by omega), Z.2.1 v1 (by omega)]
  obtain ⟨_, _, _, _, e2, Z⟩ := tl_X5_addFrom_10 T_v0 T_v1 n _ _ _ _ _ _ _ Z hx2
  refine tr_eq2 e2 ?_
  try dsimp only [eX_X5_addFrom_10]
  replace Z : iz tg r hb zb c1 c2 _ _ x2 _ _ := Z
  obtain rfl := Option.some.inj hm
  exact ⟨_, _, _, _, rfl, Z⟩
def g_X5_addFrom (n : Nat) (v0 : Nat) (v1 : Nat) (v2 : Int32) (v3 : Int32) (s : st_T) : Option (st_T) := g_X5_addFrom_0 n v0 v1 v2 v3 s
theorem t2_X5_addFrom {tg r : Nat → Nat} {hb : hp_H} {zb c1 c2 : Nat} {r2 : Nat → Nat} {h : hp_H} {s : st_T} {sz sl n : Nat} {v0 : Nat} {v1 : Nat} {v2 : Int32} {v3 : Int32} (Z : iz tg r hb zb c1 c2 r2 h s sz sl) (T_v0 : tg v0 = 15) (T_v1 : tg v1 = 15) {res : st_T} (hm : g_X5_addFrom n v0 v1 v2 v3 s = some res) : ∃ h2 sz2 sl2 r3, f_X5_addFrom n (r v0) (r v1) v2 v3 h sz sl = some ((h2, sz2, sl2)) ∧ iz tg r hb zb c1 c2 r3 h2 res sz2 sl2 := by
  unfold g_X5_addFrom at hm
  unfold f_X5_addFrom
  have e0 := t_ck (c := 5) Z.1 T_v0 (by decide)
  rw [Z.2.1 v0 (by omega)] at e0
  refine tr_eq2 e0 ?_
  exact t_X5_addFrom_0 Z T_v0 T_v1 hm
def g_X5_endRow_0 (n : Nat) (v0 : Nat) (s : st_T) : Option (st_T) :=
  if (gL s (gP s v0 1)) ≤ ((gF s v0 3) + (1 : Int32)) then
    some s
  else
    (wF s v0 3 ((gF s v0 3) + (1 : Int32))).bind fun w2 =>
    (uA 0 w2 (gP w2 v0 1) (gF w2 v0 3) (gF w2 v0 2)).bind fun w4 =>
    some w4
set_option maxHeartbeats 1000000 in
theorem t_X5_endRow_0 {tg r : Nat → Nat} {h hb : hp_H} {s sb : st_T} {n : Nat} {v0 : Nat} (I : iso tg r h s) (F : isf tg r hb h sb s) (T_v0 : tg v0 = 15) {res : st_T} (hm : g_X5_endRow_0 n v0 s = some res) : ∃ h2, f_X5_endRow_0 n (r v0) h = some (h2) ∧ iso tg r h2 res ∧ isf tg r hb h2 sb res := by
  unfold g_X5_endRow_0 at hm
  unfold f_X5_endRow_0
  refine tr_eq (t_fI I T_v0 (by decide) (by decide) rfl) ?_
  have T1 : tg (gP s v0 1) = 0 := t_tg (c := 5) I T_v0 (by decide) (by decide) rfl (by decide)
  refine tr_eq (t_fR I T_v0 (by decide) (by decide) (by decide)) ?_
  refine tr_eq (t_len I T1 (by decide)) ?_
  by_cases c5 : (gL s (gP s v0 1)) ≤ ((gF s v0 3) + (1 : Int32))
  · rw [if_pos c5] at hm ⊢
    obtain rfl := Option.some.inj hm
    exact ⟨_, rfl, I, F⟩
  · rw [if_neg c5] at hm ⊢
    refine tr_eq (t_fI I T_v0 (by decide) (by decide) rfl) ?_
    obtain ⟨w2, hw2, hm⟩ := hp_bd hm
    obtain ⟨_, e2, I, F⟩ := t_wF (c := 5) (k := 3) I F T_v0 (by decide) (by decide) rfl hw2
    refine tr_eq e2 ?_
    have T3 : tg (gP w2 v0 1) = 0 := t_tg (c := 5) I T_v0 (by decide) (by decide) rfl (by decide)
    refine tr_eq (t_fR I T_v0 (by decide) (by decide) (by decide)) ?_
    refine tr_eq (t_fI I T_v0 (by decide) (by decide) rfl) ?_
    refine tr_eq (t_fI I T_v0 (by decide) (by decide) rfl) ?_
    obtain ⟨w4, hw4, hm⟩ := hp_bd hm
    obtain ⟨_, e2, I, F⟩ := t_sI I F T3 (by decide) rfl hw4
    refine tr_eq e2 ?_
    obtain rfl := Option.some.inj hm
    exact ⟨_, rfl, I, F⟩
def g_X5_endRow (n : Nat) (v0 : Nat) (s : st_T) : Option (st_T) := g_X5_endRow_0 n v0 s
theorem t_X5_endRow {tg r : Nat → Nat} {h hb : hp_H} {s sb : st_T} {n : Nat} {v0 : Nat} (I : iso tg r h s) (F : isf tg r hb h sb s) (T_v0 : tg v0 = 15) {res : st_T} (hm : g_X5_endRow n v0 s = some res) : ∃ h2, f_X5_endRow n (r v0) h = some (h2) ∧ iso tg r h2 res ∧ isf tg r hb h2 sb res := by
  unfold g_X5_endRow at hm
  unfold f_X5_endRow
  refine tr_eq (t_ck I T_v0 (by decide)) ?_
  exact t_X5_endRow_0 I F T_v0 hm
def g_X5_dropUnderLast_0 (n : Nat) (v0 : Nat) (v1 : Int32) (s : st_T) : Option (st_T) :=
  if v1 ≤ 0 then
    some s
  else
    if v1 < (gF s v0 3) then
      (g_X5_size n v0 ((gF s v0 3) - (1 : Int32)) s).bind fun x1 =>
      (gA s (gP s v0 1) (((gF s v0 3) - (1 : Int32)) - v1)).bind fun x3 =>
      (gA s (gP s v0 1) ((gF s v0 3) - (1 : Int32))).bind fun x6 =>
      (uC s (gP s v0 0) x6 (gP s v0 0) x3 x1).bind fun w8 =>
      (wF w8 v0 3 ((gF w8 v0 3) - v1)).bind fun w9 =>
      (wF w9 v0 2 (x3 + x1)).bind fun w10 =>
      (uA 0 w10 (gP w10 v0 1) (gF w10 v0 3) (gF w10 v0 2)).bind fun w12 =>
      some w12
    else
      some s
set_option maxHeartbeats 1000000 in
theorem t_X5_dropUnderLast_0 {tg r : Nat → Nat} {h hb : hp_H} {s sb : st_T} {n : Nat} {v0 : Nat} {v1 : Int32} (I : iso tg r h s) (F : isf tg r hb h sb s) (T_v0 : tg v0 = 15) {res : st_T} (hm : g_X5_dropUnderLast_0 n v0 v1 s = some res) : ∃ h2, f_X5_dropUnderLast_0 n (r v0) v1 h = some (h2) ∧ iso tg r h2 res ∧ isf tg r hb h2 sb res := by
  unfold g_X5_dropUnderLast_0 at hm
  unfold f_X5_dropUnderLast_0
  by_cases c14 : v1 ≤ 0
  · rw [if_pos c14] at hm ⊢
    obtain rfl := Option.some.inj hm
    exact ⟨_, rfl, I, F⟩
  · rw [if_neg c14] at hm ⊢
    refine tr_eq (t_fI I T_v0 (by decide) (by decide) rfl) ?_
    by_cases c13 : v1 < (gF s v0 3)
    · rw [if_pos c13] at hm ⊢
      refine tr_eq (t_fI I T_v0 (by decide) (by decide) rfl) ?_
      obtain ⟨x1, hx1, hm⟩ := hp_bd hm
      refine tr_eq (t_X5_size I T_v0 hx1) ?_
      have T2 : tg (gP s v0 1) = 0 := t_tg (c := 5) I T_v0 (by decide) (by decide) rfl (by decide)
      refine tr_eq (t_fR I T_v0 (by decide) (by decide) (by decide)) ?_
      obtain ⟨x3, hx3, hm⟩ := hp_bd hm
      refine tr_eq (t_aI I T2 (by decide) rfl hx3) ?_
      have T4 : tg (gP s v0 0) = 4 := t_tg (c := 5) I T_v0 (by decide) (by decide) rfl (by decide)
      refine tr_eq (t_fR I T_v0 (by decide) (by decide) (by decide)) ?_
      have T5 : tg (gP s v0 1) = 0 := t_tg (c := 5) I T_v0 (by decide) (by decide) rfl (by decide)
      refine tr_eq (t_fR I T_v0 (by decide) (by decide) (by decide)) ?_
      obtain ⟨x6, hx6, hm⟩ := hp_bd hm
      refine tr_eq (t_aI I T5 (by decide) rfl hx6) ?_
      have T7 : tg (gP s v0 0) = 4 := t_tg (c := 5) I T_v0 (by decide) (by decide) rfl (by decide)
      refine tr_eq (t_fR I T_v0 (by decide) (by decide) (by decide)) ?_
      obtain ⟨w8, hw8, hm⟩ := hp_bd hm
      obtain ⟨_, e2, I, F⟩ := t_cp I F T7 T7 (by decide) (by decide) hw8
      refine tr_eq e2 ?_
      refine tr_eq (t_fI I T_v0 (by decide) (by decide) rfl) ?_
      obtain ⟨w9, hw9, hm⟩ := hp_bd hm
      obtain ⟨_, e2, I, F⟩ := t_wF (c := 5) (k := 3) I F T_v0 (by decide) (by decide) rfl hw9
      refine tr_eq e2 ?_
      obtain ⟨w10, hw10, hm⟩ := hp_bd hm
      obtain ⟨_, e2, I, F⟩ := t_wF (c := 5) (k := 2) I F T_v0 (by decide) (by decide) rfl hw10
      refine tr_eq e2 ?_
      have T11 : tg (gP w10 v0 1) = 0 := t_tg (c := 5) I T_v0 (by decide) (by decide) rfl (by decide)
      refine tr_eq (t_fR I T_v0 (by decide) (by decide) (by decide)) ?_
      refine tr_eq (t_fI I T_v0 (by decide) (by decide) rfl) ?_
      refine tr_eq (t_fI I T_v0 (by decide) (by decide) rfl) ?_
      obtain ⟨w12, hw12, hm⟩ := hp_bd hm
      obtain ⟨_, e2, I, F⟩ := t_sI I F T11 (by decide) rfl hw12
      refine tr_eq e2 ?_
      obtain rfl := Option.some.inj hm
      exact ⟨_, rfl, I, F⟩
    · rw [if_neg c13] at hm ⊢
      obtain rfl := Option.some.inj hm
      exact ⟨_, rfl, I, F⟩
def g_X5_dropUnderLast (n : Nat) (v0 : Nat) (v1 : Int32) (s : st_T) : Option (st_T) := g_X5_dropUnderLast_0 n v0 v1 s
theorem t_X5_dropUnderLast {tg r : Nat → Nat} {h hb : hp_H} {s sb : st_T} {n : Nat} {v0 : Nat} {v1 : Int32} (I : iso tg r h s) (F : isf tg r hb h sb s) (T_v0 : tg v0 = 15) {res : st_T} (hm : g_X5_dropUnderLast n v0 v1 s = some res) : ∃ h2, f_X5_dropUnderLast n (r v0) v1 h = some (h2) ∧ iso tg r h2 res ∧ isf tg r hb h2 sb res := by
  unfold g_X5_dropUnderLast at hm
  unfold f_X5_dropUnderLast
  refine tr_eq (t_ck I T_v0 (by decide)) ?_
  exact t_X5_dropUnderLast_0 I F T_v0 hm
def g_X5_hasRow_22 (n : Nat) (v0 : Nat) (v1 : Int32) (v2 : Nat) (v3 : Int32) (v4 : Int32) (v5 : Int32) (s : st_T) : Option ((Int32) ⊕ (Int32)) :=
  if v4 ≤ v5 then
    some (.inr (1 : Int32))
  else
    (g_X5_get n v0 v1 v5 s).bind fun x1 =>
    (g_X5_get n v2 v3 v5 s).bind fun x2 =>
    if x1 = x2 then
      some (.inl (v5 + (1 : Int32)))
    else
      some (.inr (0 : Int32))
set_option maxHeartbeats 1000000 in
theorem t_X5_hasRow_22 {tg r : Nat → Nat} {h : hp_H} {s : st_T} {n : Nat} {v0 : Nat} {v1 : Int32} {v2 : Nat} {v3 : Int32} {v4 : Int32} {v5 : Int32} (I : iso tg r h s) (T_v0 : tg v0 = 15) (T_v2 : tg v2 = 15) {res : (Int32) ⊕ (Int32)} (hm : g_X5_hasRow_22 n v0 v1 v2 v3 v4 v5 s = some res) : f_X5_hasRow_22 n (r v0) v1 (r v2) v3 v4 v5 h = some res := by
  unfold g_X5_hasRow_22 at hm
  unfold f_X5_hasRow_22
  by_cases c4 : v4 ≤ v5
  · rw [if_pos c4] at hm ⊢
    obtain rfl := Option.some.inj hm
    rfl
  · rw [if_neg c4] at hm ⊢
    obtain ⟨x1, hx1, hm⟩ := hp_bd hm
    refine tr_eq0 (t_X5_get I T_v0 hx1) ?_
    obtain ⟨x2, hx2, hm⟩ := hp_bd hm
    refine tr_eq0 (t_X5_get I T_v2 hx2) ?_
    by_cases c3 : x1 = x2
    · rw [if_pos c3] at hm ⊢
      obtain rfl := Option.some.inj hm
      rfl
    · rw [if_neg c3] at hm ⊢
      obtain rfl := Option.some.inj hm
      rfl
def gL_X5_hasRow_22 (n : Nat) (v0 : Nat) (v1 : Int32) (v2 : Nat) (v3 : Int32) (v4 : Int32) (s : st_T) (c : Int32) : Option ((Int32) ⊕ (Int32)) := g_X5_hasRow_22 n v0 v1 v2 v3 v4 c s
theorem tl_X5_hasRow_22 {tg r : Nat → Nat} {h : hp_H} {s : st_T} {n : Nat} {v0 : Nat} {v1 : Int32} {v2 : Nat} {v3 : Int32} {v4 : Int32} (I : iso tg r h s) (T_v0 : tg v0 = 15) (T_v2 : tg v2 = 15) : ∀ (k : Nat) (c : Int32) (x : Int32), hp_lp (gL_X5_hasRow_22 n v0 v1 v2 v3 v4 s) k c = some x → hp_lp (fL_X5_hasRow_22 n (r v0) v1 (r v2) v3 v4 h) k c = some x := by
  intro k
  induction k with
  | zero => intro c x hx; exact (hp_lp_0 hx).elim
  | succ k ih =>
    intro c x hx
    obtain ⟨rr, hr, hc⟩ := hp_lp_1 hx
    have e2 := t_X5_hasRow_22 I T_v0 T_v2 hr
    rcases hc with ⟨s3, e3, hx3⟩ | e3
    · subst e3
      exact hp_lp_s e2 (ih _ _ hx3)
    · subst e3
      exact hp_lp_x e2
def g_X5_hasRow_0 (n : Nat) (v0 : Nat) (v1 : Int32) (v2 : Nat) (v3 : Int32) (s : st_T) : Option (Int32) :=
  (g_X5_size n v0 v1 s).bind fun x1 =>
  (g_X5_size n v2 v3 s).bind fun x2 =>
  if x1 = x2 then
    (hp_lp (gL_X5_hasRow_22 n v0 v1 v2 v3 x1 s) n (0 : Int32)).bind fun x3 =>
    some x3
  else
    some (0 : Int32)
set_option maxHeartbeats 1000000 in
theorem t_X5_hasRow_0 {tg r : Nat → Nat} {h : hp_H} {s : st_T} {n : Nat} {v0 : Nat} {v1 : Int32} {v2 : Nat} {v3 : Int32} (I : iso tg r h s) (T_v0 : tg v0 = 15) (T_v2 : tg v2 = 15) {res : Int32} (hm : g_X5_hasRow_0 n v0 v1 v2 v3 s = some res) : f_X5_hasRow_0 n (r v0) v1 (r v2) v3 h = some res := by
  unfold g_X5_hasRow_0 at hm
  unfold f_X5_hasRow_0
  obtain ⟨x1, hx1, hm⟩ := hp_bd hm
  refine tr_eq0 (t_X5_size I T_v0 hx1) ?_
  obtain ⟨x2, hx2, hm⟩ := hp_bd hm
  refine tr_eq0 (t_X5_size I T_v2 hx2) ?_
  by_cases c5 : x1 = x2
  · rw [if_pos c5] at hm ⊢
    obtain ⟨x3, hx3, hm⟩ := hp_bd hm
    refine tr_eq0 (tl_X5_hasRow_22 I T_v0 T_v2 n _ _ hx3) ?_
    obtain rfl := Option.some.inj hm
    rfl
  · rw [if_neg c5] at hm ⊢
    obtain rfl := Option.some.inj hm
    rfl
def g_X5_hasRow (n : Nat) (v0 : Nat) (v1 : Int32) (v2 : Nat) (v3 : Int32) (s : st_T) : Option (Int32) := g_X5_hasRow_0 n v0 v1 v2 v3 s
theorem t_X5_hasRow {tg r : Nat → Nat} {h : hp_H} {s : st_T} {n : Nat} {v0 : Nat} {v1 : Int32} {v2 : Nat} {v3 : Int32} (I : iso tg r h s) (T_v0 : tg v0 = 15) (T_v2 : tg v2 = 15) {res : Int32} (hm : g_X5_hasRow n v0 v1 v2 v3 s = some res) : f_X5_hasRow n (r v0) v1 (r v2) v3 h = some res := by
  unfold g_X5_hasRow at hm
  unfold f_X5_hasRow
  refine tr_eq0 (t_ck I T_v0 (by decide)) ?_
  exact t_X5_hasRow_0 I T_v0 T_v2 hm
