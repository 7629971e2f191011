/-! States by names: int and boolean fields, reference fields (names), int-like arrays, lengths, long arrays -/
abbrev st_T : Type := (Nat → Nat → Int32) × (Nat → Nat → Nat) × (Nat → Nat → Int32) × (Nat → Nat) × (Nat → Nat → Int64)
def gF (s : st_T) (i k : Nat) : Int32 := s.1 i k
def gP (s : st_T) (i k : Nat) : Nat := s.2.1 i k
def gA (s : st_T) (i : Nat) (j : Int32) : Option Int32 := if 0 ≤ j.toInt ∧ j.toInt < (s.2.2.2.1 i : Int) then some (s.2.2.1 i j.toNatClampNeg) else none
def gJ (s : st_T) (i : Nat) (j : Int32) : Option Int64 := if 0 ≤ j.toInt ∧ j.toInt < (s.2.2.2.1 i : Int) then some (s.2.2.2.2 i j.toNatClampNeg) else none
def gL (s : st_T) (i : Nat) : Int32 := Int32.ofNat (s.2.2.2.1 i)
def u2 {α : Type} (f : Nat → Nat → α) (i k : Nat) (v : α) : Nat → Nat → α := fun a b => if a = i then (if b = k then v else f i b) else f a b
def uF (s : st_T) (i k : Nat) (v : Int32) : st_T := (u2 s.1 i k v, s.2)
def uP (s : st_T) (i k : Nat) (q : Nat) : st_T := (s.1, u2 s.2.1 i k q, s.2.2)
def wF (s : st_T) (i k : Nat) (v : Int32) : Option st_T := some (uF s i k v)
def wP (s : st_T) (i k q : Nat) : Option st_T := some (uP s i k q)
def uA (t : Nat) (s : st_T) (i : Nat) (j x : Int32) : Option st_T := if 0 ≤ j.toInt ∧ j.toInt < (s.2.2.2.1 i : Int) then some (s.1, s.2.1, u2 s.2.2.1 i j.toNatClampNeg (hp_nar t x), s.2.2.2) else none
def uJ (s : st_T) (i : Nat) (j : Int32) (x : Int64) : Option st_T := if 0 ≤ j.toInt ∧ j.toInt < (s.2.2.2.1 i : Int) then some (s.1, s.2.1, s.2.2.1, s.2.2.2.1, u2 s.2.2.2.2 i j.toNatClampNeg x) else none
def uC (s : st_T) (i : Nat) (sp : Int32) (j : Nat) (dp n : Int32) : Option st_T := if 0 ≤ sp.toInt ∧ 0 ≤ dp.toInt ∧ 0 ≤ n.toInt ∧ sp.toInt + n.toInt ≤ (s.2.2.2.1 i : Int) ∧ dp.toInt + n.toInt ≤ (s.2.2.2.1 j : Int) then some (s.1, s.2.1, (fun a => if a = j then va_cpy (s.2.2.1 i) (s.2.2.1 j) sp.toNatClampNeg dp.toNatClampNeg n.toNatClampNeg else s.2.2.1 a), s.2.2.2) else none
/-- the tag of what a reference field holds (0 .. 3 arrays of int, byte, boolean, long; 4 an int array that is a row list's items; 10 + c an object of class c); 99 for a number -/
def ftag (c k : Nat) : Nat := match c with
  | 0 => [12, 1, 99, 99, 1, 99, 0, 0, 0, 15, 15, 15, 15, 15, 15, 1, 0, 3].getD k 99
  | 1 => [15, 15, 10, 0, 3, 3].getD k 99
  | 2 => [1, 0, 0, 0, 0].getD k 99
  | 3 => [99, 99, 99, 0, 1, 99, 10, 0, 99, 1, 99, 99, 99].getD k 99
  | 4 => [99, 10, 16, 17, 99, 99, 99, 99, 99, 99, 0].getD k 99
  | 5 => [4, 0, 99, 99].getD k 99
  | 6 => [99, 99, 99, 1, 99].getD k 99
  | 7 => [99, 0, 0, 0, 99, 1, 1, 0, 0, 99, 0, 0, 99].getD k 99
  | 8 => [1, 99, 99].getD k 99
  | 9 => [10, 13, 99, 99, 0, 15, 0, 0, 0, 0, 0, 0, 99, 0, 0, 99, 0].getD k 99
  | 10 => [10, 10, 14, 13, 11, 11, 19, 18, 18, 99, 99].getD k 99
  | _ => [0, 99, 99, 99, 99, 0, 0, 0, 2, 0, 0, 0, 0, 0, 0, 0, 0, 0, 0, 0, 0, 0, 3, 3, 0, 0, 0, 0, 0, 99, 99, 99, 99, 99, 99, 99, 99, 99, 0, 0, 2, 0, 0, 99, 0, 0, 99, 0, 99, 0, 99, 0, 0, 99, 99, 99, 0, 0, 0, 99, 0, 0, 0, 0, 0, 0, 0, 99, 0, 0, 0, 99, 0, 0, 0, 0, 0, 0, 0, 0, 99, 0, 99, 2, 0, 99].getD k 99
def nf (c : Nat) : Nat := [18, 6, 5, 13, 11, 4, 5, 13, 3, 17, 11, 86].getD c 0
def kd (t : Nat) : Nat := if t = 4 then 0 else t
/-- the heap h holds the state s, name i at address r i -/
def iso (tg r : Nat → Nat) (h : hp_H) (s : st_T) : Prop :=
  (∀ i, tg i < 5 ∧ tg i ≠ 3 → h (r i) = some (.inl (kd (tg i), s.2.2.2.1 i, s.2.2.1 i))) ∧
  (∀ i, tg i = 3 → h (r i) = some (.inr (.inl (s.2.2.2.1 i, s.2.2.2.2 i)))) ∧
  (∀ i c, tg i = 10 + c → c < 12 → ∃ V, h (r i) = some (.inr (.inr (c, V))) ∧ ∀ k, k < nf c → V k = if ftag c k = 99 then .int (s.1 i k) else .ref (r (s.2.1 i k))) ∧
  (∀ i j, tg i < 99 → tg j < 99 → r i = r j → i = j) ∧
  (∀ i c k, tg i = 10 + c → c < 12 → k < nf c → ftag c k ≠ 99 → tg (s.2.1 i k) = ftag c k)
/-- nothing outside has changed, no array its length -/
def isf (tg r : Nat → Nat) (h0 h : hp_H) (s0 s : st_T) : Prop := (∀ q, (∀ i, tg i < 99 → r i ≠ q) → h q = h0 q) ∧ s.2.2.2.1 = s0.2.2.2.1 ∧ ∀ i, tg i = 15 → s.2.1 i 0 = s0.2.1 i 0
theorem isf.rf {tg r : Nat → Nat} {h : hp_H} {s : st_T} : isf tg r h h s s := ⟨fun _ _ => rfl, rfl, fun _ _ => rfl⟩
theorem tr_eq0 {α β : Type} {x : Option α} {a : α} {F : α → Option β} {b : β} (e : x = some a) (k : F a = some b) : x.bind F = some b := by rw [e]; exact k
theorem tr_eq {α β : Type} {x : Option α} {a : α} {F : α → Option β} {C : hp_H → β} {D : hp_H → Prop} (e : x = some a) (k : ∃ h2, F a = some (C h2) ∧ D h2) : ∃ h2, x.bind F = some (C h2) ∧ D h2 := by rw [e]; exact k
theorem hp_lp_s {S X : Type} {b : S → Option (S ⊕ X)} {n : Nat} {s s2 : S} {x : X} (e : b s = some (.inl s2)) (e2 : hp_lp b n s2 = some x) : hp_lp b (n + 1) s = some x := by
  unfold hp_lp; rw [e]; exact e2
theorem hp_lp_x {S X : Type} {b : S → Option (S ⊕ X)} {n : Nat} {s : S} {x : X} (e : b s = some (.inr x)) : hp_lp b (n + 1) s = some x := by
  unfold hp_lp; rw [e]; rfl
section ISO
variable {tg r : Nat → Nat} {h h0 : hp_H} {s s0 : st_T}
theorem t_fI (I : iso tg r h s) {i c k : Nat} (ht : tg i = 10 + c) (hc : c < 12) (hk : k < nf c) (hf : ftag c k = 99) : hp_fI h c (r i) k = some (gF s i k) := by
  obtain ⟨V, h1, h2⟩ := I.2.2.1 i c ht hc
  simp [hp_fI, hp_f, h1, h2 k hk, hf, gF]
theorem t_fR (I : iso tg r h s) {i c k : Nat} (ht : tg i = 10 + c) (hc : c < 12) (hk : k < nf c) (hf : ftag c k ≠ 99) : hp_fR h c (r i) k = some (r (gP s i k)) := by
  obtain ⟨V, h1, h2⟩ := I.2.2.1 i c ht hc
  simp [hp_fR, hp_f, h1, h2 k hk, hf, gP]
theorem t_tg (I : iso tg r h s) {i c k t : Nat} (ht : tg i = 10 + c) (hc : c < 12) (hk : k < nf c) (hf : ftag c k = t) (h9 : t ≠ 99) : tg (gP s i k) = t := by
  have := I.2.2.2.2 i c k ht hc hk (by rw [hf]; exact h9)
  rw [hf] at this
  exact this
theorem t_aI (I : iso tg r h s) {i t t2 : Nat} {j v : Int32} (ht : tg i = t) (h3 : t < 5 ∧ t ≠ 3) (hk : kd t = t2) (e : gA s i j = some v) : hp_aI h t2 (r i) j = some v := by
  subst ht; subst hk
  unfold gA at e
  split at e
  · rename_i hc
    simp [hp_aI, I.1 i h3, hc, Option.some.inj e]
  · cases e
theorem t_aJ (I : iso tg r h s) {i : Nat} {j : Int32} {v : Int64} (ht : tg i = 3) (e : gJ s i j = some v) : hp_aJ h (r i) j = some v := by
  unfold gJ at e
  split at e
  · rename_i hc
    simp [hp_aJ, I.2.1 i ht, hc, Option.some.inj e]
  · cases e
theorem t_len (I : iso tg r h s) {i t : Nat} (ht : tg i = t) (h3 : t < 5) : hp_len h (r i) = some (gL s i) := by
  subst ht
  by_cases h4 : tg i = 3
  · simp [hp_len, I.2.1 i h4, gL]
  · simp [hp_len, I.1 i ⟨h3, h4⟩, gL]
theorem t_ck (I : iso tg r h s) {i c : Nat} (ht : tg i = 10 + c) (hc : c < 12) : hp_ck h c (r i) = some () := by
  obtain ⟨V, h1, -⟩ := I.2.2.1 i c ht hc
  simp [hp_ck, h1]
theorem hp_w_self {h : hp_H} {a : Nat} {e : hp_E} : hp_w h a e a = some e := by simp [hp_w]
theorem hp_w_ne {h : hp_H} {a q : Nat} {e : hp_E} (hq : q ≠ a) : hp_w h a e q = h q := by simp [hp_w, hq]
/-- one object's cell is written -/
theorem iso.obj (I : iso tg r h s) {i c : Nat} {V : Nat → Value} {s2 : st_T} (ht : tg i = 10 + c) (hc : c < 12) (hV : ∀ k, k < nf c → V k = if ftag c k = 99 then .int (s2.1 i k) else .ref (r (s2.2.1 i k))) (e1 : ∀ j, j ≠ i → s2.1 j = s.1 j ∧ s2.2.1 j = s.2.1 j) (e2 : s2.2.2 = s.2.2) (hw : ∀ k, k < nf c → ftag c k ≠ 99 → tg (s2.2.1 i k) = ftag c k) : iso tg r (hp_w h (r i) (.inr (.inr (c, V)))) s2 := by
  obtain ⟨I1, I2, I3, I4, I5⟩ := I
  have ap : ∀ j, tg j < 99 → j ≠ i → r j ≠ r i := fun j hj hne q => hne (I4 j i hj (by omega) q)
  refine ⟨fun j hj => ?_, fun j hj => ?_, fun j c2 hj hc2 => ?_, I4, fun j c2 k hj hc2 hk hf => ?_⟩
  · rw [hp_w_ne (ap j (by omega) (fun q => by subst q; omega)), e2]; exact I1 j hj
  · rw [hp_w_ne (ap j (by omega) (fun q => by subst q; omega)), e2]; exact I2 j hj
  · by_cases q : j = i
    · subst q
      have : c2 = c := by omega
      subst this
      exact ⟨V, hp_w_self, hV⟩
    · obtain ⟨V2, h1, h2⟩ := I3 j c2 hj hc2
      refine ⟨V2, by rw [hp_w_ne (ap j (by omega) q)]; exact h1, fun k hk => ?_⟩
      rw [(e1 j q).1, (e1 j q).2]
      exact h2 k hk
  · by_cases q : j = i
    · subst q
      have : c2 = c := by omega
      subst this
      exact hw k hk hf
    · rw [(e1 j q).2]
      exact I5 j c2 k hj hc2 hk hf
theorem isf.wr (F : isf tg r h0 h s0 s) {i : Nat} {e : hp_E} {s2 : st_T} (ht : tg i < 99) (e2 : s2.2.2.2.1 = s.2.2.2.1) (e3 : ∀ i, tg i = 15 → s2.2.1 i 0 = s.2.1 i 0) : isf tg r h0 (hp_w h (r i) e) s0 s2 :=
  ⟨fun q hq => by rw [hp_w_ne (fun z => hq i ht z.symm)]; exact F.1 q hq, e2.trans F.2.1, fun j hj => (e3 j hj).trans (F.2.2 j hj)⟩
theorem u2_o {α : Type} {f : Nat → Nat → α} {i k j : Nat} {v : α} (h : j ≠ i) : u2 f i k v j = f j := by funext b; simp [u2, h]
theorem u2_s {α : Type} {f : Nat → Nat → α} {i k b : Nat} {v : α} : u2 f i k v i b = if b = k then v else f i b := by simp [u2]
theorem t_pI (I : iso tg r h s) (F : isf tg r h0 h s0 s) {i c k : Nat} {v : Int32} (ht : tg i = 10 + c) (hc : c < 12) (hk : k < nf c) (hf : ftag c k = 99) : ∃ h2, hp_pF h c (r i) k (.int v) = some h2 ∧ iso tg r h2 (uF s i k v) ∧ isf tg r h0 h2 s0 (uF s i k v) := by
  obtain ⟨V, h1, h2⟩ := I.2.2.1 i c ht hc
  refine ⟨_, by simp [hp_pF, h1]; rfl, I.obj ht hc (fun j hj => ?_) (fun j hj => ⟨u2_o hj, rfl⟩) rfl (fun j hj hq => I.2.2.2.2 i c j ht hc hj hq), F.wr (by omega) rfl (fun _ _ => rfl)⟩
  show updV V k (.int v) j = if ftag c j = 99 then .int (u2 s.1 i k v i j) else .ref (r (s.2.1 i j))
  rw [u2_s]
  by_cases q : j = k
  · subst q; simp [updV, hf]
  · simp [updV, q, h2 j hj]
theorem t_pR (I : iso tg r h s) (F : isf tg r h0 h s0 s) {i c k q0 t : Nat} (hck : c ≠ 5 ∨ k ≠ 0) (ht : tg i = 10 + c) (hc : c < 12) (hk : k < nf c) (hf : ftag c k = t) (h9 : t ≠ 99) (hq : tg q0 = t) : ∃ h2, hp_pF h c (r i) k (.ref (r q0)) = some h2 ∧ iso tg r h2 (uP s i k q0) ∧ isf tg r h0 h2 s0 (uP s i k q0) := by
  obtain ⟨V, h1, h2⟩ := I.2.2.1 i c ht hc
  refine ⟨_, by simp [hp_pF, h1]; rfl, I.obj ht hc (fun j hj => ?_) (fun j hj => ⟨rfl, u2_o hj⟩) rfl (fun j hj hq2 => ?_), F.wr (by omega) rfl (fun j hj => ?_)⟩
  · show updV V k (.ref (r q0)) j = if ftag c j = 99 then .int (s.1 i j) else .ref (r (u2 s.2.1 i k q0 i j))
    rw [u2_s]
    by_cases q : j = k
    · subst q; simp [updV, hf, h9]
    · simp [updV, q, h2 j hj]
  · show tg (u2 s.2.1 i k q0 i j) = ftag c j
    rw [u2_s]
    by_cases q : j = k
    · subst q; simp [hq, hf]
    · simp only [q, if_false]; exact I.2.2.2.2 i c j ht hc hj hq2
  · show u2 s.2.1 i k q0 j 0 = s.2.1 j 0
    unfold u2
    by_cases q : j = i
    · subst q
      have : c = 5 := by omega
      have hk0 : (0 : Nat) ≠ k := by omega
      simp [hk0]
    · simp [q]
theorem t_wF (I : iso tg r h s) (F : isf tg r h0 h s0 s) {i c k : Nat} {v : Int32} {s2 : st_T} (ht : tg i = 10 + c) (hc : c < 12) (hk : k < nf c) (hf : ftag c k = 99) (e : wF s i k v = some s2) : ∃ h2, hp_pF h c (r i) k (.int v) = some h2 ∧ iso tg r h2 s2 ∧ isf tg r h0 h2 s0 s2 := by
  have e2 := Option.some.inj e
  subst e2
  exact t_pI I F ht hc hk hf
theorem t_wP (I : iso tg r h s) (F : isf tg r h0 h s0 s) {i c k q0 t : Nat} {s2 : st_T} (hck : c ≠ 5 ∨ k ≠ 0) (ht : tg i = 10 + c) (hc : c < 12) (hk : k < nf c) (hf : ftag c k = t) (h9 : t ≠ 99) (hq : tg q0 = t) (e : wP s i k q0 = some s2) : ∃ h2, hp_pF h c (r i) k (.ref (r q0)) = some h2 ∧ iso tg r h2 s2 ∧ isf tg r h0 h2 s0 s2 := by
  have e2 := Option.some.inj e
  subst e2
  exact t_pR I F hck ht hc hk hf h9 hq
theorem upd_u2 {f : Nat → Nat → Int32} {i k : Nat} {v : Int32} : upd (f i) k v = u2 f i k v i := by funext b; simp [upd, u2]
theorem updL_u2 {f : Nat → Nat → Int64} {i k : Nat} {v : Int64} : vp_updL (f i) k v = u2 f i k v i := by funext b; simp [vp_updL, u2]
/-- one int-like array's cell is written -/
theorem iso.arr (I : iso tg r h s) {i : Nat} {f : Nat → Int32} {s2 : st_T} (ht : tg i < 5 ∧ tg i ≠ 3) (hf : s2.2.2.1 i = f) (e1 : s2.1 = s.1 ∧ s2.2.1 = s.2.1) (e2 : s2.2.2.2 = s.2.2.2) (e3 : ∀ j, j ≠ i → s2.2.2.1 j = s.2.2.1 j) : iso tg r (hp_w h (r i) (.inl (kd (tg i), s.2.2.2.1 i, f))) s2 := by
  obtain ⟨I1, I2, I3, I4, I5⟩ := I
  have ap : ∀ j, tg j < 99 → j ≠ i → r j ≠ r i := fun j hj hne q => hne (I4 j i hj (by omega) q)
  refine ⟨fun j hj => ?_, fun j hj => ?_, fun j c2 hj hc2 => ?_, I4, fun j c2 k hj hc2 hk hq => ?_⟩
  · by_cases q : j = i
    · subst q; rw [hp_w_self, e2, hf]
    · rw [hp_w_ne (ap j (by omega) q), e2, e3 j q]; exact I1 j hj
  · rw [hp_w_ne (ap j (by omega) (fun q => by subst q; omega)), e2]; exact I2 j hj
  · obtain ⟨V2, h1, h2⟩ := I3 j c2 hj hc2
    refine ⟨V2, by rw [hp_w_ne (ap j (by omega) (fun q => by subst q; omega))]; exact h1, fun k hk => ?_⟩
    rw [e1.1, e1.2]; exact h2 k hk
  · rw [e1.2]; exact I5 j c2 k hj hc2 hk hq
theorem t_sI (I : iso tg r h s) (F : isf tg r h0 h s0 s) {i t : Nat} {t2 : Nat} {j x : Int32} {s2 : st_T} (ht : tg i = t) (h3 : t < 5 ∧ t ≠ 3) (hk : kd t = t2) (e : uA t2 s i j x = some s2) : ∃ h2, hp_sI h t2 (r i) j x = some h2 ∧ iso tg r h2 s2 ∧ isf tg r h0 h2 s0 s2 := by
  subst ht; subst hk
  unfold uA at e
  split at e
  · rename_i hc
    have e2 := Option.some.inj e
    subst e2
    refine ⟨_, by simp [hp_sI, I.1 i h3, hc] <;> rfl, I.arr h3 upd_u2.symm ⟨rfl, rfl⟩ rfl (fun j hj => u2_o hj), F.wr (by omega) rfl (fun _ _ => rfl)⟩
  · cases e
theorem t_cp (I : iso tg r h s) (F : isf tg r h0 h s0 s) {i j : Nat} {t1 t2 : Nat} {sp dp n : Int32} {s2 : st_T} (hi : tg i = t1) (hj : tg j = t2) (h1 : (t1 < 5 ∧ t1 ≠ 3) ∧ kd t1 = 0) (h4 : (t2 < 5 ∧ t2 ≠ 3) ∧ kd t2 = 0) (e : uC s i sp j dp n = some s2) : ∃ h2, hp_cp h (r i) sp (r j) dp n = some h2 ∧ iso tg r h2 s2 ∧ isf tg r h0 h2 s0 s2 := by
  unfold uC at e
  split at e
  · rename_i hc
    have e2 := Option.some.inj e
    subst e2
    subst hi
    subst hj
    have g1 := I.1 i h1.1
    have g2 := I.1 j h4.1
    rw [h1.2] at g1
    rw [h4.2] at g2
    have A := I.arr (i := j) (f := va_cpy (s.2.2.1 i) (s.2.2.1 j) sp.toNatClampNeg dp.toNatClampNeg n.toNatClampNeg) (s2 := (s.1, s.2.1, (fun a => if a = j then va_cpy (s.2.2.1 i) (s.2.2.1 j) sp.toNatClampNeg dp.toNatClampNeg n.toNatClampNeg else s.2.2.1 a), s.2.2.2)) h4.1 (by simp) ⟨rfl, rfl⟩ rfl (fun a ha => by simp [ha])
    rw [h4.2] at A
    exact ⟨_, by simp [hp_cp, g1, g2, hc] <;> rfl, A, F.wr (by omega) rfl (fun _ _ => rfl)⟩
  · cases e
theorem t_sJ (I : iso tg r h s) (F : isf tg r h0 h s0 s) {i : Nat} {j : Int32} {x : Int64} {s2 : st_T} (ht : tg i = 3) (e : uJ s i j x = some s2) : ∃ h2, hp_sJ h (r i) j x = some h2 ∧ iso tg r h2 s2 ∧ isf tg r h0 h2 s0 s2 := by
  unfold uJ at e
  split at e
  · rename_i hc
    have e2 := Option.some.inj e
    subst e2
    refine ⟨_, by simp [hp_sJ, I.2.1 i ht, hc] <;> rfl, ?_, F.wr (by omega) rfl (fun _ _ => rfl)⟩
    obtain ⟨I1, I2, I3, I4, I5⟩ := I
    have ap : ∀ j, tg j < 99 → j ≠ i → r j ≠ r i := fun j hj hne q => hne (I4 j i hj (by omega) q)
    refine ⟨fun j hj => ?_, fun j hj => ?_, fun j c2 hj hc2 => ?_, I4, I5⟩
    · rw [hp_w_ne (ap j (by omega) (fun q => by subst q; omega))]; exact I1 j hj
    · by_cases q : j = i
      · subst q; rw [hp_w_self, updL_u2]
      · rw [hp_w_ne (ap j (by omega) q)]
        show h (r j) = some (Sum.inr (Sum.inl (s.2.2.2.1 j, u2 s.2.2.2.2 i _ x j)))
        rw [u2_o q]; exact I2 j hj
    · obtain ⟨V2, h1, h2⟩ := I3 j c2 hj hc2
      exact ⟨V2, by rw [hp_w_ne (ap j (by omega) (fun q => by subst q; omega))]; exact h1, h2⟩
  · cases e
end ISO
