/-- both systems stand in one heap: the class's object at x, the reference's at m -/
def LW (tC tM : Nat → Nat) (c1 c2 x m : Nat) (h : hp_H) (sz sl : Nat) (sC sM : st_T) : Prop :=
  ∃ rC rM : Nat → Nat, iz tC rC h sz c1 c2 rC h sC sz sl ∧ iso tM rM h sM ∧ (∀ j, tM j < 99 → rM j < sz) ∧ (∀ i j, tC i < 99 → tM j < 99 → rC i ≠ rM j) ∧ rC 0 = x ∧ rM 0 = m ∧ tC 0 = 20 ∧ tM 0 = 21
theorem iso.kept {tg r : Nat → Nat} {h h2 : hp_H} {s : st_T} (I : iso tg r h s) (e : ∀ j, tg j < 99 → h2 (r j) = h (r j)) : iso tg r h2 s := by
  obtain ⟨I1, I2, I3, I4, I5⟩ := I
  refine ⟨fun i hi => by rw [e i (by omega)]; exact I1 i hi, fun i hi => by rw [e i (by omega)]; exact I2 i hi, fun i c hi hc => ?_, I4, I5⟩
  obtain ⟨V, h1, h3⟩ := I3 i c hi hc
  exact ⟨V, by rw [e i (by omega)]; exact h1, h3⟩
theorem LW_cls {tC tM : Nat → Nat} {c1 c2 x m : Nat} {h h2 : hp_H} {sz sl sz2 sl2 : Nat} {sC2 sM : st_T} {rC rM r3 : Nat → Nat} (Z : iz tC rC h sz c1 c2 r3 h2 sC2 sz2 sl2) (I : iso tM rM h sM) (hM : ∀ j, tM j < 99 → rM j < sz) (hd : ∀ i j, tC i < 99 → tM j < 99 → rC i ≠ rM j) (h0 : rC 0 = x ∧ rM 0 = m ∧ tC 0 = 20 ∧ tM 0 = 21) : LW tC tM c1 c2 x m h2 sz2 sl2 sC2 sM := by
  obtain ⟨Z1, Z2, Z3, Z4, Z5, Z6, Z7, Z8, Z9⟩ := Z
  refine ⟨r3, rM, ⟨Z1, fun _ _ => rfl, Z3, fun _ _ _ => rfl, Nat.le_refl _, fun _ _ => Or.inl rfl, Z7, Z8, Z9⟩, I.kept (fun j hj => Z4 (rM j) (hM j hj) (fun i hi => hd i j hi hj)), fun j hj => Nat.lt_of_lt_of_le (hM j hj) Z5, fun i j hi hj q => ?_, (Z2 0 (by omega)).trans h0.1, h0.2.1, h0.2.2.1, h0.2.2.2⟩
  rcases Z6 i hi with e | e
  · exact hd i j hi hj (e.symm.trans q)
  · have := hM j hj
    omega
theorem LW_ref {tC tM : Nat → Nat} {c1 c2 x m : Nat} {h h2 : hp_H} {sz sl : Nat} {sC sM sM2 : st_T} {rC rM : Nat → Nat} (Z : iz tC rC h sz c1 c2 rC h sC sz sl) (I : iso tM rM h2 sM2) (F : isf tM rM h h2 sM sM2) (hM : ∀ j, tM j < 99 → rM j < sz) (hd : ∀ i j, tC i < 99 → tM j < 99 → rC i ≠ rM j) (h0 : rC 0 = x ∧ rM 0 = m ∧ tC 0 = 20 ∧ tM 0 = 21) : LW tC tM c1 c2 x m h2 sz sl sC sM2 := by
  obtain ⟨Z1, Z2, Z3, Z4, Z5, Z6, Z7, Z8, Z9⟩ := Z
  exact ⟨rC, rM, ⟨Z1.kept (fun i hi => F.1 (rC i) (fun j hj q => hd i j hi hj q.symm)), Z2, Z3, fun _ _ _ => rfl, Z5, Z6, Z7, Z8, Z9⟩, I, hM, hd, h0⟩
theorem Lc_feed {tC tM : Nat → Nat} {c1 c2 x m : Nat} {h : hp_H} {sz sl : Nat} {sC sM : st_T} {n : Nat} {a0 : Int64} {a1 : Int64} {q : Int32} {s2 : st_T} (hW : LW tC tM c1 c2 x m h sz sl sC sM) (e : g_X10_feed n 0 a0 a1 sC = some (q, s2)) : ∃ h2, f_X10_feed n x a0 a1 h = some (q, h2) ∧ LW tC tM c1 c2 x m h2 sz sl s2 sM := by
  obtain ⟨rC, rM, Z, I, hM, hd, e1, e2, e3, e4⟩ := hW
  obtain ⟨h2, e5, I2, F2⟩ := t_X10_feed Z.1 isf.rf e3 e
  rw [e1] at e5
  exact ⟨h2, e5, LW_cls (sl := sl) (Z.step I2 F2) I hM hd ⟨e1, e2, e3, e4⟩⟩
theorem Lm_feed {tC tM : Nat → Nat} {c1 c2 x m : Nat} {h : hp_H} {sz sl : Nat} {sC sM : st_T} {n : Nat} {a0 : Int64} {a1 : Int64} {q : Int32} {s2 : st_T} (hW : LW tC tM c1 c2 x m h sz sl sC sM) (e : g_X11_feed n 0 a0 a1 sM = some (q, s2)) : ∃ h2, f_X11_feed n m a0 a1 h = some (q, h2) ∧ LW tC tM c1 c2 x m h2 sz sl sC s2 := by
  obtain ⟨rC, rM, Z, I, hM, hd, e1, e2, e3, e4⟩ := hW
  obtain ⟨h2, e5, I2, F2⟩ := t_X11_feed I isf.rf e4 e
  rw [e2] at e5
  exact ⟨h2, e5, LW_ref Z I2 F2 hM hd ⟨e1, e2, e3, e4⟩⟩
theorem Lc_read {tC tM : Nat → Nat} {c1 c2 x m : Nat} {h : hp_H} {sz sl : Nat} {sC sM : st_T} {n : Nat} {q : Int32} {s2 : st_T} (hW : LW tC tM c1 c2 x m h sz sl sC sM) (e : g_X10_read n 0  sC = some (q, s2)) : ∃ h2 sz2 sl2, f_X10_read n x  h sz sl = some (q, h2, sz2, sl2) ∧ LW tC tM c1 c2 x m h2 sz2 sl2 s2 sM := by
  obtain ⟨rC, rM, Z, I, hM, hd, e1, e2, e3, e4⟩ := hW
  obtain ⟨h2, sz2, sl2, r3, e5, Z2⟩ := t2_X10_read Z e3 e
  rw [e1] at e5
  exact ⟨h2, sz2, sl2, e5, LW_cls (sl := sl) Z2 I hM hd ⟨e1, e2, e3, e4⟩⟩
theorem Lm_read {tC tM : Nat → Nat} {c1 c2 x m : Nat} {h : hp_H} {sz sl : Nat} {sC sM : st_T} {n : Nat} {q : Int32} {s2 : st_T} (hW : LW tC tM c1 c2 x m h sz sl sC sM) (e : g_X11_read n 0  sM = some (q, s2)) : ∃ h2, f_X11_read n m  h = some (q, h2) ∧ LW tC tM c1 c2 x m h2 sz sl sC s2 := by
  obtain ⟨rC, rM, Z, I, hM, hd, e1, e2, e3, e4⟩ := hW
  obtain ⟨h2, e5, I2, F2⟩ := t_X11_read I isf.rf e4 e
  rw [e2] at e5
  exact ⟨h2, e5, LW_ref Z I2 F2 hM hd ⟨e1, e2, e3, e4⟩⟩
theorem Lc_place {tC tM : Nat → Nat} {c1 c2 x m : Nat} {h : hp_H} {sz sl : Nat} {sC sM : st_T} {n : Nat} {q : Int32} (hW : LW tC tM c1 c2 x m h sz sl sC sM) (e : g_X10_place n 0  sC = some q) : f_X10_place n x  h = some q := by
  obtain ⟨rC, rM, Z, I, hM, hd, e1, e2, e3, e4⟩ := hW
  subst e1
  exact t_X10_place Z.1 e3 e
theorem Lm_place {tC tM : Nat → Nat} {c1 c2 x m : Nat} {h : hp_H} {sz sl : Nat} {sC sM : st_T} {n : Nat} {q : Int32} (hW : LW tC tM c1 c2 x m h sz sl sC sM) (e : g_X11_place n 0  sM = some q) : f_X11_place n m  h = some q := by
  obtain ⟨rC, rM, Z, I, hM, hd, e1, e2, e3, e4⟩ := hW
  subst e2
  exact t_X11_place I e4 e
theorem Lc_count {tC tM : Nat → Nat} {c1 c2 x m : Nat} {h : hp_H} {sz sl : Nat} {sC sM : st_T} {n : Nat} {a0 : Int32} {q : Int32} (hW : LW tC tM c1 c2 x m h sz sl sC sM) (e : g_X10_count n 0 a0 sC = some q) : f_X10_count n x a0 h = some q := by
  obtain ⟨rC, rM, Z, I, hM, hd, e1, e2, e3, e4⟩ := hW
  subst e1
  exact t_X10_count Z.1 e3 e
theorem Lm_count {tC tM : Nat → Nat} {c1 c2 x m : Nat} {h : hp_H} {sz sl : Nat} {sC sM : st_T} {n : Nat} {a0 : Int32} {q : Int32} (hW : LW tC tM c1 c2 x m h sz sl sC sM) (e : g_X11_count n 0 a0 sM = some q) : f_X11_count n m a0 h = some q := by
  obtain ⟨rC, rM, Z, I, hM, hd, e1, e2, e3, e4⟩ := hW
  subst e2
  exact t_X11_count I e4 e
theorem Lc_statement {tC tM : Nat → Nat} {c1 c2 x m : Nat} {h : hp_H} {sz sl : Nat} {sC sM : st_T} {n : Nat} {a0 : Int32} {a1 : Int32} {q : Int32} (hW : LW tC tM c1 c2 x m h sz sl sC sM) (e : g_X10_statement n 0 a0 a1 sC = some q) : f_X10_statement n x a0 a1 h = some q := by
  obtain ⟨rC, rM, Z, I, hM, hd, e1, e2, e3, e4⟩ := hW
  subst e1
  exact t_X10_statement Z.1 e3 e
theorem Lm_statement {tC tM : Nat → Nat} {c1 c2 x m : Nat} {h : hp_H} {sz sl : Nat} {sC sM : st_T} {n : Nat} {a0 : Int32} {a1 : Int32} {q : Int32} (hW : LW tC tM c1 c2 x m h sz sl sC sM) (e : g_X11_statement n 0 a0 a1 sM = some q) : f_X11_statement n m a0 a1 h = some q := by
  obtain ⟨rC, rM, Z, I, hM, hd, e1, e2, e3, e4⟩ := hW
  subst e2
  exact t_X11_statement I e4 e
theorem Lc_symbol {tC tM : Nat → Nat} {c1 c2 x m : Nat} {h : hp_H} {sz sl : Nat} {sC sM : st_T} {n : Nat} {a0 : Int32} {a1 : Int32} {q : Int32} (hW : LW tC tM c1 c2 x m h sz sl sC sM) (e : g_X10_symbol n 0 a0 a1 sC = some q) : f_X10_symbol n x a0 a1 h = some q := by
  obtain ⟨rC, rM, Z, I, hM, hd, e1, e2, e3, e4⟩ := hW
  subst e1
  exact t_X10_symbol Z.1 e3 e
theorem Lm_symbol {tC tM : Nat → Nat} {c1 c2 x m : Nat} {h : hp_H} {sz sl : Nat} {sC sM : st_T} {n : Nat} {a0 : Int32} {a1 : Int32} {q : Int32} (hW : LW tC tM c1 c2 x m h sz sl sC sM) (e : g_X11_symbol n 0 a0 a1 sM = some q) : f_X11_symbol n m a0 a1 h = some q := by
  obtain ⟨rC, rM, Z, I, hM, hd, e1, e2, e3, e4⟩ := hW
  subst e2
  exact t_X11_symbol I e4 e
theorem Lc_name {tC tM : Nat → Nat} {c1 c2 x m : Nat} {h : hp_H} {sz sl : Nat} {sC sM : st_T} {n : Nat} {a0 : Int32} {a1 : Int32} {a2 : Int32} {q : Int32} (hW : LW tC tM c1 c2 x m h sz sl sC sM) (e : g_X10_name n 0 a0 a1 a2 sC = some q) : f_X10_name n x a0 a1 a2 h = some q := by
  obtain ⟨rC, rM, Z, I, hM, hd, e1, e2, e3, e4⟩ := hW
  subst e1
  exact t_X10_name Z.1 e3 e
theorem Lm_name {tC tM : Nat → Nat} {c1 c2 x m : Nat} {h : hp_H} {sz sl : Nat} {sC sM : st_T} {n : Nat} {a0 : Int32} {a1 : Int32} {a2 : Int32} {q : Int32} (hW : LW tC tM c1 c2 x m h sz sl sC sM) (e : g_X11_name n 0 a0 a1 a2 sM = some q) : f_X11_name n m a0 a1 a2 h = some q := by
  obtain ⟨rC, rM, Z, I, hM, hd, e1, e2, e3, e4⟩ := hW
  subst e2
  exact t_X11_name I e4 e
theorem Lc_frame {tC tM : Nat → Nat} {c1 c2 x m : Nat} {h : hp_H} {sz sl : Nat} {sC sM : st_T} {n : Nat} {a0 : Int32} {a1 : Int32} {a2 : Int32} {q : Int32} (hW : LW tC tM c1 c2 x m h sz sl sC sM) (e : g_X10_frame n 0 a0 a1 a2 sC = some q) : f_X10_frame n x a0 a1 a2 h = some q := by
  obtain ⟨rC, rM, Z, I, hM, hd, e1, e2, e3, e4⟩ := hW
  subst e1
  exact t_X10_frame Z.1 e3 e
theorem Lm_frame {tC tM : Nat → Nat} {c1 c2 x m : Nat} {h : hp_H} {sz sl : Nat} {sC sM : st_T} {n : Nat} {a0 : Int32} {a1 : Int32} {a2 : Int32} {q : Int32} (hW : LW tC tM c1 c2 x m h sz sl sC sM) (e : g_X11_frame n 0 a0 a1 a2 sM = some q) : f_X11_frame n m a0 a1 a2 h = some q := by
  obtain ⟨rC, rM, Z, I, hM, hd, e1, e2, e3, e4⟩ := hW
  subst e2
  exact t_X11_frame I e4 e
theorem Lc_check {tC tM : Nat → Nat} {c1 c2 x m : Nat} {h : hp_H} {sz sl : Nat} {sC sM : st_T} {n : Nat} {a0 : Int32} {q : Int32} {s2 : st_T} (hW : LW tC tM c1 c2 x m h sz sl sC sM) (e : g_X10_check n 0 a0 sC = some (q, s2)) : ∃ h2 sz2 sl2, f_X10_check n x a0 h sz sl = some (q, h2, sz2, sl2) ∧ LW tC tM c1 c2 x m h2 sz2 sl2 s2 sM := by
  obtain ⟨rC, rM, Z, I, hM, hd, e1, e2, e3, e4⟩ := hW
  obtain ⟨h2, sz2, sl2, r3, e5, Z2⟩ := t2_X10_check Z e3 e
  rw [e1] at e5
  exact ⟨h2, sz2, sl2, e5, LW_cls (sl := sl) Z2 I hM hd ⟨e1, e2, e3, e4⟩⟩
theorem Lm_check {tC tM : Nat → Nat} {c1 c2 x m : Nat} {h : hp_H} {sz sl : Nat} {sC sM : st_T} {n : Nat} {a0 : Int32} {q : Int32} {s2 : st_T} (hW : LW tC tM c1 c2 x m h sz sl sC sM) (e : g_X11_check n 0 a0 sM = some (q, s2)) : ∃ h2, f_X11_check n m a0 h = some (q, h2) ∧ LW tC tM c1 c2 x m h2 sz sl sC s2 := by
  obtain ⟨rC, rM, Z, I, hM, hd, e1, e2, e3, e4⟩ := hW
  obtain ⟨h2, e5, I2, F2⟩ := t_X11_check I isf.rf e4 e
  rw [e2] at e5
  exact ⟨h2, e5, LW_ref Z I2 F2 hM hd ⟨e1, e2, e3, e4⟩⟩
theorem Lc_step {tC tM : Nat → Nat} {c1 c2 x m : Nat} {h : hp_H} {sz sl : Nat} {sC sM : st_T} {n : Nat} {q : Int32} (hW : LW tC tM c1 c2 x m h sz sl sC sM) (e : g_X10_step n 0  sC = some q) : f_X10_step n x  h = some q := by
  obtain ⟨rC, rM, Z, I, hM, hd, e1, e2, e3, e4⟩ := hW
  subst e1
  exact t_X10_step Z.1 e3 e
theorem Lm_step {tC tM : Nat → Nat} {c1 c2 x m : Nat} {h : hp_H} {sz sl : Nat} {sC sM : st_T} {n : Nat} {q : Int32} (hW : LW tC tM c1 c2 x m h sz sl sC sM) (e : g_X11_step n 0  sM = some q) : f_X11_step n m  h = some q := by
  obtain ⟨rC, rM, Z, I, hM, hd, e1, e2, e3, e4⟩ := hW
  subst e2
  exact t_X11_step I e4 e
theorem Lc_trace {tC tM : Nat → Nat} {c1 c2 x m : Nat} {h : hp_H} {sz sl : Nat} {sC sM : st_T} {n : Nat} {a0 : Int32} {a1 : Int32} {q : Int32} {s2 : st_T} (hW : LW tC tM c1 c2 x m h sz sl sC sM) (e : g_X10_trace n 0 a0 a1 sC = some (q, s2)) : ∃ h2 sz2 sl2, f_X10_trace n x a0 a1 h sz sl = some (q, h2, sz2, sl2) ∧ LW tC tM c1 c2 x m h2 sz2 sl2 s2 sM := by
  obtain ⟨rC, rM, Z, I, hM, hd, e1, e2, e3, e4⟩ := hW
  obtain ⟨h2, sz2, sl2, r3, e5, Z2⟩ := t2_X10_trace Z e3 e
  rw [e1] at e5
  exact ⟨h2, sz2, sl2, e5, LW_cls (sl := sl) Z2 I hM hd ⟨e1, e2, e3, e4⟩⟩
theorem Lm_trace {tC tM : Nat → Nat} {c1 c2 x m : Nat} {h : hp_H} {sz sl : Nat} {sC sM : st_T} {n : Nat} {a0 : Int32} {a1 : Int32} {q : Int32} {s2 : st_T} (hW : LW tC tM c1 c2 x m h sz sl sC sM) (e : g_X11_trace n 0 a0 a1 sM = some (q, s2)) : ∃ h2, f_X11_trace n m a0 a1 h = some (q, h2) ∧ LW tC tM c1 c2 x m h2 sz sl sC s2 := by
  obtain ⟨rC, rM, Z, I, hM, hd, e1, e2, e3, e4⟩ := hW
  obtain ⟨h2, e5, I2, F2⟩ := t_X11_trace I isf.rf e4 e
  rw [e2] at e5
  exact ⟨h2, e5, LW_ref Z I2 F2 hM hd ⟨e1, e2, e3, e4⟩⟩
theorem Lc_thing {tC tM : Nat → Nat} {c1 c2 x m : Nat} {h : hp_H} {sz sl : Nat} {sC sM : st_T} {n : Nat} {a0 : Int32} {a1 : Int32} {q : Int32} (hW : LW tC tM c1 c2 x m h sz sl sC sM) (e : g_X10_thing n 0 a0 a1 sC = some q) : f_X10_thing n x a0 a1 h = some q := by
  obtain ⟨rC, rM, Z, I, hM, hd, e1, e2, e3, e4⟩ := hW
  subst e1
  exact t_X10_thing Z.1 e3 e
theorem Lm_thing {tC tM : Nat → Nat} {c1 c2 x m : Nat} {h : hp_H} {sz sl : Nat} {sC sM : st_T} {n : Nat} {a0 : Int32} {a1 : Int32} {q : Int32} (hW : LW tC tM c1 c2 x m h sz sl sC sM) (e : g_X11_thing_ n 0 a0 a1 sM = some q) : f_X11_thing_ n m a0 a1 h = some q := by
  obtain ⟨rC, rM, Z, I, hM, hd, e1, e2, e3, e4⟩ := hW
  subst e2
  exact t_X11_thing_ I e4 e
theorem Lc_tell {tC tM : Nat → Nat} {c1 c2 x m : Nat} {h : hp_H} {sz sl : Nat} {sC sM : st_T} {n : Nat} {a0 : Int32} {a1 : Int32} {q : Int32} {s2 : st_T} (hW : LW tC tM c1 c2 x m h sz sl sC sM) (e : g_X10_tell n 0 a0 a1 sC = some (q, s2)) : ∃ h2 sz2 sl2, f_X10_tell n x a0 a1 h sz sl = some (q, h2, sz2, sl2) ∧ LW tC tM c1 c2 x m h2 sz2 sl2 s2 sM := by
  obtain ⟨rC, rM, Z, I, hM, hd, e1, e2, e3, e4⟩ := hW
  obtain ⟨h2, sz2, sl2, r3, e5, Z2⟩ := t2_X10_tell Z e3 e
  rw [e1] at e5
  exact ⟨h2, sz2, sl2, e5, LW_cls (sl := sl) Z2 I hM hd ⟨e1, e2, e3, e4⟩⟩
theorem Lm_tell {tC tM : Nat → Nat} {c1 c2 x m : Nat} {h : hp_H} {sz sl : Nat} {sC sM : st_T} {n : Nat} {a0 : Int32} {a1 : Int32} {q : Int32} {s2 : st_T} (hW : LW tC tM c1 c2 x m h sz sl sC sM) (e : g_X11_tell n 0 a0 a1 sM = some (q, s2)) : ∃ h2, f_X11_tell n m a0 a1 h = some (q, h2) ∧ LW tC tM c1 c2 x m h2 sz sl sC s2 := by
  obtain ⟨rC, rM, Z, I, hM, hd, e1, e2, e3, e4⟩ := hW
  obtain ⟨h2, e5, I2, F2⟩ := t_X11_tell I isf.rf e4 e
  rw [e2] at e5
  exact ⟨h2, e5, LW_ref Z I2 F2 hM hd ⟨e1, e2, e3, e4⟩⟩
theorem Lc_print {tC tM : Nat → Nat} {c1 c2 x m : Nat} {h : hp_H} {sz sl : Nat} {sC sM : st_T} {n : Nat} {a0 : Int32} {q : Int32} {s2 : st_T} (hW : LW tC tM c1 c2 x m h sz sl sC sM) (e : g_X10_print n 0 a0 sC = some (q, s2)) : ∃ h2, f_X10_print n x a0 h = some (q, h2) ∧ LW tC tM c1 c2 x m h2 sz sl s2 sM := by
  obtain ⟨rC, rM, Z, I, hM, hd, e1, e2, e3, e4⟩ := hW
  obtain ⟨h2, e5, I2, F2⟩ := t_X10_print Z.1 isf.rf e3 e
  rw [e1] at e5
  exact ⟨h2, e5, LW_cls (sl := sl) (Z.step I2 F2) I hM hd ⟨e1, e2, e3, e4⟩⟩
theorem Lm_print {tC tM : Nat → Nat} {c1 c2 x m : Nat} {h : hp_H} {sz sl : Nat} {sC sM : st_T} {n : Nat} {a0 : Int32} {q : Int32} {s2 : st_T} (hW : LW tC tM c1 c2 x m h sz sl sC sM) (e : g_X11_print n 0 a0 sM = some (q, s2)) : ∃ h2, f_X11_print n m a0 h = some (q, h2) ∧ LW tC tM c1 c2 x m h2 sz sl sC s2 := by
  obtain ⟨rC, rM, Z, I, hM, hd, e1, e2, e3, e4⟩ := hW
  obtain ⟨h2, e5, I2, F2⟩ := t_X11_print I isf.rf e4 e
  rw [e2] at e5
  exact ⟨h2, e5, LW_ref Z I2 F2 hM hd ⟨e1, e2, e3, e4⟩⟩
theorem Lc_out {tC tM : Nat → Nat} {c1 c2 x m : Nat} {h : hp_H} {sz sl : Nat} {sC sM : st_T} {n : Nat} {a0 : Int32} {q : Int32} (hW : LW tC tM c1 c2 x m h sz sl sC sM) (e : g_X10_out n 0 a0 sC = some q) : f_X10_out n x a0 h = some q := by
  obtain ⟨rC, rM, Z, I, hM, hd, e1, e2, e3, e4⟩ := hW
  subst e1
  exact t_X10_out Z.1 e3 e
theorem Lm_out {tC tM : Nat → Nat} {c1 c2 x m : Nat} {h : hp_H} {sz sl : Nat} {sC sM : st_T} {n : Nat} {a0 : Int32} {q : Int32} (hW : LW tC tM c1 c2 x m h sz sl sC sM) (e : g_X11_out n 0 a0 sM = some q) : f_X11_out n m a0 h = some q := by
  obtain ⟨rC, rM, Z, I, hM, hd, e1, e2, e3, e4⟩ := hW
  subst e2
  exact t_X11_out I e4 e
theorem Lc_rests {tC tM : Nat → Nat} {c1 c2 x m : Nat} {h : hp_H} {sz sl : Nat} {sC sM : st_T} {n : Nat} {a0 : Int32} {a1 : Int32} {q : Int32} (hW : LW tC tM c1 c2 x m h sz sl sC sM) (e : g_X10_rests n 0 a0 a1 sC = some q) : f_X10_rests n x a0 a1 h = some q := by
  obtain ⟨rC, rM, Z, I, hM, hd, e1, e2, e3, e4⟩ := hW
  subst e1
  exact t_X10_rests Z.1 e3 e
theorem Lm_rests {tC tM : Nat → Nat} {c1 c2 x m : Nat} {h : hp_H} {sz sl : Nat} {sC sM : st_T} {n : Nat} {a0 : Int32} {a1 : Int32} {q : Int32} {s2 : st_T} (hW : LW tC tM c1 c2 x m h sz sl sC sM) (e : g_X11_rests n 0 a0 a1 sM = some (q, s2)) : ∃ h2, f_X11_rests n m a0 a1 h = some (q, h2) ∧ LW tC tM c1 c2 x m h2 sz sl sC s2 := by
  obtain ⟨rC, rM, Z, I, hM, hd, e1, e2, e3, e4⟩ := hW
  obtain ⟨h2, e5, I2, F2⟩ := t_X11_rests I isf.rf e4 e
  rw [e2] at e5
  exact ⟨h2, e5, LW_ref Z I2 F2 hM hd ⟨e1, e2, e3, e4⟩⟩
theorem Lc_find {tC tM : Nat → Nat} {c1 c2 x m : Nat} {h : hp_H} {sz sl : Nat} {sC sM : st_T} {n : Nat} {q : Int32} {s2 : st_T} (hW : LW tC tM c1 c2 x m h sz sl sC sM) (e : g_X10_find n 0  sC = some (q, s2)) : ∃ h2, f_X10_find n x  h = some (q, h2) ∧ LW tC tM c1 c2 x m h2 sz sl s2 sM := by
  obtain ⟨rC, rM, Z, I, hM, hd, e1, e2, e3, e4⟩ := hW
  obtain ⟨h2, e5, I2, F2⟩ := t_X10_find Z.1 isf.rf e3 e
  rw [e1] at e5
  exact ⟨h2, e5, LW_cls (sl := sl) (Z.step I2 F2) I hM hd ⟨e1, e2, e3, e4⟩⟩
theorem Lm_find {tC tM : Nat → Nat} {c1 c2 x m : Nat} {h : hp_H} {sz sl : Nat} {sC sM : st_T} {n : Nat} {q : Int32} {s2 : st_T} (hW : LW tC tM c1 c2 x m h sz sl sC sM) (e : g_X11_find n 0  sM = some (q, s2)) : ∃ h2, f_X11_find n m  h = some (q, h2) ∧ LW tC tM c1 c2 x m h2 sz sl sC s2 := by
  obtain ⟨rC, rM, Z, I, hM, hd, e1, e2, e3, e4⟩ := hW
  obtain ⟨h2, e5, I2, F2⟩ := t_X11_find I isf.rf e4 e
  rw [e2] at e5
  exact ⟨h2, e5, LW_ref Z I2 F2 hM hd ⟨e1, e2, e3, e4⟩⟩
/-! what each call must do with a relation between the two states -/
def Ok_feed (Rel : st_T → st_T → Prop) : Prop := ∀ (n : Nat), 100000 ≤ n → ∀ (sC sM : st_T), Rel sC sM → ∀ (a0 : Int64) (a1 : Int64), ∃ (q : Int32) (sC2 : st_T) (sM2 : st_T), g_X10_feed n 0 a0 a1 sC = some (q, sC2) ∧ g_X11_feed n 0 a0 a1 sM = some (q, sM2) ∧ Rel sC2 sM2
def Ok_read (Rel : st_T → st_T → Prop) : Prop := ∀ (n : Nat), 100000 ≤ n → ∀ (sC sM : st_T), Rel sC sM → ∀ (_ : Unit), ∃ (q : Int32) (sC2 : st_T) (sM2 : st_T), g_X10_read n 0  sC = some (q, sC2) ∧ g_X11_read n 0  sM = some (q, sM2) ∧ Rel sC2 sM2
def Ok_place (Rel : st_T → st_T → Prop) : Prop := ∀ (n : Nat), 100000 ≤ n → ∀ (sC sM : st_T), Rel sC sM → ∀ (_ : Unit), ∃ (q : Int32), g_X10_place n 0  sC = some q ∧ g_X11_place n 0  sM = some q ∧ Rel sC sM
def Ok_count (Rel : st_T → st_T → Prop) : Prop := ∀ (n : Nat), 100000 ≤ n → ∀ (sC sM : st_T), Rel sC sM → ∀ (a0 : Int32), ∃ (q : Int32), g_X10_count n 0 a0 sC = some q ∧ g_X11_count n 0 a0 sM = some q ∧ Rel sC sM
def Ok_statement (Rel : st_T → st_T → Prop) : Prop := ∀ (n : Nat), 100000 ≤ n → ∀ (sC sM : st_T), Rel sC sM → ∀ (a0 : Int32) (a1 : Int32), ∃ (q : Int32), g_X10_statement n 0 a0 a1 sC = some q ∧ g_X11_statement n 0 a0 a1 sM = some q ∧ Rel sC sM
def Ok_symbol (Rel : st_T → st_T → Prop) : Prop := ∀ (n : Nat), 100000 ≤ n → ∀ (sC sM : st_T), Rel sC sM → ∀ (a0 : Int32) (a1 : Int32), ∃ (q : Int32), g_X10_symbol n 0 a0 a1 sC = some q ∧ g_X11_symbol n 0 a0 a1 sM = some q ∧ Rel sC sM
def Ok_name (Rel : st_T → st_T → Prop) : Prop := ∀ (n : Nat), 100000 ≤ n → ∀ (sC sM : st_T), Rel sC sM → ∀ (a0 : Int32) (a1 : Int32) (a2 : Int32), ∃ (q : Int32), g_X10_name n 0 a0 a1 a2 sC = some q ∧ g_X11_name n 0 a0 a1 a2 sM = some q ∧ Rel sC sM
def Ok_frame (Rel : st_T → st_T → Prop) : Prop := ∀ (n : Nat), 100000 ≤ n → ∀ (sC sM : st_T), Rel sC sM → ∀ (a0 : Int32) (a1 : Int32) (a2 : Int32), ∃ (q : Int32), g_X10_frame n 0 a0 a1 a2 sC = some q ∧ g_X11_frame n 0 a0 a1 a2 sM = some q ∧ Rel sC sM
def Ok_check (Rel : st_T → st_T → Prop) : Prop := ∀ (n : Nat), 100000 ≤ n → ∀ (sC sM : st_T), Rel sC sM → ∀ (a0 : Int32), ∃ (q : Int32) (sC2 : st_T) (sM2 : st_T), g_X10_check n 0 a0 sC = some (q, sC2) ∧ g_X11_check n 0 a0 sM = some (q, sM2) ∧ Rel sC2 sM2
def Ok_step (Rel : st_T → st_T → Prop) : Prop := ∀ (n : Nat), 100000 ≤ n → ∀ (sC sM : st_T), Rel sC sM → ∀ (_ : Unit), ∃ (q : Int32), g_X10_step n 0  sC = some q ∧ g_X11_step n 0  sM = some q ∧ Rel sC sM
def Ok_trace (Rel : st_T → st_T → Prop) : Prop := ∀ (n : Nat), 100000 ≤ n → ∀ (sC sM : st_T), Rel sC sM → ∀ (a0 : Int32) (a1 : Int32), ∃ (q : Int32) (sC2 : st_T) (sM2 : st_T), g_X10_trace n 0 a0 a1 sC = some (q, sC2) ∧ g_X11_trace n 0 a0 a1 sM = some (q, sM2) ∧ Rel sC2 sM2
def Ok_thing (Rel : st_T → st_T → Prop) : Prop := ∀ (n : Nat), 100000 ≤ n → ∀ (sC sM : st_T), Rel sC sM → ∀ (a0 : Int32) (a1 : Int32), ∃ (q : Int32), g_X10_thing n 0 a0 a1 sC = some q ∧ g_X11_thing_ n 0 a0 a1 sM = some q ∧ Rel sC sM
def Ok_tell (Rel : st_T → st_T → Prop) : Prop := ∀ (n : Nat), 100000 ≤ n → ∀ (sC sM : st_T), Rel sC sM → ∀ (a0 : Int32) (a1 : Int32), ∃ (q : Int32) (sC2 : st_T) (sM2 : st_T), g_X10_tell n 0 a0 a1 sC = some (q, sC2) ∧ g_X11_tell n 0 a0 a1 sM = some (q, sM2) ∧ Rel sC2 sM2
def Ok_print (Rel : st_T → st_T → Prop) : Prop := ∀ (n : Nat), 100000 ≤ n → ∀ (sC sM : st_T), Rel sC sM → ∀ (a0 : Int32), ∃ (q : Int32) (sC2 : st_T) (sM2 : st_T), g_X10_print n 0 a0 sC = some (q, sC2) ∧ g_X11_print n 0 a0 sM = some (q, sM2) ∧ Rel sC2 sM2
def Ok_out (Rel : st_T → st_T → Prop) : Prop := ∀ (n : Nat), 100000 ≤ n → ∀ (sC sM : st_T), Rel sC sM → ∀ (a0 : Int32), ∃ (q : Int32), g_X10_out n 0 a0 sC = some q ∧ g_X11_out n 0 a0 sM = some q ∧ Rel sC sM
def Ok_rests (Rel : st_T → st_T → Prop) : Prop := ∀ (n : Nat), 100000 ≤ n → ∀ (sC sM : st_T), Rel sC sM → ∀ (a0 : Int32) (a1 : Int32), ∃ (q : Int32) (sM2 : st_T), g_X10_rests n 0 a0 a1 sC = some q ∧ g_X11_rests n 0 a0 a1 sM = some (q, sM2) ∧ Rel sC sM2
def Ok_find (Rel : st_T → st_T → Prop) : Prop := ∀ (n : Nat), 100000 ≤ n → ∀ (sC sM : st_T), Rel sC sM → ∀ (_ : Unit), ∃ (q : Int32) (sC2 : st_T) (sM2 : st_T), g_X10_find n 0  sC = some (q, sC2) ∧ g_X11_find n 0  sM = some (q, sM2) ∧ Rel sC2 sM2
def OkAll (Rel : st_T → st_T → Prop) : Prop := Ok_feed Rel ∧ Ok_read Rel ∧ Ok_place Rel ∧ Ok_count Rel ∧ Ok_statement Rel ∧ Ok_symbol Rel ∧ Ok_name Rel ∧ Ok_frame Rel ∧ Ok_check Rel ∧ Ok_step Rel ∧ Ok_trace Rel ∧ Ok_thing Rel ∧ Ok_tell Rel ∧ Ok_print Rel ∧ Ok_out Rel ∧ Ok_rests Rel ∧ Ok_find Rel
theorem tr_eqL {α β : Type} {x : Option α} {a : α} {F : α → Option β} {D : β → Prop} (e : x = some a) (k : ∃ b, F a = some b ∧ D b) : ∃ b, x.bind F = some b ∧ D b := by rw [e]; exact k
theorem sc_ok {L : Nat} {xs : Nat → Int32} {q : Nat} (hq : q < L) (hL : L ≤ 2560) : hp_sc L xs (nI q) = some (xs q) := by
  unfold hp_sc
  rw [nI_toInt (by omega), if_pos ⟨by omega, by omega⟩, nI_clamp (by omega)]
theorem sc_off {L : Nat} {xs : Nat → Int32} {p : Nat} (k : Nat) (hq : p + k < L) (hL : L ≤ 2560) : hp_sc L xs (nI p + nI k) = some (xs (p + k)) := by
  rw [nI_add]; exact sc_ok hq hL
theorem sc_end {L p : Nat} (hL : L ≤ 2560) (hp : p ≤ 3000) : (Int32.ofNat L - (5 : Int32) < nI p) ↔ L < p + 5 := by
  rw [Int32.lt_iff_toInt_lt, show Int32.ofNat L - (5 : Int32) = nI L - nI 5 from rfl, pk_sub_toInt (by omega) (by omega), nI_toInt (by omega)]
  omega
set_option maxHeartbeats 4000000 in
set_option maxRecDepth 8000 in
theorem law_iter {Rel : st_T → st_T → Prop} (hOk : OkAll Rel) {tC tM : Nat → Nat} {c1 c2 x m n L : Nat} {xs : Nat → Int32} {b p : Nat} {h : hp_H} {sz sl : Nat} {sC sM : st_T} (hn : 100000 ≤ n) (hL : L ≤ 2560) (hp : p + 5 ≤ L) (hW : LW tC tM c1 c2 x m h sz sl sC sM) (hR : Rel sC sM) :
    ∃ r, f_L_law_18 n L xs b x m (nI p) h sz sl = some r ∧ ∃ h2 sz2 sl2 sC2 sM2, r = .inl (nI (p + 5), h2, sz2, sl2) ∧ LW tC tM c1 c2 x m h2 sz2 sl2 sC2 sM2 ∧ Rel sC2 sM2 := by
  obtain ⟨o_feed, o_read, o_place, o_count, o_statement, o_symbol, o_name, o_frame, o_check, o_step, o_trace, o_thing, o_tell, o_print, o_out, o_rests, o_find⟩ := hOk
  have s0 : hp_sc L xs (nI p) = some (xs p) := sc_ok (by omega) hL
  have s1 : hp_sc L xs (nI p + (1 : Int32)) = some (xs (p + 1)) := sc_off 1 (by omega) hL
  have s2 : hp_sc L xs (nI p + (2 : Int32)) = some (xs (p + 2)) := sc_off 2 (by omega) hL
  have s3 : hp_sc L xs (nI p + (3 : Int32)) = some (xs (p + 3)) := sc_off 3 (by omega) hL
  have s4 : hp_sc L xs (nI p + (4 : Int32)) = some (xs (p + 4)) := sc_off 4 (by omega) hL
  have e5 : nI p + (5 : Int32) = nI (p + 5) := nI_add p 5
  unfold f_L_law_18
  rw [if_neg (fun q => by have := (sc_end hL (by omega)).mp q; omega)]
  refine tr_eqL s0 ?_
  by_cases k0 : (xs p &&& (31 : Int32)) = (0 : Int32)
  · rw [if_pos k0]
    refine tr_eqL s1 ?_
    refine tr_eqL s2 ?_
    refine tr_eqL s3 ?_
    refine tr_eqL s4 ?_
    obtain ⟨q, sC2, sM2, g1, g2, hR2⟩ := o_feed n hn sC sM hR (((Int32.toInt64 (xs (p + 1))) <<< (Int32.toInt64 (32 : Int32) &&& 63)) ||| ((Int32.toInt64 (xs (p + 2))) &&& (4294967295 : Int64))) (((Int32.toInt64 (xs (p + 3))) <<< (Int32.toInt64 (32 : Int32) &&& 63)) ||| ((Int32.toInt64 (xs (p + 4))) &&& (4294967295 : Int64)))
    obtain ⟨h2, g3, hW2⟩ := Lc_feed hW g1
    refine tr_eqL g3 ?_
    dsimp only
    refine tr_eqL s1 ?_
    refine tr_eqL s2 ?_
    refine tr_eqL s3 ?_
    refine tr_eqL s4 ?_
    obtain ⟨h3, g4, hW3⟩ := Lm_feed hW2 g2
    refine tr_eqL g4 ?_
    dsimp only
    rw [if_pos rfl]
    unfold f_L_law_637
    rw [e5]
    exact ⟨_, rfl, _, _, _, _, _, rfl, hW3, hR2⟩
  rw [if_neg k0]
  by_cases k1 : (xs p &&& (31 : Int32)) = (1 : Int32)
  · rw [if_pos k1]
    obtain ⟨q, sC2, sM2, g1, g2, hR2⟩ := o_read n hn sC sM hR ()
    obtain ⟨h2, sz2, sl2, g3, hW2⟩ := Lc_read hW g1
    refine tr_eqL g3 ?_
    dsimp only
    unfold f_L_law_213
    obtain ⟨h3, g4, hW3⟩ := Lm_read hW2 g2
    refine tr_eqL g4 ?_
    dsimp only
    rw [if_pos rfl]
    unfold f_L_law_637
    rw [e5]
    exact ⟨_, rfl, _, _, _, _, _, rfl, hW3, hR2⟩
  rw [if_neg k1]
  by_cases k2 : (xs p &&& (31 : Int32)) = (2 : Int32)
  · rw [if_pos k2]
    obtain ⟨q, g1, g2, hR2⟩ := o_place n hn sC sM hR ()
    refine tr_eqL (Lc_place hW g1) ?_
    refine tr_eqL (Lm_place hW g2) ?_
    rw [if_pos rfl]
    unfold f_L_law_637
    rw [e5]
    exact ⟨_, rfl, _, _, _, _, _, rfl, hW, hR2⟩
  rw [if_neg k2]
  by_cases k3 : (xs p &&& (31 : Int32)) = (3 : Int32)
  · rw [if_pos k3]
    refine tr_eqL s1 ?_
    obtain ⟨q, g1, g2, hR2⟩ := o_count n hn sC sM hR (xs (p + 1))
    refine tr_eqL (Lc_count hW g1) ?_
    refine tr_eqL s1 ?_
    refine tr_eqL (Lm_count hW g2) ?_
    rw [if_pos rfl]
    unfold f_L_law_637
    rw [e5]
    exact ⟨_, rfl, _, _, _, _, _, rfl, hW, hR2⟩
  rw [if_neg k3]
  by_cases k4 : (xs p &&& (31 : Int32)) = (4 : Int32)
  · rw [if_pos k4]
    refine tr_eqL s1 ?_
    refine tr_eqL s2 ?_
    obtain ⟨q, g1, g2, hR2⟩ := o_statement n hn sC sM hR (xs (p + 1)) (xs (p + 2))
    refine tr_eqL (Lc_statement hW g1) ?_
    refine tr_eqL s1 ?_
    refine tr_eqL s2 ?_
    refine tr_eqL (Lm_statement hW g2) ?_
    rw [if_pos rfl]
    unfold f_L_law_637
    rw [e5]
    exact ⟨_, rfl, _, _, _, _, _, rfl, hW, hR2⟩
  rw [if_neg k4]
  by_cases k5 : (xs p &&& (31 : Int32)) = (5 : Int32)
  · rw [if_pos k5]
    refine tr_eqL s1 ?_
    refine tr_eqL s2 ?_
    obtain ⟨q, g1, g2, hR2⟩ := o_symbol n hn sC sM hR (xs (p + 1)) (xs (p + 2))
    refine tr_eqL (Lc_symbol hW g1) ?_
    refine tr_eqL s1 ?_
    refine tr_eqL s2 ?_
    refine tr_eqL (Lm_symbol hW g2) ?_
    rw [if_pos rfl]
    unfold f_L_law_637
    rw [e5]
    exact ⟨_, rfl, _, _, _, _, _, rfl, hW, hR2⟩
  rw [if_neg k5]
  by_cases k6 : (xs p &&& (31 : Int32)) = (6 : Int32)
  · rw [if_pos k6]
    refine tr_eqL s1 ?_
    refine tr_eqL s2 ?_
    refine tr_eqL s3 ?_
    obtain ⟨q, g1, g2, hR2⟩ := o_name n hn sC sM hR (xs (p + 1)) (xs (p + 2)) (xs (p + 3))
    refine tr_eqL (Lc_name hW g1) ?_
    refine tr_eqL s1 ?_
    refine tr_eqL s2 ?_
    refine tr_eqL s3 ?_
    refine tr_eqL (Lm_name hW g2) ?_
    rw [if_pos rfl]
    unfold f_L_law_637
    rw [e5]
    exact ⟨_, rfl, _, _, _, _, _, rfl, hW, hR2⟩
  rw [if_neg k6]
  by_cases k7 : (xs p &&& (31 : Int32)) = (7 : Int32)
  · rw [if_pos k7]
    refine tr_eqL s1 ?_
    refine tr_eqL s2 ?_
    refine tr_eqL s3 ?_
    obtain ⟨q, g1, g2, hR2⟩ := o_frame n hn sC sM hR (xs (p + 1)) (xs (p + 2)) (xs (p + 3))
    refine tr_eqL (Lc_frame hW g1) ?_
    refine tr_eqL s1 ?_
    refine tr_eqL s2 ?_
    refine tr_eqL s3 ?_
    refine tr_eqL (Lm_frame hW g2) ?_
    rw [if_pos rfl]
    unfold f_L_law_637
    rw [e5]
    exact ⟨_, rfl, _, _, _, _, _, rfl, hW, hR2⟩
  rw [if_neg k7]
  by_cases k8 : (xs p &&& (31 : Int32)) = (8 : Int32)
  · rw [if_pos k8]
    refine tr_eqL s1 ?_
    obtain ⟨q, sC2, sM2, g1, g2, hR2⟩ := o_check n hn sC sM hR (xs (p + 1))
    obtain ⟨h2, sz2, sl2, g3, hW2⟩ := Lc_check hW g1
    refine tr_eqL g3 ?_
    dsimp only
    unfold f_L_law_419
    refine tr_eqL s1 ?_
    obtain ⟨h3, g4, hW3⟩ := Lm_check hW2 g2
    refine tr_eqL g4 ?_
    dsimp only
    rw [if_pos rfl]
    unfold f_L_law_637
    rw [e5]
    exact ⟨_, rfl, _, _, _, _, _, rfl, hW3, hR2⟩
  rw [if_neg k8]
  by_cases k9 : (xs p &&& (31 : Int32)) = (9 : Int32)
  · rw [if_pos k9]
    obtain ⟨q, g1, g2, hR2⟩ := o_step n hn sC sM hR ()
    refine tr_eqL (Lc_step hW g1) ?_
    refine tr_eqL (Lm_step hW g2) ?_
    rw [if_pos rfl]
    unfold f_L_law_637
    rw [e5]
    exact ⟨_, rfl, _, _, _, _, _, rfl, hW, hR2⟩
  rw [if_neg k9]
  by_cases k10 : (xs p &&& (31 : Int32)) = (10 : Int32)
  · rw [if_pos k10]
    refine tr_eqL s1 ?_
    refine tr_eqL s2 ?_
    obtain ⟨q, sC2, sM2, g1, g2, hR2⟩ := o_trace n hn sC sM hR (xs (p + 1)) (xs (p + 2))
    obtain ⟨h2, sz2, sl2, g3, hW2⟩ := Lc_trace hW g1
    refine tr_eqL g3 ?_
    dsimp only
    unfold f_L_law_460
    refine tr_eqL s1 ?_
    refine tr_eqL s2 ?_
    obtain ⟨h3, g4, hW3⟩ := Lm_trace hW2 g2
    refine tr_eqL g4 ?_
    dsimp only
    rw [if_pos rfl]
    unfold f_L_law_637
    rw [e5]
    exact ⟨_, rfl, _, _, _, _, _, rfl, hW3, hR2⟩
  rw [if_neg k10]
  by_cases k11 : (xs p &&& (31 : Int32)) = (11 : Int32)
  · rw [if_pos k11]
    refine tr_eqL s1 ?_
    refine tr_eqL s2 ?_
    obtain ⟨q, g1, g2, hR2⟩ := o_thing n hn sC sM hR (xs (p + 1)) (xs (p + 2))
    refine tr_eqL (Lc_thing hW g1) ?_
    refine tr_eqL s1 ?_
    refine tr_eqL s2 ?_
    refine tr_eqL (Lm_thing hW g2) ?_
    rw [if_pos rfl]
    unfold f_L_law_637
    rw [e5]
    exact ⟨_, rfl, _, _, _, _, _, rfl, hW, hR2⟩
  rw [if_neg k11]
  by_cases k12 : (xs p &&& (31 : Int32)) = (12 : Int32)
  · rw [if_pos k12]
    refine tr_eqL s1 ?_
    refine tr_eqL s2 ?_
    obtain ⟨q, sC2, sM2, g1, g2, hR2⟩ := o_tell n hn sC sM hR (xs (p + 1)) (xs (p + 2))
    obtain ⟨h2, sz2, sl2, g3, hW2⟩ := Lc_tell hW g1
    refine tr_eqL g3 ?_
    dsimp only
    unfold f_L_law_526
    refine tr_eqL s1 ?_
    refine tr_eqL s2 ?_
    obtain ⟨h3, g4, hW3⟩ := Lm_tell hW2 g2
    refine tr_eqL g4 ?_
    dsimp only
    rw [if_pos rfl]
    unfold f_L_law_637
    rw [e5]
    exact ⟨_, rfl, _, _, _, _, _, rfl, hW3, hR2⟩
  rw [if_neg k12]
  by_cases k13 : (xs p &&& (31 : Int32)) = (13 : Int32)
  · rw [if_pos k13]
    refine tr_eqL s1 ?_
    obtain ⟨q, sC2, sM2, g1, g2, hR2⟩ := o_print n hn sC sM hR (xs (p + 1))
    obtain ⟨h2, g3, hW2⟩ := Lc_print hW g1
    refine tr_eqL g3 ?_
    dsimp only
    refine tr_eqL s1 ?_
    obtain ⟨h3, g4, hW3⟩ := Lm_print hW2 g2
    refine tr_eqL g4 ?_
    dsimp only
    rw [if_pos rfl]
    unfold f_L_law_637
    rw [e5]
    exact ⟨_, rfl, _, _, _, _, _, rfl, hW3, hR2⟩
  rw [if_neg k13]
  by_cases k14 : (xs p &&& (31 : Int32)) = (14 : Int32)
  · rw [if_pos k14]
    refine tr_eqL s1 ?_
    obtain ⟨q, g1, g2, hR2⟩ := o_out n hn sC sM hR (xs (p + 1))
    refine tr_eqL (Lc_out hW g1) ?_
    refine tr_eqL s1 ?_
    refine tr_eqL (Lm_out hW g2) ?_
    rw [if_pos rfl]
    unfold f_L_law_637
    rw [e5]
    exact ⟨_, rfl, _, _, _, _, _, rfl, hW, hR2⟩
  rw [if_neg k14]
  by_cases k15 : (xs p &&& (31 : Int32)) = (15 : Int32)
  · rw [if_pos k15]
    refine tr_eqL s1 ?_
    refine tr_eqL s2 ?_
    obtain ⟨q, sM2, g1, g2, hR2⟩ := o_rests n hn sC sM hR (xs (p + 1)) (xs (p + 2))
    refine tr_eqL (Lc_rests hW g1) ?_
    refine tr_eqL s1 ?_
    refine tr_eqL s2 ?_
    obtain ⟨h3, g4, hW3⟩ := Lm_rests hW g2
    refine tr_eqL g4 ?_
    dsimp only
    rw [if_pos rfl]
    unfold f_L_law_637
    rw [e5]
    exact ⟨_, rfl, _, _, _, _, _, rfl, hW3, hR2⟩
  rw [if_neg k15]
  by_cases k16 : (xs p &&& (31 : Int32)) = (16 : Int32)
  · rw [if_pos k16]
    obtain ⟨q, sC2, sM2, g1, g2, hR2⟩ := o_find n hn sC sM hR ()
    obtain ⟨h2, g3, hW2⟩ := Lc_find hW g1
    refine tr_eqL g3 ?_
    dsimp only
    obtain ⟨h3, g4, hW3⟩ := Lm_find hW2 g2
    refine tr_eqL g4 ?_
    dsimp only
    rw [if_pos rfl]
    unfold f_L_law_637
    rw [e5]
    exact ⟨_, rfl, _, _, _, _, _, rfl, hW3, hR2⟩
  rw [if_neg k16]
  unfold f_L_law_637
  rw [e5]
  exact ⟨_, rfl, _, _, _, _, _, rfl, hW, hR⟩
theorem law_loop {Rel : st_T → st_T → Prop} (hOk : OkAll Rel) {tC tM : Nat → Nat} {c1 c2 x m n L : Nat} {xs : Nat → Int32} {b : Nat} (hn : 100000 ≤ n) (hL : L ≤ 2560) : ∀ (k p : Nat) (h : hp_H) (sz sl : Nat) (sC sM : st_T), p ≤ L → L < p + k → LW tC tM c1 c2 x m h sz sl sC sM → Rel sC sM →
    ∃ h2 sz2 sl2 sC2 sM2, hp_lp (fL_L_law_18 n L xs b x m) k (nI p, h, sz, sl) = some (1, h2, sz2, sl2) ∧ LW tC tM c1 c2 x m h2 sz2 sl2 sC2 sM2 ∧ Rel sC2 sM2 := by
  intro k
  induction k with
  | zero =>
    intro p h sz sl sC sM hp hk hW hR
    omega
  | succ k ih =>
    intro p h sz sl sC sM hp hk hW hR
    by_cases q : L < p + 5
    · refine ⟨h, sz, sl, sC, sM, hp_lp_x ?_, hW, hR⟩
      show f_L_law_18 n L xs b x m (nI p) h sz sl = _
      unfold f_L_law_18
      rw [if_pos ((sc_end hL (by omega)).mpr q)]
    · obtain ⟨r, e, h2, sz2, sl2, sC2, sM2, rfl, hW2, hR2⟩ := law_iter (p := p) (xs := xs) (b := b) hOk hn hL (by omega) hW hR
      obtain ⟨h3, sz3, sl3, sC3, sM3, e3, hW3, hR3⟩ := ih (p + 5) h2 sz2 sl2 sC2 sM2 (by omega) (by omega) hW2 hR2
      exact ⟨h3, sz3, sl3, sC3, sM3, hp_lp_s e e3, hW3, hR3⟩
/-- the two new objects: both constructors come to their ends, the states are related, and what was made leaves B items' room twice -/
def InitOk (Rel : st_T → st_T → Prop) (tC tM : Nat → Nat) (B : Nat) : Prop := ∀ n sz : Nat, 100000 ≤ n → ∃ (h1 : hp_H) (sz1 sl1 : Nat) (h2 : hp_H) (sz2 sl2 : Nat) (sC sM : st_T) (c1 c2 : Nat), f_X10_init n sz (hp_nw (fun _ => none) sz 10 tyX10) (sz + 1) (0 + 11) = some (h1, sz1, sl1) ∧ f_X11_init n sz1 (hp_nw h1 sz1 11 tyX11) (sz1 + 1) (sl1 + 86) = some (h2, sz2, sl2) ∧ LW tC tM c1 c2 sz sz1 h2 sz2 sl2 sC sM ∧ Rel sC sM ∧ c1 + B ≤ sz + 600000 ∧ c2 + 2 * B ≤ 7302250
theorem law_of {Rel : st_T → st_T → Prop} {tC tM : Nat → Nat} {B : Nat} (hOk : OkAll Rel) (hI : InitOk Rel tC tM B) (hB : ∀ sC sM, Rel sC sM → pt tC sC.2.2.2.1 ≤ B) : PureLaw := by
  intro L xs b sz hL
  obtain ⟨n, hn⟩ : ∃ n : Nat, 100000 ≤ n := ⟨100000, Nat.le_refl _⟩
  obtain ⟨h1, sz1, sl1, h2, sz2, sl2, sC, sM, c1, c2, e1, e2, hW, hR, b1, b2⟩ := hI n sz hn
  obtain ⟨h3, sz3, sl3, sC3, sM3, e3, hW3, hR3⟩ := law_loop (xs := xs) (b := b) hOk hn hL n 0 h2 sz2 sl2 sC sM (by omega) (by omega) hW hR
  refine ⟨n, (1, h3, sz3, sl3), ?_, rfl, ?_, ?_⟩
  · unfold f_L_law_0 f_L_law_3
    rw [e1]
    show f_L_law_7 _ _ _ _ _ _ _ _ = _
    unfold f_L_law_7 f_L_law_11
    rw [e2]
    show f_L_law_15 _ _ _ _ _ _ _ _ _ = _
    unfold f_L_law_15
    rw [show (0 : Int32) = nI 0 from rfl, e3]
    rfl
  · obtain ⟨rC, rM, Z, -⟩ := hW3
    have := Z.2.2.2.2.2.2.1.1
    have := hB sC3 sM3 hR3
    show sz3 ≤ _
    omega
  · obtain ⟨rC, rM, Z, -⟩ := hW3
    have := Z.2.2.2.2.2.2.1.2
    have := hB sC3 sM3 hR3
    show sl3 ≤ _
    omega
