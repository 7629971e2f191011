/-! Sets of numbers as bits of words -/
theorem sh_63 : ∀ m : Fin 64, ((1 : Int64) <<< (Int32.toInt64 (qz ((m : Nat) : Int)) &&& 63)).toBitVec = BitVec.twoPow 64 m := by decide +kernel
theorem sh_64 : ∀ m : Fin 64, ((Int64.toUInt64 (Int32.toInt64 (qz ((m : Nat) : Int))) &&& Int64.toUInt64 63).toBitVec % 64#64).toNat = m := by decide +kernel
theorem bt_one {m : Int} (h0 : 0 ≤ m) (h : m < 64) (i : Nat) (hi : i < 64) : ((1 : Int64) <<< (Int32.toInt64 (qz m) &&& 63)).toBitVec.getLsbD i = decide ((i : Int) = m) := by
  have e := sh_63 ⟨m.toNat, by omega⟩
  simp only at e
  rw [show ((m.toNat : Nat) : Int) = m by omega] at e
  rw [e, BitVec.getLsbD_twoPow]
  by_cases q : (i : Int) = m
  · have : m.toNat = i := by omega
    simp [q, hi, this]
  · have : ¬m.toNat = i := by omega
    simp [q, hi, this]
theorem bt_or (x y : Int64) (i : Nat) : (x ||| y).toBitVec.getLsbD i = (x.toBitVec.getLsbD i || y.toBitVec.getLsbD i) := by
  rw [Int64.toBitVec_or, BitVec.getLsbD_or]
theorem bt_and1 {m : Int} (h0 : 0 ≤ m) (h : m < 64) (x : Int64) : (((Int64.toUInt64 x >>> (Int64.toUInt64 (Int32.toInt64 (qz m)) &&& Int64.toUInt64 63)).toInt64) &&& (1 : Int64)) = if x.toBitVec.getLsbD m.toNat then 1 else 0 := by
  have e := sh_64 ⟨m.toNat, by omega⟩
  simp only at e
  rw [show ((m.toNat : Nat) : Int) = m by omega] at e
  apply Int64.toBitVec_inj.mp
  rw [Int64.toBitVec_and]
  have e2 : ((Int64.toUInt64 x >>> (Int64.toUInt64 (Int32.toInt64 (qz m)) &&& Int64.toUInt64 63)).toInt64).toBitVec = x.toBitVec >>> m.toNat := by
    show (Int64.toUInt64 x >>> (Int64.toUInt64 (Int32.toInt64 (qz m)) &&& Int64.toUInt64 63)).toBitVec = _
    rw [UInt64.toBitVec_shiftRight]
    show x.toBitVec >>> (((Int64.toUInt64 (Int32.toInt64 (qz m)) &&& Int64.toUInt64 63)).toBitVec % 64#64).toNat = _
    rw [e]
  rw [e2]
  apply BitVec.eq_of_getLsbD_eq
  intro i hi
  rw [BitVec.getLsbD_and, BitVec.getLsbD_ushiftRight]
  have e3 : (1 : Int64).toBitVec = 1#64 := rfl
  rw [e3, BitVec.getLsbD_one]
  by_cases q : i = 0
  · subst q
    cases hx : x.toBitVec.getLsbD m.toNat
    · simp [hx]
    · simp [hx]
  · cases hx : x.toBitVec.getLsbD m.toNat
    · simp [q]
    · simp [q, e3, BitVec.getLsbD_one]
theorem bt_t0 {m : Int} (h0 : 0 ≤ m) (h : m < 64) (x : Int64) : (lg_cmp (((Int64.toUInt64 x >>> (Int64.toUInt64 (Int32.toInt64 (qz m)) &&& Int64.toUInt64 63)).toInt64) &&& (1 : Int64)) (0 : Int64) = 0) = ¬(x.toBitVec.getLsbD m.toNat = true) := by
  rw [bt_and1 h0 h]
  cases x.toBitVec.getLsbD m.toNat
  · simp only [Bool.false_eq_true, if_false, not_false_eq_true, eq_iff_iff, iff_true]
    decide
  · simp only [if_true, not_true_eq_false, eq_iff_iff, iff_false]
    decide
theorem bt_t1 {m : Int} (h0 : 0 ≤ m) (h : m < 64) (x : Int64) : (lg_cmp (((Int64.toUInt64 x >>> (Int64.toUInt64 (Int32.toInt64 (qz m)) &&& Int64.toUInt64 63)).toInt64) &&& (1 : Int64)) (1 : Int64) = 0) = (x.toBitVec.getLsbD m.toNat = true) := by
  rw [bt_and1 h0 h]
  cases x.toBitVec.getLsbD m.toNat
  · simp only [Bool.false_eq_true, if_false, eq_iff_iff, iff_false]
    decide
  · simp only [if_true, eq_iff_iff, iff_true]
    decide
/-- x is in the set whose words stand from o on -/
def bt (w : Int → Int64) (o x : Int) : Prop := (w (o + x / 64)).toBitVec.getLsbD (x - x / 64 * 64).toNat = true
theorem bt_set {w : Int → Int64} {o x y : Int} (hx : 0 ≤ x) (hy : 0 ≤ y) : bt (v1 w (o + x / 64) (w (o + x / 64) ||| ((1 : Int64) <<< (Int32.toInt64 (qz (x - x / 64 * 64)) &&& 63)))) o y ↔ bt w o y ∨ y = x := by
  unfold bt
  by_cases q : y / 64 = x / 64
  · rw [v1_e (by omega), bt_or, bt_one (by omega) (by omega) _ (by omega), q, Bool.or_eq_true, decide_eq_true_eq]
    rw [show (y = x) ↔ ((y - x / 64 * 64).toNat : Int) = x - x / 64 * 64 by omega]
  · rw [v1_o (by omega)]
    constructor
    · exact Or.inl
    · rintro (h | h)
      · exact h
      · subst h; exact absurd rfl q
theorem bt_out {w : Int → Int64} {o y k : Int} {z : Int64} (h : o + y / 64 ≠ k) : bt (v1 w k z) o y ↔ bt w o y := by
  unfold bt
  rw [v1_o h]
theorem bt_zero {w : Int → Int64} {o y : Int} (h : w (o + y / 64) = 0) : ¬bt w o y := by
  unfold bt
  rw [h]
  simp
