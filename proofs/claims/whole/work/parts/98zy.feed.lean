/-! feed -/
def wb (v : Int64) (s : Int32) : Int := (((Int64.toUInt64 v >>> (Int64.toUInt64 (Int32.toInt64 s) &&& Int64.toUInt64 63)).toInt64) &&& (255 : Int64)).toInt
theorem an255 (x : Int64) : 0 ≤ (x &&& (255 : Int64)).toInt ∧ (x &&& (255 : Int64)).toInt < 256 := by
  have h : (x &&& (255 : Int64)).toBitVec.toNat ≤ 255 := by
    rw [Int64.toBitVec_and, BitVec.toNat_and]
    exact Nat.and_le_right
  have e : (x &&& (255 : Int64)).toInt = ((x &&& (255 : Int64)).toBitVec.toNat : Int) := BitVec.toInt_eq_toNat_of_lt (by omega)
  rw [e]
  omega
theorem wb_r (v : Int64) (s : Int32) : 0 ≤ wb v s ∧ wb v s < 256 := an255 _
theorem i64_32 {x : Int64} (h0 : 0 ≤ x.toInt) (h1 : x.toInt < 256) : Int64.toInt32 x = qz x.toInt := by
  apply Int32.toInt_inj.mp
  rw [Int64.toInt_toInt32, qz_toInt (by omega) (by omega)]
  exact Int.bmod_eq_of_le (by omega) (by omega)
theorem wb_32 {v : Int64} {s : Int32} : Int64.toInt32 (((Int64.toUInt64 v >>> (Int64.toUInt64 (Int32.toInt64 s) &&& Int64.toUInt64 63)).toInt64) &&& (255 : Int64)) = qz (wb v s) := i64_32 (an255 _).1 (an255 _).2
theorem cmp_0 {x : Int64} : (lg_cmp x 0 = 0) ↔ x.toInt = 0 := by
  unfold lg_cmp
  constructor
  · intro h
    by_cases c : x > 0
    · rw [if_pos c] at h
      exact absurd h (by decide)
    · rw [if_neg c] at h
      by_cases e : x = 0
      · rw [e]; rfl
      · rw [if_neg e] at h
        exact absurd h (by decide)
  · intro h
    have e : x = 0 := Int64.toInt_inj.mp (by rw [h]; rfl)
    rw [e]
    rfl
def sg8 (x : Int) : Int := if x < 128 then x else x - 256
theorem i32_8 {x : Int} (h0 : 0 ≤ x) (h1 : x < 256) : (Int32.toInt8 (qz x)).toInt32 = qz (sg8 x) := by
  have hs : -128 ≤ sg8 x ∧ sg8 x < 128 := by
    unfold sg8
    by_cases c : x < 128
    · rw [if_pos c]; omega
    · rw [if_neg c]; omega
  apply Int32.toInt_inj.mp
  rw [Int8.toInt_toInt32, Int32.toInt_toInt8, qz_toInt (by omega) (by omega), qz_toInt (by omega) (by omega)]
  unfold sg8
  by_cases c : x < 128
  · rw [if_pos c]
    exact Int.bmod_eq_of_le (by omega) (by omega)
  · rw [if_neg c]
    rw [Int.bmod_def, show (((2 : Nat) ^ 8 : Nat) : Int) = 256 from rfl, Int.emod_eq_of_lt (by omega) (by omega), if_neg (by omega)]
def wbs (v : Int64) (m : Nat) : Int := wb v (qz (56 - 8 * m))
def nz (B : Nat → Int) : Nat → Int
  | 0 => 0
  | m + 1 => nz B m + (if B m = 0 then 0 else 1)
def apt (g : Int → Int) (B : Nat → Int) (T : Int → Int) (l : Int) : Nat → (Int → Int)
  | 0 => T
  | m + 1 => if B m = 0 then apt g B T l m else v1 (apt g B T l m) (l + nz B m) (g (B m))
theorem nz_st {B : Nat → Int} {m : Nat} : nz B (m + 1) = nz B m + (if B m = 0 then 0 else 1) := rfl
theorem apt_st {g : Int → Int} {B : Nat → Int} {T : Int → Int} {l : Int} {m : Nat} : apt g B T l (m + 1) = if B m = 0 then apt g B T l m else v1 (apt g B T l m) (l + nz B m) (g (B m)) := rfl
theorem nz_r (B : Nat → Int) (m : Nat) : 0 ≤ nz B m ∧ nz B m ≤ m := by
  induction m with
  | zero => exact ⟨Int.le_refl _, Int.le_refl _⟩
  | succ m ih =>
    rw [nz_st]
    by_cases c : B m = 0
    · rw [if_pos c]; omega
    · rw [if_neg c]; omega
theorem nz_m (B : Nat → Int) (m k : Nat) : nz B m ≤ nz B (m + k) := by
  induction k with
  | zero => exact Int.le_refl _
  | succ k ih =>
    rw [show m + (k + 1) = (m + k) + 1 from rfl, nz_st]
    by_cases c : B (m + k) = 0
    · rw [if_pos c]; omega
    · rw [if_neg c]; omega
theorem nz_cat {B v w : Nat → Int} {s : Nat} (h1 : ∀ k, k < s → B k = v k) (h2 : ∀ k, B (s + k) = w k) (m : Nat) : nz B (s + m) = nz v s + nz w m := by
  have e : ∀ k, k ≤ s → nz B k = nz v k := by
    intro k
    induction k with
    | zero => intro _; rfl
    | succ k ih => intro h; rw [nz_st, nz_st, ih (by omega), h1 k (by omega)]
  induction m with
  | zero => rw [Nat.add_zero, e s (by omega)]; exact (Int.add_zero _).symm
  | succ m ih => rw [show s + (m + 1) = (s + m) + 1 from rfl, nz_st, nz_st, ih, h2]; omega
theorem apt_cat {g : Int → Int} {B v w : Nat → Int} {s : Nat} {T : Int → Int} {l : Int} (h1 : ∀ k, k < s → B k = v k) (h2 : ∀ k, B (s + k) = w k) (m : Nat) : apt g B T l (s + m) = apt g w (apt g v T l s) (l + nz v s) m := by
  have e : ∀ k, k ≤ s → nz B k = nz v k ∧ apt g B T l k = apt g v T l k := by
    intro k
    induction k with
    | zero => intro _; exact ⟨rfl, rfl⟩
    | succ k ih =>
      intro h
      obtain ⟨i1, i2⟩ := ih (by omega)
      rw [nz_st, nz_st, apt_st, apt_st, i1, i2, h1 k (by omega)]
      exact ⟨rfl, rfl⟩
  induction m with
  | zero => rw [Nat.add_zero, (e s (by omega)).2]; rfl
  | succ m ih => rw [show s + (m + 1) = (s + m) + 1 from rfl, apt_st, apt_st, ih, h2, nz_cat h1 h2, Int.add_assoc]
theorem apt_rel {B : Nat → Int} {T t : Int → Int} {l : Int} (hB : ∀ k, 0 ≤ B k ∧ B k < 256) (ht : txt t l) (hx : txs T t l) (hy : byt T) (m : Nat) (hl : l + nz B m ≤ 8192) : txt (apt (fun x => x) B t l m) (l + nz B m) ∧ txs (apt sg8 B T l m) (apt (fun x => x) B t l m) (l + nz B m) ∧ byt (apt sg8 B T l m) := by
  induction m with
  | zero =>
    rw [show nz B 0 = 0 from rfl, Int.add_zero]
    exact ⟨ht, hx, hy⟩
  | succ m ih =>
    have hr := nz_r B m
    have hb := hB m
    rw [nz_st] at hl ⊢
    rw [apt_st, apt_st]
    by_cases c : B m = 0
    · rw [if_pos c, if_pos c, if_pos c, Int.add_zero]
      rw [if_pos c, Int.add_zero] at hl
      exact ih hl
    · rw [if_neg c] at hl
      rw [if_neg c, if_neg c, if_neg c]
      obtain ⟨i1, i2, i3⟩ := ih (by omega)
      have hl0 := ht.1
      refine ⟨⟨by omega, hl, fun x x0 x1 => ?_⟩, fun x x0 x1 => ?_, fun x x0 x1 => ?_⟩
      · by_cases e : x = l + nz B m
        · rw [e, v1_s]; omega
        · rw [v1_o e]; exact i1.2.2 x x0 (by omega)
      · by_cases e : x = l + nz B m
        · rw [e, v1_s, v1_s]
          unfold sgn sg8
          by_cases c2 : B m < 128
          · rw [if_pos c2]; omega
          · rw [if_neg c2]; omega
        · rw [v1_o e, v1_o e]; exact i2 x x0 (by omega)
      · by_cases e : x = l + nz B m
        · rw [e, v1_s]
          unfold sg8
          by_cases c2 : B m < 128
          · rw [if_pos c2]; omega
          · rw [if_neg c2]; omega
        · rw [v1_o e]; exact i3 x x0 x1
section FED
variable {b b2 n : Nat} {q dl : Int} {f : Nat → Nat → Int} {d : Nat → Nat} {a : Nat → Int → Int} {ni : Nat → Nat} {j : Nat → Int → Int64} {F : Nat → Int} {A : Nat → Int → Int} {J : Nat → Int → Int64} {v w : Int64}
theorem zl56 : (56 : Int32) = qz 56 := id rfl
theorem zl8 : (8 : Int32) = qz 8 := id rfl
theorem zlm8 : (-8 : Int32) = qz (-8) := id rfl
theorem zl16 : (16 : Int32) = qz 16 := id rfl
theorem c_bytesIn (hn : 100000 ≤ n) {s : st_T} : g_X10_bytesIn n v s = some (qz (nz (wbs v) 8)) := by
  unfold g_X10_bytesIn g_X10_bytesIn_0
  have lp := lp_for (b := gL_X10_bytesIn_5 n v s) (fun i => (qz (nz (wbs v) i.toNat), qz (56 - 8 * i))) (x := qz (nz (wbs v) 8)) 8 (n := n) (i0 := 0) (by omega) (by omega) ?_ ?_
  · rw [zl0, zl56]
    rw [show (qz 0, qz 56) = (fun i : Int => (qz (nz (wbs v) i.toNat), qz (56 - 8 * i))) 0 from rfl, lp, bd_some]
  · intro i i0 i1
    unfold gL_X10_bytesIn_5 g_X10_bytesIn_5 g_X10_bytesIn_24
    rw [if_neg (by rw [zl0, qz_lt (by omega) (by omega) (by omega) (by omega)]; omega)]
    have e : wb v (qz (56 - 8 * i)) = wbs v i.toNat := by
      unfold wbs
      rw [show ((i.toNat : Nat) : Int) = i by omega]
    have en : (i + 1).toNat = i.toNat + 1 := by omega
    simp only [en, nz_st]
    have hz : (lg_cmp (((Int64.toUInt64 v >>> (Int64.toUInt64 (Int32.toInt64 (qz (56 - 8 * i))) &&& Int64.toUInt64 63)).toInt64) &&& (255 : Int64)) (0 : Int64) = 0) ↔ wbs v i.toNat = 0 := by
      rw [cmp_0, ← e]
      exact Iff.rfl
    by_cases c : wbs v i.toNat = 0
    · rw [if_pos (hz.mpr c), if_pos c, zlm8, qz_add, Int.add_zero, show 56 - 8 * i + -8 = 56 - 8 * (i + 1) by omega]
    · rw [if_neg (fun y => c (hz.mp y)), if_neg c, zlm8, zl1, qz_add, qz_add, show 56 - 8 * i + -8 = 56 - 8 * (i + 1) by omega]
  · unfold gL_X10_bytesIn_5 g_X10_bytesIn_5
    rw [if_pos (by rw [zl0, qz_lt (by omega) (by omega) (by omega) (by omega)]; omega)]
    rfl
theorem c_append (hn : 100000 ≤ n) (hb : bks b2) (hd : d 1 = b2) (h2 : f b2 2 = dl) (h0 : 0 ≤ dl) (h1 : dl + nz (wbs v) 8 ≤ 8192) : g_X10_append n 0 v (cs f d a ni j) = some (cs (u2 f b2 2 (dl + nz (wbs v) 8)) d (u1 a (b2 + 2) (apt sg8 (wbs v) (a (b2 + 2)) dl 8)) ni j) := by
  unfold g_X10_append g_X10_append_0
  have lp := lp_for (b := gL_X10_append_3 n 0 v) (fun i => (qz (56 - 8 * i), cs (u2 f b2 2 (dl + nz (wbs v) i.toNat)) d (u1 a (b2 + 2) (apt sg8 (wbs v) (a (b2 + 2)) dl i.toNat)) ni j)) (x := cs (u2 f b2 2 (dl + nz (wbs v) 8)) d (u1 a (b2 + 2) (apt sg8 (wbs v) (a (b2 + 2)) dl 8)) ni j) 8 (n := n) (i0 := 0) (by omega) (by omega) ?_ ?_
  · have e0 : cs f d a ni j = cs (u2 f b2 2 (dl + nz (wbs v) (0 : Int).toNat)) d (u1 a (b2 + 2) (apt sg8 (wbs v) (a (b2 + 2)) dl (0 : Int).toNat)) ni j := by
      rw [u2_id (by rw [h2]; exact (Int.add_zero _).symm), show apt sg8 (wbs v) (a (b2 + 2)) dl (0 : Int).toNat = a (b2 + 2) from rfl, u1_id rfl]
    rw [zl56]
    conv => lhs; rw [e0]
    rw [show (qz 56, cs (u2 f b2 2 (dl + nz (wbs v) (0 : Int).toNat)) d (u1 a (b2 + 2) (apt sg8 (wbs v) (a (b2 + 2)) dl (0 : Int).toNat)) ni j) = (fun i : Int => (qz (56 - 8 * i), cs (u2 f b2 2 (dl + nz (wbs v) i.toNat)) d (u1 a (b2 + 2) (apt sg8 (wbs v) (a (b2 + 2)) dl i.toNat)) ni j)) 0 from rfl, lp, bd_some]
  · intro i i0 i1
    have hr := nz_r (wbs v) i.toNat
    have hw := wb_r v (qz (56 - 8 * i))
    have e : wb v (qz (56 - 8 * i)) = wbs v i.toNat := by
      unfold wbs
      rw [show ((i.toNat : Nat) : Int) = i by omega]
    have en : (i + 1).toNat = i.toNat + 1 := by omega
    unfold gL_X10_append_3 g_X10_append_3 g_X10_append_66
    simp only [en]
    rw [if_neg (by rw [zl0, qz_lt (by omega) (by omega) (by omega) (by omega)]; omega), wb_32, e, zl0, zlm8, zl8192, qz_add, show 56 - 8 * i + -8 = 56 - 8 * (i + 1) by omega]
    rw [e] at hw
    by_cases c : wbs v i.toNat = 0
    · rw [if_pos (by rw [c]), nz_st, if_pos c, Int.add_zero]
      rw [apt_st, if_pos c]
    · have hm := nz_m (wbs v) (i.toNat + 1) (8 - (i.toNat + 1))
      rw [show i.toNat + 1 + (8 - (i.toNat + 1)) = 8 by omega, nz_st, if_neg c] at hm
      have hs : -128 ≤ sg8 (wbs v i.toNat) ∧ sg8 (wbs v i.toNat) < 128 := by
        unfold sg8
        by_cases c : wbs v i.toNat < 128
        · rw [if_pos c]; omega
        · rw [if_neg c]; omega
      rw [if_neg (by rw [qz_inj (by omega) (by omega) (by omega) (by omega)]; exact c), gpc_0_1, hd, gf_cs, u2_a, if_neg (by rw [qz_le (by omega) (by omega) (by omega) (by omega)]; omega), gpb_1 hb, i32_8 hw.1 hw.2, uab_2 hb (by omega) (by omega) hs.1 hs.2, bd_some, gpc_0_1, hd, gf_cs, u2_a, zl1, qz_add, wf_cs, bd_some, u2_d, nz_st, if_neg c, v2_u1, u1_s, u1_1]
      have ea : apt sg8 (wbs v) (a (b2 + 2)) dl (i.toNat + 1) = v1 (apt sg8 (wbs v) (a (b2 + 2)) dl i.toNat) (dl + nz (wbs v) i.toNat) (sg8 (wbs v i.toNat)) := by
        rw [apt_st, if_neg c]
      rw [ea, show dl + nz (wbs v) i.toNat + 1 = dl + (nz (wbs v) i.toNat + 1) by omega]
  · unfold gL_X10_append_3 g_X10_append_3
    rw [if_pos (by rw [zl0, qz_lt (by omega) (by omega) (by omega) (by omega)]; omega)]
    rfl
theorem m_byteOf {k : Int} (h0 : 0 ≤ k) (h1 : k < 16) {s : st_T} : g_X11_byteOf n v w (qz k) s = some (qz (if 8 ≤ k then wbs w (k - 8).toNat else wbs v k.toNat)) := by
  unfold g_X11_byteOf g_X11_byteOf_0 g_X11_byteOf_12
  simp only [zl8, zl56]
  rw [qz_div (by omega) (by omega) (by omega) (by omega), qz_mul, qz_sub, qz_mul, qz_sub, wb_32, wb_32]
  by_cases c : 8 ≤ k
  · rw [if_pos (by rw [qz_le (by omega) (by omega) (by omega) (by omega)]; exact c), if_pos c]
    unfold wbs
    rw [show 56 - 8 * (k - k / 8 * 8) = 56 - 8 * (((k - 8).toNat : Nat) : Int) by omega]
  · rw [if_neg (by rw [qz_le (by omega) (by omega) (by omega) (by omega)]; exact c), if_neg c]
    unfold wbs
    rw [show 56 - 8 * (k - k / 8 * 8) = 56 - 8 * ((k.toNat : Nat) : Int) by omega]
end FED
