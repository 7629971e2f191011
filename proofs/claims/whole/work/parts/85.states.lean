def tC0 (i : Nat) : Nat := [20, 10, 12, 1, 0, 0, 0, 0, 1, 0, 0, 0, 15, 4, 0, 15, 4, 0, 15, 4, 0, 15, 4, 0, 15, 4, 0, 15, 4, 0, 1, 0, 3, 10, 12, 1, 0, 0, 0, 0, 1, 0, 0, 0, 15, 4, 0, 15, 4, 0, 15, 4, 0, 15, 4, 0, 15, 4, 0, 15, 4, 0, 1, 0, 3, 14, 17, 0, 0, 0, 1, 1, 0, 0, 0, 0, 0, 16, 13, 0, 1, 0, 1, 11, 15, 4, 0, 15, 4, 0, 0, 3, 3, 11, 15, 4, 0, 15, 4, 0, 0, 3, 3, 19, 0, 15, 4, 0, 0, 0, 0, 0, 0, 0, 0, 0, 0, 18, 1, 18, 1].getD i 99
def nC0 (i : Nat) : Nat := [0, 0, 0, 8192, 256, 500, 500, 500, 300, 200, 200, 200, 0, 64, 201, 0, 64, 201, 0, 64, 201, 0, 64, 201, 0, 64, 201, 0, 64, 201, 200, 200, 800, 0, 0, 8192, 256, 500, 500, 500, 300, 200, 200, 200, 0, 64, 201, 0, 64, 201, 0, 64, 201, 0, 64, 201, 0, 64, 201, 0, 64, 201, 200, 200, 800, 0, 0, 16, 16, 300, 300, 300, 300, 200, 200, 200, 8, 0, 0, 1000, 1000, 200, 200, 0, 0, 64, 102, 0, 64, 201, 300, 1500, 5, 0, 0, 64, 102, 0, 64, 201, 300, 1500, 5, 0, 1000, 0, 64, 1001, 1000, 256, 1000, 200, 1000, 1000, 200, 1000, 16, 0, 6000, 0, 6000].getD i 0
def pC0 (i k : Nat) : Nat := match i with
  | 0 => [1, 33, 65, 78, 83, 93, 103, 117, 119, 0, 0].getD k 0
  | 1 => [2, 3, 0, 0, 8, 0, 9, 10, 11, 12, 15, 18, 21, 24, 27, 30, 31, 32].getD k 0
  | 2 => [3, 4, 5, 6, 7].getD k 0
  | 12 => [13, 14, 0, 0].getD k 0
  | 15 => [16, 17, 0, 0].getD k 0
  | 18 => [19, 20, 0, 0].getD k 0
  | 21 => [22, 23, 0, 0].getD k 0
  | 24 => [25, 26, 0, 0].getD k 0
  | 27 => [28, 29, 0, 0].getD k 0
  | 33 => [34, 35, 0, 0, 40, 0, 41, 42, 43, 44, 47, 50, 53, 56, 59, 62, 63, 64].getD k 0
  | 34 => [35, 36, 37, 38, 39].getD k 0
  | 44 => [45, 46, 0, 0].getD k 0
  | 47 => [48, 49, 0, 0].getD k 0
  | 50 => [51, 52, 0, 0].getD k 0
  | 53 => [54, 55, 0, 0].getD k 0
  | 56 => [57, 58, 0, 0].getD k 0
  | 59 => [60, 61, 0, 0].getD k 0
  | 65 => [0, 33, 77, 66, 0, 0, 0, 0, 0, 0, 76].getD k 0
  | 66 => [0, 67, 68, 69, 0, 70, 71, 72, 73, 0, 74, 75, 0].getD k 0
  | 77 => [0, 0, 0, 35, 0].getD k 0
  | 78 => [0, 0, 0, 79, 80, 0, 1, 81, 0, 82, 0, 0, 0].getD k 0
  | 83 => [84, 87, 1, 90, 91, 92].getD k 0
  | 84 => [85, 86, 0, 0].getD k 0
  | 87 => [88, 89, 0, 0].getD k 0
  | 93 => [94, 97, 1, 100, 101, 102].getD k 0
  | 94 => [95, 96, 0, 0].getD k 0
  | 97 => [98, 99, 0, 0].getD k 0
  | 103 => [1, 78, 0, 0, 104, 105, 108, 109, 110, 111, 112, 113, 0, 114, 115, 0, 116].getD k 0
  | 105 => [106, 107, 0, 0].getD k 0
  | 117 => [118, 0, 0].getD k 0
  | 119 => [120, 0, 0].getD k 0
  | _ => 0
def aC0 (i j : Nat) : Int32 := if i = 4 ∧ j < 256 then -1 else if i = 36 ∧ j < 256 then -1 else 0
def sC0 : st_T := (fun _ _ => 0, pC0, aC0, nC0, fun _ _ => 0)
def tM0 (i : Nat) : Nat := [21, 0, 0, 0, 0, 2, 0, 0, 0, 0, 0, 0, 0, 0, 0, 0, 0, 0, 0, 3, 3, 0, 0, 0, 0, 0, 0, 0, 2, 0, 0, 0, 0, 0, 0, 0, 0, 0, 0, 0, 0, 0, 0, 0, 0, 0, 0, 0, 0, 0, 0, 0, 0, 0, 0, 0, 0, 0, 0, 2, 0].getD i 99
def nM0 (i : Nat) : Nat := [0, 8192, 16384, 600, 600, 600, 2, 400, 400, 400, 400, 400, 400, 400, 400, 2, 8192, 8192, 8192, 1600, 1600, 20480, 20480, 20480, 20480, 2, 300, 300, 200, 200, 200, 8, 600, 8192, 1000, 200, 1000, 20000, 100, 100, 40000, 200, 200, 300, 1000, 1000, 1000, 1000, 20000, 100, 1000, 1000, 1001, 1001, 1000, 1000, 200, 6000, 6000, 200, 2002].getD i 0
def pM0 (i k : Nat) : Nat := match i with
  | 0 => [1, 0, 0, 0, 0, 2, 3, 4, 5, 6, 7, 8, 9, 10, 11, 12, 13, 14, 15, 16, 17, 18, 19, 20, 21, 22, 23, 24, 25, 0, 0, 0, 0, 0, 0, 0, 0, 0, 26, 27, 28, 29, 30, 0, 31, 32, 0, 33, 0, 34, 0, 35, 36, 0, 0, 0, 37, 38, 39, 0, 40, 41, 42, 43, 44, 45, 46, 0, 47, 48, 49, 0, 50, 51, 52, 53, 54, 55, 56, 57, 0, 58, 0, 59, 60, 0].getD k 0
  | _ => 0
def aM0 (i j : Nat) : Int32 := 0
def sM0 : st_T := (fun _ _ => 0, pM0, aM0, nM0, fun _ _ => 0)
/-- an array indexed by an integer is written -/
def v1 {α : Type} (f : Int → α) (k : Int) (v : α) : Int → α := fun b => if b = k then v else f b
def v2 {α : Type} (f : Nat → Int → α) (i : Nat) (k : Int) (v : α) : Nat → Int → α := fun a => if a = i then v1 (f i) k v else f a
def u1 {α : Type} (f : Nat → α) (k : Nat) (v : α) : Nat → α := fun b => if b = k then v else f b
theorem u1_s {α : Type} {f : Nat → α} {k : Nat} {v : α} : u1 f k v k = v := by simp [u1]
theorem u1_o {α : Type} {f : Nat → α} {k b : Nat} {v : α} (h : b ≠ k) : u1 f k v b = f b := by simp [u1, h]
theorem u1_1 {α : Type} {f : Nat → α} {k : Nat} {v w : α} : u1 (u1 f k v) k w = u1 f k w := by
  funext b
  by_cases h : b = k <;> simp [u1, h]
theorem u1_id {α : Type} {f : Nat → α} {k : Nat} {v : α} (h : f k = v) : u1 f k v = f := by
  funext b
  by_cases e : b = k
  · subst e; simp [u1, h]
  · simp [u1, e]
theorem v1_s {α : Type} {f : Int → α} {k : Int} {v : α} : v1 f k v k = v := by simp [v1]
theorem v1_o {α : Type} {f : Int → α} {k b : Int} {v : α} (h : b ≠ k) : v1 f k v b = f b := by simp [v1, h]
theorem v1_e {α : Type} {f : Int → α} {k b : Int} {v : α} (h : b = k) : v1 f k v b = v := by simp [v1, h]
theorem v1_1 {α : Type} {f : Int → α} {k : Int} {v w : α} : v1 (v1 f k v) k w = v1 f k w := by
  funext b
  by_cases h : b = k <;> simp [v1, h]
theorem v2_s {α : Type} {f : Nat → Int → α} {i : Nat} {k : Int} {v : α} : v2 f i k v i = v1 (f i) k v := by simp [v2]
theorem v2_o {α : Type} {f : Nat → Int → α} {i j : Nat} {k : Int} {v : α} (h : j ≠ i) : v2 f i k v j = f j := by simp [v2, h]
theorem v2_2 {α : Type} {f : Nat → Int → α} {i : Nat} {k : Int} {v w : α} : v2 (v2 f i k v) i k w = v2 f i k w := by
  funext a
  by_cases h : a = i <;> simp [v2, h, v1_1]
theorem u2_v2 {a : Nat → Int → Int} {i : Nat} {k v : Int} (h : 0 ≤ k) : u2 (fun i (j : Nat) => qz (a i j)) i k.toNat (qz v) = fun b (c : Nat) => qz (v2 a i k v b c) := by
  funext b c
  unfold u2 v2 v1
  by_cases h1 : b = i
  · subst h1
    by_cases h2 : c = k.toNat
    · have : (c : Int) = k := by omega
      rw [if_pos rfl, if_pos h2, if_pos rfl, if_pos this]
    · have : (c : Int) ≠ k := by omega
      simp [h2, this]
  · simp [h1]
theorem u2_w2 {a : Nat → Int → Int64} {i : Nat} {k : Int} {v : Int64} (h : 0 ≤ k) : u2 (fun i (j : Nat) => a i j) i k.toNat v = fun b (c : Nat) => v2 a i k v b c := by
  funext b c
  unfold u2 v2 v1
  by_cases h1 : b = i
  · subst h1
    by_cases h2 : c = k.toNat
    · have : (c : Int) = k := by omega
      rw [if_pos rfl, if_pos h2, if_pos rfl, if_pos this]
    · have : (c : Int) ≠ k := by omega
      simp [h2, this]
  · simp [h1]
def ms (f : Nat → Int) (a : Nat → Int → Int) (j : Nat → Int → Int64) : st_T := (fun i k => if i = 0 then qz (f k) else 0, pM0, fun i (k : Nat) => qz (a i k), nM0, fun i (k : Nat) => j i k)
section MS
variable {f : Nat → Int} {a : Nat → Int → Int} {j : Nat → Int → Int64} {k : Nat} {m v : Int} {y : Int64}
theorem gf_ms : gF (ms f a j) 0 k = qz (f k) := id rfl
theorem wf_ms : wF (ms f a j) 0 k (qz v) = some (ms (u1 f k v) a j) := by
  have e : u2 (fun i k => if i = 0 then qz (f k) else 0) 0 k (qz v) = fun i b => if i = 0 then qz (u1 f k v b) else 0 := by
    funext a b
    by_cases h : a = 0
    · by_cases h2 : b = k <;> simp [u2, u1, h, h2]
    · simp [u2, h]
  unfold wF uF ms
  simp only [e]
theorem ga_ms {i : Nat} (h0 : 0 ≤ m) (h : m < (nM0 i : Int)) (h2 : m < 2147483648) : gA (ms f a j) i (qz m) = some (qz (a i m)) := by
  rw [gA_n (s := ms f a j) h0 h h2]
  show some (qz (a i (m.toNat : Int))) = _
  rw [show ((m.toNat : Nat) : Int) = m by omega]
theorem gj_ms {i : Nat} (h0 : 0 ≤ m) (h : m < (nM0 i : Int)) (h2 : m < 2147483648) : gJ (ms f a j) i (qz m) = some (j i m) := by
  rw [gJ_n (s := ms f a j) h0 h h2]
  show some (j i (m.toNat : Int)) = _
  rw [show ((m.toNat : Nat) : Int) = m by omega]
theorem ua_ms {i t : Nat} (h0 : 0 ≤ m) (h : m < (nM0 i : Int)) (h2 : m < 2147483648) (ht : hp_nar t (qz v) = qz v) : uA t (ms f a j) i (qz m) (qz v) = some (ms f (v2 a i m v) j) := by
  rw [uA_n (s := ms f a j) h0 h h2, ht]
  show some ((ms f a j).1, _, u2 (fun i (k : Nat) => qz (a i k)) i m.toNat (qz v), _) = _
  rw [u2_v2 h0]
  rfl
theorem uj_ms {i : Nat} (h0 : 0 ≤ m) (h : m < (nM0 i : Int)) (h2 : m < 2147483648) : uJ (ms f a j) i (qz m) y = some (ms f a (v2 j i m y)) := by
  rw [uJ_n (s := ms f a j) h0 h h2]
  show some ((ms f a j).1, _, _, _, u2 (fun i (k : Nat) => j i k) i m.toNat y) = _
  rw [u2_w2 h0]
  rfl
theorem gp_0 : gP (ms f a j) 0 0 = 1 := id rfl
theorem gp_5 : gP (ms f a j) 0 5 = 2 := id rfl
theorem gp_6 : gP (ms f a j) 0 6 = 3 := id rfl
theorem gp_7 : gP (ms f a j) 0 7 = 4 := id rfl
theorem gp_8 : gP (ms f a j) 0 8 = 5 := id rfl
theorem gp_9 : gP (ms f a j) 0 9 = 6 := id rfl
theorem gp_10 : gP (ms f a j) 0 10 = 7 := id rfl
theorem gp_11 : gP (ms f a j) 0 11 = 8 := id rfl
theorem gp_12 : gP (ms f a j) 0 12 = 9 := id rfl
theorem gp_13 : gP (ms f a j) 0 13 = 10 := id rfl
theorem gp_14 : gP (ms f a j) 0 14 = 11 := id rfl
theorem gp_15 : gP (ms f a j) 0 15 = 12 := id rfl
theorem gp_16 : gP (ms f a j) 0 16 = 13 := id rfl
theorem gp_17 : gP (ms f a j) 0 17 = 14 := id rfl
theorem gp_18 : gP (ms f a j) 0 18 = 15 := id rfl
theorem gp_19 : gP (ms f a j) 0 19 = 16 := id rfl
theorem gp_20 : gP (ms f a j) 0 20 = 17 := id rfl
theorem gp_21 : gP (ms f a j) 0 21 = 18 := id rfl
theorem gp_22 : gP (ms f a j) 0 22 = 19 := id rfl
theorem gp_23 : gP (ms f a j) 0 23 = 20 := id rfl
theorem gp_24 : gP (ms f a j) 0 24 = 21 := id rfl
theorem gp_25 : gP (ms f a j) 0 25 = 22 := id rfl
theorem gp_26 : gP (ms f a j) 0 26 = 23 := id rfl
theorem gp_27 : gP (ms f a j) 0 27 = 24 := id rfl
theorem gp_28 : gP (ms f a j) 0 28 = 25 := id rfl
theorem gp_38 : gP (ms f a j) 0 38 = 26 := id rfl
theorem gp_39 : gP (ms f a j) 0 39 = 27 := id rfl
theorem gp_40 : gP (ms f a j) 0 40 = 28 := id rfl
theorem gp_41 : gP (ms f a j) 0 41 = 29 := id rfl
theorem gp_42 : gP (ms f a j) 0 42 = 30 := id rfl
theorem gp_44 : gP (ms f a j) 0 44 = 31 := id rfl
theorem gp_45 : gP (ms f a j) 0 45 = 32 := id rfl
theorem gp_47 : gP (ms f a j) 0 47 = 33 := id rfl
theorem gp_49 : gP (ms f a j) 0 49 = 34 := id rfl
theorem gp_51 : gP (ms f a j) 0 51 = 35 := id rfl
theorem gp_52 : gP (ms f a j) 0 52 = 36 := id rfl
theorem gp_56 : gP (ms f a j) 0 56 = 37 := id rfl
theorem gp_57 : gP (ms f a j) 0 57 = 38 := id rfl
theorem gp_58 : gP (ms f a j) 0 58 = 39 := id rfl
theorem gp_60 : gP (ms f a j) 0 60 = 40 := id rfl
theorem gp_61 : gP (ms f a j) 0 61 = 41 := id rfl
theorem gp_62 : gP (ms f a j) 0 62 = 42 := id rfl
theorem gp_63 : gP (ms f a j) 0 63 = 43 := id rfl
theorem gp_64 : gP (ms f a j) 0 64 = 44 := id rfl
theorem gp_65 : gP (ms f a j) 0 65 = 45 := id rfl
theorem gp_66 : gP (ms f a j) 0 66 = 46 := id rfl
theorem gp_68 : gP (ms f a j) 0 68 = 47 := id rfl
theorem gp_69 : gP (ms f a j) 0 69 = 48 := id rfl
theorem gp_70 : gP (ms f a j) 0 70 = 49 := id rfl
theorem gp_72 : gP (ms f a j) 0 72 = 50 := id rfl
theorem gp_73 : gP (ms f a j) 0 73 = 51 := id rfl
theorem gp_74 : gP (ms f a j) 0 74 = 52 := id rfl
theorem gp_75 : gP (ms f a j) 0 75 = 53 := id rfl
theorem gp_76 : gP (ms f a j) 0 76 = 54 := id rfl
theorem gp_77 : gP (ms f a j) 0 77 = 55 := id rfl
theorem gp_78 : gP (ms f a j) 0 78 = 56 := id rfl
theorem gp_79 : gP (ms f a j) 0 79 = 57 := id rfl
theorem gp_81 : gP (ms f a j) 0 81 = 58 := id rfl
theorem gp_83 : gP (ms f a j) 0 83 = 59 := id rfl
theorem gp_84 : gP (ms f a j) 0 84 = 60 := id rfl
theorem ga_1 (h0 : 0 ≤ m) (h : m < 8192) : gA (ms f a j) 1 (qz m) = some (qz (a 1 m)) := ga_ms h0 h (by omega)
theorem ua_1 (h0 : 0 ≤ m) (h : m < 8192) : uA 0 (ms f a j) 1 (qz m) (qz v) = some (ms f (v2 a 1 m v) j) := ua_ms h0 h (by omega) rfl
theorem ga_2 (h0 : 0 ≤ m) (h : m < 16384) : gA (ms f a j) 2 (qz m) = some (qz (a 2 m)) := ga_ms h0 h (by omega)
theorem ua_2 (h0 : 0 ≤ m) (h : m < 16384) : uA 0 (ms f a j) 2 (qz m) (qz v) = some (ms f (v2 a 2 m v) j) := ua_ms h0 h (by omega) rfl
theorem ga_3 (h0 : 0 ≤ m) (h : m < 600) : gA (ms f a j) 3 (qz m) = some (qz (a 3 m)) := ga_ms h0 h (by omega)
theorem ua_3 (h0 : 0 ≤ m) (h : m < 600) : uA 0 (ms f a j) 3 (qz m) (qz v) = some (ms f (v2 a 3 m v) j) := ua_ms h0 h (by omega) rfl
theorem ga_4 (h0 : 0 ≤ m) (h : m < 600) : gA (ms f a j) 4 (qz m) = some (qz (a 4 m)) := ga_ms h0 h (by omega)
theorem ua_4 (h0 : 0 ≤ m) (h : m < 600) : uA 0 (ms f a j) 4 (qz m) (qz v) = some (ms f (v2 a 4 m v) j) := ua_ms h0 h (by omega) rfl
theorem ga_5 (h0 : 0 ≤ m) (h : m < 600) : gA (ms f a j) 5 (qz m) = some (qz (a 5 m)) := ga_ms h0 h (by omega)
theorem ua_5 (h0 : 0 ≤ m) (h : m < 600) (hv : v = 0 ∨ v = 1) : uA 2 (ms f a j) 5 (qz m) (qz v) = some (ms f (v2 a 5 m v) j) := ua_ms h0 h (by omega) (nar_2 hv)
theorem ga_6 (h0 : 0 ≤ m) (h : m < 2) : gA (ms f a j) 6 (qz m) = some (qz (a 6 m)) := ga_ms h0 h (by omega)
theorem ua_6 (h0 : 0 ≤ m) (h : m < 2) : uA 0 (ms f a j) 6 (qz m) (qz v) = some (ms f (v2 a 6 m v) j) := ua_ms h0 h (by omega) rfl
theorem ga_7 (h0 : 0 ≤ m) (h : m < 400) : gA (ms f a j) 7 (qz m) = some (qz (a 7 m)) := ga_ms h0 h (by omega)
theorem ua_7 (h0 : 0 ≤ m) (h : m < 400) : uA 0 (ms f a j) 7 (qz m) (qz v) = some (ms f (v2 a 7 m v) j) := ua_ms h0 h (by omega) rfl
theorem ga_8 (h0 : 0 ≤ m) (h : m < 400) : gA (ms f a j) 8 (qz m) = some (qz (a 8 m)) := ga_ms h0 h (by omega)
theorem ua_8 (h0 : 0 ≤ m) (h : m < 400) : uA 0 (ms f a j) 8 (qz m) (qz v) = some (ms f (v2 a 8 m v) j) := ua_ms h0 h (by omega) rfl
theorem ga_9 (h0 : 0 ≤ m) (h : m < 400) : gA (ms f a j) 9 (qz m) = some (qz (a 9 m)) := ga_ms h0 h (by omega)
theorem ua_9 (h0 : 0 ≤ m) (h : m < 400) : uA 0 (ms f a j) 9 (qz m) (qz v) = some (ms f (v2 a 9 m v) j) := ua_ms h0 h (by omega) rfl
theorem ga_10 (h0 : 0 ≤ m) (h : m < 400) : gA (ms f a j) 10 (qz m) = some (qz (a 10 m)) := ga_ms h0 h (by omega)
theorem ua_10 (h0 : 0 ≤ m) (h : m < 400) : uA 0 (ms f a j) 10 (qz m) (qz v) = some (ms f (v2 a 10 m v) j) := ua_ms h0 h (by omega) rfl
theorem ga_11 (h0 : 0 ≤ m) (h : m < 400) : gA (ms f a j) 11 (qz m) = some (qz (a 11 m)) := ga_ms h0 h (by omega)
theorem ua_11 (h0 : 0 ≤ m) (h : m < 400) : uA 0 (ms f a j) 11 (qz m) (qz v) = some (ms f (v2 a 11 m v) j) := ua_ms h0 h (by omega) rfl
theorem ga_12 (h0 : 0 ≤ m) (h : m < 400) : gA (ms f a j) 12 (qz m) = some (qz (a 12 m)) := ga_ms h0 h (by omega)
theorem ua_12 (h0 : 0 ≤ m) (h : m < 400) : uA 0 (ms f a j) 12 (qz m) (qz v) = some (ms f (v2 a 12 m v) j) := ua_ms h0 h (by omega) rfl
theorem ga_13 (h0 : 0 ≤ m) (h : m < 400) : gA (ms f a j) 13 (qz m) = some (qz (a 13 m)) := ga_ms h0 h (by omega)
theorem ua_13 (h0 : 0 ≤ m) (h : m < 400) : uA 0 (ms f a j) 13 (qz m) (qz v) = some (ms f (v2 a 13 m v) j) := ua_ms h0 h (by omega) rfl
theorem ga_14 (h0 : 0 ≤ m) (h : m < 400) : gA (ms f a j) 14 (qz m) = some (qz (a 14 m)) := ga_ms h0 h (by omega)
theorem ua_14 (h0 : 0 ≤ m) (h : m < 400) : uA 0 (ms f a j) 14 (qz m) (qz v) = some (ms f (v2 a 14 m v) j) := ua_ms h0 h (by omega) rfl
theorem ga_15 (h0 : 0 ≤ m) (h : m < 2) : gA (ms f a j) 15 (qz m) = some (qz (a 15 m)) := ga_ms h0 h (by omega)
theorem ua_15 (h0 : 0 ≤ m) (h : m < 2) : uA 0 (ms f a j) 15 (qz m) (qz v) = some (ms f (v2 a 15 m v) j) := ua_ms h0 h (by omega) rfl
theorem ga_16 (h0 : 0 ≤ m) (h : m < 8192) : gA (ms f a j) 16 (qz m) = some (qz (a 16 m)) := ga_ms h0 h (by omega)
theorem ua_16 (h0 : 0 ≤ m) (h : m < 8192) : uA 0 (ms f a j) 16 (qz m) (qz v) = some (ms f (v2 a 16 m v) j) := ua_ms h0 h (by omega) rfl
theorem ga_17 (h0 : 0 ≤ m) (h : m < 8192) : gA (ms f a j) 17 (qz m) = some (qz (a 17 m)) := ga_ms h0 h (by omega)
theorem ua_17 (h0 : 0 ≤ m) (h : m < 8192) : uA 0 (ms f a j) 17 (qz m) (qz v) = some (ms f (v2 a 17 m v) j) := ua_ms h0 h (by omega) rfl
theorem ga_18 (h0 : 0 ≤ m) (h : m < 8192) : gA (ms f a j) 18 (qz m) = some (qz (a 18 m)) := ga_ms h0 h (by omega)
theorem ua_18 (h0 : 0 ≤ m) (h : m < 8192) : uA 0 (ms f a j) 18 (qz m) (qz v) = some (ms f (v2 a 18 m v) j) := ua_ms h0 h (by omega) rfl
theorem gj_19 (h0 : 0 ≤ m) (h : m < 1600) : gJ (ms f a j) 19 (qz m) = some (j 19 m) := gj_ms h0 h (by omega)
theorem uj_19 (h0 : 0 ≤ m) (h : m < 1600) : uJ (ms f a j) 19 (qz m) y = some (ms f a (v2 j 19 m y)) := uj_ms h0 h (by omega)
theorem gj_20 (h0 : 0 ≤ m) (h : m < 1600) : gJ (ms f a j) 20 (qz m) = some (j 20 m) := gj_ms h0 h (by omega)
theorem uj_20 (h0 : 0 ≤ m) (h : m < 1600) : uJ (ms f a j) 20 (qz m) y = some (ms f a (v2 j 20 m y)) := uj_ms h0 h (by omega)
theorem ga_21 (h0 : 0 ≤ m) (h : m < 20480) : gA (ms f a j) 21 (qz m) = some (qz (a 21 m)) := ga_ms h0 h (by omega)
theorem ua_21 (h0 : 0 ≤ m) (h : m < 20480) : uA 0 (ms f a j) 21 (qz m) (qz v) = some (ms f (v2 a 21 m v) j) := ua_ms h0 h (by omega) rfl
theorem ga_22 (h0 : 0 ≤ m) (h : m < 20480) : gA (ms f a j) 22 (qz m) = some (qz (a 22 m)) := ga_ms h0 h (by omega)
theorem ua_22 (h0 : 0 ≤ m) (h : m < 20480) : uA 0 (ms f a j) 22 (qz m) (qz v) = some (ms f (v2 a 22 m v) j) := ua_ms h0 h (by omega) rfl
theorem ga_23 (h0 : 0 ≤ m) (h : m < 20480) : gA (ms f a j) 23 (qz m) = some (qz (a 23 m)) := ga_ms h0 h (by omega)
theorem ua_23 (h0 : 0 ≤ m) (h : m < 20480) : uA 0 (ms f a j) 23 (qz m) (qz v) = some (ms f (v2 a 23 m v) j) := ua_ms h0 h (by omega) rfl
theorem ga_24 (h0 : 0 ≤ m) (h : m < 20480) : gA (ms f a j) 24 (qz m) = some (qz (a 24 m)) := ga_ms h0 h (by omega)
theorem ua_24 (h0 : 0 ≤ m) (h : m < 20480) : uA 0 (ms f a j) 24 (qz m) (qz v) = some (ms f (v2 a 24 m v) j) := ua_ms h0 h (by omega) rfl
theorem ga_25 (h0 : 0 ≤ m) (h : m < 2) : gA (ms f a j) 25 (qz m) = some (qz (a 25 m)) := ga_ms h0 h (by omega)
theorem ua_25 (h0 : 0 ≤ m) (h : m < 2) : uA 0 (ms f a j) 25 (qz m) (qz v) = some (ms f (v2 a 25 m v) j) := ua_ms h0 h (by omega) rfl
theorem ga_26 (h0 : 0 ≤ m) (h : m < 300) : gA (ms f a j) 26 (qz m) = some (qz (a 26 m)) := ga_ms h0 h (by omega)
theorem ua_26 (h0 : 0 ≤ m) (h : m < 300) : uA 0 (ms f a j) 26 (qz m) (qz v) = some (ms f (v2 a 26 m v) j) := ua_ms h0 h (by omega) rfl
theorem ga_27 (h0 : 0 ≤ m) (h : m < 300) : gA (ms f a j) 27 (qz m) = some (qz (a 27 m)) := ga_ms h0 h (by omega)
theorem ua_27 (h0 : 0 ≤ m) (h : m < 300) : uA 0 (ms f a j) 27 (qz m) (qz v) = some (ms f (v2 a 27 m v) j) := ua_ms h0 h (by omega) rfl
theorem ga_28 (h0 : 0 ≤ m) (h : m < 200) : gA (ms f a j) 28 (qz m) = some (qz (a 28 m)) := ga_ms h0 h (by omega)
theorem ua_28 (h0 : 0 ≤ m) (h : m < 200) (hv : v = 0 ∨ v = 1) : uA 2 (ms f a j) 28 (qz m) (qz v) = some (ms f (v2 a 28 m v) j) := ua_ms h0 h (by omega) (nar_2 hv)
theorem ga_29 (h0 : 0 ≤ m) (h : m < 200) : gA (ms f a j) 29 (qz m) = some (qz (a 29 m)) := ga_ms h0 h (by omega)
theorem ua_29 (h0 : 0 ≤ m) (h : m < 200) : uA 0 (ms f a j) 29 (qz m) (qz v) = some (ms f (v2 a 29 m v) j) := ua_ms h0 h (by omega) rfl
theorem ga_30 (h0 : 0 ≤ m) (h : m < 200) : gA (ms f a j) 30 (qz m) = some (qz (a 30 m)) := ga_ms h0 h (by omega)
theorem ua_30 (h0 : 0 ≤ m) (h : m < 200) : uA 0 (ms f a j) 30 (qz m) (qz v) = some (ms f (v2 a 30 m v) j) := ua_ms h0 h (by omega) rfl
theorem ga_31 (h0 : 0 ≤ m) (h : m < 8) : gA (ms f a j) 31 (qz m) = some (qz (a 31 m)) := ga_ms h0 h (by omega)
theorem ua_31 (h0 : 0 ≤ m) (h : m < 8) : uA 0 (ms f a j) 31 (qz m) (qz v) = some (ms f (v2 a 31 m v) j) := ua_ms h0 h (by omega) rfl
theorem ga_32 (h0 : 0 ≤ m) (h : m < 600) : gA (ms f a j) 32 (qz m) = some (qz (a 32 m)) := ga_ms h0 h (by omega)
theorem ua_32 (h0 : 0 ≤ m) (h : m < 600) : uA 0 (ms f a j) 32 (qz m) (qz v) = some (ms f (v2 a 32 m v) j) := ua_ms h0 h (by omega) rfl
theorem ga_33 (h0 : 0 ≤ m) (h : m < 8192) : gA (ms f a j) 33 (qz m) = some (qz (a 33 m)) := ga_ms h0 h (by omega)
theorem ua_33 (h0 : 0 ≤ m) (h : m < 8192) : uA 0 (ms f a j) 33 (qz m) (qz v) = some (ms f (v2 a 33 m v) j) := ua_ms h0 h (by omega) rfl
theorem ga_34 (h0 : 0 ≤ m) (h : m < 1000) : gA (ms f a j) 34 (qz m) = some (qz (a 34 m)) := ga_ms h0 h (by omega)
theorem ua_34 (h0 : 0 ≤ m) (h : m < 1000) : uA 0 (ms f a j) 34 (qz m) (qz v) = some (ms f (v2 a 34 m v) j) := ua_ms h0 h (by omega) rfl
theorem ga_35 (h0 : 0 ≤ m) (h : m < 200) : gA (ms f a j) 35 (qz m) = some (qz (a 35 m)) := ga_ms h0 h (by omega)
theorem ua_35 (h0 : 0 ≤ m) (h : m < 200) : uA 0 (ms f a j) 35 (qz m) (qz v) = some (ms f (v2 a 35 m v) j) := ua_ms h0 h (by omega) rfl
theorem ga_36 (h0 : 0 ≤ m) (h : m < 1000) : gA (ms f a j) 36 (qz m) = some (qz (a 36 m)) := ga_ms h0 h (by omega)
theorem ua_36 (h0 : 0 ≤ m) (h : m < 1000) : uA 0 (ms f a j) 36 (qz m) (qz v) = some (ms f (v2 a 36 m v) j) := ua_ms h0 h (by omega) rfl
theorem ga_37 (h0 : 0 ≤ m) (h : m < 20000) : gA (ms f a j) 37 (qz m) = some (qz (a 37 m)) := ga_ms h0 h (by omega)
theorem ua_37 (h0 : 0 ≤ m) (h : m < 20000) : uA 0 (ms f a j) 37 (qz m) (qz v) = some (ms f (v2 a 37 m v) j) := ua_ms h0 h (by omega) rfl
theorem ga_38 (h0 : 0 ≤ m) (h : m < 100) : gA (ms f a j) 38 (qz m) = some (qz (a 38 m)) := ga_ms h0 h (by omega)
theorem ua_38 (h0 : 0 ≤ m) (h : m < 100) : uA 0 (ms f a j) 38 (qz m) (qz v) = some (ms f (v2 a 38 m v) j) := ua_ms h0 h (by omega) rfl
theorem ga_39 (h0 : 0 ≤ m) (h : m < 100) : gA (ms f a j) 39 (qz m) = some (qz (a 39 m)) := ga_ms h0 h (by omega)
theorem ua_39 (h0 : 0 ≤ m) (h : m < 100) : uA 0 (ms f a j) 39 (qz m) (qz v) = some (ms f (v2 a 39 m v) j) := ua_ms h0 h (by omega) rfl
theorem ga_40 (h0 : 0 ≤ m) (h : m < 40000) : gA (ms f a j) 40 (qz m) = some (qz (a 40 m)) := ga_ms h0 h (by omega)
theorem ua_40 (h0 : 0 ≤ m) (h : m < 40000) : uA 0 (ms f a j) 40 (qz m) (qz v) = some (ms f (v2 a 40 m v) j) := ua_ms h0 h (by omega) rfl
theorem ga_41 (h0 : 0 ≤ m) (h : m < 200) : gA (ms f a j) 41 (qz m) = some (qz (a 41 m)) := ga_ms h0 h (by omega)
theorem ua_41 (h0 : 0 ≤ m) (h : m < 200) : uA 0 (ms f a j) 41 (qz m) (qz v) = some (ms f (v2 a 41 m v) j) := ua_ms h0 h (by omega) rfl
theorem ga_42 (h0 : 0 ≤ m) (h : m < 200) : gA (ms f a j) 42 (qz m) = some (qz (a 42 m)) := ga_ms h0 h (by omega)
theorem ua_42 (h0 : 0 ≤ m) (h : m < 200) : uA 0 (ms f a j) 42 (qz m) (qz v) = some (ms f (v2 a 42 m v) j) := ua_ms h0 h (by omega) rfl
theorem ga_43 (h0 : 0 ≤ m) (h : m < 300) : gA (ms f a j) 43 (qz m) = some (qz (a 43 m)) := ga_ms h0 h (by omega)
theorem ua_43 (h0 : 0 ≤ m) (h : m < 300) : uA 0 (ms f a j) 43 (qz m) (qz v) = some (ms f (v2 a 43 m v) j) := ua_ms h0 h (by omega) rfl
theorem ga_44 (h0 : 0 ≤ m) (h : m < 1000) : gA (ms f a j) 44 (qz m) = some (qz (a 44 m)) := ga_ms h0 h (by omega)
theorem ua_44 (h0 : 0 ≤ m) (h : m < 1000) : uA 0 (ms f a j) 44 (qz m) (qz v) = some (ms f (v2 a 44 m v) j) := ua_ms h0 h (by omega) rfl
theorem ga_45 (h0 : 0 ≤ m) (h : m < 1000) : gA (ms f a j) 45 (qz m) = some (qz (a 45 m)) := ga_ms h0 h (by omega)
theorem ua_45 (h0 : 0 ≤ m) (h : m < 1000) : uA 0 (ms f a j) 45 (qz m) (qz v) = some (ms f (v2 a 45 m v) j) := ua_ms h0 h (by omega) rfl
theorem ga_46 (h0 : 0 ≤ m) (h : m < 1000) : gA (ms f a j) 46 (qz m) = some (qz (a 46 m)) := ga_ms h0 h (by omega)
theorem ua_46 (h0 : 0 ≤ m) (h : m < 1000) : uA 0 (ms f a j) 46 (qz m) (qz v) = some (ms f (v2 a 46 m v) j) := ua_ms h0 h (by omega) rfl
theorem ga_47 (h0 : 0 ≤ m) (h : m < 1000) : gA (ms f a j) 47 (qz m) = some (qz (a 47 m)) := ga_ms h0 h (by omega)
theorem ua_47 (h0 : 0 ≤ m) (h : m < 1000) : uA 0 (ms f a j) 47 (qz m) (qz v) = some (ms f (v2 a 47 m v) j) := ua_ms h0 h (by omega) rfl
theorem ga_48 (h0 : 0 ≤ m) (h : m < 20000) : gA (ms f a j) 48 (qz m) = some (qz (a 48 m)) := ga_ms h0 h (by omega)
theorem ua_48 (h0 : 0 ≤ m) (h : m < 20000) : uA 0 (ms f a j) 48 (qz m) (qz v) = some (ms f (v2 a 48 m v) j) := ua_ms h0 h (by omega) rfl
theorem ga_49 (h0 : 0 ≤ m) (h : m < 100) : gA (ms f a j) 49 (qz m) = some (qz (a 49 m)) := ga_ms h0 h (by omega)
theorem ua_49 (h0 : 0 ≤ m) (h : m < 100) : uA 0 (ms f a j) 49 (qz m) (qz v) = some (ms f (v2 a 49 m v) j) := ua_ms h0 h (by omega) rfl
theorem ga_50 (h0 : 0 ≤ m) (h : m < 1000) : gA (ms f a j) 50 (qz m) = some (qz (a 50 m)) := ga_ms h0 h (by omega)
theorem ua_50 (h0 : 0 ≤ m) (h : m < 1000) : uA 0 (ms f a j) 50 (qz m) (qz v) = some (ms f (v2 a 50 m v) j) := ua_ms h0 h (by omega) rfl
theorem ga_51 (h0 : 0 ≤ m) (h : m < 1000) : gA (ms f a j) 51 (qz m) = some (qz (a 51 m)) := ga_ms h0 h (by omega)
theorem ua_51 (h0 : 0 ≤ m) (h : m < 1000) : uA 0 (ms f a j) 51 (qz m) (qz v) = some (ms f (v2 a 51 m v) j) := ua_ms h0 h (by omega) rfl
theorem ga_52 (h0 : 0 ≤ m) (h : m < 1001) : gA (ms f a j) 52 (qz m) = some (qz (a 52 m)) := ga_ms h0 h (by omega)
theorem ua_52 (h0 : 0 ≤ m) (h : m < 1001) : uA 0 (ms f a j) 52 (qz m) (qz v) = some (ms f (v2 a 52 m v) j) := ua_ms h0 h (by omega) rfl
theorem ga_53 (h0 : 0 ≤ m) (h : m < 1001) : gA (ms f a j) 53 (qz m) = some (qz (a 53 m)) := ga_ms h0 h (by omega)
theorem ua_53 (h0 : 0 ≤ m) (h : m < 1001) : uA 0 (ms f a j) 53 (qz m) (qz v) = some (ms f (v2 a 53 m v) j) := ua_ms h0 h (by omega) rfl
theorem ga_54 (h0 : 0 ≤ m) (h : m < 1000) : gA (ms f a j) 54 (qz m) = some (qz (a 54 m)) := ga_ms h0 h (by omega)
theorem ua_54 (h0 : 0 ≤ m) (h : m < 1000) : uA 0 (ms f a j) 54 (qz m) (qz v) = some (ms f (v2 a 54 m v) j) := ua_ms h0 h (by omega) rfl
theorem ga_55 (h0 : 0 ≤ m) (h : m < 1000) : gA (ms f a j) 55 (qz m) = some (qz (a 55 m)) := ga_ms h0 h (by omega)
theorem ua_55 (h0 : 0 ≤ m) (h : m < 1000) : uA 0 (ms f a j) 55 (qz m) (qz v) = some (ms f (v2 a 55 m v) j) := ua_ms h0 h (by omega) rfl
theorem ga_56 (h0 : 0 ≤ m) (h : m < 200) : gA (ms f a j) 56 (qz m) = some (qz (a 56 m)) := ga_ms h0 h (by omega)
theorem ua_56 (h0 : 0 ≤ m) (h : m < 200) : uA 0 (ms f a j) 56 (qz m) (qz v) = some (ms f (v2 a 56 m v) j) := ua_ms h0 h (by omega) rfl
theorem ga_57 (h0 : 0 ≤ m) (h : m < 6000) : gA (ms f a j) 57 (qz m) = some (qz (a 57 m)) := ga_ms h0 h (by omega)
theorem ua_57 (h0 : 0 ≤ m) (h : m < 6000) : uA 0 (ms f a j) 57 (qz m) (qz v) = some (ms f (v2 a 57 m v) j) := ua_ms h0 h (by omega) rfl
theorem ga_58 (h0 : 0 ≤ m) (h : m < 6000) : gA (ms f a j) 58 (qz m) = some (qz (a 58 m)) := ga_ms h0 h (by omega)
theorem ua_58 (h0 : 0 ≤ m) (h : m < 6000) : uA 0 (ms f a j) 58 (qz m) (qz v) = some (ms f (v2 a 58 m v) j) := ua_ms h0 h (by omega) rfl
theorem ga_59 (h0 : 0 ≤ m) (h : m < 200) : gA (ms f a j) 59 (qz m) = some (qz (a 59 m)) := ga_ms h0 h (by omega)
theorem ua_59 (h0 : 0 ≤ m) (h : m < 200) (hv : v = 0 ∨ v = 1) : uA 2 (ms f a j) 59 (qz m) (qz v) = some (ms f (v2 a 59 m v) j) := ua_ms h0 h (by omega) (nar_2 hv)
theorem ga_60 (h0 : 0 ≤ m) (h : m < 2002) : gA (ms f a j) 60 (qz m) = some (qz (a 60 m)) := ga_ms h0 h (by omega)
theorem ua_60 (h0 : 0 ≤ m) (h : m < 2002) : uA 0 (ms f a j) 60 (qz m) (qz v) = some (ms f (v2 a 60 m v) j) := ua_ms h0 h (by omega) rfl
end MS
