def pC (d : Nat → Nat) (i k : Nat) : Nat := if i = 0 ∧ k = 0 then d 0 else if i = 0 ∧ k = 1 then d 1 else if i = 0 ∧ k = 7 then d 2 else if i = 0 ∧ k = 8 then d 3 else if i = 65 ∧ k = 1 then d 4 else if i = 77 ∧ k = 3 then d 5 else if i = 78 ∧ k = 6 then d 6 else if i = 83 ∧ k = 2 then d 7 else if i = 93 ∧ k = 2 then d 8 else if i = 103 ∧ k = 0 then d 9 else if i = 103 ∧ k = 1 then d 10 else pC0 i k
def nC (ni : Nat → Nat) (i : Nat) : Nat := if tC0 i = 4 then ni i else nC0 i
def cs (f : Nat → Nat → Int) (d : Nat → Nat) (a : Nat → Int → Int) (ni : Nat → Nat) (j : Nat → Int → Int64) : st_T := (fun i k => qz (f i k), pC d, fun i (k : Nat) => qz (a i k), nC ni, fun i (k : Nat) => j i k)
/-- one of the two books -/
def bks (b : Nat) : Prop := b = 1 ∨ b = 33
theorem u2_a {α : Type} {f : Nat → Nat → α} {i k : Nat} {v : α} : u2 f i k v i k = v := by simp [u2]
theorem u2_b {α : Type} {f : Nat → Nat → α} {i k i2 : Nat} {v : α} (h : i2 ≠ i) : u2 f i k v i2 = f i2 := u2_o h
theorem u2_c {α : Type} {f : Nat → Nat → α} {i k i2 k2 : Nat} {v : α} (h : k2 ≠ k) : u2 f i k v i2 k2 = f i2 k2 := by
  unfold u2
  by_cases e : i2 = i
  · subst e; simp [h]
  · simp [e]
theorem u2_d {α : Type} {f : Nat → Nat → α} {i k : Nat} {v w : α} : u2 (u2 f i k v) i k w = u2 f i k w := by
  funext x y
  by_cases h : x = i <;> by_cases h2 : y = k <;> simp [u2, h, h2]
theorem u2_id {α : Type} {f : Nat → Nat → α} {i k : Nat} {v : α} (h : f i k = v) : u2 f i k v = f := by
  funext x y
  by_cases h1 : x = i
  · subst h1
    by_cases h2 : y = k
    · subst h2; simp [u2, h]
    · simp [u2, h2]
  · simp [u2, h1]
section CS
variable {f : Nat → Nat → Int} {d : Nat → Nat} {a : Nat → Int → Int} {ni : Nat → Nat} {j : Nat → Int → Int64} {i k q b : Nat} {m v : Int} {y : Int64}
theorem gf_cs : gF (cs f d a ni j) i k = qz (f i k) := id rfl
theorem wf_cs : wF (cs f d a ni j) i k (qz v) = some (cs (u2 f i k v) d a ni j) := by
  have e : u2 (fun i k => qz (f i k)) i k (qz v) = fun x y => qz (u2 f i k v x y) := by
    funext x y
    by_cases h : x = i <;> by_cases h2 : y = k <;> simp [u2, h, h2]
  unfold wF uF cs
  simp only [e]
theorem ga_cs (h0 : 0 ≤ m) (h : m < (nC ni i : Int)) (h2 : m < 2147483648) : gA (cs f d a ni j) i (qz m) = some (qz (a i m)) := by
  rw [gA_n (s := cs f d a ni j) h0 h h2]
  show some (qz (a i (m.toNat : Int))) = _
  rw [show ((m.toNat : Nat) : Int) = m by omega]
theorem gj_cs (h0 : 0 ≤ m) (h : m < (nC ni i : Int)) (h2 : m < 2147483648) : gJ (cs f d a ni j) i (qz m) = some (j i m) := by
  rw [gJ_n (s := cs f d a ni j) h0 h h2]
  show some (j i (m.toNat : Int)) = _
  rw [show ((m.toNat : Nat) : Int) = m by omega]
theorem ua_cs {t : Nat} (h0 : 0 ≤ m) (h : m < (nC ni i : Int)) (h2 : m < 2147483648) (ht : hp_nar t (qz v) = qz v) : uA t (cs f d a ni j) i (qz m) (qz v) = some (cs f d (v2 a i m v) ni j) := by
  rw [uA_n (s := cs f d a ni j) h0 h h2, ht]
  show some ((cs f d a ni j).1, _, u2 (fun i (k : Nat) => qz (a i k)) i m.toNat (qz v), _) = _
  rw [u2_v2 h0]
  rfl
theorem uj_cs (h0 : 0 ≤ m) (h : m < (nC ni i : Int)) (h2 : m < 2147483648) : uJ (cs f d a ni j) i (qz m) y = some (cs f d a ni (v2 j i m y)) := by
  rw [uJ_n (s := cs f d a ni j) h0 h h2]
  show some ((cs f d a ni j).1, _, _, _, u2 (fun i (k : Nat) => j i k) i m.toNat y) = _
  rw [u2_w2 h0]
  rfl
theorem nar_1 (h : -128 ≤ v) (h2 : v < 128) : hp_nar 1 (qz v) = qz v := by
  have key : ∀ x : Fin 256, hp_nar 1 (qz ((x : Int) - 128)) = qz ((x : Int) - 128) := by decide +kernel
  have := key ⟨(v + 128).toNat, by omega⟩
  have e : (((v + 128).toNat : Nat) : Int) - 128 = v := by omega
  simp only [e] at this
  exact this
theorem wp_cs {P2 : Nat → Nat → Nat} {d2 : Nat → Nat} (e : u2 (pC d) i k q = pC d2) : wP (cs f d a ni j) i k q = some (cs f d2 a ni j) := by
  unfold wP uP cs
  simp only [e]
theorem wp_0_0 : wP (cs f d a ni j) 0 0 q = some (cs f (u1 d 0 q) a ni j) := by
  apply wp_cs (P2 := pC d)
  funext x y
  by_cases h : x = 0 ∧ y = 0
  · obtain ⟨rfl, rfl⟩ := h
    simp [u2, pC, u1]
  · have e : u2 (pC d) 0 0 q x y = pC d x y := by
      unfold u2
      by_cases h1 : x = 0
      · subst h1
        have : y ≠ 0 := fun z => h ⟨rfl, z⟩
        simp [this]
      · simp [h1]
    rw [e]
    unfold pC u1
    simp [h]
theorem gpc_0_0 : gP (cs f d a ni j) 0 0 = d 0 := id rfl
theorem wp_0_1 : wP (cs f d a ni j) 0 1 q = some (cs f (u1 d 1 q) a ni j) := by
  apply wp_cs (P2 := pC d)
  funext x y
  by_cases h : x = 0 ∧ y = 1
  · obtain ⟨rfl, rfl⟩ := h
    simp [u2, pC, u1]
  · have e : u2 (pC d) 0 1 q x y = pC d x y := by
      unfold u2
      by_cases h1 : x = 0
      · subst h1
        have : y ≠ 1 := fun z => h ⟨rfl, z⟩
        simp [this]
      · simp [h1]
    rw [e]
    unfold pC u1
    simp [h]
theorem gpc_0_1 : gP (cs f d a ni j) 0 1 = d 1 := id rfl
theorem wp_0_7 : wP (cs f d a ni j) 0 7 q = some (cs f (u1 d 2 q) a ni j) := by
  apply wp_cs (P2 := pC d)
  funext x y
  by_cases h : x = 0 ∧ y = 7
  · obtain ⟨rfl, rfl⟩ := h
    simp [u2, pC, u1]
  · have e : u2 (pC d) 0 7 q x y = pC d x y := by
      unfold u2
      by_cases h1 : x = 0
      · subst h1
        have : y ≠ 7 := fun z => h ⟨rfl, z⟩
        simp [this]
      · simp [h1]
    rw [e]
    unfold pC u1
    simp [h]
theorem gpc_0_7 : gP (cs f d a ni j) 0 7 = d 2 := id rfl
theorem wp_0_8 : wP (cs f d a ni j) 0 8 q = some (cs f (u1 d 3 q) a ni j) := by
  apply wp_cs (P2 := pC d)
  funext x y
  by_cases h : x = 0 ∧ y = 8
  · obtain ⟨rfl, rfl⟩ := h
    simp [u2, pC, u1]
  · have e : u2 (pC d) 0 8 q x y = pC d x y := by
      unfold u2
      by_cases h1 : x = 0
      · subst h1
        have : y ≠ 8 := fun z => h ⟨rfl, z⟩
        simp [this]
      · simp [h1]
    rw [e]
    unfold pC u1
    simp [h]
theorem gpc_0_8 : gP (cs f d a ni j) 0 8 = d 3 := id rfl
theorem wp_65_1 : wP (cs f d a ni j) 65 1 q = some (cs f (u1 d 4 q) a ni j) := by
  apply wp_cs (P2 := pC d)
  funext x y
  by_cases h : x = 65 ∧ y = 1
  · obtain ⟨rfl, rfl⟩ := h
    simp [u2, pC, u1]
  · have e : u2 (pC d) 65 1 q x y = pC d x y := by
      unfold u2
      by_cases h1 : x = 65
      · subst h1
        have : y ≠ 1 := fun z => h ⟨rfl, z⟩
        simp [this]
      · simp [h1]
    rw [e]
    unfold pC u1
    simp [h]
theorem gpc_65_1 : gP (cs f d a ni j) 65 1 = d 4 := id rfl
theorem wp_77_3 : wP (cs f d a ni j) 77 3 q = some (cs f (u1 d 5 q) a ni j) := by
  apply wp_cs (P2 := pC d)
  funext x y
  by_cases h : x = 77 ∧ y = 3
  · obtain ⟨rfl, rfl⟩ := h
    simp [u2, pC, u1]
  · have e : u2 (pC d) 77 3 q x y = pC d x y := by
      unfold u2
      by_cases h1 : x = 77
      · subst h1
        have : y ≠ 3 := fun z => h ⟨rfl, z⟩
        simp [this]
      · simp [h1]
    rw [e]
    unfold pC u1
    simp [h]
theorem gpc_77_3 : gP (cs f d a ni j) 77 3 = d 5 := id rfl
theorem wp_78_6 : wP (cs f d a ni j) 78 6 q = some (cs f (u1 d 6 q) a ni j) := by
  apply wp_cs (P2 := pC d)
  funext x y
  by_cases h : x = 78 ∧ y = 6
  · obtain ⟨rfl, rfl⟩ := h
    simp [u2, pC, u1]
  · have e : u2 (pC d) 78 6 q x y = pC d x y := by
      unfold u2
      by_cases h1 : x = 78
      · subst h1
        have : y ≠ 6 := fun z => h ⟨rfl, z⟩
        simp [this]
      · simp [h1]
    rw [e]
    unfold pC u1
    simp [h]
theorem gpc_78_6 : gP (cs f d a ni j) 78 6 = d 6 := id rfl
theorem wp_83_2 : wP (cs f d a ni j) 83 2 q = some (cs f (u1 d 7 q) a ni j) := by
  apply wp_cs (P2 := pC d)
  funext x y
  by_cases h : x = 83 ∧ y = 2
  · obtain ⟨rfl, rfl⟩ := h
    simp [u2, pC, u1]
  · have e : u2 (pC d) 83 2 q x y = pC d x y := by
      unfold u2
      by_cases h1 : x = 83
      · subst h1
        have : y ≠ 2 := fun z => h ⟨rfl, z⟩
        simp [this]
      · simp [h1]
    rw [e]
    unfold pC u1
    simp [h]
theorem gpc_83_2 : gP (cs f d a ni j) 83 2 = d 7 := id rfl
theorem wp_93_2 : wP (cs f d a ni j) 93 2 q = some (cs f (u1 d 8 q) a ni j) := by
  apply wp_cs (P2 := pC d)
  funext x y
  by_cases h : x = 93 ∧ y = 2
  · obtain ⟨rfl, rfl⟩ := h
    simp [u2, pC, u1]
  · have e : u2 (pC d) 93 2 q x y = pC d x y := by
      unfold u2
      by_cases h1 : x = 93
      · subst h1
        have : y ≠ 2 := fun z => h ⟨rfl, z⟩
        simp [this]
      · simp [h1]
    rw [e]
    unfold pC u1
    simp [h]
theorem gpc_93_2 : gP (cs f d a ni j) 93 2 = d 8 := id rfl
theorem wp_103_0 : wP (cs f d a ni j) 103 0 q = some (cs f (u1 d 9 q) a ni j) := by
  apply wp_cs (P2 := pC d)
  funext x y
  by_cases h : x = 103 ∧ y = 0
  · obtain ⟨rfl, rfl⟩ := h
    simp [u2, pC, u1]
  · have e : u2 (pC d) 103 0 q x y = pC d x y := by
      unfold u2
      by_cases h1 : x = 103
      · subst h1
        have : y ≠ 0 := fun z => h ⟨rfl, z⟩
        simp [this]
      · simp [h1]
    rw [e]
    unfold pC u1
    simp [h]
theorem gpc_103_0 : gP (cs f d a ni j) 103 0 = d 9 := id rfl
theorem wp_103_1 : wP (cs f d a ni j) 103 1 q = some (cs f (u1 d 10 q) a ni j) := by
  apply wp_cs (P2 := pC d)
  funext x y
  by_cases h : x = 103 ∧ y = 1
  · obtain ⟨rfl, rfl⟩ := h
    simp [u2, pC, u1]
  · have e : u2 (pC d) 103 1 q x y = pC d x y := by
      unfold u2
      by_cases h1 : x = 103
      · subst h1
        have : y ≠ 1 := fun z => h ⟨rfl, z⟩
        simp [this]
      · simp [h1]
    rw [e]
    unfold pC u1
    simp [h]
theorem gpc_103_1 : gP (cs f d a ni j) 103 1 = d 10 := id rfl
theorem gpc_0_2 : gP (cs f d a ni j) 0 2 = 65 := id rfl
theorem gpc_0_3 : gP (cs f d a ni j) 0 3 = 78 := id rfl
theorem gpc_0_4 : gP (cs f d a ni j) 0 4 = 83 := id rfl
theorem gpc_0_5 : gP (cs f d a ni j) 0 5 = 93 := id rfl
theorem gpc_0_6 : gP (cs f d a ni j) 0 6 = 103 := id rfl
theorem gpc_65_2 : gP (cs f d a ni j) 65 2 = 77 := id rfl
theorem gpc_65_3 : gP (cs f d a ni j) 65 3 = 66 := id rfl
theorem gpc_65_10 : gP (cs f d a ni j) 65 10 = 76 := id rfl
theorem gpc_66_1 : gP (cs f d a ni j) 66 1 = 67 := id rfl
theorem gpc_66_2 : gP (cs f d a ni j) 66 2 = 68 := id rfl
theorem gpc_66_3 : gP (cs f d a ni j) 66 3 = 69 := id rfl
theorem gpc_66_5 : gP (cs f d a ni j) 66 5 = 70 := id rfl
theorem gpc_66_6 : gP (cs f d a ni j) 66 6 = 71 := id rfl
theorem gpc_66_7 : gP (cs f d a ni j) 66 7 = 72 := id rfl
theorem gpc_66_8 : gP (cs f d a ni j) 66 8 = 73 := id rfl
theorem gpc_66_10 : gP (cs f d a ni j) 66 10 = 74 := id rfl
theorem gpc_66_11 : gP (cs f d a ni j) 66 11 = 75 := id rfl
theorem gpc_78_3 : gP (cs f d a ni j) 78 3 = 79 := id rfl
theorem gpc_78_4 : gP (cs f d a ni j) 78 4 = 80 := id rfl
theorem gpc_78_7 : gP (cs f d a ni j) 78 7 = 81 := id rfl
theorem gpc_78_9 : gP (cs f d a ni j) 78 9 = 82 := id rfl
theorem gpc_83_0 : gP (cs f d a ni j) 83 0 = 84 := id rfl
theorem gpc_83_1 : gP (cs f d a ni j) 83 1 = 87 := id rfl
theorem gpc_83_3 : gP (cs f d a ni j) 83 3 = 90 := id rfl
theorem gpc_83_4 : gP (cs f d a ni j) 83 4 = 91 := id rfl
theorem gpc_83_5 : gP (cs f d a ni j) 83 5 = 92 := id rfl
theorem gpc_93_0 : gP (cs f d a ni j) 93 0 = 94 := id rfl
theorem gpc_93_1 : gP (cs f d a ni j) 93 1 = 97 := id rfl
theorem gpc_93_3 : gP (cs f d a ni j) 93 3 = 100 := id rfl
theorem gpc_93_4 : gP (cs f d a ni j) 93 4 = 101 := id rfl
theorem gpc_93_5 : gP (cs f d a ni j) 93 5 = 102 := id rfl
theorem gpc_103_4 : gP (cs f d a ni j) 103 4 = 104 := id rfl
theorem gpc_103_5 : gP (cs f d a ni j) 103 5 = 105 := id rfl
theorem gpc_103_6 : gP (cs f d a ni j) 103 6 = 108 := id rfl
theorem gpc_103_7 : gP (cs f d a ni j) 103 7 = 109 := id rfl
theorem gpc_103_8 : gP (cs f d a ni j) 103 8 = 110 := id rfl
theorem gpc_103_9 : gP (cs f d a ni j) 103 9 = 111 := id rfl
theorem gpc_103_10 : gP (cs f d a ni j) 103 10 = 112 := id rfl
theorem gpc_103_11 : gP (cs f d a ni j) 103 11 = 113 := id rfl
theorem gpc_103_13 : gP (cs f d a ni j) 103 13 = 114 := id rfl
theorem gpc_103_14 : gP (cs f d a ni j) 103 14 = 115 := id rfl
theorem gpc_103_16 : gP (cs f d a ni j) 103 16 = 116 := id rfl
theorem gpc_117_0 : gP (cs f d a ni j) 117 0 = 118 := id rfl
theorem gpc_119_0 : gP (cs f d a ni j) 119 0 = 120 := id rfl
theorem gpb_0 (h : bks b) : gP (cs f d a ni j) b 0 = b + 1 := by rcases h with rfl | rfl <;> rfl
theorem gpb_1 (h : bks b) : gP (cs f d a ni j) b 1 = b + 2 := by rcases h with rfl | rfl <;> rfl
theorem gpb_4 (h : bks b) : gP (cs f d a ni j) b 4 = b + 7 := by rcases h with rfl | rfl <;> rfl
theorem gpb_6 (h : bks b) : gP (cs f d a ni j) b 6 = b + 8 := by rcases h with rfl | rfl <;> rfl
theorem gpb_7 (h : bks b) : gP (cs f d a ni j) b 7 = b + 9 := by rcases h with rfl | rfl <;> rfl
theorem gpb_8 (h : bks b) : gP (cs f d a ni j) b 8 = b + 10 := by rcases h with rfl | rfl <;> rfl
theorem gpb_9 (h : bks b) : gP (cs f d a ni j) b 9 = b + 11 := by rcases h with rfl | rfl <;> rfl
theorem gpb_10 (h : bks b) : gP (cs f d a ni j) b 10 = b + 14 := by rcases h with rfl | rfl <;> rfl
theorem gpb_11 (h : bks b) : gP (cs f d a ni j) b 11 = b + 17 := by rcases h with rfl | rfl <;> rfl
theorem gpb_12 (h : bks b) : gP (cs f d a ni j) b 12 = b + 20 := by rcases h with rfl | rfl <;> rfl
theorem gpb_13 (h : bks b) : gP (cs f d a ni j) b 13 = b + 23 := by rcases h with rfl | rfl <;> rfl
theorem gpb_14 (h : bks b) : gP (cs f d a ni j) b 14 = b + 26 := by rcases h with rfl | rfl <;> rfl
theorem gpb_15 (h : bks b) : gP (cs f d a ni j) b 15 = b + 29 := by rcases h with rfl | rfl <;> rfl
theorem gpb_16 (h : bks b) : gP (cs f d a ni j) b 16 = b + 30 := by rcases h with rfl | rfl <;> rfl
theorem gpb_17 (h : bks b) : gP (cs f d a ni j) b 17 = b + 31 := by rcases h with rfl | rfl <;> rfl
theorem gpn_0 (h : bks b) : gP (cs f d a ni j) (b + 1) 0 = b + 2 := by rcases h with rfl | rfl <;> rfl
theorem gpn_1 (h : bks b) : gP (cs f d a ni j) (b + 1) 1 = b + 3 := by rcases h with rfl | rfl <;> rfl
theorem gpn_2 (h : bks b) : gP (cs f d a ni j) (b + 1) 2 = b + 4 := by rcases h with rfl | rfl <;> rfl
theorem gpn_3 (h : bks b) : gP (cs f d a ni j) (b + 1) 3 = b + 5 := by rcases h with rfl | rfl <;> rfl
theorem gpn_4 (h : bks b) : gP (cs f d a ni j) (b + 1) 4 = b + 6 := by rcases h with rfl | rfl <;> rfl
theorem gab_2 (hb : bks b) (h0 : 0 ≤ m) (h : m < 8192) : gA (cs f d a ni j) (b + 2) (qz m) = some (qz (a (b + 2) m)) := by
  rcases hb with rfl | rfl <;> exact ga_cs h0 h (by omega)
theorem uab_2 (hb : bks b) (h0 : 0 ≤ m) (h : m < 8192) (hv : -128 ≤ v) (hw : v < 128) : uA 1 (cs f d a ni j) (b + 2) (qz m) (qz v) = some (cs f d (v2 a (b + 2) m v) ni j) := by
  rcases hb with rfl | rfl <;> exact ua_cs h0 h (by omega) (nar_1 hv hw)
theorem gab_3 (hb : bks b) (h0 : 0 ≤ m) (h : m < 256) : gA (cs f d a ni j) (b + 3) (qz m) = some (qz (a (b + 3) m)) := by
  rcases hb with rfl | rfl <;> exact ga_cs h0 h (by omega)
theorem uab_3 (hb : bks b) (h0 : 0 ≤ m) (h : m < 256) : uA 0 (cs f d a ni j) (b + 3) (qz m) (qz v) = some (cs f d (v2 a (b + 3) m v) ni j) := by
  rcases hb with rfl | rfl <;> exact ua_cs h0 h (by omega) (rfl)
theorem gab_4 (hb : bks b) (h0 : 0 ≤ m) (h : m < 500) : gA (cs f d a ni j) (b + 4) (qz m) = some (qz (a (b + 4) m)) := by
  rcases hb with rfl | rfl <;> exact ga_cs h0 h (by omega)
theorem uab_4 (hb : bks b) (h0 : 0 ≤ m) (h : m < 500) : uA 0 (cs f d a ni j) (b + 4) (qz m) (qz v) = some (cs f d (v2 a (b + 4) m v) ni j) := by
  rcases hb with rfl | rfl <;> exact ua_cs h0 h (by omega) (rfl)
theorem gab_5 (hb : bks b) (h0 : 0 ≤ m) (h : m < 500) : gA (cs f d a ni j) (b + 5) (qz m) = some (qz (a (b + 5) m)) := by
  rcases hb with rfl | rfl <;> exact ga_cs h0 h (by omega)
theorem uab_5 (hb : bks b) (h0 : 0 ≤ m) (h : m < 500) : uA 0 (cs f d a ni j) (b + 5) (qz m) (qz v) = some (cs f d (v2 a (b + 5) m v) ni j) := by
  rcases hb with rfl | rfl <;> exact ua_cs h0 h (by omega) (rfl)
theorem gab_6 (hb : bks b) (h0 : 0 ≤ m) (h : m < 500) : gA (cs f d a ni j) (b + 6) (qz m) = some (qz (a (b + 6) m)) := by
  rcases hb with rfl | rfl <;> exact ga_cs h0 h (by omega)
theorem uab_6 (hb : bks b) (h0 : 0 ≤ m) (h : m < 500) : uA 0 (cs f d a ni j) (b + 6) (qz m) (qz v) = some (cs f d (v2 a (b + 6) m v) ni j) := by
  rcases hb with rfl | rfl <;> exact ua_cs h0 h (by omega) (rfl)
theorem gab_7 (hb : bks b) (h0 : 0 ≤ m) (h : m < 300) : gA (cs f d a ni j) (b + 7) (qz m) = some (qz (a (b + 7) m)) := by
  rcases hb with rfl | rfl <;> exact ga_cs h0 h (by omega)
theorem uab_7 (hb : bks b) (h0 : 0 ≤ m) (h : m < 300) (hv : -128 ≤ v) (hw : v < 128) : uA 1 (cs f d a ni j) (b + 7) (qz m) (qz v) = some (cs f d (v2 a (b + 7) m v) ni j) := by
  rcases hb with rfl | rfl <;> exact ua_cs h0 h (by omega) (nar_1 hv hw)
theorem gab_8 (hb : bks b) (h0 : 0 ≤ m) (h : m < 200) : gA (cs f d a ni j) (b + 8) (qz m) = some (qz (a (b + 8) m)) := by
  rcases hb with rfl | rfl <;> exact ga_cs h0 h (by omega)
theorem uab_8 (hb : bks b) (h0 : 0 ≤ m) (h : m < 200) : uA 0 (cs f d a ni j) (b + 8) (qz m) (qz v) = some (cs f d (v2 a (b + 8) m v) ni j) := by
  rcases hb with rfl | rfl <;> exact ua_cs h0 h (by omega) (rfl)
theorem gab_9 (hb : bks b) (h0 : 0 ≤ m) (h : m < 200) : gA (cs f d a ni j) (b + 9) (qz m) = some (qz (a (b + 9) m)) := by
  rcases hb with rfl | rfl <;> exact ga_cs h0 h (by omega)
theorem uab_9 (hb : bks b) (h0 : 0 ≤ m) (h : m < 200) : uA 0 (cs f d a ni j) (b + 9) (qz m) (qz v) = some (cs f d (v2 a (b + 9) m v) ni j) := by
  rcases hb with rfl | rfl <;> exact ua_cs h0 h (by omega) (rfl)
theorem gab_10 (hb : bks b) (h0 : 0 ≤ m) (h : m < 200) : gA (cs f d a ni j) (b + 10) (qz m) = some (qz (a (b + 10) m)) := by
  rcases hb with rfl | rfl <;> exact ga_cs h0 h (by omega)
theorem uab_10 (hb : bks b) (h0 : 0 ≤ m) (h : m < 200) : uA 0 (cs f d a ni j) (b + 10) (qz m) (qz v) = some (cs f d (v2 a (b + 10) m v) ni j) := by
  rcases hb with rfl | rfl <;> exact ua_cs h0 h (by omega) (rfl)
theorem gab_29 (hb : bks b) (h0 : 0 ≤ m) (h : m < 200) : gA (cs f d a ni j) (b + 29) (qz m) = some (qz (a (b + 29) m)) := by
  rcases hb with rfl | rfl <;> exact ga_cs h0 h (by omega)
theorem uab_29 (hb : bks b) (h0 : 0 ≤ m) (h : m < 200) (hv : -128 ≤ v) (hw : v < 128) : uA 1 (cs f d a ni j) (b + 29) (qz m) (qz v) = some (cs f d (v2 a (b + 29) m v) ni j) := by
  rcases hb with rfl | rfl <;> exact ua_cs h0 h (by omega) (nar_1 hv hw)
theorem gab_30 (hb : bks b) (h0 : 0 ≤ m) (h : m < 200) : gA (cs f d a ni j) (b + 30) (qz m) = some (qz (a (b + 30) m)) := by
  rcases hb with rfl | rfl <;> exact ga_cs h0 h (by omega)
theorem uab_30 (hb : bks b) (h0 : 0 ≤ m) (h : m < 200) : uA 0 (cs f d a ni j) (b + 30) (qz m) (qz v) = some (cs f d (v2 a (b + 30) m v) ni j) := by
  rcases hb with rfl | rfl <;> exact ua_cs h0 h (by omega) (rfl)
theorem gjb_31 (hb : bks b) (h0 : 0 ≤ m) (h : m < 800) : gJ (cs f d a ni j) (b + 31) (qz m) = some (j (b + 31) m) := by
  rcases hb with rfl | rfl <;> exact gj_cs h0 h (by omega)
theorem ujb_31 (hb : bks b) (h0 : 0 ≤ m) (h : m < 800) : uJ (cs f d a ni j) (b + 31) (qz m) y = some (cs f d a ni (v2 j (b + 31) m y)) := by
  rcases hb with rfl | rfl <;> exact uj_cs h0 h (by omega)
theorem gac_67 (h0 : 0 ≤ m) (h : m < 16) : gA (cs f d a ni j) 67 (qz m) = some (qz (a 67 m)) := by
  exact ga_cs h0 h (by omega)
theorem uac_67 (h0 : 0 ≤ m) (h : m < 16) : uA 0 (cs f d a ni j) 67 (qz m) (qz v) = some (cs f d (v2 a 67 m v) ni j) := by
  exact ua_cs h0 h (by omega) (rfl)
theorem gac_68 (h0 : 0 ≤ m) (h : m < 16) : gA (cs f d a ni j) 68 (qz m) = some (qz (a 68 m)) := by
  exact ga_cs h0 h (by omega)
theorem uac_68 (h0 : 0 ≤ m) (h : m < 16) : uA 0 (cs f d a ni j) 68 (qz m) (qz v) = some (cs f d (v2 a 68 m v) ni j) := by
  exact ua_cs h0 h (by omega) (rfl)
theorem gac_69 (h0 : 0 ≤ m) (h : m < 300) : gA (cs f d a ni j) 69 (qz m) = some (qz (a 69 m)) := by
  exact ga_cs h0 h (by omega)
theorem uac_69 (h0 : 0 ≤ m) (h : m < 300) : uA 0 (cs f d a ni j) 69 (qz m) (qz v) = some (cs f d (v2 a 69 m v) ni j) := by
  exact ua_cs h0 h (by omega) (rfl)
theorem gac_70 (h0 : 0 ≤ m) (h : m < 300) : gA (cs f d a ni j) 70 (qz m) = some (qz (a 70 m)) := by
  exact ga_cs h0 h (by omega)
theorem uac_70 (h0 : 0 ≤ m) (h : m < 300) (hv : -128 ≤ v) (hw : v < 128) : uA 1 (cs f d a ni j) 70 (qz m) (qz v) = some (cs f d (v2 a 70 m v) ni j) := by
  exact ua_cs h0 h (by omega) (nar_1 hv hw)
theorem gac_71 (h0 : 0 ≤ m) (h : m < 300) : gA (cs f d a ni j) 71 (qz m) = some (qz (a 71 m)) := by
  exact ga_cs h0 h (by omega)
theorem uac_71 (h0 : 0 ≤ m) (h : m < 300) (hv : -128 ≤ v) (hw : v < 128) : uA 1 (cs f d a ni j) 71 (qz m) (qz v) = some (cs f d (v2 a 71 m v) ni j) := by
  exact ua_cs h0 h (by omega) (nar_1 hv hw)
theorem gac_72 (h0 : 0 ≤ m) (h : m < 300) : gA (cs f d a ni j) 72 (qz m) = some (qz (a 72 m)) := by
  exact ga_cs h0 h (by omega)
theorem uac_72 (h0 : 0 ≤ m) (h : m < 300) : uA 0 (cs f d a ni j) 72 (qz m) (qz v) = some (cs f d (v2 a 72 m v) ni j) := by
  exact ua_cs h0 h (by omega) (rfl)
theorem gac_73 (h0 : 0 ≤ m) (h : m < 200) : gA (cs f d a ni j) 73 (qz m) = some (qz (a 73 m)) := by
  exact ga_cs h0 h (by omega)
theorem uac_73 (h0 : 0 ≤ m) (h : m < 200) : uA 0 (cs f d a ni j) 73 (qz m) (qz v) = some (cs f d (v2 a 73 m v) ni j) := by
  exact ua_cs h0 h (by omega) (rfl)
theorem gac_74 (h0 : 0 ≤ m) (h : m < 200) : gA (cs f d a ni j) 74 (qz m) = some (qz (a 74 m)) := by
  exact ga_cs h0 h (by omega)
theorem uac_74 (h0 : 0 ≤ m) (h : m < 200) : uA 0 (cs f d a ni j) 74 (qz m) (qz v) = some (cs f d (v2 a 74 m v) ni j) := by
  exact ua_cs h0 h (by omega) (rfl)
theorem gac_75 (h0 : 0 ≤ m) (h : m < 200) : gA (cs f d a ni j) 75 (qz m) = some (qz (a 75 m)) := by
  exact ga_cs h0 h (by omega)
theorem uac_75 (h0 : 0 ≤ m) (h : m < 200) : uA 0 (cs f d a ni j) 75 (qz m) (qz v) = some (cs f d (v2 a 75 m v) ni j) := by
  exact ua_cs h0 h (by omega) (rfl)
theorem gac_76 (h0 : 0 ≤ m) (h : m < 8) : gA (cs f d a ni j) 76 (qz m) = some (qz (a 76 m)) := by
  exact ga_cs h0 h (by omega)
theorem uac_76 (h0 : 0 ≤ m) (h : m < 8) : uA 0 (cs f d a ni j) 76 (qz m) (qz v) = some (cs f d (v2 a 76 m v) ni j) := by
  exact ua_cs h0 h (by omega) (rfl)
theorem gac_79 (h0 : 0 ≤ m) (h : m < 1000) : gA (cs f d a ni j) 79 (qz m) = some (qz (a 79 m)) := by
  exact ga_cs h0 h (by omega)
theorem uac_79 (h0 : 0 ≤ m) (h : m < 1000) : uA 0 (cs f d a ni j) 79 (qz m) (qz v) = some (cs f d (v2 a 79 m v) ni j) := by
  exact ua_cs h0 h (by omega) (rfl)
theorem gac_80 (h0 : 0 ≤ m) (h : m < 1000) : gA (cs f d a ni j) 80 (qz m) = some (qz (a 80 m)) := by
  exact ga_cs h0 h (by omega)
theorem uac_80 (h0 : 0 ≤ m) (h : m < 1000) (hv : -128 ≤ v) (hw : v < 128) : uA 1 (cs f d a ni j) 80 (qz m) (qz v) = some (cs f d (v2 a 80 m v) ni j) := by
  exact ua_cs h0 h (by omega) (nar_1 hv hw)
theorem gac_81 (h0 : 0 ≤ m) (h : m < 200) : gA (cs f d a ni j) 81 (qz m) = some (qz (a 81 m)) := by
  exact ga_cs h0 h (by omega)
theorem uac_81 (h0 : 0 ≤ m) (h : m < 200) : uA 0 (cs f d a ni j) 81 (qz m) (qz v) = some (cs f d (v2 a 81 m v) ni j) := by
  exact ua_cs h0 h (by omega) (rfl)
theorem gac_82 (h0 : 0 ≤ m) (h : m < 200) : gA (cs f d a ni j) 82 (qz m) = some (qz (a 82 m)) := by
  exact ga_cs h0 h (by omega)
theorem uac_82 (h0 : 0 ≤ m) (h : m < 200) (hv : -128 ≤ v) (hw : v < 128) : uA 1 (cs f d a ni j) 82 (qz m) (qz v) = some (cs f d (v2 a 82 m v) ni j) := by
  exact ua_cs h0 h (by omega) (nar_1 hv hw)
theorem gac_90 (h0 : 0 ≤ m) (h : m < 300) : gA (cs f d a ni j) 90 (qz m) = some (qz (a 90 m)) := by
  exact ga_cs h0 h (by omega)
theorem uac_90 (h0 : 0 ≤ m) (h : m < 300) : uA 0 (cs f d a ni j) 90 (qz m) (qz v) = some (cs f d (v2 a 90 m v) ni j) := by
  exact ua_cs h0 h (by omega) (rfl)
theorem gjc_91 (h0 : 0 ≤ m) (h : m < 1500) : gJ (cs f d a ni j) 91 (qz m) = some (j 91 m) := by
  exact gj_cs h0 h (by omega)
theorem ujc_91 (h0 : 0 ≤ m) (h : m < 1500) : uJ (cs f d a ni j) 91 (qz m) y = some (cs f d a ni (v2 j 91 m y)) := by
  exact uj_cs h0 h (by omega)
theorem gjc_92 (h0 : 0 ≤ m) (h : m < 5) : gJ (cs f d a ni j) 92 (qz m) = some (j 92 m) := by
  exact gj_cs h0 h (by omega)
theorem ujc_92 (h0 : 0 ≤ m) (h : m < 5) : uJ (cs f d a ni j) 92 (qz m) y = some (cs f d a ni (v2 j 92 m y)) := by
  exact uj_cs h0 h (by omega)
theorem gac_100 (h0 : 0 ≤ m) (h : m < 300) : gA (cs f d a ni j) 100 (qz m) = some (qz (a 100 m)) := by
  exact ga_cs h0 h (by omega)
theorem uac_100 (h0 : 0 ≤ m) (h : m < 300) : uA 0 (cs f d a ni j) 100 (qz m) (qz v) = some (cs f d (v2 a 100 m v) ni j) := by
  exact ua_cs h0 h (by omega) (rfl)
theorem gjc_101 (h0 : 0 ≤ m) (h : m < 1500) : gJ (cs f d a ni j) 101 (qz m) = some (j 101 m) := by
  exact gj_cs h0 h (by omega)
theorem ujc_101 (h0 : 0 ≤ m) (h : m < 1500) : uJ (cs f d a ni j) 101 (qz m) y = some (cs f d a ni (v2 j 101 m y)) := by
  exact uj_cs h0 h (by omega)
theorem gjc_102 (h0 : 0 ≤ m) (h : m < 5) : gJ (cs f d a ni j) 102 (qz m) = some (j 102 m) := by
  exact gj_cs h0 h (by omega)
theorem ujc_102 (h0 : 0 ≤ m) (h : m < 5) : uJ (cs f d a ni j) 102 (qz m) y = some (cs f d a ni (v2 j 102 m y)) := by
  exact uj_cs h0 h (by omega)
theorem gac_104 (h0 : 0 ≤ m) (h : m < 1000) : gA (cs f d a ni j) 104 (qz m) = some (qz (a 104 m)) := by
  exact ga_cs h0 h (by omega)
theorem uac_104 (h0 : 0 ≤ m) (h : m < 1000) : uA 0 (cs f d a ni j) 104 (qz m) (qz v) = some (cs f d (v2 a 104 m v) ni j) := by
  exact ua_cs h0 h (by omega) (rfl)
theorem gac_108 (h0 : 0 ≤ m) (h : m < 1000) : gA (cs f d a ni j) 108 (qz m) = some (qz (a 108 m)) := by
  exact ga_cs h0 h (by omega)
theorem uac_108 (h0 : 0 ≤ m) (h : m < 1000) : uA 0 (cs f d a ni j) 108 (qz m) (qz v) = some (cs f d (v2 a 108 m v) ni j) := by
  exact ua_cs h0 h (by omega) (rfl)
theorem gac_109 (h0 : 0 ≤ m) (h : m < 256) : gA (cs f d a ni j) 109 (qz m) = some (qz (a 109 m)) := by
  exact ga_cs h0 h (by omega)
theorem uac_109 (h0 : 0 ≤ m) (h : m < 256) : uA 0 (cs f d a ni j) 109 (qz m) (qz v) = some (cs f d (v2 a 109 m v) ni j) := by
  exact ua_cs h0 h (by omega) (rfl)
theorem gac_110 (h0 : 0 ≤ m) (h : m < 1000) : gA (cs f d a ni j) 110 (qz m) = some (qz (a 110 m)) := by
  exact ga_cs h0 h (by omega)
theorem uac_110 (h0 : 0 ≤ m) (h : m < 1000) : uA 0 (cs f d a ni j) 110 (qz m) (qz v) = some (cs f d (v2 a 110 m v) ni j) := by
  exact ua_cs h0 h (by omega) (rfl)
theorem gac_111 (h0 : 0 ≤ m) (h : m < 200) : gA (cs f d a ni j) 111 (qz m) = some (qz (a 111 m)) := by
  exact ga_cs h0 h (by omega)
theorem uac_111 (h0 : 0 ≤ m) (h : m < 200) : uA 0 (cs f d a ni j) 111 (qz m) (qz v) = some (cs f d (v2 a 111 m v) ni j) := by
  exact ua_cs h0 h (by omega) (rfl)
theorem gac_112 (h0 : 0 ≤ m) (h : m < 1000) : gA (cs f d a ni j) 112 (qz m) = some (qz (a 112 m)) := by
  exact ga_cs h0 h (by omega)
theorem uac_112 (h0 : 0 ≤ m) (h : m < 1000) : uA 0 (cs f d a ni j) 112 (qz m) (qz v) = some (cs f d (v2 a 112 m v) ni j) := by
  exact ua_cs h0 h (by omega) (rfl)
theorem gac_113 (h0 : 0 ≤ m) (h : m < 1000) : gA (cs f d a ni j) 113 (qz m) = some (qz (a 113 m)) := by
  exact ga_cs h0 h (by omega)
theorem uac_113 (h0 : 0 ≤ m) (h : m < 1000) : uA 0 (cs f d a ni j) 113 (qz m) (qz v) = some (cs f d (v2 a 113 m v) ni j) := by
  exact ua_cs h0 h (by omega) (rfl)
theorem gac_114 (h0 : 0 ≤ m) (h : m < 200) : gA (cs f d a ni j) 114 (qz m) = some (qz (a 114 m)) := by
  exact ga_cs h0 h (by omega)
theorem uac_114 (h0 : 0 ≤ m) (h : m < 200) : uA 0 (cs f d a ni j) 114 (qz m) (qz v) = some (cs f d (v2 a 114 m v) ni j) := by
  exact ua_cs h0 h (by omega) (rfl)
theorem gac_115 (h0 : 0 ≤ m) (h : m < 1000) : gA (cs f d a ni j) 115 (qz m) = some (qz (a 115 m)) := by
  exact ga_cs h0 h (by omega)
theorem uac_115 (h0 : 0 ≤ m) (h : m < 1000) : uA 0 (cs f d a ni j) 115 (qz m) (qz v) = some (cs f d (v2 a 115 m v) ni j) := by
  exact ua_cs h0 h (by omega) (rfl)
theorem gac_116 (h0 : 0 ≤ m) (h : m < 16) : gA (cs f d a ni j) 116 (qz m) = some (qz (a 116 m)) := by
  exact ga_cs h0 h (by omega)
theorem uac_116 (h0 : 0 ≤ m) (h : m < 16) : uA 0 (cs f d a ni j) 116 (qz m) (qz v) = some (cs f d (v2 a 116 m v) ni j) := by
  exact ua_cs h0 h (by omega) (rfl)
theorem gac_118 (h0 : 0 ≤ m) (h : m < 6000) : gA (cs f d a ni j) 118 (qz m) = some (qz (a 118 m)) := by
  exact ga_cs h0 h (by omega)
theorem uac_118 (h0 : 0 ≤ m) (h : m < 6000) (hv : -128 ≤ v) (hw : v < 128) : uA 1 (cs f d a ni j) 118 (qz m) (qz v) = some (cs f d (v2 a 118 m v) ni j) := by
  exact ua_cs h0 h (by omega) (nar_1 hv hw)
theorem gac_120 (h0 : 0 ≤ m) (h : m < 6000) : gA (cs f d a ni j) 120 (qz m) = some (qz (a 120 m)) := by
  exact ga_cs h0 h (by omega)
theorem uac_120 (h0 : 0 ≤ m) (h : m < 6000) (hv : -128 ≤ v) (hw : v < 128) : uA 1 (cs f d a ni j) 120 (qz m) (qz v) = some (cs f d (v2 a 120 m v) ni j) := by
  exact ua_cs h0 h (by omega) (nar_1 hv hw)
theorem gL_cs {n : Int} (h : (nC ni i : Int) = n) : gL (cs f d a ni j) i = qz n := by
  subst h; rfl
/-- a row list -/
def rws (v : Nat) : Prop := tC0 v = 15
theorem rws_lt {v : Nat} (h : rws v) : v < 121 := by
  by_cases q : v < 121
  · exact q
  · have e : tC0 v = 99 := by
      unfold tC0
      rw [List.getD_eq_getElem?_getD, List.getElem?_eq_none (by simp only [List.length]; omega)]
      rfl
    have h2 : tC0 v = 15 := h
    omega
theorem rws_sp {v : Nat} (h : rws v) : pC0 v 0 = v + 1 ∧ pC0 v 1 = v + 2 ∧ tC0 (v + 1) = 4 ∧ tC0 (v + 2) = 0 ∧ v ≠ 0 ∧ v ≠ 65 ∧ v ≠ 77 ∧ v ≠ 78 ∧ v ≠ 83 ∧ v ≠ 93 ∧ v ≠ 103 := by
  have key : ∀ v : Fin 121, tC0 v = 15 → pC0 v 0 = v + 1 ∧ pC0 v 1 = v + 2 ∧ tC0 (v + 1) = 4 ∧ tC0 (v + 2) = 0 ∧ (v : Nat) ≠ 0 ∧ (v : Nat) ≠ 65 ∧ (v : Nat) ≠ 77 ∧ (v : Nat) ≠ 78 ∧ (v : Nat) ≠ 83 ∧ (v : Nat) ≠ 93 ∧ (v : Nat) ≠ 103 := by decide
  exact key ⟨v, rws_lt h⟩ h
theorem gpr_0 {v : Nat} (h : rws v) : gP (cs f d a ni j) v 0 = v + 1 := by
  obtain ⟨h1, h2, h3, h4, h5⟩ := rws_sp h
  show pC d v 0 = _
  unfold pC
  simp [h5, h1]
theorem gpr_1 {v : Nat} (h : rws v) : gP (cs f d a ni j) v 1 = v + 2 := by
  obtain ⟨h1, h2, h3, h4, h5⟩ := rws_sp h
  show pC d v 1 = _
  unfold pC
  simp [h5, h2]
theorem nci {v : Nat} (h : rws v) : nC ni (v + 1) = ni (v + 1) := by unfold nC; rw [if_pos (rws_sp h).2.2.1]
theorem ncs {v : Nat} (h : rws v) : nC ni (v + 2) = nC0 (v + 2) := by unfold nC; rw [if_neg (by rw [(rws_sp h).2.2.2.1]; decide)]
end CS
theorem rws_b11 {b : Nat} (h : bks b) : rws (b + 11) := by rcases h with rfl | rfl <;> rfl
theorem rws_b14 {b : Nat} (h : bks b) : rws (b + 14) := by rcases h with rfl | rfl <;> rfl
theorem rws_b17 {b : Nat} (h : bks b) : rws (b + 17) := by rcases h with rfl | rfl <;> rfl
theorem rws_b20 {b : Nat} (h : bks b) : rws (b + 20) := by rcases h with rfl | rfl <;> rfl
theorem rws_b23 {b : Nat} (h : bks b) : rws (b + 23) := by rcases h with rfl | rfl <;> rfl
theorem rws_b26 {b : Nat} (h : bks b) : rws (b + 26) := by rcases h with rfl | rfl <;> rfl
theorem rws_84 : rws 84 := rfl
theorem rws_87 : rws 87 := rfl
theorem rws_94 : rws 94 := rfl
theorem rws_97 : rws 97 := rfl
theorem rws_105 : rws 105 := rfl
