/-! The state between two tokens -/
/-- how large the halves of the reference's arrays are -/
def hlf (i : Nat) : Int := if 3 ≤ i ∧ i ≤ 5 then 300 else if 7 ≤ i ∧ i ≤ 14 then 200 else if 16 ≤ i ∧ i ≤ 18 then 4096 else if 21 ≤ i ∧ i ≤ 24 then 10240 else if i = 6 ∨ i = 15 ∨ i = 25 then 1 else 0
/-- what reading leaves alone -/
def FR (b : Nat) (q : Int) (f0 : Nat → Nat → Int) (a0 : Nat → Int → Int) (ni0 : Nat → Nat) (j0 : Nat → Int → Int64) (F0 : Nat → Int) (A0 : Nat → Int → Int) (J0 : Nat → Int → Int64) (f : Nat → Nat → Int) (a : Nat → Int → Int) (ni : Nat → Nat) (j : Nat → Int → Int64) (F : Nat → Int) (A : Nat → Int → Int) (J : Nat → Int → Int64) : Prop :=
  (∀ i, ¬(b ≤ i ∧ i < b + 32) → ¬(65 ≤ i ∧ i < 78) → f i = f0 i ∧ a i = a0 i ∧ ni i = ni0 i ∧ j i = j0 i) ∧ (∀ k, ¬(29 ≤ k ∧ k ≤ 43) → F k = F0 k) ∧ (∀ i, i ≤ 2 ∨ 32 ≤ i → A i = A0 i) ∧ (∀ i x, hlf i ≠ 0 → ¬(hlf i * q ≤ x ∧ x < hlf i * q + hlf i) → A i x = A0 i x) ∧ (∀ i, ¬(19 ≤ i ∧ i ≤ 20) → J i = J0 i) ∧ (∀ i x, 19 ≤ i → i ≤ 20 → ¬(800 * q ≤ x ∧ x < 800 * q + 800) → J i x = J0 i x) ∧ ((b = 1 ∨ b = 33) → a (b + 2) = a0 (b + 2))
section FRS
variable {b : Nat} {q : Int} {f0 : Nat → Nat → Int} {a0 : Nat → Int → Int} {ni0 : Nat → Nat} {j0 : Nat → Int → Int64} {F0 : Nat → Int} {A0 : Nat → Int → Int} {J0 : Nat → Int → Int64} {f : Nat → Nat → Int} {a : Nat → Int → Int} {ni : Nat → Nat} {j : Nat → Int → Int64} {F : Nat → Int} {A : Nat → Int → Int} {J : Nat → Int → Int64} {i k : Nat} {x m : Int}
theorem fr_0 : FR b q f a ni j F A J f a ni j F A J := ⟨fun _ _ _ => ⟨rfl, rfl, rfl, rfl⟩, fun _ _ => rfl, fun _ _ => rfl, fun _ _ _ _ => rfl, fun _ _ => rfl, fun _ _ _ _ _ => rfl, fun _ => rfl⟩
theorem fr_f (H : FR b q f0 a0 ni0 j0 F0 A0 J0 f a ni j F A J) (hi : (b ≤ i ∧ i < b + 32) ∨ (65 ≤ i ∧ i < 78)) : FR b q f0 a0 ni0 j0 F0 A0 J0 (u2 f i k x) a ni j F A J := by
  obtain ⟨h1, h2⟩ := H
  refine ⟨fun y y1 y2 => ?_, h2⟩
  rw [u2_b (by omega)]; exact h1 y y1 y2
theorem fr_a {g : Int → Int} (H : FR b q f0 a0 ni0 j0 F0 A0 J0 f a ni j F A J) (hi : (b ≤ i ∧ i < b + 32 ∧ i ≠ b + 2) ∨ (65 ≤ i ∧ i < 78)) : FR b q f0 a0 ni0 j0 F0 A0 J0 f (u1 a i g) ni j F A J := by
  obtain ⟨h1, h2, h3, h4, h5, h6, h7⟩ := H
  refine ⟨fun y y1 y2 => ?_, h2, h3, h4, h5, h6, fun hb => ?_⟩
  · rw [u1_o (by omega)]; exact h1 y y1 y2
  · rw [u1_o (by omega)]; exact h7 hb
theorem fr_v (H : FR b q f0 a0 ni0 j0 F0 A0 J0 f a ni j F A J) (hi : (b ≤ i ∧ i < b + 32 ∧ i ≠ b + 2) ∨ (65 ≤ i ∧ i < 78)) : FR b q f0 a0 ni0 j0 F0 A0 J0 f (v2 a i m x) ni j F A J := by
  rw [v2_u1]; exact fr_a H hi
theorem fr_n {N : Nat} (H : FR b q f0 a0 ni0 j0 F0 A0 J0 f a ni j F A J) (hi : (b ≤ i ∧ i < b + 32) ∨ (65 ≤ i ∧ i < 78)) : FR b q f0 a0 ni0 j0 F0 A0 J0 f a (u1 ni i N) j F A J := by
  obtain ⟨h1, h2⟩ := H
  refine ⟨fun y y1 y2 => ?_, h2⟩
  rw [u1_o (by omega)]; exact h1 y y1 y2
theorem fr_j {g : Int → Int64} (H : FR b q f0 a0 ni0 j0 F0 A0 J0 f a ni j F A J) (hi : (b ≤ i ∧ i < b + 32) ∨ (65 ≤ i ∧ i < 78)) : FR b q f0 a0 ni0 j0 F0 A0 J0 f a ni (u1 j i g) F A J := by
  obtain ⟨h1, h2⟩ := H
  refine ⟨fun y y1 y2 => ?_, h2⟩
  rw [u1_o (by omega)]; exact h1 y y1 y2
theorem fr_F (H : FR b q f0 a0 ni0 j0 F0 A0 J0 f a ni j F A J) (hi : 29 ≤ i ∧ i ≤ 43) : FR b q f0 a0 ni0 j0 F0 A0 J0 f a ni j (u1 F i x) A J := by
  obtain ⟨h1, h2, h3⟩ := H
  refine ⟨h1, fun y y1 => ?_, h3⟩
  rw [u1_o (by omega)]; exact h2 y y1
theorem fr_A {g : Int → Int} (H : FR b q f0 a0 ni0 j0 F0 A0 J0 f a ni j F A J) (hi : 2 < i ∧ i < 32) (hg : hlf i ≠ 0 → ∀ x, ¬(hlf i * q ≤ x ∧ x < hlf i * q + hlf i) → g x = A i x) : FR b q f0 a0 ni0 j0 F0 A0 J0 f a ni j F (u1 A i g) J := by
  obtain ⟨h1, h2, h3, h4, h5⟩ := H
  refine ⟨h1, h2, fun y y1 => ?_, fun y x y1 y2 => ?_, h5⟩
  · rw [u1_o (by omega)]; exact h3 y y1
  · by_cases e : y = i
    · subst e
      rw [u1_s, hg y1 x y2]; exact h4 y x y1 y2
    · rw [u1_o e]; exact h4 y x y1 y2
theorem fr_V (H : FR b q f0 a0 ni0 j0 F0 A0 J0 f a ni j F A J) (hi : 2 < i ∧ i < 32) (w : Int) (hw : hlf i = w) (hg : w ≠ 0 → w * q ≤ m ∧ m < w * q + w) : FR b q f0 a0 ni0 j0 F0 A0 J0 f a ni j F (v2 A i m x) J := by
  rw [v2_u1]
  refine fr_A H hi (fun h y hy => ?_)
  rw [hw] at h hy
  have := hg h
  exact v1_o (by omega)
theorem fr_J {g : Int → Int64} (H : FR b q f0 a0 ni0 j0 F0 A0 J0 f a ni j F A J) (hi : 19 ≤ i ∧ i ≤ 20) (hg : ∀ x, ¬(800 * q ≤ x ∧ x < 800 * q + 800) → g x = J i x) : FR b q f0 a0 ni0 j0 F0 A0 J0 f a ni j F A (u1 J i g) := by
  obtain ⟨h1, h2, h3, h4, h5, h6, h7⟩ := H
  refine ⟨h1, h2, h3, h4, fun y y1 => ?_, fun y x y1 y2 y3 => ?_, h7⟩
  · rw [u1_o (by omega)]; exact h5 y y1
  · by_cases e : y = i
    · subst e
      rw [u1_s, hg x y3]; exact h6 y x y1 y2 y3
    · rw [u1_o e]; exact h6 y x y1 y2 y3
theorem fr_T {e b0 : Int} (H : FR b q f0 a0 ni0 j0 F0 A0 J0 f a ni j F A J) : FR b q f0 a0 ni0 j0 F0 A0 J0 f a ni j (fT F b0 e) A J := fr_F (fr_F (fr_F H (by omega)) (by omega)) (by omega)
end FRS
/-- the rooms alone -/
def RwA (b : Nat) (f : Nat → Nat → Int) (a : Nat → Int → Int) (ni : Nat → Nat) : Prop :=
  Rw (f (b + 11) 3) (f (b + 11) 2) (ni (b + 11 + 1)) (nC0 (b + 11 + 2)) 4096 (a (b + 11 + 2)) ∧ Rw (f (b + 14) 3) (f (b + 14) 2) (ni (b + 14 + 1)) (nC0 (b + 14 + 2)) 4096 (a (b + 14 + 2)) ∧ Rw (f (b + 17) 3) (f (b + 17) 2) (ni (b + 17 + 1)) (nC0 (b + 17 + 2)) 4096 (a (b + 17 + 2)) ∧ Rw (f (b + 20) 3) (f (b + 20) 2) (ni (b + 20 + 1)) (nC0 (b + 20 + 2)) 32768 (a (b + 20 + 2)) ∧ Rw (f (b + 23) 3) (f (b + 23) 2) (ni (b + 23 + 1)) (nC0 (b + 23 + 2)) 65536 (a (b + 23 + 2)) ∧ Rw (f (b + 26) 3) (f (b + 26) 2) (ni (b + 26 + 1)) (nC0 (b + 26 + 2)) 65536 (a (b + 26 + 2))
theorem grw_rwa {b : Nat} {K : Int} {f : Nat → Nat → Int} {a : Nat → Int → Int} {ni : Nat → Nat} (H : Grw b K f a ni) : RwA b f a ni := ⟨H.1, H.2.1, H.2.2.1, H.2.2.2.1, H.2.2.2.2.1, H.2.2.2.2.2.1⟩
/-- links and places -/
def Rl (b : Nat) (q len c : Int) (f : Nat → Nat → Int) (d : Nat → Nat) (a : Nat → Int → Int) (F : Nat → Int) (A : Nat → Int → Int) : Prop :=
  bq b q ∧ d 4 = b ∧ d 5 = b + 2 ∧ f 77 4 = len ∧ f 77 2 = 0 ∧ F 1 = len ∧ F 32 = q ∧ F 33 = f 66 0 ∧ txt (A 1) len ∧ txs (a (b + 2)) (A 1) len ∧ 0 ≤ c ∧ c ≤ len ∧ tke (A 1) len c
/-- what is active -/
def Rs (b : Nat) (q S K P : Int) (f : Nat → Nat → Int) (a : Nat → Int → Int) (F : Nat → Int) (A : Nat → Int → Int) : Prop :=
  Gv (f 66 0) S (f 66 4) (a 67) (a 69) (a 70) (a (b + 7)) (A 26) ∧
  Gh1 (f 66 0) K (f 66 9) (a 68) (a 73) (A 28) (a (b + 9)) (a (b + 8)) ∧
  Gh2 K (a (b + 10)) (a (b + 8)) (A 28) ∧
  Gh3 K (a 71) (A 27) (A 28) (a (b + 8)) (a (b + 9)) (A 26) (a (b + 11 + 1)) (a (b + 11 + 2)) ∧
  Gh4 q K (A 28) (a (b + 8)) (a (b + 11 + 1)) (a (b + 11 + 2)) (a (b + 7)) (A 27) (a (b + 9)) (A 12) ∧
  Gh5 q (f 66 9) (a 72) (a (b + 11 + 1)) (a (b + 11 + 2)) (A 12) (a (b + 8)) (a 73) ∧
  Gp q K P (f 66 0) (f 66 12) (F 43) (a 74) (a 75) (A 29) (A 30) (A 21) (A 22) (A 23) (A 24)
/-- how much was taken -/
def Rc (b : Nat) (K c : Int) (f : Nat → Nat → Int) (a : Nat → Int → Int) (F : Nat → Int) : Prop :=
  f (b + 11) 2 = F 36 ∧ f (b + 14) 2 = F 37 ∧ f (b + 17) 2 = F 37 ∧ f (b + 20) 2 = a (b + 20 + 2) K ∧ f (b + 23) 2 = a (b + 23 + 2) K ∧ f (b + 26) 2 = a (b + 26 + 2) K ∧ 2 * (F 36 + F 37) ≤ c + 1 ∧ 2 * a (b + 20 + 2) K ≤ K * K ∧ a (b + 23 + 2) K ≤ 200 * K ∧ a (b + 26 + 2) K ≤ 200 * K
/-- the pool of pairs has room -/
def PB (P om D tm c : Int) : Prop := 2284 * P - 84 * om + 8400 * D + tm ≤ 2800 * (c + 1) ∧ (c = 0 → 2284 * P - 84 * om + 8400 * D + tm ≤ 0)
/-- the label that was taken -/
def Lb (q S K len : Int) (T st ln A8 A9 : Int → Int) (ls ll : Int) : Prop := K < 200 ∧ ls = A8 (200 * q + K) ∧ ll = A9 (200 * q + K) ∧ 0 ≤ ls ∧ 1 ≤ ll ∧ ls + ll ≤ len ∧ (∀ x, 0 ≤ x → x < ll → lch (T (ls + x))) ∧ ∀ x, liv S K x → ¬nme T (st x) (ln x) T ls ll
/-- the formula as far as it was taken -/
def Fm (q S K kd n stK : Int) (it va act tf A16 : Int → Int) : Prop := (∀ i, 0 ≤ i → i < n → it (stK + i) = A16 (4096 * q + (stK + i)) ∧ 0 ≤ it (stK + i) ∧ it (stK + i) < S) ∧ (0 < n → va (it stK) = 0) ∧ (kd = 0 → 1 < n → va (it (stK + 1)) = 1 ∧ 0 ≤ act (it (stK + 1)) ∧ tf (it (stK + 1)) < 0) ∧ (1 ≤ kd → ∀ i, 0 ≤ i → i < n → va (it (stK + i)) = 1 → 0 ≤ tf (it (stK + i)))
/-- where in a statement both stand -/
def Gmo (b : Nat) (q S K P len c : Int) (f : Nat → Nat → Int) (a : Nat → Int → Int) (F : Nat → Int) (A : Nat → Int → Int) : Prop :=
  (f 65 4 = 0 ∧ F 34 = 0 ∧ F 36 = a (b + 11 + 2) K ∧ F 37 = a (b + 14 + 2) K ∧ PB P (F 43) (f 66 0) 0 c) ∨
  (f 65 4 = 1 ∧ F 34 = 1 ∧ F 36 = a (b + 11 + 2) K ∧ F 37 = a (b + 14 + 2) K ∧ PB P (F 43) (f 66 0) 0 c ∧ Lb q S K len (a (b + 2)) (a (b + 5)) (a (b + 6)) (A 8) (A 9) (f 65 7) (f 65 8)) ∨
  (f 65 4 = 2 ∧ ((F 34 = 2 ∧ f 65 5 = 0) ∨ (F 34 = 3 ∧ f 65 5 = 1)) ∧ F 36 = a (b + 11 + 2) K ∧ F 37 = a (b + 14 + 2) K ∧ PB P (F 43) (f 66 0) 0 c ∧ f 65 9 = F 35 ∧ 0 ≤ F 35 ∧ F 35 ≤ c) ∨
  (f 65 4 = 3 ∧ F 34 = 4 ∧ F 36 = a (b + 11 + 2) K ∧ F 37 = a (b + 14 + 2) K ∧ PB P (F 43) (f 66 0) (8400 + 5600 * F 35 - 1100 * (F 35 * (F 35 - 1))) c ∧ f 65 9 = F 35 ∧ 0 ≤ F 35 ∧ F 35 ≤ 8 ∧ ∀ i, 0 ≤ i → i < F 35 → a 76 i = A 31 i ∧ 0 ≤ a 76 i ∧ a 76 i < S ∧ a (b + 7) (a 76 i) = 1) ∨
  (f 65 4 = 4 ∧ PB P (F 43) (f 66 0) 0 c ∧ Lb q S K len (a (b + 2)) (a (b + 5)) (a (b + 6)) (A 8) (A 9) (f 65 7) (f 65 8) ∧ A 7 (200 * q + K) = f 65 6 ∧ A 10 (200 * q + K) = f 66 0 ∧ A 11 (200 * q + K) = a (b + 11 + 2) K ∧ A 12 (200 * q + K) = f 65 9 ∧ A 13 (200 * q + K) = a (b + 14 + 2) K ∧ A 14 (200 * q + K) = 0 ∧ 0 ≤ f 65 9 ∧ ((f 65 6 = 0 ∧ F 34 = 5 ∧ f 65 9 ≤ 2) ∨ (1 ≤ f 65 6 ∧ f 65 6 ≤ 3 ∧ F 34 = 6 ∧ f 65 9 ≤ 60)) ∧ F 36 = a (b + 11 + 2) K + f 65 9 ∧ F 37 = a (b + 14 + 2) K ∧ Fm q S K (f 65 6) (f 65 9) (a (b + 11 + 2) K) (a (b + 11 + 1)) (a (b + 7)) (A 26) (A 27) (A 16)) ∨
  (f 65 4 = 5 ∧ F 34 = 7 ∧ PB P (F 43) (f 66 0) 0 c ∧ Lb q S K len (a (b + 2)) (a (b + 5)) (a (b + 6)) (A 8) (A 9) (f 65 7) (f 65 8) ∧ A 7 (200 * q + K) = f 65 6 ∧ f 65 6 = 3 ∧ A 10 (200 * q + K) = f 66 0 ∧ A 11 (200 * q + K) = a (b + 11 + 2) K ∧ A 13 (200 * q + K) = a (b + 14 + 2) K ∧ A 14 (200 * q + K) = f 65 9 ∧ 0 ≤ f 65 9 ∧ f 65 9 ≤ 400 ∧ 1 ≤ A 12 (200 * q + K) ∧ A 12 (200 * q + K) ≤ 60 ∧ F 36 = a (b + 11 + 2) K + A 12 (200 * q + K) ∧ F 37 = a (b + 14 + 2) K + f 65 9 ∧ Fm q S K 3 (A 12 (200 * q + K)) (a (b + 11 + 2) K) (a (b + 11 + 1)) (a (b + 7)) (A 26) (A 27) (A 16) ∧ (0 < f 65 9 → a (b + 14 + 1) (a (b + 14 + 2) K + (f 65 9 - 1)) + A 18 (4096 * q + (a (b + 14 + 2) K + (f 65 9 - 1))) ≤ c) ∧ ∀ i, 0 ≤ i → i < f 65 9 → Gt2 q len K (a (b + 2)) (a (b + 14 + 1)) (a (b + 17 + 1)) (a (b + 5)) (a (b + 6)) (A 17) (A 18) (a (b + 14 + 2) K) i)
