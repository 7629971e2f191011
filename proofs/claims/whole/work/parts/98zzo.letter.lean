/-! A letter of a compressed proof -/
theorem zl65 : (65 : Int32) = qz 65 := id rfl
theorem zl90 : (90 : Int32) = qz 90 := id rfl
theorem zl85 : (85 : Int32) = qz 85 := id rfl
theorem zl84 : (84 : Int32) = qz 84 := id rfl
theorem zl89 : (89 : Int32) = qz 89 := id rfl
theorem zl20 : (20 : Int32) = qz 20 := id rfl
theorem zl100k : (100000 : Int32) = qz 100000 := id rfl
theorem zlm3 : (-3 : Int32) = qz (-3) := id rfl
theorem zlm10 : (-10 : Int32) = qz (-10) := id rfl
/-- how many of the steps before i are marked -/
noncomputable def mkc (a80 : Int → Int) (i : Int) : Int := cn (fun x => a80 x = 1) i.toNat
theorem mkc_c {g h : Int → Int} {i : Int} (e : ∀ x, 0 ≤ x → x < i → g x = h x) : mkc g i = mkc h i := cn_congr (fun y y0 y1 => by rw [e y y0 (by omega)])
theorem mkc_1 {g : Int → Int} {i : Int} (i0 : 0 ≤ i) (h : g i = 1) : mkc g (i + 1) = mkc g i + 1 := cn_T i0 h
theorem mkc_0 {g : Int → Int} {i : Int} (i0 : 0 ≤ i) (h : g i = 0) : mkc g (i + 1) = mkc g i := cn_F i0 (by omega)
theorem mkc_r {g : Int → Int} {i : Int} (i0 : 0 ≤ i) : 0 ≤ mkc g i ∧ mkc g i ≤ i := by
  have := cn_le (fun x => g x = 1) i.toNat
  unfold mkc
  omega
theorem mkc_m {g : Int → Int} {i y : Int} (i0 : 0 ≤ i) (h : i ≤ y) : mkc g i ≤ mkc g y := cn_mi i0 h
/-- the steps that were decoded -/
def DP (k N : Int) (a79 a80 A34 A35 A36 : Int → Int) : Prop := ∀ i, 0 ≤ i → i < N → ((a80 i = 0 ∧ A36 i = -1) ∨ (a80 i = 1 ∧ A36 i = mkc a80 i ∧ A35 (mkc a80 i) = i)) ∧ ((0 ≤ a79 i ∧ a79 i < k ∧ A34 i = a79 i) ∨ ∃ m, 0 ≤ m ∧ m < mkc a80 i ∧ a79 i = -1 - m ∧ A34 i = 1000 + m)
theorem dp_add {k N r s : Int} {a79 a80 A34 A35 A36 : Int → Int} (H : DP k N a79 a80 A34 A35 A36) (n0 : 0 ≤ N) (h36 : A36 N = -1) (hr : (0 ≤ r ∧ r < k ∧ s = r) ∨ ∃ m, 0 ≤ m ∧ m < mkc a80 N ∧ r = -1 - m ∧ s = 1000 + m) : DP k (N + 1) (v1 a79 N r) (v1 a80 N 0) (v1 A34 N s) A35 A36 := by
  intro i i0 i1
  have em : mkc (v1 a80 N 0) i = mkc a80 i := mkc_c (fun x x0 x1 => v1_o (by omega))
  rw [em]
  by_cases e : i = N
  · rw [e, v1_s, v1_s, v1_s]
    exact ⟨Or.inl ⟨rfl, h36⟩, hr⟩
  · rw [v1_o e, v1_o e, v1_o e]
    exact H i i0 (by omega)
theorem dp_mark {k N : Int} {a79 a80 A34 A35 A36 : Int → Int} (H : DP k N a79 a80 A34 A35 A36) (n0 : 1 ≤ N) (h0 : a80 (N - 1) = 0) : DP k N a79 (v1 a80 (N - 1) 1) A34 (v1 A35 (mkc a80 N) (N - 1)) (v1 A36 (N - 1) (mkc a80 N)) := by
  have eN := mkc_0 (g := a80) (i := N - 1) (by omega) h0
  rw [show N - 1 + 1 = N by omega] at eN
  intro i i0 i1
  have em : mkc (v1 a80 (N - 1) 1) i = mkc a80 i := mkc_c (fun x x0 x1 => v1_o (by omega))
  rw [em]
  obtain ⟨h1, h2⟩ := H i i0 i1
  refine ⟨?_, h2⟩
  by_cases e : i = N - 1
  · rw [e, v1_s, v1_s, eN, v1_s]
    exact Or.inr ⟨rfl, rfl, rfl⟩
  · rw [v1_o e, v1_o e]
    rcases h1 with z | ⟨z1, z2, z3⟩
    · exact Or.inl z
    · have y1 := mkc_1 (g := a80) i0 z1
      have y2 := mkc_m (g := a80) (i := i + 1) (y := N) (by omega) (by omega)
      exact Or.inr ⟨z1, z2, by rw [v1_o (by omega)]; exact z3⟩
/-- class and reference between two letters -/
def LTS (k kc : Int) (gl : Int → Int) (f : Nat → Nat → Int) (a : Nat → Int → Int) (p w h : Int) (F : Nat → Int) (A : Nat → Int → Int) : Prop :=
  (f 78 8 = kc ∧ F 46 = kc ∧ 0 ≤ kc ∧ kc ≤ 200 ∧ ∀ x, 0 ≤ x → x < kc → a 81 x = gl x ∧ A 32 x = gl x ∧ 0 ≤ gl x ∧ gl x < k) ∧ (f 78 1 = F 50 ∧ 0 ≤ F 50 ∧ F 50 ≤ 1000 ∧ f 78 5 = F 53 ∧ F 53 = mkc (a 80) (F 50) ∧ F 53 ≤ 200) ∧ ((f 78 10 = p ∧ 0 ≤ p ∧ p ≤ 100000) ∨ (f 78 10 = 100000 ∧ 100000 ≤ p ∧ p ≤ 600000)) ∧ (f 78 11 = w ∧ (w = 0 ∨ w = 1) ∧ f 78 12 = h ∧ (h = 0 ∨ h = 1) ∧ (h = 1 → 1 ≤ F 50 ∧ a 80 (F 50 - 1) = 0)) ∧ DP k (F 50) (a 79) (a 80) (A 34) (A 35) (A 36) ∧ ∀ i, F 50 ≤ i → i < 1000 → A 36 i = -1
/-- what becomes of the reference's letters -/
def klt (n : Nat) (x : (Int32 × st_T) ⊕ ((Int32 × st_T) ⊕ ((Int32 × st_T) ⊕ ((Int32 × st_T) ⊕ (Int32 × st_T))))) : Option (Int32 × st_T) :=
  Sum.elim (fun y3 =>
    (g_X11_fails n 0 (-3 : Int32) y3.1 y3.2).bind fun x8 =>
    (hp_bz x8.1).bind fun _ =>
    some (x8.1, x8.2)) (Sum.elim (fun y4 =>
    (g_X11_fails n 0 (-10 : Int32) y4.1 y4.2).bind fun x10 =>
    (hp_bz x10.1).bind fun _ =>
    some (x10.1, x10.2)) (Sum.elim (fun y5 =>
    (g_X11_fails n 0 (-10 : Int32) y5.1 y5.2).bind fun x12 =>
    (hp_bz x12.1).bind fun _ =>
    some (x12.1, x12.2)) (Sum.elim (fun y6 =>
    g_X11_readLetters_288 n 0 y6.1 y6.2) (fun y7 =>
    if y7.1 = 0 then
      if 0 < (gF y7.2 0 48) then
        g_X11_readLetters_327 n  y7.2
      else
        g_X11_readLetters_314 n 0 y7.2
    else
      g_X11_readLetters_314 n 0 y7.2)))) x
section LTT
variable {n : Nat} {k kc c p w h b N M num : Int} {gl : Int → Int} {f : Nat → Nat → Int} {d : Nat → Nat} {a : Nat → Int → Int} {ni : Nat → Nat} {j : Nat → Int → Int64} {F : Nat → Int} {A : Nat → Int → Int} {J : Nat → Int → Int64}
theorem m_fails {x y : Int} : g_X11_fails n 0 (qz x) (qz y) (ms F A J) = some (qz 0, ms (u1 (u1 F 54 x) 55 y) A J) := by
  unfold g_X11_fails g_X11_fails_0
  simp only [zl0]
  rw [wf_ms, bd_some, wf_ms, bd_some]
/-- a letter U .. Y -/
theorem c_letU (c0 : 85 ≤ c) (c1 : c ≤ 89) (hp : f 78 10 = p) (p0 : 0 ≤ p) (p1 : p ≤ 100000) : g_X3_takeLetter n 78 (qz c) (cs f d a ni j) = some (qz 0, cs (u2 (u2 (u2 f 78 12 0) 78 11 1) 78 10 (if 5 * p + c - 85 + 1 ≤ 100000 then 5 * p + c - 85 + 1 else 100000)) d a ni j) := by
  unfold g_X3_takeLetter g_X3_takeLetter_0 g_X3_takeLetter_38 g_X3_takeLetter_54
  simp only [zl0, zl1, zl5, zl65, zl90, zl85, zl100k]
  rw [if_neg (by rw [qz_lt (by omega) (by omega) (by omega) (by omega)]; omega), if_pos (by rw [qz_le (by omega) (by omega) (by omega) (by omega)]; omega), if_neg (by rw [qz_inj (by omega) (by omega) (by omega) (by omega)]; omega), if_pos (by rw [qz_le (by omega) (by omega) (by omega) (by omega)]; omega), hp_bz_0, bd_some, wf_cs, bd_some, gf_cs, u2_a, if_pos rfl, hp_bz_1, bd_some, wf_cs, bd_some, gf_cs, u2_a, if_neg n10, gf_cs, u2_c (by decide), u2_c (by decide), hp, qz_mul, qz_add, qz_sub, qz_add, qmn (by omega) (by omega) (by omega) (by omega), wf_cs, bd_some]
/-- a letter A .. T -/
theorem c_letA (c0 : 65 ≤ c) (c1 : c ≤ 84) (hp : f 78 10 = p) : g_X3_takeLetter n 78 (qz c) (cs f d a ni j) = (g_X3_takeNumber n 78 (qz (20 * p + c - 65 + 1)) (cs (u2 (u2 (u2 f 78 12 1) 78 11 0) 78 10 0) d a ni j)).bind fun x4 => some (x4.1, x4.2) := by
  unfold g_X3_takeLetter g_X3_takeLetter_0 g_X3_takeLetter_38 g_X3_takeLetter_54
  simp only [zl0, zl1, zl20, zl65, zl90, zl85]
  rw [if_neg (by rw [qz_lt (by omega) (by omega) (by omega) (by omega)]; omega), if_pos (by rw [qz_le (by omega) (by omega) (by omega) (by omega)]; omega), if_neg (by rw [qz_inj (by omega) (by omega) (by omega) (by omega)]; omega), if_neg (by rw [qz_le (by omega) (by omega) (by omega) (by omega)]; omega), hp_bz_1, bd_some, wf_cs, bd_some, gf_cs, u2_a, if_neg n10, hp_bz_0, bd_some, wf_cs, bd_some, gf_cs, u2_a, if_pos rfl, wf_cs, bd_some, gf_cs, u2_c (by decide), u2_c (by decide), hp, qz_mul, qz_add, qz_sub, qz_add]
theorem c_numBad (h8 : f 78 8 = kc) (h5 : f 78 5 = M) (k0 : 0 ≤ kc) (k1 : kc ≤ 200) (m0 : 0 ≤ M) (m1 : M ≤ 200) (n0 : 0 ≤ num) (n1 : num < 100000000) (hb : kc + M < num) : g_X3_takeNumber n 78 (qz num) (cs f d a ni j) = some (qz (-3), cs f d a ni j) := by
  unfold g_X3_takeNumber g_X3_takeNumber_0
  rw [gf_cs, gf_cs, h8, h5, qz_add, if_neg (by rw [qz_le (by omega) (by omega) (by omega) (by omega)]; omega)]
  rfl
theorem c_numFull (h8 : f 78 8 = kc) (h5 : f 78 5 = M) (h1 : f 78 1 = 1000) (k0 : 0 ≤ kc) (k1 : kc ≤ 200) (m0 : 0 ≤ M) (m1 : M ≤ 200) (n0 : 0 ≤ num) (hb : num ≤ kc + M) : g_X3_takeNumber n 78 (qz num) (cs f d a ni j) = some (qz (-10), cs f d a ni j) := by
  unfold g_X3_takeNumber g_X3_takeNumber_0
  simp only [zl1000]
  rw [gf_cs, gf_cs, gf_cs, h8, h5, h1, qz_add, if_pos (by rw [qz_le (by omega) (by omega) (by omega) (by omega)]; omega), if_pos rfl]
  rfl
theorem c_numGood (h8 : f 78 8 = kc) (h5 : f 78 5 = M) (h1 : f 78 1 = N) (n0 : 0 ≤ N) (n1 : N < 1000) (k0 : 0 ≤ kc) (k1 : kc ≤ 200) (m0 : 0 ≤ M) (m1 : M ≤ 200) (u0 : 1 ≤ num) (hb : num ≤ kc + M) : g_X3_takeNumber n 78 (qz num) (cs f d a ni j) = some (qz 0, cs (u2 f 78 1 (N + 1)) d (v2 (v2 a 79 N (if num ≤ kc then a 81 (num - 1) else kc - num)) 80 N 0) ni j) := by
  unfold g_X3_takeNumber g_X3_takeNumber_0 g_X3_takeNumber_55
  simp only [zl0, zl1, zl1000]
  rw [gf_cs, gf_cs, gf_cs, h8, h5, h1, qz_add, if_pos (by rw [qz_le (by omega) (by omega) (by omega) (by omega)]; omega), if_neg (by rw [qz_inj (by omega) (by omega) (by omega) (by omega)]; omega)]
  by_cases c : num ≤ kc
  · rw [if_neg (by rw [qz_lt (by omega) (by omega) (by omega) (by omega)]; omega), gpc_78_7, qz_sub, gac_81 (by omega) (by omega), bd_some, c_addStep h1 n0 n1, bd_some, if_pos c]
  · rw [if_pos (by rw [qz_lt (by omega) (by omega) (by omega) (by omega)]; omega), qz_sub, c_addStep h1 n0 n1, bd_some, if_neg c]
theorem c_letZ : g_X3_takeLetter n 78 (qz 90) (cs f d a ni j) = (g_X3_mark n 78 (cs f d a ni j)).bind fun x2 => some (x2.1, x2.2) := by
  unfold g_X3_takeLetter g_X3_takeLetter_0
  simp only [zl65, zl90]
  rw [if_neg (by rw [qz_lt (by omega) (by omega) (by omega) (by omega)]; omega), if_pos (by rw [qz_le (by omega) (by omega) (by omega) (by omega)]; omega), if_pos trivial]
theorem c_mark0 (h : f 78 12 = 0) : g_X3_mark n 78 (cs f d a ni j) = some (qz (-3), cs f d a ni j) := by
  unfold g_X3_mark g_X3_mark_0
  simp only [zl0]
  rw [gf_cs, h, if_pos rfl]
  rfl
theorem c_markF (h : f 78 12 = 1) (h5 : f 78 5 = 200) : g_X3_mark n 78 (cs f d a ni j) = some (qz (-10), cs f d a ni j) := by
  unfold g_X3_mark g_X3_mark_0
  simp only [zl0, zl200]
  rw [gf_cs, h, if_neg n10, gf_cs, h5, if_pos rfl]
  rfl
theorem c_markG (h : f 78 12 = 1) (h5 : f 78 5 = M) (m0 : 0 ≤ M) (m1 : M < 200) (h1 : f 78 1 = N) (n0 : 1 ≤ N) (n1 : N ≤ 1000) : g_X3_mark n 78 (cs f d a ni j) = some (qz 0, cs (u2 (u2 f 78 5 (M + 1)) 78 12 0) d (v2 a 80 (N - 1) 1) ni j) := by
  unfold g_X3_mark g_X3_mark_0
  simp only [zl0, zl1, zl200]
  rw [gf_cs, h, if_neg n10, gf_cs, h5, if_neg (by rw [qz_inj (by omega) (by omega) (by omega) (by omega)]; omega), gpc_78_4, gf_cs, h1, qz_sub, uac_80 (by omega) (by omega) (by omega) (by omega), bd_some, gf_cs, h5, qz_add, wf_cs, bd_some, wf_cs, bd_some]
theorem c_letX (hc : c < 65 ∨ 90 < c) (c0 : 0 ≤ c) (c1 : c < 128) : g_X3_takeLetter n 78 (qz c) (cs f d a ni j) = some (qz (-3), cs f d a ni j) := by
  unfold g_X3_takeLetter g_X3_takeLetter_0
  simp only [zl65, zl90]
  by_cases y : c < 65
  · rw [if_pos (by rw [qz_lt (by omega) (by omega) (by omega) (by omega)]; exact y)]
    rfl
  · rw [if_neg (by rw [qz_lt (by omega) (by omega) (by omega) (by omega)]; exact y), if_neg (by rw [qz_le (by omega) (by omega) (by omega) (by omega)]; omega)]
    rfl
end LTT
