/-! A proof is examined: both -/
section EXA
variable {n m b v w : Nat} {q S K P len k N i M M2 : Int} {f : Nat → Nat → Int} {d : Nat → Nat} {a : Nat → Int → Int} {ni : Nat → Nat} {j : Nat → Int → Int64} {F : Nat → Int} {A : Nat → Int → Int} {J : Nat → Int → Int64}
theorem zlm9 : (-9 : Int32) = qz (-9) := id rfl
/-- the row on the stack is the formula -/
def vdt (q k : Int) (A : Nat → Int → Int) : Prop := A 38 0 = A 12 (200 * q + k) ∧ ∀ x, 0 ≤ x → x < A 38 0 → A 37 x = fsy q k (A 11) (A 16) x
theorem c_verdict (hn : 100000 ≤ n) (hm : mch m) (hb : bks b) (G : BK b q S K P len f a ni j A J) (h0 : 0 ≤ k) (h1 : k < K) (SK : RWL (m + 1) 32768 N S f a ni (A 38) (A 37)) (hN : N ≤ 100) (f0 : f 78 0 = k) : (N ≠ 1 → g_X1_verdict n m b 78 (cs f d a ni j) = some (qz (-8))) ∧ (N = 1 → vdt q k A → g_X1_verdict n m b 78 (cs f d a ni j) = some (qz 0)) ∧ (N = 1 → ¬vdt q k A → g_X1_verdict n m b 78 (cs f d a ni j) = some (qz (-9))) := by
  have hbb : b = 1 ∨ b = 33 := hb
  have hmm : m = 83 ∨ m = 93 := hm
  have hS : S ≤ 300 := G.2.1.2.1
  have R0 := rwl_0 SK
  unfold g_X1_verdict g_X1_verdict_0
  simp only [zl0, zl1, zlm8, zlm9]
  rw [gpm_0 hm, gf_cs, SK.2.1]
  by_cases c : N = 1
  · refine ⟨fun z => absurd c z, ?_⟩
    rw [c, if_pos rfl, gpb_9 hb, gf_cs, f0]
    rw [c] at SK
    obtain ⟨g1, g2, g3, g4⟩ := SK.2.2.2 0 (by omega) (by omega)
    obtain ⟨f1, f2', f3, f4, f5, f6, f7, f8, f9, f10, f11⟩ := bk_f G h0 h1
    have e1 := c_size (f := f) (d := d) (a := a) (ni := ni) (j := j) (n := n) (k := 0) (rwm_1 hm) SK.1 (by omega) (by rw [SK.2.1]; omega)
    rw [g1] at e1
    have e2 := c_fsz (n := n) (d := d) hb G h0 h1
    have key : g_X5_hasRow n (m + 1) (qz 0) (b + 11) (qz k) (cs f d a ni j) = some (qp (vdt q k A)) := by
      unfold g_X5_hasRow g_X5_hasRow_0
      rw [e1, bd_some, e2, bd_some]
      by_cases y : A 38 0 = A 12 (200 * q + k)
      · rw [if_pos (by rw [y])]
        have := lp_find (b := gL_X5_hasRow_22 n (m + 1) (qz 0) (b + 11) (qz k) (qz (A 38 0)) (cs f d a ni j)) (fun x => qz x) (fun x => A 37 x ≠ fsy q k (A 11) (A 16) x) (fun _ => qz 0) (qz 1) (n := n) (lo := 0) (A 38 0) (by omega) (by omega) ?_ ?_ ?_
        · rcases this with ⟨x, x1, x2, x3, x4, x5⟩ | ⟨x4, x5⟩
          · rw [zl0, x5, bd_some, qp_F]
            exact fun h => x3 (h.2 x x1 x2)
          · rw [zl0, x5, bd_some, qp_T]
            exact ⟨y, fun x x1 x2 => Classical.not_not.mp (x4 x x1 x2)⟩
        · intro x x1 x2 x3
          have x4 := Classical.not_not.mp x3
          have g5 := g4 x x1 x2
          rw [show 200 * 0 + x = x by omega] at g5
          unfold gL_X5_hasRow_22 g_X5_hasRow_22
          rw [if_neg (by rw [qz_le (by omega) (by omega) (by omega) (by omega)]; omega), c_get (d := d) (j := j) (n := n) (rwm_1 hm) SK.1 (by omega) (by rw [SK.2.1]; omega) x1 (by rw [g1]; exact x2), bd_some, c_fget hb G h0 h1 x1 (by omega), bd_some, g5.1, x4, if_pos rfl, zl1, qz_add]
        · intro x x1 x2 x3
          have g5 := g4 x x1 x2
          rw [show 200 * 0 + x = x by omega] at g5
          obtain ⟨y1, y2, _⟩ := fsy_r G h0 h1 (i := x) x1 (by omega)
          unfold gL_X5_hasRow_22 g_X5_hasRow_22
          rw [if_neg (by rw [qz_le (by omega) (by omega) (by omega) (by omega)]; omega), c_get (d := d) (j := j) (n := n) (rwm_1 hm) SK.1 (by omega) (by rw [SK.2.1]; omega) x1 (by rw [g1]; exact x2), bd_some, c_fget hb G h0 h1 x1 (by omega), bd_some, g5.1, if_neg (by rw [qz_inj (by omega) (by omega) (by omega) (by omega)]; exact x3), zl0]
        · unfold gL_X5_hasRow_22 g_X5_hasRow_22
          rw [if_pos (by rw [qz_le (by omega) (by omega) (by omega) (by omega)]; omega), zl1]
      · rw [if_neg (by rw [qz_inj (by omega) (by omega) (by omega) (by omega)]; exact y), qp_F (fun h => y h.1), zl0]
    rw [key, bd_some]
    refine ⟨fun _ y => ?_, fun _ y => ?_⟩
    · rw [qp_T y, if_neg n10]
    · rw [qp_F y, if_pos rfl]
  · rw [if_neg (by rw [qz_inj (by omega) (by omega) (by omega) (by omega)]; exact c)]
    exact ⟨fun _ => rfl, fun z => absurd z c, fun z => absurd z c⟩
/-- the row on the stack is the formula: the reference -/
theorem m_verdict (hn : 100000 ≤ n) (hq : 0 ≤ q ∧ q ≤ 1) (h4 : F 4 = q) (G : BK b q S K P len f a ni j A J) (h0 : 0 ≤ k) (h1 : k < K) (hl : 1 ≤ A 38 0 ∧ A 38 0 ≤ 200) (hr : ∀ x, 0 ≤ x → x < A 38 0 → 0 ≤ A 37 x ∧ A 37 x < S) : (vdt q k A → g_X11_judge_82 n 0 (qz k) (qp (A 38 0 = A 12 (200 * q + k))) (ms F A J) = some (qz 0, ms F A J)) ∧ (¬vdt q k A → g_X11_judge_82 n 0 (qz k) (qp (A 38 0 = A 12 (200 * q + k))) (ms F A J) = some (qz (-9), ms F A J)) := by
  have hS : S ≤ 300 := G.2.1.2.1
  have hK : K ≤ 200 := G.2.1.2.2.2.1
  obtain ⟨f1, f2', f3, f4, f5, f6, f7, f8, f9, f10, f11⟩ := bk_f G h0 h1
  have e1 : g_X11_judge_150 n (qz 1) (ms F A J) = some (qz 0, ms F A J) := by
    unfold g_X11_judge_150
    rw [if_neg (by rw [zl0]; exact n10), zl0]
  have e0 : g_X11_judge_150 n (qz 0) (ms F A J) = some (qz (-9), ms F A J) := by
    unfold g_X11_judge_150
    rw [if_pos (by rw [zl0]), zlm9]
  by_cases y : A 38 0 = A 12 (200 * q + k)
  · have key : hp_lp (gL_X11_judge_85 n 0 (qz k) (ms F A J)) n (qz 1, qz 0) = some (qp (∀ x, 0 ≤ x → x < A 38 0 → A 37 x = fsy q k (A 11) (A 16) x)) := by
      refine lp_brk (b := gL_X11_judge_85 n 0 (qz k) (ms F A J)) (fun x => (qz 1, qz x)) (fun x => (qz 0, qz x)) (fun r => qp r) (fun x => A 37 x = fsy q k (A 11) (A 16) x) (n := n) (lo := 0) (A 38 0) (by omega) (by omega) ?_ ?_ ?_ ?_
      · intro x x1 x2 x3
        unfold gL_X11_judge_85 g_X11_judge_85 g_X11_judge_143
        simp only [zl0, zl1, zl4096]
        rw [m_at h4, bd_some, gp_15, ga_12 (by omega) (by omega), bd_some, if_neg (by rw [qz_le (by omega) (by omega) (by omega) (by omega)]; omega), if_neg n10, gp_56, ga_37 x1 (by omega), bd_some, bd_some, gp_14, ga_11 (by omega) (by omega), bd_some, gf_ms, h4, qz_mul, qz_add, qz_add, gp_19, ga_16 (by omega) (by omega), bd_some, x3]
        unfold fsy
        rw [if_pos rfl, qz_add]
      · intro x x1 x2 x3
        obtain ⟨y1, y2, _⟩ := fsy_r G h0 h1 (i := x) x1 (by omega)
        have y3 := hr x x1 x2
        unfold fsy at x3 y1 y2
        unfold gL_X11_judge_85 g_X11_judge_85 g_X11_judge_143
        simp only [zl0, zl1, zl4096]
        rw [m_at h4, bd_some, gp_15, ga_12 (by omega) (by omega), bd_some, if_neg (by rw [qz_le (by omega) (by omega) (by omega) (by omega)]; omega), if_neg n10, gp_56, ga_37 x1 (by omega), bd_some, bd_some, gp_14, ga_11 (by omega) (by omega), bd_some, gf_ms, h4, qz_mul, qz_add, qz_add, gp_19, ga_16 (by omega) (by omega), bd_some, if_neg (by rw [qz_inj (by omega) (by omega) (by omega) (by omega)]; exact x3), qz_add]
      · intro x x1 x2
        unfold gL_X11_judge_85 g_X11_judge_85
        simp only [zl0]
        rw [m_at h4, bd_some, gp_15, ga_12 (by omega) (by omega), bd_some, if_pos trivial, ite_self, qp_F (fun h => h)]
      · unfold gL_X11_judge_85 g_X11_judge_85
        rw [m_at h4, bd_some, gp_15, ga_12 (by omega) (by omega), bd_some, if_pos (by rw [qz_le (by omega) (by omega) (by omega) (by omega)]; omega), qp_T trivial]
    unfold g_X11_judge_82
    rw [qp_T y, zl0, key, bd_some]
    refine ⟨fun z => ?_, fun z => ?_⟩
    · rw [qp_T z.2, e1]
    · rw [qp_F (fun h => z ⟨y, h⟩), e0]
  · have key : hp_lp (gL_X11_judge_85 n 0 (qz k) (ms F A J)) n (qz 0, qz 0) = some (qz 0) := by
      rw [show n = n - 1 + 1 by omega]
      apply hp_lp_x
      unfold gL_X11_judge_85 g_X11_judge_85
      simp only [zl0]
      rw [m_at h4, bd_some, gp_15, ga_12 (by omega) (by omega), bd_some, if_pos trivial, ite_self]
    unfold g_X11_judge_82
    rw [qp_F y, zl0, key, bd_some, e0]
    exact ⟨fun z => absurd z.1 y, fun _ => rfl⟩
/-- what examining leaves: the frames -/
def EXF (f : Nat → Nat → Int) (d : Nat → Nat) (a : Nat → Int → Int) (ni : Nat → Nat) (j : Nat → Int → Int64) (F : Nat → Int) (A : Nat → Int → Int) (f2 : Nat → Nat → Int) (d2 : Nat → Nat) (a2 : Nat → Int → Int) (ni2 : Nat → Nat) (j2 : Nat → Int → Int64) (F2 : Nat → Int) (A2 : Nat → Int → Int) : Prop := (∀ x, x < 78 ∨ 93 ≤ x → f2 x = f x ∧ a2 x = a x ∧ ni2 x = ni x ∧ j2 x = j x) ∧ (∀ x, x ≠ 6 → x ≠ 7 → d2 x = d x) ∧ (∀ x, ¬(45 ≤ x ∧ x ≤ 55) → x ≠ 59 → x ≠ 67 → F2 x = F x) ∧ ∀ x, ¬(32 ≤ x ∧ x ≤ 47) → A2 x = A x
theorem exam (hn : 100000 ≤ n) (hbq : bq b q) (h4 : F 4 = q) (hd : d 0 = b) (G : BK b q S K P len f a ni j A J) (hR : Rbk b q len a A) (hRW : RWm 83 f a ni) (h0 : 0 ≤ k) (h1 : k < K) (hk : a (b + 8) k = 3) : ∃ (z : Int) (f2 : Nat → Nat → Int) (d2 : Nat → Nat) (a2 : Nat → Int → Int) (ni2 : Nat → Nat) (j2 : Nat → Int → Int64) (F2 : Nat → Int) (A2 : Nat → Int → Int), g_X10_examine n 0 (qz k) (cs f d a ni j) = some (qz z, cs f2 d2 a2 ni2 j2) ∧ g_X11_judge n 0 (qz k) (ms F A J) = some (qz z, ms F2 A2 J) ∧ -10 ≤ z ∧ z ≤ 1 ∧ f2 78 2 = F2 55 ∧ EXF f d a ni j F A f2 d2 a2 ni2 j2 F2 A2 ∧ RWm 83 f2 a2 ni2 ∧ (z = 0 → RI 83 b q S K P len k (F2 50) (F2 50) f2 d2 a2 ni2 j2 F2 A2 J ∧ 0 ≤ F2 50 ∧ F2 50 ≤ 1000 ∧ F2 59 = 1 ∧ f2 78 0 = k ∧ f2 78 1 = F2 50 ∧ d2 6 = b ∧ vdt q k A2) := by
  have hb := bq_b hbq
  have hq := bq_q hbq
  have hbb : b = 1 ∨ b = 33 := hb
  have hm : mch 83 := Or.inl rfl
  have hmi : mi 83 = 7 := rfl
  obtain ⟨z, f2, a2, F2, A2, eD, hz⟩ := dec_all (n := n) (F := u1 F 55 0) (d := d) hn hb hq (by rw [u1_o (by decide)]; exact h4) G hR h0 h1 hk
  have eM0 : g_X11_judge n 0 (qz k) (ms F A J) = (g_X11_isOpen n 0 (qz k) (ms (u1 F 55 0) A J)).bind fun x2 => if x2.1 = qz 0 then (g_X11_readProof n 0 (qz k) x2.2).bind fun x3 => if x3.1 = qz 0 then g_X11_judge_34 n 0 x3.2 else (g_X11_runSteps n 0 (qz k) (qz 1000) x3.2).bind fun x4 => if x4.1 = qz 0 then g_X11_judge_34 n 0 x4.2 else (wF x4.2 0 55 (gF x4.2 0 50)).bind fun w5 => if (gF w5 0 59) = qz 1 then (gA w5 (gP w5 0 57) (qz 0)).bind fun x7 => (g_X11_at n 0 (qz k) w5).bind fun x9 => (gA w5 (gP w5 0 15) x9).bind fun x10 => if x7 = x10 then g_X11_judge_82 n 0 (qz k) (qz 1) w5 else g_X11_judge_82 n 0 (qz k) (qz 0) w5 else some (qz (-8), w5) else some (qz 1, x2.2) := by
    unfold g_X11_judge g_X11_judge_0
    simp only [zl0, zl1, zl1000, zlm8]
    rw [wf_ms, bd_some]
  have eC0 : g_X10_examine n 0 (qz k) (cs f d a ni j) = if qz z = qz 0 then (g_X1_run n 83 b 78 (qz (f2 78 1)) (cs f2 (u1 d 6 b) a2 ni j)).bind fun x8 => g_X10_examine_40 n 0 x8.1 x8.2 else g_X10_examine_40 n 0 (qz z) (cs f2 (u1 d 6 b) a2 ni j) := by
    unfold g_X10_examine g_X10_examine_0 g_X10_examine_39
    simp only [zl0]
    rw [gpc_0_3, gpc_0_0, hd, eD, bd_some, gpc_0_4, gpc_0_0, u1_o (by decide), hd, gpc_0_3, gf_cs]
  have e40 : ∀ (z : Int) (f : Nat → Nat → Int) (d : Nat → Nat) (a : Nat → Int → Int) (ni : Nat → Nat) (j : Nat → Int → Int64), -10 ≤ z → z ≤ 1 → z ≠ 0 → g_X10_examine_40 n 0 (qz z) (cs f d a ni j) = some (qz z, cs f d a ni j) := by
    intro z f d a ni j z0 z1 z2
    unfold g_X10_examine_40
    rw [if_neg (by rw [zl0, qz_inj (by omega) (by omega) (by omega) (by omega)]; exact z2)]
  have e34 : ∀ (F : Nat → Int) (A : Nat → Int → Int), g_X11_judge_34 n 0 (ms F A J) = some (qz (F 54), ms F A J) := by
    intro F A
    unfold g_X11_judge_34
    rw [gf_ms]
  rcases hz with ⟨z1, eO, g1, g2, g3, g4, g5⟩ | ⟨F1, A1, eO, eR, ⟨c1, c2, c3⟩, m1, c4, c5, c6⟩
  · refine ⟨1, f2, u1 d 6 b, a2, ni, j, F2, A2, ?_, ?_, by omega, by omega, ?_, ⟨fun x hx => ⟨g2 x (by omega), by rw [g3], rfl, rfl⟩, fun x x1 x2 => u1_o x1, fun x x1 x2 x3 => ?_, fun x hx => g4.2 x (by omega)⟩, ?_, fun z => by omega⟩
    · rw [eC0, z1, if_neg n10, e40 1 _ _ _ _ _ (by omega) (by omega) (by omega)]
    · rw [eM0, eO, bd_some, if_neg n10]
    · rw [g1, g5 55 (by decide), u1_s]
    · rw [g4.1 x x1, u1_o (by omega)]
    · unfold RWm
      rw [g3, g2 _ (by omega), g2 _ (by omega)]
      exact hRW
  · rw [eO, bd_some, if_pos rfl, eR, bd_some] at eM0
    by_cases cz : z = 0
    · obtain ⟨k1, k2, k3, k4, k5, k6⟩ := c6 cz
      rw [qp_T cz, if_neg n10] at eM0
      rw [cz, if_pos rfl, k2] at eC0
      have G2 : BK b q S K P len f2 a2 ni j A2 J := bk_eq G (fun x x1 x2 => c1 x (by omega)) (fun x x1 x2 => c3 x (by omega)) (fun _ _ _ => rfl) rfl (fun x x1 x2 => m1.2 x (by omega)) ⟨rfl, rfl⟩
      have hRW2 : RWm 83 f2 a2 ni := by
        unfold RWm
        rw [c1 _ (by omega), c1 _ (by omega), c3 _ (by omega), c3 _ (by omega)]
        exact hRW
      obtain ⟨f3, a3, ni3, j3, F3, A3, w1, w2, w3⟩ := run_all (n := n) (m := 83) (d := u1 d 6 b) (mo := F2 50) (w := 1000) (e := F2 50) hn hm hbq G2 h0 h1 (by rw [c3 _ (by omega)]; exact hk) (by rw [m1.1 4 (by decide), u1_o (by decide)]; exact h4) c2 k2 rfl k3 k4 k5 k6 hRW2 (by omega) (by omega) k3 (by omega) (by rw [if_pos (Int.le_refl _)]) (by split <;> omega)
      rw [hmi] at w3
      have hX : EXF f d a ni j F A f3 (u1 (u1 d 6 b) 7 b) a3 ni3 j3 F3 A3 := by
        refine ⟨fun x hx => ?_, fun x x1 x2 => by rw [u1_o x2, u1_o x1], fun x x1 x2 x3 => ?_, fun x hx => ?_⟩
        · obtain ⟨y1, y2, y3, y4⟩ := w1 x (by omega)
          exact ⟨by rw [y1]; exact c1 x (by omega), by rw [y2]; exact c3 x (by omega), y3, y4⟩
        · rw [w2.1 x (by omega) (by omega) x2 x3, m1.1 x x1, u1_o (by omega)]
        · rw [w2.2 x (by omega)]; exact m1.2 x (by omega)
      rcases w3 with ⟨y1, y2, y3⟩ | ⟨z', t, z0, z1, t0, t1, y1, y2, y3, y4, y5⟩
      · have f50 : F3 50 = F2 50 := w2.1 50 (by decide) (by decide) (by decide) (by decide)
        have f78 : f3 78 = f2 78 := (w1 78 (by omega)).1
        obtain ⟨R1, R2, R3, R4, R5, R6, R7, R8, R9, R10, R11⟩ := y3
        have R0 := rwl_0 R5
        rw [y1, bd_some] at eC0
        rw [y2, bd_some, if_neg n10, gf_ms, wf_ms, bd_some, gf_ms, u1_o (by decide), f50] at eM0
        have ev := c_verdict (n := n) (d := u1 (u1 d 6 b) 7 b) hn hm hb R1 h0 h1 R5 R6 (by rw [f78]; exact c2)
        have eX : ∀ r, g_X1_verdict n 83 b 78 (cs f3 (u1 (u1 d 6 b) 7 b) a3 ni3 j3) = some r → g_X10_examine_40 n 0 (qz 0) (cs f3 (u1 (u1 d 6 b) 7 b) a3 ni3 j3) = some (r, cs f3 (u1 (u1 d 6 b) 7 b) a3 ni3 j3) := by
          intro r hr
          unfold g_X10_examine_40
          simp only [zl0]
          rw [if_pos trivial, gpc_0_4, gpc_0_0, gpc_0_3, u1_o (by decide), u1_o (by decide), hd, hr, bd_some]
        have hXF : EXF f d a ni j F A f3 (u1 (u1 d 6 b) 7 b) a3 ni3 j3 (u1 F3 55 (F2 50)) A3 := ⟨hX.1, hX.2.1, fun x x1 x2 x3 => by rw [u1_o (by omega)]; exact hX.2.2.1 x x1 x2 x3, hX.2.2.2⟩
        have h55 : f3 78 2 = u1 F3 55 (F2 50) 55 := by rw [u1_s, f78]; exact k1
        by_cases c59 : F3 59 = 1
        · rw [c59, if_pos rfl] at eM0
          rw [c59] at R5
          obtain ⟨q1, q2, q3, q4⟩ := R5.2.2.2 0 (by omega) (by omega)
          have hK : K ≤ 200 := G.2.1.2.2.2.1
          obtain ⟨_, _, _, _, f5, f6, _⟩ := bk_f R1 h0 h1
          have R3' : u1 F3 55 (F2 50) 4 = q := by rw [u1_o (by decide)]; exact R3
          obtain ⟨v1', v2'⟩ := m_verdict (n := n) (F := u1 F3 55 (F2 50)) hn hq R3' R1 h0 h1 ⟨q2, q3⟩ (fun x x0 x1 => by
            have := (q4 x x0 x1).2
            rw [show 200 * 0 + x = x by omega] at this
            exact this)
          have eM1 : g_X11_judge n 0 (qz k) (ms F A J) = g_X11_judge_82 n 0 (qz k) (qp (A3 38 0 = A3 12 (200 * q + k))) (ms (u1 F3 55 (F2 50)) A3 J) := by
            rw [eM0, gp_57, ga_38 (by omega) (by omega), bd_some, m_at R3', bd_some, gp_15, ga_12 (by omega) (by omega), bd_some]
            by_cases y : A3 38 0 = A3 12 (200 * q + k)
            · rw [if_pos (by rw [y]), qp_T y]
            · rw [if_neg (by rw [qz_inj (by omega) (by omega) (by omega) (by omega)]; exact y), qp_F y]
          by_cases cv : vdt q k A3
          · refine ⟨0, f3, u1 (u1 d 6 b) 7 b, a3, ni3, j3, u1 F3 55 (F2 50), A3, ?_, ?_, by omega, by omega, h55, hXF, ⟨R5.1, R7.1⟩, fun _ => ?_⟩
            · rw [eC0, eX _ (ev.2.1 c59 cv)]
            · rw [eM1, v1' cv]
            · rw [u1_o (by decide), f50]
              refine ⟨⟨R1, R2, R3', R4, by rw [u1_o (by decide), c59]; exact R5, by rw [u1_o (by decide)]; exact R6, R7, R8, R9, by rw [u1_o (by decide), u1_o (by decide)]; exact R10, by rw [u1_o (by decide), u1_o (by decide)]; exact R11⟩, k3, k4, by rw [u1_o (by decide)]; exact c59, by rw [f78]; exact c2, by rw [f78]; exact k2, by rw [u1_o (by decide), u1_s], cv⟩
          · refine ⟨-9, f3, u1 (u1 d 6 b) 7 b, a3, ni3, j3, u1 F3 55 (F2 50), A3, ?_, ?_, by omega, by omega, h55, hXF, ⟨R5.1, R7.1⟩, fun z => by omega⟩
            · rw [eC0, eX _ (ev.2.2 c59 cv)]
            · rw [eM1, v2' cv]
        · refine ⟨-8, f3, u1 (u1 d 6 b) 7 b, a3, ni3, j3, u1 F3 55 (F2 50), A3, ?_, ?_, by omega, by omega, h55, hXF, ⟨R5.1, R7.1⟩, fun z => by omega⟩
          · rw [eC0, eX _ (ev.1 c59)]
          · rw [eM0, if_neg (by rw [qz_inj (by omega) (by omega) (by omega) (by omega)]; exact c59)]
      · refine ⟨z', u2 f3 78 2 t, u1 (u1 d 6 b) 7 b, a3, ni3, j3, F3, A3, ?_, ?_, by omega, by omega, by rw [u2_a]; exact y4.symm, ⟨fun x hx => ⟨by rw [u2_b (by omega)]; exact (hX.1 x hx).1, (hX.1 x hx).2⟩, hX.2⟩, ?_, fun z => by omega⟩
        · rw [eC0, y1, bd_some, e40 z' _ _ _ _ _ (by omega) (by omega) (by omega)]
        · rw [eM0, y2, bd_some, if_pos rfl, e34, y3]
        · unfold RWm at y5 ⊢
          rw [u2_b (by omega), u2_b (by omega)]
          exact y5
    · obtain ⟨k1, k2⟩ := c5 cz
      refine ⟨z, f2, u1 d 6 b, a2, ni, j, F2, A2, ?_, ?_, by omega, by omega, k2.symm, ⟨fun x hx => ⟨c1 x (by omega), c3 x (by omega), rfl, rfl⟩, fun x x1 x2 => u1_o x1, fun x x1 x2 x3 => by rw [m1.1 x x1, u1_o (by omega)], fun x hx => m1.2 x (by omega)⟩, ?_, fun y => absurd y cz⟩
      · rw [eC0, if_neg (by rw [qz_inj (by omega) (by omega) (by omega) (by omega)]; exact cz), e40 z _ _ _ _ _ (by omega) (by omega) cz]
      · rw [eM0, qp_F cz, if_pos rfl, e34, k1]
      · unfold RWm
        rw [c1 _ (by omega), c1 _ (by omega), c3 _ (by omega), c3 _ (by omega)]
        exact hRW
end EXA
