/-! The steps of a proof are run: both -/
section RUN
variable {n m b : Nat} {q S K P len k N i e w : Int} {f f2 f3 : Nat → Nat → Int} {d : Nat → Nat} {a a2 a3 : Nat → Int → Int} {ni ni2 ni3 : Nat → Nat} {j j2 j3 : Nat → Int → Int64} {F F2 F3 : Nat → Int} {A A2 A3 : Nat → Int → Int} {J : Nat → Int → Int64}
theorem frm_0 : FRM m f a ni j f a ni j := ⟨fun _ _ => ⟨rfl, rfl, rfl, rfl⟩, rfl⟩
theorem frm_t (h : FRM m f a ni j f2 a2 ni2 j2) (h2 : FRM m f2 a2 ni2 j2 f3 a3 ni3 j3) : FRM m f a ni j f3 a3 ni3 j3 := by
  refine ⟨fun x hx => ?_, by rw [h2.2, h.2]⟩
  obtain ⟨p1, p2, p3, p4⟩ := h.1 x hx
  obtain ⟨q1, q2, q3, q4⟩ := h2.1 x hx
  exact ⟨q1.trans p1, q2.trans p2, q3.trans p3, q4.trans p4⟩
theorem frr_0 : FRR F A F A := ⟨fun _ _ _ _ _ => rfl, fun _ _ => rfl⟩
theorem frr_t (h : FRR F A F2 A2) (h2 : FRR F2 A2 F3 A3) : FRR F A F3 A3 := ⟨fun x x1 x2 x3 x4 => (h2.1 x x1 x2 x3 x4).trans (h.1 x x1 x2 x3 x4), fun x hx => (h2.2 x hx).trans (h.2 x hx)⟩
theorem one_step (hn : 100000 ≤ n) (hm : mch m) (hbq : bq b q) (H : RI m b q S K P len k N i f d a ni j F A J) (h0 : 0 ≤ k) (h1 : k < K) (i0 : 0 ≤ i) (i1 : i < N) (hN : N ≤ 1000) (h50 : F 50 = N) (ie : i < e) (e1 : e ≤ 1000) (iw : i < w) (w1 : w ≤ 1001) : ∃ (f2 : Nat → Nat → Int) (a2 : Nat → Int → Int) (ni2 : Nat → Nat) (j2 : Nat → Int → Int64) (F2 : Nat → Int) (A2 : Nat → Int → Int), FRM m f a ni j f2 a2 ni2 j2 ∧ FRR F A F2 A2 ∧ ((gL_X1_run_40 n m 78 (qz e) (qz i, cs f d a ni j) = some (.inl (qz (i + 1), cs f2 d a2 ni2 j2)) ∧ gL_X11_runSteps_15 n 0 (qz k) (qz w) (qz 1, qz i, ms F A J) = some (.inl (qz 1, qz (i + 1), ms F2 A2 J)) ∧ RI m b q S K P len k N (i + 1) f2 d a2 ni2 j2 F2 A2 J) ∨ ∃ z, -10 ≤ z ∧ z < 0 ∧ gL_X1_run_40 n m 78 (qz e) (qz i, cs f d a ni j) = some (.inr (.inl (qz i, qz z, cs f2 d a2 ni2 j2))) ∧ gL_X11_runSteps_15 n 0 (qz k) (qz w) (qz 1, qz i, ms F A J) = some (.inl (qz 0, qz (i + 1), ms F2 A2 J)) ∧ F2 54 = z ∧ F2 55 = i ∧ RWm m f2 a2 ni2) := by
  by_cases c : a 79 i < 0 ∨ a (b + 8) (a 79 i) < 2
  · exact push_step hn hm (bq_b hbq) (bq_q hbq) H h0 h1 i0 i1 hN h50 ie e1 iw w1 c
  · exact apply_step hn hm hbq H h0 h1 i0 i1 hN h50 ie e1 iw w1 (by omega) (by omega)
theorem run_loop (hn : 100000 ≤ n) (hm : mch m) (hbq : bq b q) (H : RI m b q S K P len k N 0 f d a ni j F A J) (h0 : 0 ≤ k) (h1 : k < K) (hN0 : 0 ≤ N) (hN : N ≤ 1000) (h50 : F 50 = N) (e0 : 0 ≤ e) (ew : (e = w ∧ w ≤ N) ∨ (e = N ∧ N ≤ w)) (w1 : w ≤ 1001) : ∃ (f2 : Nat → Nat → Int) (a2 : Nat → Int → Int) (ni2 : Nat → Nat) (j2 : Nat → Int → Int64) (F2 : Nat → Int) (A2 : Nat → Int → Int), FRM m f a ni j f2 a2 ni2 j2 ∧ FRR F A F2 A2 ∧ ((hp_lp (gL_X1_run_40 n m 78 (qz e)) n (qz 0, cs f d a ni j) = some (.inr (qz 0, cs f2 d a2 ni2 j2)) ∧ hp_lp (gL_X11_runSteps_15 n 0 (qz k) (qz w)) n (qz 1, qz 0, ms F A J) = some (qz 1, ms F2 A2 J) ∧ RI m b q S K P len k N e f2 d a2 ni2 j2 F2 A2 J) ∨ ∃ z t, -10 ≤ z ∧ z < 0 ∧ 0 ≤ t ∧ t < e ∧ hp_lp (gL_X1_run_40 n m 78 (qz e)) n (qz 0, cs f d a ni j) = some (.inl (qz t, qz z, cs f2 d a2 ni2 j2)) ∧ hp_lp (gL_X11_runSteps_15 n 0 (qz k) (qz w)) n (qz 1, qz 0, ms F A J) = some (qz 0, ms F2 A2 J) ∧ F2 54 = z ∧ F2 55 = t ∧ RWm m f2 a2 ni2) := by
  have lp := lp_ix (b := gL_X1_run_40 n m 78 (qz e)) (fun t c => ∃ (f2 : Nat → Nat → Int) (a2 : Nat → Int → Int) (ni2 : Nat → Nat) (j2 : Nat → Int → Int64) (F2 : Nat → Int) (A2 : Nat → Int → Int), c = (qz t, cs f2 d a2 ni2 j2) ∧ hp_lp (gL_X11_runSteps_15 n 0 (qz k) (qz w)) n (qz 1, qz 0, ms F A J) = hp_lp (gL_X11_runSteps_15 n 0 (qz k) (qz w)) (n - t.toNat) (qz 1, qz t, ms F2 A2 J) ∧ FRM m f a ni j f2 a2 ni2 j2 ∧ FRR F A F2 A2 ∧ RI m b q S K P len k N t f2 d a2 ni2 j2 F2 A2 J) (Q := fun s => ∃ (f2 : Nat → Nat → Int) (a2 : Nat → Int → Int) (ni2 : Nat → Nat) (j2 : Nat → Int → Int64) (F2 : Nat → Int) (A2 : Nat → Int → Int), FRM m f a ni j f2 a2 ni2 j2 ∧ FRR F A F2 A2 ∧ ((s = .inr (qz 0, cs f2 d a2 ni2 j2) ∧ hp_lp (gL_X11_runSteps_15 n 0 (qz k) (qz w)) n (qz 1, qz 0, ms F A J) = some (qz 1, ms F2 A2 J) ∧ RI m b q S K P len k N e f2 d a2 ni2 j2 F2 A2 J) ∨ ∃ z t, -10 ≤ z ∧ z < 0 ∧ 0 ≤ t ∧ t < e ∧ s = .inl (qz t, qz z, cs f2 d a2 ni2 j2) ∧ hp_lp (gL_X11_runSteps_15 n 0 (qz k) (qz w)) n (qz 1, qz 0, ms F A J) = some (qz 0, ms F2 A2 J) ∧ F2 54 = z ∧ F2 55 = t ∧ RWm m f2 a2 ni2)) e (n := n) (i0 := 0) (by omega) (by omega) (c0 := (qz 0, cs f d a ni j)) ⟨f, a, ni, j, F, A, rfl, rfl, frm_0, frr_0, H⟩ ?_ ?_
  · obtain ⟨s, es, f2, a2, ni2, j2, F2, A2, g1, g2, g3⟩ := lp
    refine ⟨f2, a2, ni2, j2, F2, A2, g1, g2, ?_⟩
    rcases g3 with ⟨rfl, g4, g5⟩ | ⟨z, t, z0, z1, t0, t1, rfl, g4, g5⟩
    · exact Or.inl ⟨es, g4, g5⟩
    · exact Or.inr ⟨z, t, z0, z1, t0, t1, es, g4, g5⟩
  · rintro t c t0 t1 ⟨f2, a2, ni2, j2, F2, A2, rfl, hl, g1, g2, g3⟩
    have h50' : F2 50 = N := by rw [g2.1 50 (by decide) (by decide) (by decide) (by decide)]; exact h50
    obtain ⟨f3, a3, ni3, j3, F3, A3, k1, k2, kk⟩ := one_step (n := n) (e := e) (w := w) hn hm hbq g3 h0 h1 t0 (by omega) hN h50' t1 (by omega) (by omega) w1
    have en : n - t.toNat = n - (t + 1).toNat + 1 := by omega
    rcases kk with ⟨y1, y2, y3⟩ | ⟨z, z0, z1, y1, y2, y3, y4, y5⟩
    · refine Or.inl ⟨_, y1, f3, a3, ni3, j3, F3, A3, rfl, ?_, frm_t g1 k1, frr_t g2 k2, y3⟩
      rw [hl, en, lp_st y2]
    · refine Or.inr ⟨_, y1, f3, a3, ni3, j3, F3, A3, frm_t g1 k1, frr_t g2 k2, Or.inr ⟨z, t, z0, z1, t0, t1, rfl, ?_, y3, y4, y5⟩⟩
      rw [hl, en, lp_st y2, show n - (t + 1).toNat = n - (t + 1).toNat - 1 + 1 by omega]
      apply hp_lp_x
      unfold gL_X11_runSteps_15 g_X11_runSteps_15
      simp only [zl0]
      rw [hp_bz_0, bd_some, if_pos trivial, ite_self, ite_self]
  · rintro c ⟨f2, a2, ni2, j2, F2, A2, rfl, hl, g1, g2, g3⟩
    have h50' : F2 50 = N := by rw [g2.1 50 (by decide) (by decide) (by decide) (by decide)]; exact h50
    refine ⟨.inr (qz 0, cs f2 d a2 ni2 j2), ?_, f2, a2, ni2, j2, F2, A2, g1, g2, Or.inl ⟨rfl, ?_, g3⟩⟩
    · unfold gL_X1_run_40 g_X1_run_40
      rw [if_pos (by rw [qz_le (by omega) (by omega) (by omega) (by omega)]; omega), zl0]
    · rw [hl, show n - e.toNat = n - e.toNat - 1 + 1 by omega]
      apply hp_lp_x
      unfold gL_X11_runSteps_15 g_X11_runSteps_15
      rw [gf_ms, h50', hp_bz_1, bd_some]
      rcases ew with ⟨y1, y2⟩ | ⟨y1, y2⟩
      · by_cases y : N = e
        · rw [if_pos (by rw [qz_le (by omega) (by omega) (by omega) (by omega)]; omega)]
        · rw [if_neg (by rw [qz_le (by omega) (by omega) (by omega) (by omega)]; omega), if_pos (by rw [qz_le (by omega) (by omega) (by omega) (by omega)]; omega)]
      · rw [if_pos (by rw [qz_le (by omega) (by omega) (by omega) (by omega)]; omega)]
/-- the whole run -/
theorem run_all {mo : Int} (hn : 100000 ≤ n) (hm : mch m) (hbq : bq b q) (G : BK b q S K P len f a ni j A J) (h0 : 0 ≤ k) (h1 : k < K) (hk : a (b + 8) k = 3) (h4 : F 4 = q) (f0 : f 78 0 = k) (f1 : f 78 1 = N) (h50 : F 50 = N) (hN0 : 0 ≤ N) (hN : N ≤ 1000) (HD : DP k N (a 79) (a 80) (A 34) (A 35) (A 36)) (hmk : mkc (a 80) N ≤ 200) (hRW : RWm m f a ni) (w0 : 0 ≤ w) (w1 : w ≤ 1001) (mo0 : 0 ≤ mo) (mo1 : mo ≤ 1001) (hmo : (if mo ≤ N then mo else N) = e) (hw : (if w ≤ N then w else N) = e) : ∃ (f2 : Nat → Nat → Int) (a2 : Nat → Int → Int) (ni2 : Nat → Nat) (j2 : Nat → Int → Int64) (F2 : Nat → Int) (A2 : Nat → Int → Int), (∀ x, ¬(m < x ∧ x < m + 10) → f2 x = f x ∧ a2 x = a x ∧ ni2 x = ni x ∧ j2 x = j x) ∧ FRR F A F2 A2 ∧ ((g_X1_run n m b 78 (qz mo) (cs f d a ni j) = some (qz 0, cs f2 (u1 d (mi m) b) a2 ni2 j2) ∧ g_X11_runSteps n 0 (qz k) (qz w) (ms F A J) = some (qz 1, ms F2 A2 J) ∧ RI m b q S K P len k N e f2 (u1 d (mi m) b) a2 ni2 j2 F2 A2 J) ∨ ∃ z t, -10 ≤ z ∧ z < 0 ∧ 0 ≤ t ∧ t < e ∧ g_X1_run n m b 78 (qz mo) (cs f d a ni j) = some (qz z, cs (u2 f2 78 2 t) (u1 d (mi m) b) a2 ni2 j2) ∧ g_X11_runSteps n 0 (qz k) (qz w) (ms F A J) = some (qz 0, ms F2 A2 J) ∧ F2 54 = z ∧ F2 55 = t ∧ RWm m f2 a2 ni2) := by
  have hb := bq_b hbq
  have hbb : b = 1 ∨ b = 33 := hb
  have hmm : m = 83 ∨ m = 93 := hm
  generalize hf' : u2 (u2 (u2 (u2 f (m + 1) 3 0) (m + 1) 2 0) (m + 4) 3 0) (m + 4) 2 0 = f'
  have e1' : ∀ x, x ≠ m + 1 → x ≠ m + 4 → f' x = f x := fun x x1 x2 => by rw [← hf', u2_b x2, u2_b x2, u2_b x1, u2_b x1]
  have e2 : f' (m + 1) 3 = 0 := by rw [← hf', u2_b (by omega), u2_b (by omega), u2_c (by decide), u2_a]
  have e3 : f' (m + 1) 2 = 0 := by rw [← hf', u2_b (by omega), u2_b (by omega), u2_a]
  have e4 : f' (m + 4) 3 = 0 := by rw [← hf', u2_c (by decide), u2_a]
  have e5 : f' (m + 4) 2 = 0 := by rw [← hf', u2_a]
  have G' : BK b q S K P len f' a ni j A J := bk_eq G (fun x x1 x2 => e1' x (by omega) (by omega)) (fun _ _ _ => rfl) (fun _ _ _ => rfl) rfl (fun _ _ _ => rfl) ⟨rfl, rfl⟩
  have hd' : (u1 d (mi m) b) (mi m) = b := u1_s
  obtain ⟨w', ew, HP⟩ := c_noteP (n := n) (d := u1 d (mi m) b) (j := j) hn hm hb hd' G' h0 h1 hk
  have G2 : BK b q S K P len f' a ni (u1 j (m + 8) w') A J := bk_eq G' (fun _ _ _ => rfl) (fun _ _ _ => rfl) (fun _ _ _ => rfl) (u1_o (by omega)) (fun _ _ _ => rfl) ⟨rfl, rfl⟩
  have H : RI m b q S K P len k N 0 f' (u1 d (mi m) b) a ni (u1 j (m + 8) w') (u1 (u1 F 59 0) 67 0) A J := by
    have r1 := rw_clear hRW.1
    have r4 := rw_clear hRW.2
    refine ⟨G2, hd', by rw [u1_o (by decide), u1_o (by decide)]; exact h4, HP, ?_, by rw [u1_o (by decide), u1_s]; decide, ?_, HD, hmk, by rw [u1_s, u1_o (by decide), u1_s]; decide, ?_⟩
    · rw [u1_o (by decide), u1_s]
      refine ⟨by rw [e2, e3]; exact r1, e2, ?_, fun r r0 r1 => by omega⟩
      rw [e3]; exact (r1.2.2.2.2.2.2.2.2.2.1).symm
    · refine ⟨by rw [e4, e5]; exact r4, e4, ?_, fun r r0 r1 => ?_⟩
      · rw [e5]; exact (r4.2.2.2.2.2.2.2.2.2.1).symm
      · exact absurd r1 (by rw [show mkc (a 80) 0 = 0 from rfl]; omega)
    · rw [u1_o (by decide), u1_s, u1_s]
      exact tree_0
  obtain ⟨f2, a2, ni2, j2, F2, A2, g1, g2, g3⟩ := run_loop (n := n) (e := e) (w := w) hn hm hbq H h0 h1 hN0 hN (by rw [u1_o (by decide), u1_o (by decide)]; exact h50) (by split at hmo <;> omega) (by split at hw <;> omega) w1
  have eC : ∀ X, hp_lp (gL_X1_run_40 n m 78 (qz e)) n (qz 0, cs f' (u1 d (mi m) b) a ni (u1 j (m + 8) w')) = some X → g_X1_run n m b 78 (qz mo) (cs f d a ni j) = Sum.elim (fun y8 => g_X1_run_109 n 78 y8.1 y8.2.1 y8.2.2) (fun y9 => some (y9.1, y9.2)) X := by
    intro X hX
    unfold g_X1_run g_X1_run_0
    rw [wpm_2 hm, bd_some, gpm_0 hm, c_rclear (rwm_1 hm), bd_some, gpm_1 hm, c_rclear (rwm_4 hm), bd_some, hf', gf_cs, e1' 78 (by omega) (by omega), f0, ew, bd_some, gf_cs, e1' 78 (by omega) (by omega), f1, qmn (by omega) (by omega) (by omega) (by omega), hmo, zl0, hX, bd_some]
  have eM : g_X11_runSteps n 0 (qz k) (qz w) (ms F A J) = (hp_lp (gL_X11_runSteps_15 n 0 (qz k) (qz w)) n (qz 1, qz 0, ms (u1 (u1 F 59 0) 67 0) A J)).bind fun x3 => some (x3.1, x3.2) := by
    unfold g_X11_runSteps g_X11_runSteps_0
    simp only [zl0, zl1]
    rw [wf_ms, bd_some, wf_ms, bd_some]
  refine ⟨f2, a2, ni2, j2, F2, A2, fun x hx => ?_, ⟨fun x x1 x2 x3 x4 => ?_, g2.2⟩, ?_⟩
  · obtain ⟨y1, y2, y3, y4⟩ := g1.1 x hx
    exact ⟨by rw [y1]; exact e1' x (by omega) (by omega), y2, y3, by rw [y4]; exact u1_o (by omega)⟩
  · rw [g2.1 x x1 x2 x3 x4, u1_o x4, u1_o x3]
  · rcases g3 with ⟨y1, y2, y3⟩ | ⟨z, t, z0, z1, t0, t1, y1, y2, y3, y4, y5⟩
    · refine Or.inl ⟨?_, ?_, y3⟩
      · rw [eC _ y1, Sum.elim_inr]
      · rw [eM, y2, bd_some]
    · refine Or.inr ⟨z, t, z0, z1, t0, t1, ?_, ?_, y3, y4, y5⟩
      · rw [eC _ y1, Sum.elim_inl]
        unfold g_X1_run_109
        rw [wf_cs, bd_some]
      · rw [eM, y2, bd_some]
end RUN
