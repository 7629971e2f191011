/-! A book is read: both -/
section BOO
variable {b n : Nat} {q S K P len c b0 e0 w : Int} {f0 : Nat → Nat → Int} {a0 : Nat → Int → Int} {ni0 : Nat → Nat} {j0 : Nat → Int → Int64} {F0 : Nat → Int} {A0 : Nat → Int → Int} {J0 : Nat → Int → Int64} {f : Nat → Nat → Int} {d : Nat → Nat} {a : Nat → Int → Int} {ni : Nat → Nat} {j : Nat → Int → Int64} {F : Nat → Int} {A : Nat → Int → Int} {J : Nat → Int → Int64}
theorem c_216 {f2 : Nat → Nat → Int} {a2 : Nat → Int → Int} {ni2 : Nat → Nat} {j2 : Nat → Int → Int64} {z : Int} (hz : 0 ≤ z ∧ z ≤ 7) (hr : z = 0 → 0 ≤ f2 77 2 ∧ f2 77 2 ≤ 3 ∧ (f2 77 2 = 0 → 0 ≤ f2 65 4 ∧ f2 65 4 ≤ 6 ∧ 0 ≤ f2 66 0 ∧ f2 66 0 ≤ 100)) : g_X4_readBook_216 n 65 (qz z) (cs f2 d a2 ni2 j2) = some (qz (if z = 0 then (if f2 77 2 = 0 then (if f2 65 4 = 0 ∧ f2 66 0 = 0 then 0 else 2) else f2 77 2) else z), cs (u2 f2 65 0 (f2 77 0)) d a2 ni2 j2) := by
  unfold g_X4_readBook_216 g_X4_readBook_241 g_X4_readBook_274
  simp only [qz_lit]
  have q1 : u2 f2 65 0 (f2 77 0) 77 2 = f2 77 2 := by rw [u2_b (by decide)]
  have q2 : u2 f2 65 0 (f2 77 0) 65 4 = f2 65 4 := by rw [u2_c (by decide)]
  have q3 : u2 f2 65 0 (f2 77 0) 66 0 = f2 66 0 := by rw [u2_b (by decide)]
  rw [gpc_65_2, gf_cs, wf_cs, bd_some, gpc_65_2, gpc_65_3, gf_cs, gf_cs, gf_cs, q1, q2, q3]
  by_cases z0 : z = 0
  · obtain ⟨h1, h2, h3⟩ := hr z0
    rw [z0, if_pos rfl, if_pos rfl, if_pos rfl]
    by_cases o0 : f2 77 2 = 0
    · obtain ⟨h4, h5, h6, h7⟩ := h3 o0
      rw [o0, if_pos rfl, if_pos rfl]
      by_cases s0 : f2 65 4 = 0
      · rw [s0, if_pos rfl]
        by_cases d0 : f2 66 0 = 0
        · rw [d0, if_pos (by decide), if_pos ⟨rfl, rfl⟩]
        · rw [if_neg (by rw [qz_le (by omega) (by omega) (by omega) (by omega)]; omega), if_neg (fun y => d0 y.2)]
      · rw [if_neg (by rw [qz_inj (by omega) (by omega) (by omega) (by omega)]; exact s0), if_neg (fun y => s0 y.1)]
    · rw [if_neg (by rw [qz_inj (by omega) (by omega) (by omega) (by omega)]; exact o0), if_neg o0]
  · rw [if_neg (by rw [qz_inj (by omega) (by omega) (by omega) (by omega)]; exact z0), if_neg (by rw [qz_inj (by omega) (by omega) (by omega) (by omega)]; exact z0), if_neg z0]
theorem rd_book (hn : 100000 ≤ n) (hbq : bq b q) (W : RwA b f a ni) (h2 : f b 2 = len) (hl0 : 0 ≤ len) (hl1 : len ≤ 8192) (hby : byt (a (b + 2))) (ht : txt (A 1) len) (hx : txs (a (b + 2)) (A 1) len) (hF1 : F 1 = len) (hF4 : F 4 = 1 - q) :
    ∃ (z : Int) (f2 : Nat → Nat → Int) (a2 : Nat → Int → Int) (ni2 : Nat → Nat) (j2 : Nat → Int → Int64) (F2 : Nat → Int) (A2 : Nat → Int → Int) (J2 : Nat → Int → Int64), g_X4_readBook n 65 b (cs f d a ni j) = some (qz z, cs f2 (u1 (u1 d 4 b) 5 (b + 2)) a2 ni2 j2) ∧ g_X11_readBook n 0 (ms F A J) = some (qz z, ms F2 A2 J2) ∧ FR b q f a ni j F A J f2 a2 ni2 j2 F2 A2 J2 ∧ RwA b f2 a2 ni2 ∧ 0 ≤ z ∧ z ≤ 7 ∧ ((z = 0 ∨ z = 2) → f2 65 0 = len) ∧ ((z ≠ 0 ∧ z ≠ 2) → f2 65 0 = F2 29) ∧ 0 ≤ f2 65 0 ∧ f2 65 0 ≤ len ∧ (z = 0 → F2 32 = q) ∧ (z = 0 → ∃ S2 K2 P2, BK b q S2 K2 P2 len f2 a2 ni2 j2 A2 J2 ∧ txs (a2 (b + 2)) (A2 1) len ∧ ∀ x, 0 ≤ x → x < len → 0 < A2 1 x ∧ A2 1 x < 127) := by
  have hb := bq_b hbq
  have hq := bq_q hbq
  have hbb : b = 1 ∨ b = 33 := hb
  obtain ⟨A1, Y0, y1, y2, y3, y4, y5, y6⟩ := m_begin (F := F) (A := A) (J := J) (n := n) (q := q) hn hq hF4
  generalize hFF : u1 (u1 (u1 (u1 (u1 (u1 (u1 F 32 q) 31 0) 33 0) 34 0) 36 0) 37 0) 43 0 = F1 at Y0
  generalize hff : u2 (u2 (u2 (u2 (u2 (u2 (u2 (u2 (u2 (fB0 b f) 66 0 0) 66 4 0) 66 9 0) 66 12 0) 77 4 len) 77 0 0) 77 1 0) 77 2 0) 65 4 0 = f1
  generalize haa : u1 (u1 (u1 (u1 a (b + 3) (fl (a (b + 3)) 256 (-1))) 70 (fl (a 70) 300 0)) 71 (fl (a 71) 300 0)) 72 (fl (a 72) 300 0) = a1
  have X0 : g_X4_readBook n 65 b (cs f d a ni j) = (hp_lp (gL_X4_readBook_49 n 65) n (qz 0, qz 0, cs f1 (u1 (u1 d 4 b) 5 (b + 2)) a1 ni j)).bind fun x12 => g_X4_readBook_216 n 65 x12.1 x12.2 := by
    unfold g_X4_readBook g_X4_readBook_0
    simp only [qz_lit]
    rw [wp_65_1, bd_some, gpc_65_1, u1_s, c_bclear hn hb, bd_some, gpc_65_3, c_sclear hn, bd_some, gpc_65_2, gpc_65_1, u1_s, gpb_1 hb, gf_cs, c_sopen, bd_some, wf_cs, bd_some]
    rw [← hff, ← haa]
    have e2 : u2 (u2 (u2 (u2 (fB0 b f) 66 0 0) 66 4 0) 66 9 0) 66 12 0 b 2 = len := by
      unfold fB0
      simp (disch := omega) only [u2_b, u2_c]
      exact h2
    rw [e2]
    simp (disch := omega) only [u1_o]
  have hfr : FR b q f a ni j F A J f1 a1 ni j F1 A1 J := by
    rw [← hff, ← haa, ← hFF]
    unfold fB0
    have hA : FR b q f a ni j F A J f a ni j F A1 J := by
      refine ⟨fun _ _ _ => ⟨rfl, rfl, rfl, rfl⟩, fun _ _ => rfl, fun i hi => y1 i (by omega) (by omega) (by omega) (by omega) (by omega) (by omega), fun i x hi hx => ?_, fun _ _ => rfl, fun _ _ _ _ _ => rfl, fun _ => rfl⟩
      by_cases z1 : i = 6
      · subst z1
        rw [show hlf 6 = 1 from rfl] at hx
        rw [y2, v1_o (by omega)]
      by_cases z2 : i = 15
      · subst z2
        rw [show hlf 15 = 1 from rfl] at hx
        rw [y3, v1_o (by omega)]
      by_cases z3 : i = 25
      · subst z3
        rw [show hlf 25 = 1 from rfl] at hx
        rw [y4, v1_o (by omega)]
      · have n26 : i ≠ 26 := fun z => hi (by rw [z]; rfl)
        have n27 : i ≠ 27 := fun z => hi (by rw [z]; rfl)
        have n28 : i ≠ 28 := fun z => hi (by rw [z]; rfl)
        rw [y1 i z1 z2 z3 n26 n27 n28]
    refine fr_F (fr_F (fr_F (fr_F (fr_F (fr_F (fr_F ?_ (by omega)) (by omega)) (by omega)) (by omega)) (by omega)) (by omega)) (by omega)
    refine fr_a (fr_a (fr_a (fr_a ?_ (by omega)) (by omega)) (by omega)) (by omega)
    refine fr_f (fr_f (fr_f (fr_f (fr_f (fr_f (fr_f (fr_f (fr_f ?_ (by omega)) (by omega)) (by omega)) (by omega)) (by omega)) (by omega)) (by omega)) (by omega)) (by omega)
    exact fr_f (fr_f (fr_f (fr_f (fr_f (fr_f (fr_f (fr_f (fr_f (fr_f (fr_f (fr_f (fr_f (fr_f hA (by omega)) (by omega)) (by omega)) (by omega)) (by omega)) (by omega)) (by omega)) (by omega)) (by omega)) (by omega)) (by omega)) (by omega)) (by omega)) (by omega)
  have e1 : f1 b 3 = 0 ∧ f1 b 5 = 0 ∧ f1 b 2 = len ∧ f1 66 0 = 0 ∧ f1 66 4 = 0 ∧ f1 66 9 = 0 ∧ f1 66 12 = 0 ∧ f1 77 4 = len ∧ f1 77 2 = 0 ∧ f1 65 4 = 0 ∧ f1 77 1 = 0 := by
    rw [← hff]
    unfold fB0
    refine ⟨?_, ?_, ?_, ?_, ?_, ?_, ?_, ?_, ?_, ?_, ?_⟩ <;> simp (disch := omega) only [u2_a, u2_b, u2_c] <;> first | trivial | exact h2
  have e2 : ∀ r, r = 11 ∨ r = 14 ∨ r = 17 ∨ r = 20 ∨ r = 23 ∨ r = 26 → f1 (b + r) 3 = 0 ∧ f1 (b + r) 2 = 0 := by
    intro r hr
    rw [← hff]
    unfold fB0
    rcases hr with rfl | rfl | rfl | rfl | rfl | rfl <;> constructor <;> simp (disch := omega) only [u2_a, u2_b, u2_c]
  have e3 : F1 1 = len ∧ F1 32 = q ∧ F1 33 = 0 ∧ F1 34 = 0 ∧ F1 36 = 0 ∧ F1 37 = 0 ∧ F1 43 = 0 ∧ F1 31 = 0 := by
    rw [← hFF]
    refine ⟨?_, ?_, ?_, ?_, ?_, ?_, ?_, ?_⟩ <;> simp (disch := omega) only [u1_s, u1_o] <;> first | trivial | exact hF1
  have RD0 := rd_0 (d := u1 (u1 d 4 b) 5 (b + 2)) (j := j) (J := J) (f1 := f1) (a1 := a1) (F1 := F1) (A1 := A1) hbq (by rw [u1_o (by decide), u1_s]) (by rw [u1_s]) W hl0 hl1 hby ht hx e1.1 e1.2.1 e1.2.2.1 e2 ⟨e1.2.2.2.1, e1.2.2.2.2.1, e1.2.2.2.2.2.1, e1.2.2.2.2.2.2.1⟩ ⟨e1.2.2.2.2.2.2.2.1, e1.2.2.2.2.2.2.2.2.1⟩ e1.2.2.2.2.2.2.2.2.2.1 (fun k k1 k2 => by rw [← haa]; simp (disch := omega) only [u1_o, u1_s]; exact fl_in k1 k2) (fun i i1 i2 i3 i4 => by rw [← haa]; simp (disch := assumption) only [u1_o]) (fun k k1 k2 => by rw [← haa]; simp (disch := omega) only [u1_o, u1_s]; exact ⟨fl_in k1 k2, fl_in k1 k2, fl_in k1 k2⟩) ⟨e3.1, e3.2.1, e3.2.2.1, e3.2.2.2.1, e3.2.2.2.2.1, e3.2.2.2.2.2.1, e3.2.2.2.2.2.2.1⟩ y1 ⟨by rw [y2, v1_s], by rw [y3, v1_s], by rw [y4, v1_s]⟩ y5 y6 hfr
  obtain ⟨z, f2, a2, ni2, j2, F2, A2, J2, g1, g2, g3, g4, g5, g6, g7⟩ := rd_loop (b := b) (q := q) (len := len) (d := u1 (u1 d 4 b) 5 (b + 2)) hn (len + 1).toNat 0 0 0 0 0 n n f1 a1 ni j F1 A1 J RD0 e1.2.2.2.2.2.2.2.2.2.2 e3.2.2.2.2.2.2.2 (fun x x1 x2 => by omega) (by omega) (by omega) (by omega) (by omega) (by omega)
  have Y1 : ∀ r, hp_lp (gL_X11_readBook_6 n 0) n (qz 0, ms F1 A1 J) = some r → g_X11_readBook n 0 (ms F A J) = Sum.elim (fun y3 => (wF y3.2 0 29 (gF y3.2 0 1)).bind fun w5 => if y3.1 = 0 then (if (gF w5 0 34) = 0 then (if (gF w5 0 33) ≤ 0 then some ((0 : Int32), w5) else g_X11_readBook_140 n w5) else g_X11_readBook_140 n w5) else g_X11_readBook_140 n w5) (fun y4 => some (y4.1, y4.2)) r := by
    intro r hr
    unfold g_X11_readBook g_X11_readBook_0
    simp only [qz_lit]
    rw [Y0, bd_some, hr, bd_some]
  have frz : FR b q f a ni j F A J (u2 f2 65 0 (f2 77 0)) a2 ni2 j2 F2 A2 J2 := fr_f g1 (by omega)
  have wz : RwA b (u2 f2 65 0 (f2 77 0)) a2 ni2 := by
    unfold RwA at *
    simp (disch := omega) only [u2_b]
    exact g2
  have h650 : u2 f2 65 0 (f2 77 0) 65 0 = f2 77 0 := by rw [u2_a]
  rcases g7 with ⟨o, ho, x1, x2, x3, x4, x5, x6, x7, x8, x9, x10, x11, x12, x13, x14, x15⟩ | ⟨o, ho, x1, x2, x3, x4⟩ | ⟨hz, x1, x2, x3, x4⟩
  · rw [x1, bd_some, c_216 (by omega) (fun _ => ⟨by omega, by omega, fun _ => by omega⟩), if_pos rfl, x2] at X0
    have Y2 := Y1 _ x4
    have Y3 : g_X11_readBook n 0 (ms F A J) = some (qz (if o = 0 then (if f2 65 4 = 0 ∧ f2 66 0 = 0 then 0 else 2) else o), ms (u1 F2 29 (F2 1)) A2 J2) := by
      rw [Y2]
      unfold g_X11_readBook_140
      simp only [Sum.elim_inl, qz_lit]
      rw [gf_ms, wf_ms, bd_some, gf_ms, gf_ms, u1_o (by decide), u1_o (by decide)]
      rcases ho with z0 | z0
      · rw [z0, qp_F (by decide), if_pos rfl, if_pos rfl]
        by_cases s0 : F2 34 = 0
        · rw [s0, if_pos rfl]
          by_cases d0 : F2 33 = 0
          · rw [d0, if_pos (by decide), if_pos ⟨x7.mp s0, by omega⟩]
          · rw [if_neg (by rw [qz_le (by omega) (by omega) (by omega) (by omega)]; omega), if_neg (fun y => d0 (by omega))]
        · rw [if_neg (by rw [qz_inj (by omega) (by omega) (by omega) (by omega)]; exact s0), if_neg (fun y => s0 (x7.mpr y.1))]
      · rw [z0, qp_T rfl, if_neg n10, if_neg (by decide)]
    refine ⟨_, _, _, _, _, _, _, _, X0, Y3, fr_F frz (by omega), wz, ?_, ?_, fun _ => by rw [h650]; exact x3, fun hne => ?_, by rw [h650]; omega, by rw [h650]; omega, fun _ => by rw [u1_o (by decide)]; exact x13, fun hz => ?_⟩
    · rcases ho with z0 | z0
      · rw [if_pos z0]
        by_cases y : f2 65 4 = 0 ∧ f2 66 0 = 0
        · rw [if_pos y]; omega
        · rw [if_neg y]; omega
      · rw [if_neg (by omega)]; omega
    · rcases ho with z0 | z0
      · rw [if_pos z0]
        by_cases y : f2 65 4 = 0 ∧ f2 66 0 = 0
        · rw [if_pos y]; omega
        · rw [if_neg y]; omega
      · rw [if_neg (by omega)]; omega
    · exfalso
      rcases ho with z0 | z0
      · rw [if_pos z0] at hne
        by_cases y : f2 65 4 = 0 ∧ f2 66 0 = 0
        · rw [if_pos y] at hne; omega
        · rw [if_neg y] at hne; omega
      · rw [if_neg (by omega)] at hne; omega
    · have z0 : o = 0 := by
        rcases ho with z0 | z0
        · exact z0
        · rw [if_neg (by omega)] at hz; omega
      obtain ⟨S2, K2, P2, GG, gd⟩ := x15 z0
      exact ⟨S2, K2, P2, bk_k GG (fun i i1 i2 => u2_b (by omega)) agK_0, gd⟩
  · rw [x1, bd_some, c_216 (by omega) (fun _ => ⟨by omega, by omega, fun y => by omega⟩), if_pos rfl, x2, if_neg (by omega)] at X0
    have Y2 := Y1 _ x3
    simp only [Sum.elim_inr] at Y2
    exact ⟨o, _, _, _, _, _, _, _, X0, Y2, frz, wz, by omega, by omega, fun y => by omega, fun _ => by rw [h650, x4], by rw [h650]; omega, by rw [h650]; omega, fun y => by omega, fun y => by omega⟩
  · rw [x1, bd_some, c_216 ⟨g3, g4⟩ (fun y => by omega), if_neg (by omega)] at X0
    have Y2 := Y1 _ x2
    simp only [Sum.elim_inr] at Y2
    exact ⟨z, _, _, _, _, _, _, _, X0, Y2, frz, wz, g3, g4, fun y => by omega, fun _ => by rw [h650, x3], by rw [h650]; omega, by rw [h650]; omega, fun y => by omega, fun y => by omega⟩
end BOO
