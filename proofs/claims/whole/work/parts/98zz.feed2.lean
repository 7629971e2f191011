/-! feed: the reference, and both -/
theorem bk_eq {b : Nat} {q S K P len : Int} {f f2 : Nat → Nat → Int} {a a2 : Nat → Int → Int} {ni ni2 : Nat → Nat} {j j2 : Nat → Int → Int64} {A A2 : Nat → Int → Int} {J J2 : Nat → Int → Int64} (G : BK b q S K P len f a ni j A J) (hf : ∀ i, b ≤ i → i < b + 32 → f2 i = f i) (ha : ∀ i, b ≤ i → i < b + 32 → a2 i = a i) (hn : ∀ i, b ≤ i → i < b + 32 → ni2 i = ni i) (hj : j2 (b + 31) = j (b + 31)) (hA : ∀ i, 3 ≤ i → i ≤ 25 → A2 i = A i) (hJ : J2 19 = J 19 ∧ J2 20 = J 20) : BK b q S K P len f2 a2 ni2 j2 A2 J2 := by
  unfold BK Grw at *
  rw [hf b (by omega) (by omega), hf (b + 11) (by omega) (by omega), hf (b + 14) (by omega) (by omega), hf (b + 17) (by omega) (by omega), hf (b + 20) (by omega) (by omega), hf (b + 23) (by omega) (by omega), hf (b + 26) (by omega) (by omega)]
  rw [ha (b + 2) (by omega) (by omega), ha (b + 3) (by omega) (by omega), ha (b + 4) (by omega) (by omega), ha (b + 5) (by omega) (by omega), ha (b + 6) (by omega) (by omega), ha (b + 7) (by omega) (by omega), ha (b + 8) (by omega) (by omega), ha (b + 9) (by omega) (by omega), ha (b + 10) (by omega) (by omega), ha (b + 29) (by omega) (by omega), ha (b + 30) (by omega) (by omega)]
  rw [ha (b + 11 + 1) (by omega) (by omega), ha (b + 11 + 2) (by omega) (by omega), ha (b + 14 + 1) (by omega) (by omega), ha (b + 14 + 2) (by omega) (by omega), ha (b + 17 + 1) (by omega) (by omega), ha (b + 17 + 2) (by omega) (by omega), ha (b + 20 + 1) (by omega) (by omega), ha (b + 20 + 2) (by omega) (by omega), ha (b + 23 + 1) (by omega) (by omega), ha (b + 23 + 2) (by omega) (by omega), ha (b + 26 + 1) (by omega) (by omega), ha (b + 26 + 2) (by omega) (by omega)]
  rw [hn (b + 11 + 1) (by omega) (by omega), hn (b + 14 + 1) (by omega) (by omega), hn (b + 17 + 1) (by omega) (by omega), hn (b + 20 + 1) (by omega) (by omega), hn (b + 23 + 1) (by omega) (by omega), hn (b + 26 + 1) (by omega) (by omega), hj, hJ.1, hJ.2]
  rw [hA 3 (by omega) (by omega), hA 4 (by omega) (by omega), hA 5 (by omega) (by omega), hA 6 (by omega) (by omega), hA 7 (by omega) (by omega), hA 8 (by omega) (by omega), hA 9 (by omega) (by omega), hA 10 (by omega) (by omega), hA 11 (by omega) (by omega), hA 12 (by omega) (by omega), hA 13 (by omega) (by omega), hA 14 (by omega) (by omega), hA 15 (by omega) (by omega), hA 16 (by omega) (by omega), hA 17 (by omega) (by omega), hA 18 (by omega) (by omega), hA 21 (by omega) (by omega), hA 22 (by omega) (by omega), hA 23 (by omega) (by omega), hA 24 (by omega) (by omega), hA 25 (by omega) (by omega)]
  exact G
section FED2
variable {b b2 n : Nat} {q dl : Int} {f : Nat → Nat → Int} {d : Nat → Nat} {a : Nat → Int → Int} {ni : Nat → Nat} {j : Nat → Int → Int64} {F : Nat → Int} {A : Nat → Int → Int} {J : Nat → Int → Int64} {v w : Int64}
/-- the bytes of two words -/
def wb2 (v w : Int64) (k : Nat) : Int := if 8 ≤ k then wbs w (k - 8) else wbs v k
theorem wb2_r (v w : Int64) (k : Nat) : 0 ≤ wb2 v w k ∧ wb2 v w k < 256 := by
  unfold wb2
  by_cases c : 8 ≤ k
  · rw [if_pos c]; exact wb_r _ _
  · rw [if_neg c]; exact wb_r _ _
theorem wb2_1 (k : Nat) (h : k < 8) : wb2 v w k = wbs v k := if_neg (by omega)
theorem wb2_2 (k : Nat) : wb2 v w (8 + k) = wbs w k := by
  unfold wb2
  rw [if_pos (by omega), Nat.add_sub_cancel_left]
theorem m_byte2 {k : Int} (h0 : 0 ≤ k) (h1 : k < 16) {s : st_T} : g_X11_byteOf n v w (qz k) s = some (qz (wb2 v w k.toNat)) := by
  rw [m_byteOf h0 h1]
  unfold wb2
  by_cases c : 8 ≤ k
  · rw [if_pos c, if_pos (by omega), show (k - 8).toNat = k.toNat - 8 by omega]
  · rw [if_neg c, if_neg (by omega)]
theorem m_feed6 (hn : 100000 ≤ n) {s : st_T} : hp_lp (gL_X11_feed_6 n 0 v w s) n (qz 0, qz 0) = some (qz (nz (wb2 v w) 16)) := by
  have lp := lp_for (b := gL_X11_feed_6 n 0 v w s) (fun i => (qz (nz (wb2 v w) i.toNat), qz i)) (x := qz (nz (wb2 v w) 16)) 16 (n := n) (i0 := 0) (by omega) (by omega) ?_ ?_
  · exact lp
  · intro i i0 i1
    have hw := wb2_r v w i.toNat
    have en : (i + 1).toNat = i.toNat + 1 := by omega
    unfold gL_X11_feed_6 g_X11_feed_6 g_X11_feed_32
    simp only [en]
    rw [if_neg (by rw [zl16, qz_le (by omega) (by omega) (by omega) (by omega)]; omega), m_byte2 i0 i1, bd_some, zl0, zl1, nz_st, qz_add, qz_add]
    by_cases c : wb2 v w i.toNat = 0
    · rw [if_pos (by rw [c]), if_pos c, Int.add_zero]
    · rw [if_neg (by rw [qz_inj (by omega) (by omega) (by omega) (by omega)]; exact c), if_neg c]
  · unfold gL_X11_feed_6 g_X11_feed_6
    rw [if_pos (by rw [zl16, qz_le (by omega) (by omega) (by omega) (by omega)]; omega)]
    rfl
theorem m_feed59 (hn : 100000 ≤ n) (h2 : F 1 = dl) (h0 : 0 ≤ dl) (h1 : dl + nz (wb2 v w) 16 ≤ 8192) : hp_lp (gL_X11_feed_59 n 0 v w) n (qz 0, ms F A J) = some (ms (u1 F 1 (dl + nz (wb2 v w) 16)) (u1 A 1 (apt (fun x => x) (wb2 v w) (A 1) dl 16)) J) := by
  have lp := lp_for (b := gL_X11_feed_59 n 0 v w) (fun i => (qz i, ms (u1 F 1 (dl + nz (wb2 v w) i.toNat)) (u1 A 1 (apt (fun x => x) (wb2 v w) (A 1) dl i.toNat)) J)) (x := ms (u1 F 1 (dl + nz (wb2 v w) 16)) (u1 A 1 (apt (fun x => x) (wb2 v w) (A 1) dl 16)) J) 16 (n := n) (i0 := 0) (by omega) (by omega) ?_ ?_
  · have e0 : ms F A J = ms (u1 F 1 (dl + nz (wb2 v w) (0 : Int).toNat)) (u1 A 1 (apt (fun x => x) (wb2 v w) (A 1) dl (0 : Int).toNat)) J := by
      rw [u1_id (f := F) (by rw [h2]; exact (Int.add_zero _).symm), show apt (fun x => x) (wb2 v w) (A 1) dl (0 : Int).toNat = A 1 from rfl, u1_id (f := A) rfl]
    conv => lhs; rw [e0]
    exact lp
  · intro i i0 i1
    have hr := nz_r (wb2 v w) i.toNat
    have hw := wb2_r v w i.toNat
    have en : (i + 1).toNat = i.toNat + 1 := by omega
    unfold gL_X11_feed_59 g_X11_feed_59 g_X11_feed_101
    simp only [en]
    rw [if_neg (by rw [zl16, qz_le (by omega) (by omega) (by omega) (by omega)]; omega), m_byte2 i0 i1, bd_some, zl0, zl1, qz_add]
    by_cases c : wb2 v w i.toNat = 0
    · rw [if_pos (by rw [c]), nz_st, if_pos c, Int.add_zero, apt_st, if_pos c]
    · have hm := nz_m (wb2 v w) (i.toNat + 1) (16 - (i.toNat + 1))
      rw [show i.toNat + 1 + (16 - (i.toNat + 1)) = 16 by omega, nz_st, if_neg c] at hm
      rw [if_neg (by rw [qz_inj (by omega) (by omega) (by omega) (by omega)]; exact c), gp_0, gf_ms, u1_s, ua_1 (by omega) (by omega), bd_some, gf_ms, u1_s, qz_add, wf_ms, bd_some, u1_1, v2_u1, u1_s, u1_1, nz_st, if_neg c, apt_st, if_neg c, show dl + nz (wb2 v w) i.toNat + 1 = dl + (nz (wb2 v w) i.toNat + 1) by omega]
  · unfold gL_X11_feed_59 g_X11_feed_59
    rw [if_pos (by rw [zl16, qz_le (by omega) (by omega) (by omega) (by omega)]; omega)]
    rfl
end FED2
theorem bq_two {b b2 : Nat} {q : Int} (h : bq b q) (h2 : bq b2 (1 - q)) : (b = 1 ∧ b2 = 33) ∨ (b = 33 ∧ b2 = 1) := by
  unfold bq at h h2
  omega
theorem ok_feed : Ok_feed Rel := by
  rintro n hn sC sM R v w
  have R' := R
  obtain ⟨q, b, b2, S, K, P, len, dl, f, d, a, ni, j, F, A, J, rfl, rfl, r1, r2, r3, r4, r5, r6, r7, r8, ⟨p1, p2, p3, p4, p5, p6, p7, p8⟩, r10, r11, r12, r13, r14⟩ := R'
  have hb2 := bq_b r2
  have hbb := bq_two r1 r2
  have v8 := nz_r (wbs v) 8
  have w8 := nz_r (wbs w) 8
  have hc : nz (wb2 v w) 16 = nz (wbs v) 8 + nz (wbs w) 8 := nz_cat (s := 8) wb2_1 wb2_2 8
  have hap : apt (fun x => x) (wb2 v w) (A 1) dl 16 = apt (fun x => x) (wbs w) (apt (fun x => x) (wbs v) (A 1) dl 8) (dl + nz (wbs v) 8) 8 := apt_cat (s := 8) wb2_1 wb2_2 8
  have eC : g_X10_feed n 0 v w (cs f d a ni j) = if dl + (nz (wbs v) 8 + nz (wbs w) 8) ≤ 8192 then (g_X10_append n 0 v (cs f d a ni j)).bind fun x4 => (g_X10_append n 0 w x4).bind fun x5 => some ((gF x5 (gP x5 0 1) 2), x5) else some (qz (-3), cs f d a ni j) := by
    unfold g_X10_feed g_X10_feed_0
    rw [c_bytesIn hn, bd_some, c_bytesIn hn, bd_some, gpc_0_1, r5, gf_cs, p2, qz_add, qz_add, zl8192, show (-3 : Int32) = qz (-3) from rfl]
    simp (disch := omega) only [qz_le]
  have eM : g_X11_feed n 0 v w (ms F A J) = if dl + (nz (wbs v) 8 + nz (wbs w) 8) ≤ 8192 then (hp_lp (gL_X11_feed_59 n 0 v w) n (qz 0, ms F A J)).bind fun x3 => some ((gF x3 0 1), x3) else some (qz (-3), ms F A J) := by
    unfold g_X11_feed g_X11_feed_0
    rw [zl0, m_feed6 hn, bd_some, gf_ms, p3, qz_add, hc, zl8192, show (-3 : Int32) = qz (-3) from rfl]
    simp (disch := omega) only [qz_le]
  by_cases c : dl + (nz (wbs v) 8 + nz (wbs w) 8) ≤ 8192
  rotate_left
  · exact ⟨qz (-3), _, _, by rw [eC, if_neg c], by rw [eM, if_neg c], R⟩
  have a1 := c_append (v := v) (f := f) (a := a) (ni := ni) (j := j) hn hb2 r5 p2 p4 (by omega)
  have a2 := c_append (v := w) (dl := dl + nz (wbs v) 8) (f := u2 f b2 2 (dl + nz (wbs v) 8)) (a := u1 a (b2 + 2) (apt sg8 (wbs v) (a (b2 + 2)) dl 8)) (ni := ni) (j := j) hn hb2 r5 (by rw [u2_a]) (by omega) (by omega)
  rw [u2_d, u1_s, u1_1] at a2
  obtain ⟨x1, x2, x3⟩ := apt_rel (B := wbs v) (fun k => wb_r _ _) p7 p8 p6 8 (by omega)
  obtain ⟨y1, y2, y3⟩ := apt_rel (B := wbs w) (fun k => wb_r _ _) x1 x2 x3 8 (by omega)
  refine ⟨qz (dl + nz (wbs v) 8 + nz (wbs w) 8), cs (u2 f b2 2 (dl + nz (wbs v) 8 + nz (wbs w) 8)) d (u1 a (b2 + 2) (apt sg8 (wbs w) (apt sg8 (wbs v) (a (b2 + 2)) dl 8) (dl + nz (wbs v) 8) 8)) ni j, ms (u1 F 1 (dl + nz (wb2 v w) 16)) (u1 A 1 (apt (fun x => x) (wb2 v w) (A 1) dl 16)) J, ?_, ?_, ?_⟩
  · rw [eC, if_pos c, a1, bd_some, a2, bd_some, gpc_0_1, r5, gf_cs, u2_a]
  · rw [eM, if_pos c, m_feed59 hn p3 p4 (by omega), bd_some, gf_ms, u1_s, hc, Int.add_assoc]
  · refine ⟨q, b, b2, S, K, P, len, dl + nz (wbs v) 8 + nz (wbs w) 8, _, _, _, _, _, _, _, _, rfl, rfl, r1, r2, by rw [u1_o (by omega)]; exact r3, r4, r5, r6, ?_, ?_, ?_, ?_, ?_, ?_, ?_, ?_⟩
    · exact bk_eq r7 (fun i i1 i2 => u2_b (by omega)) (fun i i1 i2 => u1_o (by omega)) (fun i i1 i2 => rfl) rfl (fun i i1 i2 => u1_o (by omega)) ⟨rfl, rfl⟩
    · unfold Rbk
      rw [u1_o (by omega), u1_o (by omega)]
      exact r8
    · unfold Rdr RwA
      rw [u2_b (by omega), u2_b (by omega), u2_b (by omega), u2_b (by omega), u2_b (by omega), u2_b (by omega), u2_a, u1_s, u1_s, u1_s, u1_o (by omega), u1_o (by omega), u1_o (by omega), u1_o (by omega), u1_o (by omega), u1_o (by omega), hap, hc]
      exact ⟨p1, rfl, by omega, by omega, by omega, y3, y1, y2⟩
    · unfold Rsh
      rcases r6 with ⟨z, _⟩ | ⟨z, _⟩
      · rw [z] at r10 ⊢
        rw [u2_b (by omega), u1_o (by omega), u1_o (by omega), u1_o (by omega)]
        exact r10
      · rw [z] at r10 ⊢
        rw [u2_b (by omega), u1_o (by omega), u1_o (by omega), u1_o (by omega)]
        exact r10
    · unfold Rtr
      rw [u2_b (by omega), u1_o (by omega), u1_o (by omega), u1_o (by omega), u1_o (by omega), u1_o (by omega)]
      exact r11
    · unfold Rmc
      rw [u2_b (by omega), u2_b (by omega), u2_b (by omega), u2_b (by omega), u1_o (by omega), u1_o (by omega), u1_o (by omega), u1_o (by omega)]
      exact r12
    · rw [u2_b (by omega), u1_o (by omega)]
      exact r13
    · rw [u2_b (by omega), u1_o (by omega)]
      exact r14
