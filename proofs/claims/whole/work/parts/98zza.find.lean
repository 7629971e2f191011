/-! find -/
section FND
variable {b b2 n : Nat} {q S K P len dl t : Int} {f : Nat → Nat → Int} {d : Nat → Nat} {a : Nat → Int → Int} {ni : Nat → Nat} {j : Nat → Int → Int64} {F : Nat → Int} {A : Nat → Int → Int} {J : Nat → Int → Int64}
/-- the text is the label of statement t -/
def fhit (q dl : Int) (A1 A2 A8 A9 : Int → Int) (t : Int) : Prop := A9 (200 * q + t) = dl ∧ ∀ x, 0 ≤ x → x < dl → A2 (8192 * q + A8 (200 * q + t) + x) = A1 x
theorem m_find50 (hn : 100000 ≤ n) (hq : 0 ≤ q ∧ q ≤ 1) (h4 : F 4 = q) (h1 : F 1 = dl) (h0 : 0 ≤ dl) (hd : dl ≤ 8192) (t0 : 0 ≤ t) (t1 : t < 200) (s0 : 0 ≤ A 8 (200 * q + t)) (s1 : A 8 (200 * q + t) + dl ≤ 8192) (ht : ∀ x, 0 ≤ x → x < dl → 0 ≤ A 1 x ∧ A 1 x < 256) (hb : ∀ x, 0 ≤ x → x < dl → 0 ≤ A 2 (8192 * q + A 8 (200 * q + t) + x) ∧ A 2 (8192 * q + A 8 (200 * q + t) + x) < 256) : hp_lp (gL_X11_find_50 n 0 (qz t) (ms F A J)) n (qz 1, qz 0) = some (qp (∀ x, 0 ≤ x → x < dl → A 2 (8192 * q + A 8 (200 * q + t) + x) = A 1 x)) := by
  refine lp_brk (b := gL_X11_find_50 n 0 (qz t) (ms F A J)) (fun i => (qz 1, qz i)) (fun i => (qz 0, qz i)) (fun Q => qp Q) (fun x => A 2 (8192 * q + A 8 (200 * q + t) + x) = A 1 x) (n := n) (lo := 0) dl h0 (by omega) ?_ ?_ ?_ ?_
  · intro i i0 i1 hp
    have := ht i i0 i1
    have := hb i i0 i1
    unfold gL_X11_find_50 g_X11_find_50 g_X11_find_105
    simp only [zl0, zl1, zl8192]
    rw [gf_ms, h1, if_neg (by rw [qz_le (by omega) (by omega) (by omega) (by omega)]; omega), if_neg n10, m_at h4, bd_some, gp_11, ga_8 (by omega) (by omega), bd_some, gf_ms, h4, qz_mul, qz_add, qz_add, gp_5, ga_2 (by omega) (by omega), bd_some, gp_0, ga_1 (by omega) (by omega), bd_some, if_pos (by rw [hp]), qz_add]
  · intro i i0 i1 hp
    have := ht i i0 i1
    have := hb i i0 i1
    unfold gL_X11_find_50 g_X11_find_50 g_X11_find_105
    simp only [zl0, zl1, zl8192]
    rw [gf_ms, h1, if_neg (by rw [qz_le (by omega) (by omega) (by omega) (by omega)]; omega), if_neg n10, m_at h4, bd_some, gp_11, ga_8 (by omega) (by omega), bd_some, gf_ms, h4, qz_mul, qz_add, qz_add, gp_5, ga_2 (by omega) (by omega), bd_some, gp_0, ga_1 (by omega) (by omega), bd_some, if_neg (by rw [qz_inj (by omega) (by omega) (by omega) (by omega)]; exact hp), qz_add]
  · intro i i0 i1
    unfold gL_X11_find_50 g_X11_find_50
    simp only [zl0]
    rw [if_pos trivial, ite_self, qpF]
  · unfold gL_X11_find_50 g_X11_find_50
    simp only [zl0]
    rw [gf_ms, h1, if_pos (by rw [qz_le (by omega) (by omega) (by omega) (by omega)]; omega), qpT]
theorem m_find46 (hn : 100000 ≤ n) (hq : 0 ≤ q ∧ q ≤ 1) (h4 : F 4 = q) (h1 : F 1 = dl) (h0 : 0 ≤ dl) (hd : dl ≤ 8192) (t0 : 0 ≤ t) (t1 : t < 200) (l0 : 0 ≤ A 9 (200 * q + t)) (s0 : 0 ≤ A 8 (200 * q + t)) (s1 : A 8 (200 * q + t) + A 9 (200 * q + t) ≤ 8192) (ht : ∀ x, 0 ≤ x → x < dl → 0 ≤ A 1 x ∧ A 1 x < 256) (hb : ∀ x, 0 ≤ x → x < A 9 (200 * q + t) → 0 ≤ A 2 (8192 * q + A 8 (200 * q + t) + x) ∧ A 2 (8192 * q + A 8 (200 * q + t) + x) < 256) {c : Int32 × Int32} (hc : c = (qz (-2), qz t)) (hK : A 15 q = K) (hK0 : t < K) (hK1 : K ≤ 200) : (fhit q dl (A 1) (A 2) (A 8) (A 9) t → gL_X11_find_5 n 0 (ms F A J) c = some (.inl (qz t, qz (t + 1)))) ∧ (¬fhit q dl (A 1) (A 2) (A 8) (A 9) t → gL_X11_find_5 n 0 (ms F A J) c = some (.inl (qz (-2), qz (t + 1)))) := by
  have e : gL_X11_find_5 n 0 (ms F A J) c = if A 9 (200 * q + t) = dl then g_X11_find_46 n 0 (qz t) (qz 1) (ms F A J) else g_X11_find_46 n 0 (qz t) (qz 0) (ms F A J) := by
    rw [hc]
    unfold gL_X11_find_5 g_X11_find_5
    simp only [zl0, zl1, zlm2, qz_neg]
    rw [gp_18, gf_ms, h4, ga_15 (by omega) (by omega), bd_some, hK, if_neg (by rw [qz_le (by omega) (by omega) (by omega) (by omega)]; omega), if_pos trivial, m_at h4, bd_some, gp_12, ga_9 (by omega) (by omega), bd_some, gf_ms, h1]
    simp (disch := omega) only [qz_inj]
  by_cases c1 : A 9 (200 * q + t) = dl
  · have e2 : g_X11_find_46 n 0 (qz t) (qz 1) (ms F A J) = (if qp (∀ x, 0 ≤ x → x < dl → A 2 (8192 * q + A 8 (200 * q + t) + x) = A 1 x) = qz 0 then some (.inl (qz (-2), qz (t + 1))) else some (.inl (qz t, qz (t + 1)))) := by
      unfold g_X11_find_46 g_X11_find_112 g_X11_find_122
      simp only [zl0, zl1, zlm2, qz_neg]
      rw [m_find50 hn hq h4 h1 h0 hd t0 t1 s0 (by omega) ht (by rw [← c1]; exact hb), bd_some, qz_add]
    rw [if_pos c1, e2] at e
    refine ⟨fun h => ?_, fun h => ?_⟩
    · rw [e, qp_T h.2, if_neg n10]
    · rw [e, qp_F (fun y => h ⟨c1, y⟩), if_pos rfl]
  · have e2 : g_X11_find_46 n 0 (qz t) (qz 0) (ms F A J) = some (.inl (qz (-2), qz (t + 1))) := by
      unfold g_X11_find_46 g_X11_find_112 g_X11_find_122
      simp only [zl0, zl1, zlm2, qz_neg]
      have e3 : hp_lp (gL_X11_find_50 n 0 (qz t) (ms F A J)) n (qz 0, qz 0) = some (qz 0) := by
        obtain ⟨n, rfl⟩ : ∃ x, n = x + 1 := ⟨n - 1, by omega⟩
        apply hp_lp_x
        unfold gL_X11_find_50 g_X11_find_50
        simp only [zl0]
        rw [if_pos trivial, ite_self]
      rw [e3, bd_some, if_pos rfl, qz_add]
    rw [if_neg c1, e2] at e
    exact ⟨fun h => absurd h.1 c1, fun _ => e⟩
end FND
theorem rel_d0 {q : Int} {b b2 : Nat} {S K P len dl : Int} {f : Nat → Nat → Int} {d : Nat → Nat} {a : Nat → Int → Int} {ni : Nat → Nat} {j : Nat → Int → Int64} {F : Nat → Int} {A : Nat → Int → Int} {J : Nat → Int → Int64} (R : Rel0 q b b2 S K P len dl f d a ni j F A J) : Rel0 q b b2 S K P len 0 (u2 f b2 2 0) d a ni j (u1 F 1 0) A J := by
  obtain ⟨r1, r2, r3, r4, r5, r6, r7, r8, ⟨p1, p2, p3, p4, p5, p6, p7, p8⟩, r10, r11, r12, r13, r14⟩ := R
  have hbb := bq_two r1 r2
  refine ⟨r1, r2, by rw [u1_o (by omega)]; exact r3, r4, r5, r6, ?_, r8, ?_, ?_, ?_, ?_, ?_, ?_⟩
  · exact bk_eq r7 (fun i i1 i2 => u2_b (by omega)) (fun i i1 i2 => rfl) (fun i i1 i2 => rfl) rfl (fun i i1 i2 => rfl) ⟨rfl, rfl⟩
  · unfold Rdr RwA
    rw [u2_b (by omega), u2_b (by omega), u2_b (by omega), u2_b (by omega), u2_b (by omega), u2_b (by omega), u2_a, u1_s]
    exact ⟨p1, rfl, rfl, by omega, by omega, p6, ⟨by omega, by omega, fun x x1 x2 => by omega⟩, fun x x1 x2 => by omega⟩
  · unfold Rsh
    rcases r6 with ⟨z, _⟩ | ⟨z, _⟩
    · rw [z] at r10 ⊢
      rw [u2_b (by omega), u1_o (by omega)]
      exact r10
    · rw [z] at r10 ⊢
      rw [u2_b (by omega), u1_o (by omega)]
      exact r10
  · unfold Rtr
    rw [u2_b (by omega), u1_o (by omega)]
    exact r11
  · unfold Rmc
    rw [u2_b (by omega), u2_b (by omega), u2_b (by omega), u2_b (by omega)]
    exact r12
  · rw [u2_b (by omega), u1_o (by omega)]
    exact r13
  · rw [u2_b (by omega), u1_o (by omega)]
    exact r14
theorem ok_find : Ok_find Rel := by
  rintro n hn sC sM R _
  have R' := R
  obtain ⟨q, b, b2, S, K, P, len, dl, f, d, a, ni, j, F, A, J, rfl, rfl, R0⟩ := R'
  have R1 := rel_d0 R0
  obtain ⟨r1, r2, r3, r4, r5, r6, r7, r8, ⟨p1, p2, p3, p4, p5, p6, p7, p8⟩, r10, r11, r12, r13, r14⟩ := R0
  have hq := bq_q r1
  have hb := bq_b r1
  have hb2 := bq_b r2
  have G := r7
  obtain ⟨⟨b1, b2', b3, b4, b5, b6, b7, b8, b9⟩, gn, glb, gk, gf, gt, ghy, gma, gun, gpo, gpr, gfm, gax, grw⟩ := r7
  have hK0 : 0 ≤ K := gn.2.2.1
  have hK1 : K ≤ 200 := gn.2.2.2.1
  have hS1 : S ≤ 300 := gn.2.1
  have hlab : ∀ t, 0 ≤ t → t < K → a (b + 5) (300 + t) = A 8 (200 * q + t) ∧ a (b + 6) (300 + t) = A 9 (200 * q + t) ∧ 0 ≤ A 8 (200 * q + t) ∧ 1 ≤ A 9 (200 * q + t) ∧ A 8 (200 * q + t) + A 9 (200 * q + t) ≤ len ∧ len ≤ 8192 := by
    intro t t0 t1
    have h1 := bk_n G (x := 300 + t) (Or.inr ⟨by omega, by omega⟩)
    have h2 := gn.2.2.2.2.2.2.2.2 t t0 t1
    omega
  have hbyte : ∀ t, 0 ≤ t → t < K → ∀ x, 0 ≤ x → x < A 9 (200 * q + t) → a (b + 2) (A 8 (200 * q + t) + x) = A 2 (8192 * q + A 8 (200 * q + t) + x) ∧ 0 < A 2 (8192 * q + A 8 (200 * q + t) + x) ∧ A 2 (8192 * q + A 8 (200 * q + t) + x) < 127 := by
    intro t t0 t1 x x0 x1
    have h1 := hlab t t0 t1
    have h2 := r8 (A 8 (200 * q + t) + x) (by omega) (by omega)
    rw [show 8192 * q + (A 8 (200 * q + t) + x) = 8192 * q + A 8 (200 * q + t) + x by omega] at h2
    exact ⟨h2.1, by omega, by omega⟩
  have hhit : ∀ t, 0 ≤ t → t < K → (nme (a (b + 2)) (a (b + 5) (300 + t)) (a (b + 6) (300 + t)) (a (b2 + 2)) 0 dl ↔ fhit q dl (A 1) (A 2) (A 8) (A 9) t) := by
    intro t t0 t1
    obtain ⟨h1, h2, h3, h4, h5, h6⟩ := hlab t t0 t1
    rw [h1, h2]
    unfold nme fhit
    constructor
    · rintro ⟨e1, e2⟩
      refine ⟨e1, fun x x0 x1 => ?_⟩
      have y := e2 x x0 x1
      have z := hbyte t t0 t1 x x0 (by omega)
      have g := p8 x x0 x1
      have g2 := p7.2.2 x x0 x1
      rw [Int.zero_add] at y
      unfold sgn at g
      omega
    · rintro ⟨e1, e2⟩
      refine ⟨e1, fun x x0 x1 => ?_⟩
      have y := e2 x x0 x1
      have z := hbyte t t0 t1 x x0 (by omega)
      have g := p8 x x0 x1
      have g2 := p7.2.2 x x0 x1
      rw [Int.zero_add]
      unfold sgn at g
      omega
  obtain ⟨r, er, hr⟩ := c_lookUp (f := f) (d := d) (ni := ni) (j := j) (n := n) (p := b2 + 2) (s := 0) (l := dl) hb (tx_b hb2) b9 p6 (by omega) p4 (by omega) hn gn.2.2.2.2.1
  have rr : -1 ≤ r ∧ r < 500 := by
    rcases hr with ⟨z, _⟩ | ⟨z, _⟩
    · omega
    · unfold liv at z
      omega
  have XC : g_X10_find n 0 (cs f d a ni j) = some (qz (if r < 300 then -2 else r - 300), cs (u2 f b2 2 0) d a ni j) := by
    unfold g_X10_find g_X10_find_0
    simp only [zl0, zl300, zlm2, qz_neg]
    rw [gpc_0_0, r4, gpc_0_1, r5, gpb_0 hb, gpb_1 hb2, gf_cs, p2, er, bd_some, wf_cs, bd_some]
    by_cases c : r < 300
    · rw [if_pos (by rw [qz_lt (by omega) (by omega) (by omega) (by omega)]; exact c), if_pos c]
    · rw [if_neg (by rw [qz_lt (by omega) (by omega) (by omega) (by omega)]; exact c), if_neg c, qz_sub]
  have lp := lp_ix (b := gL_X11_find_5 n 0 (ms F A J)) (fun t c => (c = (qz (-2), qz t) ∧ ∀ x, 0 ≤ x → x < t → ¬fhit q dl (A 1) (A 2) (A 8) (A 9) x) ∨ ∃ m, c = (qz m, qz t) ∧ 0 ≤ m ∧ m < K ∧ fhit q dl (A 1) (A 2) (A 8) (A 9) m) (Q := fun c => (c = qz (-2) ∧ ∀ x, 0 ≤ x → x < K → ¬fhit q dl (A 1) (A 2) (A 8) (A 9) x) ∨ ∃ m, c = qz m ∧ 0 ≤ m ∧ m < K ∧ fhit q dl (A 1) (A 2) (A 8) (A 9) m) K (n := n) (i0 := 0) hK0 (by omega) (c0 := (qz (-2), qz 0)) (Or.inl ⟨rfl, fun x x0 x1 => by omega⟩) ?_ ?_
  · obtain ⟨m0, em, hm⟩ := lp
    have XM : g_X11_find n 0 (ms F A J) = some (m0, ms (u1 F 1 0) A J) := by
      unfold g_X11_find g_X11_find_0 g_X11_find_129
      simp only [zl0, zlm2, qz_neg]
      rw [em, bd_some, wf_ms, bd_some]
    have e : m0 = qz (if r < 300 then -2 else r - 300) := by
      rcases hm with ⟨rfl, hm⟩ | ⟨m, rfl, m1, m2, m3⟩
      · congr 1
        rcases hr with ⟨z, _⟩ | ⟨z, z2⟩
        · rw [if_pos (by omega)]
        · unfold liv at z
          by_cases c : r < 300
          · rw [if_pos c]
          · exfalso
            rw [show r = 300 + (r - 300) by omega] at z2
            exact hm (r - 300) (by omega) (by omega) ((hhit _ (by omega) (by omega)).mp z2)
      · congr 1
        have z3 := (hhit m m1 m2).mpr m3
        rcases hr with ⟨z, z2⟩ | ⟨z, z2⟩
        · exact absurd z3 (z2 (300 + m) (Or.inr ⟨by omega, by omega⟩))
        · have e : r = 300 + m := by
            refine gn.2.2.2.2.2.2.1 r (300 + m) z (Or.inr ⟨by omega, by omega⟩) ⟨by rw [z2.1, z3.1], fun x x0 x1 => ?_⟩
            have y1 := z2.2 x x0 (by have := z3.1; omega)
            have y2 := z3.2 x x0 (by have := z3.1; omega)
            rw [y1, y2]
          rw [if_neg (by omega)]
          omega
    exact ⟨_, _, _, XC, by rw [XM, e], q, b, b2, S, K, P, len, 0, _, _, _, _, _, _, _, _, rfl, rfl, R1⟩
  · rintro t c t0 t1 (⟨hc, h⟩ | ⟨m, rfl, m1, m2, m3⟩)
    · obtain ⟨h1, h2, h3, h4, h5, h6⟩ := hlab t t0 t1
      obtain ⟨e1, e2⟩ := m_find46 (J := J) hn hq r3 p3 p4 p5 t0 (by omega) (by omega) h3 (by omega) (fun x x0 x1 => by have := p7.2.2 x x0 x1; omega) (fun x x0 x1 => by have := hbyte t t0 t1 x x0 x1; omega) hc b4 t1 hK1
      by_cases y : fhit q dl (A 1) (A 2) (A 8) (A 9) t
      · exact Or.inl ⟨_, e1 y, Or.inr ⟨t, rfl, t0, t1, y⟩⟩
      · refine Or.inl ⟨_, e2 y, Or.inl ⟨rfl, fun x x0 x1 => ?_⟩⟩
        by_cases z : x = t
        · rw [z]; exact y
        · exact h x x0 (by omega)
    · refine Or.inr ⟨qz m, ?_, Or.inr ⟨m, rfl, m1, m2, m3⟩⟩
      unfold gL_X11_find_5 g_X11_find_5
      simp only [zlm2, qz_neg]
      rw [gp_18, gf_ms, r3, ga_15 (by omega) (by omega), bd_some, b4, if_neg (by rw [qz_le (by omega) (by omega) (by omega) (by omega)]; omega), if_neg (by rw [qz_inj (by omega) (by omega) (by omega) (by omega)]; omega)]
  · rintro c (⟨rfl, h⟩ | ⟨m, rfl, m1, m2, m3⟩)
    · refine ⟨qz (-2), ?_, Or.inl ⟨rfl, h⟩⟩
      unfold gL_X11_find_5 g_X11_find_5
      rw [gp_18, gf_ms, r3, ga_15 (by omega) (by omega), bd_some, b4, if_pos (by rw [qz_le (by omega) (by omega) (by omega) (by omega)]; omega)]
    · refine ⟨qz m, ?_, Or.inr ⟨m, rfl, m1, m2, m3⟩⟩
      unfold gL_X11_find_5 g_X11_find_5
      rw [gp_18, gf_ms, r3, ga_15 (by omega) (by omega), bd_some, b4, if_pos (by rw [qz_le (by omega) (by omega) (by omega) (by omega)]; omega)]
