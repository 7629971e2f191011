/-! A proof with a question mark: the class -/
section OPN
variable {b n : Nat} {q S K P len k x y i c : Int} {f : Nat → Nat → Int} {d : Nat → Nat} {a : Nat → Int → Int} {ni : Nat → Nat} {j : Nat → Int → Int64} {F : Nat → Int} {A : Nat → Int → Int} {J : Nat → Int → Int64}
theorem zl63 : (63 : Int32) = qz 63 := id rfl
/-- where token i of statement k stands, and how long it is -/
def tkp (q k : Int) (A13 A17 : Int → Int) (i : Int) : Int := A17 (4096 * q + A13 (200 * q + k) + i)
def tkl (q k : Int) (A13 A18 : Int → Int) (i : Int) : Int := A18 (4096 * q + A13 (200 * q + k) + i)
/-- a token has the byte c -/
def tkh (T : Int → Int) (p l c : Int) : Prop := ∃ x, p ≤ x ∧ x < p + l ∧ T x = c
theorem c_open81 {v1 v2 : Int32} {p l : Int} (hn : 100000 ≤ n) (hb : bks b) (hd : d 6 = b) (hl : f b 2 = len) (hl0 : 0 ≤ len) (hl1 : len ≤ 8192) (hy : byt (a (b + 2))) (ht : tkn (a (b + 2)) len p l) : (tkh (a (b + 2)) p l 63 → hp_lp (gL_X3_isOpen_81 n 78 v1 v2 (cs f d a ni j)) n (qz p) = some (.inr (qz 1))) ∧ (¬tkh (a (b + 2)) p l 63 → hp_lp (gL_X3_isOpen_81 n 78 v1 v2 (cs f d a ni j)) n (qz p) = some (.inl ())) := by
  obtain ⟨k1, k2, k3, k4, k5⟩ := ht
  have lp := lp_ix (b := gL_X3_isOpen_81 n 78 v1 v2 (cs f d a ni j)) (fun t c => c = qz t ∧ ∀ x, p ≤ x → x < t → a (b + 2) x ≠ 63) (Q := fun r => (r = .inr (qz 1) ∧ tkh (a (b + 2)) p l 63) ∨ (r = .inl () ∧ ¬tkh (a (b + 2)) p l 63)) (p + l) (n := n) (i0 := p) (by omega) (by omega) (c0 := qz p) ⟨rfl, fun x x0 x1 => by omega⟩ ?_ ?_
  · obtain ⟨r, e, ⟨rfl, h⟩ | ⟨rfl, h⟩⟩ := lp
    · exact ⟨fun _ => e, fun z => absurd h z⟩
    · exact ⟨fun z => absurd z h, fun _ => e⟩
  · rintro t c t0 t1 ⟨rfl, h⟩
    have hk := k4 t t0 t1
    unfold gL_X3_isOpen_81 g_X3_isOpen_81
    simp only [zl0, zl1, zl63]
    rw [gpc_78_6, hd, gf_cs, hl, if_neg (by rw [qz_le (by omega) (by omega) (by omega) (by omega)]; omega), c_inTok hb (by omega) (by omega) hy (by omega) (by omega), bd_some, hl, qp_T ⟨by omega, hk.1⟩, if_neg n10, gpb_1 hb, gab_2 hb (by omega) (by omega), bd_some]
    by_cases c : a (b + 2) t = 63
    · rw [if_pos (by rw [c])]
      exact Or.inr ⟨_, rfl, Or.inl ⟨rfl, t, t0, t1, c⟩⟩
    · rw [if_neg (by rw [qz_inj (by omega) (by omega) (by omega) (by omega)]; exact c), qz_add]
      refine Or.inl ⟨_, rfl, rfl, fun x x0 x1 => ?_⟩
      by_cases e : x = t
      · rw [e]; exact c
      · exact h x x0 (by omega)
  · rintro c ⟨rfl, h⟩
    refine ⟨.inl (), ?_, Or.inr ⟨rfl, fun ⟨x, x0, x1, x2⟩ => h x x0 x1 x2⟩⟩
    unfold gL_X3_isOpen_81 g_X3_isOpen_81
    simp only [zl0, zl1, zl63]
    rw [gpc_78_6, hd, gf_cs, hl]
    by_cases c : len ≤ p + l
    · rw [if_pos (by rw [qz_le (by omega) (by omega) (by omega) (by omega)]; exact c)]
    · have := k5 (by omega)
      rw [if_neg (by rw [qz_le (by omega) (by omega) (by omega) (by omega)]; exact c), c_inTok hb (by omega) (by omega) hy (by omega) (by omega), bd_some, qp_F (by omega), if_pos rfl]
/-- a proof is open -/
def opn (q k le : Int) (T it A13 A14 A17 A18 : Int → Int) : Prop := (∃ i, 0 ≤ i ∧ i < A14 (200 * q + k) ∧ one q T it A18 (A13 (200 * q + k) + i) 63) ∨ ∃ i, le < i ∧ i < A14 (200 * q + k) ∧ tkh T (tkp q k A13 A17 i) (tkl q k A13 A18 i) 63
theorem c_isOpen (hn : 100000 ≤ n) (hb : bks b) (hd : d 6 = b) (h78 : f 78 0 = k) (G : BK b q S K P len f a ni j A J) (h0 : 0 ≤ k) (h1 : k < K) (hk : a (b + 8) k = 3) : g_X3_isOpen n 78 (cs f d a ni j) = some (qp (opn q k (a (b + 30) k) (a (b + 2)) (a (b + 14 + 1)) (A 13) (A 14) (A 17) (A 18))) := by
  have G' := G
  obtain ⟨⟨b1, b2', b3, b4, b5, b6, b7, b8, b9⟩, gn, glb, gk, gf, gt, ghy, gma, gun, gpo, gpr, gfm, gax, grw⟩ := G'
  have hK : K ≤ 200 := gn.2.2.2.1
  obtain ⟨t1, t2, t3, t4, t5, t6, t7, t8, t9⟩ := bk_t G h0 h1
  obtain ⟨l1, l2, l3⟩ := gfm k h0 h1 hk
  rw [t1] at l3
  have w14 := grw.2.1
  have w14k := grw.2.2.2.2.2.2.2.1
  have est := c_size (n := n) (d := d) (j := j) (rws_b14 hb) w14 h0 (by rw [w14k]; exact h1)
  rw [t2, t1, show A 13 (200 * q + k) + A 14 (200 * q + k) - A 13 (200 * q + k) = A 14 (200 * q + k) by omega] at est
  have lp1 := lp_ix (b := gL_X3_isOpen_17 n 78 (qz (A 14 (200 * q + k))) (cs f d a ni j)) (fun t c => c = qz t ∧ ∀ x, 0 ≤ x → x < t → ¬one q (a (b + 2)) (a (b + 14 + 1)) (A 18) (A 13 (200 * q + k) + x) 63) (Q := fun r => (r = .inl () ∧ ∀ x, 0 ≤ x → x < A 14 (200 * q + k) → ¬one q (a (b + 2)) (a (b + 14 + 1)) (A 18) (A 13 (200 * q + k) + x) 63) ∨ (r = .inr (qz 1) ∧ ∃ x, 0 ≤ x ∧ x < A 14 (200 * q + k) ∧ one q (a (b + 2)) (a (b + 14 + 1)) (A 18) (A 13 (200 * q + k) + x) 63)) (A 14 (200 * q + k)) (n := n) (i0 := 0) t6 (by omega) (c0 := qz 0) ⟨rfl, fun x x0 x1 => by omega⟩ ?_ ?_
  rotate_left
  · rintro t c u0 u1' ⟨rfl, h⟩
    obtain ⟨g1, g2, g3, g4⟩ := t9 t u0 u1'
    have ej := c_isJust (n := n) (d := d) (j := j) (A18 := A 18) (q := q) (c := 63) (i := t) (k := k) hb w14 h0 (by rw [w14k]; exact h1) u0 (by rw [t1, t2]; omega) b6 b7 b8 b9 ⟨by omega, by omega⟩ (by rw [t1, g1, show 4096 * q + (A 13 (200 * q + k) + t) = 4096 * q + A 13 (200 * q + k) + t by omega]; exact g2)
    rw [t1] at ej
    unfold gL_X3_isOpen_17 g_X3_isOpen_17
    simp only [zl0, zl1, zl63]
    rw [if_neg (by rw [qz_le (by omega) (by omega) (by omega) (by omega)]; omega), gpc_78_6, hd, gf_cs, h78, ej, bd_some]
    by_cases c : one q (a (b + 2)) (a (b + 14 + 1)) (A 18) (A 13 (200 * q + k) + t) 63
    · rw [qp_T c, if_neg n10]
      exact Or.inr ⟨_, rfl, Or.inr ⟨rfl, t, u0, u1', c⟩⟩
    · rw [qp_F c, if_pos rfl, qz_add]
      refine Or.inl ⟨_, rfl, rfl, fun x x0 x1 => ?_⟩
      by_cases e : x = t
      · rw [e]; exact c
      · exact h x x0 (by omega)
  · rintro c ⟨rfl, h⟩
    refine ⟨.inl (), ?_, Or.inl ⟨rfl, h⟩⟩
    unfold gL_X3_isOpen_17 g_X3_isOpen_17
    rw [if_pos (by rw [qz_le (by omega) (by omega) (by omega) (by omega)]; omega)]
  have lp2 := lp_ix (b := gL_X3_isOpen_60 n 78 (qz (A 14 (200 * q + k))) (cs f d a ni j)) (fun t c => c = qz t ∧ ∀ x, a (b + 30) k ≤ x → x < t → ¬tkh (a (b + 2)) (tkp q k (A 13) (A 17) x) (tkl q k (A 13) (A 18) x) 63) (Q := fun r => (r = qz 0 ∧ ∀ x, a (b + 30) k ≤ x → x < A 14 (200 * q + k) → ¬tkh (a (b + 2)) (tkp q k (A 13) (A 17) x) (tkl q k (A 13) (A 18) x) 63) ∨ (r = qz 1 ∧ ∃ x, a (b + 30) k ≤ x ∧ x < A 14 (200 * q + k) ∧ tkh (a (b + 2)) (tkp q k (A 13) (A 17) x) (tkl q k (A 13) (A 18) x) 63)) (A 14 (200 * q + k)) (n := n) (i0 := a (b + 30) k) l2 (by omega) (c0 := qz (a (b + 30) k)) ⟨rfl, fun x x0 x1 => by omega⟩ ?_ ?_
  rotate_left
  · rintro t c u0 u1' ⟨rfl, h⟩
    obtain ⟨g1, g2, g3, g4⟩ := t9 t (by omega) u1'
    have eg := c_get (n := n) (d := d) (j := j) (rws_b14 hb) w14 h0 (by rw [w14k]; exact h1) (i := t) (by omega) (by rw [t1, t2]; omega)
    rw [t1, g1] at eg
    obtain ⟨e1, e2⟩ := c_open81 (ni := ni) (j := j) (v1 := qz (A 14 (200 * q + k))) (v2 := qz t) hn hb hd b6 b7 b8 b9 g2
    unfold gL_X3_isOpen_60 g_X3_isOpen_60 g_X3_isOpen_125
    simp only [zl0, zl1]
    rw [if_neg (by rw [qz_le (by omega) (by omega) (by omega) (by omega)]; omega), gpc_78_6, hd, gpb_10 hb, gf_cs, h78, eg, bd_some]
    by_cases c : tkh (a (b + 2)) (tkp q k (A 13) (A 17) t) (tkl q k (A 13) (A 18) t) 63
    · rw [e1 c, bd_some, Sum.elim_inr]
      exact Or.inr ⟨_, rfl, Or.inr ⟨rfl, t, u0, u1', c⟩⟩
    · rw [e2 c, bd_some, Sum.elim_inl, qz_add]
      refine Or.inl ⟨_, rfl, rfl, fun x x0 x1 => ?_⟩
      by_cases e : x = t
      · rw [e]; exact c
      · exact h x x0 (by omega)
  · rintro c ⟨rfl, h⟩
    refine ⟨qz 0, ?_, Or.inl ⟨rfl, h⟩⟩
    unfold gL_X3_isOpen_60 g_X3_isOpen_60
    rw [if_pos (by rw [qz_le (by omega) (by omega) (by omega) (by omega)]; omega)]
    rfl
  have eend : ∀ x, a (b + 30) k ≤ x → x < A 14 (200 * q + k) → tkh (a (b + 2)) (tkp q k (A 13) (A 17) x) (tkl q k (A 13) (A 18) x) 63 → a (b + 30) k < x := by
    intro x x0 x1 hx
    by_cases e : x = a (b + 30) k
    · exfalso
      rcases l3 with ⟨z1, z2, z3, z4, z5, z6⟩ | ⟨z1, z2, z3⟩
      · have := z6 (by omega)
        obtain ⟨g1, g2, g3, g4⟩ := t9 x (by omega) x1
        rw [← e] at this
        unfold one at this
        rw [g1, show 4096 * q + (A 13 (200 * q + k) + x) = 4096 * q + A 13 (200 * q + k) + x by omega] at this
        unfold tkh tkp tkl at hx
        obtain ⟨y, y0, y1, y2⟩ := hx
        rw [this.1] at y1
        rw [show y = A 17 (4096 * q + A 13 (200 * q + k) + x) by omega, this.2] at y2
        omega
      · omega
    · omega
  obtain ⟨r1, e1, h1'⟩ := lp1
  obtain ⟨r2, e2, h2'⟩ := lp2
  unfold g_X3_isOpen g_X3_isOpen_0
  rw [gpc_78_6, hd, gpb_10 hb, gf_cs, h78, est, bd_some, zl0, e1, bd_some]
  rcases h1' with ⟨rfl, h⟩ | ⟨rfl, h⟩
  · rw [Sum.elim_inl, gpb_16 hb, gab_30 hb h0 (by omega), bd_some, e2, bd_some]
    rcases h2' with ⟨rfl, h'⟩ | ⟨rfl, x, x0, x1, x2⟩
    · rw [qp_F]
      rintro (⟨i, i0, i1, i2⟩ | ⟨i, i0, i1, i2⟩)
      · exact h i i0 i1 i2
      · exact h' i (by omega) i1 i2
    · rw [qp_T (show opn q k (a (b + 30) k) (a (b + 2)) (a (b + 14 + 1)) (A 13) (A 14) (A 17) (A 18) from Or.inr ⟨x, eend x x0 x1 x2, x1, x2⟩)]
  · rw [Sum.elim_inr, qp_T (show opn q k (a (b + 30) k) (a (b + 2)) (a (b + 14 + 1)) (A 13) (A 14) (A 17) (A 18) from Or.inl h)]
end OPN
