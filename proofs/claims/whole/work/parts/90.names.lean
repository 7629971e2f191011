/-! Names: their table -/
def mx (t : Int → Int) (b l : Int) : Nat → Int
  | 0 => l
  | i + 1 => 31 * mx t b l i + t (b + i)
def hs0 (x : Int32) : Int32 := (x ^^^ ((Int32.toUInt32 x >>> (Int32.toUInt32 (8 : Int32) &&& Int32.toUInt32 31)).toInt32)) &&& (255 : Int32)
def hd (t : Int → Int) (b l : Int) : Int := (hs0 (qz (mx t b l l.toNat))).toInt
theorem and255 (x : Int32) : 0 ≤ (x &&& (255 : Int32)).toInt ∧ (x &&& (255 : Int32)).toInt < 256 := by
  have h : (x &&& (255 : Int32)).toBitVec.toNat ≤ 255 := by
    show ((x.toBitVec &&& 255#32)).toNat ≤ 255
    rw [BitVec.toNat_and]
    exact Nat.and_le_right
  have e : (x &&& (255 : Int32)).toInt = (x &&& (255 : Int32)).toBitVec.toInt := rfl
  rw [e, BitVec.toInt_eq_toNat_of_lt (by omega)]
  omega
theorem hd_rng (t : Int → Int) (b l : Int) : 0 ≤ hd t b l ∧ hd t b l < 256 := and255 _
theorem hd_q (t : Int → Int) (b l : Int) : hs0 (qz (mx t b l l.toNat)) = qz (hd t b l) := (Int32.ofInt_toInt _).symm
theorem mx_eq {t p : Int → Int} {b c l : Int} (i : Nat) (h : ∀ x, 0 ≤ x → x < (i : Int) → t (b + x) = p (c + x)) : mx t b l i = mx p c l i := by
  induction i with
  | zero => rfl
  | succ i ih =>
    show 31 * mx t b l i + t (b + i) = 31 * mx p c l i + p (c + i)
    rw [ih (fun x h1 h2 => h x h1 (by omega)), h i (by omega) (by omega)]
/-- the name of l2 bytes from s2 on is the one of l bytes from s on -/
def nme (t : Int → Int) (s2 l2 : Int) (p : Int → Int) (s l : Int) : Prop := l2 = l ∧ ∀ x, 0 ≤ x → x < l → t (s2 + x) = p (s + x)
theorem hd_eq {t p : Int → Int} {s2 l2 s l : Int} (h : nme t s2 l2 p s l) : hd t s2 l2 = hd p s l := by
  obtain ⟨rfl, h2⟩ := h
  unfold hd
  rw [mx_eq (p := p) (c := s) l2.toNat (fun x h1 h3 => h2 x h1 (by omega))]
def lk (nx : Int → Int) : Int → List Int → Prop
  | id, [] => id = -1
  | id, x :: L => id = x ∧ lk nx (nx x) L
theorem lk_o {nx : Int → Int} {y z : Int} : ∀ {L : List Int} {id : Int}, lk nx id L → y ∉ L → lk (v1 nx y z) id L := by
  intro L
  induction L with
  | nil => intro id h _; exact h
  | cons x L ih =>
    intro id h hy
    obtain ⟨h1, h2⟩ := h
    refine ⟨h1, ?_⟩
    have hx : x ≠ y := fun e => hy (by rw [e]; exact List.mem_cons_self)
    rw [v1_o hx]
    exact ih h2 (fun e => hy (List.mem_cons_of_mem _ e))
def byt (t : Int → Int) : Prop := ∀ x, 0 ≤ x → x < 8192 → -128 ≤ t x ∧ t x < 128
/-- the table of names holds the living ones -/
def NI (cnt : Int) (t hs nx st ln : Int → Int) (liv : Int → Prop) : Prop := cnt ≤ 500 ∧ (∃ L : Int → List Int, (∀ h, 0 ≤ h → h < 256 → lk nx (hs h) (L h) ∧ ((L h).length : Int) ≤ cnt ∧ ∀ x, x ∈ L h → liv x) ∧ ∀ x, liv x → x ∈ L (hd t (st x) (ln x))) ∧ ∀ x, liv x → 0 ≤ x ∧ x < 500 ∧ 0 ≤ st x ∧ 0 ≤ ln x ∧ st x + ln x ≤ 8192
section NAMES
variable {f : Nat → Nat → Int} {d : Nat → Nat} {a : Nat → Int → Int} {ni : Nat → Nat} {j : Nat → Int → Int64} {n b p : Nat} {s l id cnt : Int} {liv : Int → Prop}
def txo (p : Nat) : Prop := p = 3 ∨ p = 35
theorem ga_tx (hp : txo p) {m : Int} (h0 : 0 ≤ m) (h : m < 8192) : gA (cs f d a ni j) p (qz m) = some (qz (a p m)) := by
  rcases hp with rfl | rfl <;> exact ga_cs h0 h (by omega)
theorem tx_b (hb : bks b) : txo (b + 2) := by
  rcases hb with rfl | rfl
  · exact Or.inl rfl
  · exact Or.inr rfl
theorem c_headOf (hp : txo p) (h0 : 0 ≤ s) (h1 : 0 ≤ l) (h2 : s + l ≤ 8192) (hn : 100000 ≤ n) : g_X2_headOf n p (qz s) (qz l) (cs f d a ni j) = some (qz (hd (a p) s l)) := by
  have := lp_for (b := gL_X2_headOf_5 n p (qz s) (qz l) (cs f d a ni j)) (x := qz (mx (a p) s l l.toNat)) (fun i => (qz (mx (a p) s l i.toNat), qz i)) l (n := n) (i0 := 0) h1 (by omega) ?_ ?_
  · unfold g_X2_headOf g_X2_headOf_0
    simp only [qz_lit]
    rw [show (qz l, qz 0) = (qz (mx (a p) s l (0 : Int).toNat), qz 0) from rfl, this, bd_some]
    exact congrArg some (hd_q (a p) s l)
  · intro i h3 h4
    unfold gL_X2_headOf_5 g_X2_headOf_5
    simp (disch := first | assumption | omega) only [qpT, qpF, qz_lit, qz_add, qz_mul, qz_neg, qz_sub, qz_inj, qz_lt, qz_le, qz_div, qp_0, qp_1, hp_bz_qp, hp_bz_0, hp_bz_1, if_pos, if_neg, if_true, if_false, u2_a, u2_b, u2_c, u2_d, u1_s, u1_o, u1_1, v1_s, v1_o, v1_e, v1_1, v2_s, v2_o, v2_2, not_true_eq_false, not_false_eq_true, ga_tx, bd_some]
    rw [show (i + 1).toNat = i.toNat + 1 by omega]
    show some (Sum.inl (qz (31 * mx (a p) s l i.toNat + a p (s + i)), _)) = some (Sum.inl (qz (31 * mx (a p) s l i.toNat + a p (s + (i.toNat : Int))), _))
    rw [show ((i.toNat : Nat) : Int) = i by omega]
  · unfold gL_X2_headOf_5 g_X2_headOf_5
    simp (disch := first | assumption | omega) only [qpT, qpF, qz_lit, qz_add, qz_mul, qz_neg, qz_sub, qz_inj, qz_lt, qz_le, qz_div, qp_0, qp_1, hp_bz_qp, hp_bz_0, hp_bz_1, if_pos, if_neg, if_true, if_false, u2_a, u2_b, u2_c, u2_d, u1_s, u1_o, u1_1, v1_s, v1_o, v1_e, v1_1, v2_s, v2_o, v2_2, not_true_eq_false, not_false_eq_true]
theorem c_isSame (hb : bks b) (hp : txo p) (ht : byt (a (b + 2))) (ht2 : byt (a p)) (h0 : 0 ≤ id) (h1 : id < 500) (h2 : 0 ≤ a (b + 5) id) (h3 : 0 ≤ a (b + 6) id) (h4 : a (b + 5) id + a (b + 6) id ≤ 8192) (h5 : 0 ≤ s) (h6 : s + a (b + 6) id ≤ 8192) (hn : 100000 ≤ n) : g_X2_isSame n (b + 1) (qz id) p (qz s) (cs f d a ni j) = some (qp (nme (a (b + 2)) (a (b + 5) id) (a (b + 6) id) (a p) s (a (b + 6) id))) := by
  have := lp_find (b := gL_X2_isSame_3 n (b + 1) (qz id) p (qz s) (cs f d a ni j)) (fun x => qz x) (fun x => a (b + 2) (a (b + 5) id + x) ≠ a p (s + x)) (fun _ => qz 0) (qz 1) (n := n) (lo := 0) (a (b + 6) id) (by omega) (by omega) ?_ ?_ ?_
  · unfold g_X2_isSame g_X2_isSame_0
    rcases this with ⟨x, x1, x2, x3, x4, x5⟩ | ⟨x4, x5⟩
    · simp only [qz_lit, x5, bd_some]
      rw [qp_F]
      exact fun h => x3 (h.2 x x1 x2)
    · simp only [qz_lit, x5, bd_some]
      rw [qp_T]
      exact ⟨rfl, fun x x1 x2 => Classical.not_not.mp (x4 x x1 x2)⟩
  · intro x x1 x2 x3
    have x4 := Classical.not_not.mp x3
    unfold gL_X2_isSame_3 g_X2_isSame_3
    simp (disch := first | assumption | omega) only [qpT, qpF, qz_lit, qz_add, qz_mul, qz_neg, qz_sub, qz_inj, qz_lt, qz_le, qz_div, qp_0, qp_1, hp_bz_qp, hp_bz_0, hp_bz_1, if_pos, if_neg, if_true, if_false, u2_a, u2_b, u2_c, u2_d, u1_s, u1_o, u1_1, v1_s, v1_o, v1_e, v1_1, v2_s, v2_o, v2_2, not_true_eq_false, not_false_eq_true, gpn_0, gpn_3, gpn_4, gab_2, gab_5, gab_6, ga_tx, bd_some, x4]
  · intro x x1 x2 x3
    have y1 := ht (a (b + 5) id + x) (by omega) (by omega)
    have y2 := ht2 (s + x) (by omega) (by omega)
    unfold gL_X2_isSame_3 g_X2_isSame_3
    simp (disch := first | assumption | omega) only [qpT, qpF, qz_lit, qz_add, qz_mul, qz_neg, qz_sub, qz_inj, qz_lt, qz_le, qz_div, qp_0, qp_1, hp_bz_qp, hp_bz_0, hp_bz_1, if_pos, if_neg, if_true, if_false, u2_a, u2_b, u2_c, u2_d, u1_s, u1_o, u1_1, v1_s, v1_o, v1_e, v1_1, v2_s, v2_o, v2_2, not_true_eq_false, not_false_eq_true, gpn_0, gpn_3, gpn_4, gab_2, gab_5, gab_6, ga_tx, bd_some]
  · unfold gL_X2_isSame_3 g_X2_isSame_3
    simp (disch := first | assumption | omega) only [qpT, qpF, qz_lit, qz_add, qz_mul, qz_neg, qz_sub, qz_inj, qz_lt, qz_le, qz_div, qp_0, qp_1, hp_bz_qp, hp_bz_0, hp_bz_1, if_pos, if_neg, if_true, if_false, u2_a, u2_b, u2_c, u2_d, u1_s, u1_o, u1_1, v1_s, v1_o, v1_e, v1_1, v2_s, v2_o, v2_2, not_true_eq_false, not_false_eq_true, gpn_0, gpn_3, gpn_4, gab_2, gab_5, gab_6, ga_tx, bd_some]
theorem c_chain (hb : bks b) (hp : txo p) (ht : byt (a (b + 2))) (ht2 : byt (a p)) (h5 : 0 ≤ s) (h6 : 0 ≤ l) (h7 : s + l ≤ 8192) (hn : 100000 ≤ n) (hl : ∀ x, liv x → 0 ≤ x ∧ x < 500 ∧ 0 ≤ a (b + 5) x ∧ 0 ≤ a (b + 6) x ∧ a (b + 5) x + a (b + 6) x ≤ 8192) :
    ∀ (L : List Int) (id i : Int) (m : Nat), lk (a (b + 4)) id L → (∀ x, x ∈ L → liv x) → 0 ≤ i → i + L.length ≤ 500 → L.length < m → ∃ r, hp_lp (gL_X2_lookUp_16 n (b + 1) p (qz s) (qz l) (cs f d a ni j)) m (qz id, qz i) = some (qz r) ∧ ((r = -1 ∧ ∀ x, x ∈ L → ¬nme (a (b + 2)) (a (b + 5) x) (a (b + 6) x) (a p) s l) ∨ (r ∈ L ∧ nme (a (b + 2)) (a (b + 5) r) (a (b + 6) r) (a p) s l)) := by
  intro L
  induction L with
  | nil =>
    intro id i m h1 h2 h3 h4 h8
    obtain rfl : id = -1 := h1
    obtain ⟨m, rfl⟩ : ∃ k, m = k + 1 := ⟨m - 1, by omega⟩
    simp only [List.length_nil] at h4
    refine ⟨-1, hp_lp_x ?_, Or.inl ⟨rfl, fun x hx => by simp at hx⟩⟩
    unfold gL_X2_lookUp_16 g_X2_lookUp_16
    by_cases q : 500 ≤ i
    · simp (disch := first | assumption | omega) only [qpT, qpF, qz_lit, qz_add, qz_mul, qz_neg, qz_sub, qz_inj, qz_lt, qz_le, qz_div, qp_0, qp_1, hp_bz_qp, hp_bz_0, hp_bz_1, if_pos, if_neg, if_true, if_false, u2_a, u2_b, u2_c, u2_d, u1_s, u1_o, u1_1, v1_s, v1_o, v1_e, v1_1, v2_s, v2_o, v2_2, not_true_eq_false, not_false_eq_true]
    · simp (disch := first | assumption | omega) only [qpT, qpF, qz_lit, qz_add, qz_mul, qz_neg, qz_sub, qz_inj, qz_lt, qz_le, qz_div, qp_0, qp_1, hp_bz_qp, hp_bz_0, hp_bz_1, if_pos, if_neg, if_true, if_false, u2_a, u2_b, u2_c, u2_d, u1_s, u1_o, u1_1, v1_s, v1_o, v1_e, v1_1, v2_s, v2_o, v2_2, not_true_eq_false, not_false_eq_true]
  | cons x L ih =>
    intro id i m h1 h2 h3 h4 h8
    obtain ⟨rfl, h9⟩ := h1
    obtain ⟨m, rfl⟩ : ∃ k, m = k + 1 := ⟨m - 1, by omega⟩
    simp only [List.length_cons] at h4 h8
    obtain ⟨l1, l2, l3, l4, l5⟩ := hl id (h2 id List.mem_cons_self)
    have bodyN : ¬nme (a (b + 2)) (a (b + 5) id) (a (b + 6) id) (a p) s l → gL_X2_lookUp_16 n (b + 1) p (qz s) (qz l) (cs f d a ni j) (qz id, qz i) = some (.inl (qz (a (b + 4) id), qz (i + 1))) := by
      intro hq
      unfold gL_X2_lookUp_16 g_X2_lookUp_16 g_X2_lookUp_55
      by_cases q : a (b + 6) id = l
      · have e := c_isSame (f := f) (d := d) (ni := ni) (j := j) (n := n) hb hp ht ht2 l1 l2 l3 l4 l5 h5 (by omega) hn
        rw [qp_F (by rw [q] at hq ⊢; exact hq)] at e
        simp (disch := first | assumption | omega) only [qpT, qpF, qz_lit, qz_add, qz_mul, qz_neg, qz_sub, qz_inj, qz_lt, qz_le, qz_div, qp_0, qp_1, hp_bz_qp, hp_bz_0, hp_bz_1, if_pos, if_neg, if_true, if_false, u2_a, u2_b, u2_c, u2_d, u1_s, u1_o, u1_1, v1_s, v1_o, v1_e, v1_1, v2_s, v2_o, v2_2, not_true_eq_false, not_false_eq_true, gpn_2, gpn_4, gab_4, gab_6, bd_some, e]
      · simp (disch := first | assumption | omega) only [qpT, qpF, qz_lit, qz_add, qz_mul, qz_neg, qz_sub, qz_inj, qz_lt, qz_le, qz_div, qp_0, qp_1, hp_bz_qp, hp_bz_0, hp_bz_1, if_pos, if_neg, if_true, if_false, u2_a, u2_b, u2_c, u2_d, u1_s, u1_o, u1_1, v1_s, v1_o, v1_e, v1_1, v2_s, v2_o, v2_2, not_true_eq_false, not_false_eq_true, gpn_2, gpn_4, gab_4, gab_6, bd_some]
    by_cases q : nme (a (b + 2)) (a (b + 5) id) (a (b + 6) id) (a p) s l
    · refine ⟨id, hp_lp_x ?_, Or.inr ⟨List.mem_cons_self, q⟩⟩
      have q1 : a (b + 6) id = l := q.1
      have e := c_isSame (f := f) (d := d) (ni := ni) (j := j) (n := n) hb hp ht ht2 l1 l2 l3 l4 l5 h5 (by omega) hn
      rw [qp_T (by rw [q1] at q ⊢; exact q)] at e
      unfold gL_X2_lookUp_16 g_X2_lookUp_16 g_X2_lookUp_55
      simp (disch := first | assumption | omega) only [qpT, qpF, qz_lit, qz_add, qz_mul, qz_neg, qz_sub, qz_inj, qz_lt, qz_le, qz_div, qp_0, qp_1, hp_bz_qp, hp_bz_0, hp_bz_1, if_pos, if_neg, if_true, if_false, u2_a, u2_b, u2_c, u2_d, u1_s, u1_o, u1_1, v1_s, v1_o, v1_e, v1_1, v2_s, v2_o, v2_2, not_true_eq_false, not_false_eq_true, gpn_2, gpn_4, gab_4, gab_6, bd_some, e, qz_1_0]
    · obtain ⟨r, e, h⟩ := ih (a (b + 4) id) (i + 1) m h9 (fun x hx => h2 x (List.mem_cons_of_mem _ hx)) (by omega) (by omega) (by omega)
      refine ⟨r, hp_lp_s (bodyN q) e, ?_⟩
      rcases h with ⟨h, g⟩ | ⟨h, g⟩
      · refine Or.inl ⟨h, fun x hx => ?_⟩
        rcases List.mem_cons.mp hx with rfl | hx
        · exact q
        · exact g x hx
      · exact Or.inr ⟨List.mem_cons_of_mem _ h, g⟩
theorem c_lookUp (hb : bks b) (hp : txo p) (ht : byt (a (b + 2))) (ht2 : byt (a p)) (h5 : 0 ≤ s) (h6 : 0 ≤ l) (h7 : s + l ≤ 8192) (hn : 100000 ≤ n) (H : NI cnt (a (b + 2)) (a (b + 3)) (a (b + 4)) (a (b + 5)) (a (b + 6)) liv) :
    ∃ r, g_X2_lookUp n (b + 1) p (qz s) (qz l) (cs f d a ni j) = some (qz r) ∧ ((r = -1 ∧ ∀ x, liv x → ¬nme (a (b + 2)) (a (b + 5) x) (a (b + 6) x) (a p) s l) ∨ (liv r ∧ nme (a (b + 2)) (a (b + 5) r) (a (b + 6) r) (a p) s l)) := by
  obtain ⟨h8, ⟨L, h9, h10⟩, h11⟩ := H
  obtain ⟨d1, d2⟩ := hd_rng (a p) s l
  obtain ⟨c1, c2, c3⟩ := h9 _ d1 d2
  obtain ⟨r, e, h⟩ := c_chain (f := f) (d := d) (ni := ni) (j := j) (n := n) (liv := liv) hb hp ht ht2 h5 h6 h7 hn h11 _ _ 0 n c1 c3 (by omega) (by omega) (by omega)
  refine ⟨r, ?_, ?_⟩
  · unfold g_X2_lookUp g_X2_lookUp_0
    rw [c_headOf hp h5 h6 h7 hn]
    simp (disch := first | assumption | omega) only [qpT, qpF, qz_lit, qz_add, qz_mul, qz_neg, qz_sub, qz_inj, qz_lt, qz_le, qz_div, qp_0, qp_1, hp_bz_qp, hp_bz_0, hp_bz_1, gpn_1, gab_3, bd_some, e]
  · rcases h with ⟨h, g⟩ | ⟨h, g⟩
    · refine Or.inl ⟨h, fun x hx hq => ?_⟩
      have := h10 x hx
      rw [hd_eq hq] at this
      exact g x this hq
    · exact Or.inr ⟨c3 r h, g⟩
theorem c_nadd (hb : bks b) (h5 : 0 ≤ s) (h6 : 0 ≤ l) (h7 : s + l ≤ 8192) (h8 : 0 ≤ id) (h9 : id < 500) (hn : 100000 ≤ n) :
    g_X2_add n (b + 1) (qz id) (qz s) (qz l) (cs f d a ni j) = some (cs f d (v2 (v2 (v2 (v2 a (b + 5) id s) (b + 6) id l) (b + 4) id (a (b + 3) (hd (a (b + 2)) s l))) (b + 3) (hd (a (b + 2)) s l) id) ni j) := by
  obtain ⟨d1, d2⟩ := hd_rng (a (b + 2)) s l
  unfold g_X2_add g_X2_add_0
  simp (disch := first | assumption | omega) only [gpn_0, c_headOf (tx_b hb) h5 h6 h7 hn, bd_some, gpn_1, gpn_2, gpn_3, gpn_4, uab_5, uab_6, uab_4, uab_3, gab_3, v2_o]
theorem ni_add {t hs nx st ln : Int → Int} (H : NI cnt t hs nx st ln liv) (hc : cnt < 500) (hid : ¬liv id) (h5 : 0 ≤ s) (h6 : 0 ≤ l) (h7 : s + l ≤ 8192) (h8 : 0 ≤ id) (h9 : id < 500) : NI (cnt + 1) t (v1 hs (hd t s l) id) (v1 nx id (hs (hd t s l))) (v1 st id s) (v1 ln id l) (fun x => liv x ∨ x = id) := by
  obtain ⟨g1, ⟨L, g2, g3⟩, g4⟩ := H
  obtain ⟨d1, d2⟩ := hd_rng t s l
  refine ⟨by omega, ⟨v1 L (hd t s l) (id :: L (hd t s l)), ?_, ?_⟩, ?_⟩
  · intro h q1 q2
    obtain ⟨c1, c2, c3⟩ := g2 h q1 q2
    have hni : id ∉ L h := fun e => hid (c3 id e)
    by_cases e : h = hd t s l
    · subst e
      rw [v1_s, v1_s]
      refine ⟨⟨rfl, ?_⟩, by simp only [List.length_cons]; omega, fun x hx => ?_⟩
      · rw [v1_s]; exact lk_o c1 hni
      · rcases List.mem_cons.mp hx with rfl | hx
        · exact Or.inr rfl
        · exact Or.inl (c3 x hx)
    · rw [v1_o e, v1_o e]
      exact ⟨lk_o c1 hni, by omega, fun x hx => Or.inl (c3 x hx)⟩
  · rintro x (hx | rfl)
    · have hne : x ≠ id := fun e => hid (e ▸ hx)
      rw [v1_o hne, v1_o hne]
      by_cases e : hd t (st x) (ln x) = hd t s l
      · rw [e, v1_s]; exact List.mem_cons_of_mem _ (e ▸ g3 x hx)
      · rw [v1_o e]; exact g3 x hx
    · rw [v1_s, v1_s, v1_s]; exact List.mem_cons_self
  · rintro x (hx | rfl)
    · have hne : x ≠ id := fun e => hid (e ▸ hx)
      rw [v1_o hne, v1_o hne]; exact g4 x hx
    · rw [v1_s, v1_s]; exact ⟨h8, h9, h5, h6, h7⟩
theorem ni_none {t nx st ln : Int → Int} {hs : Int → Int} (h : ∀ k, 0 ≤ k → k < 256 → hs k = -1) (hl : ∀ x, ¬liv x) : NI 0 t hs nx st ln liv :=
  ⟨by omega, ⟨fun _ => [], fun k h1 h2 => ⟨h k h1 h2, by simp, fun x hx => by simp at hx⟩, fun x hx => absurd hx (hl x)⟩, fun x hx => absurd hx (hl x)⟩
theorem ni_iff {t hs nx st ln : Int → Int} {liv2 : Int → Prop} {c2 : Int} (H : NI cnt t hs nx st ln liv) (hc : cnt = c2) (h : ∀ x, liv x ↔ liv2 x) : NI c2 t hs nx st ln liv2 := by
  have : liv = liv2 := funext fun x => propext (h x)
  rw [← this, ← hc]; exact H
theorem c_nclear (hb : bks b) (hn : 100000 ≤ n) : g_X2_clear n (b + 1) (cs f d a ni j) = some (cs f d (u1 a (b + 3) (fl (a (b + 3)) 256 (-1))) ni j) := by
  unfold g_X2_clear g_X2_clear_0
  rw [gpn_1 hb, show (-1 : Int32) = qz (-1) from rfl, c_fillI (N := 256) (by rcases hb with rfl | rfl <;> rfl) (by omega) (by omega)]
  rfl
/-- a byte of a name -/
theorem c_byteOf (hb : bks b) (h8 : 0 ≤ id) (h9 : id < 500) (h1 : 0 ≤ a (b + 5) id) (h2 : 0 ≤ a (b + 6) id) (h3 : a (b + 5) id + a (b + 6) id ≤ 8192) {i : Int} (hi : 0 ≤ i) (hi2 : i < a (b + 6) id) : g_X2_byteOf n (b + 1) (qz id) (qz i) (cs f d a ni j) = some (qz (a (b + 2) (a (b + 5) id + i))) := by
  unfold g_X2_byteOf g_X2_byteOf_0
  simp (disch := first | assumption | omega) only [qpT, qpF, qz_lit, qz_add, qz_mul, qz_neg, qz_sub, qz_inj, qz_lt, qz_le, qz_div, qp_0, qp_1, hp_bz_qp, hp_bz_0, hp_bz_1, if_pos, if_neg, if_true, if_false, u2_a, u2_b, u2_c, u2_d, u1_s, u1_o, u1_1, v1_s, v1_o, v1_e, v1_1, v2_s, v2_o, v2_2, not_true_eq_false, not_false_eq_true, gpn_0, gpn_3, gpn_4, gab_2, gab_5, gab_6, bd_some]
theorem c_byteOf0 (hb : bks b) (h8 : 0 ≤ id) (h9 : id < 500) (h2 : 0 ≤ a (b + 6) id) (h3 : a (b + 6) id ≤ 8192) {i : Int} (hi : -2147483648 ≤ i) (hi2 : i < 2147483648) (hi3 : i < 0 ∨ a (b + 6) id ≤ i) : g_X2_byteOf n (b + 1) (qz id) (qz i) (cs f d a ni j) = some (qz (-1)) := by
  unfold g_X2_byteOf g_X2_byteOf_0
  by_cases q : i < 0
  · simp (disch := first | assumption | omega) only [qpT, qpF, qz_lit, qz_add, qz_mul, qz_neg, qz_sub, qz_inj, qz_lt, qz_le, qz_div, qp_0, qp_1, hp_bz_qp, hp_bz_0, hp_bz_1, if_pos, if_neg, if_true, if_false, u2_a, u2_b, u2_c, u2_d, u1_s, u1_o, u1_1, v1_s, v1_o, v1_e, v1_1, v2_s, v2_o, v2_2, not_true_eq_false, not_false_eq_true, gpn_0, gpn_3, gpn_4, gab_2, gab_5, gab_6, bd_some]
  · simp (disch := first | assumption | omega) only [qpT, qpF, qz_lit, qz_add, qz_mul, qz_neg, qz_sub, qz_inj, qz_lt, qz_le, qz_div, qp_0, qp_1, hp_bz_qp, hp_bz_0, hp_bz_1, if_pos, if_neg, if_true, if_false, u2_a, u2_b, u2_c, u2_d, u1_s, u1_o, u1_1, v1_s, v1_o, v1_e, v1_1, v2_s, v2_o, v2_2, not_true_eq_false, not_false_eq_true, gpn_0, gpn_3, gpn_4, gab_2, gab_5, gab_6, bd_some]
theorem c_lengthOf (hb : bks b) (h8 : 0 ≤ id) (h9 : id < 500) : g_X2_lengthOf n (b + 1) (qz id) (cs f d a ni j) = some (qz (a (b + 6) id)) := by
  unfold g_X2_lengthOf g_X2_lengthOf_0
  simp (disch := first | assumption | omega) only [gpn_4, gab_6, bd_some]
end NAMES
