/-! The nodes of a proof, in the class: one is looked for, one is made -/
section PLA
variable {n : Nat} {c lb bs z x h : Int} {f : Nat → Nat → Int} {d : Nat → Nat} {a : Nat → Int → Int} {ni : Nat → Nat} {j : Nat → Int → Int64}
theorem nc_107 : nC0 (105 + 2) = 1001 := rfl
def TKN (c : Int) (f : Nat → Nat → Int) (a : Nat → Int → Int) (ni : Nat → Nat) : Prop := Rw (f 105 3) (f 105 2) (ni (105 + 1)) (nC0 (105 + 2)) 1024 (a (105 + 2)) ∧ f 105 3 = c ∧ f 105 2 = a (105 + 2) c ∧ f 103 2 = c ∧ 0 ≤ c
/-- the node x has this label, and takes what stands on the stack from bs on -/
def mtn (a : Nat → Int → Int) (lb bs x : Int) : Prop := a 104 x = lb ∧ ∀ t, 0 ≤ t → t < a (105 + 2) (x + 1) - a (105 + 2) x → a (105 + 1) (a (105 + 2) x + t) = a 112 (bs + t)
def NV (c : Int) (a : Nat → Int → Int) : Prop := ∀ x, 0 ≤ x → x < c → 0 ≤ a 104 x ∧ a 104 x < 200 ∧ 0 ≤ a (105 + 2) (x + 1) - a (105 + 2) x ∧ a (105 + 2) (x + 1) - a (105 + 2) x < 1000 ∧ ∀ t, 0 ≤ t → t < a (105 + 2) (x + 1) - a (105 + 2) x → 0 ≤ a (105 + 1) (a (105 + 2) x + t) ∧ a (105 + 1) (a (105 + 2) x + t) < 1000
/-- the hash of a label and what it takes -/
def hdn (g : Int → Int) (bs lb z : Int) : Int := (hs0 (qz (mx g bs lb z.toNat))).toInt
theorem c_mix {v5 : Int32} (hn : 100000 ≤ n) (b0 : 0 ≤ bs) (z0 : 0 ≤ z) (b1 : bs + z ≤ 1000) : hp_lp (gL_X9_nodeOf_6 n 103 v5 (qz bs) (qz z) (cs f d a ni j)) n (qz lb, qz 0) = some (qz (mx (a 112) bs lb z.toNat)) := by
  have := lp_for (b := gL_X9_nodeOf_6 n 103 v5 (qz bs) (qz z) (cs f d a ni j)) (x := qz (mx (a 112) bs lb z.toNat)) (fun i => (qz (mx (a 112) bs lb i.toNat), qz i)) z (n := n) (i0 := 0) z0 (by omega) ?_ ?_
  · exact this
  · intro i i0 i1
    unfold gL_X9_nodeOf_6 g_X9_nodeOf_6
    simp only [zl1, show (31 : Int32) = qz 31 from id rfl]
    rw [if_neg (by rw [qz_le (by omega) (by omega) (by omega) (by omega)]; omega), gpc_103_10, qz_add, gac_112 (by omega) (by omega), bd_some, qz_mul, qz_add, qz_add, show (i + 1).toNat = i.toNat + 1 by omega]
    show some (Sum.inl (qz (31 * mx (a 112) bs lb i.toNat + a 112 (bs + i)), _)) = some (Sum.inl (qz (31 * mx (a 112) bs lb i.toNat + a 112 (bs + (i.toNat : Int))), _))
    rw [show ((i.toNat : Nat) : Int) = i by omega]
  · unfold gL_X9_nodeOf_6 g_X9_nodeOf_6
    rw [if_pos (by rw [qz_le (by omega) (by omega) (by omega) (by omega)]; omega)]
theorem c_takesStack (hn : 100000 ≤ n) (H : TKN c f a ni) (V : NV c a) (x0 : 0 ≤ x) (x1 : x < c) (b0 : 0 ≤ bs) (b1 : bs + (a (105 + 2) (x + 1) - a (105 + 2) x) ≤ 1000) (hs : ∀ t, 0 ≤ t → t < a (105 + 2) (x + 1) - a (105 + 2) x → 0 ≤ a 112 (bs + t) ∧ a 112 (bs + t) < 1000) : g_X9_takesStack n 103 (qz x) (qz bs) (cs f d a ni j) = some (qp (∀ t, 0 ≤ t → t < a (105 + 2) (x + 1) - a (105 + 2) x → a (105 + 1) (a (105 + 2) x + t) = a 112 (bs + t))) := by
  obtain ⟨H1, H2, H3, H4, H5⟩ := H
  obtain ⟨v1', v2', v3', v4', v5'⟩ := V x x0 x1
  unfold g_X9_takesStack g_X9_takesStack_0
  rw [gpc_103_5, c_size rws_105 H1 x0 (by omega), bd_some]
  have := lp_find (b := gL_X9_takesStack_12 n 103 (qz x) (qz bs) (qz (a (105 + 2) (x + 1) - a (105 + 2) x)) (cs f d a ni j)) (fun t => qz t) (fun t => a (105 + 1) (a (105 + 2) x + t) ≠ a 112 (bs + t)) (fun _ => qz 0) (qz 1) (n := n) (lo := 0) (a (105 + 2) (x + 1) - a (105 + 2) x) (by omega) (by omega) ?_ ?_ ?_
  · rcases this with ⟨t, t1, t2, t3, t4, t5⟩ | ⟨t4, t5⟩
    · rw [zl0, t5, bd_some, qp_F]
      exact fun h => t3 (h t t1 t2)
    · rw [zl0, t5, bd_some, qp_T]
      exact fun t t1 t2 => Classical.not_not.mp (t4 t t1 t2)
  · intro t t1 t2 t3
    have t4 := Classical.not_not.mp t3
    unfold gL_X9_takesStack_12 g_X9_takesStack_12
    rw [if_neg (by rw [qz_le (by omega) (by omega) (by omega) (by omega)]; omega), gpc_103_5, c_get rws_105 H1 x0 (by omega) t1 t2, bd_some, gpc_103_10, qz_add, gac_112 (by omega) (by omega), bd_some, t4, if_pos rfl, zl1, qz_add]
  · intro t t1 t2 t3
    have y1 := hs t t1 t2
    have y2 := v5' t t1 t2
    unfold gL_X9_takesStack_12 g_X9_takesStack_12
    rw [if_neg (by rw [qz_le (by omega) (by omega) (by omega) (by omega)]; omega), gpc_103_5, c_get rws_105 H1 x0 (by omega) t1 t2, bd_some, gpc_103_10, qz_add, gac_112 (by omega) (by omega), bd_some, if_neg (by rw [qz_inj (by omega) (by omega) (by omega) (by omega)]; exact t3), zl0]
  · unfold gL_X9_takesStack_12 g_X9_takesStack_12
    rw [if_pos (by rw [qz_le (by omega) (by omega) (by omega) (by omega)]; omega), zl1]
theorem c_nchain {v3 v5 : Int32} (hn : 100000 ≤ n) (H : TKN c f a ni) (V : NV c a) (c1 : c ≤ 1000) (l0 : 0 ≤ lb) (l1 : lb < 200) (b0 : 0 ≤ bs) (b1 : bs + z ≤ 1000) (hz : ∀ x, 0 ≤ x → x < c → a 104 x = lb → a (105 + 2) (x + 1) - a (105 + 2) x = z) (hs : ∀ t, 0 ≤ t → t < z → 0 ≤ a 112 (bs + t) ∧ a 112 (bs + t) < 1000) :
    ∀ (L : List Int) (id i : Int) (m : Nat), lk (a 110) id L → (∀ x, x ∈ L → 0 ≤ x ∧ x < c) → 0 ≤ i → i + L.length ≤ 1000 → L.length < m → (hp_lp (gL_X9_nodeOf_61 n 103 (qz lb) (qz bs) v3 v5 (cs f d a ni j)) m (qz id, qz i) = some (.inl ()) ∧ ∀ x, x ∈ L → ¬mtn a lb bs x) ∨ ∃ r, hp_lp (gL_X9_nodeOf_61 n 103 (qz lb) (qz bs) v3 v5 (cs f d a ni j)) m (qz id, qz i) = some (.inr (qz r)) ∧ r ∈ L ∧ mtn a lb bs r := by
  intro L
  induction L with
  | nil =>
    intro id i m h1 h2 h3 h4 h8
    obtain rfl : id = -1 := h1
    obtain ⟨m, rfl⟩ : ∃ k, m = k + 1 := ⟨m - 1, by omega⟩
    simp only [List.length_nil] at h4
    refine Or.inl ⟨hp_lp_x ?_, fun x hx => by simp at hx⟩
    unfold gL_X9_nodeOf_61 g_X9_nodeOf_61
    simp only [zlm1, zl1000]
    by_cases q : 1000 ≤ i
    · rw [if_pos (by rw [qz_le (by omega) (by omega) (by omega) (by omega)]; exact q)]
    · rw [if_neg (by rw [qz_le (by omega) (by omega) (by omega) (by omega)]; exact q), if_pos trivial]
  | cons x L ih =>
    intro id i m h1 h2 h3 h4 h8
    obtain ⟨rfl, h9⟩ := h1
    obtain ⟨m, rfl⟩ : ∃ k, m = k + 1 := ⟨m - 1, by omega⟩
    simp only [List.length_cons] at h4 h8
    obtain ⟨x0, x1⟩ := h2 id List.mem_cons_self
    obtain ⟨v1', v2', v3', v4', v5'⟩ := V id x0 x1
    have e0 : gL_X9_nodeOf_61 n 103 (qz lb) (qz bs) v3 v5 (cs f d a ni j) (qz id, qz i) = if qz (a 104 id) = qz lb then (g_X9_takesStack n 103 (qz id) (qz bs) (cs f d a ni j)).bind fun x3 => if x3 = qz 0 then some (.inl (qz (a 110 id), qz (i + 1))) else some (.inr (.inr (qz id))) else some (.inl (qz (a 110 id), qz (i + 1))) := by
      unfold gL_X9_nodeOf_61 g_X9_nodeOf_61 g_X9_nodeOf_99
      simp only [zl0, zl1, zlm1, zl1000, qz_neg]
      rw [if_neg (by rw [qz_le (by omega) (by omega) (by omega) (by omega)]; omega), if_neg (by rw [qz_inj (by omega) (by omega) (by omega) (by omega)]; omega), gpc_103_4, gac_104 x0 (by omega), bd_some, gpc_103_8, gac_110 x0 (by omega), bd_some, qz_add]
    have hno : ¬mtn a lb bs id → gL_X9_nodeOf_61 n 103 (qz lb) (qz bs) v3 v5 (cs f d a ni j) (qz id, qz i) = some (.inl (qz (a 110 id), qz (i + 1))) := by
      intro q
      rw [e0]
      by_cases y : a 104 id = lb
      · have ez := hz id x0 x1 y
        rw [if_pos (by rw [y]), c_takesStack hn H V x0 x1 b0 (by omega) (fun t t0 t1 => hs t t0 (by omega)), bd_some, qp_F (fun g => q ⟨y, g⟩), if_pos rfl]
      · rw [if_neg (by rw [qz_inj (by omega) (by omega) (by omega) (by omega)]; exact y)]
    by_cases q : mtn a lb bs id
    · refine Or.inr ⟨id, hp_lp_x ?_, List.mem_cons_self, q⟩
      have ez := hz id x0 x1 q.1
      rw [e0, if_pos (by rw [q.1]), c_takesStack hn H V x0 x1 b0 (by omega) (fun t t0 t1 => hs t t0 (by omega)), bd_some, qp_T q.2, if_neg n10]
    · rcases ih (a 110 id) (i + 1) m h9 (fun x hx => h2 x (List.mem_cons_of_mem _ hx)) (by omega) (by omega) (by omega) with ⟨g1, g2⟩ | ⟨r, g1, g2, g3⟩
      · refine Or.inl ⟨hp_lp_s (hno q) g1, fun x hx => ?_⟩
        rcases List.mem_cons.mp hx with rfl | hx
        · exact q
        · exact g2 x hx
      · exact Or.inr ⟨r, hp_lp_s (hno q) g1, List.mem_cons_of_mem _ g2, g3⟩
theorem zl256 : (256 : Int32) = qz 256 := id rfl
/-- a node is made -/
theorem c_addNode (hn : 100000 ≤ n) (H : TKN c f a ni) (c1 : c < 1000) (h0 : 0 ≤ h) (h1 : h < 256) (b0 : 0 ≤ bs) (z0 : 0 ≤ z) (b1 : bs + z ≤ 1000) (hM : a (105 + 2) c + z ≤ 1000) (hs : ∀ t, 0 ≤ t → t < z → 0 ≤ a 112 (bs + t) ∧ a 112 (bs + t) < c) : ∃ (f2 : Nat → Nat → Int) (a2 : Nat → Int → Int) (ni2 : Nat → Nat), g_X9_addNode n 103 (qz lb) (qz bs) (qz z) (qz h) (cs f d a ni j) = some (qz c, cs f2 d a2 ni2 j) ∧ TKN (c + 1) f2 a2 ni2 ∧ a2 104 = v1 (a 104) c lb ∧ a2 109 = v1 (a 109) h c ∧ a2 110 = v1 (a 110) c (a 109 h) ∧ a2 (105 + 2) = v1 (a (105 + 2)) (c + 1) (a (105 + 2) c + z) ∧ (∀ y, y < a (105 + 2) c → a2 (105 + 1) y = a (105 + 1) y) ∧ (∀ t, 0 ≤ t → t < z → a2 (105 + 1) (a (105 + 2) c + t) = a 112 (bs + t)) ∧ a2 108 c = 0 ∧ (∀ y, 0 ≤ y → y < c → a2 108 y = a 108 y + sm (fun t => if a 112 (bs + t) = y then 1 else 0) z.toNat) ∧ (∀ x, x ≠ 103 → x ≠ 105 → f2 x = f x) ∧ (∀ x, x ≠ 2 → f2 103 x = f 103 x) ∧ (∀ x, x ≠ 104 → x ≠ 105 + 1 → x ≠ 105 + 2 → x ≠ 108 → x ≠ 109 → x ≠ 110 → a2 x = a x) ∧ ∀ x, x ≠ 105 + 1 → ni2 x = ni x := by
  obtain ⟨H1, H2, H3, H4, H5⟩ := H
  have hn107 := nc_107
  have r12 := H1.2.2.2.2.2.2.2.2.2.2.2
  have s0 : a (105 + 2) 0 = 0 := H1.2.2.2.2.2.2.2.2.2.1
  have sc := r12 0 c (by omega) H5 (by omega)
  have e0 : g_X9_addNode n 103 (qz lb) (qz bs) (qz z) (qz h) (cs f d a ni j) = (hp_lp (gL_X9_addNode_48 n 103 (qz bs) (qz z) (qz c)) n (qz 0, cs f d (v2 (v2 (v2 (v2 a 104 c lb) 108 c 0) 110 c (a 109 h)) 109 h c) ni j)).bind fun x11 => g_X9_addNode_94 n 103 (qz c) x11 := by
    unfold g_X9_addNode g_X9_addNode_0
    simp only [zl0]
    rw [gpc_103_4, gf_cs, H4, uac_104 H5 c1, bd_some, gpc_103_6, uac_108 H5 c1, bd_some, gpc_103_7, gac_109 h0 h1, v2_o (by decide), v2_o (by decide), bd_some, gpc_103_8, uac_110 H5 c1, bd_some, gpc_103_7, uac_109 h0 h1, bd_some]
  generalize hA : v2 (v2 (v2 (v2 a 104 c lb) 108 c 0) 110 c (a 109 h)) 109 h c = A at e0
  have o104 : A 104 = v1 (a 104) c lb := by rw [← hA, v2_o (by decide), v2_o (by decide), v2_o (by decide), v2_s]
  have o108 : A 108 = v1 (a 108) c 0 := by rw [← hA, v2_o (by decide), v2_o (by decide), v2_s, v2_o (by decide)]
  have o110 : A 110 = v1 (a 110) c (a 109 h) := by rw [← hA, v2_o (by decide), v2_s, v2_o (by decide), v2_o (by decide)]
  have o109 : A 109 = v1 (a 109) h c := by rw [← hA, v2_s, v2_o (by decide), v2_o (by decide), v2_o (by decide)]
  have ox : ∀ x, x ≠ 104 → x ≠ 108 → x ≠ 109 → x ≠ 110 → A x = a x := fun x x1 x2 x3 x4 => by rw [← hA, v2_o x3, v2_o x4, v2_o x2, v2_o x1]
  have lp := lp_inv (b := gL_X9_addNode_48 n 103 (qz bs) (qz z) (qz c)) (fun t s => ∃ (f3 : Nat → Nat → Int) (a3 : Nat → Int → Int) (ni3 : Nat → Nat), s = (qz t, cs f3 d a3 ni3 j) ∧ Rw (f3 105 3) (f3 105 2) (ni3 (105 + 1)) (nC0 (105 + 2)) 1024 (a3 (105 + 2)) ∧ f3 105 3 = c ∧ f3 105 2 = a (105 + 2) c + t ∧ (∀ x, x ≠ 105 → f3 x = f x) ∧ (∀ x, x ≠ 105 + 1 → x ≠ 108 → a3 x = A x) ∧ (∀ x, x ≠ 105 + 1 → ni3 x = ni x) ∧ (∀ y, y < a (105 + 2) c → a3 (105 + 1) y = a (105 + 1) y) ∧ (∀ u, 0 ≤ u → u < t → a3 (105 + 1) (a (105 + 2) c + u) = a 112 (bs + u)) ∧ a3 108 c = 0 ∧ ∀ y, 0 ≤ y → y < c → a3 108 y = a 108 y + sm (fun t => if a 112 (bs + t) = y then 1 else 0) t.toNat) (Q := fun s => ∃ (f3 : Nat → Nat → Int) (a3 : Nat → Int → Int) (ni3 : Nat → Nat), s = cs f3 d a3 ni3 j ∧ Rw (f3 105 3) (f3 105 2) (ni3 (105 + 1)) (nC0 (105 + 2)) 1024 (a3 (105 + 2)) ∧ f3 105 3 = c ∧ f3 105 2 = a (105 + 2) c + z ∧ (∀ x, x ≠ 105 → f3 x = f x) ∧ (∀ x, x ≠ 105 + 1 → x ≠ 108 → a3 x = A x) ∧ (∀ x, x ≠ 105 + 1 → ni3 x = ni x) ∧ (∀ y, y < a (105 + 2) c → a3 (105 + 1) y = a (105 + 1) y) ∧ (∀ u, 0 ≤ u → u < z → a3 (105 + 1) (a (105 + 2) c + u) = a 112 (bs + u)) ∧ a3 108 c = 0 ∧ ∀ y, 0 ≤ y → y < c → a3 108 y = a 108 y + sm (fun t => if a 112 (bs + t) = y then 1 else 0) z.toNat) z (n := n) (i0 := 0) z0 (by omega) (c0 := (qz 0, cs f d A ni j)) ⟨f, A, ni, rfl, by rw [ox _ (by decide) (by decide) (by decide) (by decide)]; exact H1, H2, by rw [H3]; omega, fun _ _ => rfl, fun _ _ _ => rfl, fun _ _ => rfl, fun y _ => by rw [ox _ (by decide) (by decide) (by decide) (by decide)], fun u u0 u1 => by omega, by rw [o108, v1_s], fun y y0 y1 => by rw [o108, v1_o (by omega)]; exact (Int.add_zero _).symm⟩ ?_ ?_
  · obtain ⟨s, es, f3, a3, ni3, rfl, k1, k2, k3, k4, k5, k6, k7, k8, k9, k10⟩ := lp
    have e107 : a3 (105 + 2) = a (105 + 2) := by rw [k5 _ (by decide) (by decide), ox _ (by decide) (by decide) (by decide) (by decide)]
    obtain ⟨w1, w2⟩ := c_endRow (f := f3) (d := d) (a := a3) (ni := ni3) (j := j) (n := n) (M := 1024) rws_105 k1 (by omega)
    rw [k2, k3, e107] at w2
    rw [k2, k3] at w1
    refine ⟨u2 (u2 f3 105 3 (c + 1)) 103 2 (c + 1), v2 a3 (105 + 2) (c + 1) (a (105 + 2) c + z), ni3, ?_, ⟨?_, ?_, ?_, ?_, by omega⟩, ?_, ?_, ?_, ?_, fun y hy => ?_, fun t t0 t1 => ?_, ?_, fun y y0 y1 => ?_, fun x x1 x2 => ?_, fun x x1 => ?_, fun x x1 x2 x3 x4 x5 x6 => ?_, k6⟩
    · rw [e0, es, bd_some]
      unfold g_X9_addNode_94
      rw [gpc_103_5, w1, bd_some, gf_cs, u2_b (by decide), k4 103 (by decide), H4, zl1, qz_add, wf_cs, bd_some]
    · rw [u2_b (by decide), u2_a, u2_c (by decide), k3, v2_s, e107]
      exact w2
    · rw [u2_b (by decide), u2_a]
    · rw [u2_b (by decide), u2_c (by decide), k3, v2_s, v1_s]
    · rw [u2_a]
    · rw [v2_o (by decide), k5 _ (by decide) (by decide)]; exact o104
    · rw [v2_o (by decide), k5 _ (by decide) (by decide)]; exact o109
    · rw [v2_o (by decide), k5 _ (by decide) (by decide)]; exact o110
    · rw [v2_s, e107]
    · rw [v2_o (by decide)]; exact k7 y hy
    · rw [v2_o (by decide)]; exact k8 t t0 t1
    · rw [v2_o (by decide)]; exact k9
    · rw [v2_o (by decide)]; exact k10 y y0 y1
    · rw [u2_b x1, u2_b x2]; exact k4 x x2
    · rw [u2_c x1, u2_b (by decide), k4 103 (by decide)]
    · rw [v2_o x3, k5 x x2 x4]; exact ox x x1 x4 x5 x6
  · rintro t s t0 t1 ⟨f3, a3, ni3, rfl, k1, k2, k3, k4, k5, k6, k7, k8, k9, k10⟩
    have e112 : a3 112 = a 112 := by rw [k5 _ (by decide) (by decide), ox _ (by decide) (by decide) (by decide) (by decide)]
    obtain ⟨y1, y2⟩ := hs t t0 t1
    obtain ⟨g, N', eg, g1, g2, g3⟩ := c_add (f := f3) (d := d) (a := a3) (ni := ni3) (j := j) (n := n) (x := a 112 (bs + t)) (M := 1024) rws_105 k1 (by omega)
    refine ⟨_, ?_, u2 f3 105 2 (f3 105 2 + 1), v2 (u1 a3 (105 + 1) g) 108 (a 112 (bs + t)) (a3 108 (a 112 (bs + t)) + 1), u1 ni3 (105 + 1) N', rfl, ?_, ?_, ?_, fun x hx => ?_, fun x x1 x2 => ?_, fun x hx => ?_, fun y hy => ?_, fun u u0 u1' => ?_, ?_, fun y y0 y1' => ?_⟩
    · unfold gL_X9_addNode_48 g_X9_addNode_48 g_X9_addNode_70
      simp only [zl1]
      rw [if_neg (by rw [qz_le (by omega) (by omega) (by omega) (by omega)]; omega), gpc_103_10, qz_add, gac_112 (by omega) (by omega), e112, bd_some, gpc_103_5, eg, bd_some, gpc_103_10, gac_112 (by omega) (by omega), u1_o (by decide), e112, bd_some, gpc_103_6, gac_108 y1 (by omega), u1_o (by decide), bd_some, qz_add, uac_108 y1 (by omega), bd_some, qz_add]
    · rw [u2_c (by decide), u2_a, u1_s, v2_o (by decide), u1_o (by decide)]
      exact g3
    · rw [u2_c (by decide)]; exact k2
    · rw [u2_a]; omega
    · rw [u2_b hx]; exact k4 x hx
    · rw [v2_o x2, u1_o x1]; exact k5 x x1 x2
    · rw [u1_o hx]; exact k6 x hx
    · rw [v2_o (by decide), u1_s, g1 y (by omega)]; exact k7 y hy
    · rw [v2_o (by decide), u1_s]
      by_cases e : u = t
      · rw [e, ← k3]; exact g2
      · rw [g1 _ (by omega)]; exact k8 u u0 (by omega)
    · rw [v2_s, v1_o (by omega), u1_o (by decide)]; exact k9
    · rw [v2_s, u1_o (by decide), show (t + 1).toNat = t.toNat + 1 by omega]
      show _ = a 108 y + (sm (fun t => if a 112 (bs + t) = y then 1 else 0) t.toNat + (if a 112 (bs + ((t.toNat : Nat) : Int)) = y then 1 else 0))
      rw [show ((t.toNat : Nat) : Int) = t by omega]
      have := k10 y y0 y1'
      by_cases e : y = a 112 (bs + t)
      · rw [e, v1_s, if_pos rfl, ← e, this]; omega
      · rw [v1_o e, if_neg (fun z => e z.symm), this]; omega
  · rintro s ⟨f3, a3, ni3, rfl, hh⟩
    refine ⟨_, ?_, f3, a3, ni3, rfl, hh⟩
    unfold gL_X9_addNode_48 g_X9_addNode_48
    rw [if_pos (by rw [qz_le (by omega) (by omega) (by omega) (by omega)]; omega)]
end PLA
