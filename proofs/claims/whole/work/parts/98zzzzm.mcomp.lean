/-! A proof is told in letters: the reference, whole -/
section MCP
variable {n b : Nat} {q S K P len N c k k0 root : Int} {nd nm nu can cn lo ln0 nn0 : Int → Int} {ch : Int → Int → Int} {EV : Int → List Int} {f : Nat → Nat → Int} {a : Nat → Int → Int} {ni : Nat → Nat} {j : Nat → Int → Int64} {F : Nat → Int} {A : Nat → Int → Int} {J : Nat → Int → Int64}
theorem m_z56 {v1' v3 v4 : Int32} (hn : 100000 ≤ n) : ∃ A3, hp_lp (gL_X11_compressed_34 n 0 v1' v3 v4) n (qz 0, ms F A J) = some (ms F A3 J) ∧ (∀ x, 0 ≤ x → x < 200 → A3 56 x = 0) ∧ ∀ x, x ≠ 56 → A3 x = A x := by
  have := lp_inv (b := gL_X11_compressed_34 n 0 v1' v3 v4) (fun i cc => ∃ A3, cc = (qz i, ms F A3 J) ∧ (∀ x, 0 ≤ x → x < i → A3 56 x = 0) ∧ ∀ x, x ≠ 56 → A3 x = A x) (Q := fun x => ∃ A3, x = ms F A3 J ∧ (∀ x, 0 ≤ x → x < 200 → A3 56 x = 0) ∧ ∀ x, x ≠ 56 → A3 x = A x) 200 (n := n) (i0 := 0) (by omega) (by omega) (c0 := (qz 0, ms F A J)) ⟨A, rfl, fun x x0 x1 => by omega, fun _ _ => rfl⟩ (by
    rintro i cc i0 i1 ⟨A3, rfl, h1, h3⟩
    refine ⟨(qz (i + 1), ms F (v2 A3 56 i 0) J), ?_, v2 A3 56 i 0, rfl, ?_, ?_⟩
    · unfold gL_X11_compressed_34 g_X11_compressed_34
      simp only [zl0, zl1, zl200]
      rw [if_neg (by rw [qz_le (by omega) (by omega) (by omega) (by omega)]; omega), gp_78, ua_56 i0 (by omega), bd_some, qz_add]
    · intro x x0 x1
      rw [v2_s]
      by_cases y : x = i
      · rw [y, v1_s]
      · rw [v1_o y]; exact h1 x x0 (by omega)
    · intro x x1
      rw [v2_o x1]; exact h3 x x1) (by
    rintro cc ⟨A3, rfl, h1, h3⟩
    refine ⟨ms F A3 J, ?_, A3, rfl, h1, h3⟩
    unfold gL_X11_compressed_34 g_X11_compressed_34
    simp only [zl200]
    rw [if_pos (by rw [qz_le (by omega) (by omega) (by omega) (by omega)]; omega)])
  obtain ⟨x, h1, A3, rfl, h2, h3⟩ := this
  exact ⟨A3, h1, h2, h3⟩
theorem m_comp (hn : 100000 ≤ n) (hbq : bq b q) (h4 : F 4 = q) (G : BK b q S K P len f a ni j A J) (h0 : 0 ≤ k) (h1 : k < K) (hk : k0 ≤ K) (hK : K ≤ 200) (O : OWN b k a ln0) (D0 : NDS N c nd nm ch nu can cn) (T : RPN N nd ch lo) (E : EVD N nd nu can cn lo ch EV) (hN0 : 0 < N) (hN : N ≤ 1000) (hl : lo (N - 1) = 0) (h50F : F 50 = N) (hA : ∀ x, 0 ≤ x → x < N → 0 ≤ A 47 x ∧ A 47 x ≤ x ∧ 0 ≤ nm (A 47 x) ∧ nu (A 47 x) = nu x) (h50 : ∀ x, 0 ≤ x → x < N → A 50 x = alk nm nu can x) (M : MST N k0 nd nm ch A) (hr : root = A 47 (N - 1)) (hnn : ∀ i, 0 ≤ i → i < c → nn0 i = 0) : ∃ (F2 : Nat → Int) (A2 : Nat → Int → Int), g_X11_compressed n 0 (qz k) (qz root) (ms F A J) = (g_X11_told n 0 (ms F2 A2 J)).bind (fun x => some (x.1, x.2)) ∧ SM ((EV (N - 1)).foldl (oe (fun i => nd (can i)) (fun i => us (fun i => nd (can i)) (fun i t => nu (ch (can i) t)) c i) (lst (nlx q (A 2) (A 8) (A 9)) (fun i => nm (can i)) (ln0, a (b + 20 + 2) (k + 1) - a (b + 20 + 2) k, [40, 32]) c.toNat).1 (fun i => nm (can i))) (nn0, (lst (nlx q (A 2) (A 8) (A 9)) (fun i => nm (can i)) (ln0, a (b + 20 + 2) (k + 1) - a (b + 20 + 2) k, [40, 32]) c.toNat).2.1, (lst (nlx q (A 2) (A 8) (A 9)) (fun i => nm (can i)) (ln0, a (b + 20 + 2) (k + 1) - a (b + 20 + 2) k, [40, 32]) c.toNat).2.2 ++ [41] ++ [32])).2.2 F2 A2 ∧ (∀ x, x ≠ 82 → x ≠ 85 → F2 x = F x) ∧ ∀ x, (x < 52 ∨ x = 57 ∨ x = 59 ∨ 61 ≤ x) → A2 x = A x := by
  obtain ⟨r1, r2, r3, r4, r5, r6, r7, r8, r9⟩ := ev_root D0 T E hN0 hN hl
  obtain ⟨o1, o2⟩ := own_le G h0 h1
  have o3 := own_r G h0 h1 O
  have hRS := ev_rs D0 T E (by omega) (N.toNat + 1) (N - 1) (by omega) (by omega) (by omega)
  obtain ⟨F1, A1, w1, w2, w3, w4, w5, w6, w7⟩ := m_goDown (n := n) (J := J) hn D0 T E hN0 hN hl h50F hA h50 M hr
  generalize hown : a (b + 20 + 2) (k + 1) - a (b + 20 + 2) k = own at *
  generalize hEV : EV (N - 1) = EVR at *
  generalize hnl : nlx q (A 2) (A 8) (A 9) = nl at *
  have hcan : ∀ i, 0 ≤ i → i < c → 0 ≤ can i ∧ can i < 1000 := by
    intro i i0 i1
    obtain ⟨k1, k2, _⟩ := nds_can D0 (by omega) i0 i1
    exact ⟨k1, by omega⟩
  have hinj : ∀ i y, 0 ≤ i → i < c → 0 ≤ y → y < c → can i = can y → i = y := by
    intro i y i0 i1 y0 y1 e
    obtain ⟨_, _, k3, _⟩ := nds_can D0 (by omega) i0 i1
    obtain ⟨_, _, l3, _⟩ := nds_can D0 (by omega) y0 y1
    rw [← k3, e, l3]
  have hlab : ∀ i, 0 ≤ i → i < c → 0 ≤ nm (can i) ∧ nm (can i) < k0 ∧ A 34 (can i) = nm (can i) := by
    intro i i0 i1
    obtain ⟨k1, k2, _, _, _, k6⟩ := nds_can D0 (by omega) i0 i1
    obtain ⟨_, _, _, _, m5, _⟩ := M (can i) k1 k2
    exact ⟨k6, (m5 k6).2, (m5 k6).1⟩
  have hnlx : ∀ y, 0 ≤ y → y < K → ((nl y).length : Int) ≤ 8192 := fun y y0 y1 => by rw [← hnl]; exact (nlx_l G y0 y1).2
  -- the head
  have s0 : SM [] (u1 F1 82 0) A1 := ⟨u1_s, fun x x1 => absurd x1 (Nat.not_lt_zero _)⟩
  obtain ⟨F2, A2, s1, s2, s3, s4⟩ := m_say2 (n := n) (v := 40) (J := J) (by decide) s0
  obtain ⟨F3, A3, t1, t2, t3, t4⟩ := m_say2 (n := n) (v := 32) (J := J) (by decide) s2
  have t2' : SM [40, 32] F3 A3 := t2
  obtain ⟨A4, z1, z2, z3⟩ := m_z56 (n := n) (v1' := qz k) (v3 := qz own) (v4 := qz 0) (F := F3) (A := A3) (J := J) hn
  have eF3 : ∀ x, x ≠ 82 → x ≠ 85 → F3 x = F x := fun x x1 x2 => by rw [t3 x x1, s3 x x1, u1_o x1, w6 x x2]
  have eA3 : ∀ x, (x < 52 ∨ x = 57 ∨ x = 59 ∨ 61 ≤ x) → A3 x = A x := fun x hx => by rw [t4 x (by omega), s4 x (by omega), w7 x (by omega) (by omega) (by omega) (by omega) (by omega)]
  have eA4 : ∀ x, (x < 52 ∨ x = 57 ∨ x = 59 ∨ 61 ≤ x) → A4 x = A x := fun x hx => by rw [z3 x (by omega), eA3 x hx]
  have e31 : ∀ x, x ≠ 58 → A3 x = A1 x := fun x hx => by rw [t4 x hx, s4 x hx]
  have G3 : BK b q S K P len f a ni j A3 J := bk_eq G (fun _ _ _ => rfl) (fun _ _ _ => rfl) (fun _ _ _ => rfl) rfl (fun x x1 x2 => eA3 x (by omega)) ⟨rfl, rfl⟩
  have G4 : BK b q S K P len f a ni j A4 J := bk_eq G (fun _ _ _ => rfl) (fun _ _ _ => rfl) (fun _ _ _ => rfl) rfl (fun x x1 x2 => eA4 x (by omega)) ⟨rfl, rfl⟩
  have e85 : F3 85 = EVR.length := by rw [t3 85 (by decide), s3 85 (by decide), u1_o (by decide), w2]
  have e60 : ats (A4 60) 0 (EVR.map (tcd can)) := by rw [z3 60 (by decide), e31 60 (by decide)]; exact w3
  have e54 : A4 54 = A1 54 := by rw [z3 54 (by decide), e31 54 (by decide)]
  have e55 : A4 55 = A1 55 := by rw [z3 55 (by decide), e31 55 (by decide)]
  have e34 : ∀ i, 0 ≤ i → i < c → A4 34 (can i) = nm (can i) := fun i i0 i1 => by rw [eA4 34 (by omega)]; exact (hlab i i0 i1).2.2
  -- the labels
  obtain ⟨F5, A5, l1, l2, l3, l4, l5⟩ := m_lst (n := n) (J := J) (L0 := [40, 32]) (lab := fun i => nm (can i)) hn hbq h0 h1 O o1 (by omega) o3 (by omega) (by decide) hcan (fun i i0 i1 => by
    obtain ⟨k1, k2, _⟩ := hlab i i0 i1
    exact ⟨k1, by omega, by omega, hnlx _ k1 (by omega)⟩) EVR 0 0 n F3 A4 r5 (by omega) (by omega) (by omega) (by omega) G4 (by rw [eF3 4 (by decide) (by decide)]; exact h4) (by rw [eA4 2 (by omega), eA4 8 (by omega), eA4 9 (by omega)]; exact hnl) (by rw [e85]; omega) e60 e34 (by
    intro x x0 x1
    show ln0 x = _
    rw [z2 x x0 x1]
    split
    · assumption
    · rfl) (by
    show SM [40, 32] F3 A4
    unfold SM at t2' ⊢
    rw [z3 58 (by decide)]
    exact t2')
  obtain ⟨p1, p2, p3, p4, p5⟩ := lst_p (nl := nl) (L0 := [40, 32]) (c := c) (lab := fun i => nm (can i)) o3 o1 (fun y y0 y1 => by
    obtain ⟨k1, k2, _⟩ := hlab y y0 y1
    exact ⟨k1, by omega, hnlx _ k1 (by omega)⟩) c.toNat (by omega)
  rw [show ((c.toNat : Nat) : Int) = c by omega] at p2 p4 p5
  have hL2 : (([40, 32] : List Int).length : Int) = 2 := rfl
  have lst0 : (lst nl (fun i => nm (can i)) (ln0, own, [40, 32]) (0 : Int).toNat).2.1 - own = 0 := by show own - own = 0; omega
  rw [lst0] at l1
  generalize hLL : lst nl (fun i => nm (can i)) (ln0, own, [40, 32]) c.toNat = LL at *
  obtain ⟨F6, A6, u1', u2', u3', u4'⟩ := m_say2 (n := n) (v := 41) (J := J) (by omega) l2
  obtain ⟨F7, A7, x1', x2', x3', x4'⟩ := m_say2 (n := n) (v := 32) (J := J) (by rw [List.length_append]; show ((LL.2.2.length + 1 : Nat) : Int) < _; omega) u2'
  have eA7 : ∀ x, x ≠ 58 → A7 x = A5 x := fun x hx => by rw [x4' x hx, u4' x hx]
  have eA75 : ∀ x, x ≠ 56 → x ≠ 58 → A7 x = A4 x := fun x h1 h2 => by rw [eA7 x h2, l5 x h1 h2]
  have eF7 : ∀ x, x ≠ 82 → F7 x = F3 x := fun x hx => by rw [x3' x hx, u3' x hx, l4 x hx]
  obtain ⟨F8, A8, y1, y2, y3, y4⟩ := m_out (n := n) (J := J) (EVR := EVR) (can := can) (c := c) (sz := fun i => nd (can i)) (usf := fun i => us (fun i => nd (can i)) (fun i t => nu (ch (can i) t)) c i) (lab := fun i => nm (can i)) (lnn := LL.1) (li := LL.2.1 - own) hn hbq h0 h1 O o1 (by omega) (by omega) (by omega) o3 (by omega) hcan hinj (fun i i0 i1 => by
    obtain ⟨k1, k2, _⟩ := hlab i i0 i1
    have g1 := p4 i i0 i1
    have g2 := (p3 _ k1 (by omega)).2
    exact ⟨k1, by omega, g1, by omega⟩) (fun i i0 hi => by
    obtain ⟨pre, post, e⟩ := List.append_of_mem hi
    exact ⟨hRS i i0 hi, r9 pre i post e i0⟩) EVR 0 0 LL.2.1 nn0 (LL.2.2 ++ [41] ++ [32]) n F7 A7 r5 (by omega) (by omega) (by omega) (by omega) (fun e he => he) (by omega) (by omega) (by
    rw [List.length_append, List.length_append]
    show ((LL.2.2.length + 1 + 1 : Nat) : Int) + _ ≤ _
    omega) (bk_eq G (fun _ _ _ => rfl) (fun _ _ _ => rfl) (fun _ _ _ => rfl) rfl (fun x x1 x2 => by rw [eA75 x (by omega) (by omega), eA4 x (by omega)]) ⟨rfl, rfl⟩) (by rw [eF7 4 (by decide), eF3 4 (by decide) (by decide)]; exact h4) (by rw [eF7 85 (by decide), e85]; omega) (by rw [eA75 60 (by decide) (by decide)]; exact e60) (by
    intro i i0 i1
    rw [eA75 34 (by decide) (by decide)]
    exact e34 i i0 i1) (by
    intro x x0 x1
    rw [eA7 56 (by decide)]
    exact l3 x x0 x1) (by
    intro i i0 i1
    obtain ⟨k1, k2, k3, k4, _⟩ := w4 i i0 i1
    have hcq := r8 i i0 i1
    rw [eA75 54 (by decide) (by decide), e54]
    by_cases y : 1 ≤ nd (can i)
    · have e := k1 y
      rw [e]
      refine ⟨?_, k3, k4⟩
      show 2 ≤ 0 + cE i EVR ↔ 1 ≤ nd (can i) ∧ 2 ≤ us (fun i => nd (can i)) (fun i t => nu (ch (can i) t)) c i
      rw [Int.zero_add]
      exact ⟨fun h => ⟨y, hcq.mp h⟩, fun h => hcq.mpr h.2⟩
    · rw [k2 (by omega)]
      refine ⟨?_, by omega, by omega⟩
      show 2 ≤ (0 : Int) ↔ 1 ≤ nd (can i) ∧ 2 ≤ us (fun i => nd (can i)) (fun i t => nu (ch (can i) t)) c i
      exact ⟨fun h => by omega, fun h => absurd h.1 y⟩) (by
    intro i i0 i1
    obtain ⟨k1, k2, _⟩ := nds_can D0 (by omega) i0 i1
    rw [eA75 55 (by decide) (by decide), e55, w5 _ k1 k2, hnn i i0 i1]) (by
    intro i i0 i1
    rw [hnn i i0 i1]
    exact ⟨⟨fun h => by omega, fun h => by omega⟩, by omega, by omega⟩) x2'
  refine ⟨F8, A8, ?_, y2, fun x h1 h2 => by rw [y3 x h1, eF7 x h1, eF3 x h1 h2], fun x hx => by rw [y4 x (by omega) (by omega) (by omega), eA75 x (by omega) (by omega), eA4 x hx]⟩
  unfold g_X11_compressed g_X11_compressed_0
  simp only [zl0, zl32, zl40, zl41]
  rw [w1, bd_some, wf_ms, bd_some, s1, bd_some, t1, bd_some, m_hyps hn G3 hbq (by rw [eF3 4 (by decide) (by decide)]; exact h4) h0 h1, hown, bd_some, z1, bd_some, l1, bd_some]
  show ((g_X11_say n 0 (qz 41) (ms F5 A5 J)).bind fun x10 => (g_X11_say n 0 (qz 32) x10).bind fun x11 => (hp_lp (gL_X11_compressed_165 n 0 (qz k) (qz own) (qz (LL.2.1 - own))) n (qz 0, qz 0, x11)).bind fun x12 => (g_X11_told n 0 x12).bind fun x14 => some (x14.1, x14.2)) = _
  rw [u1', bd_some, x1', bd_some]
  rw [show LL.2.1 - own - (LL.2.1 - own) = 0 by omega] at y1
  rw [y1, bd_some]
end MCP
