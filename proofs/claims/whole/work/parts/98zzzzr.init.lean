/-! The first states of both, and that they are related -/
section INI
def d00 (x : Nat) : Nat := [1, 33, 117, 119, 33, 35, 1, 1, 1, 1, 78].getD x 0
def a00 (i : Nat) (k : Int) : Int := if (i = 4 ∨ i = 36) ∧ k < 256 then -1 else 0
theorem pC_00 : pC d00 = pC0 := by
  funext i k
  unfold pC
  repeat' split
  all_goals first
    | rfl
    | (rename_i h; obtain ⟨rfl, rfl⟩ := h; rfl)
theorem nC_00 : nC nC0 = nC0 := by
  funext i
  unfold nC
  split <;> rfl
theorem a00_q {i : Nat} : (fun (k : Nat) => qz (a00 i k)) = aI0 i := by
  funext k
  unfold a00 aI0
  by_cases h : (i = 4 ∨ i = 36) ∧ k < 256
  · rw [if_pos h, if_pos ⟨h.1, by omega⟩]; rfl
  · rw [if_neg h, if_neg (fun g => h ⟨g.1, by omega⟩)]; rfl
theorem a00_z {i : Nat} (h : i ≠ 4) (h2 : i ≠ 36) : a00 i = fun _ => 0 := by
  funext k
  unfold a00
  rw [if_neg (by omega)]
theorem tc_lt {i : Nat} (h : tC0 i < 99) : i < 121 := by
  by_cases q : i < 121
  · exact q
  · have e : tC0 i = 99 := by
      unfold tC0
      rw [List.getD_eq_getElem?_getD, List.getElem?_eq_none (by simpa using q)]
      rfl
    omega
theorem tm_lt {i : Nat} (h : tM0 i < 99) : i < 61 := by
  by_cases q : i < 61
  · exact q
  · have e : tM0 i = 99 := by
      unfold tM0
      rw [List.getD_eq_getElem?_getD, List.getElem?_eq_none (by simpa using q)]
      rfl
    omega
set_option maxRecDepth 20000 in
theorem tc_ref : ∀ i, i < 121 → 10 ≤ tC0 i → ∀ k, k < nf (tC0 i - 10) → ftag (tC0 i - 10) k ≠ 99 → tC0 (pC0 i k) = ftag (tC0 i - 10) k := by decide +kernel
set_option maxRecDepth 20000 in
theorem tm_ref : ∀ i, i < 61 → 10 ≤ tM0 i → ∀ k, k < nf (tM0 i - 10) → ftag (tM0 i - 10) k ≠ 99 → tM0 (pM0 i k) = ftag (tM0 i - 10) k := by decide +kernel
set_option maxRecDepth 20000 in
theorem tc_15 : ∀ i, i < 121 → tC0 i = 15 → pC0 i 0 = i + 1 := by decide +kernel
/-- the cells hold the state -/
theorem iso_of {tg nn : Nat → Nat} {pp : Nat → Nat → Nat} {aa : Nat → Nat → Int32} {z N : Nat} {h : hp_H} {L : List hp_E} (hg : ∀ i, tg i < 99 → i < N) (hL : L.length = N) (hh : ∀ i, i < N → h (z + i) = L[i]?) (hA : allF (okC tg nn pp aa z) 0 L) (hr : ∀ i, i < N → 10 ≤ tg i → ∀ k, k < nf (tg i - 10) → ftag (tg i - 10) k ≠ 99 → tg (pp i k) = ftag (tg i - 10) k) : iso tg (fun i => z + i) h (fun _ _ => 0, pp, aa, nn, fun _ _ => 0) := by
  have hc : ∀ i, tg i < 99 → ∃ e, h (z + i) = some e ∧ okC tg nn pp aa z i e := by
    intro i hi
    have hN := hg i hi
    obtain ⟨e, h1, h2⟩ := allF_g L 0 hA i (by omega)
    rw [Nat.zero_add] at h2
    exact ⟨e, by rw [hh i hN]; exact h1, h2⟩
  refine ⟨fun i hi => ?_, fun i hi => ?_, fun i c hi hc2 => ?_, fun i k _ _ e => by simpa using e, fun i c k hi hc2 hk hf => ?_⟩
  · obtain ⟨e, h1, h2⟩ := hc i (by omega)
    show h (z + i) = _
    rw [h1, h2.1 hi]
  · obtain ⟨e, h1, h2⟩ := hc i (by omega)
    show h (z + i) = _
    rw [h1, h2.2.1 hi]
  · obtain ⟨e, h1, h2⟩ := hc i (by omega)
    obtain ⟨V, h3, h4⟩ := h2.2.2 c hi
    exact ⟨V, by show h (z + i) = _; rw [h1, h3], h4⟩
  · have e : tg i - 10 = c := by omega
    have := hr i (hg i (by omega)) (by omega) k (by rw [e]; exact hk) (by rw [e]; exact hf)
    rw [e] at this
    exact this
theorem rw_00 {L : Nat} {M : Int} (hM : ∃ i : Nat, (64 : Int) * 2 ^ i = M) (hM2 : 64 ≤ M) (hM3 : M ≤ 65536) (h0 : 0 < L) (h1 : L ≤ 2000) : Rw 0 0 (64 : Nat) L M (fun _ => 0) := ⟨Int.le_refl _, by omega, Int.le_refl _, by omega, by omega, by omega, hM3, h1, hM, rfl, Int.le_refl _, fun _ _ _ _ _ => Int.le_refl _⟩
theorem rel_00 : Rel0 0 1 33 0 0 0 0 0 (fun _ _ => 0) d00 a00 nC0 (fun _ _ => 0) (fun _ => 0) (fun _ _ => 0) (fun _ _ => 0) := by
  have hz : ∀ i, i ≠ 4 → i ≠ 36 → a00 i = fun _ => 0 := fun i h1 h2 => a00_z h1 h2
  have r4 : ∃ i : Nat, (64 : Int) * 2 ^ i = 4096 := ⟨6, by decide⟩
  have r1 : ∃ i : Nat, (64 : Int) * 2 ^ i = 1024 := ⟨4, by decide⟩
  have r3 : ∃ i : Nat, (64 : Int) * 2 ^ i = 32768 := ⟨9, by decide⟩
  have r6 : ∃ i : Nat, (64 : Int) * 2 ^ i = 65536 := ⟨10, by decide⟩
  refine ⟨Or.inl ⟨rfl, rfl⟩, Or.inr ⟨rfl, by decide⟩, rfl, rfl, rfl, Or.inl ⟨rfl, rfl⟩, ?_, fun x x0 x1 => by omega, ?_, ?_, ?_, ?_, rfl, rfl⟩
  · refine ⟨⟨rfl, rfl, rfl, rfl, rfl, rfl, Int.le_refl _, by decide, ?_⟩, ?_, fun k k0 k1 => by omega, fun k k0 k1 => by omega, fun k k0 k1 => by omega, fun k k0 k1 => by omega, fun k k0 k1 => by omega, fun k k0 k1 => by omega, fun k k0 k1 => by omega, ⟨Int.le_refl _, by decide, fun p p0 p1 => by omega⟩, fun k k0 k1 => by omega, fun k k0 k1 => by omega, fun k k0 k1 => by omega, ?_⟩
    · intro x _ _
      rw [hz (1 + 2) (by decide) (by decide)]
      exact ⟨by show (-128 : Int) ≤ 0; decide, by show (0 : Int) < 128; decide⟩
    · refine ⟨Int.le_refl _, by decide, Int.le_refl _, by decide, ⟨by decide, ⟨fun _ => [], fun h h0 h1 => ⟨?_, Int.le_refl _, fun x hx => absurd hx (List.not_mem_nil)⟩, fun x hx => ?_⟩, fun x hx => ?_⟩, fun x hx => ?_, fun x y hx => ?_, fun x x0 x1 => by omega, fun k k0 k1 => by omega⟩
      · show a00 (1 + 3) h = -1
        unfold a00
        rw [if_pos ⟨Or.inl rfl, h1⟩]
      · unfold liv at hx; omega
      · unfold liv at hx; omega
      · unfold liv at hx; omega
      · unfold liv at hx; omega
    · refine ⟨?_, ?_, ?_, ?_, ?_, ?_, rfl, rfl, rfl, rfl, rfl, rfl⟩
      · rw [hz _ (by decide) (by decide)]; exact rw_00 r4 (by decide) (by decide) (by decide) (by decide)
      · rw [hz _ (by decide) (by decide)]; exact rw_00 r4 (by decide) (by decide) (by decide) (by decide)
      · rw [hz _ (by decide) (by decide)]; exact rw_00 r4 (by decide) (by decide) (by decide) (by decide)
      · rw [hz _ (by decide) (by decide)]; exact rw_00 r3 (by decide) (by decide) (by decide) (by decide)
      · rw [hz _ (by decide) (by decide)]; exact rw_00 r6 (by decide) (by decide) (by decide) (by decide)
      · rw [hz _ (by decide) (by decide)]; exact rw_00 r6 (by decide) (by decide) (by decide) (by decide)
  · refine ⟨⟨?_, ?_, ?_, ?_, ?_, ?_⟩, rfl, rfl, Int.le_refl _, by decide, ?_, ⟨Int.le_refl _, by decide, fun x x0 x1 => by omega⟩, fun x x0 x1 => by omega⟩
    · rw [hz _ (by decide) (by decide)]; exact rw_00 r4 (by decide) (by decide) (by decide) (by decide)
    · rw [hz _ (by decide) (by decide)]; exact rw_00 r4 (by decide) (by decide) (by decide) (by decide)
    · rw [hz _ (by decide) (by decide)]; exact rw_00 r4 (by decide) (by decide) (by decide) (by decide)
    · rw [hz _ (by decide) (by decide)]; exact rw_00 r3 (by decide) (by decide) (by decide) (by decide)
    · rw [hz _ (by decide) (by decide)]; exact rw_00 r6 (by decide) (by decide) (by decide) (by decide)
    · rw [hz _ (by decide) (by decide)]; exact rw_00 r6 (by decide) (by decide) (by decide) (by decide)
    · intro x _ _
      rw [hz (33 + 2) (by decide) (by decide)]
      exact ⟨by show (-128 : Int) ≤ 0; decide, by show (0 : Int) < 128; decide⟩
  · exact ⟨rfl, Int.le_refl _, by decide, fun x x0 x1 => absurd x1 (by show ¬(x < 0); omega)⟩
  · refine ⟨?_, rfl, Int.le_refl _, by decide, fun r r0 r1 => absurd r1 (by show ¬(r < 0); omega)⟩
    rw [hz _ (by decide) (by decide)]; exact rw_00 r3 (by decide) (by decide) (by decide) (by decide)
  · refine ⟨?_, ?_, ?_, ?_⟩
    · rw [hz _ (by decide) (by decide)]; exact rw_00 r3 (by decide) (by decide) (by decide) (by decide)
    · rw [hz _ (by decide) (by decide)]; exact rw_00 r6 (by decide) (by decide) (by decide) (by decide)
    · rw [hz _ (by decide) (by decide)]; exact rw_00 r6 (by decide) (by decide) (by decide) (by decide)
    · rw [hz _ (by decide) (by decide)]; exact rw_00 r1 (by decide) (by decide) (by decide) (by decide)
theorem cs_00 : cs (fun _ _ => 0) d00 a00 nC0 (fun _ _ => 0) = (fun _ _ => 0, pC0, aI0, nC0, fun _ _ => 0) := by
  unfold cs
  rw [pC_00, nC_00]
  have e : (fun (i : Nat) (k : Nat) => qz (a00 i k)) = aI0 := by
    funext i
    exact a00_q
  rw [e]
  rfl
theorem ms_00 : ms (fun _ => 0) (fun _ _ => 0) (fun _ _ => 0) = (fun _ _ => 0, pM0, fun _ _ => 0, nM0, fun _ _ => 0) := by
  unfold ms
  have e : (fun (i : Nat) (_ : Nat) => if i = 0 then qz 0 else 0) = fun _ _ => (0 : Int32) := by
    funext i k
    split <;> rfl
  rw [e]
  rfl
theorem init_ok : InitOk Rel tC0 tM0 549888 := by
  intro n sz hn
  have h0 : (fun _ => none : hp_H) = hl sz [] := by
    funext q
    unfold hl
    split <;> rfl
  have e0 : hp_nw (fun _ => none) sz 10 tyX10 = hl sz ([] ++ ob 10 (fun k => defaultValue (tyX10 k)) :: []) := by
    rw [h0]
    exact hl_push (by simp)
  have e1 := i_X10 (z := sz) (n := n) (sz := sz + 1) (sl := 0 + 11) (A := []) (S := []) (V := fun k => defaultValue (tyX10 k)) (by simp) hn
  generalize hL : ob 10 (wX10 (fun k => defaultValue (tyX10 k)) (sz + 1)) :: eX10 (sz + 1) = L1
  have hlen : L1.length = 121 := by
    rw [← hL]
    show (eX10 (sz + 1)).length + 1 = 121
    rw [eX10_len]
  have e2 : ∀ sl, f_X11_init n (sz + 121) (hp_nw (hl sz L1) (sz + 121) 11 tyX11) (sz + 121 + 1) sl = some (hl sz (L1 ++ ob 11 (wX11 (fun k => defaultValue (tyX11 k)) (sz + 121 + 1)) :: eX11), sz + 121 + 1 + 60, sl + 256882) := by
    intro sl
    have e := i_X11 (z := sz) (n := n) (sz := sz + 121 + 1) (sl := sl) (A := L1) (S := []) (V := fun k => defaultValue (tyX11 k)) (by rw [hlen]; rfl)
    rw [hlen] at e
    rw [show hp_nw (hl sz L1) (sz + 121) 11 tyX11 = hl sz (L1 ++ ob 11 (fun k => defaultValue (tyX11 k)) :: []) from hl_push (by rw [hlen])]
    exact e
  have hM := allM (sz + 121)
  generalize hL2 : ob 11 (wX11 (fun k => defaultValue (tyX11 k)) (sz + 121 + 1)) :: eX11 = L2 at *
  have hlen2 : L2.length = 61 := by
    rw [← hL2]
    rfl
  have hC := allC sz
  rw [hL] at hC
  obtain ⟨sl1, e1', hsl⟩ : ∃ sl1, f_X10_init n sz (hp_nw (fun _ => none) sz 10 tyX10) (sz + 1) (0 + 11) = some (hl sz L1, sz + 121, sl1) ∧ sl1 ≤ 1000000 := by
    rw [e0]
    have e1b := e1
    rw [List.nil_append, List.nil_append, List.nil_append, hL] at e1b
    exact ⟨_, e1b, by omega⟩
  refine ⟨hl sz L1, sz + 121, sl1, hl sz (L1 ++ L2), sz + 121 + 1 + 60, sl1 + 86 + 256882, cs (fun _ _ => 0) d00 a00 nC0 (fun _ _ => 0), ms (fun _ => 0) (fun _ _ => 0) (fun _ _ => 0), sz + 182, sl1 + 86 + 256882, e1', e2 _, ?_, ⟨0, 1, 33, 0, 0, 0, 0, 0, _, d00, a00, nC0, _, _, _, _, rfl, rfl, rel_00⟩, by omega, by omega⟩
  rw [cs_00, ms_00]
  have gC : ∀ i, i < 121 → hl sz (L1 ++ L2) (sz + i) = L1[i]? := by
    intro i hi
    unfold hl
    rw [if_neg (by omega), show sz + i - sz = i by omega, List.getElem?_append_left (by omega)]
  have gM : ∀ i, i < 61 → hl sz (L1 ++ L2) (sz + 121 + i) = L2[i]? := by
    intro i hi
    unfold hl
    rw [if_neg (by omega), show sz + 121 + i - sz = 121 + i by omega, List.getElem?_append_right (by omega), hlen, show 121 + i - 121 = i by omega]
  have hiC := iso_of (fun i hi => tc_lt hi) hlen gC hC tc_ref
  have hiM := iso_of (fun i hi => tm_lt hi) hlen2 gM hM tm_ref
  refine ⟨fun i => sz + i, fun i => sz + 121 + i, ⟨hiC, fun _ _ => rfl, fun i hi => ?_, fun _ _ _ => rfl, Nat.le_refl _, fun _ _ => Or.inl rfl, ⟨by omega, by omega⟩, fun i k hi hk e => ?_, fun i hi => ?_⟩, hiM, fun k hk => ?_, fun i k hi hk => ?_, rfl, rfl, rfl, rfl⟩
  · have := tc_lt hi
    show sz + i < sz + 121 + 1 + 60
    omega
  · have e1 := tc_15 i (tc_lt (by omega)) hi
    have e2 := tc_15 k (tc_lt (by omega)) hk
    have e' : pC0 i 0 = pC0 k 0 := e
    omega
  · have := tc_lt (i := i) (by omega)
    omega
  · have := tm_lt hk
    show sz + 121 + k < sz + 121 + 1 + 60
    omega
  · have := tc_lt hi
    show sz + i ≠ sz + 121 + k
    omega
/-- what the row lists may grow to -/
def capC (i : Nat) : Nat := if i = 13 ∨ i = 16 ∨ i = 19 ∨ i = 45 ∨ i = 48 ∨ i = 51 then 4096 else if i = 22 ∨ i = 54 ∨ i = 85 ∨ i = 95 then 32768 else if i = 106 then 1024 else 65536
theorem sum_le {g h : Nat → Nat} (l : List Nat) (e : ∀ x, g x ≤ h x) : (l.map g).sum ≤ (l.map h).sum := by
  induction l with
  | nil => exact Nat.le_refl _
  | cons x xs ih =>
    simp only [List.map_cons, List.sum_cons]
    have := e x
    omega
set_option maxRecDepth 20000 in
theorem cap_all : ((List.range 300).map fun i => if tC0 i = 4 then capC i else 0).sum = 549888 := by decide +kernel
set_option maxRecDepth 20000 in
theorem tc_4 : ∀ i, i < 121 → tC0 i = 4 → i ∈ [13, 16, 19, 22, 25, 28, 45, 48, 51, 54, 57, 60, 85, 88, 95, 98, 106] := by decide +kernel
theorem rw_le {r u : Int} {N L : Nat} {M : Int} {st : Int → Int} (h : Rw r u N L M st) : (N : Int) ≤ M := h.2.2.2.2.2.1
theorem pt_rel (sC sM : st_T) (R : Rel sC sM) : pt tC0 sC.2.2.2.1 ≤ 549888 := by
  obtain ⟨q, b, b2, S, K, P, len, dl, f, d, a, ni, j, F, A, J, rfl, rfl, R0⟩ := R
  obtain ⟨r1, r2, r3, r4, r5, r6, r7, r8, r9, r10, r11, r12, r13, r14⟩ := R0
  have w1 := grw_rwa r7.2.2.2.2.2.2.2.2.2.2.2.2.2
  have w2 := r9.1
  have hb : (b = 1 ∧ b2 = 33) ∨ (b = 33 ∧ b2 = 1) := by
    unfold bq at r1 r2
    omega
  have w : RwA 1 f a ni ∧ RwA 33 f a ni := by
    rcases hb with ⟨rfl, rfl⟩ | ⟨rfl, rfl⟩
    · exact ⟨w1, w2⟩
    · exact ⟨w2, w1⟩
  obtain ⟨⟨a1, a2, a3, a4, a5, a6⟩, ⟨b1, b2', b3, b4, b5, b6⟩⟩ := w
  obtain ⟨m1, m2, m3, m4⟩ := r12
  have t1 := r11.1
  have hcap : ∀ i, tC0 i = 4 → ni i ≤ capC i := by
    intro i hi
    have a1 := rw_le a1
    have a2 := rw_le a2
    have a3 := rw_le a3
    have a4 := rw_le a4
    have a5 := rw_le a5
    have a6 := rw_le a6
    have b1 := rw_le b1
    have b2 := rw_le b2'
    have b3 := rw_le b3
    have b4 := rw_le b4
    have b5 := rw_le b5
    have b6 := rw_le b6
    have m1 := rw_le m1
    have m2 := rw_le m2
    have m3 := rw_le m3
    have m4 := rw_le m4
    have t1 := rw_le t1
    have hi2 := tc_4 i (tc_lt (by omega)) hi
    simp only [List.mem_cons, List.not_mem_nil, or_false] at hi2
    rcases hi2 with rfl | rfl | rfl | rfl | rfl | rfl | rfl | rfl | rfl | rfl | rfl | rfl | rfl | rfl | rfl | rfl | rfl
    · exact Int.ofNat_le.mp a1
    · exact Int.ofNat_le.mp a2
    · exact Int.ofNat_le.mp a3
    · exact Int.ofNat_le.mp a4
    · exact Int.ofNat_le.mp a5
    · exact Int.ofNat_le.mp a6
    · exact Int.ofNat_le.mp b1
    · exact Int.ofNat_le.mp b2
    · exact Int.ofNat_le.mp b3
    · exact Int.ofNat_le.mp b4
    · exact Int.ofNat_le.mp b5
    · exact Int.ofNat_le.mp b6
    · exact Int.ofNat_le.mp m1
    · exact Int.ofNat_le.mp m2
    · exact Int.ofNat_le.mp t1
    · exact Int.ofNat_le.mp m3
    · exact Int.ofNat_le.mp m4
  rw [← cap_all]
  unfold pt
  apply sum_le
  intro x
  show (if tC0 x = 4 then nC ni x else 0) ≤ _
  by_cases h : tC0 x = 4
  · rw [if_pos h, if_pos h]
    unfold nC
    rw [if_pos h]
    exact hcap x h
  · rw [if_neg h, if_neg h]
    exact Nat.le_refl _
end INI
