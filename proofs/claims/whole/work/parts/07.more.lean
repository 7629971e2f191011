/-! More of the calculus: fewer locals, the native copy, loops of the functions that stand for methods -/
theorem hv_sub {Φ : State → Prop} {G : hp_G} {M : hp_M} {pc : Nat} {lv lv2 : List (Nat × Value)} {st : List Value} {h : hp_H} {sz sl : Nat} {o : hp_O} (ks : List Nat) (hk : lv_pick lv ks = lv2) (k : hp_U Φ G M pc lv2 st h sz sl o) : hp_U Φ G M pc lv st h sz sl o :=
  fun p e R s m args below meth c H locs cells slots ls C hΦ hH hz hl hS hc hs => k p e R s m args below meth c H locs cells slots ls C hΦ hH hz (lv_sub hl ks hk) hS hc hs
def hp_cp (h : hp_H) (a0 : Nat) (sp : Int32) (a : Nat) (dp n : Int32) : Option hp_H := match h a0, h a with
  | some (.inl (t0, n0, f)), some (.inl (t1, n1, g)) => if t0 = 0 ∧ t1 = 0 ∧ 0 ≤ sp.toInt ∧ 0 ≤ dp.toInt ∧ 0 ≤ n.toInt ∧ sp.toInt + n.toInt ≤ (n0 : Int) ∧ dp.toInt + n.toInt ≤ (n1 : Int) then some (hp_w h a (.inl (0, n1, va_cpy f g sp.toNatClampNeg dp.toNatClampNeg n.toNatClampNeg))) else none
  | _, _ => none
theorem hp_cp_spec {h h2 : hp_H} {a0 a : Nat} {sp dp n : Int32} (e : hp_cp h a0 sp a dp n = some h2) : ∃ n0 f n1 g, h a0 = some (.inl (0, n0, f)) ∧ h a = some (.inl (0, n1, g)) ∧ 0 ≤ sp.toInt ∧ 0 ≤ dp.toInt ∧ 0 ≤ n.toInt ∧ sp.toInt + n.toInt ≤ (n0 : Int) ∧ dp.toInt + n.toInt ≤ (n1 : Int) ∧ h2 = hp_w h a (.inl (0, n1, va_cpy f g sp.toNatClampNeg dp.toNatClampNeg n.toNatClampNeg)) := by
  unfold hp_cp at e
  split at e
  · rename_i t0 n0 f t1 n1 g e0 e1
    split at e
    · rename_i hc
      obtain ⟨rfl, rfl, c1, c2, c3, c4, c5⟩ := hc
      exact ⟨n0, f, n1, g, e0, e1, c1, c2, c3, c4, c5, (Option.some.inj e).symm⟩
    · cases e
  · cases e
theorem hp_nn {z : Int32} (hz : 0 ≤ z.toInt) : ¬ z < 0 ∧ z.toInt = (z.toNatClampNeg : Int) := by
  refine ⟨fun q => ?_, ?_⟩
  · have := Int32.lt_iff_toInt_lt.mp q
    rw [Int32.toInt_zero] at this
    omega
  · show z.toInt = ((z.toInt.toNat : Nat) : Int)
    omega
theorem hv_copy {Φ : State → Prop} {G : hp_G} {M : hp_M} {pc : Nat} {lv : List (Nat × Value)} {h h2 : hp_H} {sz sl : Nat} {o : hp_O} {index a0 a : Nat} {sp dp n : Int32} (hw : Cond.methodLink M.1 index arraycopyName ∈ lw_g ∧ Cond.native arraycopyName ∈ lw_g ∧ Cond.static arraycopyName ∈ lw_g ∧ Cond.initialized "java/lang/System" ∈ lw_g)
    (hR : 1 ≤ M.2.2.2.2.1 ∧ nativeFrameWords "java/lang/System" "arraycopy" 5 + 11 ≤ M.2.2.2.2.2.1) (hd : decode M.2.1 pc = .ok (.invokestatic index, 3)) (hw2 : hp_cp h a0 sp a dp n = some h2) (kk : hp_U Φ G M (pc + 3) lv [] h2 sz sl o) : hp_U Φ G M pc lv [.int n, .int dp, .ref a, .int sp, .ref a0] h sz sl o := by
  intro p e R s m args below meth c H locs cells slots ls C hΦ hH hz hl hS hc hs
  obtain ⟨n0, f, n1, g, ha0, ha1, c1, c2, c3, c4, c5, rfl⟩ := hp_cp_spec hw2
  obtain ⟨hb0, -, hc0⟩ := hH a0 _ ha0
  obtain ⟨hb1, -, hc1⟩ := hH a _ ha1
  have hts := C.2.2.2.2.2.1
  have hK := C.2.2.2.2.2.2.2.2.1
  intro T hT X
  obtain ⟨-, k0, hk0, cm0, hkk0⟩ := (hK.2 0 _ rfl).1 n0 (fun j => .int (f j))
  obtain ⟨-, k1, hk1, cm1, hkk1⟩ := (hK.2 0 _ rfl).1 n1 (fun j => .int (g j))
  have e3 := (hp_nn c1).2
  have e4 := (hp_nn c2).2
  have e5 := (hp_nn c3).2
  obtain ⟨vm', X', step⟩ := X.arraycopy C.1 C.2.2.2.2.1 (hts _ hw.1) (hts _ hw.2.1) (hts _ hw.2.2.1) (hts _ hw.2.2.2) (src := a0) (dst := a) (cs := arrV (G.2.2.2 0) n0 (fun j => .int (f j))) (cd := arrV (G.2.2.2 0) n1 (fun j => .int (g j))) (srcPos := sp) (destPos := dp) (n := n) (by rw [hT]; exact hc0) (by rw [hT]; exact hc1)
    (fun _ h => by cases h) (fun _ h => by cases h) (fun h => by cases h) (fun h => by cases h) hk0 hk1 hkk0 hkk1 (by simp [refKind]) (hp_nn c1).1 (hp_nn c2).1 (hp_nn c3).1
    (by rw [arrV_size]; omega)
    (by rw [arrV_size]; omega)
    (fun vm₁ _ i hi => by
      have e : (arrV (G.2.2.2 0) n0 (fun j => .int (f j))).slots.getD (sp.toNatClampNeg + i) .null = .int (f (sp.toNatClampNeg + i)) := by
        rw [Array.getD_eq_getD_getElem?, arrV_read _ _ (by omega)]
        rfl
      refine ⟨?_, ?_⟩
      · rw [e]
        rfl
      · rw [e]
        exact trivial)
    (g := F0 m pc ls [.int n, .int dp, .ref a, .int sp, .ref a0]) rfl (by rw [hl.1, C.2.2.2.1]) (rest := []) rfl (by rw [C.2.1]; exact hd) (by rw [C.2.2.2.2.2.2.2.2.2.2.1]; exact hR.1) (by rw [C.2.2.2.2.2.2.2.2.2.2.2.1]; show 2 * 0 + 0 + _ ≤ _; have := hR.2; omega)
  have e1 : copied (arrV (G.2.2.2 0) n0 (fun j => .int (f j))) (arrV (G.2.2.2 0) n1 (fun j => .int (g j))) sp dp n = arrV (G.2.2.2 0) n1 (fun j => .int (va_cpy f g sp.toNatClampNeg dp.toNatClampNeg n.toNatClampNeg j)) := va_copied (fun z => .int z) (G.2.2.2 0) (G.2.2.2 0) f g (by omega)
  rw [e1] at X' step
  have hla : a < H.size := (Array.getElem?_eq_some_iff.mp hc1).1
  have hheap : ((T.setVm vm').setCell a (arrV (G.2.2.2 0) n1 (fun j => .int (va_cpy f g sp.toNatClampNeg dp.toNatClampNeg n.toNatClampNeg j)))).heap = H.setIfInBounds a (arrV (G.2.2.2 0) n1 (fun j => .int (va_cpy f g sp.toNatClampNeg dp.toNatClampNeg n.toNatClampNeg j))) := by rw [← hT]; rfl
  have oq : ∀ q : Nat, q ≠ a → (H.setIfInBounds a (arrV (G.2.2.2 0) n1 (fun j => .int (va_cpy f g sp.toNatClampNeg dp.toNatClampNeg n.toNatClampNeg j))))[q]? = H[q]? := fun q hq => by simp [Array.getElem?_setIfInBounds, Ne.symm hq]
  obtain ⟨t, a1, b1⟩ := kk p e R s m args below meth c _ _ cells slots ls C hΦ (hH.put hb1 ⟨by decide, (show (H.setIfInBounds a _)[a]? = some _ by simp [Array.getElem?_setIfInBounds, hla])⟩ oq) (by simp; exact hz) hl ⟨by simp; exact hS.1, fun q g1 g2 => by
      rw [oq q (fun e => g2 (by rw [e]; exact hb1))]
      exact hS.2.1 q g1 g2, fun q hq => by
      rcases List.mem_append.mp hq with h | h
      · exact hS.2.2 q h
      · obtain ⟨z, -, hz⟩ := List.mem_map.mp h
        rw [← hz]
        exact hb1⟩ hc hs _ hheap X'
  exact ⟨t, step t a1, b1⟩
/-- the receiver is an object of that class -/
def hp_ck (h : hp_H) (ci a : Nat) : Option Unit := match h a with
  | some (.inr (.inr (c, _))) => if c = ci then some () else none
  | _ => none
theorem hp_ck_spec {h : hp_H} {ci a : Nat} {u : Unit} (e : hp_ck h ci a = some u) : ∃ V, h a = some (.inr (.inr (ci, V))) := by
  unfold hp_ck at e
  split at e
  · rename_i c V he
    split at e
    · rename_i hc
      subst hc
      exact ⟨V, he⟩
    · cases e
  · cases e
def hp_bz (x : Int32) : Option Unit := if x = 0 ∨ x = 1 then some () else none
theorem hp_bz_spec {x : Int32} {u : Unit} (e : hp_bz x = some u) : x = 0 ∨ x = 1 := by
  unfold hp_bz at e
  split at e
  · assumption
  · cases e
theorem hp_bz_nar {x : Int32} (h : x = 0 ∨ x = 1) : narrow .boolean (.int x) = .int x := by rcases h with rfl | rfl <;> rfl
theorem hp_bz_fit {x : Int32} (h : x = 0 ∨ x = 1) : fits .boolean (.int x) = true := by rcases h with rfl | rfl <;> rfl
theorem hp_bd {α β : Type} {x : Option α} {f : α → Option β} {b : β} (h : x.bind f = some b) : ∃ a, x = some a ∧ f a = some b := by
  cases x with
  | none => cases h
  | some a => exact ⟨a, rfl, h⟩
def hp_lp {S X : Type} (b : S → Option (S ⊕ X)) : Nat → S → Option X
  | 0, _ => none
  | n + 1, s => (b s).bind fun r => Sum.elim (fun s2 => hp_lp b n s2) some r
theorem hp_lp_0 {S X : Type} {b : S → Option (S ⊕ X)} {s : S} {x : X} (h : hp_lp b 0 s = some x) : False := by cases h
theorem hp_lp_1 {S X : Type} {b : S → Option (S ⊕ X)} {n : Nat} {s : S} {x : X} (h : hp_lp b (n + 1) s = some x) : ∃ r, b s = some r ∧ ((∃ s2, r = .inl s2 ∧ hp_lp b n s2 = some x) ∨ r = .inr x) := by
  unfold hp_lp at h
  obtain ⟨r, h1, h2⟩ := hp_bd h
  refine ⟨r, h1, ?_⟩
  cases r with
  | inl s2 => exact Or.inl ⟨s2, rfl, h2⟩
  | inr y => exact Or.inr (congrArg Sum.inr (Option.some.inj h2))
