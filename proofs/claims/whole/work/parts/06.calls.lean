/-! Making, ending, calling -/
theorem hp_wordsOk : lw_g.all goodWord = true := List.all_eq_true.mpr fun _ h => (List.mem_filter.mp h).2
theorem hp_good {y : MethodName} {b : ByteArray} {n : Nat} {r : Option FieldType} (hc : Cond.code y b n r ∈ lw_g) : GoodIn lw_g (.code y b n r :: lw_g) := by
  have key : ∀ w ∈ lw_g, w ∈ lw_g ∧ ((w.onTables && w.keeps) = true ∨ ∃ ty, w = .arrayClass ty) := fun w hw => ⟨hw, good_of_word (List.all_eq_true.mp hp_wordsOk w hw)⟩
  intro w hw
  rcases List.mem_cons.mp hw with rfl | h1
  · exact key _ hc
  · exact key _ h1
def hp_nw (h : hp_H) (sz : Nat) (ci : Nat) (ty : Nat → FieldType) : hp_H := hp_w h sz (.inr (.inr (ci, fun k => defaultValue (ty k))))
def hp_na (h : hp_H) (sz : Nat) (t n : Nat) : hp_H := hp_w h sz (.inl (t, n, fun _ => 0))
def hp_nj (h : hp_H) (sz : Nat) (n : Nat) : hp_H := hp_w h sz (.inr (.inl (n, fun _ => 0)))
/-- what a method is, by the tables' words -/
def hp_Y (y : MethodName) (M : hp_M) (n : Nat) : Prop :=
  Cond.code y M.2.1 M.2.2.1 M.2.2.2.1 ∈ lw_g ∧ Cond.initialized y.cls ∈ lw_g ∧ (y.cls ≠ "java/lang/invoke/MethodHandle" ∧ y.cls ≠ "java/lang/invoke/VarHandle" ∧ (parseMethodDescriptor y.desc).map (fun d => d.parameters.length) = some n)
section HPC
variable {Φ : State → Prop} {G : hp_G} {M : hp_M} {pc : Nat} {lv : List (Nat × Value)} {st : List Value} {h h2 : hp_H} {sz sl : Nat} {o : hp_O}
theorem hv_new {index ci N : Nat} {C : String} {T : u_T} {ty : Nat → FieldType} (hF : hp_CL ci C T N ty) (hw : Cond.classLink M.1 index C ∈ lw_g ∧ Cond.instantiable C N ∈ lw_g ∧ Cond.initialized C ∈ lw_g) (hd : decode M.2.1 pc = .ok (.new index, 3)) (h1 : sz + 1 ≤ o.2.2.1) (h3 : sl + N ≤ o.2.2.2) (kk : hp_U Φ G M (pc + 3) lv (.ref sz :: st) (hp_nw h sz ci ty) (sz + 1) (sl + N) o) : hp_U Φ G M pc lv st h sz sl o := by
  intro p e R s m args below meth c H locs cells slots ls C0 hΦ hH hz hl hS hc hs
  obtain ⟨g1, g2, g3, g4⟩ := hF
  have hts := C0.2.2.2.2.2.1
  have hKn := C0.2.2.2.2.2.2.2.2.1.1 ci _ g1
  refine W.newcK C0.1 C0.2.1 C0.2.2.2.2.1 (hts _ hw.1) (hts _ hw.2.1) (hts _ hw.2.2) rfl hd (by omega) (by omega) hKn.2.1 hz fun H1 kC hkC e1 z1 o1 => ?_
  subst hz
  refine kk p e R s m args below meth c H1 locs (cells + 1) (slots + N) ls C0 hΦ (hH.push (Nat.le_trans C0.2.2.2.2.2.2.2.2.2.1 hS.1) ⟨_, g1, u_born ty hts g2 hKn hkC e1 g3⟩ o1) z1 hl ⟨by have := hS.1; omega, fun q q1 q2 => by rw [o1 q (Nat.lt_of_lt_of_le q1 hS.1)]; exact hS.2.1 q q1 q2, hS.2.2⟩ (by omega) (by omega)
theorem hp_na_eq {cA : ClassId} {n : Nat} (ty : FieldType) (hty : defaultValue ty = .int 0) : arrV cA n (fun _ => defaultValue ty) = arrV cA n (fun _ => .int 0) := by rw [hty]
theorem hp_nI {n : Int32} {N : Nat} (hn : n.toInt = (N : Int)) : ¬ n < 0 ∧ n.toNatClampNeg = N := by
  refine ⟨fun q => ?_, ?_⟩
  · have := Int32.lt_iff_toInt_lt.mp q
    rw [Int32.toInt_zero] at this
    omega
  · show n.toInt.toNat = N
    omega
theorem hv_newI {n : Int32} {N : Nat} (hw : Cond.arrayClass .int ∈ lw_g) (hn : n.toInt = (N : Int)) (hN : N ≤ 1000000) (hd : decode M.2.1 pc = .ok (.newarray .int, 2)) (h1 : sz + 1 ≤ o.2.2.1) (h3 : sl + N ≤ o.2.2.2) (kk : hp_U Φ G M (pc + 2) lv (.ref sz :: st) (hp_na h sz 0 N) (sz + 1) (sl + N) o) : hp_U Φ G M pc lv (.int n :: st) h sz sl o := by
  intro p e R s m args below meth c H locs cells slots ls C0 hΦ hH hz hl hS hc hs
  have hts := C0.2.2.2.2.2.1
  have hK := C0.2.2.2.2.2.2.2.2.1
  refine va_newaK (atype := .int) C0.1 C0.2.1 (hts _ hw) rfl hd rfl (hp_nI hn).1 (hp_nI hn).2 (by show N * componentBytes .int ≤ _; simp [componentBytes]; omega) (by omega) (by omega) hz fun H1 cA e1 z1 o1 hAr hNm => ?_
  have hcA : cA = G.2.2.2 0 := Option.some.inj (hNm.symm.trans (hK.2 0 _ rfl).2)
  subst hcA
  subst hz
  exact kk p e R s m args below meth c H1 locs (cells + 1) (slots + N) ls C0 hΦ (hH.push (Nat.le_trans C0.2.2.2.2.2.2.2.2.2.1 hS.1) ⟨by decide, e1⟩ o1) z1 hl ⟨by have := hS.1; omega, fun q q1 q2 => by rw [o1 q (Nat.lt_of_lt_of_le q1 hS.1)]; exact hS.2.1 q q1 q2, hS.2.2⟩ (by omega) (by omega)
theorem hv_newB {n : Int32} {N : Nat} (hw : Cond.arrayClass .byte ∈ lw_g) (hn : n.toInt = (N : Int)) (hN : N ≤ 1000000) (hd : decode M.2.1 pc = .ok (.newarray .byte, 2)) (h1 : sz + 1 ≤ o.2.2.1) (h3 : sl + N ≤ o.2.2.2) (kk : hp_U Φ G M (pc + 2) lv (.ref sz :: st) (hp_na h sz 1 N) (sz + 1) (sl + N) o) : hp_U Φ G M pc lv (.int n :: st) h sz sl o := by
  intro p e R s m args below meth c H locs cells slots ls C0 hΦ hH hz hl hS hc hs
  have hts := C0.2.2.2.2.2.1
  have hK := C0.2.2.2.2.2.2.2.2.1
  refine va_newaK (atype := .byte) C0.1 C0.2.1 (hts _ hw) rfl hd rfl (hp_nI hn).1 (hp_nI hn).2 (by show N * componentBytes .byte ≤ _; simp [componentBytes]; omega) (by omega) (by omega) hz fun H1 cA e1 z1 o1 hAr hNm => ?_
  have hcA : cA = G.2.2.2 1 := Option.some.inj (hNm.symm.trans (hK.2 1 _ rfl).2)
  subst hcA
  subst hz
  exact kk p e R s m args below meth c H1 locs (cells + 1) (slots + N) ls C0 hΦ (hH.push (Nat.le_trans C0.2.2.2.2.2.2.2.2.2.1 hS.1) ⟨by decide, e1⟩ o1) z1 hl ⟨by have := hS.1; omega, fun q q1 q2 => by rw [o1 q (Nat.lt_of_lt_of_le q1 hS.1)]; exact hS.2.1 q q1 q2, hS.2.2⟩ (by omega) (by omega)
theorem hv_newZ {n : Int32} {N : Nat} (hw : Cond.arrayClass .boolean ∈ lw_g) (hn : n.toInt = (N : Int)) (hN : N ≤ 1000000) (hd : decode M.2.1 pc = .ok (.newarray .boolean, 2)) (h1 : sz + 1 ≤ o.2.2.1) (h3 : sl + N ≤ o.2.2.2) (kk : hp_U Φ G M (pc + 2) lv (.ref sz :: st) (hp_na h sz 2 N) (sz + 1) (sl + N) o) : hp_U Φ G M pc lv (.int n :: st) h sz sl o := by
  intro p e R s m args below meth c H locs cells slots ls C0 hΦ hH hz hl hS hc hs
  have hts := C0.2.2.2.2.2.1
  have hK := C0.2.2.2.2.2.2.2.2.1
  refine va_newaK (atype := .boolean) C0.1 C0.2.1 (hts _ hw) rfl hd rfl (hp_nI hn).1 (hp_nI hn).2 (by show N * componentBytes .boolean ≤ _; simp [componentBytes]; omega) (by omega) (by omega) hz fun H1 cA e1 z1 o1 hAr hNm => ?_
  have hcA : cA = G.2.2.2 2 := Option.some.inj (hNm.symm.trans (hK.2 2 _ rfl).2)
  subst hcA
  subst hz
  exact kk p e R s m args below meth c H1 locs (cells + 1) (slots + N) ls C0 hΦ (hH.push (Nat.le_trans C0.2.2.2.2.2.2.2.2.2.1 hS.1) ⟨by decide, e1⟩ o1) z1 hl ⟨by have := hS.1; omega, fun q q1 q2 => by rw [o1 q (Nat.lt_of_lt_of_le q1 hS.1)]; exact hS.2.1 q q1 q2, hS.2.2⟩ (by omega) (by omega)
theorem hv_newJ {n : Int32} {N : Nat} (hw : Cond.arrayClass .long ∈ lw_g) (hn : n.toInt = (N : Int)) (hN : N ≤ 1000000) (hd : decode M.2.1 pc = .ok (.newarray .long, 2)) (h1 : sz + 1 ≤ o.2.2.1) (h3 : sl + N ≤ o.2.2.2) (kk : hp_U Φ G M (pc + 2) lv (.ref sz :: st) (hp_nj h sz N) (sz + 1) (sl + N) o) : hp_U Φ G M pc lv (.int n :: st) h sz sl o := by
  intro p e R s m args below meth c H locs cells slots ls C0 hΦ hH hz hl hS hc hs
  have hts := C0.2.2.2.2.2.1
  have hK := C0.2.2.2.2.2.2.2.2.1
  refine va_newaK (atype := .long) C0.1 C0.2.1 (hts _ hw) rfl hd rfl (hp_nI hn).1 (hp_nI hn).2 (by show N * componentBytes .long ≤ _; simp [componentBytes]; omega) (by omega) (by omega) hz fun H1 cA e1 z1 o1 hAr hNm => ?_
  have hcA : cA = G.2.2.2 3 := Option.some.inj (hNm.symm.trans (hK.2 3 _ rfl).2)
  subst hcA
  subst hz
  exact kk p e R s m args below meth c H1 locs (cells + 1) (slots + N) ls C0 hΦ (hH.push (Nat.le_trans C0.2.2.2.2.2.2.2.2.2.1 hS.1) e1 o1) z1 hl ⟨by have := hS.1; omega, fun q q1 q2 => by rw [o1 q (Nat.lt_of_lt_of_le q1 hS.1)]; exact hS.2.1 q q1 q2, hS.2.2⟩ (by omega) (by omega)
theorem hv_iret {v : Int32} (hr : M.2.2.2.1 = some .int) (hd : decode M.2.1 pc = .ok (.ireturn, 1)) : hp_U Φ G M pc lv [.int v] h sz sl (some (.int v), h, sz, sl) := by
  intro p e R s m args below meth c H locs cells slots ls C hΦ hH hz hl hS hc hs
  refine W.widen (k := R.cells) (n := R.slots) (by simp at hc; omega) (by simp at hs; omega) ?_
  exact W.iret (v := v) C.1 C.2.1 (C.2.2.1.trans hr) (fun t ht hW => ⟨⟨rfl, by rw [ht]; exact hH, by rw [ht]; exact hz, va_K.moved hW.alike C.2.2.2.2.2.2.2.2.1, hp_N.warm hW C.2.2.2.2.2.2.2.2.2.2.2.2⟩, hS.F ht⟩) hS.2.2 hd C.2.2.2.2.2.2.1
theorem hv_zret {v : Int32} (hr : M.2.2.2.1 = some .boolean) (hv : v = 0 ∨ v = 1) (hd : decode M.2.1 pc = .ok (.ireturn, 1)) : hp_U Φ G M pc lv [.int v] h sz sl (some (.int v), h, sz, sl) := by
  intro p e R s m args below meth c H locs cells slots ls C hΦ hH hz hl hS hc hs
  refine W.widen (k := R.cells) (n := R.slots) (by simp at hc; omega) (by simp at hs; omega) ?_
  exact W.zret (v := v) C.1 C.2.1 (C.2.2.1.trans hr) (by rcases hv with rfl | rfl <;> rfl) (fun t ht hW => ⟨⟨rfl, by rw [ht]; exact hH, by rw [ht]; exact hz, va_K.moved hW.alike C.2.2.2.2.2.2.2.2.1, hp_N.warm hW C.2.2.2.2.2.2.2.2.2.2.2.2⟩, hS.F ht⟩) hS.2.2 hd C.2.2.2.2.2.2.1
theorem hv_vret (hr : M.2.2.2.1 = none) (hd : decode M.2.1 pc = .ok (.return_, 1)) : hp_U Φ G M pc lv [] h sz sl (none, h, sz, sl) := by
  intro p e R s m args below meth c H locs cells slots ls C hΦ hH hz hl hS hc hs
  refine W.widen (k := R.cells) (n := R.slots) (by simp at hc; omega) (by simp at hs; omega) ?_
  exact W.vret C.1 C.2.1 (C.2.2.1.trans hr) (fun t ht hW => ⟨⟨rfl, by rw [ht]; exact hH, by rw [ht]; exact hz, va_K.moved hW.alike C.2.2.2.2.2.2.2.2.1, hp_N.warm hW C.2.2.2.2.2.2.2.2.2.2.2.2⟩, hS.F ht⟩) hS.2.2 hd C.2.2.2.2.2.2.1
theorem hv_aret {a : Nat} {rt : FieldType} (hr : M.2.2.2.1 = some rt) (hrt : (∃ n, rt = .object n) ∨ ∃ t, rt = .array t) (hd : decode M.2.1 pc = .ok (.areturn, 1)) : hp_U Φ G M pc lv [.ref a] h sz sl (some (.ref a), h, sz, sl) := by
  intro p e R s m args below meth c H locs cells slots ls C hΦ hH hz hl hS hc hs
  refine W.widen (k := R.cells) (n := R.slots) (by simp at hc; omega) (by simp at hs; omega) ?_
  exact W.aret C.1 C.2.1 (C.2.2.1.trans hr) hrt (Or.inr ⟨a, rfl⟩) (fun t ht hW => ⟨⟨rfl, by rw [ht]; exact hH, by rw [ht]; exact hz, va_K.moved hW.alike C.2.2.2.2.2.2.2.2.1, hp_N.warm hW C.2.2.2.2.2.2.2.2.2.2.2.2⟩, hS.F ht⟩) hS.2.2 hd C.2.2.2.2.2.2.1
theorem hv_objInit {index a : Nat} (hw : Cond.methodLink M.1 index Lib.objectInit ∈ lw_g ∧ Cond.instanceMethod Lib.objectInit ∈ lw_g ∧ Cond.code Lib.objectInit ⟨#[0xb1]⟩ 1 none ∈ lw_g) (hR : 1 ≤ M.2.2.2.2.1 ∧ 12 ≤ M.2.2.2.2.2.1) (hd : decode M.2.1 pc = .ok (.invokespecial index, 3)) (k : hp_U Φ G M (pc + 3) lv [] h sz sl o) : hp_U Φ G M pc lv [.ref a] h sz sl o := by
  intro p e R s m args below meth c H locs cells slots ls C hΦ hH hz hl hS hc hs
  have hts := C.2.2.2.2.2.1
  exact W.objInit C.1 C.2.1 C.2.2.2.2.1 (hts _ hw.1) (hts _ hw.2.1) (hts _ hw.2.2) rfl (hl.1.trans C.2.2.2.1.symm) rfl hd (by rw [C.2.2.2.2.2.2.2.2.2.2.1]; exact hR.1) (by rw [C.2.2.2.2.2.2.2.2.2.2.2.1]; exact hR.2) (k p e R s m args below meth c H locs cells slots ls C hΦ hH hz hl hS hc hs)
theorem hp_blind {as : List Value} : FrameBlind (va_Pc as (fun U => U.heap.size = sz ∧ hp_ok G h U.heap ∧ hp_K G U ∧ G.2.1 ≤ sz ∧ hp_N U)) := by
  intro a U g mk q
  obtain ⟨q0, q1, q2, q3, q4, q5⟩ := q
  exact ⟨q0, q1, q2, va_K.moved (u := U) (U := U.calling g mk a) (Vm.Alike.refl U.vm) q3, q4, hp_N.same (s := U) rfl q5⟩
/-- behind a call -/
theorem hv_behind {p : Program} {e : Env} {R : Room} {s : State} {m : MethodId} {args : Array Value} {below : List Frame} {meth : Method} {c : Code} {H : Heap} {locs : List Loc} {cells slots : Nat} {ls : Array Slot} {o1 : hp_O} {rest st0 : List Value} {a : Array Value}
    (hr : va_Run p G.1 e R s m args below meth c H locs cells slots (o1.2.2.1 - sz) (o1.2.2.2 - sl) (F0 m pc ls st0) rest (hp_Q G o1 a) (hp_A G))
    (C : hp_Cx G M p R s m args meth c) (hΦ : Φ s) (hl : lv_has ls M.2.2.1 lv) (hS : va_S (hp_A G) s.heap H locs) (h1 : sz ≤ o1.2.2.1) (h3 : sl ≤ o1.2.2.2)
    (hc : cells + o.2.2.1 ≤ R.cells + sz) (hs : slots + o.2.2.2 ≤ R.slots + sl) (k : hp_U Φ G M (pc + 3) lv (o1.1.toList ++ rest) o1.2.1 o1.2.2.1 o1.2.2.2 o) :
    W p G.1 e R s m args below meth c H locs cells slots (MQ below (hp_Q G o) args s R.cells R.slots (hp_A G)) (F0 m pc ls st0) := by
  intro T hT X
  obtain ⟨v, st₀, t, T', L, h0, X', hL, e1, e2, ⟨⟨hv, hH1, hz1, hK1, hN1⟩, hz, hk⟩, stp⟩ := hr T hT X
  cases hv
  rw [h0] at hz hk
  obtain ⟨t2, a1, b1⟩ := k p e R s m args below meth c T'.heap (locs ++ L) (cells + (o1.2.2.1 - sz)) (slots + (o1.2.2.2 - sl)) ls C hΦ (by rw [e1]; exact hH1) (by rw [e1]; exact hz1) hl
    ⟨Nat.le_trans hS.1 (by rw [e1]; exact hz), fun q q1 q2 => by rw [e1, hk q (Nat.lt_of_lt_of_le q1 hS.1) q2]; exact hS.2.1 q q1 q2, fun q hq => by
      rcases List.mem_append.mp hq with g | g
      · exact hS.2.2 q g
      · exact hL q g⟩ (by omega) (by omega) T' rfl X'
  exact ⟨t2, stp t2 a1, b1⟩
theorem hv_callV {index b ci n : Nat} {As rest : List Value} {y : MethodName} {M1 : hp_M} {o1 : hp_O} {V : Nat → Value} {T : u_T} {N : Nat} (hY : hp_Y y M1 n) (hI : Cond.instanceMethod y ∈ lw_g ∧ Cond.selects y.cls y y ∈ lw_g) (hL : Cond.methodLink M.1 index y ∈ lw_g) (hc1 : hp_cl[ci]? = some (y.cls, T, N))
    (hb : h b = some (.inr (.inr (ci, V)))) (hC : hp_C G M1 y (.ref b :: As) h sz sl o1) (hn : As.length = n) (hrest : (rest.map fun v => v.category).sum ≤ 8) (hR : M1.2.2.2.2.1 + 1 ≤ M.2.2.2.2.1 ∧ 8 + (M1.2.2.1 + 11) + M1.2.2.2.2.2.1 ≤ M.2.2.2.2.2.1)
    (h1 : o1.2.2.1 ≤ o.2.2.1) (h3 : o1.2.2.2 ≤ o.2.2.2) (hst : st = As.reverse ++ .ref b :: rest) (hd : decode M.2.1 pc = .ok (.invokevirtual index, 3)) (k : hp_U Φ G M (pc + 3) lv (o1.1.toList ++ rest) o1.2.1 o1.2.2.1 o1.2.2.2 o) : hp_U Φ G M pc lv st h sz sl o := by
  intro p e R s m args below meth c H locs cells slots ls C hΦ hH hz hl hS hc hs
  obtain ⟨hCz, hCs, hM⟩ := hC
  have hts := C.2.2.2.2.2.1
  have hK := C.2.2.2.2.2.2.2.2.1
  subst hst
  refine hv_behind (va_runV (g := F0 m pc ls (As.reverse ++ .ref b :: rest)) (n := n) (C := y.cls) ⟨C.1, C.2.1, C.2.2.2.1, C.2.2.2.2.1, hts⟩ hM ⟨callB_of n hts (hp_good hY.1) rfl rfl rfl (hts _ hY.2.1) (hts _ hL) hY.2.2 (by rw [C.2.2.2.2.2.2.2.2.2.2.1, C.2.2.2.2.2.2.2.2.2.2.2.1]; exact hR), hts _ hI.1, hts _ hI.2⟩ ⟨hp_blind, ?_, fun U hU hW => ⟨rfl, by rw [hU]; exact hz, by rw [hU]; exact hH, va_K.moved hW.alike hK, by rw [← hz]; exact Nat.le_trans C.2.2.2.2.2.2.2.2.2.1 hS.1, hp_N.warm hW C.2.2.2.2.2.2.2.2.2.2.2.2⟩⟩ rfl hn hl.1 rfl (lv_room hrest) hd ⟨by omega, by omega⟩) C hΦ hl hS hCz hCs hc hs k
  obtain ⟨hbase, r, g1, cell, q1, q2, q3, q4⟩ := hH b _ hb
  have hr : r = (y.cls, T, N) := Option.some.inj (g1.symm.trans hc1)
  subst hr
  obtain ⟨hSl, hfc, kC, hkC, hkind⟩ := hK.1 ci _ hc1
  exact ⟨cell, q1, by rw [q3]; rfl, by rw [q2]; exact hfc⟩
theorem hv_callS {index n : Nat} {As rest : List Value} {y : MethodName} {M1 : hp_M} {o1 : hp_O} (hY : hp_Y y M1 n) (hI : Cond.static y ∈ lw_g) (hL : Cond.methodLink M.1 index y ∈ lw_g)
    (hC : hp_C G M1 y As h sz sl o1) (hn : As.length = n) (hrest : (rest.map fun v => v.category).sum ≤ 8) (hR : M1.2.2.2.2.1 + 1 ≤ M.2.2.2.2.1 ∧ 8 + (M1.2.2.1 + 11) + M1.2.2.2.2.2.1 ≤ M.2.2.2.2.2.1)
    (h1 : o1.2.2.1 ≤ o.2.2.1) (h3 : o1.2.2.2 ≤ o.2.2.2) (hst : st = As.reverse ++ rest) (hd : decode M.2.1 pc = .ok (.invokestatic index, 3)) (k : hp_U Φ G M (pc + 3) lv (o1.1.toList ++ rest) o1.2.1 o1.2.2.1 o1.2.2.2 o) : hp_U Φ G M pc lv st h sz sl o := by
  intro p e R s m args below meth c H locs cells slots ls C hΦ hH hz hl hS hc hs
  obtain ⟨hCz, hCs, hM⟩ := hC
  have hts := C.2.2.2.2.2.1
  have hK := C.2.2.2.2.2.2.2.2.1
  subst hst
  exact hv_behind (va_runS (g := F0 m pc ls (As.reverse ++ rest)) (n := n) ⟨C.1, C.2.1, C.2.2.2.1, C.2.2.2.2.1, hts⟩ hM ⟨callB_of n hts (hp_good hY.1) rfl rfl rfl (hts _ hY.2.1) (hts _ hL) hY.2.2 (by rw [C.2.2.2.2.2.2.2.2.2.2.1, C.2.2.2.2.2.2.2.2.2.2.2.1]; exact hR), hts _ hI⟩ ⟨hp_blind, fun U hU hW => ⟨rfl, by rw [hU]; exact hz, by rw [hU]; exact hH, va_K.moved hW.alike hK, by rw [← hz]; exact Nat.le_trans C.2.2.2.2.2.2.2.2.2.1 hS.1, hp_N.warm hW C.2.2.2.2.2.2.2.2.2.2.2.2⟩⟩ rfl hn hl.1 rfl (lv_room hrest) hd ⟨by omega, by omega⟩) C hΦ hl hS hCz hCs hc hs k
theorem hv_callI {index b n : Nat} {As rest : List Value} {y : MethodName} {M1 : hp_M} {o1 : hp_O} (hY : hp_Y y M1 n) (hret : M1.2.2.2.1 = none) (hI : y.name = "<init>" ∧ Cond.instanceMethod y ∈ lw_g) (hL : Cond.methodLink M.1 index y ∈ lw_g)
    (hC : hp_C G M1 y (.ref b :: As) h sz sl o1) (hn : As.length = n) (hrest : (rest.map fun v => v.category).sum ≤ 8) (hR : M1.2.2.2.2.1 + 1 ≤ M.2.2.2.2.1 ∧ 8 + (M1.2.2.1 + 11) + M1.2.2.2.2.2.1 ≤ M.2.2.2.2.2.1)
    (h1 : o1.2.2.1 ≤ o.2.2.1) (h3 : o1.2.2.2 ≤ o.2.2.2) (hst : st = As.reverse ++ .ref b :: rest) (hd : decode M.2.1 pc = .ok (.invokespecial index, 3)) (k : hp_U Φ G M (pc + 3) lv (o1.1.toList ++ rest) o1.2.1 o1.2.2.1 o1.2.2.2 o) : hp_U Φ G M pc lv st h sz sl o := by
  intro p e R s m args below meth c H locs cells slots ls C hΦ hH hz hl hS hc hs
  obtain ⟨hCz, hCs, hM⟩ := hC
  have hts := C.2.2.2.2.2.1
  have hK := C.2.2.2.2.2.2.2.2.1
  subst hst
  obtain ⟨c1, c2, c3, c4, c5, c6, c7⟩ := M1
  dsimp only at hret
  subst hret
  exact hv_behind (va_runI (g := F0 m pc ls (As.reverse ++ .ref b :: rest)) (n := n) ⟨C.1, C.2.1, C.2.2.2.1, C.2.2.2.2.1, hts⟩ hM ⟨callB_of n hts (hp_good hY.1) rfl rfl rfl (hts _ hY.2.1) (hts _ hL) hY.2.2 (by rw [C.2.2.2.2.2.2.2.2.2.2.1, C.2.2.2.2.2.2.2.2.2.2.2.1]; exact hR), hI.1, hts _ hI.2⟩ ⟨hp_blind, fun U hU hW => ⟨rfl, by rw [hU]; exact hz, by rw [hU]; exact hH, va_K.moved hW.alike hK, by rw [← hz]; exact Nat.le_trans C.2.2.2.2.2.2.2.2.2.1 hS.1, hp_N.warm hW C.2.2.2.2.2.2.2.2.2.2.2.2⟩⟩ rfl hn hl.1 rfl (lv_room hrest) hd ⟨by omega, by omega⟩) C hΦ hl hS hCz hCs hc hs k
theorem hv_callIN {index b n : Nat} {host : String} {As rest : List Value} {y : MethodName} {M1 : hp_M} {o1 : hp_O} (hY : hp_Y y M1 n) (hret : M1.2.2.2.1 = none) (hI : y.name = "<init>" ∧ Cond.instanceMethod y ∈ lw_g) (hL : Cond.methodLinkNest M.1 index y host ∈ hp_nest)
    (hC : hp_C G M1 y (.ref b :: As) h sz sl o1) (hn : As.length = n) (hrest : (rest.map fun v => v.category).sum ≤ 8) (hR : M1.2.2.2.2.1 + 1 ≤ M.2.2.2.2.1 ∧ 8 + (M1.2.2.1 + 11) + M1.2.2.2.2.2.1 ≤ M.2.2.2.2.2.1)
    (h1 : o1.2.2.1 ≤ o.2.2.1) (h3 : o1.2.2.2 ≤ o.2.2.2) (hst : st = As.reverse ++ .ref b :: rest) (hd : decode M.2.1 pc = .ok (.invokespecial index, 3)) (k : hp_U Φ G M (pc + 3) lv (o1.1.toList ++ rest) o1.2.1 o1.2.2.1 o1.2.2.2 o) : hp_U Φ G M pc lv st h sz sl o := by
  intro p e R s m args below meth c H locs cells slots ls C hΦ hH hz hl hS hc hs
  obtain ⟨hCz, hCs, hM⟩ := hC
  have hts := C.2.2.2.2.2.1
  have hK := C.2.2.2.2.2.2.2.2.1
  subst hst
  obtain ⟨c1, c2, c3, c4, c5, c6, c7⟩ := M1
  dsimp only at hret
  subst hret
  have hc : Cond.code y c2 c3 none ∈ Cond.code y c2 c3 none :: lw_g := List.mem_cons_self
  have hlen : ∀ sig, parseMethodDescriptor y.desc = some sig → n = sig.parameters.length := fun sig hh => by
    have h2 := hY.2.2.2.2
    rw [hh] at h2
    exact (Option.some.inj h2).symm
  exact hv_behind (va_runIN (g := F0 m pc ls (As.reverse ++ .ref b :: rest)) (n := n) (host := host) ⟨C.1, C.2.1, C.2.2.2.1, C.2.2.2.2.1, hts⟩ hM ⟨⟨⟨rfl, rfl, by rw [C.2.2.2.2.2.2.2.2.2.2.1]; exact hR.1, by rw [C.2.2.2.2.2.2.2.2.2.2.2.1]; exact hR.2, pay_in hts (hp_good hY.1), hc⟩, hts _ hY.1, hts _ hY.2.1, ⟨hY.2.2.1, hY.2.2.2.1⟩, hlen, va_Nw.use rfl (C.2.2.2.2.2.2.2.2.2.2.2.2 _ hL)⟩, hI.1, hts _ hI.2⟩ ⟨hp_blind, fun U hU hW => ⟨rfl, by rw [hU]; exact hz, by rw [hU]; exact hH, va_K.moved hW.alike hK, by rw [← hz]; exact Nat.le_trans C.2.2.2.2.2.2.2.2.2.1 hS.1, hp_N.warm hW C.2.2.2.2.2.2.2.2.2.2.2.2⟩⟩ rfl hn hl.1 rfl (lv_room hrest) hd ⟨by omega, by omega⟩) C hΦ hl hS hCz hCs (by assumption) hs k
/-- a contract out of the walk from the entry -/
theorem hp_C_of {y : MethodName} {as : List Value} (hy : plainName y.cls = true) (hown : y.cls = M.1) (hnm : y.name = M.2.2.2.2.2.2) (hlen : (lg_sl as).length ≤ M.2.2.1) (h1 : sz ≤ o.2.2.1) (h3 : sl ≤ o.2.2.2) (k : hp_V G M 0 (lv_args 0 as) [] h sz sl o) : hp_C G M y as h sz sl o := by
  refine ⟨h1, h3, Met.ofW (cc := M.2.1) (maxL := M.2.2.1) (ret := M.2.2.2.1) hy rfl ?_⟩
  intro p e s m args below meth c s₁ B hml hv
  obtain ⟨rfl, hz, hH, hK, hb, hN⟩ := hv
  have hts : ∀ w ∈ lw_g, w.before as.toArray s = true := fun w hw => atoms_spec (ws := .code y M.2.1 M.2.2.1 M.2.2.2.1 :: lw_g) B.pre w (List.mem_cons_of_mem _ hw)
  have ho : s.vm.findClass y.cls = some m.cls := findClass_of_methodNamed B.named
  have hin : meth.name = y.name := (name_of_methodNamed B.named B.method).1
  have hl := lv_entry as (n := M.2.2.1) hlen
  rw [lg_entry_eq]
  exact k p e _ s m _ below meth c s.heap [] 0 0 _ ⟨B.exec, B.bytes, B.returns, hml, by rw [← hown]; exact ho, hts, B.notSynchronized, fun hq => hin.trans (hnm.trans hq), hK, by rw [hz]; exact hb, rfl, rfl, hN⟩ trivial hH hz hl va_S.rf (by show 0 + _ ≤ (o.2.2.1 - sz) + sz; omega) (by show 0 + _ ≤ (o.2.2.2 - sl) + sl; omega)
end HPC
