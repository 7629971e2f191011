/-! THE CLAIM OUT OF ONE WALK OF THE LAW'S BODY. Your part is whole_start (and what it stands on); all else here is the same for every law, but numbers. -/
def R_law : String := "AxiomBookLaw"
def lw_P (b : Addr) (xs : List Int32) (args : Array Value) (s : State) : Prop := args = #[.ref b] ∧ s.IntsAt b xs ∧ xs.length ≤ 2560 ∧ (Jvm.Cond.and given_1 narrow_1).before args s = true
def lw_Q (_ : Array Value) (s : State) (o : Outcome) (t : State) : Prop := o = .returned (some (.int 1)) ∧ Framed s o t [] 600000 7302250
def lw_Z (below : List Frame) (a : Array Value) (s : State) : State → Prop := fun t => ∃ o, t.status = .running ∧ Ended t below o ∧ lw_Q a s o t
/-- the law's own end, with 1 on the stack, nothing written that was there before, its room as the claim has it -/
theorem lw_ret {p : Program} {l : Launch} {e : Env} {s : State} {m : MethodId} {below : List Frame} {meth : Method} {c : Code} {b : Nat} (hx : p.tables.exec = Jvm.exec) (hb : c.code = code) (hr : meth.sig.returnType = ret) (hlocks : meth.locks = false) {pc : Nat} {H : Heap} {ls : Array Slot} (hdg : decode code pc = .ok (.ireturn, 1)) : W p l e room_1 s m #[Value.ref b] below meth c H [] 600000 7302250 (lw_Z below #[Value.ref b] s) (F0 m pc ls [.int 1]) := by
  intro T hT X
  obtain ⟨fs, hret, hrun, hended, hW, hframe⟩ := X.leave (v := some (.int 1)) (hlocks := hlocks) (fun h => by rw [hr] at h; cases h)
  have hmeth' : T.vm.method? m = some meth := X.method'
  refine ⟨T.setFrames fs, ?_, .returned (some (.int 1)), hrun, hended, rfl, ⟨_, rfl⟩, hW, hframe⟩
  jvm_step X.here [X.here.top, hx, hb, hdg, hmeth', hr, ret, narrow_b1]
  (try refine ⟨rfl, ?_⟩); (try refine ⟨rfl, ?_⟩)
  first | (intro acts; rw [hret _ acts rfl rfl rfl]) | rw [hret _ _ rfl rfl rfl]
  exact Steps.refl _
/-- what holds at the law's entry: the machine, the code, the tables' words (any of lw_tbl by 'hts w (by decide +kernel)'), the script of L ints xs at the cell b, what the Statement gives of the start (any of its parts by flat_of_before) -/
def lw_At (p : Program) (s : State) (m : MethodId) (meth : Method) (c : Code) (b L : Nat) (xs : Nat → Int32) : Prop :=
  p.tables.exec = Jvm.exec ∧ c.code = code ∧ meth.sig.returnType = ret ∧ c.maxLocals = 4 ∧ s.vm.findClass R_law = some m.cls ∧ (∀ w ∈ lw_tbl, w.before #[Value.ref b] s = true) ∧ va_X b L xs s s.heap ∧ b < s.heap.size ∧ meth.locks = false ∧ (Jvm.Cond.and given_1 narrow_1).before #[Value.ref b] s = true
/-- what the functions alone must do -/
def PureLaw : Prop := ∀ (L : Nat) (xs : Nat → Int32) (b sz : Nat), L ≤ 2560 → ∃ (n : Nat) (res : Int32 × hp_H × Nat × Nat), f_L_law_0 n L xs b (fun _ => none) sz 0 = some res ∧ res.1 = 1 ∧ res.2.2.1 ≤ sz + 600000 ∧ res.2.2.2 ≤ 7302250
theorem hp_ins0 : Cond.instantiable RX0 18 ∈ lw_g := lw_gin (List.mem_append_right _ (tb_1 (List.mem_of_getElem? (i := 25) rfl))) rfl
theorem hp_ins1 : Cond.instantiable RX1 6 ∈ lw_g := lw_gin (List.mem_append_right _ (tb_2 (List.mem_of_getElem? (i := 113) rfl))) rfl
theorem hp_ins2 : Cond.instantiable RX2 5 ∈ lw_g := lw_gin (List.mem_append_right _ (tb_1 (List.mem_of_getElem? (i := 31) rfl))) rfl
theorem hp_ins3 : Cond.instantiable RX3 13 ∈ lw_g := lw_gin (List.mem_append_right _ (tb_2 (List.mem_of_getElem? (i := 56) rfl))) rfl
theorem hp_ins4 : Cond.instantiable RX4 11 ∈ lw_g := lw_gin (List.mem_append_right _ (tb_1 (List.mem_of_getElem? (i := 183) rfl))) rfl
theorem hp_ins5 : Cond.instantiable RX5 4 ∈ lw_g := lw_gin (List.mem_append_right _ (tb_1 (List.mem_of_getElem? (i := 59) rfl))) rfl
theorem hp_ins6 : Cond.instantiable RX6 5 ∈ lw_g := lw_gin (List.mem_append_right _ (tb_1 (List.mem_of_getElem? (i := 236) rfl))) rfl
theorem hp_ins7 : Cond.instantiable RX7 13 ∈ lw_g := lw_gin (List.mem_append_right _ (tb_1 (List.mem_of_getElem? (i := 189) rfl))) rfl
theorem hp_ins8 : Cond.instantiable RX8 3 ∈ lw_g := lw_gin (List.mem_append_right _ (tb_2 (List.mem_of_getElem? (i := 201) rfl))) rfl
theorem hp_ins9 : Cond.instantiable RX9 17 ∈ lw_g := lw_gin (List.mem_append_right _ (tb_2 (List.mem_of_getElem? (i := 141) rfl))) rfl
theorem hp_ins10 : Cond.instantiable RX10 11 ∈ lw_g := lw_gin (List.mem_append_right _ (tb_1 (List.mem_of_getElem? (i := 17) rfl))) rfl
theorem hp_ins11 : Cond.instantiable RX11 86 ∈ lw_g := lw_gin (List.mem_append_right _ (tb_5 (List.mem_of_getElem? (i := 106) rfl))) rfl
theorem hp_nst0 : Cond.methodLinkNest "AxiomBook" 11 ⟨"AxiomBook$Book", "<init>", "()V"⟩ "AxiomBook" ∈ lw_tbl := List.mem_append_right _ (tb_1 (List.mem_of_getElem? (i := 26) rfl))
theorem hp_nst1 : Cond.methodLinkNest "AxiomBook$Reader" 11 ⟨"AxiomBook$Scope", "<init>", "()V"⟩ "AxiomBook" ∈ lw_tbl := List.mem_append_right _ (tb_1 (List.mem_of_getElem? (i := 190) rfl))
theorem hp_nst2 : Cond.methodLinkNest "AxiomBook" 56 ⟨"AxiomBook$Sheet", "<init>", "()V"⟩ "AxiomBook" ∈ lw_tbl := List.mem_append_right _ (tb_2 (List.mem_of_getElem? (i := 202) rfl))
theorem hp_nest_in {w : Cond} (h : w ∈ hp_nest) : w ∈ lw_tbl ∧ w.onTables = true := by
  simp only [hp_nest, List.mem_cons, List.not_mem_nil, or_false] at h
  rcases h with rfl | rfl | rfl
  · exact ⟨hp_nst0, rfl⟩
  · exact ⟨hp_nst1, rfl⟩
  · exact ⟨hp_nst2, rfl⟩
theorem hp_array {s : State} {args : Array Value} {ty : FieldType} (h : (Cond.arrayClass ty).before args s = true) : ∃ cA : ClassId, ArrOfT s cA ty ∧ s.vm.findClass ("[" ++ ty.toString) = some cA := by
  obtain ⟨cA, kA, comp, h1, h2, h3⟩ := Cond.arrayClass_spec h
  exact ⟨cA, fun n z => ⟨fun k h => (by cases h), kA, h2, comp, h3⟩, h1⟩
set_option maxHeartbeats 4000000 in
set_option maxRecDepth 20000 in
theorem whole_of (hPL : PureLaw) {p : Program} {e : Env} {s : State} {m : MethodId} {below : List Frame} {meth : Method} {c : Code} (l : Launch) {b L : Nat} {xs : Nat → Int32} (hL : L ≤ 2560) (C0 : lw_At p s m meth c b L xs) : W p l e room_1 s m #[Value.ref b] below meth c s.heap [] 0 0 (lw_Z below #[Value.ref b] s) (entryFrame m ([Value.ref b] : List Value).toArray 4) := by
  obtain ⟨hx, hb, hr, hml, hown, hts, hX, hbl, hlocks, hgv⟩ := id C0
  have htg : ∀ w ∈ lw_g, w.before #[Value.ref b] s = true := fun w hw => hts w (List.mem_filter.mp hw).1
  obtain ⟨c0, i0, hK0⟩ := u_known (C := RX0) (T := TX0) (N := 18) (n := 18) htg hp_in0 (htg _ hp_ins0)
  obtain ⟨c1, i1, hK1⟩ := u_known (C := RX1) (T := TX1) (N := 6) (n := 6) htg hp_in1 (htg _ hp_ins1)
  obtain ⟨c2, i2, hK2⟩ := u_known (C := RX2) (T := TX2) (N := 5) (n := 5) htg hp_in2 (htg _ hp_ins2)
  obtain ⟨c3, i3, hK3⟩ := u_known (C := RX3) (T := TX3) (N := 13) (n := 13) htg hp_in3 (htg _ hp_ins3)
  obtain ⟨c4, i4, hK4⟩ := u_known (C := RX4) (T := TX4) (N := 11) (n := 11) htg hp_in4 (htg _ hp_ins4)
  obtain ⟨c5, i5, hK5⟩ := u_known (C := RX5) (T := TX5) (N := 4) (n := 4) htg hp_in5 (htg _ hp_ins5)
  obtain ⟨c6, i6, hK6⟩ := u_known (C := RX6) (T := TX6) (N := 5) (n := 5) htg hp_in6 (htg _ hp_ins6)
  obtain ⟨c7, i7, hK7⟩ := u_known (C := RX7) (T := TX7) (N := 13) (n := 13) htg hp_in7 (htg _ hp_ins7)
  obtain ⟨c8, i8, hK8⟩ := u_known (C := RX8) (T := TX8) (N := 3) (n := 3) htg hp_in8 (htg _ hp_ins8)
  obtain ⟨c9, i9, hK9⟩ := u_known (C := RX9) (T := TX9) (N := 17) (n := 17) htg hp_in9 (htg _ hp_ins9)
  obtain ⟨c10, i10, hK10⟩ := u_known (C := RX10) (T := TX10) (N := 11) (n := 11) htg hp_in10 (htg _ hp_ins10)
  obtain ⟨c11, i11, hK11⟩ := u_known (C := RX11) (T := TX11) (N := 86) (n := 86) htg hp_in11 (htg _ hp_ins11)
  obtain ⟨cI, hI1, hI2⟩ := hp_array (htg _ ac_int)
  obtain ⟨cB, hB1, hB2⟩ := hp_array (htg _ ac_byte)
  obtain ⟨cZ, hZ1, hZ2⟩ := hp_array (htg _ ac_boolean)
  obtain ⟨cJ, hJ1, hJ2⟩ := hp_array (htg _ ac_long)
  have hN : hp_N s := fun w hw => va_Nw.of (hp_nest_in hw).2 (hts w (hp_nest_in hw).1)
  obtain ⟨dC, hdC⟩ : ∃ f : Nat → ClassId, f 0 = c0 ∧ f 1 = c1 ∧ f 2 = c2 ∧ f 3 = c3 ∧ f 4 = c4 ∧ f 5 = c5 ∧ f 6 = c6 ∧ f 7 = c7 ∧ f 8 = c8 ∧ f 9 = c9 ∧ f 10 = c10 ∧ f 11 = c11 := ⟨fun k => match k with | 0 => c0 | 1 => c1 | 2 => c2 | 3 => c3 | 4 => c4 | 5 => c5 | 6 => c6 | 7 => c7 | 8 => c8 | 9 => c9 | 10 => c10 | _ => c11, rfl, rfl, rfl, rfl, rfl, rfl, rfl, rfl, rfl, rfl, rfl, rfl⟩
  obtain ⟨dI, hdI⟩ : ∃ f : Nat → Nat → Nat, f 0 = i0 ∧ f 1 = i1 ∧ f 2 = i2 ∧ f 3 = i3 ∧ f 4 = i4 ∧ f 5 = i5 ∧ f 6 = i6 ∧ f 7 = i7 ∧ f 8 = i8 ∧ f 9 = i9 ∧ f 10 = i10 ∧ f 11 = i11 := ⟨fun k => match k with | 0 => i0 | 1 => i1 | 2 => i2 | 3 => i3 | 4 => i4 | 5 => i5 | 6 => i6 | 7 => i7 | 8 => i8 | 9 => i9 | 10 => i10 | _ => i11, rfl, rfl, rfl, rfl, rfl, rfl, rfl, rfl, rfl, rfl, rfl, rfl⟩
  obtain ⟨cA, hcA⟩ : ∃ f : Nat → ClassId, f 0 = cI ∧ f 1 = cB ∧ f 2 = cZ ∧ f 3 = cJ := ⟨fun k => match k with | 0 => cI | 1 => cB | 2 => cZ | _ => cJ, rfl, rfl, rfl, rfl⟩
  obtain ⟨e0, e1, e2, e3, e4, e5, e6, e7, e8, e9, e10, e11⟩ := hdC
  obtain ⟨g0, g1, g2, g3, g4, g5, g6, g7, g8, g9, g10, g11⟩ := hdI
  obtain ⟨a0, a1, a2, a3⟩ := hcA
  have hK : hp_K (l, s.heap.size, (dC, dI), cA) s := by
    refine ⟨fun k q hq => ?_, fun k q hq => ?_⟩
    · match k, hq with
      | 0, hq => cases hq; show u_Kn s RX0 TX0 18 (dC 0) (dI 0); rw [e0, g0]; exact hK0
      | 1, hq => cases hq; show u_Kn s RX1 TX1 6 (dC 1) (dI 1); rw [e1, g1]; exact hK1
      | 2, hq => cases hq; show u_Kn s RX2 TX2 5 (dC 2) (dI 2); rw [e2, g2]; exact hK2
      | 3, hq => cases hq; show u_Kn s RX3 TX3 13 (dC 3) (dI 3); rw [e3, g3]; exact hK3
      | 4, hq => cases hq; show u_Kn s RX4 TX4 11 (dC 4) (dI 4); rw [e4, g4]; exact hK4
      | 5, hq => cases hq; show u_Kn s RX5 TX5 4 (dC 5) (dI 5); rw [e5, g5]; exact hK5
      | 6, hq => cases hq; show u_Kn s RX6 TX6 5 (dC 6) (dI 6); rw [e6, g6]; exact hK6
      | 7, hq => cases hq; show u_Kn s RX7 TX7 13 (dC 7) (dI 7); rw [e7, g7]; exact hK7
      | 8, hq => cases hq; show u_Kn s RX8 TX8 3 (dC 8) (dI 8); rw [e8, g8]; exact hK8
      | 9, hq => cases hq; show u_Kn s RX9 TX9 17 (dC 9) (dI 9); rw [e9, g9]; exact hK9
      | 10, hq => cases hq; show u_Kn s RX10 TX10 11 (dC 10) (dI 10); rw [e10, g10]; exact hK10
      | 11, hq => cases hq; show u_Kn s RX11 TX11 86 (dC 11) (dI 11); rw [e11, g11]; exact hK11
      | k + 12, hq => cases hq
    · match k, hq with
      | 0, hq => cases hq; show ArrOfT s (cA 0) .int ∧ s.vm.findClass _ = some (cA 0); rw [a0]; exact ⟨hI1, hI2⟩
      | 1, hq => cases hq; show ArrOfT s (cA 1) .byte ∧ s.vm.findClass _ = some (cA 1); rw [a1]; exact ⟨hB1, hB2⟩
      | 2, hq => cases hq; show ArrOfT s (cA 2) .boolean ∧ s.vm.findClass _ = some (cA 2); rw [a2]; exact ⟨hZ1, hZ2⟩
      | 3, hq => cases hq; show ArrOfT s (cA 3) .long ∧ s.vm.findClass _ = some (cA 3); rw [a3]; exact ⟨hJ1, hJ2⟩
      | k + 4, hq => cases hq
  obtain ⟨n, res, hm, r1, r2, r3⟩ := hPL L xs b s.heap.size hL
  have hl := lv_entry [Value.ref b] (n := 4) (Nat.le_of_ble_eq_true rfl)
  rw [lg_entry_eq]
  have Q := q_L_law_0 (l, s.heap.size, (dC, dI), cA) n L xs b hbl (fun _ => none) s.heap.size 0 res hm p e room_1 s m #[Value.ref b] below meth c s.heap [] 0 0 _ ⟨hx, hb, hr, hml, hown, htg, hlocks, fun hq => absurd hq (by decide), hK, Nat.le_refl _, rfl, rfl, hN⟩ hX (fun a e h => by cases h) rfl hl va_S.rf (by show 0 + res.2.2.1 ≤ 600000 + s.heap.size; omega) (by show 0 + res.2.2.2 ≤ 7302250 + 0; omega)
  intro T hT X
  obtain ⟨t, q1, oc, q2, q3, ⟨⟨q4, -, -, -, -⟩, -⟩, L2, ⟨f1, f2, f3⟩, hL2⟩ := Q T hT X
  refine ⟨t, q1, oc, q2, q3, ?_, f1, f2, f3.weaken (fun y hy hlt => absurd hlt (Nat.not_lt.mpr (hL2 y hy))) (Nat.le_refl _) (Nat.le_refl _)⟩
  rw [q4]
  show Outcome.returned (some (.int res.1)) = _
  rw [r1]
