/-! A heap as a function: an address has nothing, an array of ints, bytes or booleans (0, 1, 2), an array of longs, or an object (its class's place in hp_cl, its fields) -/
abbrev hp_E : Type := (Nat × Nat × (Nat → Int32)) ⊕ (Nat × (Nat → Int64)) ⊕ (Nat × (Nat → Value))
abbrev hp_H : Type := Nat → Option hp_E
/-- the launch, the first address that is ours, the classes' numbers and slots, the array classes' numbers -/
abbrev hp_G : Type := Launch × Nat × va_G × (Nat → ClassId)
/-- how a method ends: its answer, the heap, how many cells there are, how many slots were made -/
abbrev hp_O : Type := Option Value × hp_H × Nat × Nat
/-- a method: its class, its bytes, its locals, its answer's type, frames and locals that it needs below it, its name -/
abbrev hp_M : Type := String × ByteArray × Nat × Option FieldType × Nat × Nat × String
/-- the words of the tables that hold in every callee, too; and those of nest mates, which go beside them -/
def lw_g : List Cond := lw_tbl.filter goodWord
theorem lw_gin {w : Cond} (h : w ∈ lw_tbl) (hg : goodWord w = true) : w ∈ lw_g := List.mem_filter.mpr ⟨h, hg⟩
def hp_nest : List Cond := [.methodLinkNest "AxiomBook" 11 ⟨"AxiomBook$Book", "<init>", "()V"⟩ "AxiomBook", .methodLinkNest "AxiomBook$Reader" 11 ⟨"AxiomBook$Scope", "<init>", "()V"⟩ "AxiomBook", .methodLinkNest "AxiomBook" 56 ⟨"AxiomBook$Sheet", "<init>", "()V"⟩ "AxiomBook"]
def hp_N (U : State) : Prop := ∀ w ∈ hp_nest, va_Nw w U
theorem hp_N.warm {s U : State} (hW : s.WarmedH U.vm) (h : hp_N s) : hp_N U := by
  intro w hw
  have h1 := h w hw
  simp only [hp_nest, List.mem_cons, List.not_mem_nil, or_false] at hw
  rcases hw with rfl | rfl | rfl <;> exact va_Nw.warmM hW h1
theorem hp_N.same {s U : State} (hv : s.vm = U.vm) (h : hp_N s) : hp_N U := by
  intro w hw
  have h1 := h w hw
  simp only [hp_nest, List.mem_cons, List.not_mem_nil, or_false] at hw
  rcases hw with rfl | rfl | rfl <;> exact va_Nw.same rfl hv h1
def hp_cl : List vw_C := [(RX0, TX0, 18), (RX1, TX1, 6), (RX2, TX2, 5), (RX3, TX3, 13), (RX4, TX4, 11), (RX5, TX5, 4), (RX6, TX6, 5), (RX7, TX7, 13), (RX8, TX8, 3), (RX9, TX9, 17), (RX10, TX10, 11), (RX11, TX11, 86)]
theorem hp_in0 : ∀ w ∈ u_ws RX0 TX0 18, w ∈ lw_g := by decide +kernel
theorem hp_in1 : ∀ w ∈ u_ws RX1 TX1 6, w ∈ lw_g := by decide +kernel
theorem hp_in2 : ∀ w ∈ u_ws RX2 TX2 5, w ∈ lw_g := by decide +kernel
theorem hp_in3 : ∀ w ∈ u_ws RX3 TX3 13, w ∈ lw_g := by decide +kernel
theorem hp_in4 : ∀ w ∈ u_ws RX4 TX4 11, w ∈ lw_g := by decide +kernel
theorem hp_in5 : ∀ w ∈ u_ws RX5 TX5 4, w ∈ lw_g := by decide +kernel
theorem hp_in6 : ∀ w ∈ u_ws RX6 TX6 5, w ∈ lw_g := by decide +kernel
theorem hp_in7 : ∀ w ∈ u_ws RX7 TX7 13, w ∈ lw_g := by decide +kernel
theorem hp_in8 : ∀ w ∈ u_ws RX8 TX8 3, w ∈ lw_g := by decide +kernel
theorem hp_in9 : ∀ w ∈ u_ws RX9 TX9 17, w ∈ lw_g := by decide +kernel
theorem hp_in10 : ∀ w ∈ u_ws RX10 TX10 11, w ∈ lw_g := by decide +kernel
theorem hp_in11 : ∀ w ∈ u_ws RX11 TX11 86, w ∈ lw_g := by decide +kernel
def hp_A (G : hp_G) : Nat → Prop := fun q => G.2.1 ≤ q
def hp_at (G : hp_G) (e : hp_E) (a : Nat) (H : Heap) : Prop := match e with
  | .inl (t, n, f) => t < 3 ∧ H[a]? = some (arrV (G.2.2.2 t) n (fun j => .int (f j)))
  | .inr (.inl (n, f)) => H[a]? = some (arrV (G.2.2.2 3) n (fun j => .long (f j)))
  | .inr (.inr (ci, V)) => ∃ r : vw_C, hp_cl[ci]? = some r ∧ t_OB a (G.2.2.1.1 ci) r.2.2 (G.2.2.1.2 ci) H V
def hp_ok (G : hp_G) (h : hp_H) (H : Heap) : Prop := ∀ (a : Nat) (e : hp_E), h a = some e → G.2.1 ≤ a ∧ hp_at G e a H
def hp_K (G : hp_G) (U : State) : Prop := va_K G.2.2.1 hp_cl [(G.2.2.2 0, .int), (G.2.2.2 1, .byte), (G.2.2.2 2, .boolean), (G.2.2.2 3, .long)] U
def hp_Cx (G : hp_G) (M : hp_M) (p : Program) (R : Room) (s : State) (m : MethodId) (args : Array Value) (meth : Method) (c : Code) : Prop :=
  p.tables.exec = Jvm.exec ∧ c.code = M.2.1 ∧ meth.sig.returnType = M.2.2.2.1 ∧ c.maxLocals = M.2.2.1 ∧ s.vm.findClass M.1 = some m.cls ∧ (∀ w ∈ lw_g, w.before args s = true) ∧ meth.locks = false ∧ (M.2.2.2.2.2.2 = "<init>" → meth.name = "<init>") ∧ hp_K G s ∧ G.2.1 ≤ s.heap.size ∧ R.frames = M.2.2.2.2.1 ∧ R.locals = M.2.2.2.2.2.1 ∧ hp_N s
def hp_Q (G : hp_G) (o : hp_O) : Array Value → State → Outcome → State → Prop := fun _ st oc t =>
  (oc = .returned o.1 ∧ hp_ok G o.2.1 t.heap ∧ t.heap.size = o.2.2.1 ∧ hp_K G t ∧ hp_N t) ∧ va_F (hp_A G) st t
/-- from here the method comes to the outcome o -/
def hp_U (Φ : State → Prop) (G : hp_G) (M : hp_M) (pc : Nat) (lv : List (Nat × Value)) (st : List Value) (h : hp_H) (sz sl : Nat) (o : hp_O) : Prop :=
  ∀ (p : Program) (e : Env) (R : Room) (s : State) (m : MethodId) (args : Array Value) (below : List Frame) (meth : Method) (c : Code) (H : Heap) (locs : List Loc) (cells slots : Nat) (ls : Array Slot),
    hp_Cx G M p R s m args meth c → Φ s → hp_ok G h H → H.size = sz → lv_has ls M.2.2.1 lv → va_S (hp_A G) s.heap H locs → cells + o.2.2.1 ≤ R.cells + sz → slots + o.2.2.2 ≤ R.slots + sl →
    W p G.1 e R s m args below meth c H locs cells slots (MQ below (hp_Q G o) args s R.cells R.slots (hp_A G)) (F0 m pc ls st)
/-- the same, where nothing more is known of the entry's state -/
abbrev hp_V (G : hp_G) (M : hp_M) (pc : Nat) (lv : List (Nat × Value)) (st : List Value) (h : hp_H) (sz sl : Nat) (o : hp_O) : Prop := hp_U (fun _ => True) G M pc lv st h sz sl o
/-- a method's contract at one outcome -/
def hp_C (G : hp_G) (M : hp_M) (y : MethodName) (as : List Value) (h : hp_H) (sz sl : Nat) (o : hp_O) : Prop :=
  sz ≤ o.2.2.1 ∧ sl ≤ o.2.2.2 ∧ Met G.1 y (.code y M.2.1 M.2.2.1 M.2.2.2.1 :: lw_g) { frames := M.2.2.2.2.1, cells := o.2.2.1 - sz, slots := o.2.2.2 - sl, locals := M.2.2.2.2.2.1 }
    (va_Pc as (fun U => U.heap.size = sz ∧ hp_ok G h U.heap ∧ hp_K G U ∧ G.2.1 ≤ sz ∧ hp_N U)) (hp_Q G o) (o.2.2.1 - sz) (o.2.2.2 - sl) (hp_A G)
section HPV
variable {Φ : State → Prop} {G : hp_G} {M : hp_M} {pc : Nat} {lv : List (Nat × Value)} {st : List Value} {h : hp_H} {sz sl : Nat} {o : hp_O}
theorem hv_to {pc' : Nat} {lv' : List (Nat × Value)} {st' : List Value} (e1 : pc' = pc) (e2 : lv' = lv) (e3 : st' = st) (k : hp_U Φ G M pc lv st h sz sl o) : hp_U Φ G M pc' lv' st' h sz sl o := by
  subst e1; subst e2; subst e3; exact k
theorem hv_iconst {n : Int} (v : Int32) (hd : decode M.2.1 pc = .ok (.iconst n, 1)) (hv : Int32.ofInt n = v) (k : hp_U Φ G M (pc + 1) lv (.int v :: st) h sz sl o) : hp_U Φ G M pc lv st h sz sl o :=
  fun p e R s m args below meth c H locs cells slots ls C hΦ hH hz hl hS hc hs => lv_iconst C.1 C.2.1 hd hv (k p e R s m args below meth c H locs cells slots ls C hΦ hH hz hl hS hc hs)
theorem hv_bipush {n : Int} (v : Int32) (hd : decode M.2.1 pc = .ok (.bipush n, 2)) (hv : (Int8.ofInt n).toInt32 = v) (k : hp_U Φ G M (pc + 2) lv (.int v :: st) h sz sl o) : hp_U Φ G M pc lv (st) h sz sl o :=
  fun p e R s m args below meth c H locs cells slots ls C hΦ hH hz hl hS hc hs => lv_bipush C.1 C.2.1 hd hv (k p e R s m args below meth c H locs cells slots ls C hΦ hH hz hl hS hc hs)
theorem hv_sipush {n : Int} (v : Int32) (hd : decode M.2.1 pc = .ok (.sipush n, 3)) (hv : (Int16.ofInt n).toInt32 = v) (k : hp_U Φ G M (pc + 3) lv (.int v :: st) h sz sl o) : hp_U Φ G M pc lv (st) h sz sl o :=
  fun p e R s m args below meth c H locs cells slots ls C hΦ hH hz hl hS hc hs => lv_sipush C.1 C.2.1 hd hv (k p e R s m args below meth c H locs cells slots ls C hΦ hH hz hl hS hc hs)
theorem hv_lconst {n : Fin 2} (v : Int64) (hd : decode M.2.1 pc = .ok (.lconst n, 1)) (hv : Int64.ofNat (n : Nat) = v) (k : hp_U Φ G M (pc + 1) lv (.long v :: st) h sz sl o) : hp_U Φ G M pc lv (st) h sz sl o :=
  fun p e R s m args below meth c H locs cells slots ls C hΦ hH hz hl hS hc hs => lv_lconst C.1 C.2.1 hd hv (k p e R s m args below meth c H locs cells slots ls C hΦ hH hz hl hS hc hs)
theorem hv_iload_n {k0 : Fin 4} {i : Nat} {x : Int32} (j : Nat) (hd : decode M.2.1 pc = .ok (.iload_n k0, 1)) (hi : (k0 : Nat) = i) (hj : lv[j]? = some (i, .int x)) (k : hp_U Φ G M (pc + 1) lv (.int x :: st) h sz sl o) : hp_U Φ G M pc lv (st) h sz sl o :=
  fun p e R s m args below meth c H locs cells slots ls C hΦ hH hz hl hS hc hs => lv_iload_n C.1 C.2.1 hd hi (lv_at hl j hj) (k p e R s m args below meth c H locs cells slots ls C hΦ hH hz hl hS hc hs)
theorem hv_iload {i : Nat} {x : Int32} (j : Nat) (hd : decode M.2.1 pc = .ok (.iload i, 2)) (hj : lv[j]? = some (i, .int x)) (k : hp_U Φ G M (pc + 2) lv (.int x :: st) h sz sl o) : hp_U Φ G M pc lv (st) h sz sl o :=
  fun p e R s m args below meth c H locs cells slots ls C hΦ hH hz hl hS hc hs => lv_iload C.1 C.2.1 hd (lv_at hl j hj) (k p e R s m args below meth c H locs cells slots ls C hΦ hH hz hl hS hc hs)
theorem hv_lload_n {k0 : Fin 4} {i : Nat} {x : Int64} (j : Nat) (hd : decode M.2.1 pc = .ok (.lload_n k0, 1)) (hi : (k0 : Nat) = i) (hj : lv[j]? = some (i, .long x)) (k : hp_U Φ G M (pc + 1) lv (.long x :: st) h sz sl o) : hp_U Φ G M pc lv (st) h sz sl o :=
  fun p e R s m args below meth c H locs cells slots ls C hΦ hH hz hl hS hc hs => lv_lload_n C.1 C.2.1 hd hi (lv_at hl j hj) (k p e R s m args below meth c H locs cells slots ls C hΦ hH hz hl hS hc hs)
theorem hv_lload {i : Nat} {x : Int64} (j : Nat) (hd : decode M.2.1 pc = .ok (.lload i, 2)) (hj : lv[j]? = some (i, .long x)) (k : hp_U Φ G M (pc + 2) lv (.long x :: st) h sz sl o) : hp_U Φ G M pc lv (st) h sz sl o :=
  fun p e R s m args below meth c H locs cells slots ls C hΦ hH hz hl hS hc hs => lv_lload C.1 C.2.1 hd (lv_at hl j hj) (k p e R s m args below meth c H locs cells slots ls C hΦ hH hz hl hS hc hs)
theorem hv_aload_n {k0 : Fin 4} {i : Nat} {x : Nat} (j : Nat) (hd : decode M.2.1 pc = .ok (.aload_n k0, 1)) (hi : (k0 : Nat) = i) (hj : lv[j]? = some (i, .ref x)) (k : hp_U Φ G M (pc + 1) lv (.ref x :: st) h sz sl o) : hp_U Φ G M pc lv (st) h sz sl o :=
  fun p e R s m args below meth c H locs cells slots ls C hΦ hH hz hl hS hc hs => lv_aload_n C.1 C.2.1 hd hi (lv_at hl j hj) (k p e R s m args below meth c H locs cells slots ls C hΦ hH hz hl hS hc hs)
theorem hv_aload {i : Nat} {x : Nat} (j : Nat) (hd : decode M.2.1 pc = .ok (.aload i, 2)) (hj : lv[j]? = some (i, .ref x)) (k : hp_U Φ G M (pc + 2) lv (.ref x :: st) h sz sl o) : hp_U Φ G M pc lv (st) h sz sl o :=
  fun p e R s m args below meth c H locs cells slots ls C hΦ hH hz hl hS hc hs => lv_aload C.1 C.2.1 hd (lv_at hl j hj) (k p e R s m args below meth c H locs cells slots ls C hΦ hH hz hl hS hc hs)
theorem hv_istore_n {k0 : Fin 4} {i : Nat} {x : Int32} (lv2 : List (Nat × Value)) (hd : decode M.2.1 pc = .ok (.istore_n k0, 1)) (hi : (k0 : Nat) = i) (hn : i < M.2.2.1) (hf : (i, Value.int x) :: lv.filter (fun q => !(q.1 == i) && !(q.1 + 1 == i && q.2.category == 2)) = lv2) (k : hp_U Φ G M (pc + 1) lv2 st h sz sl o) : hp_U Φ G M pc lv (.int x :: st) h sz sl o :=
  fun p e R s m args below meth c H locs cells slots ls C hΦ hH hz hl hS hc hs => lv_istore_n C.1 C.2.1 hd hi hl hn hf (fun ls2 hl2 => k p e R s m args below meth c H locs cells slots ls2 C hΦ hH hz hl2 hS hc hs)
theorem hv_istore {i : Nat} {x : Int32} (lv2 : List (Nat × Value)) (hd : decode M.2.1 pc = .ok (.istore i, 2)) (hn : i < M.2.2.1) (hf : (i, Value.int x) :: lv.filter (fun q => !(q.1 == i) && !(q.1 + 1 == i && q.2.category == 2)) = lv2) (k : hp_U Φ G M (pc + 2) lv2 st h sz sl o) : hp_U Φ G M pc lv (.int x :: st) h sz sl o :=
  fun p e R s m args below meth c H locs cells slots ls C hΦ hH hz hl hS hc hs => lv_istore C.1 C.2.1 hd hl hn hf (fun ls2 hl2 => k p e R s m args below meth c H locs cells slots ls2 C hΦ hH hz hl2 hS hc hs)
theorem hv_lstore_n {k0 : Fin 4} {i : Nat} {x : Int64} (lv2 : List (Nat × Value)) (hd : decode M.2.1 pc = .ok (.lstore_n k0, 1)) (hi : (k0 : Nat) = i) (hn : i + 1 < M.2.2.1) (hf : (i, Value.long x) :: lv.filter (fun q => !(q.1 == i) && (!(q.1 == i + 1) && !(q.1 + 1 == i && q.2.category == 2))) = lv2) (k : hp_U Φ G M (pc + 1) lv2 st h sz sl o) : hp_U Φ G M pc lv (.long x :: st) h sz sl o :=
  fun p e R s m args below meth c H locs cells slots ls C hΦ hH hz hl hS hc hs => lv_lstore_n C.1 C.2.1 hd hi hl hn hf (fun ls2 hl2 => k p e R s m args below meth c H locs cells slots ls2 C hΦ hH hz hl2 hS hc hs)
theorem hv_lstore {i : Nat} {x : Int64} (lv2 : List (Nat × Value)) (hd : decode M.2.1 pc = .ok (.lstore i, 2)) (hn : i + 1 < M.2.2.1) (hf : (i, Value.long x) :: lv.filter (fun q => !(q.1 == i) && (!(q.1 == i + 1) && !(q.1 + 1 == i && q.2.category == 2))) = lv2) (k : hp_U Φ G M (pc + 2) lv2 st h sz sl o) : hp_U Φ G M pc lv (.long x :: st) h sz sl o :=
  fun p e R s m args below meth c H locs cells slots ls C hΦ hH hz hl hS hc hs => lv_lstore C.1 C.2.1 hd hl hn hf (fun ls2 hl2 => k p e R s m args below meth c H locs cells slots ls2 C hΦ hH hz hl2 hS hc hs)
theorem hv_astore_n {k0 : Fin 4} {i : Nat} {x : Nat} (lv2 : List (Nat × Value)) (hd : decode M.2.1 pc = .ok (.astore_n k0, 1)) (hi : (k0 : Nat) = i) (hn : i < M.2.2.1) (hf : (i, Value.ref x) :: lv.filter (fun q => !(q.1 == i) && !(q.1 + 1 == i && q.2.category == 2)) = lv2) (k : hp_U Φ G M (pc + 1) lv2 st h sz sl o) : hp_U Φ G M pc lv (.ref x :: st) h sz sl o :=
  fun p e R s m args below meth c H locs cells slots ls C hΦ hH hz hl hS hc hs => lv_astore_n C.1 C.2.1 hd hi hl hn hf (fun ls2 hl2 => k p e R s m args below meth c H locs cells slots ls2 C hΦ hH hz hl2 hS hc hs)
theorem hv_astore {i : Nat} {x : Nat} (lv2 : List (Nat × Value)) (hd : decode M.2.1 pc = .ok (.astore i, 2)) (hn : i < M.2.2.1) (hf : (i, Value.ref x) :: lv.filter (fun q => !(q.1 == i) && !(q.1 + 1 == i && q.2.category == 2)) = lv2) (k : hp_U Φ G M (pc + 2) lv2 st h sz sl o) : hp_U Φ G M pc lv (.ref x :: st) h sz sl o :=
  fun p e R s m args below meth c H locs cells slots ls C hΦ hH hz hl hS hc hs => lv_astore C.1 C.2.1 hd hl hn hf (fun ls2 hl2 => k p e R s m args below meth c H locs cells slots ls2 C hΦ hH hz hl2 hS hc hs)
theorem hv_iinc {i : Nat} {n : Int} {x : Int32} (v : Int32) (j : Nat) (lv2 : List (Nat × Value)) (hd : decode M.2.1 pc = .ok (.iinc i n, 3)) (hj : lv[j]? = some (i, .int x)) (hv : x + Int32.ofInt n = v) (hn : i < M.2.2.1) (hf : (i, Value.int v) :: lv.filter (fun q => !(q.1 == i) && !(q.1 + 1 == i && q.2.category == 2)) = lv2) (k : hp_U Φ G M (pc + 3) lv2 st h sz sl o) : hp_U Φ G M pc lv st h sz sl o :=
  fun p e R s m args below meth c H locs cells slots ls C hΦ hH hz hl hS hc hs => lv_iinc C.1 C.2.1 hd hl hj hv hn hf (fun ls2 hl2 => k p e R s m args below meth c H locs cells slots ls2 C hΦ hH hz hl2 hS hc hs)
theorem hv_iadd {x y : Int32} (hd : decode M.2.1 pc = .ok (.iadd, 1)) (k : hp_U Φ G M (pc + 1) lv (.int (x + y) :: st) h sz sl o) : hp_U Φ G M pc lv (.int y :: .int x :: st) h sz sl o :=
  fun p e R s m args below meth c H locs cells slots ls C hΦ hH hz hl hS hc hs => lv_iadd C.1 C.2.1 hd (k p e R s m args below meth c H locs cells slots ls C hΦ hH hz hl hS hc hs)
theorem hv_isub {x y : Int32} (hd : decode M.2.1 pc = .ok (.isub, 1)) (k : hp_U Φ G M (pc + 1) lv (.int (x - y) :: st) h sz sl o) : hp_U Φ G M pc lv (.int y :: .int x :: st) h sz sl o :=
  fun p e R s m args below meth c H locs cells slots ls C hΦ hH hz hl hS hc hs => lv_isub C.1 C.2.1 hd (k p e R s m args below meth c H locs cells slots ls C hΦ hH hz hl hS hc hs)
theorem hv_imul {x y : Int32} (hd : decode M.2.1 pc = .ok (.imul, 1)) (k : hp_U Φ G M (pc + 1) lv (.int (x * y) :: st) h sz sl o) : hp_U Φ G M pc lv (.int y :: .int x :: st) h sz sl o :=
  fun p e R s m args below meth c H locs cells slots ls C hΦ hH hz hl hS hc hs => lv_imul C.1 C.2.1 hd (k p e R s m args below meth c H locs cells slots ls C hΦ hH hz hl hS hc hs)
theorem hv_iand {x y : Int32} (hd : decode M.2.1 pc = .ok (.iand, 1)) (k : hp_U Φ G M (pc + 1) lv (.int (x &&& y) :: st) h sz sl o) : hp_U Φ G M pc lv (.int y :: .int x :: st) h sz sl o :=
  fun p e R s m args below meth c H locs cells slots ls C hΦ hH hz hl hS hc hs => lv_iand C.1 C.2.1 hd (k p e R s m args below meth c H locs cells slots ls C hΦ hH hz hl hS hc hs)
theorem hv_ior {x y : Int32} (hd : decode M.2.1 pc = .ok (.ior, 1)) (k : hp_U Φ G M (pc + 1) lv (.int (x ||| y) :: st) h sz sl o) : hp_U Φ G M pc lv (.int y :: .int x :: st) h sz sl o :=
  fun p e R s m args below meth c H locs cells slots ls C hΦ hH hz hl hS hc hs => lv_ior C.1 C.2.1 hd (k p e R s m args below meth c H locs cells slots ls C hΦ hH hz hl hS hc hs)
theorem hv_ixor {x y : Int32} (hd : decode M.2.1 pc = .ok (.ixor, 1)) (k : hp_U Φ G M (pc + 1) lv (.int (x ^^^ y) :: st) h sz sl o) : hp_U Φ G M pc lv (.int y :: .int x :: st) h sz sl o :=
  fun p e R s m args below meth c H locs cells slots ls C hΦ hH hz hl hS hc hs => lv_ixor C.1 C.2.1 hd (k p e R s m args below meth c H locs cells slots ls C hΦ hH hz hl hS hc hs)
theorem hv_ishl {x y : Int32} (hd : decode M.2.1 pc = .ok (.ishl, 1)) (k : hp_U Φ G M (pc + 1) lv (.int (x <<< (y &&& 31)) :: st) h sz sl o) : hp_U Φ G M pc lv (.int y :: .int x :: st) h sz sl o :=
  fun p e R s m args below meth c H locs cells slots ls C hΦ hH hz hl hS hc hs => lv_ishl C.1 C.2.1 hd (k p e R s m args below meth c H locs cells slots ls C hΦ hH hz hl hS hc hs)
theorem hv_ishr {x y : Int32} (hd : decode M.2.1 pc = .ok (.ishr, 1)) (k : hp_U Φ G M (pc + 1) lv (.int (x >>> (y &&& 31)) :: st) h sz sl o) : hp_U Φ G M pc lv (.int y :: .int x :: st) h sz sl o :=
  fun p e R s m args below meth c H locs cells slots ls C hΦ hH hz hl hS hc hs => lv_ishr C.1 C.2.1 hd (k p e R s m args below meth c H locs cells slots ls C hΦ hH hz hl hS hc hs)
theorem hv_idiv {x y : Int32} (hd : decode M.2.1 pc = .ok (.idiv, 1)) (hne : ¬ y = 0) (k : hp_U Φ G M (pc + 1) lv (.int (x / y) :: st) h sz sl o) : hp_U Φ G M pc lv (.int y :: .int x :: st) h sz sl o :=
  fun p e R s m args below meth c H locs cells slots ls C hΦ hH hz hl hS hc hs => lv_idiv C.1 C.2.1 hd hne (k p e R s m args below meth c H locs cells slots ls C hΦ hH hz hl hS hc hs)
theorem hv_irem {x y : Int32} (hd : decode M.2.1 pc = .ok (.irem, 1)) (hne : ¬ y = 0) (k : hp_U Φ G M (pc + 1) lv (.int (x - x / y * y) :: st) h sz sl o) : hp_U Φ G M pc lv (.int y :: .int x :: st) h sz sl o :=
  fun p e R s m args below meth c H locs cells slots ls C hΦ hH hz hl hS hc hs => lv_irem C.1 C.2.1 hd hne (k p e R s m args below meth c H locs cells slots ls C hΦ hH hz hl hS hc hs)
theorem hv_ineg {x : Int32} (hd : decode M.2.1 pc = .ok (.ineg, 1)) (k : hp_U Φ G M (pc + 1) lv (.int (-x) :: st) h sz sl o) : hp_U Φ G M pc lv (.int x :: st) h sz sl o :=
  fun p e R s m args below meth c H locs cells slots ls C hΦ hH hz hl hS hc hs => lv_ineg C.1 C.2.1 hd (k p e R s m args below meth c H locs cells slots ls C hΦ hH hz hl hS hc hs)
theorem hv_iushr {x y : Int32} (hd : decode M.2.1 pc = .ok (.iushr, 1)) (k : hp_U Φ G M (pc + 1) lv (.int ((x.toUInt32 >>> (y.toUInt32 &&& Int32.toUInt32 31)).toInt32) :: st) h sz sl o) : hp_U Φ G M pc lv (.int y :: .int x :: st) h sz sl o :=
  fun p e R s m args below meth c H locs cells slots ls C hΦ hH hz hl hS hc hs => lv_iushr C.1 C.2.1 hd rfl (k p e R s m args below meth c H locs cells slots ls C hΦ hH hz hl hS hc hs)
theorem hv_ladd {x y : Int64} (hd : decode M.2.1 pc = .ok (.ladd, 1)) (k : hp_U Φ G M (pc + 1) lv (.long (x + y) :: st) h sz sl o) : hp_U Φ G M pc lv (.long y :: .long x :: st) h sz sl o :=
  fun p e R s m args below meth c H locs cells slots ls C hΦ hH hz hl hS hc hs => lv_ladd C.1 C.2.1 hd (k p e R s m args below meth c H locs cells slots ls C hΦ hH hz hl hS hc hs)
theorem hv_lsub {x y : Int64} (hd : decode M.2.1 pc = .ok (.lsub, 1)) (k : hp_U Φ G M (pc + 1) lv (.long (x - y) :: st) h sz sl o) : hp_U Φ G M pc lv (.long y :: .long x :: st) h sz sl o :=
  fun p e R s m args below meth c H locs cells slots ls C hΦ hH hz hl hS hc hs => lv_lsub C.1 C.2.1 hd (k p e R s m args below meth c H locs cells slots ls C hΦ hH hz hl hS hc hs)
theorem hv_lmul {x y : Int64} (hd : decode M.2.1 pc = .ok (.lmul, 1)) (k : hp_U Φ G M (pc + 1) lv (.long (x * y) :: st) h sz sl o) : hp_U Φ G M pc lv (.long y :: .long x :: st) h sz sl o :=
  fun p e R s m args below meth c H locs cells slots ls C hΦ hH hz hl hS hc hs => lv_lmul C.1 C.2.1 hd (k p e R s m args below meth c H locs cells slots ls C hΦ hH hz hl hS hc hs)
theorem hv_land {x y : Int64} (hd : decode M.2.1 pc = .ok (.land, 1)) (k : hp_U Φ G M (pc + 1) lv (.long (x &&& y) :: st) h sz sl o) : hp_U Φ G M pc lv (.long y :: .long x :: st) h sz sl o :=
  fun p e R s m args below meth c H locs cells slots ls C hΦ hH hz hl hS hc hs => lv_land C.1 C.2.1 hd (k p e R s m args below meth c H locs cells slots ls C hΦ hH hz hl hS hc hs)
theorem hv_lor {x y : Int64} (hd : decode M.2.1 pc = .ok (.lor, 1)) (k : hp_U Φ G M (pc + 1) lv (.long (x ||| y) :: st) h sz sl o) : hp_U Φ G M pc lv (.long y :: .long x :: st) h sz sl o :=
  fun p e R s m args below meth c H locs cells slots ls C hΦ hH hz hl hS hc hs => lv_lor C.1 C.2.1 hd (k p e R s m args below meth c H locs cells slots ls C hΦ hH hz hl hS hc hs)
theorem hv_lxor {x y : Int64} (hd : decode M.2.1 pc = .ok (.lxor, 1)) (k : hp_U Φ G M (pc + 1) lv (.long (x ^^^ y) :: st) h sz sl o) : hp_U Φ G M pc lv (.long y :: .long x :: st) h sz sl o :=
  fun p e R s m args below meth c H locs cells slots ls C hΦ hH hz hl hS hc hs => lv_lxor C.1 C.2.1 hd (k p e R s m args below meth c H locs cells slots ls C hΦ hH hz hl hS hc hs)
theorem hv_lushr {x : Int64} {y : Int32} (hd : decode M.2.1 pc = .ok (.lushr, 1)) (k : hp_U Φ G M (pc + 1) lv (.long ((x.toUInt64 >>> (y.toInt64.toUInt64 &&& Int64.toUInt64 63)).toInt64) :: st) h sz sl o) : hp_U Φ G M pc lv (.int y :: .long x :: st) h sz sl o :=
  fun p e R s m args below meth c H locs cells slots ls C hΦ hH hz hl hS hc hs => lv_lushr C.1 C.2.1 hd rfl (k p e R s m args below meth c H locs cells slots ls C hΦ hH hz hl hS hc hs)
theorem hv_lshl {x : Int64} {y : Int32} (hd : decode M.2.1 pc = .ok (.lshl, 1)) (k : hp_U Φ G M (pc + 1) lv (.long (x <<< (y.toInt64 &&& 63)) :: st) h sz sl o) : hp_U Φ G M pc lv (.int y :: .long x :: st) h sz sl o :=
  fun p e R s m args below meth c H locs cells slots ls C hΦ hH hz hl hS hc hs => lv_lshl C.1 C.2.1 hd rfl (k p e R s m args below meth c H locs cells slots ls C hΦ hH hz hl hS hc hs)
theorem hv_i2l {x : Int32} (hd : decode M.2.1 pc = .ok (.i2l, 1)) (k : hp_U Φ G M (pc + 1) lv (.long x.toInt64 :: st) h sz sl o) : hp_U Φ G M pc lv (.int x :: st) h sz sl o :=
  fun p e R s m args below meth c H locs cells slots ls C hΦ hH hz hl hS hc hs => lv_i2l C.1 C.2.1 hd rfl (k p e R s m args below meth c H locs cells slots ls C hΦ hH hz hl hS hc hs)
theorem hv_l2i {x : Int64} (hd : decode M.2.1 pc = .ok (.l2i, 1)) (k : hp_U Φ G M (pc + 1) lv (.int x.toInt32 :: st) h sz sl o) : hp_U Φ G M pc lv (.long x :: st) h sz sl o :=
  fun p e R s m args below meth c H locs cells slots ls C hΦ hH hz hl hS hc hs => lv_l2i C.1 C.2.1 hd rfl (k p e R s m args below meth c H locs cells slots ls C hΦ hH hz hl hS hc hs)
theorem hv_i2b {x : Int32} (hd : decode M.2.1 pc = .ok (.i2b, 1)) (k : hp_U Φ G M (pc + 1) lv (.int x.toInt8.toInt32 :: st) h sz sl o) : hp_U Φ G M pc lv (.int x :: st) h sz sl o :=
  fun p e R s m args below meth c H locs cells slots ls C hΦ hH hz hl hS hc hs => lv_i2b C.1 C.2.1 hd rfl (k p e R s m args below meth c H locs cells slots ls C hΦ hH hz hl hS hc hs)
theorem hv_lcmp {x y : Int64} (hd : decode M.2.1 pc = .ok (.lcmp, 1)) (k : hp_U Φ G M (pc + 1) lv (.int (lg_cmp x y) :: st) h sz sl o) : hp_U Φ G M pc lv (.long y :: .long x :: st) h sz sl o :=
  fun p e R s m args below meth c H locs cells slots ls C hΦ hH hz hl hS hc hs => W.lcmp C.1 C.2.1 hd (k p e R s m args below meth c H locs cells slots ls C hΦ hH hz hl hS hc hs)
theorem hv_dup {va : Value} (hd : decode M.2.1 pc = .ok (.dup, 1)) (h1 : va.category = 1) (k : hp_U Φ G M (pc + 1) lv (va :: va :: st) h sz sl o) : hp_U Φ G M pc lv (va :: st) h sz sl o :=
  fun p e R s m args below meth c H locs cells slots ls C hΦ hH hz hl hS hc hs => lv_dup C.1 C.2.1 hd h1 (k p e R s m args below meth c H locs cells slots ls C hΦ hH hz hl hS hc hs)
theorem hv_pop {va : Value} (hd : decode M.2.1 pc = .ok (.pop, 1)) (h1 : va.category = 1) (k : hp_U Φ G M (pc + 1) lv (st) h sz sl o) : hp_U Φ G M pc lv (va :: st) h sz sl o :=
  fun p e R s m args below meth c H locs cells slots ls C hΦ hH hz hl hS hc hs => lv_pop C.1 C.2.1 hd h1 (k p e R s m args below meth c H locs cells slots ls C hΦ hH hz hl hS hc hs)
theorem hv_dup2_11 {va vb : Value} (hd : decode M.2.1 pc = .ok (.dup2, 1)) (h1 : va.category = 1) (h2 : vb.category = 1) (k : hp_U Φ G M (pc + 1) lv (va :: vb :: va :: vb :: st) h sz sl o) : hp_U Φ G M pc lv (va :: vb :: st) h sz sl o :=
  fun p e R s m args below meth c H locs cells slots ls C hΦ hH hz hl hS hc hs => lv_dup2_11 C.1 C.2.1 hd h1 h2 (k p e R s m args below meth c H locs cells slots ls C hΦ hH hz hl hS hc hs)
theorem hv_ldc {index : Nat} (v : Int32) (hd : decode M.2.1 pc = .ok (.ldc index, 2)) (hw : Cond.constant M.1 index v ∈ lw_g) (k : hp_U Φ G M (pc + 2) lv (.int v :: st) h sz sl o) : hp_U Φ G M pc lv (st) h sz sl o :=
  fun p e R s m args below meth c H locs cells slots ls C hΦ hH hz hl hS hc hs => lv_ldc C.1 C.2.1 C.2.2.2.2.1 (C.2.2.2.2.2.1 _ hw) hd (k p e R s m args below meth c H locs cells slots ls C hΦ hH hz hl hS hc hs)
theorem hv_ldcw {index : Nat} (v : Int32) (hd : decode M.2.1 pc = .ok (.ldc_w index, 3)) (hw : Cond.constant M.1 index v ∈ lw_g) (k : hp_U Φ G M (pc + 3) lv (.int v :: st) h sz sl o) : hp_U Φ G M pc lv (st) h sz sl o :=
  fun p e R s m args below meth c H locs cells slots ls C hΦ hH hz hl hS hc hs => lv_ldcw C.1 C.2.1 C.2.2.2.2.1 (C.2.2.2.2.2.1 _ hw) hd (k p e R s m args below meth c H locs cells slots ls C hΦ hH hz hl hS hc hs)
theorem hv_ldc2 {index : Nat} (v : Int64) (hd : decode M.2.1 pc = .ok (.ldc2_w index, 3)) (hw : Cond.constantLong M.1 index v ∈ lw_g) (k : hp_U Φ G M (pc + 3) lv (.long v :: st) h sz sl o) : hp_U Φ G M pc lv (st) h sz sl o :=
  fun p e R s m args below meth c H locs cells slots ls C hΦ hH hz hl hS hc hs => lv_ldc2 C.1 C.2.1 C.2.2.2.2.1 (C.2.2.2.2.2.1 _ hw) hd (k p e R s m args below meth c H locs cells slots ls C hΦ hH hz hl hS hc hs)
theorem hv_if_eq {x : Int32} {off : Int} {tgt : Nat} (hd : decode M.2.1 pc = .ok (.ifCond .eq off, 3)) (ht : (pc : Int) + off = (tgt : Int)) (kt : x = 0 → hp_U Φ G M tgt lv st h sz sl o) (kf : ¬ x = 0 → hp_U Φ G M (pc + 3) lv st h sz sl o) : hp_U Φ G M pc lv (.int x :: st) h sz sl o :=
  fun p e R s m args below meth c H locs cells slots ls C hΦ hH hz hl hS hc hs => lv_if_eq C.1 C.2.1 hd ht (fun q => kt q p e R s m args below meth c H locs cells slots ls C hΦ hH hz hl hS hc hs) (fun q => kf q p e R s m args below meth c H locs cells slots ls C hΦ hH hz hl hS hc hs)
theorem hv_if_ne {x : Int32} {off : Int} {tgt : Nat} (hd : decode M.2.1 pc = .ok (.ifCond .ne off, 3)) (ht : (pc : Int) + off = (tgt : Int)) (kt : ¬ x = 0 → hp_U Φ G M tgt lv st h sz sl o) (kf : x = 0 → hp_U Φ G M (pc + 3) lv st h sz sl o) : hp_U Φ G M pc lv (.int x :: st) h sz sl o :=
  fun p e R s m args below meth c H locs cells slots ls C hΦ hH hz hl hS hc hs => lv_if_ne C.1 C.2.1 hd ht (fun q => kt q p e R s m args below meth c H locs cells slots ls C hΦ hH hz hl hS hc hs) (fun q => kf q p e R s m args below meth c H locs cells slots ls C hΦ hH hz hl hS hc hs)
theorem hv_if_lt {x : Int32} {off : Int} {tgt : Nat} (hd : decode M.2.1 pc = .ok (.ifCond .lt off, 3)) (ht : (pc : Int) + off = (tgt : Int)) (kt : x < 0 → hp_U Φ G M tgt lv st h sz sl o) (kf : ¬ x < 0 → hp_U Φ G M (pc + 3) lv st h sz sl o) : hp_U Φ G M pc lv (.int x :: st) h sz sl o :=
  fun p e R s m args below meth c H locs cells slots ls C hΦ hH hz hl hS hc hs => lv_if_lt C.1 C.2.1 hd ht (fun q => kt q p e R s m args below meth c H locs cells slots ls C hΦ hH hz hl hS hc hs) (fun q => kf q p e R s m args below meth c H locs cells slots ls C hΦ hH hz hl hS hc hs)
theorem hv_if_ge {x : Int32} {off : Int} {tgt : Nat} (hd : decode M.2.1 pc = .ok (.ifCond .ge off, 3)) (ht : (pc : Int) + off = (tgt : Int)) (kt : 0 ≤ x → hp_U Φ G M tgt lv st h sz sl o) (kf : ¬ 0 ≤ x → hp_U Φ G M (pc + 3) lv st h sz sl o) : hp_U Φ G M pc lv (.int x :: st) h sz sl o :=
  fun p e R s m args below meth c H locs cells slots ls C hΦ hH hz hl hS hc hs => lv_if_ge C.1 C.2.1 hd ht (fun q => kt q p e R s m args below meth c H locs cells slots ls C hΦ hH hz hl hS hc hs) (fun q => kf q p e R s m args below meth c H locs cells slots ls C hΦ hH hz hl hS hc hs)
theorem hv_if_gt {x : Int32} {off : Int} {tgt : Nat} (hd : decode M.2.1 pc = .ok (.ifCond .gt off, 3)) (ht : (pc : Int) + off = (tgt : Int)) (kt : 0 < x → hp_U Φ G M tgt lv st h sz sl o) (kf : ¬ 0 < x → hp_U Φ G M (pc + 3) lv st h sz sl o) : hp_U Φ G M pc lv (.int x :: st) h sz sl o :=
  fun p e R s m args below meth c H locs cells slots ls C hΦ hH hz hl hS hc hs => lv_if_gt C.1 C.2.1 hd ht (fun q => kt q p e R s m args below meth c H locs cells slots ls C hΦ hH hz hl hS hc hs) (fun q => kf q p e R s m args below meth c H locs cells slots ls C hΦ hH hz hl hS hc hs)
theorem hv_if_le {x : Int32} {off : Int} {tgt : Nat} (hd : decode M.2.1 pc = .ok (.ifCond .le off, 3)) (ht : (pc : Int) + off = (tgt : Int)) (kt : x ≤ 0 → hp_U Φ G M tgt lv st h sz sl o) (kf : ¬ x ≤ 0 → hp_U Φ G M (pc + 3) lv st h sz sl o) : hp_U Φ G M pc lv (.int x :: st) h sz sl o :=
  fun p e R s m args below meth c H locs cells slots ls C hΦ hH hz hl hS hc hs => lv_if_le C.1 C.2.1 hd ht (fun q => kt q p e R s m args below meth c H locs cells slots ls C hΦ hH hz hl hS hc hs) (fun q => kf q p e R s m args below meth c H locs cells slots ls C hΦ hH hz hl hS hc hs)
theorem hv_icmp_eq {x y : Int32} {off : Int} {tgt : Nat} (hd : decode M.2.1 pc = .ok (.if_icmp .eq off, 3)) (ht : (pc : Int) + off = (tgt : Int)) (kt : x = y → hp_U Φ G M tgt lv st h sz sl o) (kf : ¬ x = y → hp_U Φ G M (pc + 3) lv st h sz sl o) : hp_U Φ G M pc lv (.int y :: .int x :: st) h sz sl o :=
  fun p e R s m args below meth c H locs cells slots ls C hΦ hH hz hl hS hc hs => lv_icmp_eq C.1 C.2.1 hd ht (fun q => kt q p e R s m args below meth c H locs cells slots ls C hΦ hH hz hl hS hc hs) (fun q => kf q p e R s m args below meth c H locs cells slots ls C hΦ hH hz hl hS hc hs)
theorem hv_icmp_ne {x y : Int32} {off : Int} {tgt : Nat} (hd : decode M.2.1 pc = .ok (.if_icmp .ne off, 3)) (ht : (pc : Int) + off = (tgt : Int)) (kt : ¬ x = y → hp_U Φ G M tgt lv st h sz sl o) (kf : x = y → hp_U Φ G M (pc + 3) lv st h sz sl o) : hp_U Φ G M pc lv (.int y :: .int x :: st) h sz sl o :=
  fun p e R s m args below meth c H locs cells slots ls C hΦ hH hz hl hS hc hs => lv_icmp_ne C.1 C.2.1 hd ht (fun q => kt q p e R s m args below meth c H locs cells slots ls C hΦ hH hz hl hS hc hs) (fun q => kf q p e R s m args below meth c H locs cells slots ls C hΦ hH hz hl hS hc hs)
theorem hv_icmp_lt {x y : Int32} {off : Int} {tgt : Nat} (hd : decode M.2.1 pc = .ok (.if_icmp .lt off, 3)) (ht : (pc : Int) + off = (tgt : Int)) (kt : x < y → hp_U Φ G M tgt lv st h sz sl o) (kf : ¬ x < y → hp_U Φ G M (pc + 3) lv st h sz sl o) : hp_U Φ G M pc lv (.int y :: .int x :: st) h sz sl o :=
  fun p e R s m args below meth c H locs cells slots ls C hΦ hH hz hl hS hc hs => lv_icmp_lt C.1 C.2.1 hd ht (fun q => kt q p e R s m args below meth c H locs cells slots ls C hΦ hH hz hl hS hc hs) (fun q => kf q p e R s m args below meth c H locs cells slots ls C hΦ hH hz hl hS hc hs)
theorem hv_icmp_ge {x y : Int32} {off : Int} {tgt : Nat} (hd : decode M.2.1 pc = .ok (.if_icmp .ge off, 3)) (ht : (pc : Int) + off = (tgt : Int)) (kt : y ≤ x → hp_U Φ G M tgt lv st h sz sl o) (kf : ¬ y ≤ x → hp_U Φ G M (pc + 3) lv st h sz sl o) : hp_U Φ G M pc lv (.int y :: .int x :: st) h sz sl o :=
  fun p e R s m args below meth c H locs cells slots ls C hΦ hH hz hl hS hc hs => lv_icmp_ge C.1 C.2.1 hd ht (fun q => kt q p e R s m args below meth c H locs cells slots ls C hΦ hH hz hl hS hc hs) (fun q => kf q p e R s m args below meth c H locs cells slots ls C hΦ hH hz hl hS hc hs)
theorem hv_icmp_gt {x y : Int32} {off : Int} {tgt : Nat} (hd : decode M.2.1 pc = .ok (.if_icmp .gt off, 3)) (ht : (pc : Int) + off = (tgt : Int)) (kt : y < x → hp_U Φ G M tgt lv st h sz sl o) (kf : ¬ y < x → hp_U Φ G M (pc + 3) lv st h sz sl o) : hp_U Φ G M pc lv (.int y :: .int x :: st) h sz sl o :=
  fun p e R s m args below meth c H locs cells slots ls C hΦ hH hz hl hS hc hs => lv_icmp_gt C.1 C.2.1 hd ht (fun q => kt q p e R s m args below meth c H locs cells slots ls C hΦ hH hz hl hS hc hs) (fun q => kf q p e R s m args below meth c H locs cells slots ls C hΦ hH hz hl hS hc hs)
theorem hv_icmp_le {x y : Int32} {off : Int} {tgt : Nat} (hd : decode M.2.1 pc = .ok (.if_icmp .le off, 3)) (ht : (pc : Int) + off = (tgt : Int)) (kt : x ≤ y → hp_U Φ G M tgt lv st h sz sl o) (kf : ¬ x ≤ y → hp_U Φ G M (pc + 3) lv st h sz sl o) : hp_U Φ G M pc lv (.int y :: .int x :: st) h sz sl o :=
  fun p e R s m args below meth c H locs cells slots ls C hΦ hH hz hl hS hc hs => lv_icmp_le C.1 C.2.1 hd ht (fun q => kt q p e R s m args below meth c H locs cells slots ls C hΦ hH hz hl hS hc hs) (fun q => kf q p e R s m args below meth c H locs cells slots ls C hΦ hH hz hl hS hc hs)
theorem hv_goto {off : Int} {tgt : Nat} (hd : decode M.2.1 pc = .ok (.goto off, 3)) (ht : (pc : Int) + off = (tgt : Int)) (k : hp_U Φ G M tgt lv st h sz sl o) : hp_U Φ G M pc lv st h sz sl o :=
  fun p e R s m args below meth c H locs cells slots ls C hΦ hH hz hl hS hc hs => lv_goto C.1 C.2.1 hd ht (k p e R s m args below meth c H locs cells slots ls C hΦ hH hz hl hS hc hs)
theorem hv_lookup {dflt : Int} {ps : Array (Int × Int)} {len : Nat} {x : Int32} {off : Int} {tgt : Nat} (hd : decode M.2.1 pc = .ok (.lookupswitch dflt ps, len)) (hp : (ps.toList.zip (ps.toList.drop 1)).all (fun (a, next) => a.1 < next.1) = true) (ho : Op.lookupswitch.offset ps.toList dflt x.toInt = off) (ht : (pc : Int) + off = (tgt : Int)) (k : hp_U Φ G M tgt lv st h sz sl o) : hp_U Φ G M pc lv (.int x :: st) h sz sl o :=
  fun p e R s m args below meth c H locs cells slots ls C hΦ hH hz hl hS hc hs => lv_lookup C.1 C.2.1 hd hp ho ht (k p e R s m args below meth c H locs cells slots ls C hΦ hH hz hl hS hc hs)
theorem hv_tabOut {dflt lo hi : Int} {offs : Array Int} {len : Nat} {x : Int32} {tgt : Nat} (hd : decode M.2.1 pc = .ok (.tableswitch dflt lo hi offs, len)) (hb : x.toInt < lo ∨ hi < x.toInt) (ht : (pc : Int) + dflt = (tgt : Int)) (k : hp_U Φ G M tgt lv st h sz sl o) : hp_U Φ G M pc lv (.int x :: st) h sz sl o :=
  fun p e R s m args below meth c H locs cells slots ls C hΦ hH hz hl hS hc hs => lv_tableOut C.1 C.2.1 hd hb ht (k p e R s m args below meth c H locs cells slots ls C hΦ hH hz hl hS hc hs)
theorem hv_tabIn {dflt lo hi : Int} {offs : Array Int} {len : Nat} {x : Int32} {off : Int} {tgt : Nat} (hd : decode M.2.1 pc = .ok (.tableswitch dflt lo hi offs, len)) (h1 : ¬ x.toInt < lo) (h2 : ¬ hi < x.toInt) (ho : offs[(x.toInt - lo).toNat]? = some off) (ht : (pc : Int) + off = (tgt : Int)) (k : hp_U Φ G M tgt lv st h sz sl o) : hp_U Φ G M pc lv (.int x :: st) h sz sl o :=
  fun p e R s m args below meth c H locs cells slots ls C hΦ hH hz hl hS hc hs => lv_tableIn C.1 C.2.1 hd h1 h2 ho ht (k p e R s m args below meth c H locs cells slots ls C hΦ hH hz hl hS hc hs)
end HPV
