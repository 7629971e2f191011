/-! What a method reads and writes in a heap that is a function -/
def hp_w (h : hp_H) (a : Nat) (e : hp_E) : hp_H := fun q => if q = a then some e else h q
def hp_f (h : hp_H) (ci a k : Nat) : Option Value := match h a with
  | some (.inr (.inr (c, V))) => if c = ci then some (V k) else none
  | _ => none
def hp_fI (h : hp_H) (ci a k : Nat) : Option Int32 := match hp_f h ci a k with
  | some (.int x) => some x
  | _ => none
def hp_fR (h : hp_H) (ci a k : Nat) : Option Nat := match hp_f h ci a k with
  | some (.ref x) => some x
  | _ => none
def hp_in (i : Int32) (n : Nat) : Prop := 0 ≤ i.toInt ∧ i.toInt < (n : Int)
theorem hp_in_def (i : Int32) (n : Nat) : hp_in i n ↔ (0 ≤ i.toInt ∧ i.toInt < (n : Int)) := Iff.rfl
def hp_aI (h : hp_H) (t a : Nat) (i : Int32) : Option Int32 := match h a with
  | some (.inl (t2, n, f)) => if t2 = t ∧ (0 ≤ i.toInt ∧ i.toInt < (n : Int)) then some (f i.toNatClampNeg) else none
  | _ => none
def hp_aJ (h : hp_H) (a : Nat) (i : Int32) : Option Int64 := match h a with
  | some (.inr (.inl (n, f))) => if 0 ≤ i.toInt ∧ i.toInt < (n : Int) then some (f i.toNatClampNeg) else none
  | _ => none
def hp_len (h : hp_H) (a : Nat) : Option Int32 := match h a with
  | some (.inl (_, n, _)) => some (Int32.ofNat n)
  | some (.inr (.inl (n, _))) => some (Int32.ofNat n)
  | _ => none
def hp_pF (h : hp_H) (ci a k : Nat) (v : Value) : Option hp_H := match h a with
  | some (.inr (.inr (c, V))) => if c = ci then some (hp_w h a (.inr (.inr (c, updV V k v)))) else none
  | _ => none
def hp_nar (t : Nat) (x : Int32) : Int32 := match t with
  | 0 => x
  | 1 => vp_nar .byte x
  | _ => vp_nar .boolean x
def hp_sI (h : hp_H) (t a : Nat) (i x : Int32) : Option hp_H := match h a with
  | some (.inl (t2, n, f)) => if t2 = t ∧ (0 ≤ i.toInt ∧ i.toInt < (n : Int)) then some (hp_w h a (.inl (t2, n, upd f i.toNatClampNeg (hp_nar t x)))) else none
  | _ => none
def hp_sJ (h : hp_H) (a : Nat) (i : Int32) (x : Int64) : Option hp_H := match h a with
  | some (.inr (.inl (n, f))) => if 0 ≤ i.toInt ∧ i.toInt < (n : Int) then some (hp_w h a (.inr (.inl (n, vp_updL f i.toNatClampNeg x)))) else none
  | _ => none
theorem hp_f_spec {h : hp_H} {ci a k : Nat} {v : Value} (e : hp_f h ci a k = some v) : ∃ V, h a = some (.inr (.inr (ci, V))) ∧ V k = v := by
  unfold hp_f at e
  split at e
  · rename_i c V he
    split at e
    · rename_i hc
      subst hc
      exact ⟨V, he, Option.some.inj e⟩
    · cases e
  · cases e
theorem hp_fI_spec {h : hp_H} {ci a k : Nat} {v : Int32} (e : hp_fI h ci a k = some v) : hp_f h ci a k = some (.int v) := by
  unfold hp_fI at e
  split at e
  · rename_i x he
    rw [he, Option.some.inj e]
  · cases e
theorem hp_fR_spec {h : hp_H} {ci a k : Nat} {v : Nat} (e : hp_fR h ci a k = some v) : hp_f h ci a k = some (.ref v) := by
  unfold hp_fR at e
  split at e
  · rename_i x he
    rw [he, Option.some.inj e]
  · cases e
theorem hp_aI_spec {h : hp_H} {t a : Nat} {i v : Int32} (e : hp_aI h t a i = some v) : ∃ n f, h a = some (.inl (t, n, f)) ∧ vp_in i n ∧ f i.toNatClampNeg = v := by
  unfold hp_aI at e
  split at e
  · rename_i t2 n f he
    split at e
    · rename_i hc
      obtain ⟨rfl, hc⟩ := hc
      exact ⟨n, f, he, vp_in_iff.mpr hc, Option.some.inj e⟩
    · cases e
  · cases e
theorem hp_aJ_spec {h : hp_H} {a : Nat} {i : Int32} {v : Int64} (e : hp_aJ h a i = some v) : ∃ n f, h a = some (.inr (.inl (n, f))) ∧ vp_in i n ∧ f i.toNatClampNeg = v := by
  unfold hp_aJ at e
  split at e
  · rename_i n f he
    split at e
    · rename_i hc
      exact ⟨n, f, he, vp_in_iff.mpr hc, Option.some.inj e⟩
    · cases e
  · cases e
theorem hp_pF_spec {h h2 : hp_H} {ci a k : Nat} {v : Value} (e : hp_pF h ci a k v = some h2) : ∃ V, h a = some (.inr (.inr (ci, V))) ∧ h2 = hp_w h a (.inr (.inr (ci, updV V k v))) := by
  unfold hp_pF at e
  split at e
  · rename_i c V he
    split at e
    · rename_i hc
      subst hc
      exact ⟨V, he, (Option.some.inj e).symm⟩
    · cases e
  · cases e
theorem hp_sI_spec {h h2 : hp_H} {t a : Nat} {i x : Int32} (e : hp_sI h t a i x = some h2) : ∃ n f, h a = some (.inl (t, n, f)) ∧ vp_in i n ∧ h2 = hp_w h a (.inl (t, n, upd f i.toNatClampNeg (hp_nar t x))) := by
  unfold hp_sI at e
  split at e
  · rename_i t2 n f he
    split at e
    · rename_i hc
      obtain ⟨rfl, hc⟩ := hc
      exact ⟨n, f, he, vp_in_iff.mpr hc, (Option.some.inj e).symm⟩
    · cases e
  · cases e
theorem hp_sJ_spec {h h2 : hp_H} {a : Nat} {i : Int32} {x : Int64} (e : hp_sJ h a i x = some h2) : ∃ n f, h a = some (.inr (.inl (n, f))) ∧ vp_in i n ∧ h2 = hp_w h a (.inr (.inl (n, vp_updL f i.toNatClampNeg x))) := by
  unfold hp_sJ at e
  split at e
  · rename_i n f he
    split at e
    · rename_i hc
      exact ⟨n, f, he, vp_in_iff.mpr hc, (Option.some.inj e).symm⟩
    · cases e
  · cases e
theorem hp_at.kept {G : hp_G} {e : hp_E} {a : Nat} {H H1 : Heap} (h : hp_at G e a H) (hq : H1[a]? = H[a]?) : hp_at G e a H1 := by
  obtain ⟨t, n, f⟩ | ⟨n, f⟩ | ⟨ci, V⟩ := e
  · exact ⟨h.1, hq.trans h.2⟩
  · exact hq.trans h
  · obtain ⟨r, h1, h2⟩ := h
    exact ⟨r, h1, h2.kept hq⟩
theorem hp_at.lt {G : hp_G} {e : hp_E} {a : Nat} {H : Heap} (h : hp_at G e a H) : a < H.size := by
  obtain ⟨t, n, f⟩ | ⟨n, f⟩ | ⟨ci, V⟩ := e
  · exact (Array.getElem?_eq_some_iff.mp h.2).1
  · exact (Array.getElem?_eq_some_iff.mp h).1
  · obtain ⟨r, h1, cell, h2, -⟩ := h
    exact (Array.getElem?_eq_some_iff.mp h2).1
/-- one cell is written, the others stay -/
theorem hp_ok.put {G : hp_G} {h : hp_H} {H H1 : Heap} {a : Nat} {e : hp_E} (hH : hp_ok G h H) (hb : G.2.1 ≤ a) (he : hp_at G e a H1) (hq : ∀ q : Nat, q ≠ a → H1[q]? = H[q]?) : hp_ok G (hp_w h a e) H1 := by
  intro q e2 h2
  unfold hp_w at h2
  split at h2
  · rename_i hqa
    subst hqa
    cases h2
    exact ⟨hb, he⟩
  · rename_i hqa
    obtain ⟨h3, h4⟩ := hH q e2 h2
    exact ⟨h3, h4.kept (hq q hqa)⟩
/-- a cell comes -/
theorem hp_ok.push {G : hp_G} {h : hp_H} {H H1 : Heap} {e : hp_E} (hH : hp_ok G h H) (hb : G.2.1 ≤ H.size) (he : hp_at G e H.size H1) (hq : ∀ q : Nat, q < H.size → H1[q]? = H[q]?) : hp_ok G (hp_w h H.size e) H1 := by
  intro q e2 h2
  unfold hp_w at h2
  split at h2
  · rename_i hqa
    subst hqa
    cases h2
    exact ⟨hb, he⟩
  · obtain ⟨h3, h4⟩ := hH q e2 h2
    exact ⟨h3, h4.kept (hq q h4.lt)⟩
/-- a class of the list, with its words -/
def hp_CL (ci : Nat) (C : String) (T : u_T) (N : Nat) (ty : Nat → FieldType) : Prop :=
  hp_cl[ci]? = some (C, T, N) ∧ (∀ w ∈ u_ws C T N, w ∈ lw_g) ∧ (∀ k, k < N → parseFieldDescriptor (T k).2.2.1 = some (ty k)) ∧ (∀ a, a < N → ∀ b, b < N → a ≠ b → (T a).2.1 ≠ (T b).2.1)
/-- a field's link: the pool's place in the class own is field k of class ci, of type ty, final or not -/
def hp_FL (own : String) (index ci k : Nat) (fin : Bool) (ty : FieldType) : Prop :=
  ∃ (C : String) (T : u_T) (N : Nat) (ty0 : Nat → FieldType), hp_CL ci C T N ty0 ∧ k < N ∧ ty0 k = ty ∧ (T k).2.2.2 = fin ∧ (T k).1 = C ∧ Cond.fieldLink own index C (T k).2.1 (T k).2.2.1 ∈ lw_g
section HPR
variable {Φ : State → Prop} {G : hp_G} {M : hp_M} {pc : Nat} {lv : List (Nat × Value)} {st : List Value} {h h2 : hp_H} {sz sl : Nat} {o : hp_O}
theorem hv_get {index ci a k : Nat} {fin : Bool} {ty : FieldType} {v : Value} (hF : hp_FL M.1 index ci k fin ty) (hd : decode M.2.1 pc = .ok (.getfield index, 3)) (hv : hp_f h ci a k = some v) (kk : hp_U Φ G M (pc + 3) lv (v :: st) h sz sl o) : hp_U Φ G M pc lv (.ref a :: st) h sz sl o := by
  intro p e R s m args below meth c H locs cells slots ls C hΦ hH hz hl hS hc hs
  obtain ⟨V, ha, hV⟩ := hp_f_spec hv
  obtain ⟨Cn, T, N, ty0, ⟨g1, g2, g3, g4⟩, g5, g6, g7, g8, g9⟩ := hF
  obtain ⟨hbase, r, h1, cell, q1, q2, q3, q4⟩ := hH a _ ha
  have hr : r = (Cn, T, N) := Option.some.inj (h1.symm.trans g1)
  subst hr
  have hts := C.2.2.2.2.2.1
  obtain ⟨hSl, hfc, kC, hkC, hkind⟩ := C.2.2.2.2.2.2.2.2.1.1 ci _ g1
  obtain ⟨cf, kf, fi, f, hi, hsl⟩ := hSl k g5
  rw [g8] at hi
  refine W.getf C.1 C.2.1 C.2.2.2.2.1 (hts _ g9) hi (u_facts hfc hkC (by have := u_lays hts g2 g5; rw [g8] at this; exact this) hi).1 q1 (by rw [q3]; exact fun h => by cases h) (v := v) ?_ rfl rfl hd (kk p e R s m args below meth c H locs cells slots ls C hΦ hH hz hl hS hc hs)
  rw [hsl, q4 k g5, hV]
theorem hv_put {index ci a k : Nat} {ty : FieldType} {v : Value} (hF : hp_FL M.1 index ci k false ty) (hd : decode M.2.1 pc = .ok (.putfield index, 3)) (hn : narrow ty v = v) (hfit : fits ty v = true) (hw : hp_pF h ci a k v = some h2) (kk : hp_U Φ G M (pc + 3) lv st h2 sz sl o) : hp_U Φ G M pc lv (v :: .ref a :: st) h sz sl o := by
  intro p e R s m args below meth c H locs cells slots ls C hΦ hH hz hl hS hc hs
  obtain ⟨V, ha, rfl⟩ := hp_pF_spec hw
  obtain ⟨Cn, T, N, ty0, ⟨g1, g2, g3, g4⟩, g5, g6, g7, g8, g9⟩ := hF
  subst g6
  obtain ⟨hbase, r, h1, cell, q1, q2, q3, q4⟩ := hH a _ ha
  have hr : r = (Cn, T, N) := Option.some.inj (h1.symm.trans g1)
  subst hr
  have hts := C.2.2.2.2.2.1
  have hK := C.2.2.2.2.2.2.2.2.1
  have hap := va_apart (own := M.1) hts g2 ty0 g3 g4 hK g1
  obtain ⟨hSl, hfc, kC, hkC, hkind⟩ := hK.1 ci _ g1
  obtain ⟨cf, kf, fi, f, hi, hsl⟩ := hSl k g5
  have hlay := hts _ (g2 _ (u_in_lay g5))
  unfold u_lay at hlay
  rw [if_neg (by rw [g7]; decide)] at hlay
  have hst := (u_facts hfc hkC (u_lays hts g2 g5) hi).1
  have h6 := u_store hfc hkC hkind hlay hi (g3 k g5) hn hfit
  rw [g8] at hi
  refine W.putK C.1 C.2.1 (f := f) ⟨C.2.2.2.2.1, hts _ g9, ⟨_, _, _, hi⟩, hst⟩ (by rw [q2]; exact h6) q1 q3 (by rw [hsl]; exact k2_hasslot (q4 k g5)) rfl rfl hd fun H' e1 e2 e3 => ?_
  rw [hsl] at e1 ⊢
  exact kk p e R s m args below meth c H' _ cells slots ls C hΦ (hH.put hbase ⟨_, g1, _, e1, q2, q3, t_set q4 hap g5 v⟩ e3) (e2.trans hz) hl (hS.put e2 e3 hbase) hc hs
theorem hv_putF {index ci a k : Nat} {ty : FieldType} {v : Value} (hF : hp_FL M.1 index ci k true ty) (hown : ∀ C T N, hp_cl[ci]? = some (C, T, N) → C = M.1) (hi : M.2.2.2.2.2.2 = "<init>") (hd : decode M.2.1 pc = .ok (.putfield index, 3)) (hn : narrow ty v = v) (hfit : fits ty v = true) (hw : hp_pF h ci a k v = some h2) (kk : hp_U Φ G M (pc + 3) lv st h2 sz sl o) : hp_U Φ G M pc lv (v :: .ref a :: st) h sz sl o := by
  intro p e R s m args below meth c H locs cells slots ls C hΦ hH hz hl hS hc hs
  obtain ⟨V, ha, rfl⟩ := hp_pF_spec hw
  obtain ⟨Cn, T, N, ty0, ⟨g1, g2, g3, g4⟩, g5, g6, g7, g8, g9⟩ := hF
  subst g6
  obtain ⟨hbase, r, h1, cell, q1, q2, q3, q4⟩ := hH a _ ha
  have hr : r = (Cn, T, N) := Option.some.inj (h1.symm.trans g1)
  subst hr
  have hts := C.2.2.2.2.2.1
  have hK := C.2.2.2.2.2.2.2.2.1
  have hap := va_apart (own := M.1) hts g2 ty0 g3 g4 hK g1
  obtain ⟨hSl, hfc, kC, hkC, hkind⟩ := hK.1 ci _ g1
  obtain ⟨cf, kf, fi, f, hif, hsl⟩ := hSl k g5
  have hlay := hts _ (g2 _ (u_in_lay g5))
  unfold u_lay at hlay
  rw [if_pos g7] at hlay
  have hst := (u_facts hfc hkC (u_lays hts g2 g5) hif).1
  have hcf : m.cls = cf := by
    obtain ⟨_, _, c', _, _, _, -, -, hf', -, -, -, hown2, -⟩ := Cond.laysFinal_spec hlay
    have e1 : c' = cf := by have := hif.symm.trans hf'; simp at this; exact this.1.symm
    rw [g8, hown _ _ _ g1] at hown2
    rw [← e1]; exact Option.some.inj (C.2.2.2.2.1.symm.trans hown2)
  have h6 := u_fits hfc hkC hkind (Or.inr hlay) hif (g3 k g5) hn hfit
  rw [g8] at hif
  refine W.putFinK C.1 C.2.1 C.2.2.2.2.1 (hts _ g9) hif hst hcf (C.2.2.2.2.2.2.2.1 hi) (by rw [q2]; exact h6) q1 q3 (by rw [hsl]; exact k2_hasslot (q4 k g5)) rfl rfl hd fun H' e1 e2 e3 => ?_
  rw [hsl] at e1 ⊢
  exact kk p e R s m args below meth c H' _ cells slots ls C hΦ (hH.put hbase ⟨_, g1, _, e1, q2, q3, t_set q4 hap g5 v⟩ e3) (e2.trans hz) hl (hS.put e2 e3 hbase) hc hs
theorem hv_iald {a : Nat} {i v : Int32} (hd : decode M.2.1 pc = .ok (.iaload, 1)) (hv : hp_aI h 0 a i = some v) (kk : hp_U Φ G M (pc + 1) lv (.int v :: st) h sz sl o) : hp_U Φ G M pc lv (.int i :: .ref a :: st) h sz sl o := by
  intro p e R s m args below meth c H locs cells slots ls C hΦ hH hz hl hS hc hs
  obtain ⟨n, f, ha, hin, rfl⟩ := hp_aI_spec hv
  obtain ⟨hbase, -, h1⟩ := hH a _ ha
  have hlt : i.toNatClampNeg < n := Nat.not_le.mp fun q => hin (Or.inr q)
  exact W.iald (v := .int (f i.toNatClampNeg)) C.1 C.2.1 h1 ((C.2.2.2.2.2.2.2.2.1.2 0 _ rfl).1 n (fun j => .int (f j))) (fun q => by cases q) (by rw [arrV_size]; exact hin) (by rw [arrV_read _ _ hlt]) rfl rfl hd (kk p e R s m args below meth c H locs cells slots ls C hΦ hH hz hl hS hc hs)
theorem hv_bald {a : Nat} {i v : Int32} (hd : decode M.2.1 pc = .ok (.baload, 1)) (hv : hp_aI h 1 a i = some v) (kk : hp_U Φ G M (pc + 1) lv (.int v :: st) h sz sl o) : hp_U Φ G M pc lv (.int i :: .ref a :: st) h sz sl o := by
  intro p e R s m args below meth c H locs cells slots ls C hΦ hH hz hl hS hc hs
  obtain ⟨n, f, ha, hin, rfl⟩ := hp_aI_spec hv
  obtain ⟨hbase, -, h1⟩ := hH a _ ha
  have hlt : i.toNatClampNeg < n := Nat.not_le.mp fun q => hin (Or.inr q)
  exact W.bald (v := .int (f i.toNatClampNeg)) C.1 C.2.1 h1 ((C.2.2.2.2.2.2.2.2.1.2 1 _ rfl).1 n (fun j => .int (f j))) (fun q => by cases q) (by rw [arrV_size]; exact hin) (by rw [arrV_read _ _ hlt]) rfl rfl hd (kk p e R s m args below meth c H locs cells slots ls C hΦ hH hz hl hS hc hs)
theorem hv_zald {a : Nat} {i v : Int32} (hd : decode M.2.1 pc = .ok (.baload, 1)) (hv : hp_aI h 2 a i = some v) (kk : hp_U Φ G M (pc + 1) lv (.int v :: st) h sz sl o) : hp_U Φ G M pc lv (.int i :: .ref a :: st) h sz sl o := by
  intro p e R s m args below meth c H locs cells slots ls C hΦ hH hz hl hS hc hs
  obtain ⟨n, f, ha, hin, rfl⟩ := hp_aI_spec hv
  obtain ⟨hbase, -, h1⟩ := hH a _ ha
  have hlt : i.toNatClampNeg < n := Nat.not_le.mp fun q => hin (Or.inr q)
  exact W.zald (v := .int (f i.toNatClampNeg)) C.1 C.2.1 h1 ((C.2.2.2.2.2.2.2.2.1.2 2 _ rfl).1 n (fun j => .int (f j))) (fun q => by cases q) (by rw [arrV_size]; exact hin) (by rw [arrV_read _ _ hlt]) rfl rfl hd (kk p e R s m args below meth c H locs cells slots ls C hΦ hH hz hl hS hc hs)
theorem hv_lald {a : Nat} {i : Int32} {v : Int64} (hd : decode M.2.1 pc = .ok (.laload, 1)) (hv : hp_aJ h a i = some v) (kk : hp_U Φ G M (pc + 1) lv (.long v :: st) h sz sl o) : hp_U Φ G M pc lv (.int i :: .ref a :: st) h sz sl o := by
  intro p e R s m args below meth c H locs cells slots ls C hΦ hH hz hl hS hc hs
  obtain ⟨n, f, ha, hin, rfl⟩ := hp_aJ_spec hv
  obtain ⟨hbase, h1⟩ := hH a _ ha
  have hlt : i.toNatClampNeg < n := Nat.not_le.mp fun q => hin (Or.inr q)
  exact W.lald (v := .long (f i.toNatClampNeg)) C.1 C.2.1 h1 ((C.2.2.2.2.2.2.2.2.1.2 3 _ rfl).1 n (fun j => .long (f j))) (fun q => by cases q) (by rw [arrV_size]; exact hin) (by rw [arrV_read _ _ hlt]) rfl rfl hd (kk p e R s m args below meth c H locs cells slots ls C hΦ hH hz hl hS hc hs)
theorem hp_arrI {cA : ClassId} {n : Nat} {f : Nat → Int32} {k : Nat} {x : Int32} : (arrV cA n (fun j => .int (f j))).setSlot k (.int x) = arrV cA n (fun j => .int (upd f k x j)) := by
  rw [arrV_store]
  congr 1
  funext q
  by_cases hq : q = k
  · subst hq; simp [updV, upd]
  · simp [updV, upd, hq]
theorem hp_arrJ {cA : ClassId} {n : Nat} {f : Nat → Int64} {k : Nat} {x : Int64} : (arrV cA n (fun j => .long (f j))).setSlot k (.long x) = arrV cA n (fun j => .long (vp_updL f k x j)) := by
  rw [arrV_store]
  congr 1
  funext q
  by_cases hq : q = k
  · subst hq; simp [updV, vp_updL]
  · simp [updV, vp_updL, hq]
theorem hv_iast {a : Nat} {i x : Int32} (hd : decode M.2.1 pc = .ok (.iastore, 1)) (hw : hp_sI h 0 a i x = some h2) (kk : hp_U Φ G M (pc + 1) lv st h2 sz sl o) : hp_U Φ G M pc lv (.int x :: .int i :: .ref a :: st) h sz sl o := by
  intro p e R s m args below meth c H locs cells slots ls C hΦ hH hz hl hS hc hs
  obtain ⟨n, f, ha, hin, rfl⟩ := hp_sI_spec hw
  obtain ⟨hbase, h0, h1⟩ := hH a _ ha
  refine W.iast C.1 C.2.1 h1 ((C.2.2.2.2.2.2.2.2.1.2 0 _ rfl).1 n (fun j => .int (f j))) (fun q => by cases q) (by rw [arrV_size]; exact hin) rfl rfl hd fun H1 e1 z oq => ?_
  exact kk p e R s m args below meth c H1 _ cells slots ls C hΦ (hH.put hbase ⟨h0, by rw [e1]; exact congrArg some hp_arrI⟩ oq) (z.trans hz) hl (hS.put z oq hbase) hc hs
theorem hv_bast {a : Nat} {i x : Int32} (hd : decode M.2.1 pc = .ok (.bastore, 1)) (hw : hp_sI h 1 a i x = some h2) (kk : hp_U Φ G M (pc + 1) lv st h2 sz sl o) : hp_U Φ G M pc lv (.int x :: .int i :: .ref a :: st) h sz sl o := by
  intro p e R s m args below meth c H locs cells slots ls C hΦ hH hz hl hS hc hs
  obtain ⟨n, f, ha, hin, rfl⟩ := hp_sI_spec hw
  obtain ⟨hbase, h0, h1⟩ := hH a _ ha
  refine W.bast C.1 C.2.1 h1 ((C.2.2.2.2.2.2.2.2.1.2 1 _ rfl).1 n (fun j => .int (f j))) (fun q => by cases q) (by rw [arrV_size]; exact hin) rfl rfl hd fun H1 e1 z oq => ?_
  exact kk p e R s m args below meth c H1 _ cells slots ls C hΦ (hH.put hbase ⟨h0, by rw [e1]; exact congrArg some hp_arrI⟩ oq) (z.trans hz) hl (hS.put z oq hbase) hc hs
theorem hv_zast {a : Nat} {i x : Int32} (hd : decode M.2.1 pc = .ok (.bastore, 1)) (hw : hp_sI h 2 a i x = some h2) (kk : hp_U Φ G M (pc + 1) lv st h2 sz sl o) : hp_U Φ G M pc lv (.int x :: .int i :: .ref a :: st) h sz sl o := by
  intro p e R s m args below meth c H locs cells slots ls C hΦ hH hz hl hS hc hs
  obtain ⟨n, f, ha, hin, rfl⟩ := hp_sI_spec hw
  obtain ⟨hbase, h0, h1⟩ := hH a _ ha
  refine W.zast C.1 C.2.1 h1 ((C.2.2.2.2.2.2.2.2.1.2 2 _ rfl).1 n (fun j => .int (f j))) (fun q => by cases q) (by rw [arrV_size]; exact hin) rfl rfl hd fun H1 e1 z oq => ?_
  exact kk p e R s m args below meth c H1 _ cells slots ls C hΦ (hH.put hbase ⟨h0, by rw [e1]; exact congrArg some hp_arrI⟩ oq) (z.trans hz) hl (hS.put z oq hbase) hc hs
theorem hv_last {a : Nat} {i : Int32} {x : Int64} (hd : decode M.2.1 pc = .ok (.lastore, 1)) (hw : hp_sJ h a i x = some h2) (kk : hp_U Φ G M (pc + 1) lv st h2 sz sl o) : hp_U Φ G M pc lv (.long x :: .int i :: .ref a :: st) h sz sl o := by
  intro p e R s m args below meth c H locs cells slots ls C hΦ hH hz hl hS hc hs
  obtain ⟨n, f, ha, hin, rfl⟩ := hp_sJ_spec hw
  obtain ⟨hbase, h1⟩ := hH a _ ha
  refine W.last C.1 C.2.1 h1 ((C.2.2.2.2.2.2.2.2.1.2 3 _ rfl).1 n (fun j => .long (f j))) (fun q => by cases q) (by rw [arrV_size]; exact hin) rfl rfl hd fun H1 e1 z oq => ?_
  exact kk p e R s m args below meth c H1 _ cells slots ls C hΦ (hH.put hbase (by show H1[a]? = _; rw [e1]; exact congrArg some hp_arrJ) oq) (z.trans hz) hl (hS.put z oq hbase) hc hs
theorem hv_alen {a : Nat} {v : Int32} (hd : decode M.2.1 pc = .ok (.arraylength, 1)) (hv : hp_len h a = some v) (kk : hp_U Φ G M (pc + 1) lv (.int v :: st) h sz sl o) : hp_U Φ G M pc lv (.ref a :: st) h sz sl o := by
  intro p e R s m args below meth c H locs cells slots ls C hΦ hH hz hl hS hc hs
  have hK := C.2.2.2.2.2.2.2.2.1
  unfold hp_len at hv
  split at hv
  · rename_i t n f ha
    obtain ⟨hbase, h0, h1⟩ := hH a _ ha
    have hA : ∃ ty, ArrOfT s (G.2.2.2 t) ty := by
      rcases (show t = 0 ∨ t = 1 ∨ t = 2 by omega) with rfl | rfl | rfl
      · exact ⟨_, (hK.2 0 _ rfl).1⟩
      · exact ⟨_, (hK.2 1 _ rfl).1⟩
      · exact ⟨_, (hK.2 2 _ rfl).1⟩
    obtain ⟨ty, hA⟩ := hA
    exact W.alen (n := v) C.1 C.2.1 h1 (hA n (fun j => .int (f j))) (by rw [arrV_size]; exact Option.some.inj hv) rfl rfl hd (kk p e R s m args below meth c H locs cells slots ls C hΦ hH hz hl hS hc hs)
  · rename_i n f ha
    obtain ⟨hbase, h1⟩ := hH a _ ha
    exact W.alen (n := v) C.1 C.2.1 h1 ((hK.2 3 _ rfl).1 n (fun j => .long (f j))) (by rw [arrV_size]; exact Option.some.inj hv) rfl rfl hd (kk p e R s m args below meth c H locs cells slots ls C hΦ hH hz hl hS hc hs)
  · cases hv
end HPR
