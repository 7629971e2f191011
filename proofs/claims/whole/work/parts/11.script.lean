/-! The law's own script, which lies below all that is ours -/
def hp_Sc (b L : Nat) (xs : Nat → Int32) : State → Prop := fun s => va_X b L xs s s.heap
def hp_sc (L : Nat) (xs : Nat → Int32) (i : Int32) : Option Int32 := if 0 ≤ i.toInt ∧ i.toInt < (L : Int) then some (xs i.toNatClampNeg) else none
theorem hp_sc_spec {L : Nat} {xs : Nat → Int32} {i v : Int32} (e : hp_sc L xs i = some v) : vp_in i L ∧ xs i.toNatClampNeg = v := by
  unfold hp_sc at e
  split at e
  · rename_i hc
    exact ⟨vp_in_iff.mpr hc, Option.some.inj e⟩
  · cases e
theorem hv_sld {G : hp_G} {M : hp_M} {pc : Nat} {lv : List (Nat × Value)} {st : List Value} {h : hp_H} {sz sl : Nat} {o : hp_O} {b L : Nat} {xs : Nat → Int32} {i v : Int32} (hb : b < G.2.1) (hd : decode M.2.1 pc = .ok (.iaload, 1)) (hv : hp_sc L xs i = some v) (k : hp_U (hp_Sc b L xs) G M (pc + 1) lv (.int v :: st) h sz sl o) : hp_U (hp_Sc b L xs) G M pc lv (.int i :: .ref b :: st) h sz sl o := by
  intro p e R s m args below meth c H locs cells slots ls C hΦ hH hz hl hS hc hs
  obtain ⟨h1, rfl⟩ := hp_sc_spec hv
  exact va_sld C.1 C.2.1 hΦ (Nat.lt_of_lt_of_le hb C.2.2.2.2.2.2.2.2.2.1) (Nat.not_le.mpr hb) hS h1 hd (k p e R s m args below meth c H locs cells slots ls C hΦ hH hz hl hS hc hs)
theorem hv_slen {G : hp_G} {M : hp_M} {pc : Nat} {lv : List (Nat × Value)} {st : List Value} {h : hp_H} {sz sl : Nat} {o : hp_O} {b L : Nat} {xs : Nat → Int32} (hb : b < G.2.1) (hd : decode M.2.1 pc = .ok (.arraylength, 1)) (k : hp_U (hp_Sc b L xs) G M (pc + 1) lv (.int (Int32.ofNat L) :: st) h sz sl o) : hp_U (hp_Sc b L xs) G M pc lv (.ref b :: st) h sz sl o := by
  intro p e R s m args below meth c H locs cells slots ls C hΦ hH hz hl hS hc hs
  exact va_slen C.1 C.2.1 hΦ (Nat.lt_of_lt_of_le hb C.2.2.2.2.2.2.2.2.2.1) (Nat.not_le.mpr hb) hS hd (k p e R s m args below meth c H locs cells slots ls C hΦ hH hz hl hS hc hs)
