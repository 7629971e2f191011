/-! For methods that make cells -/
theorem hp_tr {a b c x y z : Nat} (h1 : a ≤ b ∧ x ≤ y) (h2 : b ≤ c ∧ y ≤ z) : a ≤ c ∧ x ≤ z := ⟨Nat.le_trans h1.1 h2.1, Nat.le_trans h1.2 h2.2⟩
theorem hv_as2 {Φ : State → Prop} {G : hp_G} {M : hp_M} {pc : Nat} {lv : List (Nat × Value)} {st : List Value} {h : hp_H} {sz sl : Nat} {o : hp_O} (st2 : List Value) (h2 : hp_H) (sz2 sl2 : Nat) (e1 : st = st2) (e2 : h = h2) (e3 : sz = sz2) (e4 : sl = sl2) (k : hp_U Φ G M pc lv st2 h2 sz2 sl2 o) : hp_U Φ G M pc lv st h sz sl o := by
  subst e1; subst e2; subst e3; subst e4; exact k
def hp_cnt (n : Int32) : Option Nat := if 0 ≤ n.toInt ∧ n.toInt ≤ 1000000 then some n.toInt.toNat else none
theorem hp_cnt_spec {n : Int32} {N : Nat} (e : hp_cnt n = some N) : n.toInt = (N : Int) ∧ N ≤ 1000000 := by
  unfold hp_cnt at e
  split at e
  · rename_i hc
    have := Option.some.inj e
    omega
  · cases e
