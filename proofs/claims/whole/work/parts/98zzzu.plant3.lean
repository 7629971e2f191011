/-! The nodes of a proof, in the class: the rows -/
section PLC
variable {n b : Nat} {N c i r k c2 h lb bs z : Int} {nd nm nu can cn lo dp nu2 can2 : Int → Int} {ch SS : Int → Int → Int} {f : Nat → Nat → Int} {d : Nat → Nat} {a a2 : Nat → Int → Int} {ni : Nat → Nat} {j : Nat → Int → Int64}
theorem us_c {sz sz2 : Int → Int} {g g2 : Int → Int → Int} {m y : Int} (h1 : ∀ i, 0 ≤ i → i < m → sz i = sz2 i) (h2 : ∀ i t, 0 ≤ i → i < m → 0 ≤ t → t < sz i → g i t = g2 i t) : us sz g m y = us sz2 g2 m y := by
  unfold us
  refine sm_c _ (fun i hi => ?_)
  show sm (fun t => if g i t = y then 1 else 0) (sz i).toNat = sm (fun t => if g2 i t = y then 1 else 0) (sz2 i).toNat
  rw [← h1 i (by omega) (by omega)]
  refine sm_c _ (fun t ht => ?_)
  show (if g i t = y then (1 : Int) else 0) = if g2 i t = y then 1 else 0
  rw [h2 i t (by omega) (by omega) (by omega) (by omega)]
theorem hdn_c {g g2 : Int → Int} {b1 b2 : Int} (e : ∀ t, 0 ≤ t → t < z → g (b1 + t) = g2 (b2 + t)) : hdn g b1 lb z = hdn g2 b2 lb z := by
  unfold hdn
  rw [mx_eq (p := g2) (c := b2) z.toNat (fun t t0 t1 => e t t0 (by omega))]
theorem hdn_r (g : Int → Int) (bs lb z : Int) : 0 ≤ hdn g bs lb z ∧ hdn g bs lb z < 256 := and255 _
def PLR (c : Int) (nd nm : Int → Int) (ch : Int → Int → Int) (nu can : Int → Int) (a : Nat → Int → Int) : Prop := (∀ y, 0 ≤ y → y < c → a 104 y = nm (can y) ∧ a (105 + 2) (y + 1) - a (105 + 2) y = nd (can y) ∧ (∀ t, 0 ≤ t → t < nd (can y) → a (105 + 1) (a (105 + 2) y + t) = nu (ch (can y) t)) ∧ a 108 y = us (fun i => nd (can i)) (fun i t => nu (ch (can i) t)) c y) ∧ (∃ L : Int → List Int, (∀ h, 0 ≤ h → h < 256 → lk (a 110) (a 109 h) (L h) ∧ ((L h).length : Int) ≤ c ∧ ∀ x, x ∈ L h → 0 ≤ x ∧ x < c) ∧ ∀ y, 0 ≤ y → y < c → y ∈ L (hdn (fun t => nu (ch (can y) t)) 0 (nm (can y)) (nd (can y)))) ∧ ∀ y1 y2, 0 ≤ y1 → y1 < c → 0 ≤ y2 → y2 < c → nm (can y1) = nm (can y2) → (∀ t, 0 ≤ t → t < nd (can y1) → nu (ch (can y1) t) = nu (ch (can y2) t)) → y1 = y2
theorem plr_c (hd : ∀ x y, 0 ≤ x → x < c → 0 ≤ y → y < c → nm (can x) = nm (can y) → nd (can x) = nd (can y)) (H : PLR c nd nm ch nu can a) (h1 : ∀ y, 0 ≤ y → y < c → can2 y = can y) (h2 : ∀ y t, 0 ≤ y → y < c → 0 ≤ t → t < nd (can y) → nu2 (ch (can2 y) t) = nu (ch (can y) t)) : PLR c nd nm ch nu2 can2 a := by
  obtain ⟨g1, ⟨L, g2, g3⟩, g4⟩ := H
  refine ⟨fun y y0 y1 => ?_, ⟨L, g2, fun y y0 y1 => ?_⟩, fun y1 y2 p1 p2 p3 p4 e1 e2 => ?_⟩
  · obtain ⟨k1, k2, k3, k4⟩ := g1 y y0 y1
    rw [h1 y y0 y1]
    refine ⟨k1, k2, fun t t0 t1 => ?_, ?_⟩
    · have := h2 y t y0 y1 t0 t1
      rw [h1 y y0 y1] at this
      rw [this]; exact k3 t t0 t1
    · rw [k4]
      exact us_c (fun i i0 i1 => by show nd (can i) = nd (can2 i); rw [h1 i i0 i1]) (fun i t i0 i1 t0 t1 => (h2 i t i0 i1 t0 t1).symm)
  · have e := hdn_c (lb := nm (can y)) (z := nd (can y)) (g := fun t => nu2 (ch (can2 y) t)) (g2 := fun t => nu (ch (can y) t)) (b1 := 0) (b2 := 0) (fun t t0 t1 => by
      show nu2 (ch (can2 y) (0 + t)) = nu (ch (can y) (0 + t))
      rw [Int.zero_add]; exact h2 y t y0 y1 t0 t1)
    rw [h1 y y0 y1] at e ⊢
    rw [e]
    exact g3 y y0 y1
  · rw [h1 y1 p1 p2, h1 y2 p3 p4] at e1
    refine g4 y1 y2 p1 p2 p3 p4 e1 (fun t t0 t1 => ?_)
    have q1 := h2 y1 t p1 p2 t0 t1
    have q2 := h2 y2 t p3 p4 t0 (by rw [← hd y1 y2 p1 p2 p3 p4 e1]; exact t1)
    rw [h1 y1 p1 p2] at q1
    rw [h1 y2 p3 p4] at q2
    have q3 := e2 t t0 (by rw [h1 y1 p1 p2]; exact t1)
    rw [h1 y1 p1 p2, h1 y2 p3 p4] at q3
    rw [← q1, ← q2]
    exact q3
theorem plr_add (H : PLR c nd nm ch nu can a) (c0 : 0 ≤ c) (TM : mono c (a (105 + 2))) (ec : can c = i) (z0 : 0 ≤ nd i) (hl : ∀ t, 0 ≤ t → t < nd i → 0 ≤ nu (ch i t) ∧ nu (ch i t) < c) (hr : ∀ y t, 0 ≤ y → y < c → 0 ≤ t → t < nd (can y) → nu (ch (can y) t) < c) (hh : hdn (fun t => nu (ch i t)) 0 (nm i) (nd i) = h) (hnew : ∀ y, 0 ≤ y → y < c → nm (can y) = nm i → nd (can y) = nd i ∧ ¬∀ t, 0 ≤ t → t < nd i → nu (ch (can y) t) = nu (ch i t)) (w1 : a2 104 = v1 (a 104) c (nm i)) (w2 : a2 109 = v1 (a 109) h c) (w3 : a2 110 = v1 (a 110) c (a 109 h)) (w4 : a2 (105 + 2) = v1 (a (105 + 2)) (c + 1) (a (105 + 2) c + nd i)) (w5 : ∀ y, y < a (105 + 2) c → a2 (105 + 1) y = a (105 + 1) y) (w6 : ∀ t, 0 ≤ t → t < nd i → a2 (105 + 1) (a (105 + 2) c + t) = nu (ch i t)) (w7 : a2 108 c = 0) (w8 : ∀ y, 0 ≤ y → y < c → a2 108 y = a 108 y + sm (fun t => if nu (ch i t) = y then 1 else 0) (nd i).toNat) : PLR (c + 1) nd nm ch nu can a2 := by
  obtain ⟨g1, ⟨L, g2, g3⟩, g4⟩ := H
  have hh2 := hdn_r (fun t => nu (ch i t)) 0 (nm i) (nd i)
  rw [hh] at hh2
  refine ⟨fun y y0 y1 => ?_, ⟨v1 L h (c :: L h), fun h' q1 q2 => ?_, fun y y0 y1 => ?_⟩, fun y1 y2 p1 p2 p3 p4 e1 e2 => ?_⟩
  · rw [w1, w4]
    by_cases e : y = c
    · rw [e, v1_s, v1_s, v1_o (by omega), ec]
      refine ⟨rfl, by omega, w6, ?_⟩
      rw [w7, us_s c0, show (fun t => if nu (ch (can c) t) = c then (1 : Int) else 0) = fun t => if nu (ch i t) = c then 1 else 0 by rw [ec]]
      have e1 : us (fun i => nd (can i)) (fun i t => nu (ch (can i) t)) c c = 0 := by
        unfold us
        refine sm_0 _ (fun y hy => sm_0 _ (fun t ht => ?_))
        show (if nu (ch (can y) t) = c then (1 : Int) else 0) = 0
        have ht' : t < (nd (can (y : Int))).toNat := ht
        have := hr y t (by omega) (by omega) (by omega) (by omega)
        rw [if_neg (by omega)]
      have e2 : sm (fun t => if nu (ch i t) = c then 1 else 0) (nd (can c)).toNat = 0 := sm_0 _ (fun t ht => by
        rw [ec] at ht
        have := hl t (by omega) (by omega)
        show (if nu (ch i t) = c then (1 : Int) else 0) = 0
        rw [if_neg (by omega)])
      rw [e1, e2]
      rfl
    · obtain ⟨k1, k2, k3, k4⟩ := g1 y y0 (by omega)
      have mo := TM.2 (y + 1) c (by omega) (by omega) (Int.le_refl _)
      rw [v1_o e, v1_o (by omega), v1_o (by omega)]
      refine ⟨k1, k2, fun t t0 t1 => ?_, ?_⟩
      · rw [w5 _ (by omega)]; exact k3 t t0 t1
      · rw [w8 y y0 (by omega), k4, us_s c0]
        show _ + sm (fun t => if nu (ch i t) = y then 1 else 0) (nd i).toNat = _ + sm (fun t => if nu (ch (can c) t) = y then 1 else 0) (nd (can c)).toNat
        rw [ec]
  · obtain ⟨c1, c2', c3⟩ := g2 h' q1 q2
    have hni : c ∉ L h' := fun e => by have := (c3 c e).2; omega
    rw [w2, w3]
    by_cases e : h' = h
    · subst e
      rw [v1_s, v1_s]
      refine ⟨⟨rfl, ?_⟩, by simp only [List.length_cons]; omega, fun x hx => ?_⟩
      · rw [v1_s]; exact lk_o c1 hni
      · rcases List.mem_cons.mp hx with rfl | hx
        · exact ⟨c0, by omega⟩
        · have := c3 x hx; exact ⟨this.1, by omega⟩
    · rw [v1_o e, v1_o e]
      exact ⟨lk_o c1 hni, by omega, fun x hx => by have := c3 x hx; exact ⟨this.1, by omega⟩⟩
  · by_cases e : y = c
    · rw [e, ec, hh, v1_s]
      exact List.mem_cons_self
    · have := g3 y y0 (by omega)
      by_cases e2 : hdn (fun t => nu (ch (can y) t)) 0 (nm (can y)) (nd (can y)) = h
      · rw [e2, v1_s]; exact List.mem_cons_of_mem _ (e2 ▸ this)
      · rw [v1_o e2]; exact this
  · by_cases q1 : y1 = c
    · by_cases q2 : y2 = c
      · omega
      · exfalso
        rw [q1, ec] at e1 e2
        obtain ⟨k1, k2⟩ := hnew y2 p3 (by omega) e1.symm
        exact k2 (fun t t0 t1 => (e2 t t0 t1).symm)
    · by_cases q2 : y2 = c
      · exfalso
        rw [q2, ec] at e1 e2
        obtain ⟨k1, k2⟩ := hnew y1 p1 (by omega) e1
        exact k2 (fun t t0 t1 => e2 t t0 (by omega))
      · exact g4 y1 y2 p1 (by omega) p3 (by omega) e1 e2
end PLC
