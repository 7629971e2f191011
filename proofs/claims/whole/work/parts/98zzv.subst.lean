/-! What a formula becomes under a substitution -/
/-- what stands for a symbol -/
def sbt (va sf L T : Int → Int) (c : Int) : List Int := if va c = 1 then nmb T (200 * sf c + 1) (L (sf c) - 1).toNat else [c]
def sbl (sy va sf L T : Int → Int) : Nat → List Int
  | 0 => []
  | m + 1 => sbl sy va sf L T m ++ sbt va sf L T (sy m)
section SBS
variable {n m b : Nat} {q S K P len h R : Int} {f : Nat → Nat → Int} {d : Nat → Nat} {a : Nat → Int → Int} {ni : Nat → Nat} {j : Nat → Int → Int64} {F : Nat → Int} {A : Nat → Int → Int} {J : Nat → Int → Int64} {sy va sf sf2 L T : Int → Int}
theorem sbl_s {i : Nat} : sbl sy va sf L T (i + 1) = sbl sy va sf L T i ++ sbt va sf L T (sy i) := rfl
theorem sbt_1 {c : Int} (h : va c = 1) (hl : 1 ≤ L (sf c)) : ((sbt va sf L T c).length : Int) = L (sf c) - 1 := by
  unfold sbt
  rw [if_pos h, nmb_len]
  omega
theorem sbt_0 {c : Int} (h : va c ≠ 1) : sbt va sf L T c = [c] := if_neg h
theorem sbl_l {i : Nat} : ((sbl sy va sf L T (i + 1)).length : Int) = (sbl sy va sf L T i).length + (sbt va sf L T (sy i)).length := by
  rw [sbl_s, List.length_append]
  omega
theorem sbl_m (i r : Nat) : (sbl sy va sf L T i).length ≤ (sbl sy va sf L T (i + r)).length := by
  induction r with
  | zero => exact Nat.le_refl _
  | succ r ih =>
    have := sbl_l (sy := sy) (va := va) (sf := sf) (L := L) (T := T) (i := i + r)
    rw [show i + (r + 1) = i + r + 1 from rfl]
    omega
theorem getD_al {L1 L2 : List Int} {x : Nat} (h : x < L1.length) : (L1 ++ L2).getD x 0 = L1.getD x 0 := by
  rw [List.getD_eq_getElem?_getD, List.getD_eq_getElem?_getD, List.getElem?_append_left h]
theorem getD_ar {L1 L2 : List Int} {x : Nat} : (L1 ++ L2).getD (L1.length + x) 0 = L2.getD x 0 := by
  rw [List.getD_eq_getElem?_getD, List.getD_eq_getElem?_getD, List.getElem?_append_right (by omega), Nat.add_sub_cancel_left]
theorem getD_nmb {T : Int → Int} {p : Int} {m x : Nat} (h : x < m) : (nmb T p m).getD x 0 = T (p + x) := by
  unfold nmb
  rw [List.getD_eq_getElem?_getD, List.getElem?_map, List.getElem?_range h]
  rfl
theorem sbl_p {i r x : Nat} (h : x < (sbl sy va sf L T i).length) : (sbl sy va sf L T (i + r)).getD x 0 = (sbl sy va sf L T i).getD x 0 := by
  induction r with
  | zero => rfl
  | succ r ih =>
    have := sbl_m (sy := sy) (va := va) (sf := sf) (L := L) (T := T) i r
    rw [show i + (r + 1) = i + r + 1 from rfl, sbl_s, getD_al (by omega)]
    exact ih
theorem sbl_c (i : Nat) (e : ∀ x : Nat, x < i → va (sy x) = 1 → sf (sy x) = sf2 (sy x)) : sbl sy va sf L T i = sbl sy va sf2 L T i := by
  induction i with
  | zero => rfl
  | succ i ih =>
    rw [sbl_s, sbl_s, ih (fun x hx => e x (by omega))]
    congr 1
    unfold sbt
    by_cases c : va (sy i) = 1
    · rw [if_pos c, if_pos c, e i (by omega) c]
    · rw [if_neg c, if_neg c]
/-- the symbols of statement h -/
def fsy (q h : Int) (A11 A16 : Int → Int) (i : Int) : Int := A16 (4096 * q + A11 (200 * q + h) + i)
theorem fsy_r (G : BK b q S K P len f a ni j A J) (h0 : 0 ≤ h) (h1 : h < K) {i : Int} (i0 : 0 ≤ i) (i1 : i < A 12 (200 * q + h)) : 0 ≤ fsy q h (A 11) (A 16) i ∧ fsy q h (A 11) (A 16) i < S ∧ a (b + 7) (fsy q h (A 11) (A 16) i) = A 5 (300 * q + fsy q h (A 11) (A 16) i) ∧ (a (b + 7) (fsy q h (A 11) (A 16) i) = 0 ∨ a (b + 7) (fsy q h (A 11) (A 16) i) = 1) := by
  obtain ⟨f1, f2', f3, f4, f5, f6, f7, f8, f9, f10, f11⟩ := bk_f G h0 h1
  obtain ⟨e1, e2, e3⟩ := f7 i i0 i1
  have gs := G.2.1.2.2.2.2.2.2.2.1 _ e2 e3
  exact ⟨e2, e3, gs.2.2.1, gs.2.2.2⟩
theorem c_fget (hb : bks b) (G : BK b q S K P len f a ni j A J) (h0 : 0 ≤ h) (h1 : h < K) {i : Int} (i0 : 0 ≤ i) (i1 : i < A 12 (200 * q + h)) : g_X5_get n (b + 11) (qz h) (qz i) (cs f d a ni j) = some (qz (fsy q h (A 11) (A 16) i)) := by
  obtain ⟨f1, f2', f3, f4, f5, f6, f7, f8, f9, f10, f11⟩ := bk_f G h0 h1
  have grw := G.2.2.2.2.2.2.2.2.2.2.2.2.2
  rw [c_get (rws_b11 hb) grw.1 h0 (by rw [grw.2.2.2.2.2.2.1]; exact h1) i0 (by omega), (f7 i i0 i1).1]
  rfl
theorem c_fsz (hb : bks b) (G : BK b q S K P len f a ni j A J) (h0 : 0 ≤ h) (h1 : h < K) : g_X5_size n (b + 11) (qz h) (cs f d a ni j) = some (qz (A 12 (200 * q + h))) := by
  obtain ⟨f1, f2', f3, f4, f5, f6, f7, f8, f9, f10, f11⟩ := bk_f G h0 h1
  have grw := G.2.2.2.2.2.2.2.2.2.2.2.2.2
  rw [c_size (rws_b11 hb) grw.1 h0 (by rw [grw.2.2.2.2.2.2.1]; exact h1), show a (b + 11 + 2) (h + 1) - a (b + 11 + 2) h = A 12 (200 * q + h) by omega]
theorem c_var (hb : bks b) (G : BK b q S K P len f a ni j A J) {c : Int} (c0 : 0 ≤ c) (c1 : c < S) : g_X0_isVariable n b (qz c) (cs f d a ni j) = some (qp (a (b + 7) c = 1)) := by
  have hS : S ≤ 300 := G.2.1.2.1
  have hS0 : 0 ≤ S := G.2.1.1
  have e : f b 3 = S := G.1.1
  rw [c_isVar hb (by omega) (by omega) (by omega) (by omega) (fun k k0 k1 => (G.2.1.2.2.2.2.2.2.2.1 k k0 (by omega)).2.2.2)]
  congr 1
  apply qp_congr
  exact ⟨fun z => z.2.2, fun z => ⟨c0, by omega, z⟩⟩
theorem c_sizeOf (hn : 100000 ≤ n) (hm : mch m) (hb : bks b) (hd : d (mi m) = b) (G : BK b q S K P len f a ni j A J) (h0 : 0 ≤ h) (h1 : h < K) (SK : RWL (m + 1) 32768 R S f a ni L T) (hR : R ≤ 100) (hs : ∀ i, 0 ≤ i → i < A 12 (200 * q + h) → a (b + 7) (fsy q h (A 11) (A 16) i) = 1 → 0 ≤ a (m + 7) (fsy q h (A 11) (A 16) i) ∧ a (m + 7) (fsy q h (A 11) (A 16) i) < R) : g_X1_sizeOf n m (qz h) (cs f d a ni j) = some (qz (sbl (fsy q h (A 11) (A 16)) (a (b + 7)) (a (m + 7)) L T (A 12 (200 * q + h)).toNat).length) ∧ ∀ i : Nat, (i : Int) ≤ A 12 (200 * q + h) → ((sbl (fsy q h (A 11) (A 16)) (a (b + 7)) (a (m + 7)) L T i).length : Int) ≤ 200 * i := by
  have hS : S ≤ 300 := G.2.1.2.1
  obtain ⟨f1, f2', f3, f4, f5, f6, f7, f8, f9, f10, f11⟩ := bk_f G h0 h1
  have hb1 : ∀ i : Nat, (i : Int) ≤ A 12 (200 * q + h) → ((sbl (fsy q h (A 11) (A 16)) (a (b + 7)) (a (m + 7)) L T i).length : Int) ≤ 200 * i := by
    intro i
    induction i with
    | zero => exact fun _ => Int.le_refl _
    | succ i ih =>
      intro hi
      have := ih (by omega)
      rw [sbl_l]
      by_cases c : a (b + 7) (fsy q h (A 11) (A 16) i) = 1
      · obtain ⟨z1, z2⟩ := hs i (by omega) (by omega) c
        obtain ⟨y1, y2, y3, y4⟩ := SK.2.2.2 _ z1 z2
        rw [sbt_1 c y2]
        omega
      · rw [sbt_0 c]
        show _ + ((1 : Nat) : Int) ≤ _
        omega
  refine ⟨?_, hb1⟩
  unfold g_X1_sizeOf g_X1_sizeOf_0
  have lp := lp_for (b := gL_X1_sizeOf_17 n m (qz h) (qz (A 12 (200 * q + h))) (cs f d a ni j)) (fun i => (qz (sbl (fsy q h (A 11) (A 16)) (a (b + 7)) (a (m + 7)) L T i.toNat).length, qz i)) (x := qz (sbl (fsy q h (A 11) (A 16)) (a (b + 7)) (a (m + 7)) L T (A 12 (200 * q + h)).toNat).length) (A 12 (200 * q + h)) (n := n) (i0 := 0) (by omega) (by omega) ?_ ?_
  · rw [gpm_2 hm, hd, gpb_9 hb, c_fsz hb G h0 h1, bd_some, zl0]
    rw [show (qz 0, qz 0) = (fun i : Int => (qz ((sbl (fsy q h (A 11) (A 16)) (a (b + 7)) (a (m + 7)) L T i.toNat).length : Int), qz i)) 0 from rfl, lp, bd_some]
  · intro i i0 i1
    obtain ⟨y1, y2, y3, y4⟩ := fsy_r G h0 h1 i0 i1
    have en : (i + 1).toNat = i.toNat + 1 := by omega
    have ei : ((i.toNat : Nat) : Int) = i := by omega
    have el := sbl_l (sy := fsy q h (A 11) (A 16)) (va := a (b + 7)) (sf := a (m + 7)) (L := L) (T := T) (i := i.toNat)
    rw [ei] at el
    unfold gL_X1_sizeOf_17 g_X1_sizeOf_17 g_X1_sizeOf_71
    simp only [zl0, zl1, en]
    rw [if_neg (by rw [qz_le (by omega) (by omega) (by omega) (by omega)]; omega), gpm_2 hm, hd, gpb_9 hb, c_fget hb G h0 h1 i0 i1, bd_some, c_var hb G y1 y2, bd_some, el]
    by_cases c : a (b + 7) (fsy q h (A 11) (A 16) i) = 1
    · obtain ⟨z1, z2⟩ := hs i i0 i1 c
      obtain ⟨w1, w2, w3, w4⟩ := SK.2.2.2 _ z1 z2
      rw [qp_T c, if_neg n10, gpm_3 hm, gam_7 hm y1 (by omega), bd_some, gpm_0 hm, c_size (rwm_1 hm) SK.1 z1 (by rw [SK.2.1]; exact z2), bd_some, w1, sbt_1 c w2, qz_sub, qz_add, qz_add]
    · rw [qp_F c, if_pos rfl, sbt_0 c, qz_add, qz_add]
      rfl
  · unfold gL_X1_sizeOf_17 g_X1_sizeOf_17
    rw [if_pos (by rw [qz_le (by omega) (by omega) (by omega) (by omega)]; omega)]
end SBS
