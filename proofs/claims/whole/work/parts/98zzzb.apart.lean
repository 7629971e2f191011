/-! Two rows are apart: the class -/
theorem andn_0 (x y : Int64) : (lg_cmp (x &&& (y ^^^ (-1 : Int64))) (0 : Int64) = 0) ↔ ∀ i : Nat, i < 64 → x.toBitVec.getLsbD i = true → y.toBitVec.getLsbD i = true := by
  have e1 : (-1 : Int64).toBitVec = BitVec.allOnes 64 := rfl
  have eb : ∀ i : Nat, i < 64 → (x &&& (y ^^^ (-1 : Int64))).toBitVec.getLsbD i = (x.toBitVec.getLsbD i && !y.toBitVec.getLsbD i) := by
    intro i hi
    rw [Int64.toBitVec_and, BitVec.getLsbD_and, Int64.toBitVec_xor, BitVec.getLsbD_xor, e1, BitVec.getLsbD_allOnes]
    simp [hi]
  rw [cmp_0]
  constructor
  · intro h i hi hx
    have e : (x &&& (y ^^^ (-1 : Int64))) = 0 := Int64.toInt_inj.mp (by rw [h]; rfl)
    have := eb i hi
    rw [e, hx] at this
    have z : (0 : Int64).toBitVec.getLsbD i = false := by
      show (0#64).getLsbD i = false
      exact BitVec.getLsbD_zero
    rw [z] at this
    cases hy : y.toBitVec.getLsbD i
    · rw [hy] at this
      exact absurd this (by decide)
    · rfl
  · intro h
    have e : (x &&& (y ^^^ (-1 : Int64))) = 0 := by
      apply Int64.toBitVec_inj.mp
      apply BitVec.eq_of_getLsbD_eq
      intro i hi
      rw [eb i hi]
      show _ = (0#64).getLsbD i
      rw [BitVec.getLsbD_zero]
      cases hx : x.toBitVec.getLsbD i
      · rfl
      · rw [h i hi hx]
        rfl
    rw [e]
    rfl
section APA
variable {n m b : Nat} {q S K P len k R r r2 u : Int} {f : Nat → Nat → Int} {d : Nat → Nat} {a : Nat → Int → Int} {ni : Nat → Nat} {j : Nat → Int → Int64} {A : Nat → Int → Int} {J : Nat → Int → Int64} {L T : Int → Int}
theorem c_isPart (hn : 100000 ≤ n) (hm : mch m) (u0 : 0 ≤ u) (u1' : u < 300) : g_X1_isPartnerOfOthers n m (qz u) (cs f d a ni j) = some (qp (∀ v, 0 ≤ v → v < 320 → bt (j (m + 9)) 0 v → bt (j (m + 8)) (u * 5) v)) := by
  unfold g_X1_isPartnerOfOthers g_X1_isPartnerOfOthers_0
  have lp := lp_ix (b := gL_X1_isPartnerOfOthers_2 n m (qz u) (cs f d a ni j)) (fun t c => c = qz t ∧ ∀ v, 0 ≤ v → v < 64 * t → bt (j (m + 9)) 0 v → bt (j (m + 8)) (u * 5) v) (Q := fun x => x = qp (∀ v, 0 ≤ v → v < 320 → bt (j (m + 9)) 0 v → bt (j (m + 8)) (u * 5) v)) 5 (n := n) (i0 := 0) (by omega) (by omega) (c0 := qz 0) ⟨rfl, fun v v0 v1' => by omega⟩ ?_ ?_
  · obtain ⟨x, ex, rfl⟩ := lp
    rw [zl0, ex, bd_some]
  · rintro t c t0 t1 ⟨rfl, h⟩
    unfold gL_X1_isPartnerOfOthers_2 g_X1_isPartnerOfOthers_2
    simp only [zl1, zl5]
    rw [if_neg (by rw [qz_le (by omega) (by omega) (by omega) (by omega)]; omega), gpm_5 hm, gjm_9 hm t0 t1, bd_some, gpm_4 hm, qz_mul, qz_add, gjm_8 hm (by omega) (by omega), bd_some]
    by_cases c : ∀ i : Nat, i < 64 → (j (m + 9) t).toBitVec.getLsbD i = true → (j (m + 8) (u * 5 + t)).toBitVec.getLsbD i = true
    · rw [if_pos ((andn_0 _ _).mpr c), qz_add]
      refine Or.inl ⟨_, rfl, rfl, fun v v0 v1' hv => ?_⟩
      by_cases e : v < 64 * t
      · exact h v v0 e hv
      · have ev : v / 64 = t := by omega
        unfold bt at hv ⊢
        rw [Int.zero_add, ev] at hv
        rw [ev]
        exact c _ (by omega) hv
    · rw [if_neg (fun z => c ((andn_0 _ _).mp z))]
      refine Or.inr ⟨_, rfl, ?_⟩
      rw [qp_F]
      · rfl
      · intro z
        apply c
        intro i hi hx
        have := z (64 * t + i) (by omega) (by omega)
        unfold bt at this
        rw [Int.zero_add, show (64 * t + (i : Int)) / 64 = t by omega, show (64 * t + (i : Int) - t * 64).toNat = i by omega] at this
        exact this hx
  · rintro c ⟨rfl, h⟩
    refine ⟨_, ?_, rfl⟩
    unfold gL_X1_isPartnerOfOthers_2 g_X1_isPartnerOfOthers_2
    simp only [zl1, zl5]
    rw [if_pos (by rw [qz_le (by omega) (by omega) (by omega) (by omega)]; omega), qp_T (fun v v0 v1' => h v v0 (by omega))]
/-- the variables of two things are pairwise active pairs at k -/
def rap (q P k : Int) (va L T A21 A22 A23 A24 : Int → Int) (r r2 : Int) : Prop := ∀ i, 1 ≤ i → i < L r → va (T (200 * r + i)) = 1 → ∀ l, 1 ≤ l → l < L r2 → va (T (200 * r2 + l)) = 1 → pak q P A21 A22 A23 A24 k (T (200 * r + i)) (T (200 * r2 + l))
theorem c_areApart (hn : 100000 ≤ n) (hm : mch m) (hb : bks b) (hd : d (mi m) = b) (G : BK b q S K P len f a ni j A J) (SK : RWL (m + 1) 32768 R S f a ni L T) (hR : R ≤ 100) (r0 : 0 ≤ r) (r1 : r < R) (s0 : 0 ≤ r2) (s1 : r2 < R) (HP : PRT m q P k A j) : ∃ w : Int → Int64, g_X1_areApart n m (qz r) (qz r2) (cs f d a ni j) = some (qp (rap q P k (a (b + 7)) L T (A 21) (A 22) (A 23) (A 24) r r2), cs f d a ni (u1 j (m + 9) w)) := by
  have hbb : b = 1 ∨ b = 33 := hb
  have hmm : m = 83 ∨ m = 93 := hm
  have hS : S ≤ 300 := G.2.1.2.1
  obtain ⟨g1, g2, g3, g4⟩ := SK.2.2.2 r r0 r1
  obtain ⟨k1, k2, k3, k4⟩ := SK.2.2.2 r2 s0 s1
  have GJ : ∀ w : Int → Int64, BK b q S K P len f a ni (u1 j (m + 9) w) A J := fun w => bk_eq G (fun _ _ _ => rfl) (fun _ _ _ => rfl) (fun _ _ _ => rfl) (u1_o (by omega)) (fun _ _ _ => rfl) ⟨rfl, rfl⟩
  have lp1 := lp_inv (b := gL_X1_areApart_20 n m (qz r) (qz r2) (qz (L r2))) (fun t c => ∃ w : Int → Int64, c = (qz t, cs f d a ni (u1 j (m + 9) w)) ∧ ∀ v, 0 ≤ v → v < 320 → (bt w 0 v ↔ ∃ i, 1 ≤ i ∧ i < t ∧ T (200 * r2 + i) = v ∧ a (b + 7) v = 1)) (Q := fun s => ∃ w : Int → Int64, s = cs f d a ni (u1 j (m + 9) w) ∧ ∀ v, 0 ≤ v → v < 320 → (bt w 0 v ↔ ∃ i, 1 ≤ i ∧ i < L r2 ∧ T (200 * r2 + i) = v ∧ a (b + 7) v = 1)) (L r2) (n := n) (i0 := 1) k2 (by omega) (c0 := (qz 1, cs f d a ni (u1 j (m + 9) (fl (j (m + 9)) 5 0)))) ⟨_, rfl, fun v v0 v1' => ⟨fun z => absurd z (bt_zero (by unfold fl; rw [if_pos (by omega)])), fun ⟨i, i0, i1, _⟩ => by omega⟩⟩ ?_ ?_
  rotate_left
  · rintro t c t0 t1 ⟨w, rfl, hw⟩
    obtain ⟨p1, p2, p3⟩ := k4 t (by omega) t1
    have em : gL_X1_areApart_20 n m (qz r) (qz r2) (qz (L r2)) (qz t, cs f d a ni (u1 j (m + 9) w)) = if qp (a (b + 7) (T (200 * r2 + t)) = 1) = qz 0 then some (.inl (qz (t + 1), cs f d a ni (u1 j (m + 9) w))) else some (.inl (qz (t + 1), cs f d a ni (u1 j (m + 9) (v1 w (T (200 * r2 + t) / 64) (w (T (200 * r2 + t) / 64) ||| ((1 : Int64) <<< (Int32.toInt64 (qz (T (200 * r2 + t) - T (200 * r2 + t) / 64 * 64)) &&& 63))))))) := by
      unfold gL_X1_areApart_20 g_X1_areApart_20 g_X1_areApart_70
      simp only [zl0, zl1, zl64]
      rw [if_neg (by rw [qz_le (by omega) (by omega) (by omega) (by omega)]; omega), gpm_0 hm, c_sget hm SK s0 s1 hR (by omega) (by omega), if_pos t1, bd_some, gpm_2 hm, hd, c_var hb (GJ w) p2 p3, bd_some, qz_div (by omega) (by omega) (by omega) (by omega), gpm_5 hm, gjm_9 hm (by omega) (by omega), u1_s, bd_some, qz_mul, qz_sub, ujm_9 hm (by omega) (by omega), bd_some, qz_add, v2_u1, u1_s, u1_1]
    by_cases c : a (b + 7) (T (200 * r2 + t)) = 1
    · rw [qp_T c, if_neg n10] at em
      refine ⟨_, em, _, rfl, fun v v0 v1' => ?_⟩
      have hset := bt_set (w := w) (o := 0) (x := T (200 * r2 + t)) (y := v) p2 v0
      rw [Int.zero_add] at hset
      rw [hset, hw v v0 v1']
      constructor
      · rintro (⟨i, i0, i1, i2⟩ | z)
        · exact ⟨i, i0, by omega, i2⟩
        · exact ⟨t, t0, by omega, z.symm, by rw [z]; exact c⟩
      · rintro ⟨i, i0, i1, i2, i3⟩
        by_cases e : i = t
        · right; rw [← i2, e]
        · exact Or.inl ⟨i, i0, by omega, i2, i3⟩
    · rw [qp_F c, if_pos rfl] at em
      refine ⟨_, em, w, rfl, fun v v0 v1' => ?_⟩
      rw [hw v v0 v1']
      constructor
      · rintro ⟨i, i0, i1, i2⟩
        exact ⟨i, i0, by omega, i2⟩
      · rintro ⟨i, i0, i1, i2, i3⟩
        by_cases e : i = t
        · rw [e] at i2
          rw [← i2] at i3
          exact absurd i3 c
        · exact ⟨i, i0, by omega, i2, i3⟩
  · rintro c ⟨w, rfl, hw⟩
    refine ⟨_, ?_, w, rfl, hw⟩
    unfold gL_X1_areApart_20 g_X1_areApart_20
    rw [if_pos (by rw [qz_le (by omega) (by omega) (by omega) (by omega)]; omega)]
  obtain ⟨s, es, w, rfl, hw⟩ := lp1
  have hpart : ∀ u, 0 ≤ u → u < 300 → ((∀ v, 0 ≤ v → v < 320 → bt (u1 j (m + 9) w (m + 9)) 0 v → bt (u1 j (m + 9) w (m + 8)) (u * 5) v) ↔ ∀ l, 1 ≤ l → l < L r2 → a (b + 7) (T (200 * r2 + l)) = 1 → pak q P (A 21) (A 22) (A 23) (A 24) k u (T (200 * r2 + l))) := by
    intro u u0 u1'
    rw [u1_s, u1_o (by omega)]
    constructor
    · intro z l l0 l1 hv
      obtain ⟨p1, p2, p3⟩ := k4 l (by omega) l1
      exact (HP u _ u0 u1' p2 (by omega)).mp (z _ p2 (by omega) ((hw _ p2 (by omega)).mpr ⟨l, l0, l1, rfl, hv⟩))
    · intro z v v0 v1' hv
      obtain ⟨i, i0, i1, i2, i3⟩ := (hw v v0 v1').mp hv
      obtain ⟨p1, p2, p3⟩ := k4 i (by omega) i1
      rw [← i2]
      exact (HP u _ u0 u1' p2 (by omega)).mpr (z i i0 i1 (by rw [i2]; exact i3))
  have lp2 := lp_ix (b := gL_X1_areApart_88 n m (qz r) (qz (L r)) (cs f d a ni (u1 j (m + 9) w))) (fun t c => c = qz t ∧ ∀ i, 1 ≤ i → i < t → a (b + 7) (T (200 * r + i)) = 1 → ∀ l, 1 ≤ l → l < L r2 → a (b + 7) (T (200 * r2 + l)) = 1 → pak q P (A 21) (A 22) (A 23) (A 24) k (T (200 * r + i)) (T (200 * r2 + l))) (Q := fun x => x = qp (rap q P k (a (b + 7)) L T (A 21) (A 22) (A 23) (A 24) r r2)) (L r) (n := n) (i0 := 1) g2 (by omega) (c0 := qz 1) ⟨rfl, fun i i0 i1 => by omega⟩ ?_ ?_
  rotate_left
  · rintro t c t0 t1 ⟨rfl, h⟩
    obtain ⟨p1, p2, p3⟩ := g4 t (by omega) t1
    unfold gL_X1_areApart_88 g_X1_areApart_88 g_X1_areApart_129
    simp only [zl0, zl1]
    rw [if_neg (by rw [qz_le (by omega) (by omega) (by omega) (by omega)]; omega), gpm_0 hm, c_sget hm SK r0 r1 hR (by omega) (by omega), if_pos t1, bd_some, gpm_2 hm, hd, c_var hb (GJ w) p2 p3, bd_some, c_isPart hn hm p2 (by omega), bd_some, qz_add]
    by_cases c : a (b + 7) (T (200 * r + t)) = 1
    · rw [qp_T c, if_neg n10]
      by_cases c2 : ∀ v, 0 ≤ v → v < 320 → bt (u1 j (m + 9) w (m + 9)) 0 v → bt (u1 j (m + 9) w (m + 8)) (T (200 * r + t) * 5) v
      · rw [qp_T c2, if_neg n10]
        refine Or.inl ⟨_, rfl, rfl, fun i i0 i1 hv => ?_⟩
        by_cases e : i = t
        · rw [e]
          exact (hpart _ p2 (by omega)).mp c2
        · exact h i i0 (by omega) hv
      · rw [qp_F c2, if_pos rfl]
        refine Or.inr ⟨_, rfl, ?_⟩
        rw [qp_F (fun z : rap q P k (a (b + 7)) L T (A 21) (A 22) (A 23) (A 24) r r2 => c2 ((hpart _ p2 (by omega)).mpr (z t t0 t1 c)))]
    · rw [qp_F c, if_pos rfl]
      refine Or.inl ⟨_, rfl, rfl, fun i i0 i1 hv => ?_⟩
      by_cases e : i = t
      · rw [e] at hv; exact absurd hv c
      · exact h i i0 (by omega) hv
  · rintro c ⟨rfl, h⟩
    refine ⟨_, ?_, rfl⟩
    unfold gL_X1_areApart_88 g_X1_areApart_88
    rw [if_pos (by rw [qz_le (by omega) (by omega) (by omega) (by omega)]; omega), qp_T (show rap q P k (a (b + 7)) L T (A 21) (A 22) (A 23) (A 24) r r2 from h)]
    rfl
  obtain ⟨x, ex, rfl⟩ := lp2
  refine ⟨w, ?_⟩
  unfold g_X1_areApart g_X1_areApart_0
  rw [gpm_5 hm, flm_9 hm hn, bd_some, gpm_0 hm, c_size (rwm_1 hm) SK.1 s0 (by rw [SK.2.1]; exact s1), bd_some, k1, zl1, es, bd_some, gpm_0 hm, c_size (rwm_1 hm) SK.1 r0 (by rw [SK.2.1]; exact r1), bd_some, g1, ex, bd_some]
/-- the pairs of an assertion are kept apart -/
theorem c_keeps {e : Int} (hn : 100000 ≤ n) (hm : mch m) (hb : bks b) (hd : d (mi m) = b) (G : BK b q S K P len f a ni j A J) (SK : RWL (m + 1) 32768 R S f a ni L T) (hR : R ≤ 100) (h0 : 0 ≤ e) (h1 : e < K) (hk : 2 ≤ a (b + 8) e) (HP : PRT m q P k A j) (hs : ∀ x, mf (a (b + 20 + 1)) (a (b + 20 + 2)) (a (b + 8)) (a (b + 11 + 1)) (a (b + 11 + 2)) e x → 0 ≤ a (m + 7) x ∧ a (m + 7) x < R) : ∃ w : Int → Int64, g_X1_keepsApart n m (qz e) (cs f d a ni j) = some (qp (∀ x y, mem (a (b + 23 + 1)) (a (b + 23 + 2) e) (a (b + 23 + 2) (e + 1)) (300 * x + y) → 0 ≤ x → x < y → y < 300 → rap q P k (a (b + 7)) L T (A 21) (A 22) (A 23) (A 24) (a (m + 7) x) (a (m + 7) y)), cs f d a ni (u1 j (m + 9) w)) := by
  have hbb : b = 1 ∨ b = 33 := hb
  have hmm : m = 83 ∨ m = 93 := hm
  have hS : S ≤ 300 := G.2.1.2.1
  obtain ⟨d1, d2, d3, d4, d5, d6⟩ := bk_d G h0 h1
  have d5 := d5 hk
  have grw := G.2.2.2.2.2.2.2.2.2.2.2.2.2
  have GJ : ∀ w : Int → Int64, BK b q S K P len f a ni (u1 j (m + 9) w) A J := fun w => bk_eq G (fun _ _ _ => rfl) (fun _ _ _ => rfl) (fun _ _ _ => rfl) (u1_o (by omega)) (fun _ _ _ => rfl) ⟨rfl, rfl⟩
  have HPJ : ∀ w : Int → Int64, PRT m q P k A (u1 j (m + 9) w) := fun w u v u0 u1' v0 v1' => by
    rw [u1_o (by omega)]
    exact HP u v u0 u1' v0 v1'
  have hit : ∀ i, 0 ≤ i → i < a (b + 23 + 2) (e + 1) - a (b + 23 + 2) e → ∃ x y, 0 ≤ x ∧ x < y ∧ y < 300 ∧ a (b + 23 + 1) (a (b + 23 + 2) e + i) = 300 * x + y ∧ (0 ≤ a (m + 7) x ∧ a (m + 7) x < R) ∧ (0 ≤ a (m + 7) y ∧ a (m + 7) y < R) := by
    intro i i0 i1
    obtain ⟨x, y, x0, xy, y1, e1, _, _, _, m1, m2⟩ := (d5 _).mp ⟨a (b + 23 + 2) e + i, by omega, by omega, rfl⟩
    exact ⟨x, y, x0, xy, by omega, e1, hs x m1, hs y m2⟩
  have lp := lp_ix (b := gL_X1_keepsApart_14 n m (qz e) (qz (a (b + 23 + 2) (e + 1) - a (b + 23 + 2) e))) (fun t c => ∃ w : Int → Int64, c = (qz t, cs f d a ni (u1 j (m + 9) w)) ∧ ∀ i, 0 ≤ i → i < t → ∀ x y, a (b + 23 + 1) (a (b + 23 + 2) e + i) = 300 * x + y → 0 ≤ x → x < y → y < 300 → rap q P k (a (b + 7)) L T (A 21) (A 22) (A 23) (A 24) (a (m + 7) x) (a (m + 7) y)) (Q := fun s => ∃ w : Int → Int64, s = (qp (∀ x y, mem (a (b + 23 + 1)) (a (b + 23 + 2) e) (a (b + 23 + 2) (e + 1)) (300 * x + y) → 0 ≤ x → x < y → y < 300 → rap q P k (a (b + 7)) L T (A 21) (A 22) (A 23) (A 24) (a (m + 7) x) (a (m + 7) y)), cs f d a ni (u1 j (m + 9) w))) (a (b + 23 + 2) (e + 1) - a (b + 23 + 2) e) (n := n) (i0 := 0) (by omega) (by omega) (c0 := (qz 0, cs f d a ni j)) ⟨j (m + 9), by rw [u1_id rfl], fun i i0 i1 => by omega⟩ ?_ ?_
  · obtain ⟨s, es, w, rfl⟩ := lp
    refine ⟨w, ?_⟩
    unfold g_X1_keepsApart g_X1_keepsApart_0
    rw [gpm_2 hm, hd, gpb_13 hb, c_size (rws_b23 hb) grw.2.2.2.2.1 h0 (by rw [grw.2.2.2.2.2.2.2.2.2.2.1]; exact h1), bd_some, zl0, es, bd_some]
  · rintro t c t0 t1 ⟨w, rfl, h⟩
    obtain ⟨x, y, x0, xy, y1, e1, ⟨sx0, sx1⟩, sy0, sy1⟩ := hit t t0 t1
    obtain ⟨w2, ew⟩ := c_areApart (n := n) (r := a (m + 7) x) (r2 := a (m + 7) y) hn hm hb hd (GJ w) SK hR sx0 sx1 sy0 sy1 (HPJ w)
    rw [u1_1] at ew
    have em : gL_X1_keepsApart_14 n m (qz e) (qz (a (b + 23 + 2) (e + 1) - a (b + 23 + 2) e)) (qz t, cs f d a ni (u1 j (m + 9) w)) = if qp (rap q P k (a (b + 7)) L T (A 21) (A 22) (A 23) (A 24) (a (m + 7) x) (a (m + 7) y)) = qz 0 then some (.inr (qz 0, cs f d a ni (u1 j (m + 9) w2))) else some (.inl (qz (t + 1), cs f d a ni (u1 j (m + 9) w2))) := by
      unfold gL_X1_keepsApart_14 g_X1_keepsApart_14
      simp only [zl0, zl1, zl300]
      rw [if_neg (by rw [qz_le (by omega) (by omega) (by omega) (by omega)]; omega), gpm_2 hm, hd, gpb_13 hb, c_get (rws_b23 hb) grw.2.2.2.2.1 h0 (by rw [grw.2.2.2.2.2.2.2.2.2.2.1]; exact h1) t0 t1, bd_some, e1, qz_div (by omega) (by omega) (by omega) (by omega), qz_mul, qz_sub, show (300 * x + y) / 300 = x by omega, show 300 * x + y - x * 300 = y by omega, gpm_3 hm, gam_7 hm x0 (by omega), bd_some, gam_7 hm (by omega) y1, bd_some, ew, bd_some, qz_add]
    by_cases c : rap q P k (a (b + 7)) L T (A 21) (A 22) (A 23) (A 24) (a (m + 7) x) (a (m + 7) y)
    · rw [qp_T c, if_neg n10] at em
      refine Or.inl ⟨_, em, w2, rfl, fun i i0 i1 x' y' he x0' xy' y1' => ?_⟩
      by_cases ee : i = t
      · rw [ee, e1] at he
        rw [show x' = x by omega, show y' = y by omega]
        exact c
      · exact h i i0 (by omega) x' y' he x0' xy' y1'
    · rw [qp_F c, if_pos rfl] at em
      refine Or.inr ⟨_, em, w2, ?_⟩
      rw [qp_F (fun z => c (z x y ⟨a (b + 23 + 2) e + t, by omega, by omega, e1⟩ x0 xy y1))]
  · rintro c ⟨w, rfl, h⟩
    refine ⟨_, ?_, w, rfl⟩
    unfold gL_X1_keepsApart_14 g_X1_keepsApart_14
    rw [if_pos (by rw [qz_le (by omega) (by omega) (by omega) (by omega)]; omega), qp_T (fun x y ⟨i, i0, i1, i2⟩ x0 xy y1 => h (i - a (b + 23 + 2) e) (by omega) (by omega) x y (by rw [show a (b + 23 + 2) e + (i - a (b + 23 + 2) e) = i by omega]; exact i2) x0 xy y1)]
    rfl
end APA
