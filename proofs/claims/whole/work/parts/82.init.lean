/-! Constructors: a heap as a list of cells from z on -/
def hl (z : Nat) (L : List hp_E) : hp_H := fun q => if q < z then none else L[q - z]?
abbrev ob (c : Nat) (V : Nat → Value) : hp_E := .inr (.inr (c, V))
abbrev ai (t n : Nat) : hp_E := .inl (t, n, fun _ => 0)
abbrev aj (n : Nat) : hp_E := .inr (.inl (n, fun _ => 0))
theorem hl_at {z a : Nat} {A B : List hp_E} {e : hp_E} (ha : a = z + A.length) : hl z (A ++ e :: B) a = some e := by
  subst ha
  unfold hl
  rw [if_neg (by omega), show z + A.length - z = A.length by omega]
  simp
theorem hl_set {z a : Nat} {A B : List hp_E} {e e2 : hp_E} (ha : a = z + A.length) : hp_w (hl z (A ++ e :: B)) a e2 = hl z (A ++ e2 :: B) := by
  subst ha
  funext q
  by_cases h : q = z + A.length
  · subst h
    rw [hp_w_self, hl_at rfl]
  · rw [hp_w_ne h]
    unfold hl
    by_cases h2 : q < z
    · simp [h2]
    · simp only [h2, if_false]
      have h3 : q - z ≠ A.length := by omega
      rw [List.getElem?_append, List.getElem?_append]
      by_cases h4 : q - z < A.length
      · simp [h4]
      · simp only [h4, if_false]
        obtain ⟨d, hd⟩ : ∃ d, q - z - A.length = d + 1 := ⟨q - z - A.length - 1, by omega⟩
        rw [hd]
        rfl
theorem hl_push {z a : Nat} {A : List hp_E} {e : hp_E} (ha : a = z + A.length) : hp_w (hl z A) a e = hl z (A ++ [e]) := by
  subst ha
  funext q
  by_cases h : q = z + A.length
  · subst h
    rw [hp_w_self, hl_at rfl]
  · rw [hp_w_ne h]
    unfold hl
    by_cases h2 : q < z
    · simp [h2]
    · simp only [h2, if_false]
      rw [List.getElem?_append]
      by_cases h4 : q - z < A.length
      · simp [h4]
      · simp only [h4, if_false]
        rw [List.getElem?_eq_none (by omega), List.getElem?_eq_none (by simp; omega)]
section HL
variable {z a : Nat} {A B : List hp_E} {o : hp_E} {c : Nat} {V : Nat → Value}
theorem hl_len {S : List hp_E} : z + (A ++ o :: S).length = z + A.length + 1 + S.length := by simp; omega
theorem hl_na {S : List hp_E} {t n : Nat} (ha : a = z + A.length + 1 + S.length) : hp_na (hl z (A ++ o :: S)) a t n = hl z (A ++ o :: (S ++ [ai t n])) := by
  unfold hp_na
  rw [hl_push (by rw [hl_len]; exact ha)]
  simp
theorem hl_nj {S : List hp_E} {n : Nat} (ha : a = z + A.length + 1 + S.length) : hp_nj (hl z (A ++ o :: S)) a n = hl z (A ++ o :: (S ++ [aj n])) := by
  unfold hp_nj
  rw [hl_push (by rw [hl_len]; exact ha)]
  simp
theorem hl_nw {S : List hp_E} {ci : Nat} {ty : Nat → FieldType} (ha : a = z + A.length + 1 + S.length) : hp_nw (hl z (A ++ o :: S)) a ci ty = hl z (A ++ o :: (S ++ [ob ci (fun k => defaultValue (ty k))])) := by
  unfold hp_nw
  rw [hl_push (by rw [hl_len]; exact ha)]
  simp
theorem hl_ck {S : List hp_E} : hp_ck (hl z (A ++ ob c V :: S)) c (z + A.length) = some () := by
  unfold hp_ck
  rw [hl_at rfl]
  simp
theorem hl_pF {S : List hp_E} {k : Nat} {v : Value} : hp_pF (hl z (A ++ ob c V :: S)) c (z + A.length) k v = some (hl z (A ++ ob c (updV V k v) :: S)) := by
  unfold hp_pF
  rw [hl_at rfl]
  simp only [if_true]
  rw [hl_set rfl]
theorem hl_fR {S : List hp_E} {k q : Nat} (hv : V k = .ref q) : hp_fR (hl z (A ++ ob c V :: S)) c (z + A.length) k = some q := by
  unfold hp_fR hp_f
  rw [hl_at rfl]
  simp [hv]
theorem hl_fR2 {S T : List hp_E} {k q : Nat} (ha : a = z + A.length + 1 + S.length) (hv : V k = .ref q) : hp_fR (hl z (A ++ o :: (S ++ ob c V :: T))) c a k = some q := by
  unfold hp_fR hp_f
  rw [show A ++ o :: (S ++ ob c V :: T) = (A ++ o :: S) ++ ob c V :: T by simp, hl_at (by rw [hl_len]; exact ha)]
  simp [hv]
theorem hl_sub {f : Nat → hp_H → Nat → Nat → Option (hp_H × Nat × Nat)} {S e : List hp_E} {x x2 : hp_E} {sz sl k l : Nat} (hi : f (z + (A ++ o :: S).length) (hl z ((A ++ o :: S) ++ x :: [])) sz sl = some (hl z ((A ++ o :: S) ++ x2 :: ([] ++ e)), k, l)) (ha : a = z + A.length + 1 + S.length) : f a (hl z (A ++ o :: (S ++ [x]))) sz sl = some (hl z (A ++ o :: (S ++ x2 :: e)), k, l) := by
  subst ha
  rw [hl_len] at hi
  simpa using hi
theorem hl_sub1 {f : Nat → hp_H → Option hp_H} {S : List hp_E} {x x2 : hp_E} (hi : f (z + (A ++ o :: S).length) (hl z ((A ++ o :: S) ++ x :: [])) = some (hl z ((A ++ o :: S) ++ x2 :: []))) (ha : a = z + A.length + 1 + S.length) : f a (hl z (A ++ o :: (S ++ [x]))) = some (hl z (A ++ o :: (S ++ [x2]))) := by
  subst ha
  rw [hl_len] at hi
  simpa using hi
end HL
theorem fill_ok {n a N : Nat} {v : Int32} (hn : N < n) (hN : N ≤ 100000) : ∀ (k i : Nat) (h : hp_H) (f : Nat → Int32), i ≤ N → N < i + k → h a = some (.inl (0, N, f)) → ∃ h2, hp_lp (fL_J7_fill_53178_5 n a v (Int32.ofNat N)) k (nI i, h) = some h2 ∧ h2 = hp_w h a (.inl (0, N, fun j => if i ≤ j ∧ j < N then v else f j)) := by
  intro k
  induction k with
  | zero => intro i h f hi hk; omega
  | succ k ih =>
    intro i h f hi hk ha
    by_cases q : i = N
    · refine ⟨h, hp_lp_x ?_, ?_⟩
      · show f_J7_fill_53178_5 n a v (nI i) (Int32.ofNat N) h = _
        unfold f_J7_fill_53178_5
        rw [if_pos (by rw [q]; exact nI_le (Nat.le_refl N) (by omega))]
      · subst q
        funext p
        by_cases hp : p = a
        · subst hp
          rw [hp_w_self, ha]
          congr 3
          congr 1
          funext j
          rw [if_neg (by omega)]
        · rw [hp_w_ne hp]
    · have h1 : hp_sI h 0 a (nI i) v = some (hp_w h a (.inl (0, N, upd f i v))) := by
        unfold hp_sI
        rw [ha]
        simp only [nI_toInt (show i < 2 ^ 31 by omega), nI_clamp (show i < 2 ^ 31 by omega)]
        rw [if_pos ⟨trivial, by omega, by omega⟩]
        rfl
      obtain ⟨h2, e2, e3⟩ := ih (i + 1) (hp_w h a (.inl (0, N, upd f i v))) (upd f i v) (by omega) (by omega) hp_w_self
      refine ⟨h2, hp_lp_s (s2 := (nI (i + 1), hp_w h a (.inl (0, N, upd f i v)))) ?_ e2, ?_⟩
      · show f_J7_fill_53178_5 n a v (nI i) (Int32.ofNat N) h = _
        unfold f_J7_fill_53178_5
        rw [if_neg (show ¬ Int32.ofNat N ≤ nI i from nI_ge (show i < N by omega) (by omega)), h1]
        show some (Sum.inl (nI i + (1 : Int32), _)) = _
        rw [nI_1]
      · rw [e3]
        funext p
        by_cases hp : p = a
        · subst hp
          rw [hp_w_self, hp_w_self]
          congr 3
          congr 1
          funext j
          by_cases j1 : j = i
          · subst j1
            rw [if_neg (by omega), if_pos (by omega)]
            simp [upd]
          · by_cases j2 : i + 1 ≤ j ∧ j < N
            · rw [if_pos j2, if_pos (by omega)]
            · rw [if_neg j2, if_neg (by omega)]
              simp [upd, j1]
        · rw [hp_w_ne hp, hp_w_ne hp, hp_w_ne hp]
theorem fill_hl {z a n N : Nat} {v : Int32} {A B : List hp_E} {f : Nat → Int32} (hn : N < n) (hN : N ≤ 100000) (ha : a = z + A.length) : f_J7_fill_53178 n a v (hl z (A ++ .inl (0, N, f) :: B)) = some (hl z (A ++ .inl (0, N, fun j => if j < N then v else f j) :: B)) := by
  have h0 : hl z (A ++ .inl (0, N, f) :: B) a = some (.inl (0, N, f)) := hl_at ha
  obtain ⟨h2, e2, e3⟩ := fill_ok (v := v) hn hN n 0 _ f (by omega) (by omega) h0
  unfold f_J7_fill_53178 f_J7_fill_53178_0
  have h1 : hp_len (hl z (A ++ .inl (0, N, f) :: B)) a = some (Int32.ofNat N) := by unfold hp_len; rw [h0]
  rw [h1]
  show (hp_lp (fL_J7_fill_53178_5 n a v (Int32.ofNat N)) n (nI 0, _)).bind _ = _
  rw [e2, e3, hl_set ha]
  simp
abbrev wX5 (V : Nat → Value) (sz : Nat) (N1 : Nat) : Nat → Value := (updV (updV V 0 (.ref sz)) 1 (.ref (sz + 1)))
def eX5 (sz : Nat) (N1 : Nat) : List hp_E := [ai 0 64] ++ [ai 0 N1]
theorem eX5_len {sz : Nat} {N1 : Nat} : (eX5 sz N1).length = 2 := by simp [eX5]
set_option maxHeartbeats 2000000 in
set_option maxRecDepth 4000 in
theorem i_X5 {z n sz sl : Nat} {A S : List hp_E} {V : Nat → Value} {v1 : Int32} {N1 : Nat} (hz : sz = z + A.length + 1 + S.length) (hN1 : hp_cnt (v1 + (1 : Int32)) = some N1) : f_X5_init n (z + A.length) v1 (hl z (A ++ ob 5 V :: S)) sz sl = some (hl z (A ++ ob 5 (wX5 V sz N1) :: (S ++ eX5 sz N1)), sz + 2, sl + (64 + N1)) := by
  unfold f_X5_init
  refine tr_eq0 hl_ck ?_
  unfold f_X5_init_0
  rw [hl_na (by (try simp only [List.length_append, List.length_cons, List.length_nil]); omega)]
  unfold f_X5_init_9
  refine tr_eq0 hl_pF ?_
  refine tr_eq0 hN1 ?_
  rw [hl_na (by (try simp only [List.length_append, List.length_cons, List.length_nil]); omega)]
  unfold f_X5_init_18
  refine tr_eq0 hl_pF ?_
  refine congrArg some (Prod.ext (congrArg (hl z) ?_) (Prod.ext ?_ ?_))
  · simp [eX5]
  · (try dsimp only) <;> omega
  · (try dsimp only) <;> omega
abbrev wX2 (V : Nat → Value) (sz : Nat) : Nat → Value := (updV (updV (updV (updV (updV V 0 (.ref sz)) 1 (.ref (sz + 1))) 2 (.ref (sz + 1 + 1))) 3 (.ref (sz + 1 + 1 + 1))) 4 (.ref (sz + 1 + 1 + 1 + 1)))
def eX2 (sz : Nat) : List hp_E := [ai 1 8192] ++ [.inl (0, 256, fun j => if j < 256 then -1 else 0)] ++ [ai 0 500] ++ [ai 0 500] ++ [ai 0 500]
theorem eX2_len {sz : Nat} : (eX2 sz).length = 5 := by simp [eX2]
set_option maxHeartbeats 2000000 in
set_option maxRecDepth 4000 in
theorem i_X2 {z n sz sl : Nat} {A S : List hp_E} {V : Nat → Value} (hz : sz = z + A.length + 1 + S.length) (hn : 100000 ≤ n)  : f_X2_init n (z + A.length) (hl z (A ++ ob 2 V :: S)) sz sl = some (hl z (A ++ ob 2 (wX2 V sz) :: (S ++ eX2 sz)), sz + 5, sl + (8192 + 256 + 500 + 500 + 500)) := by
  unfold f_X2_init
  refine tr_eq0 hl_ck ?_
  unfold f_X2_init_0
  rw [hl_na (by (try simp only [List.length_append, List.length_cons, List.length_nil]); omega)]
  unfold f_X2_init_10
  refine tr_eq0 hl_pF ?_
  rw [hl_na (by (try simp only [List.length_append, List.length_cons, List.length_nil]); omega)]
  unfold f_X2_init_19
  refine tr_eq0 hl_pF ?_
  rw [hl_na (by (try simp only [List.length_append, List.length_cons, List.length_nil]); omega)]
  unfold f_X2_init_28
  refine tr_eq0 hl_pF ?_
  rw [hl_na (by (try simp only [List.length_append, List.length_cons, List.length_nil]); omega)]
  unfold f_X2_init_37
  refine tr_eq0 hl_pF ?_
  rw [hl_na (by (try simp only [List.length_append, List.length_cons, List.length_nil]); omega)]
  unfold f_X2_init_46
  refine tr_eq0 hl_pF ?_
  refine tr_eq0 (hl_fR (q := sz + 1) rfl) ?_
  rw [show A ++ ob 2 (updV (updV (updV (updV (updV V 0 (.ref sz)) 1 (.ref (sz + 1))) 2 (.ref (sz + 1 + 1))) 3 (.ref (sz + 1 + 1 + 1))) 4 (.ref (sz + 1 + 1 + 1 + 1))) :: (((((S ++ [ai 1 8192]) ++ [ai 0 256]) ++ [ai 0 500]) ++ [ai 0 500]) ++ [ai 0 500]) = (A ++ ob 2 (updV (updV (updV (updV (updV V 0 (.ref sz)) 1 (.ref (sz + 1))) 2 (.ref (sz + 1 + 1))) 3 (.ref (sz + 1 + 1 + 1))) 4 (.ref (sz + 1 + 1 + 1 + 1))) :: (S ++ [ai 1 8192])) ++ ai 0 256 :: [ai 0 500, ai 0 500, ai 0 500] by simp]
  refine tr_eq0 (fill_hl (by omega) (by omega) (by simp only [List.length_append, List.length_cons, List.length_nil]; omega)) ?_
  refine congrArg some (Prod.ext (congrArg (hl z) ?_) (Prod.ext ?_ ?_))
  · simp [eX2]
  · (try dsimp only) <;> omega
  · (try dsimp only) <;> omega
abbrev wX0 (V : Nat → Value) (sz : Nat) : Nat → Value := (updV (updV (updV (updV (updV (updV (updV (updV (updV (updV (updV (updV (updV (updV (updV V 0 (.ref sz)) 1 (.ref (sz + 1))) 4 (.ref ((sz + 1) + 5))) 6 (.ref ((sz + 1) + 5 + 1))) 7 (.ref ((sz + 1) + 5 + 1 + 1))) 8 (.ref ((sz + 1) + 5 + 1 + 1 + 1))) 9 (.ref ((sz + 1) + 5 + 1 + 1 + 1 + 1))) 10 (.ref (((sz + 1) + 5 + 1 + 1 + 1 + 1 + 1) + 2))) 11 (.ref ((((sz + 1) + 5 + 1 + 1 + 1 + 1 + 1) + 2 + 1) + 2))) 12 (.ref (((((sz + 1) + 5 + 1 + 1 + 1 + 1 + 1) + 2 + 1) + 2 + 1) + 2))) 13 (.ref ((((((sz + 1) + 5 + 1 + 1 + 1 + 1 + 1) + 2 + 1) + 2 + 1) + 2 + 1) + 2))) 14 (.ref (((((((sz + 1) + 5 + 1 + 1 + 1 + 1 + 1) + 2 + 1) + 2 + 1) + 2 + 1) + 2 + 1) + 2))) 15 (.ref ((((((((sz + 1) + 5 + 1 + 1 + 1 + 1 + 1) + 2 + 1) + 2 + 1) + 2 + 1) + 2 + 1) + 2 + 1) + 2))) 16 (.ref ((((((((sz + 1) + 5 + 1 + 1 + 1 + 1 + 1) + 2 + 1) + 2 + 1) + 2 + 1) + 2 + 1) + 2 + 1) + 2 + 1))) 17 (.ref ((((((((sz + 1) + 5 + 1 + 1 + 1 + 1 + 1) + 2 + 1) + 2 + 1) + 2 + 1) + 2 + 1) + 2 + 1) + 2 + 1 + 1)))
def eX0 (sz : Nat) : List hp_E := (ob 2 (wX2 (fun k => defaultValue (tyX2 k)) (sz + 1)) :: eX2 (sz + 1)) ++ [ai 1 300] ++ [ai 0 200] ++ [ai 0 200] ++ [ai 0 200] ++ (ob 5 (wX5 (fun k => defaultValue (tyX5 k)) ((sz + 1) + 5 + 1 + 1 + 1 + 1 + 1) 201) :: eX5 ((sz + 1) + 5 + 1 + 1 + 1 + 1 + 1) 201) ++ (ob 5 (wX5 (fun k => defaultValue (tyX5 k)) (((sz + 1) + 5 + 1 + 1 + 1 + 1 + 1) + 2 + 1) 201) :: eX5 (((sz + 1) + 5 + 1 + 1 + 1 + 1 + 1) + 2 + 1) 201) ++ (ob 5 (wX5 (fun k => defaultValue (tyX5 k)) ((((sz + 1) + 5 + 1 + 1 + 1 + 1 + 1) + 2 + 1) + 2 + 1) 201) :: eX5 ((((sz + 1) + 5 + 1 + 1 + 1 + 1 + 1) + 2 + 1) + 2 + 1) 201) ++ (ob 5 (wX5 (fun k => defaultValue (tyX5 k)) (((((sz + 1) + 5 + 1 + 1 + 1 + 1 + 1) + 2 + 1) + 2 + 1) + 2 + 1) 201) :: eX5 (((((sz + 1) + 5 + 1 + 1 + 1 + 1 + 1) + 2 + 1) + 2 + 1) + 2 + 1) 201) ++ (ob 5 (wX5 (fun k => defaultValue (tyX5 k)) ((((((sz + 1) + 5 + 1 + 1 + 1 + 1 + 1) + 2 + 1) + 2 + 1) + 2 + 1) + 2 + 1) 201) :: eX5 ((((((sz + 1) + 5 + 1 + 1 + 1 + 1 + 1) + 2 + 1) + 2 + 1) + 2 + 1) + 2 + 1) 201) ++ (ob 5 (wX5 (fun k => defaultValue (tyX5 k)) (((((((sz + 1) + 5 + 1 + 1 + 1 + 1 + 1) + 2 + 1) + 2 + 1) + 2 + 1) + 2 + 1) + 2 + 1) 201) :: eX5 (((((((sz + 1) + 5 + 1 + 1 + 1 + 1 + 1) + 2 + 1) + 2 + 1) + 2 + 1) + 2 + 1) + 2 + 1) 201) ++ [ai 1 200] ++ [ai 0 200] ++ [aj 800]
theorem eX0_len {sz : Nat} : (eX0 sz).length = 31 := by simp [eX0, eX2_len, eX5_len]
set_option maxHeartbeats 2000000 in
set_option maxRecDepth 4000 in
theorem i_X0 {z n sz sl : Nat} {A S : List hp_E} {V : Nat → Value} (hz : sz = z + A.length + 1 + S.length) (hn : 100000 ≤ n)  : f_X0_init n (z + A.length) (hl z (A ++ ob 0 V :: S)) sz sl = some (hl z (A ++ ob 0 (wX0 V sz) :: (S ++ eX0 sz)), sz + 31, sl + (5 + (8192 + 256 + 500 + 500 + 500) + 300 + 200 + 200 + 200 + 4 + (64 + 201) + 4 + (64 + 201) + 4 + (64 + 201) + 4 + (64 + 201) + 4 + (64 + 201) + 4 + (64 + 201) + 200 + 200 + 800)) := by
  unfold f_X0_init
  refine tr_eq0 hl_ck ?_
  unfold f_X0_init_0
  rw [hl_nw (by (try simp only [List.length_append, List.length_cons, List.length_nil]); omega)]
  unfold f_X0_init_8
  refine tr_eq0 (hl_sub (f := fun p q r t => f_X2_init n p  q r t) (i_X2 (S := []) (by (try simp only [List.length_append, List.length_cons, List.length_nil]); omega) hn) (by (try simp only [List.length_append, List.length_cons, List.length_nil]); omega)) ?_
  dsimp only
  unfold f_X0_init_12
  refine tr_eq0 hl_pF ?_
  refine tr_eq0 (hl_fR (q := sz) rfl) ?_
  refine tr_eq0 (hl_fR2 (q := sz + 1) (by (try simp only [List.length_append, List.length_cons, List.length_nil, eX2_len]); omega) rfl) ?_
  refine tr_eq0 hl_pF ?_
  rw [hl_na (by (try simp only [List.length_append, List.length_cons, List.length_nil, eX2_len]); omega)]
  unfold f_X0_init_32
  refine tr_eq0 hl_pF ?_
  rw [hl_na (by (try simp only [List.length_append, List.length_cons, List.length_nil, eX2_len]); omega)]
  unfold f_X0_init_41
  refine tr_eq0 hl_pF ?_
  rw [hl_na (by (try simp only [List.length_append, List.length_cons, List.length_nil, eX2_len]); omega)]
  unfold f_X0_init_50
  refine tr_eq0 hl_pF ?_
  rw [hl_na (by (try simp only [List.length_append, List.length_cons, List.length_nil, eX2_len]); omega)]
  unfold f_X0_init_59
  refine tr_eq0 hl_pF ?_
  rw [hl_nw (by (try simp only [List.length_append, List.length_cons, List.length_nil, eX2_len]); omega)]
  unfold f_X0_init_66
  refine tr_eq0 (hl_sub (f := fun p q r t => f_X5_init n p (200 : Int32) q r t) (i_X5 (S := []) (N1 := 201) (by (try simp only [List.length_append, List.length_cons, List.length_nil, eX2_len]); omega) (by decide)) (by (try simp only [List.length_append, List.length_cons, List.length_nil, eX2_len]); omega)) ?_
  dsimp only
  unfold f_X0_init_73
  refine tr_eq0 hl_pF ?_
  rw [hl_nw (by (try simp only [List.length_append, List.length_cons, List.length_nil, eX2_len, eX5_len]); omega)]
  unfold f_X0_init_80
  refine tr_eq0 (hl_sub (f := fun p q r t => f_X5_init n p (200 : Int32) q r t) (i_X5 (S := []) (N1 := 201) (by (try simp only [List.length_append, List.length_cons, List.length_nil, eX2_len, eX5_len]); omega) (by decide)) (by (try simp only [List.length_append, List.length_cons, List.length_nil, eX2_len, eX5_len]); omega)) ?_
  dsimp only
  unfold f_X0_init_87
  refine tr_eq0 hl_pF ?_
  rw [hl_nw (by (try simp only [List.length_append, List.length_cons, List.length_nil, eX2_len, eX5_len]); omega)]
  unfold f_X0_init_94
  refine tr_eq0 (hl_sub (f := fun p q r t => f_X5_init n p (200 : Int32) q r t) (i_X5 (S := []) (N1 := 201) (by (try simp only [List.length_append, List.length_cons, List.length_nil, eX2_len, eX5_len]); omega) (by decide)) (by (try simp only [List.length_append, List.length_cons, List.length_nil, eX2_len, eX5_len]); omega)) ?_
  dsimp only
  unfold f_X0_init_101
  refine tr_eq0 hl_pF ?_
  rw [hl_nw (by (try simp only [List.length_append, List.length_cons, List.length_nil, eX2_len, eX5_len]); omega)]
  unfold f_X0_init_108
  refine tr_eq0 (hl_sub (f := fun p q r t => f_X5_init n p (200 : Int32) q r t) (i_X5 (S := []) (N1 := 201) (by (try simp only [List.length_append, List.length_cons, List.length_nil, eX2_len, eX5_len]); omega) (by decide)) (by (try simp only [List.length_append, List.length_cons, List.length_nil, eX2_len, eX5_len]); omega)) ?_
  dsimp only
  unfold f_X0_init_115
  refine tr_eq0 hl_pF ?_
  rw [hl_nw (by (try simp only [List.length_append, List.length_cons, List.length_nil, eX2_len, eX5_len]); omega)]
  unfold f_X0_init_122
  refine tr_eq0 (hl_sub (f := fun p q r t => f_X5_init n p (200 : Int32) q r t) (i_X5 (S := []) (N1 := 201) (by (try simp only [List.length_append, List.length_cons, List.length_nil, eX2_len, eX5_len]); omega) (by decide)) (by (try simp only [List.length_append, List.length_cons, List.length_nil, eX2_len, eX5_len]); omega)) ?_
  dsimp only
  unfold f_X0_init_129
  refine tr_eq0 hl_pF ?_
  rw [hl_nw (by (try simp only [List.length_append, List.length_cons, List.length_nil, eX2_len, eX5_len]); omega)]
  unfold f_X0_init_136
  refine tr_eq0 (hl_sub (f := fun p q r t => f_X5_init n p (200 : Int32) q r t) (i_X5 (S := []) (N1 := 201) (by (try simp only [List.length_append, List.length_cons, List.length_nil, eX2_len, eX5_len]); omega) (by decide)) (by (try simp only [List.length_append, List.length_cons, List.length_nil, eX2_len, eX5_len]); omega)) ?_
  dsimp only
  unfold f_X0_init_143
  refine tr_eq0 hl_pF ?_
  rw [hl_na (by (try simp only [List.length_append, List.length_cons, List.length_nil, eX2_len, eX5_len]); omega)]
  unfold f_X0_init_152
  refine tr_eq0 hl_pF ?_
  rw [hl_na (by (try simp only [List.length_append, List.length_cons, List.length_nil, eX2_len, eX5_len]); omega)]
  unfold f_X0_init_161
  refine tr_eq0 hl_pF ?_
  rw [hl_nj (by (try simp only [List.length_append, List.length_cons, List.length_nil, eX2_len, eX5_len]); omega)]
  unfold f_X0_init_170
  refine tr_eq0 hl_pF ?_
  refine congrArg some (Prod.ext (congrArg (hl z) ?_) (Prod.ext ?_ ?_))
  · simp [eX0]
  · (try dsimp only) <;> omega
  · (try dsimp only) <;> omega
abbrev wX6 (V : Nat → Value) (v1 : Nat) : Nat → Value := updV V 3 (.ref v1)
theorem i_X6 {z n : Nat} {A S : List hp_E} {V : Nat → Value} {v1 : Nat} : f_X6_init n (z + A.length) v1 (hl z (A ++ ob 6 V :: S)) = some (hl z (A ++ ob 6 (wX6 V v1) :: S)) := by
  unfold f_X6_init
  refine tr_eq0 hl_ck ?_
  unfold f_X6_init_0
  refine tr_eq0 hl_pF ?_
  rfl
abbrev wX7 (V : Nat → Value) (sz : Nat) : Nat → Value := (updV (updV (updV (updV (updV (updV (updV (updV (updV V 1 (.ref sz)) 2 (.ref (sz + 1))) 3 (.ref (sz + 1 + 1))) 5 (.ref (sz + 1 + 1 + 1))) 6 (.ref (sz + 1 + 1 + 1 + 1))) 7 (.ref (sz + 1 + 1 + 1 + 1 + 1))) 8 (.ref (sz + 1 + 1 + 1 + 1 + 1 + 1))) 10 (.ref (sz + 1 + 1 + 1 + 1 + 1 + 1 + 1))) 11 (.ref (sz + 1 + 1 + 1 + 1 + 1 + 1 + 1 + 1)))
def eX7 (sz : Nat) : List hp_E := [ai 0 16] ++ [ai 0 16] ++ [ai 0 300] ++ [ai 1 300] ++ [ai 1 300] ++ [ai 0 300] ++ [ai 0 200] ++ [ai 0 200] ++ [ai 0 200]
theorem eX7_len {sz : Nat} : (eX7 sz).length = 9 := by simp [eX7]
set_option maxHeartbeats 2000000 in
set_option maxRecDepth 4000 in
theorem i_X7 {z n sz sl : Nat} {A S : List hp_E} {V : Nat → Value} (hz : sz = z + A.length + 1 + S.length)  : f_X7_init n (z + A.length) (hl z (A ++ ob 7 V :: S)) sz sl = some (hl z (A ++ ob 7 (wX7 V sz) :: (S ++ eX7 sz)), sz + 9, sl + (16 + 16 + 300 + 300 + 300 + 300 + 200 + 200 + 200)) := by
  unfold f_X7_init
  refine tr_eq0 hl_ck ?_
  unfold f_X7_init_0
  rw [hl_na (by (try simp only [List.length_append, List.length_cons, List.length_nil]); omega)]
  unfold f_X7_init_9
  refine tr_eq0 hl_pF ?_
  rw [hl_na (by (try simp only [List.length_append, List.length_cons, List.length_nil]); omega)]
  unfold f_X7_init_17
  refine tr_eq0 hl_pF ?_
  rw [hl_na (by (try simp only [List.length_append, List.length_cons, List.length_nil]); omega)]
  unfold f_X7_init_26
  refine tr_eq0 hl_pF ?_
  rw [hl_na (by (try simp only [List.length_append, List.length_cons, List.length_nil]); omega)]
  unfold f_X7_init_35
  refine tr_eq0 hl_pF ?_
  rw [hl_na (by (try simp only [List.length_append, List.length_cons, List.length_nil]); omega)]
  unfold f_X7_init_44
  refine tr_eq0 hl_pF ?_
  rw [hl_na (by (try simp only [List.length_append, List.length_cons, List.length_nil]); omega)]
  unfold f_X7_init_53
  refine tr_eq0 hl_pF ?_
  rw [hl_na (by (try simp only [List.length_append, List.length_cons, List.length_nil]); omega)]
  unfold f_X7_init_62
  refine tr_eq0 hl_pF ?_
  rw [hl_na (by (try simp only [List.length_append, List.length_cons, List.length_nil]); omega)]
  unfold f_X7_init_71
  refine tr_eq0 hl_pF ?_
  rw [hl_na (by (try simp only [List.length_append, List.length_cons, List.length_nil]); omega)]
  unfold f_X7_init_80
  refine tr_eq0 hl_pF ?_
  refine congrArg some (Prod.ext (congrArg (hl z) ?_) (Prod.ext ?_ ?_))
  · simp [eX7]
  · (try dsimp only) <;> omega
  · (try dsimp only) <;> omega
abbrev wX4 (V : Nat → Value) (sz : Nat) (v1 : Nat) (t1 : Nat) : Nat → Value := (updV (updV (updV (updV V 3 (.ref sz)) 10 (.ref ((sz + 1) + 9))) 1 (.ref v1)) 2 (.ref ((sz + 1) + 9 + 1)))
def eX4 (sz : Nat) (v1 : Nat) (t1 : Nat) : List hp_E := (ob 7 (wX7 (fun k => defaultValue (tyX7 k)) (sz + 1)) :: eX7 (sz + 1)) ++ [ai 0 8] ++ [ob 6 (wX6 (fun k => defaultValue (tyX6 k)) t1)]
theorem eX4_len {sz : Nat} {v1 : Nat} {t1 : Nat} : (eX4 sz v1 t1).length = 12 := by simp [eX4, eX7_len]
set_option maxHeartbeats 2000000 in
set_option maxRecDepth 4000 in
theorem i_X4 {z n sz sl : Nat} {A S : List hp_E} {V : Nat → Value} {v1 : Nat} (hz : sz = z + A.length + 1 + S.length) {t1 : Nat} (hT1 : ∀ (A2 S2 : List hp_E) (o2 : hp_E), A2 = A → hp_fR (hl z (A2 ++ o2 :: S2)) 0 v1 1 = some t1) : f_X4_init n (z + A.length) v1 (hl z (A ++ ob 4 V :: S)) sz sl = some (hl z (A ++ ob 4 (wX4 V sz v1 t1) :: (S ++ eX4 sz v1 t1)), sz + 12, sl + (13 + (16 + 16 + 300 + 300 + 300 + 300 + 200 + 200 + 200) + 8 + 5)) := by
  unfold f_X4_init
  refine tr_eq0 hl_ck ?_
  unfold f_X4_init_0
  rw [hl_nw (by (try simp only [List.length_append, List.length_cons, List.length_nil]); omega)]
  unfold f_X4_init_8
  refine tr_eq0 (hl_sub (f := fun p q r t => f_X7_init n p  q r t) (i_X7 (S := []) (by (try simp only [List.length_append, List.length_cons, List.length_nil]); omega) ) (by (try simp only [List.length_append, List.length_cons, List.length_nil]); omega)) ?_
  dsimp only
  unfold f_X4_init_12
  refine tr_eq0 hl_pF ?_
  rw [hl_na (by (try simp only [List.length_append, List.length_cons, List.length_nil, eX7_len]); omega)]
  unfold f_X4_init_20
  refine tr_eq0 hl_pF ?_
  refine tr_eq0 hl_pF ?_
  rw [hl_nw (by (try simp only [List.length_append, List.length_cons, List.length_nil, eX7_len]); omega)]
  unfold f_X4_init_32
  refine tr_eq0 (hT1 A _ _ rfl) ?_
  refine tr_eq0 (hl_sub1 (f := fun p q => f_X6_init n p t1 q) (i_X6 (S := [])) (by (try simp only [List.length_append, List.length_cons, List.length_nil, eX7_len]); omega)) ?_
  refine tr_eq0 hl_pF ?_
  refine congrArg some (Prod.ext (congrArg (hl z) ?_) (Prod.ext ?_ ?_))
  · simp [eX4]
  · (try dsimp only) <;> omega
  · (try dsimp only) <;> omega
abbrev wX3 (V : Nat → Value) (sz : Nat) (v1 : Nat) : Nat → Value := (updV (updV (updV (updV (updV V 3 (.ref sz)) 4 (.ref (sz + 1))) 7 (.ref (sz + 1 + 1))) 9 (.ref (sz + 1 + 1 + 1))) 6 (.ref v1))
def eX3 (sz : Nat) (v1 : Nat) : List hp_E := [ai 0 1000] ++ [ai 1 1000] ++ [ai 0 200] ++ [ai 1 200]
theorem eX3_len {sz : Nat} {v1 : Nat} : (eX3 sz v1).length = 4 := by simp [eX3]
set_option maxHeartbeats 2000000 in
set_option maxRecDepth 4000 in
theorem i_X3 {z n sz sl : Nat} {A S : List hp_E} {V : Nat → Value} {v1 : Nat} (hz : sz = z + A.length + 1 + S.length)  : f_X3_init n (z + A.length) v1 (hl z (A ++ ob 3 V :: S)) sz sl = some (hl z (A ++ ob 3 (wX3 V sz v1) :: (S ++ eX3 sz v1)), sz + 4, sl + (1000 + 1000 + 200 + 200)) := by
  unfold f_X3_init
  refine tr_eq0 hl_ck ?_
  unfold f_X3_init_0
  rw [hl_na (by (try simp only [List.length_append, List.length_cons, List.length_nil]); omega)]
  unfold f_X3_init_10
  refine tr_eq0 hl_pF ?_
  rw [hl_na (by (try simp only [List.length_append, List.length_cons, List.length_nil]); omega)]
  unfold f_X3_init_19
  refine tr_eq0 hl_pF ?_
  rw [hl_na (by (try simp only [List.length_append, List.length_cons, List.length_nil]); omega)]
  unfold f_X3_init_28
  refine tr_eq0 hl_pF ?_
  rw [hl_na (by (try simp only [List.length_append, List.length_cons, List.length_nil]); omega)]
  unfold f_X3_init_37
  refine tr_eq0 hl_pF ?_
  refine tr_eq0 hl_pF ?_
  refine congrArg some (Prod.ext (congrArg (hl z) ?_) (Prod.ext ?_ ?_))
  · simp [eX3]
  · (try dsimp only) <;> omega
  · (try dsimp only) <;> omega
abbrev wX1 (V : Nat → Value) (sz : Nat) (v1 : Nat) : Nat → Value := (updV (updV (updV (updV (updV (updV V 0 (.ref sz)) 1 (.ref ((sz + 1) + 2))) 3 (.ref (((sz + 1) + 2 + 1) + 2))) 4 (.ref (((sz + 1) + 2 + 1) + 2 + 1))) 5 (.ref (((sz + 1) + 2 + 1) + 2 + 1 + 1))) 2 (.ref v1))
def eX1 (sz : Nat) (v1 : Nat) : List hp_E := (ob 5 (wX5 (fun k => defaultValue (tyX5 k)) (sz + 1) 102) :: eX5 (sz + 1) 102) ++ (ob 5 (wX5 (fun k => defaultValue (tyX5 k)) ((sz + 1) + 2 + 1) 201) :: eX5 ((sz + 1) + 2 + 1) 201) ++ [ai 0 300] ++ [aj 1500] ++ [aj 5]
theorem eX1_len {sz : Nat} {v1 : Nat} : (eX1 sz v1).length = 9 := by simp [eX1, eX5_len]
set_option maxHeartbeats 2000000 in
set_option maxRecDepth 4000 in
theorem i_X1 {z n sz sl : Nat} {A S : List hp_E} {V : Nat → Value} {v1 : Nat} (hz : sz = z + A.length + 1 + S.length)  : f_X1_init n (z + A.length) v1 (hl z (A ++ ob 1 V :: S)) sz sl = some (hl z (A ++ ob 1 (wX1 V sz v1) :: (S ++ eX1 sz v1)), sz + 9, sl + (4 + (64 + 102) + 4 + (64 + 201) + 300 + 1500 + 5)) := by
  unfold f_X1_init
  refine tr_eq0 hl_ck ?_
  unfold f_X1_init_0
  rw [hl_nw (by (try simp only [List.length_append, List.length_cons, List.length_nil]); omega)]
  unfold f_X1_init_8
  refine tr_eq0 (hl_sub (f := fun p q r t => f_X5_init n p (101 : Int32) q r t) (i_X5 (S := []) (N1 := 102) (by (try simp only [List.length_append, List.length_cons, List.length_nil]); omega) (by decide)) (by (try simp only [List.length_append, List.length_cons, List.length_nil]); omega)) ?_
  dsimp only
  unfold f_X1_init_14
  refine tr_eq0 hl_pF ?_
  rw [hl_nw (by (try simp only [List.length_append, List.length_cons, List.length_nil, eX5_len]); omega)]
  unfold f_X1_init_21
  refine tr_eq0 (hl_sub (f := fun p q r t => f_X5_init n p (200 : Int32) q r t) (i_X5 (S := []) (N1 := 201) (by (try simp only [List.length_append, List.length_cons, List.length_nil, eX5_len]); omega) (by decide)) (by (try simp only [List.length_append, List.length_cons, List.length_nil, eX5_len]); omega)) ?_
  dsimp only
  unfold f_X1_init_28
  refine tr_eq0 hl_pF ?_
  rw [hl_na (by (try simp only [List.length_append, List.length_cons, List.length_nil, eX5_len]); omega)]
  unfold f_X1_init_37
  refine tr_eq0 hl_pF ?_
  rw [hl_nj (by (try simp only [List.length_append, List.length_cons, List.length_nil, eX5_len]); omega)]
  unfold f_X1_init_46
  refine tr_eq0 hl_pF ?_
  rw [hl_nj (by (try simp only [List.length_append, List.length_cons, List.length_nil, eX5_len]); omega)]
  unfold f_X1_init_53
  refine tr_eq0 hl_pF ?_
  refine tr_eq0 hl_pF ?_
  refine congrArg some (Prod.ext (congrArg (hl z) ?_) (Prod.ext ?_ ?_))
  · simp [eX1]
  · (try dsimp only) <;> omega
  · (try dsimp only) <;> omega
abbrev wX8 (V : Nat → Value) (sz : Nat) : Nat → Value := (updV V 0 (.ref sz))
def eX8 (sz : Nat) : List hp_E := [ai 1 6000]
theorem eX8_len {sz : Nat} : (eX8 sz).length = 1 := by simp [eX8]
set_option maxHeartbeats 2000000 in
set_option maxRecDepth 4000 in
theorem i_X8 {z n sz sl : Nat} {A S : List hp_E} {V : Nat → Value} (hz : sz = z + A.length + 1 + S.length)  : f_X8_init n (z + A.length) (hl z (A ++ ob 8 V :: S)) sz sl = some (hl z (A ++ ob 8 (wX8 V sz) :: (S ++ eX8 sz)), sz + 1, sl + (6000)) := by
  unfold f_X8_init
  refine tr_eq0 hl_ck ?_
  unfold f_X8_init_0
  rw [hl_na (by (try simp only [List.length_append, List.length_cons, List.length_nil]); omega)]
  unfold f_X8_init_10
  refine tr_eq0 hl_pF ?_
  refine congrArg some (Prod.ext (congrArg (hl z) ?_) (Prod.ext ?_ ?_))
  · simp [eX8]
  · (try dsimp only) <;> omega
  · (try dsimp only) <;> omega
abbrev wX9 (V : Nat → Value) (sz : Nat) (v1 : Nat) (v2 : Nat) : Nat → Value := (updV (updV (updV (updV (updV (updV (updV (updV (updV (updV (updV (updV (updV V 4 (.ref sz)) 5 (.ref (sz + 1))) 6 (.ref ((sz + 1 + 1) + 2))) 7 (.ref ((sz + 1 + 1) + 2 + 1))) 8 (.ref ((sz + 1 + 1) + 2 + 1 + 1))) 9 (.ref ((sz + 1 + 1) + 2 + 1 + 1 + 1))) 10 (.ref ((sz + 1 + 1) + 2 + 1 + 1 + 1 + 1))) 11 (.ref ((sz + 1 + 1) + 2 + 1 + 1 + 1 + 1 + 1))) 13 (.ref ((sz + 1 + 1) + 2 + 1 + 1 + 1 + 1 + 1 + 1))) 14 (.ref ((sz + 1 + 1) + 2 + 1 + 1 + 1 + 1 + 1 + 1 + 1))) 16 (.ref ((sz + 1 + 1) + 2 + 1 + 1 + 1 + 1 + 1 + 1 + 1 + 1))) 0 (.ref v1)) 1 (.ref v2))
def eX9 (sz : Nat) (v1 : Nat) (v2 : Nat) : List hp_E := [ai 0 1000] ++ (ob 5 (wX5 (fun k => defaultValue (tyX5 k)) (sz + 1 + 1) 1001) :: eX5 (sz + 1 + 1) 1001) ++ [ai 0 1000] ++ [ai 0 256] ++ [ai 0 1000] ++ [ai 0 200] ++ [ai 0 1000] ++ [ai 0 1000] ++ [ai 0 200] ++ [ai 0 1000] ++ [ai 0 16]
theorem eX9_len {sz : Nat} {v1 : Nat} {v2 : Nat} : (eX9 sz v1 v2).length = 13 := by simp [eX9, eX5_len]
set_option maxHeartbeats 2000000 in
set_option maxRecDepth 4000 in
theorem i_X9 {z n sz sl : Nat} {A S : List hp_E} {V : Nat → Value} {v1 : Nat} {v2 : Nat} (hz : sz = z + A.length + 1 + S.length)  : f_X9_init n (z + A.length) v1 v2 (hl z (A ++ ob 9 V :: S)) sz sl = some (hl z (A ++ ob 9 (wX9 V sz v1 v2) :: (S ++ eX9 sz v1 v2)), sz + 13, sl + (1000 + 4 + (64 + 1001) + 1000 + 256 + 1000 + 200 + 1000 + 1000 + 200 + 1000 + 16)) := by
  unfold f_X9_init
  refine tr_eq0 hl_ck ?_
  unfold f_X9_init_0
  rw [hl_na (by (try simp only [List.length_append, List.length_cons, List.length_nil]); omega)]
  unfold f_X9_init_10
  refine tr_eq0 hl_pF ?_
  rw [hl_nw (by (try simp only [List.length_append, List.length_cons, List.length_nil]); omega)]
  unfold f_X9_init_17
  refine tr_eq0 (hl_sub (f := fun p q r t => f_X5_init n p (1000 : Int32) q r t) (i_X5 (S := []) (N1 := 1001) (by (try simp only [List.length_append, List.length_cons, List.length_nil]); omega) (by decide)) (by (try simp only [List.length_append, List.length_cons, List.length_nil]); omega)) ?_
  dsimp only
  unfold f_X9_init_24
  refine tr_eq0 hl_pF ?_
  rw [hl_na (by (try simp only [List.length_append, List.length_cons, List.length_nil, eX5_len]); omega)]
  unfold f_X9_init_33
  refine tr_eq0 hl_pF ?_
  rw [hl_na (by (try simp only [List.length_append, List.length_cons, List.length_nil, eX5_len]); omega)]
  unfold f_X9_init_42
  refine tr_eq0 hl_pF ?_
  rw [hl_na (by (try simp only [List.length_append, List.length_cons, List.length_nil, eX5_len]); omega)]
  unfold f_X9_init_51
  refine tr_eq0 hl_pF ?_
  rw [hl_na (by (try simp only [List.length_append, List.length_cons, List.length_nil, eX5_len]); omega)]
  unfold f_X9_init_60
  refine tr_eq0 hl_pF ?_
  rw [hl_na (by (try simp only [List.length_append, List.length_cons, List.length_nil, eX5_len]); omega)]
  unfold f_X9_init_69
  refine tr_eq0 hl_pF ?_
  rw [hl_na (by (try simp only [List.length_append, List.length_cons, List.length_nil, eX5_len]); omega)]
  unfold f_X9_init_78
  refine tr_eq0 hl_pF ?_
  rw [hl_na (by (try simp only [List.length_append, List.length_cons, List.length_nil, eX5_len]); omega)]
  unfold f_X9_init_87
  refine tr_eq0 hl_pF ?_
  rw [hl_na (by (try simp only [List.length_append, List.length_cons, List.length_nil, eX5_len]); omega)]
  unfold f_X9_init_96
  refine tr_eq0 hl_pF ?_
  rw [hl_na (by (try simp only [List.length_append, List.length_cons, List.length_nil, eX5_len]); omega)]
  unfold f_X9_init_104
  refine tr_eq0 hl_pF ?_
  refine tr_eq0 hl_pF ?_
  refine tr_eq0 hl_pF ?_
  refine congrArg some (Prod.ext (congrArg (hl z) ?_) (Prod.ext ?_ ?_))
  · simp [eX9]
  · (try dsimp only) <;> omega
  · (try dsimp only) <;> omega
abbrev wX10 (V : Nat → Value) (sz : Nat) : Nat → Value := (updV (updV (updV (updV (updV (updV (updV (updV (updV V 0 (.ref sz)) 1 (.ref ((sz + 1) + 31))) 2 (.ref (((sz + 1) + 31 + 1) + 31))) 3 (.ref ((((sz + 1) + 31 + 1) + 31 + 1) + 12))) 4 (.ref (((((sz + 1) + 31 + 1) + 31 + 1) + 12 + 1) + 4))) 5 (.ref ((((((sz + 1) + 31 + 1) + 31 + 1) + 12 + 1) + 4 + 1) + 9))) 6 (.ref (((((((sz + 1) + 31 + 1) + 31 + 1) + 12 + 1) + 4 + 1) + 9 + 1) + 9))) 7 (.ref ((((((((sz + 1) + 31 + 1) + 31 + 1) + 12 + 1) + 4 + 1) + 9 + 1) + 9 + 1) + 13))) 8 (.ref (((((((((sz + 1) + 31 + 1) + 31 + 1) + 12 + 1) + 4 + 1) + 9 + 1) + 9 + 1) + 13 + 1) + 1)))
def eX10 (sz : Nat) : List hp_E := (ob 0 (wX0 (fun k => defaultValue (tyX0 k)) (sz + 1)) :: eX0 (sz + 1)) ++ (ob 0 (wX0 (fun k => defaultValue (tyX0 k)) ((sz + 1) + 31 + 1)) :: eX0 ((sz + 1) + 31 + 1)) ++ (ob 4 (wX4 (fun k => defaultValue (tyX4 k)) (((sz + 1) + 31 + 1) + 31 + 1) ((sz + 1) + 31) (((sz + 1) + 31 + 1) + 1)) :: eX4 (((sz + 1) + 31 + 1) + 31 + 1) ((sz + 1) + 31) (((sz + 1) + 31 + 1) + 1)) ++ (ob 3 (wX3 (fun k => defaultValue (tyX3 k)) ((((sz + 1) + 31 + 1) + 31 + 1) + 12 + 1) sz) :: eX3 ((((sz + 1) + 31 + 1) + 31 + 1) + 12 + 1) sz) ++ (ob 1 (wX1 (fun k => defaultValue (tyX1 k)) (((((sz + 1) + 31 + 1) + 31 + 1) + 12 + 1) + 4 + 1) sz) :: eX1 (((((sz + 1) + 31 + 1) + 31 + 1) + 12 + 1) + 4 + 1) sz) ++ (ob 1 (wX1 (fun k => defaultValue (tyX1 k)) ((((((sz + 1) + 31 + 1) + 31 + 1) + 12 + 1) + 4 + 1) + 9 + 1) sz) :: eX1 ((((((sz + 1) + 31 + 1) + 31 + 1) + 12 + 1) + 4 + 1) + 9 + 1) sz) ++ (ob 9 (wX9 (fun k => defaultValue (tyX9 k)) (((((((sz + 1) + 31 + 1) + 31 + 1) + 12 + 1) + 4 + 1) + 9 + 1) + 9 + 1) sz ((((sz + 1) + 31 + 1) + 31 + 1) + 12)) :: eX9 (((((((sz + 1) + 31 + 1) + 31 + 1) + 12 + 1) + 4 + 1) + 9 + 1) + 9 + 1) sz ((((sz + 1) + 31 + 1) + 31 + 1) + 12)) ++ (ob 8 (wX8 (fun k => defaultValue (tyX8 k)) ((((((((sz + 1) + 31 + 1) + 31 + 1) + 12 + 1) + 4 + 1) + 9 + 1) + 9 + 1) + 13 + 1)) :: eX8 ((((((((sz + 1) + 31 + 1) + 31 + 1) + 12 + 1) + 4 + 1) + 9 + 1) + 9 + 1) + 13 + 1)) ++ (ob 8 (wX8 (fun k => defaultValue (tyX8 k)) (((((((((sz + 1) + 31 + 1) + 31 + 1) + 12 + 1) + 4 + 1) + 9 + 1) + 9 + 1) + 13 + 1) + 1 + 1)) :: eX8 (((((((((sz + 1) + 31 + 1) + 31 + 1) + 12 + 1) + 4 + 1) + 9 + 1) + 9 + 1) + 13 + 1) + 1 + 1))
theorem eX10_len {sz : Nat} : (eX10 sz).length = 120 := by simp [eX10, eX0_len, eX1_len, eX3_len, eX4_len, eX8_len, eX9_len]
set_option maxHeartbeats 2000000 in
set_option maxRecDepth 4000 in
theorem i_X10 {z n sz sl : Nat} {A S : List hp_E} {V : Nat → Value} (hz : sz = z + A.length + 1 + S.length) (hn : 100000 ≤ n)  : f_X10_init n (z + A.length) (hl z (A ++ ob 10 V :: S)) sz sl = some (hl z (A ++ ob 10 (wX10 V sz) :: (S ++ eX10 sz)), sz + 120, sl + (18 + (5 + (8192 + 256 + 500 + 500 + 500) + 300 + 200 + 200 + 200 + 4 + (64 + 201) + 4 + (64 + 201) + 4 + (64 + 201) + 4 + (64 + 201) + 4 + (64 + 201) + 4 + (64 + 201) + 200 + 200 + 800) + 18 + (5 + (8192 + 256 + 500 + 500 + 500) + 300 + 200 + 200 + 200 + 4 + (64 + 201) + 4 + (64 + 201) + 4 + (64 + 201) + 4 + (64 + 201) + 4 + (64 + 201) + 4 + (64 + 201) + 200 + 200 + 800) + 11 + (13 + (16 + 16 + 300 + 300 + 300 + 300 + 200 + 200 + 200) + 8 + 5) + 13 + (1000 + 1000 + 200 + 200) + 6 + (4 + (64 + 102) + 4 + (64 + 201) + 300 + 1500 + 5) + 6 + (4 + (64 + 102) + 4 + (64 + 201) + 300 + 1500 + 5) + 17 + (1000 + 4 + (64 + 1001) + 1000 + 256 + 1000 + 200 + 1000 + 1000 + 200 + 1000 + 16) + 3 + (6000) + 3 + (6000))) := by
  unfold f_X10_init
  refine tr_eq0 hl_ck ?_
  unfold f_X10_init_0
  rw [hl_nw (by (try simp only [List.length_append, List.length_cons, List.length_nil]); omega)]
  unfold f_X10_init_8
  refine tr_eq0 (hl_sub (f := fun p q r t => f_X0_init n p  q r t) (i_X0 (S := []) (by (try simp only [List.length_append, List.length_cons, List.length_nil]); omega) hn) (by (try simp only [List.length_append, List.length_cons, List.length_nil]); omega)) ?_
  dsimp only
  unfold f_X10_init_12
  refine tr_eq0 hl_pF ?_
  rw [hl_nw (by (try simp only [List.length_append, List.length_cons, List.length_nil, eX0_len]); omega)]
  unfold f_X10_init_19
  refine tr_eq0 (hl_sub (f := fun p q r t => f_X0_init n p  q r t) (i_X0 (S := []) (by (try simp only [List.length_append, List.length_cons, List.length_nil, eX0_len]); omega) hn) (by (try simp only [List.length_append, List.length_cons, List.length_nil, eX0_len]); omega)) ?_
  dsimp only
  unfold f_X10_init_23
  refine tr_eq0 hl_pF ?_
  rw [hl_nw (by (try simp only [List.length_append, List.length_cons, List.length_nil, eX0_len]); omega)]
  unfold f_X10_init_30
  refine tr_eq0 (hl_fR (q := (sz + 1) + 31) rfl) ?_
  refine tr_eq0 (hl_sub (f := fun p q r t => f_X4_init n p ((sz + 1) + 31) q r t) (i_X4 (S := []) (t1 := ((sz + 1) + 31 + 1) + 1) (by (try simp only [List.length_append, List.length_cons, List.length_nil, eX0_len]); omega) (by intro A2 S2 o2 e2; subst e2; unfold hp_fR hp_f; rw [show (A ++ ob 10 (updV (updV V 0 (.ref sz)) 1 (.ref ((sz + 1) + 31))) :: ((S ++ ob 0 (wX0 (fun k => defaultValue (tyX0 k)) (sz + 1)) :: eX0 (sz + 1)) ++ ob 0 (wX0 (fun k => defaultValue (tyX0 k)) ((sz + 1) + 31 + 1)) :: eX0 ((sz + 1) + 31 + 1))) ++ o2 :: S2 = (A ++ ob 10 (updV (updV V 0 (.ref sz)) 1 (.ref ((sz + 1) + 31))) :: (S ++ ob 0 (wX0 (fun k => defaultValue (tyX0 k)) (sz + 1)) :: eX0 (sz + 1))) ++ ob 0 (wX0 (fun k => defaultValue (tyX0 k)) ((sz + 1) + 31 + 1)) :: (eX0 ((sz + 1) + 31 + 1) ++ o2 :: S2) by simp, hl_at (by simp only [List.length_append, List.length_cons, List.length_nil, eX0_len]; omega)]; rfl)) (by (try simp only [List.length_append, List.length_cons, List.length_nil, eX0_len]); omega)) ?_
  dsimp only
  unfold f_X10_init_38
  refine tr_eq0 hl_pF ?_
  rw [hl_nw (by (try simp only [List.length_append, List.length_cons, List.length_nil, eX0_len, eX4_len]); omega)]
  unfold f_X10_init_45
  refine tr_eq0 (hl_fR (q := sz) rfl) ?_
  refine tr_eq0 (hl_sub (f := fun p q r t => f_X3_init n p sz q r t) (i_X3 (S := []) (by (try simp only [List.length_append, List.length_cons, List.length_nil, eX0_len, eX4_len]); omega) ) (by (try simp only [List.length_append, List.length_cons, List.length_nil, eX0_len, eX4_len]); omega)) ?_
  dsimp only
  unfold f_X10_init_53
  refine tr_eq0 hl_pF ?_
  rw [hl_nw (by (try simp only [List.length_append, List.length_cons, List.length_nil, eX0_len, eX3_len, eX4_len]); omega)]
  unfold f_X10_init_60
  refine tr_eq0 (hl_fR (q := sz) rfl) ?_
  refine tr_eq0 (hl_sub (f := fun p q r t => f_X1_init n p sz q r t) (i_X1 (S := []) (by (try simp only [List.length_append, List.length_cons, List.length_nil, eX0_len, eX3_len, eX4_len]); omega) ) (by (try simp only [List.length_append, List.length_cons, List.length_nil, eX0_len, eX3_len, eX4_len]); omega)) ?_
  dsimp only
  unfold f_X10_init_68
  refine tr_eq0 hl_pF ?_
  rw [hl_nw (by (try simp only [List.length_append, List.length_cons, List.length_nil, eX0_len, eX1_len, eX3_len, eX4_len]); omega)]
  unfold f_X10_init_75
  refine tr_eq0 (hl_fR (q := sz) rfl) ?_
  refine tr_eq0 (hl_sub (f := fun p q r t => f_X1_init n p sz q r t) (i_X1 (S := []) (by (try simp only [List.length_append, List.length_cons, List.length_nil, eX0_len, eX1_len, eX3_len, eX4_len]); omega) ) (by (try simp only [List.length_append, List.length_cons, List.length_nil, eX0_len, eX1_len, eX3_len, eX4_len]); omega)) ?_
  dsimp only
  unfold f_X10_init_83
  refine tr_eq0 hl_pF ?_
  rw [hl_nw (by (try simp only [List.length_append, List.length_cons, List.length_nil, eX0_len, eX1_len, eX3_len, eX4_len]); omega)]
  unfold f_X10_init_90
  refine tr_eq0 (hl_fR (q := sz) rfl) ?_
  refine tr_eq0 (hl_fR (q := (((sz + 1) + 31 + 1) + 31 + 1) + 12) rfl) ?_
  refine tr_eq0 (hl_sub (f := fun p q r t => f_X9_init n p sz ((((sz + 1) + 31 + 1) + 31 + 1) + 12) q r t) (i_X9 (S := []) (by (try simp only [List.length_append, List.length_cons, List.length_nil, eX0_len, eX1_len, eX3_len, eX4_len]); omega) ) (by (try simp only [List.length_append, List.length_cons, List.length_nil, eX0_len, eX1_len, eX3_len, eX4_len]); omega)) ?_
  dsimp only
  unfold f_X10_init_102
  refine tr_eq0 hl_pF ?_
  rw [hl_nw (by (try simp only [List.length_append, List.length_cons, List.length_nil, eX0_len, eX1_len, eX3_len, eX4_len, eX9_len]); omega)]
  unfold f_X10_init_109
  refine tr_eq0 (hl_sub (f := fun p q r t => f_X8_init n p  q r t) (i_X8 (S := []) (by (try simp only [List.length_append, List.length_cons, List.length_nil, eX0_len, eX1_len, eX3_len, eX4_len, eX9_len]); omega) ) (by (try simp only [List.length_append, List.length_cons, List.length_nil, eX0_len, eX1_len, eX3_len, eX4_len, eX9_len]); omega)) ?_
  dsimp only
  unfold f_X10_init_113
  refine tr_eq0 hl_pF ?_
  rw [hl_nw (by (try simp only [List.length_append, List.length_cons, List.length_nil, eX0_len, eX1_len, eX3_len, eX4_len, eX8_len, eX9_len]); omega)]
  unfold f_X10_init_120
  refine tr_eq0 (hl_sub (f := fun p q r t => f_X8_init n p  q r t) (i_X8 (S := []) (by (try simp only [List.length_append, List.length_cons, List.length_nil, eX0_len, eX1_len, eX3_len, eX4_len, eX8_len, eX9_len]); omega) ) (by (try simp only [List.length_append, List.length_cons, List.length_nil, eX0_len, eX1_len, eX3_len, eX4_len, eX8_len, eX9_len]); omega)) ?_
  dsimp only
  unfold f_X10_init_124
  refine tr_eq0 hl_pF ?_
  refine congrArg some (Prod.ext (congrArg (hl z) ?_) (Prod.ext ?_ ?_))
  · simp [eX10]
  · (try dsimp only) <;> omega
  · (try dsimp only) <;> omega
abbrev wX11_60 (V : Nat → Value) (a _sz : Nat) : Nat → Value := updV V 84 (.ref a)
abbrev eX11_60 : List hp_E := []
theorem i_X11_60 {z n a sz sl : Nat} {A S : List hp_E} {V : Nat → Value} (_hz : sz = z + A.length + 1 + S.length) : f_X11_init_530 n a (z + A.length) (hl z (A ++ ob 11 V :: S)) sz sl = some (hl z (A ++ ob 11 (wX11_60 V a sz) :: (S ++ eX11_60)), sz + 0, sl + 0) := by
  unfold f_X11_init_530
  refine tr_eq0 hl_pF ?_
  rw [List.append_nil]
  rfl
abbrev wX11_59 (V : Nat → Value) (a sz : Nat) : Nat → Value := wX11_60 (updV V 83 (.ref a)) sz (sz + 1)
abbrev eX11_59 : List hp_E := ai 0 2002 :: eX11_60
theorem i_X11_59 {z n a sz sl : Nat} {A S : List hp_E} {V : Nat → Value} (hz : sz = z + A.length + 1 + S.length) : f_X11_init_521 n (z + A.length) a (z + A.length) (hl z (A ++ ob 11 V :: S)) sz sl = some (hl z (A ++ ob 11 (wX11_59 V a sz) :: (S ++ eX11_59)), sz + 1, sl + 2002) := by
  unfold f_X11_init_521
  refine tr_eq0 hl_pF ?_
  rw [hl_na hz]
  rw [i_X11_60 (by (try simp only [List.length_append, List.length_cons, List.length_nil]); omega), List.append_assoc]
  refine congrArg some (Prod.ext rfl (Prod.ext ?_ ?_))
  · exact (show sz + 1 + 0 = sz + 1 by omega)
  · exact (show sl + 2002 + 0 = sl + 2002 by omega)
abbrev wX11_58 (V : Nat → Value) (a sz : Nat) : Nat → Value := wX11_59 (updV V 81 (.ref a)) sz (sz + 1)
abbrev eX11_58 : List hp_E := ai 2 200 :: eX11_59
theorem i_X11_58 {z n a sz sl : Nat} {A S : List hp_E} {V : Nat → Value} (hz : sz = z + A.length + 1 + S.length) : f_X11_init_512 n (z + A.length) a (z + A.length) (hl z (A ++ ob 11 V :: S)) sz sl = some (hl z (A ++ ob 11 (wX11_58 V a sz) :: (S ++ eX11_58)), sz + 2, sl + 2202) := by
  unfold f_X11_init_512
  refine tr_eq0 hl_pF ?_
  rw [hl_na hz]
  rw [i_X11_59 (by (try simp only [List.length_append, List.length_cons, List.length_nil]); omega), List.append_assoc]
  refine congrArg some (Prod.ext rfl (Prod.ext ?_ ?_))
  · exact (show sz + 1 + 1 = sz + 2 by omega)
  · exact (show sl + 200 + 2002 = sl + 2202 by omega)
abbrev wX11_57 (V : Nat → Value) (a sz : Nat) : Nat → Value := wX11_58 (updV V 79 (.ref a)) sz (sz + 1)
abbrev eX11_57 : List hp_E := ai 0 6000 :: eX11_58
theorem i_X11_57 {z n a sz sl : Nat} {A S : List hp_E} {V : Nat → Value} (hz : sz = z + A.length + 1 + S.length) : f_X11_init_503 n (z + A.length) a (z + A.length) (hl z (A ++ ob 11 V :: S)) sz sl = some (hl z (A ++ ob 11 (wX11_57 V a sz) :: (S ++ eX11_57)), sz + 3, sl + 8202) := by
  unfold f_X11_init_503
  refine tr_eq0 hl_pF ?_
  rw [hl_na hz]
  rw [i_X11_58 (by (try simp only [List.length_append, List.length_cons, List.length_nil]); omega), List.append_assoc]
  refine congrArg some (Prod.ext rfl (Prod.ext ?_ ?_))
  · exact (show sz + 1 + 2 = sz + 3 by omega)
  · exact (show sl + 6000 + 2202 = sl + 8202 by omega)
abbrev wX11_56 (V : Nat → Value) (a sz : Nat) : Nat → Value := wX11_57 (updV V 78 (.ref a)) sz (sz + 1)
abbrev eX11_56 : List hp_E := ai 0 6000 :: eX11_57
theorem i_X11_56 {z n a sz sl : Nat} {A S : List hp_E} {V : Nat → Value} (hz : sz = z + A.length + 1 + S.length) : f_X11_init_494 n (z + A.length) a (z + A.length) (hl z (A ++ ob 11 V :: S)) sz sl = some (hl z (A ++ ob 11 (wX11_56 V a sz) :: (S ++ eX11_56)), sz + 4, sl + 14202) := by
  unfold f_X11_init_494
  refine tr_eq0 hl_pF ?_
  rw [hl_na hz]
  rw [i_X11_57 (by (try simp only [List.length_append, List.length_cons, List.length_nil]); omega), List.append_assoc]
  refine congrArg some (Prod.ext rfl (Prod.ext ?_ ?_))
  · exact (show sz + 1 + 3 = sz + 4 by omega)
  · exact (show sl + 6000 + 8202 = sl + 14202 by omega)
abbrev wX11_55 (V : Nat → Value) (a sz : Nat) : Nat → Value := wX11_56 (updV V 77 (.ref a)) sz (sz + 1)
abbrev eX11_55 : List hp_E := ai 0 200 :: eX11_56
theorem i_X11_55 {z n a sz sl : Nat} {A S : List hp_E} {V : Nat → Value} (hz : sz = z + A.length + 1 + S.length) : f_X11_init_485 n (z + A.length) a (z + A.length) (hl z (A ++ ob 11 V :: S)) sz sl = some (hl z (A ++ ob 11 (wX11_55 V a sz) :: (S ++ eX11_55)), sz + 5, sl + 14402) := by
  unfold f_X11_init_485
  refine tr_eq0 hl_pF ?_
  rw [hl_na hz]
  rw [i_X11_56 (by (try simp only [List.length_append, List.length_cons, List.length_nil]); omega), List.append_assoc]
  refine congrArg some (Prod.ext rfl (Prod.ext ?_ ?_))
  · exact (show sz + 1 + 4 = sz + 5 by omega)
  · exact (show sl + 200 + 14202 = sl + 14402 by omega)
abbrev wX11_54 (V : Nat → Value) (a sz : Nat) : Nat → Value := wX11_55 (updV V 76 (.ref a)) sz (sz + 1)
abbrev eX11_54 : List hp_E := ai 0 1000 :: eX11_55
theorem i_X11_54 {z n a sz sl : Nat} {A S : List hp_E} {V : Nat → Value} (hz : sz = z + A.length + 1 + S.length) : f_X11_init_476 n (z + A.length) a (z + A.length) (hl z (A ++ ob 11 V :: S)) sz sl = some (hl z (A ++ ob 11 (wX11_54 V a sz) :: (S ++ eX11_54)), sz + 6, sl + 15402) := by
  unfold f_X11_init_476
  refine tr_eq0 hl_pF ?_
  rw [hl_na hz]
  rw [i_X11_55 (by (try simp only [List.length_append, List.length_cons, List.length_nil]); omega), List.append_assoc]
  refine congrArg some (Prod.ext rfl (Prod.ext ?_ ?_))
  · exact (show sz + 1 + 5 = sz + 6 by omega)
  · exact (show sl + 1000 + 14402 = sl + 15402 by omega)
abbrev wX11_53 (V : Nat → Value) (a sz : Nat) : Nat → Value := wX11_54 (updV V 75 (.ref a)) sz (sz + 1)
abbrev eX11_53 : List hp_E := ai 0 1000 :: eX11_54
theorem i_X11_53 {z n a sz sl : Nat} {A S : List hp_E} {V : Nat → Value} (hz : sz = z + A.length + 1 + S.length) : f_X11_init_467 n (z + A.length) a (z + A.length) (hl z (A ++ ob 11 V :: S)) sz sl = some (hl z (A ++ ob 11 (wX11_53 V a sz) :: (S ++ eX11_53)), sz + 7, sl + 16402) := by
  unfold f_X11_init_467
  refine tr_eq0 hl_pF ?_
  rw [hl_na hz]
  rw [i_X11_54 (by (try simp only [List.length_append, List.length_cons, List.length_nil]); omega), List.append_assoc]
  refine congrArg some (Prod.ext rfl (Prod.ext ?_ ?_))
  · exact (show sz + 1 + 6 = sz + 7 by omega)
  · exact (show sl + 1000 + 15402 = sl + 16402 by omega)
abbrev wX11_52 (V : Nat → Value) (a sz : Nat) : Nat → Value := wX11_53 (updV V 74 (.ref a)) sz (sz + 1)
abbrev eX11_52 : List hp_E := ai 0 1001 :: eX11_53
theorem i_X11_52 {z n a sz sl : Nat} {A S : List hp_E} {V : Nat → Value} (hz : sz = z + A.length + 1 + S.length) : f_X11_init_458 n (z + A.length) a (z + A.length) (hl z (A ++ ob 11 V :: S)) sz sl = some (hl z (A ++ ob 11 (wX11_52 V a sz) :: (S ++ eX11_52)), sz + 8, sl + 17403) := by
  unfold f_X11_init_458
  refine tr_eq0 hl_pF ?_
  rw [hl_na hz]
  rw [i_X11_53 (by (try simp only [List.length_append, List.length_cons, List.length_nil]); omega), List.append_assoc]
  refine congrArg some (Prod.ext rfl (Prod.ext ?_ ?_))
  · exact (show sz + 1 + 7 = sz + 8 by omega)
  · exact (show sl + 1001 + 16402 = sl + 17403 by omega)
abbrev wX11_51 (V : Nat → Value) (a sz : Nat) : Nat → Value := wX11_52 (updV V 73 (.ref a)) sz (sz + 1)
abbrev eX11_51 : List hp_E := ai 0 1001 :: eX11_52
theorem i_X11_51 {z n a sz sl : Nat} {A S : List hp_E} {V : Nat → Value} (hz : sz = z + A.length + 1 + S.length) : f_X11_init_449 n (z + A.length) a (z + A.length) (hl z (A ++ ob 11 V :: S)) sz sl = some (hl z (A ++ ob 11 (wX11_51 V a sz) :: (S ++ eX11_51)), sz + 9, sl + 18404) := by
  unfold f_X11_init_449
  refine tr_eq0 hl_pF ?_
  rw [hl_na hz]
  rw [i_X11_52 (by (try simp only [List.length_append, List.length_cons, List.length_nil]); omega), List.append_assoc]
  refine congrArg some (Prod.ext rfl (Prod.ext ?_ ?_))
  · exact (show sz + 1 + 8 = sz + 9 by omega)
  · exact (show sl + 1001 + 17403 = sl + 18404 by omega)
abbrev wX11_50 (V : Nat → Value) (a sz : Nat) : Nat → Value := wX11_51 (updV V 72 (.ref a)) sz (sz + 1)
abbrev eX11_50 : List hp_E := ai 0 1000 :: eX11_51
theorem i_X11_50 {z n a sz sl : Nat} {A S : List hp_E} {V : Nat → Value} (hz : sz = z + A.length + 1 + S.length) : f_X11_init_440 n (z + A.length) a (z + A.length) (hl z (A ++ ob 11 V :: S)) sz sl = some (hl z (A ++ ob 11 (wX11_50 V a sz) :: (S ++ eX11_50)), sz + 10, sl + 19404) := by
  unfold f_X11_init_440
  refine tr_eq0 hl_pF ?_
  rw [hl_na hz]
  rw [i_X11_51 (by (try simp only [List.length_append, List.length_cons, List.length_nil]); omega), List.append_assoc]
  refine congrArg some (Prod.ext rfl (Prod.ext ?_ ?_))
  · exact (show sz + 1 + 9 = sz + 10 by omega)
  · exact (show sl + 1000 + 18404 = sl + 19404 by omega)
abbrev wX11_49 (V : Nat → Value) (a sz : Nat) : Nat → Value := wX11_50 (updV V 70 (.ref a)) sz (sz + 1)
abbrev eX11_49 : List hp_E := ai 0 1000 :: eX11_50
theorem i_X11_49 {z n a sz sl : Nat} {A S : List hp_E} {V : Nat → Value} (hz : sz = z + A.length + 1 + S.length) : f_X11_init_431 n (z + A.length) a (z + A.length) (hl z (A ++ ob 11 V :: S)) sz sl = some (hl z (A ++ ob 11 (wX11_49 V a sz) :: (S ++ eX11_49)), sz + 11, sl + 20404) := by
  unfold f_X11_init_431
  refine tr_eq0 hl_pF ?_
  rw [hl_na hz]
  rw [i_X11_50 (by (try simp only [List.length_append, List.length_cons, List.length_nil]); omega), List.append_assoc]
  refine congrArg some (Prod.ext rfl (Prod.ext ?_ ?_))
  · exact (show sz + 1 + 10 = sz + 11 by omega)
  · exact (show sl + 1000 + 19404 = sl + 20404 by omega)
abbrev wX11_48 (V : Nat → Value) (a sz : Nat) : Nat → Value := wX11_49 (updV V 69 (.ref a)) sz (sz + 1)
abbrev eX11_48 : List hp_E := ai 0 100 :: eX11_49
theorem i_X11_48 {z n a sz sl : Nat} {A S : List hp_E} {V : Nat → Value} (hz : sz = z + A.length + 1 + S.length) : f_X11_init_423 n (z + A.length) a (z + A.length) (hl z (A ++ ob 11 V :: S)) sz sl = some (hl z (A ++ ob 11 (wX11_48 V a sz) :: (S ++ eX11_48)), sz + 12, sl + 20504) := by
  unfold f_X11_init_423
  refine tr_eq0 hl_pF ?_
  rw [hl_na hz]
  rw [i_X11_49 (by (try simp only [List.length_append, List.length_cons, List.length_nil]); omega), List.append_assoc]
  refine congrArg some (Prod.ext rfl (Prod.ext ?_ ?_))
  · exact (show sz + 1 + 11 = sz + 12 by omega)
  · exact (show sl + 100 + 20404 = sl + 20504 by omega)
abbrev wX11_47 (V : Nat → Value) (a sz : Nat) : Nat → Value := wX11_48 (updV V 68 (.ref a)) sz (sz + 1)
abbrev eX11_47 : List hp_E := ai 0 20000 :: eX11_48
theorem i_X11_47 {z n a sz sl : Nat} {A S : List hp_E} {V : Nat → Value} (hz : sz = z + A.length + 1 + S.length) : f_X11_init_414 n (z + A.length) a (z + A.length) (hl z (A ++ ob 11 V :: S)) sz sl = some (hl z (A ++ ob 11 (wX11_47 V a sz) :: (S ++ eX11_47)), sz + 13, sl + 40504) := by
  unfold f_X11_init_414
  refine tr_eq0 hl_pF ?_
  rw [hl_na hz]
  rw [i_X11_48 (by (try simp only [List.length_append, List.length_cons, List.length_nil]); omega), List.append_assoc]
  refine congrArg some (Prod.ext rfl (Prod.ext ?_ ?_))
  · exact (show sz + 1 + 12 = sz + 13 by omega)
  · exact (show sl + 20000 + 20504 = sl + 40504 by omega)
abbrev wX11_46 (V : Nat → Value) (a sz : Nat) : Nat → Value := wX11_47 (updV V 66 (.ref a)) sz (sz + 1)
abbrev eX11_46 : List hp_E := ai 0 1000 :: eX11_47
theorem i_X11_46 {z n a sz sl : Nat} {A S : List hp_E} {V : Nat → Value} (hz : sz = z + A.length + 1 + S.length) : f_X11_init_405 n (z + A.length) a (z + A.length) (hl z (A ++ ob 11 V :: S)) sz sl = some (hl z (A ++ ob 11 (wX11_46 V a sz) :: (S ++ eX11_46)), sz + 14, sl + 41504) := by
  unfold f_X11_init_405
  refine tr_eq0 hl_pF ?_
  rw [hl_na hz]
  rw [i_X11_47 (by (try simp only [List.length_append, List.length_cons, List.length_nil]); omega), List.append_assoc]
  refine congrArg some (Prod.ext rfl (Prod.ext ?_ ?_))
  · exact (show sz + 1 + 13 = sz + 14 by omega)
  · exact (show sl + 1000 + 40504 = sl + 41504 by omega)
abbrev wX11_45 (V : Nat → Value) (a sz : Nat) : Nat → Value := wX11_46 (updV V 65 (.ref a)) sz (sz + 1)
abbrev eX11_45 : List hp_E := ai 0 1000 :: eX11_46
theorem i_X11_45 {z n a sz sl : Nat} {A S : List hp_E} {V : Nat → Value} (hz : sz = z + A.length + 1 + S.length) : f_X11_init_396 n (z + A.length) a (z + A.length) (hl z (A ++ ob 11 V :: S)) sz sl = some (hl z (A ++ ob 11 (wX11_45 V a sz) :: (S ++ eX11_45)), sz + 15, sl + 42504) := by
  unfold f_X11_init_396
  refine tr_eq0 hl_pF ?_
  rw [hl_na hz]
  rw [i_X11_46 (by (try simp only [List.length_append, List.length_cons, List.length_nil]); omega), List.append_assoc]
  refine congrArg some (Prod.ext rfl (Prod.ext ?_ ?_))
  · exact (show sz + 1 + 14 = sz + 15 by omega)
  · exact (show sl + 1000 + 41504 = sl + 42504 by omega)
abbrev wX11_44 (V : Nat → Value) (a sz : Nat) : Nat → Value := wX11_45 (updV V 64 (.ref a)) sz (sz + 1)
abbrev eX11_44 : List hp_E := ai 0 1000 :: eX11_45
theorem i_X11_44 {z n a sz sl : Nat} {A S : List hp_E} {V : Nat → Value} (hz : sz = z + A.length + 1 + S.length) : f_X11_init_387 n (z + A.length) a (z + A.length) (hl z (A ++ ob 11 V :: S)) sz sl = some (hl z (A ++ ob 11 (wX11_44 V a sz) :: (S ++ eX11_44)), sz + 16, sl + 43504) := by
  unfold f_X11_init_387
  refine tr_eq0 hl_pF ?_
  rw [hl_na hz]
  rw [i_X11_45 (by (try simp only [List.length_append, List.length_cons, List.length_nil]); omega), List.append_assoc]
  refine congrArg some (Prod.ext rfl (Prod.ext ?_ ?_))
  · exact (show sz + 1 + 15 = sz + 16 by omega)
  · exact (show sl + 1000 + 42504 = sl + 43504 by omega)
abbrev wX11_43 (V : Nat → Value) (a sz : Nat) : Nat → Value := wX11_44 (updV V 63 (.ref a)) sz (sz + 1)
abbrev eX11_43 : List hp_E := ai 0 1000 :: eX11_44
theorem i_X11_43 {z n a sz sl : Nat} {A S : List hp_E} {V : Nat → Value} (hz : sz = z + A.length + 1 + S.length) : f_X11_init_378 n (z + A.length) a (z + A.length) (hl z (A ++ ob 11 V :: S)) sz sl = some (hl z (A ++ ob 11 (wX11_43 V a sz) :: (S ++ eX11_43)), sz + 17, sl + 44504) := by
  unfold f_X11_init_378
  refine tr_eq0 hl_pF ?_
  rw [hl_na hz]
  rw [i_X11_44 (by (try simp only [List.length_append, List.length_cons, List.length_nil]); omega), List.append_assoc]
  refine congrArg some (Prod.ext rfl (Prod.ext ?_ ?_))
  · exact (show sz + 1 + 16 = sz + 17 by omega)
  · exact (show sl + 1000 + 43504 = sl + 44504 by omega)
abbrev wX11_42 (V : Nat → Value) (a sz : Nat) : Nat → Value := wX11_43 (updV V 62 (.ref a)) sz (sz + 1)
abbrev eX11_42 : List hp_E := ai 0 300 :: eX11_43
theorem i_X11_42 {z n a sz sl : Nat} {A S : List hp_E} {V : Nat → Value} (hz : sz = z + A.length + 1 + S.length) : f_X11_init_369 n (z + A.length) a (z + A.length) (hl z (A ++ ob 11 V :: S)) sz sl = some (hl z (A ++ ob 11 (wX11_42 V a sz) :: (S ++ eX11_42)), sz + 18, sl + 44804) := by
  unfold f_X11_init_369
  refine tr_eq0 hl_pF ?_
  rw [hl_na hz]
  rw [i_X11_43 (by (try simp only [List.length_append, List.length_cons, List.length_nil]); omega), List.append_assoc]
  refine congrArg some (Prod.ext rfl (Prod.ext ?_ ?_))
  · exact (show sz + 1 + 17 = sz + 18 by omega)
  · exact (show sl + 300 + 44504 = sl + 44804 by omega)
abbrev wX11_41 (V : Nat → Value) (a sz : Nat) : Nat → Value := wX11_42 (updV V 61 (.ref a)) sz (sz + 1)
abbrev eX11_41 : List hp_E := ai 0 200 :: eX11_42
theorem i_X11_41 {z n a sz sl : Nat} {A S : List hp_E} {V : Nat → Value} (hz : sz = z + A.length + 1 + S.length) : f_X11_init_360 n (z + A.length) a (z + A.length) (hl z (A ++ ob 11 V :: S)) sz sl = some (hl z (A ++ ob 11 (wX11_41 V a sz) :: (S ++ eX11_41)), sz + 19, sl + 45004) := by
  unfold f_X11_init_360
  refine tr_eq0 hl_pF ?_
  rw [hl_na hz]
  rw [i_X11_42 (by (try simp only [List.length_append, List.length_cons, List.length_nil]); omega), List.append_assoc]
  refine congrArg some (Prod.ext rfl (Prod.ext ?_ ?_))
  · exact (show sz + 1 + 18 = sz + 19 by omega)
  · exact (show sl + 200 + 44804 = sl + 45004 by omega)
abbrev wX11_40 (V : Nat → Value) (a sz : Nat) : Nat → Value := wX11_41 (updV V 60 (.ref a)) sz (sz + 1)
abbrev eX11_40 : List hp_E := ai 0 200 :: eX11_41
theorem i_X11_40 {z n a sz sl : Nat} {A S : List hp_E} {V : Nat → Value} (hz : sz = z + A.length + 1 + S.length) : f_X11_init_351 n (z + A.length) a (z + A.length) (hl z (A ++ ob 11 V :: S)) sz sl = some (hl z (A ++ ob 11 (wX11_40 V a sz) :: (S ++ eX11_40)), sz + 20, sl + 45204) := by
  unfold f_X11_init_351
  refine tr_eq0 hl_pF ?_
  rw [hl_na hz]
  rw [i_X11_41 (by (try simp only [List.length_append, List.length_cons, List.length_nil]); omega), List.append_assoc]
  refine congrArg some (Prod.ext rfl (Prod.ext ?_ ?_))
  · exact (show sz + 1 + 19 = sz + 20 by omega)
  · exact (show sl + 200 + 45004 = sl + 45204 by omega)
abbrev wX11_39 (V : Nat → Value) (a sz : Nat) : Nat → Value := wX11_40 (updV V 58 (.ref a)) sz (sz + 1)
abbrev eX11_39 : List hp_E := ai 0 40000 :: eX11_40
theorem i_X11_39 {z n a sz sl : Nat} {A S : List hp_E} {V : Nat → Value} (hz : sz = z + A.length + 1 + S.length) : f_X11_init_343 n (z + A.length) a (z + A.length) (hl z (A ++ ob 11 V :: S)) sz sl = some (hl z (A ++ ob 11 (wX11_39 V a sz) :: (S ++ eX11_39)), sz + 21, sl + 85204) := by
  unfold f_X11_init_343
  refine tr_eq0 hl_pF ?_
  rw [hl_na hz]
  rw [i_X11_40 (by (try simp only [List.length_append, List.length_cons, List.length_nil]); omega), List.append_assoc]
  refine congrArg some (Prod.ext rfl (Prod.ext ?_ ?_))
  · exact (show sz + 1 + 20 = sz + 21 by omega)
  · exact (show sl + 40000 + 45204 = sl + 85204 by omega)
abbrev wX11_38 (V : Nat → Value) (a sz : Nat) : Nat → Value := wX11_39 (updV V 57 (.ref a)) sz (sz + 1)
abbrev eX11_38 : List hp_E := ai 0 100 :: eX11_39
theorem i_X11_38 {z n a sz sl : Nat} {A S : List hp_E} {V : Nat → Value} (hz : sz = z + A.length + 1 + S.length) : f_X11_init_335 n (z + A.length) a (z + A.length) (hl z (A ++ ob 11 V :: S)) sz sl = some (hl z (A ++ ob 11 (wX11_38 V a sz) :: (S ++ eX11_38)), sz + 22, sl + 85304) := by
  unfold f_X11_init_335
  refine tr_eq0 hl_pF ?_
  rw [hl_na hz]
  rw [i_X11_39 (by (try simp only [List.length_append, List.length_cons, List.length_nil]); omega), List.append_assoc]
  refine congrArg some (Prod.ext rfl (Prod.ext ?_ ?_))
  · exact (show sz + 1 + 21 = sz + 22 by omega)
  · exact (show sl + 100 + 85204 = sl + 85304 by omega)
abbrev wX11_37 (V : Nat → Value) (a sz : Nat) : Nat → Value := wX11_38 (updV V 56 (.ref a)) sz (sz + 1)
abbrev eX11_37 : List hp_E := ai 0 100 :: eX11_38
theorem i_X11_37 {z n a sz sl : Nat} {A S : List hp_E} {V : Nat → Value} (hz : sz = z + A.length + 1 + S.length) : f_X11_init_327 n (z + A.length) a (z + A.length) (hl z (A ++ ob 11 V :: S)) sz sl = some (hl z (A ++ ob 11 (wX11_37 V a sz) :: (S ++ eX11_37)), sz + 23, sl + 85404) := by
  unfold f_X11_init_327
  refine tr_eq0 hl_pF ?_
  rw [hl_na hz]
  rw [i_X11_38 (by (try simp only [List.length_append, List.length_cons, List.length_nil]); omega), List.append_assoc]
  refine congrArg some (Prod.ext rfl (Prod.ext ?_ ?_))
  · exact (show sz + 1 + 22 = sz + 23 by omega)
  · exact (show sl + 100 + 85304 = sl + 85404 by omega)
abbrev wX11_36 (V : Nat → Value) (a sz : Nat) : Nat → Value := wX11_37 (updV V 52 (.ref a)) sz (sz + 1)
abbrev eX11_36 : List hp_E := ai 0 20000 :: eX11_37
theorem i_X11_36 {z n a sz sl : Nat} {A S : List hp_E} {V : Nat → Value} (hz : sz = z + A.length + 1 + S.length) : f_X11_init_318 n (z + A.length) a (z + A.length) (hl z (A ++ ob 11 V :: S)) sz sl = some (hl z (A ++ ob 11 (wX11_36 V a sz) :: (S ++ eX11_36)), sz + 24, sl + 105404) := by
  unfold f_X11_init_318
  refine tr_eq0 hl_pF ?_
  rw [hl_na hz]
  rw [i_X11_37 (by (try simp only [List.length_append, List.length_cons, List.length_nil]); omega), List.append_assoc]
  refine congrArg some (Prod.ext rfl (Prod.ext ?_ ?_))
  · exact (show sz + 1 + 23 = sz + 24 by omega)
  · exact (show sl + 20000 + 85404 = sl + 105404 by omega)
abbrev wX11_35 (V : Nat → Value) (a sz : Nat) : Nat → Value := wX11_36 (updV V 51 (.ref a)) sz (sz + 1)
abbrev eX11_35 : List hp_E := ai 0 1000 :: eX11_36
theorem i_X11_35 {z n a sz sl : Nat} {A S : List hp_E} {V : Nat → Value} (hz : sz = z + A.length + 1 + S.length) : f_X11_init_309 n (z + A.length) a (z + A.length) (hl z (A ++ ob 11 V :: S)) sz sl = some (hl z (A ++ ob 11 (wX11_35 V a sz) :: (S ++ eX11_35)), sz + 25, sl + 106404) := by
  unfold f_X11_init_309
  refine tr_eq0 hl_pF ?_
  rw [hl_na hz]
  rw [i_X11_36 (by (try simp only [List.length_append, List.length_cons, List.length_nil]); omega), List.append_assoc]
  refine congrArg some (Prod.ext rfl (Prod.ext ?_ ?_))
  · exact (show sz + 1 + 24 = sz + 25 by omega)
  · exact (show sl + 1000 + 105404 = sl + 106404 by omega)
abbrev wX11_34 (V : Nat → Value) (a sz : Nat) : Nat → Value := wX11_35 (updV V 49 (.ref a)) sz (sz + 1)
abbrev eX11_34 : List hp_E := ai 0 200 :: eX11_35
theorem i_X11_34 {z n a sz sl : Nat} {A S : List hp_E} {V : Nat → Value} (hz : sz = z + A.length + 1 + S.length) : f_X11_init_300 n (z + A.length) a (z + A.length) (hl z (A ++ ob 11 V :: S)) sz sl = some (hl z (A ++ ob 11 (wX11_34 V a sz) :: (S ++ eX11_34)), sz + 26, sl + 106604) := by
  unfold f_X11_init_300
  refine tr_eq0 hl_pF ?_
  rw [hl_na hz]
  rw [i_X11_35 (by (try simp only [List.length_append, List.length_cons, List.length_nil]); omega), List.append_assoc]
  refine congrArg some (Prod.ext rfl (Prod.ext ?_ ?_))
  · exact (show sz + 1 + 25 = sz + 26 by omega)
  · exact (show sl + 200 + 106404 = sl + 106604 by omega)
abbrev wX11_33 (V : Nat → Value) (a sz : Nat) : Nat → Value := wX11_34 (updV V 47 (.ref a)) sz (sz + 1)
abbrev eX11_33 : List hp_E := ai 0 1000 :: eX11_34
theorem i_X11_33 {z n a sz sl : Nat} {A S : List hp_E} {V : Nat → Value} (hz : sz = z + A.length + 1 + S.length) : f_X11_init_291 n (z + A.length) a (z + A.length) (hl z (A ++ ob 11 V :: S)) sz sl = some (hl z (A ++ ob 11 (wX11_33 V a sz) :: (S ++ eX11_33)), sz + 27, sl + 107604) := by
  unfold f_X11_init_291
  refine tr_eq0 hl_pF ?_
  rw [hl_na hz]
  rw [i_X11_34 (by (try simp only [List.length_append, List.length_cons, List.length_nil]); omega), List.append_assoc]
  refine congrArg some (Prod.ext rfl (Prod.ext ?_ ?_))
  · exact (show sz + 1 + 26 = sz + 27 by omega)
  · exact (show sl + 1000 + 106604 = sl + 107604 by omega)
abbrev wX11_32 (V : Nat → Value) (a sz : Nat) : Nat → Value := wX11_33 (updV V 45 (.ref a)) sz (sz + 1)
abbrev eX11_32 : List hp_E := ai 0 8192 :: eX11_33
theorem i_X11_32 {z n a sz sl : Nat} {A S : List hp_E} {V : Nat → Value} (hz : sz = z + A.length + 1 + S.length) : f_X11_init_282 n (z + A.length) a (z + A.length) (hl z (A ++ ob 11 V :: S)) sz sl = some (hl z (A ++ ob 11 (wX11_32 V a sz) :: (S ++ eX11_32)), sz + 28, sl + 115796) := by
  unfold f_X11_init_282
  refine tr_eq0 hl_pF ?_
  rw [hl_na hz]
  rw [i_X11_33 (by (try simp only [List.length_append, List.length_cons, List.length_nil]); omega), List.append_assoc]
  refine congrArg some (Prod.ext rfl (Prod.ext ?_ ?_))
  · exact (show sz + 1 + 27 = sz + 28 by omega)
  · exact (show sl + 8192 + 107604 = sl + 115796 by omega)
abbrev wX11_31 (V : Nat → Value) (a sz : Nat) : Nat → Value := wX11_32 (updV V 44 (.ref a)) sz (sz + 1)
abbrev eX11_31 : List hp_E := ai 0 600 :: eX11_32
theorem i_X11_31 {z n a sz sl : Nat} {A S : List hp_E} {V : Nat → Value} (hz : sz = z + A.length + 1 + S.length) : f_X11_init_273 n (z + A.length) a (z + A.length) (hl z (A ++ ob 11 V :: S)) sz sl = some (hl z (A ++ ob 11 (wX11_31 V a sz) :: (S ++ eX11_31)), sz + 29, sl + 116396) := by
  unfold f_X11_init_273
  refine tr_eq0 hl_pF ?_
  rw [hl_na hz]
  rw [i_X11_32 (by (try simp only [List.length_append, List.length_cons, List.length_nil]); omega), List.append_assoc]
  refine congrArg some (Prod.ext rfl (Prod.ext ?_ ?_))
  · exact (show sz + 1 + 28 = sz + 29 by omega)
  · exact (show sl + 600 + 115796 = sl + 116396 by omega)
abbrev wX11_30 (V : Nat → Value) (a sz : Nat) : Nat → Value := wX11_31 (updV V 42 (.ref a)) sz (sz + 1)
abbrev eX11_30 : List hp_E := ai 0 8 :: eX11_31
theorem i_X11_30 {z n a sz sl : Nat} {A S : List hp_E} {V : Nat → Value} (hz : sz = z + A.length + 1 + S.length) : f_X11_init_265 n (z + A.length) a (z + A.length) (hl z (A ++ ob 11 V :: S)) sz sl = some (hl z (A ++ ob 11 (wX11_30 V a sz) :: (S ++ eX11_30)), sz + 30, sl + 116404) := by
  unfold f_X11_init_265
  refine tr_eq0 hl_pF ?_
  rw [hl_na hz]
  rw [i_X11_31 (by (try simp only [List.length_append, List.length_cons, List.length_nil]); omega), List.append_assoc]
  refine congrArg some (Prod.ext rfl (Prod.ext ?_ ?_))
  · exact (show sz + 1 + 29 = sz + 30 by omega)
  · exact (show sl + 8 + 116396 = sl + 116404 by omega)
abbrev wX11_29 (V : Nat → Value) (a sz : Nat) : Nat → Value := wX11_30 (updV V 41 (.ref a)) sz (sz + 1)
abbrev eX11_29 : List hp_E := ai 0 200 :: eX11_30
theorem i_X11_29 {z n a sz sl : Nat} {A S : List hp_E} {V : Nat → Value} (hz : sz = z + A.length + 1 + S.length) : f_X11_init_256 n (z + A.length) a (z + A.length) (hl z (A ++ ob 11 V :: S)) sz sl = some (hl z (A ++ ob 11 (wX11_29 V a sz) :: (S ++ eX11_29)), sz + 31, sl + 116604) := by
  unfold f_X11_init_256
  refine tr_eq0 hl_pF ?_
  rw [hl_na hz]
  rw [i_X11_30 (by (try simp only [List.length_append, List.length_cons, List.length_nil]); omega), List.append_assoc]
  refine congrArg some (Prod.ext rfl (Prod.ext ?_ ?_))
  · exact (show sz + 1 + 30 = sz + 31 by omega)
  · exact (show sl + 200 + 116404 = sl + 116604 by omega)
abbrev wX11_28 (V : Nat → Value) (a sz : Nat) : Nat → Value := wX11_29 (updV V 40 (.ref a)) sz (sz + 1)
abbrev eX11_28 : List hp_E := ai 0 200 :: eX11_29
theorem i_X11_28 {z n a sz sl : Nat} {A S : List hp_E} {V : Nat → Value} (hz : sz = z + A.length + 1 + S.length) : f_X11_init_247 n (z + A.length) a (z + A.length) (hl z (A ++ ob 11 V :: S)) sz sl = some (hl z (A ++ ob 11 (wX11_28 V a sz) :: (S ++ eX11_28)), sz + 32, sl + 116804) := by
  unfold f_X11_init_247
  refine tr_eq0 hl_pF ?_
  rw [hl_na hz]
  rw [i_X11_29 (by (try simp only [List.length_append, List.length_cons, List.length_nil]); omega), List.append_assoc]
  refine congrArg some (Prod.ext rfl (Prod.ext ?_ ?_))
  · exact (show sz + 1 + 31 = sz + 32 by omega)
  · exact (show sl + 200 + 116604 = sl + 116804 by omega)
abbrev wX11_27 (V : Nat → Value) (a sz : Nat) : Nat → Value := wX11_28 (updV V 39 (.ref a)) sz (sz + 1)
abbrev eX11_27 : List hp_E := ai 2 200 :: eX11_28
theorem i_X11_27 {z n a sz sl : Nat} {A S : List hp_E} {V : Nat → Value} (hz : sz = z + A.length + 1 + S.length) : f_X11_init_238 n (z + A.length) a (z + A.length) (hl z (A ++ ob 11 V :: S)) sz sl = some (hl z (A ++ ob 11 (wX11_27 V a sz) :: (S ++ eX11_27)), sz + 33, sl + 117004) := by
  unfold f_X11_init_238
  refine tr_eq0 hl_pF ?_
  rw [hl_na hz]
  rw [i_X11_28 (by (try simp only [List.length_append, List.length_cons, List.length_nil]); omega), List.append_assoc]
  refine congrArg some (Prod.ext rfl (Prod.ext ?_ ?_))
  · exact (show sz + 1 + 32 = sz + 33 by omega)
  · exact (show sl + 200 + 116804 = sl + 117004 by omega)
abbrev wX11_26 (V : Nat → Value) (a sz : Nat) : Nat → Value := wX11_27 (updV V 38 (.ref a)) sz (sz + 1)
abbrev eX11_26 : List hp_E := ai 0 300 :: eX11_27
theorem i_X11_26 {z n a sz sl : Nat} {A S : List hp_E} {V : Nat → Value} (hz : sz = z + A.length + 1 + S.length) : f_X11_init_229 n (z + A.length) a (z + A.length) (hl z (A ++ ob 11 V :: S)) sz sl = some (hl z (A ++ ob 11 (wX11_26 V a sz) :: (S ++ eX11_26)), sz + 34, sl + 117304) := by
  unfold f_X11_init_229
  refine tr_eq0 hl_pF ?_
  rw [hl_na hz]
  rw [i_X11_27 (by (try simp only [List.length_append, List.length_cons, List.length_nil]); omega), List.append_assoc]
  refine congrArg some (Prod.ext rfl (Prod.ext ?_ ?_))
  · exact (show sz + 1 + 33 = sz + 34 by omega)
  · exact (show sl + 300 + 117004 = sl + 117304 by omega)
abbrev wX11_25 (V : Nat → Value) (a sz : Nat) : Nat → Value := wX11_26 (updV V 28 (.ref a)) sz (sz + 1)
abbrev eX11_25 : List hp_E := ai 0 300 :: eX11_26
theorem i_X11_25 {z n a sz sl : Nat} {A S : List hp_E} {V : Nat → Value} (hz : sz = z + A.length + 1 + S.length) : f_X11_init_220 n (z + A.length) a (z + A.length) (hl z (A ++ ob 11 V :: S)) sz sl = some (hl z (A ++ ob 11 (wX11_25 V a sz) :: (S ++ eX11_25)), sz + 35, sl + 117604) := by
  unfold f_X11_init_220
  refine tr_eq0 hl_pF ?_
  rw [hl_na hz]
  rw [i_X11_26 (by (try simp only [List.length_append, List.length_cons, List.length_nil]); omega), List.append_assoc]
  refine congrArg some (Prod.ext rfl (Prod.ext ?_ ?_))
  · exact (show sz + 1 + 34 = sz + 35 by omega)
  · exact (show sl + 300 + 117304 = sl + 117604 by omega)
abbrev wX11_24 (V : Nat → Value) (a sz : Nat) : Nat → Value := wX11_25 (updV V 27 (.ref a)) sz (sz + 1)
abbrev eX11_24 : List hp_E := ai 0 2 :: eX11_25
theorem i_X11_24 {z n a sz sl : Nat} {A S : List hp_E} {V : Nat → Value} (hz : sz = z + A.length + 1 + S.length) : f_X11_init_213 n (z + A.length) a (z + A.length) (hl z (A ++ ob 11 V :: S)) sz sl = some (hl z (A ++ ob 11 (wX11_24 V a sz) :: (S ++ eX11_24)), sz + 36, sl + 117606) := by
  unfold f_X11_init_213
  refine tr_eq0 hl_pF ?_
  rw [hl_na hz]
  rw [i_X11_25 (by (try simp only [List.length_append, List.length_cons, List.length_nil]); omega), List.append_assoc]
  refine congrArg some (Prod.ext rfl (Prod.ext ?_ ?_))
  · exact (show sz + 1 + 35 = sz + 36 by omega)
  · exact (show sl + 2 + 117604 = sl + 117606 by omega)
abbrev wX11_23 (V : Nat → Value) (a sz : Nat) : Nat → Value := wX11_24 (updV V 26 (.ref a)) sz (sz + 1)
abbrev eX11_23 : List hp_E := ai 0 20480 :: eX11_24
theorem i_X11_23 {z n a sz sl : Nat} {A S : List hp_E} {V : Nat → Value} (hz : sz = z + A.length + 1 + S.length) : f_X11_init_204 n (z + A.length) a (z + A.length) (hl z (A ++ ob 11 V :: S)) sz sl = some (hl z (A ++ ob 11 (wX11_23 V a sz) :: (S ++ eX11_23)), sz + 37, sl + 138086) := by
  unfold f_X11_init_204
  refine tr_eq0 hl_pF ?_
  rw [hl_na hz]
  rw [i_X11_24 (by (try simp only [List.length_append, List.length_cons, List.length_nil]); omega), List.append_assoc]
  refine congrArg some (Prod.ext rfl (Prod.ext ?_ ?_))
  · exact (show sz + 1 + 36 = sz + 37 by omega)
  · exact (show sl + 20480 + 117606 = sl + 138086 by omega)
abbrev wX11_22 (V : Nat → Value) (a sz : Nat) : Nat → Value := wX11_23 (updV V 25 (.ref a)) sz (sz + 1)
abbrev eX11_22 : List hp_E := ai 0 20480 :: eX11_23
theorem i_X11_22 {z n a sz sl : Nat} {A S : List hp_E} {V : Nat → Value} (hz : sz = z + A.length + 1 + S.length) : f_X11_init_195 n (z + A.length) a (z + A.length) (hl z (A ++ ob 11 V :: S)) sz sl = some (hl z (A ++ ob 11 (wX11_22 V a sz) :: (S ++ eX11_22)), sz + 38, sl + 158566) := by
  unfold f_X11_init_195
  refine tr_eq0 hl_pF ?_
  rw [hl_na hz]
  rw [i_X11_23 (by (try simp only [List.length_append, List.length_cons, List.length_nil]); omega), List.append_assoc]
  refine congrArg some (Prod.ext rfl (Prod.ext ?_ ?_))
  · exact (show sz + 1 + 37 = sz + 38 by omega)
  · exact (show sl + 20480 + 138086 = sl + 158566 by omega)
abbrev wX11_21 (V : Nat → Value) (a sz : Nat) : Nat → Value := wX11_22 (updV V 24 (.ref a)) sz (sz + 1)
abbrev eX11_21 : List hp_E := ai 0 20480 :: eX11_22
theorem i_X11_21 {z n a sz sl : Nat} {A S : List hp_E} {V : Nat → Value} (hz : sz = z + A.length + 1 + S.length) : f_X11_init_186 n (z + A.length) a (z + A.length) (hl z (A ++ ob 11 V :: S)) sz sl = some (hl z (A ++ ob 11 (wX11_21 V a sz) :: (S ++ eX11_21)), sz + 39, sl + 179046) := by
  unfold f_X11_init_186
  refine tr_eq0 hl_pF ?_
  rw [hl_na hz]
  rw [i_X11_22 (by (try simp only [List.length_append, List.length_cons, List.length_nil]); omega), List.append_assoc]
  refine congrArg some (Prod.ext rfl (Prod.ext ?_ ?_))
  · exact (show sz + 1 + 38 = sz + 39 by omega)
  · exact (show sl + 20480 + 158566 = sl + 179046 by omega)
abbrev wX11_20 (V : Nat → Value) (a sz : Nat) : Nat → Value := wX11_21 (updV V 23 (.ref a)) sz (sz + 1)
abbrev eX11_20 : List hp_E := ai 0 20480 :: eX11_21
theorem i_X11_20 {z n a sz sl : Nat} {A S : List hp_E} {V : Nat → Value} (hz : sz = z + A.length + 1 + S.length) : f_X11_init_177 n (z + A.length) a (z + A.length) (hl z (A ++ ob 11 V :: S)) sz sl = some (hl z (A ++ ob 11 (wX11_20 V a sz) :: (S ++ eX11_20)), sz + 40, sl + 199526) := by
  unfold f_X11_init_177
  refine tr_eq0 hl_pF ?_
  rw [hl_na hz]
  rw [i_X11_21 (by (try simp only [List.length_append, List.length_cons, List.length_nil]); omega), List.append_assoc]
  refine congrArg some (Prod.ext rfl (Prod.ext ?_ ?_))
  · exact (show sz + 1 + 39 = sz + 40 by omega)
  · exact (show sl + 20480 + 179046 = sl + 199526 by omega)
abbrev wX11_19 (V : Nat → Value) (a sz : Nat) : Nat → Value := wX11_20 (updV V 22 (.ref a)) sz (sz + 1)
abbrev eX11_19 : List hp_E := aj 1600 :: eX11_20
theorem i_X11_19 {z n a sz sl : Nat} {A S : List hp_E} {V : Nat → Value} (hz : sz = z + A.length + 1 + S.length) : f_X11_init_168 n (z + A.length) a (z + A.length) (hl z (A ++ ob 11 V :: S)) sz sl = some (hl z (A ++ ob 11 (wX11_19 V a sz) :: (S ++ eX11_19)), sz + 41, sl + 201126) := by
  unfold f_X11_init_168
  refine tr_eq0 hl_pF ?_
  rw [hl_nj hz]
  rw [i_X11_20 (by (try simp only [List.length_append, List.length_cons, List.length_nil]); omega), List.append_assoc]
  refine congrArg some (Prod.ext rfl (Prod.ext ?_ ?_))
  · exact (show sz + 1 + 40 = sz + 41 by omega)
  · exact (show sl + 1600 + 199526 = sl + 201126 by omega)
abbrev wX11_18 (V : Nat → Value) (a sz : Nat) : Nat → Value := wX11_19 (updV V 21 (.ref a)) sz (sz + 1)
abbrev eX11_18 : List hp_E := aj 1600 :: eX11_19
theorem i_X11_18 {z n a sz sl : Nat} {A S : List hp_E} {V : Nat → Value} (hz : sz = z + A.length + 1 + S.length) : f_X11_init_159 n (z + A.length) a (z + A.length) (hl z (A ++ ob 11 V :: S)) sz sl = some (hl z (A ++ ob 11 (wX11_18 V a sz) :: (S ++ eX11_18)), sz + 42, sl + 202726) := by
  unfold f_X11_init_159
  refine tr_eq0 hl_pF ?_
  rw [hl_nj hz]
  rw [i_X11_19 (by (try simp only [List.length_append, List.length_cons, List.length_nil]); omega), List.append_assoc]
  refine congrArg some (Prod.ext rfl (Prod.ext ?_ ?_))
  · exact (show sz + 1 + 41 = sz + 42 by omega)
  · exact (show sl + 1600 + 201126 = sl + 202726 by omega)
abbrev wX11_17 (V : Nat → Value) (a sz : Nat) : Nat → Value := wX11_18 (updV V 20 (.ref a)) sz (sz + 1)
abbrev eX11_17 : List hp_E := ai 0 8192 :: eX11_18
theorem i_X11_17 {z n a sz sl : Nat} {A S : List hp_E} {V : Nat → Value} (hz : sz = z + A.length + 1 + S.length) : f_X11_init_150 n (z + A.length) a (z + A.length) (hl z (A ++ ob 11 V :: S)) sz sl = some (hl z (A ++ ob 11 (wX11_17 V a sz) :: (S ++ eX11_17)), sz + 43, sl + 210918) := by
  unfold f_X11_init_150
  refine tr_eq0 hl_pF ?_
  rw [hl_na hz]
  rw [i_X11_18 (by (try simp only [List.length_append, List.length_cons, List.length_nil]); omega), List.append_assoc]
  refine congrArg some (Prod.ext rfl (Prod.ext ?_ ?_))
  · exact (show sz + 1 + 42 = sz + 43 by omega)
  · exact (show sl + 8192 + 202726 = sl + 210918 by omega)
abbrev wX11_16 (V : Nat → Value) (a sz : Nat) : Nat → Value := wX11_17 (updV V 19 (.ref a)) sz (sz + 1)
abbrev eX11_16 : List hp_E := ai 0 8192 :: eX11_17
theorem i_X11_16 {z n a sz sl : Nat} {A S : List hp_E} {V : Nat → Value} (hz : sz = z + A.length + 1 + S.length) : f_X11_init_141 n (z + A.length) a (z + A.length) (hl z (A ++ ob 11 V :: S)) sz sl = some (hl z (A ++ ob 11 (wX11_16 V a sz) :: (S ++ eX11_16)), sz + 44, sl + 219110) := by
  unfold f_X11_init_141
  refine tr_eq0 hl_pF ?_
  rw [hl_na hz]
  rw [i_X11_17 (by (try simp only [List.length_append, List.length_cons, List.length_nil]); omega), List.append_assoc]
  refine congrArg some (Prod.ext rfl (Prod.ext ?_ ?_))
  · exact (show sz + 1 + 43 = sz + 44 by omega)
  · exact (show sl + 8192 + 210918 = sl + 219110 by omega)
abbrev wX11_15 (V : Nat → Value) (a sz : Nat) : Nat → Value := wX11_16 (updV V 18 (.ref a)) sz (sz + 1)
abbrev eX11_15 : List hp_E := ai 0 8192 :: eX11_16
theorem i_X11_15 {z n a sz sl : Nat} {A S : List hp_E} {V : Nat → Value} (hz : sz = z + A.length + 1 + S.length) : f_X11_init_132 n (z + A.length) a (z + A.length) (hl z (A ++ ob 11 V :: S)) sz sl = some (hl z (A ++ ob 11 (wX11_15 V a sz) :: (S ++ eX11_15)), sz + 45, sl + 227302) := by
  unfold f_X11_init_132
  refine tr_eq0 hl_pF ?_
  rw [hl_na hz]
  rw [i_X11_16 (by (try simp only [List.length_append, List.length_cons, List.length_nil]); omega), List.append_assoc]
  refine congrArg some (Prod.ext rfl (Prod.ext ?_ ?_))
  · exact (show sz + 1 + 44 = sz + 45 by omega)
  · exact (show sl + 8192 + 219110 = sl + 227302 by omega)
abbrev wX11_14 (V : Nat → Value) (a sz : Nat) : Nat → Value := wX11_15 (updV V 17 (.ref a)) sz (sz + 1)
abbrev eX11_14 : List hp_E := ai 0 2 :: eX11_15
theorem i_X11_14 {z n a sz sl : Nat} {A S : List hp_E} {V : Nat → Value} (hz : sz = z + A.length + 1 + S.length) : f_X11_init_125 n (z + A.length) a (z + A.length) (hl z (A ++ ob 11 V :: S)) sz sl = some (hl z (A ++ ob 11 (wX11_14 V a sz) :: (S ++ eX11_14)), sz + 46, sl + 227304) := by
  unfold f_X11_init_125
  refine tr_eq0 hl_pF ?_
  rw [hl_na hz]
  rw [i_X11_15 (by (try simp only [List.length_append, List.length_cons, List.length_nil]); omega), List.append_assoc]
  refine congrArg some (Prod.ext rfl (Prod.ext ?_ ?_))
  · exact (show sz + 1 + 45 = sz + 46 by omega)
  · exact (show sl + 2 + 227302 = sl + 227304 by omega)
abbrev wX11_13 (V : Nat → Value) (a sz : Nat) : Nat → Value := wX11_14 (updV V 16 (.ref a)) sz (sz + 1)
abbrev eX11_13 : List hp_E := ai 0 400 :: eX11_14
theorem i_X11_13 {z n a sz sl : Nat} {A S : List hp_E} {V : Nat → Value} (hz : sz = z + A.length + 1 + S.length) : f_X11_init_116 n (z + A.length) a (z + A.length) (hl z (A ++ ob 11 V :: S)) sz sl = some (hl z (A ++ ob 11 (wX11_13 V a sz) :: (S ++ eX11_13)), sz + 47, sl + 227704) := by
  unfold f_X11_init_116
  refine tr_eq0 hl_pF ?_
  rw [hl_na hz]
  rw [i_X11_14 (by (try simp only [List.length_append, List.length_cons, List.length_nil]); omega), List.append_assoc]
  refine congrArg some (Prod.ext rfl (Prod.ext ?_ ?_))
  · exact (show sz + 1 + 46 = sz + 47 by omega)
  · exact (show sl + 400 + 227304 = sl + 227704 by omega)
abbrev wX11_12 (V : Nat → Value) (a sz : Nat) : Nat → Value := wX11_13 (updV V 15 (.ref a)) sz (sz + 1)
abbrev eX11_12 : List hp_E := ai 0 400 :: eX11_13
theorem i_X11_12 {z n a sz sl : Nat} {A S : List hp_E} {V : Nat → Value} (hz : sz = z + A.length + 1 + S.length) : f_X11_init_107 n (z + A.length) a (z + A.length) (hl z (A ++ ob 11 V :: S)) sz sl = some (hl z (A ++ ob 11 (wX11_12 V a sz) :: (S ++ eX11_12)), sz + 48, sl + 228104) := by
  unfold f_X11_init_107
  refine tr_eq0 hl_pF ?_
  rw [hl_na hz]
  rw [i_X11_13 (by (try simp only [List.length_append, List.length_cons, List.length_nil]); omega), List.append_assoc]
  refine congrArg some (Prod.ext rfl (Prod.ext ?_ ?_))
  · exact (show sz + 1 + 47 = sz + 48 by omega)
  · exact (show sl + 400 + 227704 = sl + 228104 by omega)
abbrev wX11_11 (V : Nat → Value) (a sz : Nat) : Nat → Value := wX11_12 (updV V 14 (.ref a)) sz (sz + 1)
abbrev eX11_11 : List hp_E := ai 0 400 :: eX11_12
theorem i_X11_11 {z n a sz sl : Nat} {A S : List hp_E} {V : Nat → Value} (hz : sz = z + A.length + 1 + S.length) : f_X11_init_98 n (z + A.length) a (z + A.length) (hl z (A ++ ob 11 V :: S)) sz sl = some (hl z (A ++ ob 11 (wX11_11 V a sz) :: (S ++ eX11_11)), sz + 49, sl + 228504) := by
  unfold f_X11_init_98
  refine tr_eq0 hl_pF ?_
  rw [hl_na hz]
  rw [i_X11_12 (by (try simp only [List.length_append, List.length_cons, List.length_nil]); omega), List.append_assoc]
  refine congrArg some (Prod.ext rfl (Prod.ext ?_ ?_))
  · exact (show sz + 1 + 48 = sz + 49 by omega)
  · exact (show sl + 400 + 228104 = sl + 228504 by omega)
abbrev wX11_10 (V : Nat → Value) (a sz : Nat) : Nat → Value := wX11_11 (updV V 13 (.ref a)) sz (sz + 1)
abbrev eX11_10 : List hp_E := ai 0 400 :: eX11_11
theorem i_X11_10 {z n a sz sl : Nat} {A S : List hp_E} {V : Nat → Value} (hz : sz = z + A.length + 1 + S.length) : f_X11_init_89 n (z + A.length) a (z + A.length) (hl z (A ++ ob 11 V :: S)) sz sl = some (hl z (A ++ ob 11 (wX11_10 V a sz) :: (S ++ eX11_10)), sz + 50, sl + 228904) := by
  unfold f_X11_init_89
  refine tr_eq0 hl_pF ?_
  rw [hl_na hz]
  rw [i_X11_11 (by (try simp only [List.length_append, List.length_cons, List.length_nil]); omega), List.append_assoc]
  refine congrArg some (Prod.ext rfl (Prod.ext ?_ ?_))
  · exact (show sz + 1 + 49 = sz + 50 by omega)
  · exact (show sl + 400 + 228504 = sl + 228904 by omega)
abbrev wX11_9 (V : Nat → Value) (a sz : Nat) : Nat → Value := wX11_10 (updV V 12 (.ref a)) sz (sz + 1)
abbrev eX11_9 : List hp_E := ai 0 400 :: eX11_10
theorem i_X11_9 {z n a sz sl : Nat} {A S : List hp_E} {V : Nat → Value} (hz : sz = z + A.length + 1 + S.length) : f_X11_init_80 n (z + A.length) a (z + A.length) (hl z (A ++ ob 11 V :: S)) sz sl = some (hl z (A ++ ob 11 (wX11_9 V a sz) :: (S ++ eX11_9)), sz + 51, sl + 229304) := by
  unfold f_X11_init_80
  refine tr_eq0 hl_pF ?_
  rw [hl_na hz]
  rw [i_X11_10 (by (try simp only [List.length_append, List.length_cons, List.length_nil]); omega), List.append_assoc]
  refine congrArg some (Prod.ext rfl (Prod.ext ?_ ?_))
  · exact (show sz + 1 + 50 = sz + 51 by omega)
  · exact (show sl + 400 + 228904 = sl + 229304 by omega)
abbrev wX11_8 (V : Nat → Value) (a sz : Nat) : Nat → Value := wX11_9 (updV V 11 (.ref a)) sz (sz + 1)
abbrev eX11_8 : List hp_E := ai 0 400 :: eX11_9
theorem i_X11_8 {z n a sz sl : Nat} {A S : List hp_E} {V : Nat → Value} (hz : sz = z + A.length + 1 + S.length) : f_X11_init_71 n (z + A.length) a (z + A.length) (hl z (A ++ ob 11 V :: S)) sz sl = some (hl z (A ++ ob 11 (wX11_8 V a sz) :: (S ++ eX11_8)), sz + 52, sl + 229704) := by
  unfold f_X11_init_71
  refine tr_eq0 hl_pF ?_
  rw [hl_na hz]
  rw [i_X11_9 (by (try simp only [List.length_append, List.length_cons, List.length_nil]); omega), List.append_assoc]
  refine congrArg some (Prod.ext rfl (Prod.ext ?_ ?_))
  · exact (show sz + 1 + 51 = sz + 52 by omega)
  · exact (show sl + 400 + 229304 = sl + 229704 by omega)
abbrev wX11_7 (V : Nat → Value) (a sz : Nat) : Nat → Value := wX11_8 (updV V 10 (.ref a)) sz (sz + 1)
abbrev eX11_7 : List hp_E := ai 0 400 :: eX11_8
theorem i_X11_7 {z n a sz sl : Nat} {A S : List hp_E} {V : Nat → Value} (hz : sz = z + A.length + 1 + S.length) : f_X11_init_62 n (z + A.length) a (z + A.length) (hl z (A ++ ob 11 V :: S)) sz sl = some (hl z (A ++ ob 11 (wX11_7 V a sz) :: (S ++ eX11_7)), sz + 53, sl + 230104) := by
  unfold f_X11_init_62
  refine tr_eq0 hl_pF ?_
  rw [hl_na hz]
  rw [i_X11_8 (by (try simp only [List.length_append, List.length_cons, List.length_nil]); omega), List.append_assoc]
  refine congrArg some (Prod.ext rfl (Prod.ext ?_ ?_))
  · exact (show sz + 1 + 52 = sz + 53 by omega)
  · exact (show sl + 400 + 229704 = sl + 230104 by omega)
abbrev wX11_6 (V : Nat → Value) (a sz : Nat) : Nat → Value := wX11_7 (updV V 9 (.ref a)) sz (sz + 1)
abbrev eX11_6 : List hp_E := ai 0 400 :: eX11_7
theorem i_X11_6 {z n a sz sl : Nat} {A S : List hp_E} {V : Nat → Value} (hz : sz = z + A.length + 1 + S.length) : f_X11_init_53 n (z + A.length) a (z + A.length) (hl z (A ++ ob 11 V :: S)) sz sl = some (hl z (A ++ ob 11 (wX11_6 V a sz) :: (S ++ eX11_6)), sz + 54, sl + 230504) := by
  unfold f_X11_init_53
  refine tr_eq0 hl_pF ?_
  rw [hl_na hz]
  rw [i_X11_7 (by (try simp only [List.length_append, List.length_cons, List.length_nil]); omega), List.append_assoc]
  refine congrArg some (Prod.ext rfl (Prod.ext ?_ ?_))
  · exact (show sz + 1 + 53 = sz + 54 by omega)
  · exact (show sl + 400 + 230104 = sl + 230504 by omega)
abbrev wX11_5 (V : Nat → Value) (a sz : Nat) : Nat → Value := wX11_6 (updV V 8 (.ref a)) sz (sz + 1)
abbrev eX11_5 : List hp_E := ai 0 2 :: eX11_6
theorem i_X11_5 {z n a sz sl : Nat} {A S : List hp_E} {V : Nat → Value} (hz : sz = z + A.length + 1 + S.length) : f_X11_init_46 n (z + A.length) a (z + A.length) (hl z (A ++ ob 11 V :: S)) sz sl = some (hl z (A ++ ob 11 (wX11_5 V a sz) :: (S ++ eX11_5)), sz + 55, sl + 230506) := by
  unfold f_X11_init_46
  refine tr_eq0 hl_pF ?_
  rw [hl_na hz]
  rw [i_X11_6 (by (try simp only [List.length_append, List.length_cons, List.length_nil]); omega), List.append_assoc]
  refine congrArg some (Prod.ext rfl (Prod.ext ?_ ?_))
  · exact (show sz + 1 + 54 = sz + 55 by omega)
  · exact (show sl + 2 + 230504 = sl + 230506 by omega)
abbrev wX11_4 (V : Nat → Value) (a sz : Nat) : Nat → Value := wX11_5 (updV V 7 (.ref a)) sz (sz + 1)
abbrev eX11_4 : List hp_E := ai 2 600 :: eX11_5
theorem i_X11_4 {z n a sz sl : Nat} {A S : List hp_E} {V : Nat → Value} (hz : sz = z + A.length + 1 + S.length) : f_X11_init_37 n (z + A.length) a (z + A.length) (hl z (A ++ ob 11 V :: S)) sz sl = some (hl z (A ++ ob 11 (wX11_4 V a sz) :: (S ++ eX11_4)), sz + 56, sl + 231106) := by
  unfold f_X11_init_37
  refine tr_eq0 hl_pF ?_
  rw [hl_na hz]
  rw [i_X11_5 (by (try simp only [List.length_append, List.length_cons, List.length_nil]); omega), List.append_assoc]
  refine congrArg some (Prod.ext rfl (Prod.ext ?_ ?_))
  · exact (show sz + 1 + 55 = sz + 56 by omega)
  · exact (show sl + 600 + 230506 = sl + 231106 by omega)
abbrev wX11_3 (V : Nat → Value) (a sz : Nat) : Nat → Value := wX11_4 (updV V 6 (.ref a)) sz (sz + 1)
abbrev eX11_3 : List hp_E := ai 0 600 :: eX11_4
theorem i_X11_3 {z n a sz sl : Nat} {A S : List hp_E} {V : Nat → Value} (hz : sz = z + A.length + 1 + S.length) : f_X11_init_28 n (z + A.length) a (z + A.length) (hl z (A ++ ob 11 V :: S)) sz sl = some (hl z (A ++ ob 11 (wX11_3 V a sz) :: (S ++ eX11_3)), sz + 57, sl + 231706) := by
  unfold f_X11_init_28
  refine tr_eq0 hl_pF ?_
  rw [hl_na hz]
  rw [i_X11_4 (by (try simp only [List.length_append, List.length_cons, List.length_nil]); omega), List.append_assoc]
  refine congrArg some (Prod.ext rfl (Prod.ext ?_ ?_))
  · exact (show sz + 1 + 56 = sz + 57 by omega)
  · exact (show sl + 600 + 231106 = sl + 231706 by omega)
abbrev wX11_2 (V : Nat → Value) (a sz : Nat) : Nat → Value := wX11_3 (updV V 5 (.ref a)) sz (sz + 1)
abbrev eX11_2 : List hp_E := ai 0 600 :: eX11_3
theorem i_X11_2 {z n a sz sl : Nat} {A S : List hp_E} {V : Nat → Value} (hz : sz = z + A.length + 1 + S.length) : f_X11_init_19 n (z + A.length) a (z + A.length) (hl z (A ++ ob 11 V :: S)) sz sl = some (hl z (A ++ ob 11 (wX11_2 V a sz) :: (S ++ eX11_2)), sz + 58, sl + 232306) := by
  unfold f_X11_init_19
  refine tr_eq0 hl_pF ?_
  rw [hl_na hz]
  rw [i_X11_3 (by (try simp only [List.length_append, List.length_cons, List.length_nil]); omega), List.append_assoc]
  refine congrArg some (Prod.ext rfl (Prod.ext ?_ ?_))
  · exact (show sz + 1 + 57 = sz + 58 by omega)
  · exact (show sl + 600 + 231706 = sl + 232306 by omega)
abbrev wX11_1 (V : Nat → Value) (a sz : Nat) : Nat → Value := wX11_2 (updV V 0 (.ref a)) sz (sz + 1)
abbrev eX11_1 : List hp_E := ai 0 16384 :: eX11_2
theorem i_X11_1 {z n a sz sl : Nat} {A S : List hp_E} {V : Nat → Value} (hz : sz = z + A.length + 1 + S.length) : f_X11_init_10 n (z + A.length) a (z + A.length) (hl z (A ++ ob 11 V :: S)) sz sl = some (hl z (A ++ ob 11 (wX11_1 V a sz) :: (S ++ eX11_1)), sz + 59, sl + 248690) := by
  unfold f_X11_init_10
  refine tr_eq0 hl_pF ?_
  rw [hl_na hz]
  rw [i_X11_2 (by (try simp only [List.length_append, List.length_cons, List.length_nil]); omega), List.append_assoc]
  refine congrArg some (Prod.ext rfl (Prod.ext ?_ ?_))
  · exact (show sz + 1 + 58 = sz + 59 by omega)
  · exact (show sl + 16384 + 232306 = sl + 248690 by omega)
abbrev wX11 (V : Nat → Value) (sz : Nat) : Nat → Value := wX11_1 V sz (sz + 1)
abbrev eX11 : List hp_E := ai 0 8192 :: eX11_1
theorem i_X11 {z n sz sl : Nat} {A S : List hp_E} {V : Nat → Value} (hz : sz = z + A.length + 1 + S.length) : f_X11_init n (z + A.length) (hl z (A ++ ob 11 V :: S)) sz sl = some (hl z (A ++ ob 11 (wX11 V sz) :: (S ++ eX11)), sz + 60, sl + 256882) := by
  unfold f_X11_init
  refine tr_eq0 hl_ck ?_
  unfold f_X11_init_0
  rw [hl_na hz]
  rw [i_X11_1 (by (try simp only [List.length_append, List.length_cons, List.length_nil]); omega), List.append_assoc]
  refine congrArg some (Prod.ext rfl (Prod.ext ?_ ?_))
  · exact (show sz + 1 + 59 = sz + 60 by omega)
  · exact (show sl + 8192 + 248690 = sl + 256882 by omega)
