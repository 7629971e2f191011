/-! A proof is decoded, or open: both -/
section DE2
variable {b n : Nat} {q S K P len k : Int} {f : Nat → Nat → Int} {d : Nat → Nat} {a : Nat → Int → Int} {ni : Nat → Nat} {j : Nat → Int → Int64} {F : Nat → Int} {A : Nat → Int → Int} {J : Nat → Int → Int64}
theorem dec_all (hn : 100000 ≤ n) (hb : bks b) (hq : 0 ≤ q ∧ q ≤ 1) (h4 : F 4 = q) (G : BK b q S K P len f a ni j A J) (hR : Rbk b q len a A) (h0 : 0 ≤ k) (h1 : k < K) (hk : a (b + 8) k = 3) : ∃ (z : Int) (f2 : Nat → Nat → Int) (a2 : Nat → Int → Int) (F2 : Nat → Int) (A2 : Nat → Int → Int), g_X3_decode n 78 b (qz k) (cs f d a ni j) = some (qz z, cs f2 (u1 d 6 b) a2 ni j) ∧ ((z = 1 ∧ g_X11_isOpen n 0 (qz k) (ms F A J) = some (qz 1, ms F2 A2 J) ∧ f2 78 2 = 0 ∧ (∀ i, i ≠ 78 → f2 i = f i) ∧ a2 = a ∧ DM F A F2 A2 ∧ ∀ i, i ≠ 48 → F2 i = F i) ∨ ∃ (F1 : Nat → Int) (A1 : Nat → Int → Int), g_X11_isOpen n 0 (qz k) (ms F A J) = some (qz 0, ms F1 A1 J) ∧ g_X11_readProof n 0 (qz k) (ms F1 A1 J) = some (qp (z = 0), ms F2 A2 J) ∧ DEO b k z f a f2 a2 F A F2 A2) := by
  have hbb : b = 1 ∨ b = 33 := hb
  generalize hf' : u2 (u2 (u2 (u2 f 78 0 k) 78 1 0) 78 5 0) 78 2 0 = f'
  have e' : ∀ i, i ≠ 78 → f' i = f i := fun i hi => by rw [← hf', u2_b hi, u2_b hi, u2_b hi, u2_b hi]
  have e0 : f' 78 0 = k := by rw [← hf', u2_c (by decide), u2_c (by decide), u2_c (by decide), u2_a]
  have e1 : f' 78 1 = 0 := by rw [← hf', u2_c (by decide), u2_c (by decide), u2_a]
  have e5 : f' 78 5 = 0 := by rw [← hf', u2_c (by decide), u2_a]
  have e2 : f' 78 2 = 0 := by rw [← hf', u2_a]
  have G' : BK b q S K P len f' a ni j A J := bk_eq G (fun i i1 i2 => e' i (by omega)) (fun _ _ _ => rfl) (fun _ _ _ => rfl) rfl (fun _ _ _ => rfl) ⟨rfl, rfl⟩
  have d6 : u1 d 6 b 6 = b := u1_s
  have X0 : g_X3_decode n 78 b (qz k) (cs f d a ni j) = if qp (opn q k (a (b + 30) k) (a (b + 2)) (a (b + 14 + 1)) (A 13) (A 14) (A 17) (A 18)) = 0 then ((g_X5_size n (b + 14) (qz k) (cs f' (u1 d 6 b) a ni j)).bind fun x9 => if x9 = 0 then some ((-1 : Int32), cs f' (u1 d 6 b) a ni j) else (gA (cs f' (u1 d 6 b) a ni j) (b + 29) (qz k)).bind fun x12 => if x12 = 0 then g_X3_decode_67 n 78 (0 : Int32) (cs f' (u1 d 6 b) a ni j) else g_X3_decode_67 n 78 (1 : Int32) (cs f' (u1 d 6 b) a ni j)) else some ((1 : Int32), cs f' (u1 d 6 b) a ni j) := by
    unfold g_X3_decode g_X3_decode_0
    rw [wp_78_6, bd_some, wf_cs, bd_some, show (wF (cs (u2 f 78 0 k) (u1 d 6 b) a ni j) 78 1 (0 : Int32)) = some (cs (u2 (u2 f 78 0 k) 78 1 0) (u1 d 6 b) a ni j) from (by rw [zl0]; exact wf_cs), bd_some, show (wF (cs (u2 (u2 f 78 0 k) 78 1 0) (u1 d 6 b) a ni j) 78 5 (0 : Int32)) = some (cs (u2 (u2 (u2 f 78 0 k) 78 1 0) 78 5 0) (u1 d 6 b) a ni j) from (by rw [zl0]; exact wf_cs), bd_some, show (wF (cs (u2 (u2 (u2 f 78 0 k) 78 1 0) 78 5 0) (u1 d 6 b) a ni j) 78 2 (0 : Int32)) = some (cs f' (u1 d 6 b) a ni j) from (by rw [zl0, ← hf']; exact wf_cs), bd_some, c_isOpen hn hb d6 e0 G' h0 h1 hk, bd_some, gpc_78_6, d6, gpb_10 hb, gpb_15 hb]
  obtain ⟨F1, A1, eO, o1, o2⟩ := m_open (F := F) (J := J) hn hq h4 G hR h0 h1 hk
  have hM1 : DM F A F1 A1 := ⟨fun i hi => o1 i (by omega), fun i hi => o2 i (by omega)⟩
  by_cases c : opn q k (a (b + 30) k) (a (b + 2)) (a (b + 14 + 1)) (A 13) (A 14) (A 17) (A 18)
  · rw [qp_T c] at X0 eO
    refine ⟨1, f', a, F1, A1, ?_, Or.inl ⟨rfl, eO, e2, e', rfl, hM1, o1⟩⟩
    rw [X0, if_neg (by decide)]
    rfl
  · rw [qp_F c] at X0 eO
    have G1 : BK b q S K P len f' a ni j A1 J := bk_eq G' (fun _ _ _ => rfl) (fun _ _ _ => rfl) (fun _ _ _ => rfl) rfl (fun i i1 i2 => o2 i (by omega)) ⟨rfl, rfl⟩
    have hR1 : Rbk b q len a A1 := by
      unfold Rbk
      rw [o2 2 (by decide)]
      exact hR
    obtain ⟨z, f2, a2, F2, A2, y1, y2, ⟨y3, y4, y5⟩, y6, y7, y8, y9⟩ := dec_rd (F := F1) (J := J) (d := u1 d 6 b) hn hb d6 hq (by rw [o1 4 (by decide)]; exact h4) G1 hR1 h0 h1 hk e0 e1 e5 e2
    refine ⟨z, f2, a2, F2, A2, ?_, Or.inr ⟨F1, A1, eO, y2, ⟨fun i hi => by rw [y3 i hi]; exact e' i hi, y4, y5⟩, dm_t hM1 y6, y7, y8, y9⟩⟩
    rw [X0, if_pos (by decide)]
    exact y1
end DE2
