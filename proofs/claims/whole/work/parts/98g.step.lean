/-! One token: what both do with it -/
theorem n10 : ¬(qz 1 = qz 0) := by rw [qz_1_0]; exact not_false
section STEP
variable {b n : Nat} {q S K P len c b0 e0 w : Int} {f0 : Nat → Nat → Int} {a0 : Nat → Int → Int} {ni0 : Nat → Nat} {j0 : Nat → Int → Int64} {F0 : Nat → Int} {A0 : Nat → Int → Int} {J0 : Nat → Int → Int64} {f : Nat → Nat → Int} {d : Nat → Nat} {a : Nat → Int → Int} {ni : Nat → Nat} {j : Nat → Int → Int64} {F : Nat → Int} {A : Nat → Int → Int} {J : Nat → Int → Int64}
/-- the token in hand -/
def TI (b : Nat) (len c b0 e0 w : Int) (f : Nat → Nat → Int) (a : Nat → Int → Int) (F : Nat → Int) (A : Nat → Int → Int) : Prop :=
  f 77 0 = b0 ∧ f 77 1 = e0 ∧ F 29 = b0 ∧ F 30 = e0 - b0 ∧ F 31 = e0 ∧ 0 ≤ b0 ∧ b0 < e0 ∧ e0 ≤ len ∧ (c = 0 ∨ c + 1 ≤ b0) ∧ ¬bad (A 1) b0 e0 ∧ (∀ x, b0 ≤ x → x < e0 → ¬blk (A 1 x)) ∧ (e0 = len ∨ blk (A 1 e0)) ∧ wrd (a (b + 2)) b0 e0 w
/-- the whole relation between two tokens -/
def RD (b : Nat) (q S K P len c : Int) (f0 : Nat → Nat → Int) (a0 : Nat → Int → Int) (ni0 : Nat → Nat) (j0 : Nat → Int → Int64) (F0 : Nat → Int) (A0 : Nat → Int → Int) (J0 : Nat → Int → Int64) (f : Nat → Nat → Int) (d : Nat → Nat) (a : Nat → Int → Int) (ni : Nat → Nat) (j : Nat → Int → Int64) (F : Nat → Int) (A : Nat → Int → Int) (J : Nat → Int → Int64) : Prop :=
  BK b q S K P len f a ni j A J ∧ Rl b q len c f d a F A ∧ Rs b q S K P f a F A ∧ Rc b K c f a F ∧ Gmo b q S K P len c f a F A ∧ FR b q f0 a0 ni0 j0 F0 A0 J0 f a ni j F A J
/-- what a token comes to -/
def OUT (b n : Nat) (q len b0 e0 : Int) (f0 : Nat → Nat → Int) (a0 : Nat → Int → Int) (ni0 : Nat → Nat) (j0 : Nat → Int → Int64) (F0 : Nat → Int) (A0 : Nat → Int → Int) (J0 : Nat → Int → Int64) (d : Nat → Nat) (X Y : Option (Int32 × st_T)) : Prop :=
  ∃ (z S2 K2 P2 : Int) (f2 : Nat → Nat → Int) (a2 : Nat → Int → Int) (ni2 : Nat → Nat) (j2 : Nat → Int → Int64) (F2 : Nat → Int) (A2 : Nat → Int → Int) (J2 : Nat → Int → Int64), (∀ v : Int32, (X.bind fun x => g_X4_readBook_197 n 65 x.1 v x.2) = some (.inl (qz z, v + (1 : Int32), cs f2 d a2 ni2 j2))) ∧ Y = some (qz z, ms F2 A2 J2) ∧ (z = 0 ∨ 3 ≤ z) ∧ z ≤ 7 ∧ (z = 0 → RD b q S2 K2 P2 len e0 f0 a0 ni0 j0 F0 A0 J0 f2 d a2 ni2 j2 F2 A2 J2 ∧ f2 77 1 = e0 ∧ F2 31 = e0) ∧ (z ≠ 0 → f2 77 0 = b0 ∧ F2 29 = b0 ∧ FR b q f0 a0 ni0 j0 F0 A0 J0 f2 a2 ni2 j2 F2 A2 J2 ∧ RwA b f2 a2 ni2)
theorem c197 {x v : Int32} (h : f 65 4 ≠ 6) (h1 : 0 ≤ f 65 4) (h2 : f 65 4 ≤ 6) : g_X4_readBook_197 n 65 x v (cs f d a ni j) = some (.inl (x, v + (1 : Int32), cs f d a ni j)) := by
  unfold g_X4_readBook_197 g_X4_readBook_210
  rw [gf_cs, if_neg (by rw [show (6 : Int32) = qz 6 from rfl, qz_inj (by omega) (by omega) (by omega) (by omega)]; exact h)]
theorem out_fault {z : Int} (hz : 3 ≤ z) (hz2 : z ≤ 7) {X Y : Option (Int32 × st_T)} (hX : X = some (qz z, cs f d a ni j)) (hY : Y = some (qz z, ms F A J)) (h1 : f 77 0 = b0) (h2 : F 29 = b0) (h3 : FR b q f0 a0 ni0 j0 F0 A0 J0 f a ni j F A J) (h4 : RwA b f a ni) (h5 : 0 ≤ f 65 4) (h6 : f 65 4 < 6) : OUT b n q len b0 e0 f0 a0 ni0 j0 F0 A0 J0 d X Y :=
  ⟨z, 0, 0, 0, f, a, ni, j, F, A, J, fun v => by rw [hX, bd_some]; exact c197 (by omega) h5 (by omega), hY, by omega, hz2, fun h => by omega, fun _ => ⟨h1, h2, h3, h4⟩⟩
theorem out_good {S2 K2 P2 : Int} {X Y : Option (Int32 × st_T)} (hX : X = some (qz 0, cs f d a ni j)) (hY : Y = some (qz 0, ms F A J)) (h5 : 0 ≤ f 65 4) (h6 : f 65 4 < 6) (R : RD b q S2 K2 P2 len e0 f0 a0 ni0 j0 F0 A0 J0 f d a ni j F A J) (h1 : f 77 1 = e0) (h2 : F 31 = e0) : OUT b n q len b0 e0 f0 a0 ni0 j0 F0 A0 J0 d X Y :=
  ⟨0, S2, K2, P2, f, a, ni, j, F, A, J, fun v => by rw [hX, bd_some]; exact c197 (by omega) h5 (by omega), hY, by omega, by omega, fun _ => ⟨R, h1, h2⟩, fun h => absurd rfl h⟩
theorem ti_tok {F2 : Nat → Int} (h : TI b len c b0 e0 w f a F A) (hl : len ≤ 8192) (h1 : F2 29 = F 29) (h2 : F2 30 = F 30) : tok F2 b0 e0 := by
  obtain ⟨t1, t2, t3, t4, t5, t6, t7, t8, t9⟩ := h
  exact ⟨t6, t7, by omega, by omega, by omega⟩
theorem mW (ht : txt (A 1) len) (hx : txs (a (b + 2)) (A 1) len) (htok : tok F b0 e0) (he : e0 ≤ len) (hw : wrd (a (b + 2)) b0 e0 w) {c : Int} (hc : c = 46 ∨ c = 61 ∨ c = 97 ∨ c = 99 ∨ c = 100 ∨ c = 101 ∨ c = 102 ∨ c = 112 ∨ c = 118 ∨ c = 123 ∨ c = 125) : g_X11_isWord n 0 (qz c) (ms F A J) = some (qp (w = c)) := by
  rw [m_isWord ht htok he (by omega)]
  exact congrArg some (qp_congr ((sg_isw hx htok.1 he (by omega)).symm.trans (wrd_isw hw hc)))
theorem mD (hn : 100000 ≤ n) (ht : txt (A 1) len) (hx : txs (a (b + 2)) (A 1) len) (htok : tok F b0 e0) (he : e0 ≤ len) (hw : wrd (a (b + 2)) b0 e0 w) : g_X11_hasDollar n 0 (ms F A J) = some (qp (w ≠ 0)) := by
  rw [m_hasDollar (by omega) ht htok he]
  exact congrArg some (qp_congr ((sg_dol hx htok.1 he).symm.trans (wrd_dol hw)))
theorem mL (hn : 100000 ≤ n) (ht : txt (A 1) len) (htok : tok F b0 e0) (he : e0 ≤ len) : g_X11_isLabel n 0 (ms F A J) = some (qp (lab (A 1) b0 e0)) := m_isLabel (by omega) ht htok he
theorem c_named (hb : bks b) (hd : d 4 = b) (h0 : f 77 0 = b0) (h1 : f 77 1 = e0) : g_X4_namedByToken n 65 (cs f d a ni j) = g_X2_lookUp n (b + 1) (b + 2) (qz b0) (qz (e0 - b0)) (cs f d a ni j) := by
  unfold g_X4_namedByToken g_X4_namedByToken_0
  rw [gpc_65_1, hd, gpb_0 hb, gpb_1 hb, gpc_65_2, gf_cs, gf_cs, h0, h1, qz_sub]
  cases g_X2_lookUp n (b + 1) (b + 2) (qz b0) (qz (e0 - b0)) (cs f d a ni j) <;> rfl
end STEP
