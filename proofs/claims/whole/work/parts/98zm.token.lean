/-! A token: both -/
section TKN
variable {b n : Nat} {q S K P len c b0 e0 w : Int} {f0 : Nat → Nat → Int} {a0 : Nat → Int → Int} {ni0 : Nat → Nat} {j0 : Nat → Int → Int64} {F0 : Nat → Int} {A0 : Nat → Int → Int} {J0 : Nat → Int → Int64} {f : Nat → Nat → Int} {d : Nat → Nat} {a : Nat → Int → Int} {ni : Nat → Nat} {j : Nat → Int → Int64} {F : Nat → Int} {A : Nat → Int → Int} {J : Nat → Int → Int64}
/-- what the class does with a token -/
def tokC (n : Nat) (v3 : Int32) (s : st_T) : Option ((Int32 × Int32 × st_T) ⊕ (Int32 × st_T)) :=
  (g_X6_word n (gP s 65 2) s).bind fun x4 => if (gF s 65 4) = (0 : Int32) then (if x4 = 0 then (g_X4_takeLabel n 65 s).bind fun x7 => g_X4_readBook_134 n 65 v3 x7.1 x7.2 else (g_X4_takeOutside n 65 x4 s).bind fun x6 => g_X4_readBook_134 n 65 v3 x6.1 x6.2) else if (gF s 65 4) = (1 : Int32) then (g_X4_takeKind n 65 x4 s).bind fun x10 => g_X4_readBook_197 n 65 x10.1 v3 x10.2 else if (gF s 65 4) = (2 : Int32) then (g_X4_takeDeclared n 65 x4 s).bind fun x12 => g_X4_readBook_197 n 65 x12.1 v3 x12.2 else if (gF s 65 4) = (3 : Int32) then (g_X4_takeSeparated n 65 x4 s).bind fun x14 => g_X4_readBook_197 n 65 x14.1 v3 x14.2 else if (gF s 65 4) = (4 : Int32) then (if x4 = 0 then (g_X4_takeSymbol n 65 s).bind fun x17 => g_X4_readBook_177 n 65 v3 x17.1 x17.2 else (g_X4_takeEnd n 65 x4 s).bind fun x16 => g_X4_readBook_186 n 65 v3 x16.1 x16.2) else (g_X4_takeProofToken n 65 x4 s).bind fun x19 => g_X4_readBook_196 n 65 v3 x19.1 x19.2
theorem tokC_b {c1 c2 : Int32} (s : st_T) : g_X4_readBook_49 n 65 c1 c2 s = if (4096 : Int32) < c2 then some (.inr (c1, s)) else if c1 = 0 then (g_X6_advance n (gP s 65 2) s).bind fun x2 => if x2.1 = 0 then some (.inr (c1, x2.2)) else tokC n c2 x2.2 else some (.inr (c1, s)) := rfl
/-- the outcome of a token, in the two loops' words -/
def TK (b n : Nat) (q len b0 e0 : Int) (f0 : Nat → Nat → Int) (a0 : Nat → Int → Int) (ni0 : Nat → Nat) (j0 : Nat → Int → Int64) (F0 : Nat → Int) (A0 : Nat → Int → Int) (J0 : Nat → Int → Int64) (d : Nat → Nat) (s s' : st_T) : Prop :=
  ∃ (z S2 K2 P2 : Int) (f2 : Nat → Nat → Int) (a2 : Nat → Int → Int) (ni2 : Nat → Nat) (j2 : Nat → Int → Int64) (F2 : Nat → Int) (A2 : Nat → Int → Int) (J2 : Nat → Int → Int64), (∀ v : Int32, tokC n v s = some (.inl (qz z, v + (1 : Int32), cs f2 d a2 ni2 j2))) ∧ (z = 0 → tokR n s' = some (.inl (qz 0, ms F2 A2 J2))) ∧ (z ≠ 0 → tokR n s' = some (.inr (.inr (qz z, ms F2 A2 J2)))) ∧ (z = 0 ∨ 3 ≤ z) ∧ z ≤ 7 ∧ (z = 0 → RD b q S2 K2 P2 len e0 f0 a0 ni0 j0 F0 A0 J0 f2 d a2 ni2 j2 F2 A2 J2 ∧ f2 77 1 = e0 ∧ F2 31 = e0) ∧ (z ≠ 0 → f2 77 0 = b0 ∧ F2 29 = b0 ∧ FR b q f0 a0 ni0 j0 F0 A0 J0 f2 a2 ni2 j2 F2 A2 J2 ∧ RwA b f2 a2 ni2)
theorem tk_out {X Y : Option (Int32 × st_T)} {s s' : st_T} (O : OUT b n q len b0 e0 f0 a0 ni0 j0 F0 A0 J0 d X Y) (hC : ∀ v : Int32, tokC n v s = X.bind fun x => g_X4_readBook_197 n 65 x.1 v x.2) (hR : tokR n s' = Y.bind fun x1 => if x1.1 ≤ 0 then some (.inl (qz 0, x1.2)) else some (.inr (.inr (x1.1, x1.2)))) : TK b n q len b0 e0 f0 a0 ni0 j0 F0 A0 J0 d s s' := by
  obtain ⟨z, S2, K2, P2, f2, a2, ni2, j2, F2, A2, J2, o1, o2, o3, o4, o5, o6⟩ := O
  refine ⟨z, S2, K2, P2, f2, a2, ni2, j2, F2, A2, J2, fun v => by rw [hC v]; exact o1 v, fun h => ?_, fun h => ?_, o3, o4, o5, o6⟩
  · rw [hR, o2, bd_some]
    subst h
    exact if_pos (show qz 0 ≤ (0 : Int32) by decide)
  · rw [hR, o2, bd_some]
    simp only [qz_lit]
    rw [if_neg (by rw [qz_le (by omega) (by omega) (by omega) (by omega)]; omega)]
theorem tok_tk (hn : 100000 ≤ n) (G : BK b q S K P len f a ni j A J) (L : Rl b q len c f d a F A) (R : Rs b q S K P f a F A) (C : Rc b K c f a F) (Fr : FR b q f0 a0 ni0 j0 F0 A0 J0 f a ni j F A J) (Ti : TI b len c b0 e0 w f a F A) (M : Gmo b q S K P len c f a F A) : TK b n q len b0 e0 f0 a0 ni0 j0 F0 A0 J0 d (cs f d a ni j) (ms F A J) := by
  have G' := G
  obtain ⟨⟨b1, b2, b3, b4, b5, b6, b7, b8, b9⟩, gn, glb, gk, gf, gt, ghy, gma, gun, gpo, gpr, gfm, gax, grw⟩ := G'
  have L' := L
  obtain ⟨l1, l2, l3, l4, l5, l6, l7, l8, l9, l10, l11, l12, l13⟩ := L'
  have hb := bq_b l1
  have hq := bq_q l1
  have C' := C
  obtain ⟨k1, k2, k3, k4, k5, k6, k7, k8, k9, k10⟩ := C'
  have T' := Ti
  obtain ⟨t1, t2, t3, t4, t5, t6, t7, t8, t9, t10, t11, t12, t13⟩ := T'
  have hK : 0 ≤ K ∧ K ≤ 200 := ⟨gn.2.2.1, gn.2.2.2.1⟩
  have hS : 0 ≤ S ∧ S ≤ 300 := ⟨gn.1, gn.2.1⟩
  have hD : 0 ≤ f 66 0 ∧ f 66 0 ≤ 16 := ⟨R.1.1, R.1.2.1⟩
  have rwa := grw_rwa grw
  have hsc : scd f d a (b + 2) len := ⟨l3, tx_b hb, l4, b7, b8, b9⟩
  have htc : tkc f b0 e0 len := ⟨t1, t2, t6, t7, t8⟩
  have hce : c ≤ e0 := by omega
  have hbb : b = 1 ∨ b = 33 := hb
  have htok : tok F b0 e0 := ti_tok Ti b8 rfl rfl
  have hwr : -1 ≤ w ∧ w < 128 := wrd_rng t13 b9 t6 t7 (by omega)
  obtain ⟨w', ew, hw'⟩ := c_word (ni := ni) (j := j) hn hsc htc
  have hww : w' = w := by
    have h1 := wrd_dol hw'
    have h2 := wrd_dol t13
    have h3 := wrd_kwd hw'
    have h4 := wrd_kwd t13
    rcases t13 with ⟨y1, y2⟩ | ⟨y1, y2, y3⟩ | ⟨y1, y2, y3⟩
    · have : ¬(w' ≠ 0) := fun z => y1 (h1.mpr z)
      omega
    · rcases hw' with ⟨z1, z2⟩ | ⟨z1, z2, z3⟩ | ⟨z1, z2, z3⟩
      · exact absurd (h2.mpr (by
          unfold kwd at y1
          unfold isw at y1 y3
          omega)) z1
      · rw [y2, z2]
      · exact absurd y1 z2
    · rw [y3]
      exact h3.mp ⟨y1, y2⟩
  rw [hww] at ew
  clear hw' hww
  have eK := m_isKeyword (j := J) (n := n) l9 htok t8
  have eD := mD (J := J) hn l9 l10 htok t8 t13
  have f4 : 0 ≤ f 65 4 ∧ f 65 4 ≤ 5 := by
    rcases M with M | M | M | M | M | M <;> have := M.1 <;> omega
  have hC : ∀ v : Int32, tokC n v (cs f d a ni j) = if f 65 4 = 0 then (if w = 0 then (g_X4_takeLabel n 65 (cs f d a ni j)).bind fun x => g_X4_readBook_197 n 65 x.1 v x.2 else (g_X4_takeOutside n 65 (qz w) (cs f d a ni j)).bind fun x => g_X4_readBook_197 n 65 x.1 v x.2) else if f 65 4 = 1 then (g_X4_takeKind n 65 (qz w) (cs f d a ni j)).bind fun x => g_X4_readBook_197 n 65 x.1 v x.2 else if f 65 4 = 2 then (g_X4_takeDeclared n 65 (qz w) (cs f d a ni j)).bind fun x => g_X4_readBook_197 n 65 x.1 v x.2 else if f 65 4 = 3 then (g_X4_takeSeparated n 65 (qz w) (cs f d a ni j)).bind fun x => g_X4_readBook_197 n 65 x.1 v x.2 else if f 65 4 = 4 then (if w = 0 then (g_X4_takeSymbol n 65 (cs f d a ni j)).bind fun x => g_X4_readBook_197 n 65 x.1 v x.2 else (g_X4_takeEnd n 65 (qz w) (cs f d a ni j)).bind fun x => g_X4_readBook_197 n 65 x.1 v x.2) else (g_X4_takeProofToken n 65 (qz w) (cs f d a ni j)).bind fun x => g_X4_readBook_197 n 65 x.1 v x.2 := by
    intro v
    unfold tokC g_X4_readBook_134 g_X4_readBook_177 g_X4_readBook_186 g_X4_readBook_196
    simp only [qz_lit]
    rw [gpc_65_2, ew, bd_some, gf_cs]
    simp (disch := omega) only [qz_inj]
  by_cases w1 : w = -1
  · -- neither a keyword nor plain
    have hR : tokR n (ms F A J) = some (.inr (.inr (qz 3, ms F A J))) := by
      unfold tokR
      simp only [qz_lit]
      rw [eD, bd_some, qp_T (by omega), if_neg n10, eK, bd_some, qp_F, if_pos rfl]
      intro hk
      have h2 := (wrd_kwd t13).mpr w1
      refine h2.2 ?_
      unfold kwd at hk ⊢
      rcases hk with z | z | z | z | z | z | z | z | z | z | z <;> simp [(sg_isw l10 t6 t8 (by omega)).mpr z]
    have g3 : ∀ X : Option (Int32 × st_T), (∀ v : Int32, tokC n v (cs f d a ni j) = X.bind fun x => g_X4_readBook_197 n 65 x.1 v x.2) → X = some (qz 3, cs f d a ni j) → TK b n q len b0 e0 f0 a0 ni0 j0 F0 A0 J0 d (cs f d a ni j) (ms F A J) := by
      intro X h1 h2
      refine ⟨3, 0, 0, 0, f, a, ni, j, F, A, J, fun v => ?_, fun z => by omega, fun _ => hR, by omega, by omega, fun z => by omega, fun _ => ⟨t1, t3, Fr, rwa⟩⟩
      rw [h1 v, h2, bd_some]
      exact c197 (by omega) (by omega) (by omega)
    by_cases c0 : f 65 4 = 0
    · refine g3 _ (fun v => by rw [hC v, if_pos c0, if_neg (by omega)]) ?_
      unfold g_X4_takeOutside g_X4_takeOutside_0
      simp only [qz_lit]
      rw [w1]; rfl
    by_cases c1 : f 65 4 = 1
    · refine g3 _ (fun v => by rw [hC v, if_neg c0, if_pos c1]) ?_
      unfold g_X4_takeKind g_X4_takeKind_0
      simp only [qz_lit]
      rw [w1]; rfl
    by_cases c2 : f 65 4 = 2
    · refine g3 _ (fun v => by rw [hC v, if_neg c0, if_neg c1, if_pos c2]) ?_
      unfold g_X4_takeDeclared g_X4_takeDeclared_0 g_X4_takeDeclared_19
      simp only [qz_lit]
      rw [w1]; rfl
    by_cases c3 : f 65 4 = 3
    · refine g3 _ (fun v => by rw [hC v, if_neg c0, if_neg c1, if_neg c2, if_pos c3]) ?_
      unfold g_X4_takeSeparated g_X4_takeSeparated_0 g_X4_takeSeparated_20
      simp only [qz_lit]
      rw [w1]; rfl
    by_cases c4 : f 65 4 = 4
    · refine g3 _ (fun v => by rw [hC v, if_neg c0, if_neg c1, if_neg c2, if_neg c3, if_pos c4, if_neg (by omega)]) ?_
      unfold g_X4_takeEnd g_X4_takeEnd_0 g_X4_takeEnd_12 g_X4_takeEnd_28
      simp only [qz_lit]
      rw [w1, if_neg (by decide : ¬(qz (-1) = qz 61)), if_neg (by decide : ¬(qz (-1) = qz 46)), if_neg (by decide : ¬(qz (-1) = qz 61)), if_neg (by decide : ¬(qz (-1) = qz 46)), ite_self, ite_self]
    · refine g3 _ (fun v => by rw [hC v, if_neg c0, if_neg c1, if_neg c2, if_neg c3, if_neg c4]) ?_
      unfold g_X4_takeProofToken g_X4_takeProofToken_0
      simp only [qz_lit]
      rw [w1]; rfl
  have hR : tokR n (ms F A J) = (g_X11_token n 0 (ms F A J)).bind fun x1 => if x1.1 ≤ 0 then some (.inl (qz 0, x1.2)) else some (.inr (.inr (x1.1, x1.2))) := by
    unfold tokR g_X11_readBook_100
    simp only [qz_lit]
    by_cases w0 : w = 0
    · rw [eD, bd_some, qp_F (fun z => z w0), if_pos rfl]
    · have hk : kwd (A 1) b0 e0 := by
        have h4 := wrd_kwd t13
        have h5 : kwd (a (b + 2)) b0 e0 := Classical.byContradiction fun z => w1 (h4.mp ⟨(wrd_dol t13).mpr w0, z⟩)
        unfold kwd at h5 ⊢
        rcases h5 with z | z | z | z | z | z | z | z | z | z | z <;> simp [(sg_isw l10 t6 t8 (by omega)).mp z]
      rw [eD, bd_some, qp_T w0, if_neg n10, eK, bd_some, qp_T hk, if_neg n10]
  have eta : ∀ Y : Option (Int32 × st_T), (Y.bind fun x => some (x.1, x.2)) = Y := by
    intro Y
    cases Y <;> rfl
  have hT : g_X11_token n 0 (ms F A J) = if F 34 = 0 then g_X11_outside n 0 (ms F A J) else if F 34 = 1 then g_X11_kindOf n 0 (ms F A J) else if F 34 = 2 then g_X11_declared n 0 (ms F A J) else if F 34 = 3 then g_X11_declared n 0 (ms F A J) else if F 34 = 4 then g_X11_distinct n 0 (ms F A J) else if F 34 = 5 then g_X11_typed n 0 (ms F A J) else if F 34 = 6 then g_X11_formula n 0 (ms F A J) else g_X11_proof n 0 (ms F A J) := by
    have h34 : 0 ≤ F 34 ∧ F 34 ≤ 7 := by
      rcases M with M | M | M | M | M | M
      · have := M.2.1; omega
      · have := M.2.1; omega
      · have := M.2.1; omega
      · have := M.2.1; omega
      · have := M.2.2.2.2.2.2.2.2.2.2.1; omega
      · have := M.2.1; omega
    unfold g_X11_token g_X11_token_0 g_X11_token_58
    simp only [qz_lit, eta]
    rw [gf_ms]
    simp (disch := omega) only [qz_inj]
  rcases M with ⟨a1, a2, a3, a4, a5⟩ | ⟨a1, a2, a3, a4, a5, a6⟩ | ⟨a1, a2, a3, a4, a5, a6, a7, a8⟩ | ⟨a1, a2, a3, a4, a5, a6, a7, a8, a9⟩ | ⟨a1, a2, a3, a4, a5, a6, a7, a8, a9, a10, a11, a12, a13, a14⟩ | ⟨a1, a2, a3, a4, a5, a6, a7, a8, a9, a10, a11, a12, a13, a14, a15, a16, a17, a18⟩
  · rw [if_pos a2] at hT
    by_cases w0 : w = 0
    · exact tk_out (s_label hn G L R C Fr Ti w0 a1 a2 a3 a4 a5) (fun v => by rw [hC v, if_pos a1, if_pos w0]) (by rw [hR, hT])
    have hX : ∀ v : Int32, tokC n v (cs f d a ni j) = (g_X4_takeOutside n 65 (qz w) (cs f d a ni j)).bind fun x => g_X4_readBook_197 n 65 x.1 v x.2 := fun v => by rw [hC v, if_pos a1, if_neg w0]
    by_cases w99 : w = 99
    · exact tk_out (s_c hn G L R C Fr Ti w99 a1 a2 a3 a4 a5) hX (by rw [hR, hT])
    by_cases w118 : w = 118
    · exact tk_out (s_v hn G L R C Fr Ti w118 a1 a2 a3 a4 a5) hX (by rw [hR, hT])
    by_cases w100 : w = 100
    · exact tk_out (s_d hn G L R C Fr Ti w100 a1 a2 a3 a4 a5) hX (by rw [hR, hT])
    by_cases w123 : w = 123
    · exact tk_out (s_open hn G L R C Fr Ti w123 a1 a2 a3 a4 a5) hX (by rw [hR, hT])
    by_cases w125 : w = 125
    · exact tk_out (s_close hn G L R C Fr Ti w125 a1 a2 a3 a4 a5) hX (by rw [hR, hT])
    · have htok' : tok (u1 F 35 0) b0 e0 := ti_tok Ti b8 (u1_o (by decide)) (u1_o (by decide))
      refine tk_out (out_fault (z := 3) (by omega) (by omega) (f := f) (a := a) (ni := ni) (j := j) (F := u1 F 35 0) (A := A) (J := J) ?_ ?_ t1 (by rw [u1_o (by decide)]; exact t3) (fr_F Fr (by omega)) rwa (by omega) (by omega)) hX (by rw [hR, hT])
      · unfold g_X4_takeOutside g_X4_takeOutside_0
        simp (disch := omega) only [qz_lit, qz_inj, if_neg]
      · clear htok
        have htok := htok'
        unfold g_X11_outside g_X11_outside_0
        simp only [qz_lit]
        rw [wf_ms, bd_some]
        rw [mW l9 l10 htok t8 t13 (by omega), bd_some, qp_F (by omega), if_pos rfl]
        rw [mW l9 l10 htok t8 t13 (by omega), bd_some, qp_F (by omega), if_pos rfl]
        rw [mW l9 l10 htok t8 t13 (by omega), bd_some, qp_F (by omega), if_pos rfl]
        rw [mW l9 l10 htok t8 t13 (by omega), bd_some, qp_F (by omega), if_pos rfl]
        rw [mW l9 l10 htok t8 t13 (by omega), bd_some, qp_F (by omega), if_pos rfl]
        rw [mD hn l9 l10 htok t8 t13, bd_some, qp_T w0, if_neg n10]
  · rw [if_neg (by omega), if_pos a2] at hT
    exact tk_out (s_kind hn G L R C Fr Ti w1 a1 a2 a3 a4 a5 a6) (fun v => by rw [hC v, if_neg (by omega), if_pos a1]) (by rw [hR, hT])
  · have hT2 : g_X11_token n 0 (ms F A J) = g_X11_declared n 0 (ms F A J) := by
      rcases a2 with z | z
      · rw [hT, if_neg (by omega), if_neg (by omega), if_pos z.1]
      · rw [hT, if_neg (by omega), if_neg (by omega), if_neg (by omega), if_pos z.1]
    exact tk_out (s_decl hn G L R C Fr Ti w1 a1 a2 a3 a4 a5 a6 a7 a8) (fun v => by rw [hC v, if_neg (by omega), if_neg (by omega), if_pos a1]) (by rw [hR, hT2])
  · rw [if_neg (by omega), if_neg (by omega), if_neg (by omega), if_neg (by omega), if_pos a2] at hT
    exact tk_out (s_dist hn G L R C Fr Ti w1 a1 a2 a3 a4 a5 a6 a7 a8 a9) (fun v => by rw [hC v, if_neg (by omega), if_neg (by omega), if_neg (by omega), if_pos a1]) (by rw [hR, hT])
  · have hT2 : g_X11_token n 0 (ms F A J) = if F 34 = 5 then g_X11_typed n 0 (ms F A J) else g_X11_formula n 0 (ms F A J) := by
      rcases a11 with z | z
      · rw [hT, if_neg (by omega), if_neg (by omega), if_neg (by omega), if_neg (by omega), if_neg (by omega), if_pos z.2.1, if_pos z.2.1]
      · rw [hT, if_neg (by omega), if_neg (by omega), if_neg (by omega), if_neg (by omega), if_neg (by omega), if_neg (by omega), if_pos z.2.2.1, if_neg (by omega)]
    by_cases w0 : w = 0
    · exact tk_out (s_sym hn G L R C Fr Ti w0 a1 a2 a3 a4 a5 a6 a7 a8 a9 a10 a11 a12 a13 a14) (fun v => by rw [hC v, if_neg (by omega), if_neg (by omega), if_neg (by omega), if_neg (by omega), if_pos a1, if_pos w0]) (by rw [hR, hT2])
    · exact tk_out (s_stend hn G L R C Fr Ti w0 w1 a1 a2 a3 a4 a5 a6 a7 a8 a9 a10 a11 a12 a13 a14) (fun v => by rw [hC v, if_neg (by omega), if_neg (by omega), if_neg (by omega), if_neg (by omega), if_pos a1, if_neg w0]) (by rw [hR, hT2])
  · rw [if_neg (by omega), if_neg (by omega), if_neg (by omega), if_neg (by omega), if_neg (by omega), if_neg (by omega), if_neg (by omega)] at hT
    have hX : ∀ v : Int32, tokC n v (cs f d a ni j) = (g_X4_takeProofToken n 65 (qz w) (cs f d a ni j)).bind fun x => g_X4_readBook_197 n 65 x.1 v x.2 := fun v => by rw [hC v, if_neg (by omega), if_neg (by omega), if_neg (by omega), if_neg (by omega), if_neg (by omega)]
    by_cases w0 : w = 0
    · exact tk_out (s_ptok hn G L R C Fr Ti w0 a1 a2 a3 a4 a5 a6 a7 a8 a9 a10 a11 a12 a13 a14 a15 a16 a17 a18) hX (by rw [hR, hT])
    · exact tk_out (s_pend hn G L R C Fr Ti w0 w1 a1 a2 a3 a4 a5 a6 a7 a8 a9 a10 a11 a12 a13 a14 a15 a16 a17 a18) hX (by rw [hR, hT])
end TKN
