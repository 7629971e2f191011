/-! To the next token outside comments: class and reference -/
/-- from c on, in a comment or not: o = -1 a token, else the fault (0: the text's end) -/
def scn (t : Int → Int) (sz : Int) : Nat → Int → Prop → Int → Int → Int → Prop
  | 0, _, _, _, _, _ => False
  | k + 1, c, q, o, b, e => ∃ b' e', tk t sz c b' e' ∧ ((b' = sz ∧ b = b' ∧ e = e' ∧ ((q ∧ o = 2) ∨ (¬q ∧ o = 0))) ∨ (b' < sz ∧ bad t b' e' ∧ b = b' ∧ e = e' ∧ o = 1) ∨ (b' < sz ∧ ¬bad t b' e' ∧ ¬q ∧ ¬isw t b' e' 40 ∧ b = b' ∧ e = e' ∧ o = -1) ∨ (b' < sz ∧ ¬bad t b' e' ∧ q ∧ ¬isw t b' e' 41 ∧ (prt t b' e' 40 ∨ prt t b' e' 41) ∧ b = b' ∧ e = e' ∧ o = 3) ∨ (b' < sz ∧ ¬bad t b' e' ∧ ¬q ∧ isw t b' e' 40 ∧ scn t sz k e' True o b e) ∨ (b' < sz ∧ ¬bad t b' e' ∧ q ∧ isw t b' e' 41 ∧ scn t sz k e' False o b e) ∨ (b' < sz ∧ ¬bad t b' e' ∧ q ∧ ¬isw t b' e' 41 ∧ ¬(prt t b' e' 40 ∨ prt t b' e' 41) ∧ scn t sz k e' True o b e))
theorem scn_ex (t : Int → Int) (sz : Int) : ∀ (k : Nat) (c : Int) (q : Prop), c ≤ sz → sz - c < k → ∃ o b e, scn t sz k c q o b e := by
  intro k
  induction k with
  | zero => intro c q h1 h2; omega
  | succ k ih =>
    intro c q h1 h2
    obtain ⟨b, e, ht⟩ := tk_ex t sz c h1
    have hl := tk_lt ht
    have ⟨t1, t2, t3, _⟩ := ht
    by_cases q1 : b = sz
    · by_cases q2 : q
      · exact ⟨2, b, e, b, e, ht, Or.inl ⟨q1, rfl, rfl, Or.inl ⟨q2, rfl⟩⟩⟩
      · exact ⟨0, b, e, b, e, ht, Or.inl ⟨q1, rfl, rfl, Or.inr ⟨q2, rfl⟩⟩⟩
    have q1' : b < sz := by omega
    have := hl q1'
    by_cases q2 : bad t b e
    · exact ⟨1, b, e, b, e, ht, Or.inr (Or.inl ⟨q1', q2, rfl, rfl, rfl⟩)⟩
    by_cases q3 : q
    · by_cases q4 : isw t b e 41
      · obtain ⟨o, b2, e2, h⟩ := ih e False (by omega) (by omega)
        exact ⟨o, b2, e2, b, e, ht, Or.inr (Or.inr (Or.inr (Or.inr (Or.inr (Or.inl ⟨q1', q2, q3, q4, h⟩)))))⟩
      · by_cases q5 : prt t b e 40 ∨ prt t b e 41
        · exact ⟨3, b, e, b, e, ht, Or.inr (Or.inr (Or.inr (Or.inl ⟨q1', q2, q3, q4, q5, rfl, rfl, rfl⟩)))⟩
        · obtain ⟨o, b2, e2, h⟩ := ih e True (by omega) (by omega)
          exact ⟨o, b2, e2, b, e, ht, Or.inr (Or.inr (Or.inr (Or.inr (Or.inr (Or.inr ⟨q1', q2, q3, q4, q5, h⟩)))))⟩
    · by_cases q4 : isw t b e 40
      · obtain ⟨o, b2, e2, h⟩ := ih e True (by omega) (by omega)
        exact ⟨o, b2, e2, b, e, ht, Or.inr (Or.inr (Or.inr (Or.inr (Or.inl ⟨q1', q2, q3, q4, h⟩))))⟩
      · exact ⟨-1, b, e, b, e, ht, Or.inr (Or.inr (Or.inl ⟨q1', q2, q3, q4, rfl, rfl, rfl⟩))⟩
/-- a token's end: where the next one can't begin at once -/
def tke (t : Int → Int) (sz c : Int) : Prop := c = 0 ∨ c = sz ∨ blk (t c)
theorem tk_two {t : Int → Int} {sz c b e : Int} (h : tk t sz c b e) (hc : tke t sz c) (hb : b < sz) : b < e ∧ (c ≠ 0 → c + 2 ≤ e) ∧ tke t sz e := by
  have hl := tk_lt h hb
  obtain ⟨t1, t2, t3, t4, t5, t6, t7⟩ := h
  refine ⟨hl, fun h0 => ?_, ?_⟩
  · rcases hc with z | z | z
    · exact absurd z h0
    · omega
    · have : b ≠ c := fun z2 => t5 hb (z2 ▸ z)
      omega
  · by_cases q : e = sz
    · exact Or.inr (Or.inl q)
    · exact Or.inr (Or.inr (t7 (by omega)))
theorem scn_tok {t : Int → Int} {sz : Int} : ∀ {k : Nat} {c : Int} {q : Prop} {o b e : Int}, scn t sz k c q o b e → 0 ≤ c → c ≤ sz → c ≤ b ∧ b ≤ e ∧ e ≤ sz ∧ (o ≠ 0 ∧ o ≠ 2 → b < e ∧ ∃ c', c ≤ c' ∧ tk t sz c' b e) ∧ (o = -1 → ¬bad t b e ∧ ¬isw t b e 40) ∧ (o = 0 ∨ o = 2 → b = sz) ∧ (o = -1 ∨ o = 0 ∨ o = 1 ∨ o = 2 ∨ o = 3) := by
  intro k
  induction k with
  | zero => intro c q o b e h; exact h.elim
  | succ k ih =>
    intro c q o b e h h0 h1
    obtain ⟨b', e', ht, h⟩ := h
    have hl := tk_lt ht
    have ⟨t1, t2, t3, _⟩ := ht
    rcases h with ⟨h2, rfl, rfl, h3⟩ | ⟨h2, h3, rfl, rfl, rfl⟩ | ⟨h2, h3, h4, h5, rfl, rfl, rfl⟩ | ⟨h2, h3, h4, h5, h6, rfl, rfl, rfl⟩ | ⟨h2, h3, h4, h5, h6⟩ | ⟨h2, h3, h4, h5, h6⟩ | ⟨h2, h3, h4, h5, h6, h7⟩
    · refine ⟨t1, t2, t3, fun z => by omega, fun z => by omega, fun _ => h2, by omega⟩
    · exact ⟨t1, t2, t3, fun _ => ⟨hl h2, c, by omega, ht⟩, fun z => by omega, fun z => by omega, by omega⟩
    · exact ⟨t1, t2, t3, fun _ => ⟨hl h2, c, by omega, ht⟩, fun _ => ⟨h3, h5⟩, fun z => by omega, by omega⟩
    · exact ⟨t1, t2, t3, fun _ => ⟨hl h2, c, by omega, ht⟩, fun z => by omega, fun z => by omega, by omega⟩
    · obtain ⟨g1, g2, g3, g4, g5, g6, g7⟩ := ih h6 (by omega) (by omega)
      exact ⟨by omega, g2, g3, fun z => ⟨(g4 z).1, by obtain ⟨c', z1, z2⟩ := (g4 z).2; exact ⟨c', by omega, z2⟩⟩, g5, g6, g7⟩
    · obtain ⟨g1, g2, g3, g4, g5, g6, g7⟩ := ih h6 (by omega) (by omega)
      exact ⟨by omega, g2, g3, fun z => ⟨(g4 z).1, by obtain ⟨c', z1, z2⟩ := (g4 z).2; exact ⟨c', by omega, z2⟩⟩, g5, g6, g7⟩
    · obtain ⟨g1, g2, g3, g4, g5, g6, g7⟩ := ih h7 (by omega) (by omega)
      exact ⟨by omega, g2, g3, fun z => ⟨(g4 z).1, by obtain ⟨c', z1, z2⟩ := (g4 z).2; exact ⟨c', by omega, z2⟩⟩, g5, g6, g7⟩
section ADV
variable {f : Nat → Nat → Int} {d : Nat → Nat} {a : Nat → Int → Int} {ni : Nat → Nat} {j : Nat → Int → Int64} {n p : Nat} {sz : Int}
/-- what the class's loop over comments ends with -/
noncomputable def advX (f : Nat → Nat → Int) (d : Nat → Nat) (a : Nat → Int → Int) (ni : Nat → Nat) (j : Nat → Int → Int64) (o b e : Int) : (Int32 × st_T) ⊕ ((st_T) ⊕ ((st_T) ⊕ (Int32 × st_T))) :=
  let s := cs (u2 (u2 f 77 0 b) 77 1 e) d a ni j
  if o = 0 then .inl (qz 0, s) else if o = 2 then .inl (qz 1, s) else if o = 1 then .inr (.inl s) else if o = 3 then .inr (.inr (.inl s)) else .inr (.inr (.inr (qz 1, s)))
theorem scd_u {b e : Int} (h : scd f d a p sz) : scd (u2 (u2 f 77 0 b) 77 1 e) d a p sz := by
  obtain ⟨s1, s2, s3, s4⟩ := h
  exact ⟨s1, s2, by rw [u2_c (by decide), u2_c (by decide)]; exact s3, s4⟩
theorem tkc_u {b e : Int} (h0 : 0 ≤ b) (h1 : b < e) (h2 : e ≤ sz) : tkc (u2 (u2 f 77 0 b) 77 1 e) b e sz := ⟨by rw [u2_c (by decide), u2_a], by rw [u2_a], h0, h1, h2⟩
theorem c_advL (hn : 100000 ≤ n) (h : scd f d a p sz) : ∀ (k : Nat) (c : Int) (q : Prop) (o b e i b0 : Int) (m : Nat), scn (a p) sz k c q o b e → 0 ≤ c → c ≤ sz → 0 ≤ i → 2 * i ≤ c + 1 → (i = 0 ∨ (c = sz ∨ blk (a p c))) → k ≤ m → hp_lp (gL_X6_advance_4 n 77) m (qp q, qz i, cs (u2 (u2 f 77 0 b0) 77 1 c) d a ni j) = some (advX f d a ni j o b e) := by
  intro k
  induction k with
  | zero => intro c q o b e i b0 m h; exact h.elim
  | succ k ih =>
    intro c q o b e i b0 m hs h0 h1 hi hi2 hi3 hm
    obtain ⟨m, rfl⟩ : ∃ x, m = x + 1 := ⟨m - 1, by omega⟩
    obtain ⟨b', e', ht, hs⟩ := hs
    have hl := tk_lt ht
    have ⟨t1, t2, t3, t4, t5, t6, t7⟩ := ht
    have ⟨s1, s2, s3, s4, s5, s6⟩ := h
    have ec := c_cut (f := u2 (u2 f 77 0 b0) 77 1 c) (ni := ni) (j := j) (b := b') (e := e') hn (scd_u h) (by rw [u2_a]; exact h0) (by rw [u2_a]; exact ht)
    have ef : u2 (u2 (u2 (u2 f 77 0 b0) 77 1 c) 77 0 b') 77 1 e' = u2 (u2 f 77 0 b') 77 1 e' := by
      funext x y
      by_cases z : x = 77 <;> by_cases z1 : y = 0 <;> by_cases z2 : y = 1 <;> simp [u2, z, z1, z2]
    rw [ef] at ec
    have e77 : u2 (u2 f 77 0 b') 77 1 e' 77 0 = b' := by rw [u2_c (by decide), u2_a]
    have e74 : u2 (u2 f 77 0 b') 77 1 e' 77 4 = sz := by rw [u2_c (by decide), u2_c (by decide)]; exact s3
    have start : ∀ X, (if qz b' = qz sz then some (.inr (.inl (qp q, cs (u2 (u2 f 77 0 b') 77 1 e') d a ni j))) else X) = g_X6_advance_4 n 77 (qp q) (qz i) (cs (u2 (u2 f 77 0 b0) 77 1 c) d a ni j) → hp_lp (gL_X6_advance_4 n 77) (m + 1) (qp q, qz i, cs (u2 (u2 f 77 0 b0) 77 1 c) d a ni j) = hp_lp (gL_X6_advance_4 n 77) (m + 1) (qp q, qz i, cs (u2 (u2 f 77 0 b0) 77 1 c) d a ni j) := fun _ _ => rfl
    clear start
    have e0 : gL_X6_advance_4 n 77 (qp q, qz i, cs (u2 (u2 f 77 0 b0) 77 1 c) d a ni j) = g_X6_advance_4 n 77 (qp q) (qz i) (cs (u2 (u2 f 77 0 b0) 77 1 c) d a ni j) := rfl
    have hi4 : ¬(4096 : Int) < i := by omega
    by_cases hb : b' = sz
    · have body : gL_X6_advance_4 n 77 (qp q, qz i, cs (u2 (u2 f 77 0 b0) 77 1 c) d a ni j) = some (.inr (.inl (qp q, cs (u2 (u2 f 77 0 b') 77 1 e') d a ni j))) := by
        rw [e0]
        unfold g_X6_advance_4
        simp only [qz_lit]
        rw [if_neg (by rw [qz_lt (by omega) (by omega) (by omega) (by omega)]; exact hi4), ec, bd_some, gf_cs, gf_cs, e77, e74, hb, if_pos rfl]
      rw [hp_lp_x body]
      rcases hs with ⟨h2, rfl, rfl, h3⟩ | ⟨h2, _⟩ | ⟨h2, _⟩ | ⟨h2, _⟩ | ⟨h2, _⟩ | ⟨h2, _⟩ | ⟨h2, _⟩
      · rcases h3 with ⟨h4, rfl⟩ | ⟨h4, rfl⟩
        · rw [qp_T h4]; rfl
        · rw [qp_F h4]; rfl
      all_goals omega
    have hb' : b' < sz := by omega
    have hbe := hl hb'
    have tc : tkc (u2 (u2 f 77 0 b') 77 1 e') b' e' sz := tkc_u (by omega) hbe t3
    have ew := c_wrong (ni := ni) (j := j) hn (scd_u (b := b') (e := e') h) tc
    have ed1 := c_dollar (n := n) (ni := ni) (j := j) (c := 40) (scd_u (b := b') (e := e') h) tc (by omega)
    have ed2 := c_dollar (n := n) (ni := ni) (j := j) (c := 41) (scd_u (b := b') (e := e') h) tc (by omega)
    have em := c_mark (ni := ni) (j := j) hn (scd_u (b := b') (e := e') h) tc
    have e1 : gL_X6_advance_4 n 77 (qp q, qz i, cs (u2 (u2 f 77 0 b0) 77 1 c) d a ni j) = if qp (bad (a p) b' e') = qz 0 then (if qp q = qz 0 then (if qp (isw (a p) b' e' 40) = qz 0 then some (.inr (.inr (.inr (.inr (qz 1, cs (u2 (u2 f 77 0 b') 77 1 e') d a ni j))))) else g_X6_advance_70 n 77 (qp q) (qz i) (cs (u2 (u2 f 77 0 b') 77 1 e') d a ni j)) else g_X6_advance_70 n 77 (qp q) (qz i) (cs (u2 (u2 f 77 0 b') 77 1 e') d a ni j)) else some (.inr (.inr (.inl (cs (u2 (u2 f 77 0 b') 77 1 e') d a ni j)))) := by
      rw [e0]
      unfold g_X6_advance_4
      simp only [qz_lit]
      rw [if_neg (by rw [qz_lt (by omega) (by omega) (by omega) (by omega)]; exact hi4), ec, bd_some, gf_cs, gf_cs, e77, e74, if_neg (by rw [qz_inj (by omega) (by omega) (by omega) (by omega)]; exact hb), ew, bd_some, ed1, bd_some]
    have hnext : 2 * (i + 1) ≤ e' + 1 ∧ (i + 1 = 0 ∨ (e' = sz ∨ blk (a p e'))) := by
      refine ⟨?_, Or.inr ?_⟩
      · rcases hi3 with z | z | z
        · omega
        · omega
        · have : b' ≠ c := fun z2 => t5 hb' (z2 ▸ z)
          omega
      · by_cases z : e' = sz
        · exact Or.inl z
        · exact Or.inr (t7 (by omega))
    have go : ∀ q2 : Prop, scn (a p) sz k e' q2 o b e → gL_X6_advance_4 n 77 (qp q, qz i, cs (u2 (u2 f 77 0 b0) 77 1 c) d a ni j) = some (.inl (qp q2, qz (i + 1), cs (u2 (u2 f 77 0 b') 77 1 e') d a ni j)) → hp_lp (gL_X6_advance_4 n 77) (m + 1) (qp q, qz i, cs (u2 (u2 f 77 0 b0) 77 1 c) d a ni j) = some (advX f d a ni j o b e) := by
      intro q2 g1 g2
      exact hp_lp_s g2 (ih e' q2 o b e (i + 1) b' m g1 (by omega) t3 (by omega) hnext.1 hnext.2 (by omega))
    rcases hs with ⟨h2, _⟩ | ⟨h2, h3, rfl, rfl, rfl⟩ | ⟨h2, h3, h4, h5, rfl, rfl, rfl⟩ | ⟨h2, h3, h4, h5, h6, rfl, rfl, rfl⟩ | ⟨h2, h3, h4, h5, h6⟩ | ⟨h2, h3, h4, h5, h6⟩ | ⟨h2, h3, h4, h5, h6, h7⟩
    · omega
    · rw [qp_T h3, if_neg (by rw [qz_1_0]; exact not_false)] at e1
      rw [hp_lp_x e1]; rfl
    · rw [qp_F h3, if_pos rfl, qp_F h4, if_pos rfl, qp_F h5, if_pos rfl, ← qp_F h4] at e1
      rw [hp_lp_x e1]; rfl
    · rw [qp_F h3, if_pos rfl, qp_T h4, if_neg (by rw [qz_1_0]; exact not_false), ← qp_T h4] at e1
      unfold g_X6_advance_70 at e1
      simp only [qz_lit] at e1
      rw [qp_T h4, if_neg (by rw [qz_1_0]; exact not_false), ed2, bd_some, qp_F h5, if_pos rfl, em, bd_some, qp_T h6, if_neg (by rw [qz_1_0]; exact not_false), ← qp_T h4] at e1
      rw [hp_lp_x e1]; rfl
    · refine go True h6 ?_
      rw [qp_F h3, if_pos rfl, qp_F h4, if_pos rfl, qp_T h5, if_neg (by rw [qz_1_0]; exact not_false), ← qp_F h4] at e1
      unfold g_X6_advance_70 g_X6_advance_97 g_X6_advance_110 g_X6_advance_115 at e1
      simp only [qz_lit] at e1
      rw [qp_F h4, if_pos rfl, if_pos rfl, ← qp_F h4] at e1
      rw [e1, qpT, qz_add]
    · refine go False h6 ?_
      rw [qp_F h3, if_pos rfl, qp_T h4, if_neg (by rw [qz_1_0]; exact not_false), ← qp_T h4] at e1
      unfold g_X6_advance_70 g_X6_advance_97 g_X6_advance_110 g_X6_advance_115 at e1
      simp only [qz_lit] at e1
      rw [qp_T h4, if_neg (by rw [qz_1_0]; exact not_false), ed2, bd_some, qp_T h5, if_neg (by rw [qz_1_0]; exact not_false), if_neg (by rw [qz_1_0]; exact not_false), bd_some, if_neg (by rw [qz_1_0]; exact not_false), ← qp_T h4] at e1
      rw [e1, qpF, qp_T h4, qz_add]
    · refine go True h7 ?_
      rw [qp_F h3, if_pos rfl, qp_T h4, if_neg (by rw [qz_1_0]; exact not_false), ← qp_T h4] at e1
      unfold g_X6_advance_70 g_X6_advance_97 g_X6_advance_110 g_X6_advance_115 at e1
      simp only [qz_lit] at e1
      rw [qp_T h4, if_neg (by rw [qz_1_0]; exact not_false), ed2, bd_some, qp_F h5, if_pos rfl, em, bd_some, qp_F h6, if_pos rfl, if_neg (by rw [qz_1_0]; exact not_false), bd_some, if_pos rfl, ← qp_T h4] at e1
      rw [e1, qpT, qp_T h4, qz_add]
/-- advance() -/
theorem c_adv {k : Nat} {o b e : Int} (hn : 100000 ≤ n) (h : scd f d a p sz) (hs : scn (a p) sz k (f 77 1) False o b e) (h0 : 0 ≤ f 77 1) (h1 : f 77 1 ≤ sz) (hk : k ≤ n) : g_X6_advance n 77 (cs f d a ni j) = some (qp (o = -1), cs (if o = -1 then u2 (u2 f 77 0 b) 77 1 e else u2 (u2 (u2 f 77 0 b) 77 1 e) 77 2 o) d a ni j) := by
  have e1 := c_advL (ni := ni) (j := j) hn h k (f 77 1) False o b e 0 (f 77 0) n hs h0 h1 (by omega) (by omega) (Or.inl rfl) hk
  rw [u2_id (f := f) rfl, u2_id (f := f) rfl, qpF] at e1
  obtain ⟨_, _, _, _, _, _, ho⟩ := scn_tok hs h0 h1
  unfold g_X6_advance g_X6_advance_0 g_X6_advance_36
  simp only [qz_lit]
  rw [e1, bd_some]
  rcases ho with rfl | rfl | rfl | rfl | rfl
  · rw [qp_T rfl]; rfl
  · rw [qp_F (by decide), if_neg (by decide)]
    simp [advX, wf_cs]
  · rw [qp_F (by decide), if_neg (by decide)]
    simp [advX, wf_cs]
  · rw [qp_F (by decide), if_neg (by decide)]
    simp [advX, wf_cs, qz_1_0]
  · rw [qp_F (by decide), if_neg (by decide)]
    simp [advX, wf_cs]
end ADV
