/-! The reference's way to the next token outside comments -/
theorem lp_st {S X : Type} {b : S → Option (S ⊕ X)} {c c2 : S} {m : Nat} (h : b c = some (.inl c2)) : hp_lp b (m + 1) c = hp_lp b m c2 := by
  rw [hp_lp, h]
  rfl
def fT (f : Nat → Int) (b e : Int) : Nat → Int := u1 (u1 (u1 f 29 b) 30 (e - b)) 31 e
theorem fT_n {f : Nat → Int} {b e : Int} : u1 (u1 (u1 (u1 f 31 b) 29 b) 31 e) 30 (e - b) = fT f b e := by
  funext x
  by_cases h1 : x = 29 <;> by_cases h2 : x = 30 <;> by_cases h3 : x = 31 <;> simp [fT, u1, h1, h2, h3]
theorem fT_f {f : Nat → Int} {b e b2 e2 : Int} : fT (fT f b e) b2 e2 = fT f b2 e2 := by
  funext x
  by_cases h1 : x = 29 <;> by_cases h2 : x = 30 <;> by_cases h3 : x = 31 <;> simp [fT, u1, h1, h2, h3]
theorem fT_o {f : Nat → Int} {b e : Int} {x : Nat} (h1 : x ≠ 29) (h2 : x ≠ 30) (h3 : x ≠ 31) : fT f b e x = f x := by simp [fT, u1, h1, h2, h3]
theorem fT_29 {f : Nat → Int} {b e : Int} : fT f b e 29 = b := by simp [fT, u1]
theorem fT_30 {f : Nat → Int} {b e : Int} : fT f b e 30 = e - b := by simp [fT, u1]
theorem fT_31 {f : Nat → Int} {b e : Int} : fT f b e 31 = e := by simp [fT, u1]
theorem tok_fT {f : Nat → Int} {b e : Int} (h0 : 0 ≤ b) (h1 : b < e) (h2 : e ≤ 8192) : tok (fT f b e) b e := ⟨h0, h1, h2, fT_29, fT_30⟩
/-- what the reference does with a token outside comments -/
def tokR (n : Nat) (s : st_T) : Option ((Int32 × st_T) ⊕ ((Int32 × st_T) ⊕ (Int32 × st_T))) :=
  (g_X11_hasDollar n 0 s).bind fun x4 => if x4 = 0 then g_X11_readBook_100 n 0 (qz 0) s else (g_X11_isKeyword n 0 s).bind fun x5 => if x5 = 0 then some (.inr (.inr ((3 : Int32), s))) else g_X11_readBook_100 n 0 (qz 0) s
section MADV
variable {f : Nat → Int} {a : Nat → Int → Int} {j : Nat → Int → Int64} {n : Nat} {sz : Int}
theorem m_adv (hn : 100000 ≤ n) (hs : f 1 = sz) (ht : txt (a 1) sz) : ∀ (k : Nat) (c : Int) (q : Prop) (o b e : Int) (m : Nat) (g : Nat → Int), scn (a 1) sz k c q o b e → 0 ≤ c → c ≤ sz → k ≤ m → g 1 = sz → g 31 = c → (o = -1 ∧ ∃ m2 c2, m ≤ m2 + k ∧ hp_lp (gL_X11_readBook_6 n 0) m (qp q, ms g a j) = hp_lp (gL_X11_readBook_6 n 0) (m2 + 1) c2 ∧ gL_X11_readBook_6 n 0 c2 = tokR n (ms (fT g b e) a j)) ∨ ((o = 0 ∨ o = 2) ∧ hp_lp (gL_X11_readBook_6 n 0) m (qp q, ms g a j) = some (.inl (qp (o = 2), ms (fT g b e) a j))) ∨ ((o = 1 ∨ o = 3) ∧ hp_lp (gL_X11_readBook_6 n 0) m (qp q, ms g a j) = some (.inr (qz o, ms (fT g b e) a j))) := by
  intro k
  induction k with
  | zero => intro c q o b e m g h; exact h.elim
  | succ k ih =>
    intro c q o b e m g hs h0 h1 hm hg hc
    obtain ⟨m, rfl⟩ : ∃ x, m = x + 1 := ⟨m - 1, by omega⟩
    obtain ⟨b', e', htk, hs⟩ := hs
    have hl := tk_lt htk
    have ⟨t1, t2, t3, t4, t5, t6, t7⟩ := htk
    have ⟨z1, z2, z3⟩ := ht
    have en := m_next (j := j) (n := n) (f := g) (by omega) hg ht hc h0 htk
    rw [fT_n] at en
    have n10 : ¬(qz 1 = qz 0) := by rw [qz_1_0]; exact not_false
    by_cases hb : b' = sz
    · have body : gL_X11_readBook_6 n 0 (qp q, ms g a j) = some (.inr (.inl (qp q, ms (fT g b' e') a j))) := by
        unfold gL_X11_readBook_6 g_X11_readBook_6
        rw [en, bd_some]
        simp only [qz_lit]
        rw [qp_F (by omega), if_pos rfl]
      rcases hs with ⟨h2, rfl, rfl, h3⟩ | ⟨h2, _⟩ | ⟨h2, _⟩ | ⟨h2, _⟩ | ⟨h2, _⟩ | ⟨h2, _⟩ | ⟨h2, _⟩
      · refine Or.inr (Or.inl ⟨by omega, ?_⟩)
        rw [hp_lp_x body]
        rcases h3 with ⟨h4, rfl⟩ | ⟨h4, rfl⟩
        · rw [qp_T h4, qp_T rfl]
        · rw [qp_F h4, qp_F (by decide)]
      all_goals omega
    have hb' : b' < sz := by omega
    have hbe := hl hb'
    have tc : tok (fT g b' e') b' e' := tok_fT (by omega) hbe (by omega)
    have ew := m_hasBad (j := j) (n := n) (by omega) ht tc t3
    have ed1 := m_isWord (j := j) (n := n) (c := 40) ht tc t3 (by omega)
    have ed2 := m_isWord (j := j) (n := n) (c := 41) ht tc t3 (by omega)
    have ep1 := m_hasPart (j := j) (n := n) (c := 40) (by omega) ht tc t3 (by omega)
    have ep2 := m_hasPart (j := j) (n := n) (c := 41) (by omega) ht tc t3 (by omega)
    have e1 : gL_X11_readBook_6 n 0 (qp q, ms g a j) = if qp (bad (a 1) b' e') = qz 0 then (if qp q = qz 0 then (if qp (isw (a 1) b' e' 40) = qz 0 then (g_X11_hasDollar n 0 (ms (fT g b' e') a j)).bind fun x4 => if x4 = 0 then g_X11_readBook_100 n 0 (qp q) (ms (fT g b' e') a j) else (g_X11_isKeyword n 0 (ms (fT g b' e') a j)).bind fun x5 => if x5 = 0 then some (.inr (.inr ((3 : Int32), (ms (fT g b' e') a j)))) else g_X11_readBook_100 n 0 (qp q) (ms (fT g b' e') a j) else some (.inl (qz 1, ms (fT g b' e') a j))) else (if qp (isw (a 1) b' e' 41) = qz 0 then (if qp (prt (a 1) b' e' 40) = qz 0 then (if qp (prt (a 1) b' e' 41) = qz 0 then g_X11_readBook_57 n 0 (qp (isw (a 1) b' e' 41)) (ms (fT g b' e') a j) else some (.inr (.inr (qz 3, ms (fT g b' e') a j)))) else some (.inr (.inr (qz 3, ms (fT g b' e') a j)))) else g_X11_readBook_57 n 0 (qp (isw (a 1) b' e' 41)) (ms (fT g b' e') a j))) else some (.inr (.inr (qz 1, ms (fT g b' e') a j))) := by
      unfold gL_X11_readBook_6 g_X11_readBook_6
      rw [en, bd_some]
      simp only [qz_lit]
      rw [qp_T hb', if_neg n10, ew, bd_some, ed1, bd_some, ed2, bd_some, ep1, bd_some, ep2, bd_some]
    have go : ∀ q2 : Prop, scn (a 1) sz k e' q2 o b e → gL_X11_readBook_6 n 0 (qp q, ms g a j) = some (.inl (qp q2, ms (fT g b' e') a j)) → (o = -1 ∧ ∃ m2 c2, m + 1 ≤ m2 + (k + 1) ∧ hp_lp (gL_X11_readBook_6 n 0) (m + 1) (qp q, ms g a j) = hp_lp (gL_X11_readBook_6 n 0) (m2 + 1) c2 ∧ gL_X11_readBook_6 n 0 c2 = tokR n (ms (fT g b e) a j)) ∨ ((o = 0 ∨ o = 2) ∧ hp_lp (gL_X11_readBook_6 n 0) (m + 1) (qp q, ms g a j) = some (.inl (qp (o = 2), ms (fT g b e) a j))) ∨ ((o = 1 ∨ o = 3) ∧ hp_lp (gL_X11_readBook_6 n 0) (m + 1) (qp q, ms g a j) = some (.inr (qz o, ms (fT g b e) a j))) := by
      intro q2 g1 g2
      rw [lp_st g2]
      have := ih e' q2 o b e m (fT g b' e') g1 (by omega) t3 (by omega) (by rw [fT_o (by decide) (by decide) (by decide)]; exact hg) fT_31
      rw [fT_f] at this
      rcases this with ⟨h, m2, c2, h2, h3⟩ | h | h
      · exact Or.inl ⟨h, m2, c2, by omega, h3⟩
      · exact Or.inr (Or.inl h)
      · exact Or.inr (Or.inr h)
    rcases hs with ⟨h2, _⟩ | ⟨h2, h3, rfl, rfl, rfl⟩ | ⟨h2, h3, h4, h5, rfl, rfl, rfl⟩ | ⟨h2, h3, h4, h5, h6, rfl, rfl, rfl⟩ | ⟨h2, h3, h4, h5, h6⟩ | ⟨h2, h3, h4, h5, h6⟩ | ⟨h2, h3, h4, h5, h6, h7⟩
    · omega
    · rw [qp_T h3, if_neg n10] at e1
      exact Or.inr (Or.inr ⟨Or.inl rfl, hp_lp_x e1⟩)
    · rw [qp_F h3, if_pos rfl, qp_F h4, if_pos rfl, qp_F h5, if_pos rfl, ← qp_F h4] at e1
      refine Or.inl ⟨rfl, m, (qp q, ms g a j), by omega, rfl, ?_⟩
      rw [e1, qp_F h4]; rfl
    · rw [qp_F h3, if_pos rfl, qp_T h4, if_neg n10, qp_F h5, if_pos rfl, ← qp_T h4] at e1
      refine Or.inr (Or.inr ⟨Or.inr rfl, hp_lp_x ?_⟩)
      rw [e1]
      by_cases h7 : prt (a 1) b e 40
      · rw [qp_T h7, if_neg n10]
      · rw [qp_F h7, if_pos rfl]
        rcases h6 with h6 | h6
        · exact absurd h6 h7
        · rw [qp_T h6, if_neg n10]
    · refine go True h6 ?_
      rw [qp_F h3, if_pos rfl, qp_F h4, if_pos rfl, qp_T h5, if_neg n10, ← qp_F h4] at e1
      rw [e1, qpT]
    · refine go False h6 ?_
      rw [qp_F h3, if_pos rfl, qp_T h4, if_neg n10, qp_T h5, if_neg n10, ← qp_T h4] at e1
      rw [e1, qpF]
      unfold g_X11_readBook_57 g_X11_readBook_66
      simp only [qz_lit]
      rw [qp_T h4, if_neg n10]
    · refine go True h7 ?_
      have h8 : ¬prt (a 1) b' e' 40 := fun z => h6 (Or.inl z)
      have h9 : ¬prt (a 1) b' e' 41 := fun z => h6 (Or.inr z)
      rw [qp_F h3, if_pos rfl, qp_T h4, if_neg n10, qp_F h5, if_pos rfl, qp_F h8, if_pos rfl, qp_F h9, if_pos rfl, ← qp_T h4] at e1
      rw [e1, qpT]
      unfold g_X11_readBook_57 g_X11_readBook_66
      simp only [qz_lit]
      rw [if_pos trivial]
end MADV
