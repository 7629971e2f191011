/-! Steps that are alike: the reference, the search -/
section CMQ
variable {n : Nat} {N c k s : Int} {nd nm nu can cn lo : Int → Int} {ch : Int → Int → Int} {WO : Int → List Int} {F : Nat → Int} {A : Nat → Int → Int} {J : Nat → Int → Int64}
/-- what a step is alike -/
def alk (nm nu can : Int → Int) (x : Int) : Int := if 0 ≤ nm x then can (nu x) else x
theorem v2_id {g : Nat → Int → Int} {i : Nat} {y x : Int} (h : g i y = x) : v2 g i y x = g := by
  rw [v2_u1]
  exact u1_id (v1_id h).symm
theorem m_alike (hn : 100000 ≤ n) (D : NDS N c nd nm ch nu can cn) (T : RPN N nd ch lo) (M : MST N k nd nm ch A) (hk : k ≤ 200) (U : ∀ y1 y2, 0 ≤ y1 → y1 < c → 0 ≤ y2 → y2 < c → nm (can y1) = nm (can y2) → (∀ t, 0 ≤ t → t < nd (can y1) → nu (ch (can y1) t) = nu (ch (can y2) t)) → y1 = y2) (hz : ∀ x y, 0 ≤ nm x → nm x = nm y → nd x = nd y) (hA : ∀ x, 0 ≤ x → x < N → 0 ≤ A 47 x ∧ A 47 x ≤ x ∧ 0 ≤ nm (A 47 x) ∧ nu (A 47 x) = nu x) (hN : N ≤ 1000) (s0 : 0 ≤ s) (s1 : s < N) (h1 : A 50 s = s) (hs : ∀ x, 0 ≤ x → x < s → A 50 x = alk nm nu can x) : hp_lp (gL_X11_compare_90 n 0 (qz s)) n (qz 0, ms F A J) = some (ms F (v2 A 50 s (alk nm nu can s)) J) := by
  obtain ⟨p1, p2, p3, p4, p5, p6, p7⟩ := T s s0 s1
  obtain ⟨m1, m2, m3, m4, m5, m6⟩ := M s s0 s1
  obtain ⟨n1, n2, n3⟩ := nds_nu D s0 s1
  obtain ⟨c1, c2, c3, c4, c5, c6⟩ := nds_can D (by omega) n1 n3
  have hcs : can (nu s) ≤ s := by
    rcases (D.2.2 s s0 s1).1 with ⟨y1, y2, _⟩ | ⟨y1, y2, _⟩
    · rw [y1]; omega
    · have := nds_c D s.toNat (by omega) (nu s) y1 (by rw [show ((s.toNat : Nat) : Int) = s by omega]; exact y2)
      omega
  -- whether o is alike s
  have body : ∀ o, 0 ≤ o → o < s → gL_X11_compare_90 n 0 (qz s) (qz o, ms F A J) = some (.inl (qz (o + 1), ms F (v2 A 50 s (if alk nm nu can s = o then o else s)) J)) := by
    intro o o0 o1
    obtain ⟨q1, q2, q3, q4, q5, q6⟩ := M o o0 (by omega)
    obtain ⟨g1, g2, g3⟩ := nds_nu D o0 (by omega : o < N)
    obtain ⟨d1, d2, d3, d4, d5, d6⟩ := nds_can D (by omega) g1 g3
    have e219 : ∀ P : Prop, (P ↔ alk nm nu can s = o) → g_X11_compare_219 n 0 (qz s) (qz o) (qp P) (ms F A J) = some (.inl (qz (o + 1), ms F (v2 A 50 s (if alk nm nu can s = o then o else s)) J)) := by
      intro P hP
      unfold g_X11_compare_219 g_X11_compare_238
      simp only [zl0, zl1]
      by_cases y : alk nm nu can s = o
      · rw [qp_T (hP.mpr y), if_neg n10, gp_72, ua_50 s0 (by omega), bd_some, qz_add, if_pos y]
      · rw [qp_F (fun z => y (hP.mp z)), if_pos rfl, gp_72, ga_50 s0 (by omega), h1, bd_some, ua_50 s0 (by omega), bd_some, qz_add, if_neg y]
    have e146 : ¬alk nm nu can s = o → g_X11_compare_146 n 0 (qz s) (qz o) (ms F A J) = some (.inl (qz (o + 1), ms F (v2 A 50 s (if alk nm nu can s = o then o else s)) J)) := by
      intro y
      have el : hp_lp (gL_X11_compare_151 n 0 (qz s) (qz o) (ms F A J)) n (qz 0, qz 0) = some (qz 0) := by
        rw [show n = n - 1 + 1 by omega]
        apply hp_lp_x
        unfold gL_X11_compare_151 g_X11_compare_151
        simp only [zl0]
        rw [gp_66, ga_46 s0 (by omega), bd_some, if_pos trivial, ite_self]
      unfold g_X11_compare_146 g_X11_compare_147
      simp only [zl0]
      rw [el, bd_some, ← e219 False ⟨False.elim, y⟩, qp_F (fun h => h)]
    have e0 : gL_X11_compare_90 n 0 (qz s) (qz o, ms F A J) = if 1000 ≤ A 34 o then g_X11_compare_146 n 0 (qz s) (qz o) (ms F A J) else if A 50 o = o then if A 34 o = A 34 s then g_X11_compare_147 n 0 (qz s) (qz o) (qz 1) (ms F A J) else g_X11_compare_146 n 0 (qz s) (qz o) (ms F A J) else g_X11_compare_146 n 0 (qz s) (qz o) (ms F A J) := by
      have h34o : 0 ≤ A 34 o ∧ A 34 o < 2000 := by
        rcases Int.lt_or_le (nm o) 0 with h | h
        · have := q6 h; omega
        · have := q5 h; omega
      have h34s : 0 ≤ A 34 s ∧ A 34 s < 2000 := by
        rcases Int.lt_or_le (nm s) 0 with h | h
        · have := m6 h; omega
        · have := m5 h; omega
      have h50o : 0 ≤ A 50 o ∧ A 50 o < 1000 := by
        rw [hs o o0 o1]
        unfold alk
        split <;> omega
      unfold gL_X11_compare_90 g_X11_compare_90
      simp only [zl1, zl1000]
      rw [if_neg (by rw [qz_le (by omega) (by omega) (by omega) (by omega)]; omega), gp_72, ga_50 s0 (by omega), h1, bd_some, if_pos rfl, gp_49, ga_34 o0 (by omega), bd_some, ga_50 o0 (by omega), bd_some, ga_34 s0 (by omega), bd_some, bd_some]
      simp (disch := omega) only [qz_le, qz_inj]
    rw [e0]
    by_cases y1 : 1000 ≤ A 34 o
    · rw [if_pos y1]
      apply e146
      intro y
      unfold alk at y
      rcases Int.lt_or_le (nm o) 0 with h | h
      · split at y
        · rw [← y] at h; omega
        · omega
      · have := q5 h; omega
    · rw [if_neg y1]
      have ho : 0 ≤ nm o := by
        rcases Int.lt_or_le (nm o) 0 with h | h
        · have := q6 h; omega
        · exact h
      by_cases y2 : A 50 o = o
      · rw [if_pos y2]
        have y2' : can (nu o) = o := by
          rw [hs o o0 o1] at y2
          unfold alk at y2
          rw [if_pos ho] at y2
          exact y2
        by_cases y3 : A 34 o = A 34 s
        · rw [if_pos y3]
          have hsn : 0 ≤ nm s := by
            rcases Int.lt_or_le (nm s) 0 with h | h
            · have := m6 h; omega
            · exact h
          have enm : nm o = nm s := by
            rw [← (q5 ho).1, ← (m5 hsn).1]; exact y3
          have end' : nd o = nd s := hz o s ho enm
          obtain ⟨k1, k2, k3⟩ := (D.2.2 s s0 s1).2.2 hsn
          have al : ∀ x, 0 ≤ x → x < s → A 50 (A 47 x) = can (nu x) := by
            intro x x0 x1
            obtain ⟨w1, w2, w3, w4⟩ := hA x x0 (by omega)
            rw [hs _ w1 (by omega)]
            unfold alk
            rw [if_pos w3, w4]
          obtain ⟨_, _, _, _, o5, _⟩ := T o o0 (by omega)
          have el : hp_lp (gL_X11_compare_151 n 0 (qz s) (qz o) (ms F A J)) n (qz 1, qz 0) = some (qp (∀ t, 0 ≤ t → t < nd s → can (nu (ch o t)) = can (nu (ch s t)))) := by
            refine lp_brk (b := gL_X11_compare_151 n 0 (qz s) (qz o) (ms F A J)) (fun x => (qz 1, qz x)) (fun x => (qz 0, qz x)) (fun r => qp r) (fun t => can (nu (ch o t)) = can (nu (ch s t))) (n := n) (lo := 0) (nd s) p1 (by omega) ?_ ?_ ?_ ?_
            · intro t t0 t1 t2
              obtain ⟨u1', u2'⟩ := p5 t t0 t1
              obtain ⟨v1', v2'⟩ := o5 t t0 (by omega)
              obtain ⟨w1, w2, _⟩ := hA _ u1' (by omega)
              obtain ⟨x1, x2, _⟩ := hA _ v1' (by omega)
              unfold gL_X11_compare_151 g_X11_compare_151 g_X11_compare_212
              simp only [zl0, zl1]
              rw [gp_66, ga_46 s0 (by omega), m1, bd_some, if_neg (by rw [qz_le (by omega) (by omega) (by omega) (by omega)]; omega), if_neg n10, gp_65, ga_45 o0 (by omega), bd_some, qz_add, gp_64, ga_44 (by omega) (by omega), q4 t t0 (by omega), bd_some, gp_72, ga_50 x1 (by omega), al _ v1' (by omega), bd_some, ga_45 s0 (by omega), bd_some, qz_add, ga_44 (by omega) (by omega), m4 t t0 t1, bd_some, ga_50 w1 (by omega), al _ u1' (by omega), bd_some, t2, if_pos rfl, qz_add]
            · intro t t0 t1 t2
              obtain ⟨u1', u2'⟩ := p5 t t0 t1
              obtain ⟨v1', v2'⟩ := o5 t t0 (by omega)
              obtain ⟨w1, w2, _⟩ := hA _ u1' (by omega)
              obtain ⟨x1, x2, _⟩ := hA _ v1' (by omega)
              obtain ⟨b1, b2, b3⟩ := nds_nu D u1' (by omega)
              obtain ⟨b4, b5, b6⟩ := nds_nu D v1' (by omega)
              obtain ⟨b7, b8, _⟩ := nds_can D (by omega) b1 b3
              obtain ⟨b9, b10, _⟩ := nds_can D (by omega) b4 b6
              unfold gL_X11_compare_151 g_X11_compare_151 g_X11_compare_212
              simp only [zl0, zl1]
              rw [gp_66, ga_46 s0 (by omega), m1, bd_some, if_neg (by rw [qz_le (by omega) (by omega) (by omega) (by omega)]; omega), if_neg n10, gp_65, ga_45 o0 (by omega), bd_some, qz_add, gp_64, ga_44 (by omega) (by omega), q4 t t0 (by omega), bd_some, gp_72, ga_50 x1 (by omega), al _ v1' (by omega), bd_some, ga_45 s0 (by omega), bd_some, qz_add, ga_44 (by omega) (by omega), m4 t t0 t1, bd_some, ga_50 w1 (by omega), al _ u1' (by omega), bd_some, if_neg (by rw [qz_inj (by omega) (by omega) (by omega) (by omega)]; exact t2), qz_add]
            · intro t t0 t1
              unfold gL_X11_compare_151 g_X11_compare_151
              simp only [zl0]
              rw [gp_66, ga_46 s0 (by omega), bd_some, if_pos trivial, ite_self, qp_F (fun h => h)]
            · unfold gL_X11_compare_151 g_X11_compare_151
              rw [gp_66, ga_46 s0 (by omega), m1, bd_some, if_pos (by rw [qz_le (by omega) (by omega) (by omega) (by omega)]; omega), qp_T trivial]
          unfold g_X11_compare_147
          rw [zl0, el, bd_some]
          apply e219
          unfold alk
          rw [if_pos hsn]
          have kk := (D.2.2 o o0 (by omega)).2.2 ho
          constructor
          · intro hall
            have : nu s = nu o := by
              refine U (nu s) (nu o) n1 n3 g1 g3 (by rw [k1, kk.1]; exact enm.symm) (fun t t0 t1 => ?_)
              rw [k2] at t1
              have h1' := hall t t0 t1
              obtain ⟨u1', u2'⟩ := p5 t t0 t1
              obtain ⟨v1', v2'⟩ := o5 t t0 (by omega)
              obtain ⟨b1, b2, b3⟩ := nds_nu D u1' (by omega)
              obtain ⟨b4, b5, b6⟩ := nds_nu D v1' (by omega)
              obtain ⟨_, _, b7, _⟩ := nds_can D (by omega) b1 b3
              obtain ⟨_, _, b8, _⟩ := nds_can D (by omega) b4 b6
              rw [← k3 t t0 t1, y2', ← b7, ← b8, h1']
            rw [this]; exact y2'
          · intro he t t0 t1
            rw [k3 t t0 t1, he]
        · rw [if_neg y3]
          apply e146
          intro y
          unfold alk at y
          split at y
          · rename_i hsn
            obtain ⟨k1, _⟩ := (D.2.2 s s0 s1).2.2 hsn
            rw [y] at k1
            rw [(q5 ho).1, (m5 hsn).1] at y3
            exact y3 k1
          · omega
      · rw [if_neg y2]
        apply e146
        intro y
        rw [hs o o0 o1] at y2
        unfold alk at y y2
        rw [if_pos ho] at y2
        split at y
        · have e1 : nu o = nu s := by rw [← y, c3]
          rw [e1] at y2
          exact y2 y
        · omega
  have lp := lp_ix (b := gL_X11_compare_90 n 0 (qz s)) (fun o c => (c = (qz o, ms F A J) ∧ o ≤ alk nm nu can s) ∨ (c = (qz o, ms F (v2 A 50 s (alk nm nu can s)) J) ∧ 0 ≤ alk nm nu can s ∧ alk nm nu can s < s)) (Q := fun st => st = ms F (v2 A 50 s (alk nm nu can s)) J) s (n := n) (i0 := 0) s0 (by omega) (c0 := (qz 0, ms F A J)) (Or.inl ⟨rfl, by unfold alk; split <;> omega⟩) ?_ ?_
  · obtain ⟨st, es, rfl⟩ := lp
    exact es
  · intro o st o0 o1 hI
    rcases hI with ⟨rfl, h2⟩ | ⟨rfl, h2, h3⟩
    · have := body o o0 o1
      by_cases y : alk nm nu can s = o
      · rw [if_pos y] at this
        exact Or.inl ⟨_, this, Or.inr ⟨by rw [y], by omega, by omega⟩⟩
      · rw [if_neg y, v2_id h1] at this
        exact Or.inl ⟨_, this, Or.inl ⟨rfl, by omega⟩⟩
    · refine Or.inr ⟨_, ?_, rfl⟩
      unfold gL_X11_compare_90 g_X11_compare_90
      rw [if_neg (by rw [qz_le (by omega) (by omega) (by omega) (by omega)]; omega), gp_72, ga_50 s0 (by omega), v2_s, v1_s, bd_some, if_neg (by rw [qz_inj (by omega) (by omega) (by omega) (by omega)]; omega)]
  · intro st hI
    refine ⟨ms F (v2 A 50 s (alk nm nu can s)) J, ?_, rfl⟩
    have hle : alk nm nu can s ≤ s := by unfold alk; split <;> omega
    rcases hI with ⟨rfl, h2⟩ | ⟨rfl, h2, h3⟩
    · have e : alk nm nu can s = s := by omega
      unfold gL_X11_compare_90 g_X11_compare_90
      rw [if_pos (by rw [qz_le (by omega) (by omega) (by omega) (by omega)]; omega), e, v2_id h1]
    · unfold gL_X11_compare_90 g_X11_compare_90
      rw [if_pos (by rw [qz_le (by omega) (by omega) (by omega) (by omega)]; omega)]
end CMQ
