/-! The frame of an assertion: the class -/
section MKF
variable {f : Nat → Nat → Int} {d : Nat → Nat} {a : Nat → Int → Int} {ni : Nat → Nat} {j : Nat → Int → Int64} {n b : Nat} {K hc pc l kd : Int}
theorem ndp_0 {nd it : Int → Int} {s l : Int} : ndp (ndp nd it s l 1) it s l (-1) = nd := by
  funext x
  unfold ndp
  omega
theorem c_makeFrame (hb : bks b) (hn : 100000 ≤ n) (H11 : Rw (f (b + 11) 3) (f (b + 11) 2) (ni (b + 11 + 1)) (nC0 (b + 11 + 2)) 4096 (a (b + 11 + 2))) (H20 : Rw (f (b + 20) 3) (f (b + 20) 2) (ni (b + 20 + 1)) (nC0 (b + 20 + 2)) 32768 (a (b + 20 + 2))) (H23 : Rw (f (b + 23) 3) (f (b + 23) 2) (ni (b + 23 + 1)) (nC0 (b + 23 + 2)) 65536 (a (b + 23 + 2))) (H26 : Rw (f (b + 26) 3) (f (b + 26) 2) (ni (b + 26 + 1)) (nC0 (b + 26 + 2)) 65536 (a (b + 26 + 2)))
    (hK0 : 0 ≤ K) (hK : K < 200) (hKr : K < f (b + 11) 3) (hl : a (b + 11 + 2) (K + 1) - a (b + 11 + 2) K = l) (hl1 : l ≤ 60) (hr : ∀ i, 0 ≤ i → i < l → 0 ≤ a (b + 11 + 1) (a (b + 11 + 2) K + i) ∧ a (b + 11 + 1) (a (b + 11 + 2) K + i) < 300) (hki : a (b + 8) K = kd) (hkd : kd = 2 ∨ kd = 3)
    (hc9 : f 66 9 = hc) (h0 : 0 ≤ hc) (h1 : hc ≤ 200) (hM : f (b + 20) 2 + hc ≤ 32768) (hasc : asc (a 73) 0 hc) (hh : ∀ i, 0 ≤ i → i < hc → 0 ≤ a 73 i ∧ a 73 i < 200 ∧ a 73 i < f (b + 11) 3 ∧ (a (b + 8) (a 73 i) = 0 ∨ a (b + 8) (a 73 i) = 1) ∧ (a (b + 8) (a 73 i) = 0 → a (b + 11 + 2) (a 73 i + 1) - a (b + 11 + 2) (a 73 i) = 2 ∧ 0 ≤ a (b + 11 + 1) (a (b + 11 + 2) (a 73 i) + 1) ∧ a (b + 11 + 1) (a (b + 11 + 2) (a 73 i) + 1) < 300))
    (hp : f 66 12 = pc) (p0 : 0 ≤ pc) (p1 : pc ≤ 200) (hM3 : f (b + 23) 2 + pc ≤ 65536) (hM6 : f (b + 26) 2 + pc ≤ 65536) (hasc2 : asc (a 74) 0 pc) (hr2 : ∀ i, 0 ≤ i → i < pc → 0 ≤ a 74 i ∧ a 74 i < 90000) (hnd : ∀ x, 0 ≤ x → x < 300 → 0 ≤ a 72 x ∧ a 72 x ≤ 12000) :
    ∃ (g g2 h2 : Int → Int) (N N2 N3 : Nat) (u v w : Int), g_X7_makeFrame n 66 b (qz K) (cs f d a ni j) = some (cs (u2 (u2 (u2 f (b + 20) 2 u) (b + 23) 2 v) (b + 26) 2 w) d (u1 (u1 (u1 a (b + 20 + 1) g) (b + 23 + 1) g2) (b + 26 + 1) h2) (u1 (u1 (u1 ni (b + 20 + 1) N) (b + 23 + 1) N2) (b + 26 + 1) N3) j) ∧
      (f (b + 20) 2 ≤ u ∧ u ≤ f (b + 20) 2 + hc ∧ (∀ t, t < f (b + 20) 2 → g t = a (b + 20 + 1) t) ∧ asc g (f (b + 20) 2) u ∧ (∀ h, mem g (f (b + 20) 2) u h ↔ ∃ i, 0 ≤ i ∧ i < hc ∧ a 73 i = h ∧ (a (b + 8) h = 1 ∨ 0 < ndp (a 72) (a (b + 11 + 1)) (a (b + 11 + 2) K) l 1 (a (b + 11 + 1) (a (b + 11 + 2) h + 1)))) ∧ Rw (f (b + 20) 3) u N (nC0 (b + 20 + 2)) 32768 (a (b + 20 + 2))) ∧
      (f (b + 23) 2 ≤ v ∧ v ≤ f (b + 23) 2 + pc ∧ f (b + 26) 2 ≤ w ∧ w ≤ f (b + 26) 2 + pc ∧ (∀ t, t < f (b + 23) 2 → g2 t = a (b + 23 + 1) t) ∧ (∀ t, t < f (b + 26) 2 → h2 t = a (b + 26 + 1) t) ∧ asc g2 (f (b + 23) 2) v ∧ asc h2 (f (b + 26) 2) w ∧ (∀ z, mem g2 (f (b + 23) 2) v z ↔ mem (a 74) 0 pc z ∧ 0 < ndp (a 72) (a (b + 11 + 1)) (a (b + 11 + 2) K) l 1 (z / 300) ∧ 0 < ndp (a 72) (a (b + 11 + 1)) (a (b + 11 + 2) K) l 1 (z - z / 300 * 300)) ∧ (∀ z, mem h2 (f (b + 26) 2) w z ↔ kd = 3 ∧ mem (a 74) 0 pc z) ∧ Rw (f (b + 23) 3) v N2 (nC0 (b + 23 + 2)) 65536 (a (b + 23 + 2)) ∧ Rw (f (b + 26) 3) w N3 (nC0 (b + 26 + 2)) 65536 (a (b + 26 + 2))) := by
  have hbb : b = 1 ∨ b = 33 := hb
  have ea := c_addNeeds (f := f) (d := d) (a := a) (ni := ni) (j := j) (n := n) (k := K) (m := 1) (l := l) hb hn H11 hK0 hKr hl hr
  generalize hn1 : ndp (a 72) (a (b + 11 + 1)) (a (b + 11 + 2) K) l 1 = nd1 at *
  have hnd1 : ∀ x, 0 ≤ x → x < 300 → 0 ≤ nd1 x ∧ nd1 x < 100000 := by
    intro x x1 x2
    have h := hnd x x1 x2
    have c := cn_le (fun y => a (b + 11 + 1) (a (b + 11 + 2) K + y) = x) l.toNat
    rw [← hn1]
    unfold ndp
    omega
  obtain ⟨g, N, u, eH, u1', u2', u3', u4', u5', u6'⟩ := c_frameH (f := f) (d := d) (a := u1 a 72 nd1) (ni := ni) (j := j) (n := n) (hc := hc) (M := 32768) (v2' := K) hb hn (by simp (disch := omega) only [u1_o]; exact H11) (by simp (disch := omega) only [u1_o]; exact H20) hc9 h0 h1 hM (by simp (disch := omega) only [u1_o]; exact hasc) (by simp (disch := omega) only [u1_o]; exact hh) (by rw [u1_s]; exact hnd1)
  simp (disch := omega) only [u1_o, u1_s] at u3' u5' u6'
  obtain ⟨pv, hpv, hpv2⟩ : ∃ pv : Int, (pv = 0 ∨ pv = 1) ∧ (pv = 1 ↔ kd = 3) := by
    rcases hkd with z | z
    · exact ⟨0, Or.inl rfl, by omega⟩
    · exact ⟨1, Or.inr rfl, by omega⟩
  obtain ⟨g2, h2, N2, N3, v, w, eP, v1', v2', v3', v4', v5', v6', v7', v8', v9', v10', v11', v12', v13'⟩ := c_frameP (f := u2 f (b + 20) 2 u) (d := d) (a := u1 (u1 a 72 nd1) (b + 20 + 1) g) (ni := u1 ni (b + 20 + 1) N) (j := j) (n := n) (pc := pc) (pv := pv) (v2' := K) hb hn hpv (by simp (disch := omega) only [u1_o, u2_b]; exact H23) (by simp (disch := omega) only [u1_o, u2_b]; exact H26) (by simp (disch := omega) only [u2_b]; exact hp) p0 p1 (by simp (disch := omega) only [u2_b]; exact hM3) (by simp (disch := omega) only [u2_b]; exact hM6) (by simp (disch := omega) only [u1_o]; exact hasc2) (by simp (disch := omega) only [u1_o]; exact hr2) (by simp (disch := omega) only [u1_o, u1_s]; exact hnd1)
  simp (disch := omega) only [u1_o, u1_s, u2_b] at v1' v2' v3' v4' v5' v6' v7' v8' v9' v10' v11' v12'
  have eB := c_addNeeds (f := u2 (u2 (u2 f (b + 20) 2 u) (b + 23) 2 v) (b + 26) 2 w) (d := d) (a := u1 (u1 (u1 (u1 a 72 nd1) (b + 20 + 1) g) (b + 23 + 1) g2) (b + 26 + 1) h2) (ni := u1 (u1 (u1 ni (b + 20 + 1) N) (b + 23 + 1) N2) (b + 26 + 1) N3) (j := j) (n := n) (k := K) (m := -1) (l := l) (M := 4096) hb hn (by simp (disch := omega) only [u1_o, u2_b]; exact H11) hK0 (by simp (disch := omega) only [u2_b]; exact hKr) (by simp (disch := omega) only [u1_o]; exact hl) (by simp (disch := omega) only [u1_o]; exact hr)
  simp (disch := omega) only [u1_o, u1_s] at eB
  have e72 : u1 (u1 (u1 (u1 (u1 a 72 nd1) (b + 20 + 1) g) (b + 23 + 1) g2) (b + 26 + 1) h2) 72 (ndp nd1 (a (b + 11 + 1)) (a (b + 11 + 2) K) l (-1)) = u1 (u1 (u1 a (b + 20 + 1) g) (b + 23 + 1) g2) (b + 26 + 1) h2 := by
    rw [← hn1, ndp_0, u1_sw (i := b + 26 + 1) (k := 72) (by omega), u1_sw (i := b + 23 + 1) (k := 72) (by omega), u1_sw (i := b + 20 + 1) (k := 72) (by omega), u1_1, u1_id (f := a) rfl]
  rw [e72] at eB
  refine ⟨g, g2, h2, N, N2, N3, u, v, w, ?_, ⟨u1', u2', u3', u4', u5', u6'⟩, v1', v2', v3', v4', v5', v6', v7', v8', v9', fun z => ?_, v11', v12'⟩
  · have e69 : g_X7_makeFrame_69 n 66 b (qz K) (cs (u2 f (b + 20) 2 u) d (u1 (u1 a 72 nd1) (b + 20 + 1) g) (u1 ni (b + 20 + 1) N) j) = g_X7_makeFrame_84 n 66 b (qz K) (qz pv) (cs (u2 f (b + 20) 2 u) d (u1 (u1 a 72 nd1) (b + 20 + 1) g) (u1 ni (b + 20 + 1) N) j) := by
      unfold g_X7_makeFrame_69
      simp only [qz_lit]
      rw [gpb_6 hb, gab_8 hb hK0 hK, bd_some, u1_o (by omega), u1_o (by omega), hki]
      rcases hkd with z | z
      · rw [z, if_neg (by decide), show pv = 0 by omega]
      · rw [z, if_pos rfl, show pv = 1 by omega]
    unfold g_X7_makeFrame g_X7_makeFrame_0
    simp only [qz_lit]
    rw [ea, bd_some, eH, bd_some, e69]
    unfold g_X7_makeFrame_84 g_X7_makeFrame_173
    simp only [qz_lit, qz_neg]
    rw [eP, bd_some, eB, bd_some]
  · rw [v10' z, hpv2]
end MKF
