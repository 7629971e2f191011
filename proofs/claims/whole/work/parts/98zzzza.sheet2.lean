/-! Writing on a sheet while other things change -/
section SH2
variable {n b s : Nat} {q S K P len k v c D y t : Int} {L : List Int} {f : Nat → Nat → Int} {d : Nat → Nat} {a : Nat → Int → Int} {ni : Nat → Nat} {j : Nat → Int → Int64} {F : Nat → Int} {A : Nat → Int → Int} {J : Nat → Int → Int64}
def SC (s : Nat) (L : List Int) (f : Nat → Nat → Int) (a : Nat → Int → Int) : Prop := f s 1 = ml L ∧ f s 2 = ov L ∧ ∀ x : Nat, x < L.length → x < 6000 → a (s + 1) x = L.getD x 0
def SM (L : List Int) (F : Nat → Int) (A : Nat → Int → Int) : Prop := F 82 = L.length ∧ ∀ x : Nat, x < L.length → x < 6000 → A 58 x = L.getD x 0
def nlx (q : Int) (A2 A8 A9 : Int → Int) (k : Int) : List Int := nmb (fun y => A2 (8192 * q + y)) (A8 (200 * q + k)) (A9 (200 * q + k)).toNat
theorem c_put2 (hs : s = 117 ∨ s = 119) (v0 : 0 ≤ v) (v1 : v < 128) (H : SC s L f a) : ∃ f2 a2, g_X8_put n s (qz v) (cs f d a ni j) = some (cs f2 d a2 ni j) ∧ SC s (L ++ [v]) f2 a2 ∧ (∀ i, i ≠ s → f2 i = f i) ∧ ∀ i, i ≠ s + 1 → a2 i = a i := by
  obtain ⟨st, e, f2, a2, rfl, h1, h2, h3, h4, h5⟩ := c_put (n := n) (d := d) (ni := ni) (j := j) (L := L) (f := f) (a := a) hs v0 v1 ⟨f, a, rfl, fun _ _ => rfl, H.1, H.2.1, fun _ _ => rfl, H.2.2⟩
  exact ⟨f2, a2, e, ⟨h2, h3, h5⟩, h1, h4⟩
theorem m_say2 (hL : (L.length : Int) < 1000000000) (H : SM L F A) : ∃ F2 A2, g_X11_say n 0 (qz v) (ms F A J) = some (ms F2 A2 J) ∧ SM (L ++ [v]) F2 A2 ∧ (∀ i, i ≠ 82 → F2 i = F i) ∧ ∀ i, i ≠ 58 → A2 i = A i := by
  obtain ⟨st, e, F2, A2, rfl, h1, h2, h3, h4⟩ := m_say (n := n) (v := v) (J := J) (L := L) (F := F) (A := A) hL ⟨F, A, rfl, fun _ _ => rfl, H.1, fun _ _ => rfl, H.2⟩
  exact ⟨F2, A2, e, ⟨h2, h4⟩, h1, h3⟩
theorem c_name2 (hn : 100000 ≤ n) (hs : s = 117 ∨ s = 119) (hb : bks b) (G : BK b q S K P len f a ni j A J) (hR : Rbk b q len a A) (k0 : 0 ≤ k) (k1 : k < K) (H : SC s L f a) : ∃ f2 a2, g_X8_putName n s (b + 1) (qz (300 + k)) (cs f d a ni j) = some (cs f2 d a2 ni j) ∧ SC s (L ++ nlx q (A 2) (A 8) (A 9) k) f2 a2 ∧ (∀ i, i ≠ s → f2 i = f i) ∧ ∀ i, i ≠ s + 1 → a2 i = a i := by
  have hl : liv S K (300 + k) := Or.inr ⟨by omega, by omega⟩
  obtain ⟨st, e, f2, a2, rfl, h1, h2, h3, h4, h5⟩ := c_putName (n := n) (d := d) (L := L) hn hs hb G hR hl ⟨f, a, rfl, fun _ _ => rfl, H.1, H.2.1, fun _ _ => rfl, H.2.2⟩
  obtain ⟨g1, g2⟩ := G.2.1.2.2.2.2.2.2.2.2 k k0 k1
  rw [g1, g2] at h2 h3 h5
  exact ⟨f2, a2, e, ⟨h2, h3, h5⟩, h1, h4⟩
theorem m_name2 (hn : 100000 ≤ n) (hq : 0 ≤ q ∧ q ≤ 1) (h4 : F 4 = q) (G : BK b q S K P len f a ni j A J) (k0 : 0 ≤ k) (k1 : k < K) (hL : (L.length : Int) < 900000000) (H : SM L F A) : ∃ F2 A2, g_X11_sayLabel n 0 (qz k) (ms F A J) = some (ms F2 A2 J) ∧ SM (L ++ nlx q (A 2) (A 8) (A 9) k) F2 A2 ∧ (∀ i, i ≠ 82 → F2 i = F i) ∧ ∀ i, i ≠ 58 → A2 i = A i := by
  have hl : liv S K (300 + k) := Or.inr ⟨by omega, by omega⟩
  obtain ⟨n1, n2, n3, n4, n5, n6⟩ := bk_n G hl
  obtain ⟨g1, g2⟩ := G.2.1.2.2.2.2.2.2.2.2 k k0 k1
  have hK : K ≤ 200 := G.2.1.2.2.2.1
  obtain ⟨st, e, F2, A2, rfl, h1, h2, h3, h5⟩ := m_sayLabel (n := n) (J := J) (L := L) hn hq h4 k0 (by omega) (by omega) (by omega) (by omega) hL ⟨F, A, rfl, fun _ _ => rfl, H.1, fun _ _ => rfl, H.2⟩
  exact ⟨F2, A2, e, ⟨h2, h5⟩, h1, h3⟩
/-- a name is not empty, and has at most 8192 bytes -/
theorem nlx_l (G : BK b q S K P len f a ni j A J) (k0 : 0 ≤ k) (k1 : k < K) : 1 ≤ ((nlx q (A 2) (A 8) (A 9) k).length : Int) ∧ ((nlx q (A 2) (A 8) (A 9) k).length : Int) ≤ 8192 := by
  have hl : liv S K (300 + k) := Or.inr ⟨by omega, by omega⟩
  obtain ⟨n1, n2, n3, n4, n5, n6⟩ := bk_n G hl
  obtain ⟨g1, g2⟩ := G.2.1.2.2.2.2.2.2.2.2 k k0 k1
  unfold nlx nmb
  rw [List.length_map, List.length_range]
  omega
/-- the nodes, as the teller has them -/
def TSt (c : Int) (sz : Int → Int) (row : Int → Int → Int) (lab : Int → Int) (f : Nat → Nat → Int) (a : Nat → Int → Int) (ni : Nat → Nat) : Prop := Rw (f 105 3) (f 105 2) (ni (105 + 1)) (nC0 (105 + 2)) 1024 (a (105 + 2)) ∧ f 105 3 = c ∧ ∀ y, 0 ≤ y → y < c → a 104 y = lab y ∧ a (105 + 2) (y + 1) - a (105 + 2) y = sz y ∧ ∀ t, 0 ≤ t → t < sz y → a (105 + 1) (a (105 + 2) y + t) = row y t
theorem tst_c {sz lab : Int → Int} {row : Int → Int → Int} {f2 : Nat → Nat → Int} {a2 : Nat → Int → Int} {ni2 : Nat → Nat} (H : TSt c sz row lab f a ni) (hf : f2 105 = f 105) (h4 : a2 104 = a 104) (h6 : a2 (105 + 1) = a (105 + 1)) (h7 : a2 (105 + 2) = a (105 + 2)) (hn : ni2 (105 + 1) = ni (105 + 1)) : TSt c sz row lab f2 a2 ni2 := by
  unfold TSt at H ⊢
  rw [hf, h4, h6, h7, hn]
  exact H
theorem c_nextTaken {sz lab : Int → Int} {row : Int → Int → Int} (H : TSt c sz row lab f a ni) (c1 : c ≤ 1000) (hD : f 103 12 = D) (d0 : 1 ≤ D) (d1 : D ≤ 1000) (e1 : a 112 (D - 1) = y) (e2 : a 113 (D - 1) = t) (y0 : 0 ≤ y) (y1 : y < c) (t0 : 0 ≤ t) (t1 : t ≤ sz y) (hz : sz y < 100000) : g_X9_nextTaken n 103 (cs f d a ni j) = some (qz (if t < sz y then row y t else -1), cs f d (v2 a 113 (D - 1) (t + 1)) ni j) := by
  obtain ⟨H1, H2, H3⟩ := H
  obtain ⟨k1, k2, k3⟩ := H3 y y0 y1
  unfold g_X9_nextTaken g_X9_nextTaken_0
  simp only [zl1]
  rw [gpc_103_10, gf_cs, hD, qz_sub, gac_112 (by omega) (by omega), e1, bd_some, gpc_103_11, gac_113 (by omega) (by omega), e2, bd_some, gpc_103_5]
  by_cases e : t < sz y
  · rw [c_get rws_105 H1 y0 (by omega) t0 (by omega), bd_some, bd_some, qz_add, uac_113 (by omega) (by omega), bd_some, if_pos e, k3 t t0 e]
  · rw [c_get0 rws_105 H1 (by omega) (by omega) (by omega) (by omega) (Or.inr (Or.inr (Or.inr (by omega)))), bd_some, bd_some, qz_add, uac_113 (by omega) (by omega), bd_some, if_neg e]
theorem c_enter (hD : f 103 12 = D) (d0 : 0 ≤ D) (d1 : D < 1000) : g_X9_enter n 103 (qz y) (cs f d a ni j) = some (cs (u2 f 103 12 (D + 1)) d (v2 (v2 a 112 D y) 113 D 0) ni j) := by
  unfold g_X9_enter g_X9_enter_0
  simp only [zl0, zl1]
  rw [gpc_103_10, gf_cs, hD, uac_112 d0 d1, bd_some, gpc_103_11, gf_cs, hD, uac_113 d0 d1, bd_some, gf_cs, hD, qz_add, wf_cs, bd_some]
end SH2
