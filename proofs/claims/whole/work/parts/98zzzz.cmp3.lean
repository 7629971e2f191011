/-! Steps that are alike: the reference, all of them -/
section CMR
variable {n : Nat} {N c k s : Int} {nd nm nu can cn lo : Int → Int} {ch : Int → Int → Int} {WO : Int → List Int} {F : Nat → Int} {A A2 : Nat → Int → Int} {J : Nat → Int → Int64}
theorem mst_c (M : MST N k nd nm ch A) (h1 : A2 34 = A 34) (h2 : A2 44 = A 44) (h3 : A2 45 = A 45) (h4 : A2 46 = A 46) (h5 : A2 47 = A 47) : MST N k nd nm ch A2 := by
  unfold MST at M ⊢
  rw [h1, h2, h3, h4, h5]
  exact M
theorem m_compare (hn : 100000 ≤ n) (h50 : F 50 = N) (D : NDS N c nd nm ch nu can cn) (T : RPN N nd ch lo) (W : WOD c nd nm ch nu can WO) (M : MST N k nd nm ch A) (hk : k ≤ 200) (U : ∀ y1 y2, 0 ≤ y1 → y1 < c → 0 ≤ y2 → y2 < c → nm (can y1) = nm (can y2) → (∀ t, 0 ≤ t → t < nd (can y1) → nu (ch (can y1) t) = nu (ch (can y2) t)) → y1 = y2) (hz : ∀ x y, 0 ≤ nm x → nm x = nm y → nd x = nd y) (hA : ∀ x, 0 ≤ x → x < N → 0 ≤ A 47 x ∧ A 47 x ≤ x ∧ 0 ≤ nm (A 47 x) ∧ nu (A 47 x) = nu x) (hN0 : 0 ≤ N) (hN : N ≤ 1000) : ∃ B C : Int → Int, g_X11_compare n 0 (ms F A J) = some (ms F (u1 (u1 A 50 B) 51 C) J) ∧ (∀ x, 0 ≤ x → x < N → B x = alk nm nu can x) ∧ ∀ x, 0 ≤ x → x < N → 0 ≤ nm x → C x = cap (WO (nu x)).length := by
  have lp := lp_inv (b := gL_X11_compare_2 n 0) (fun s st => ∃ B C : Int → Int, st = (qz s, ms F (u1 (u1 A 50 B) 51 C) J) ∧ (∀ x, 0 ≤ x → x < s → B x = alk nm nu can x) ∧ ∀ x, 0 ≤ x → x < s → 0 ≤ nm x → C x = cap (WO (nu x)).length) (Q := fun st => ∃ B C : Int → Int, st = ms F (u1 (u1 A 50 B) 51 C) J ∧ (∀ x, 0 ≤ x → x < N → B x = alk nm nu can x) ∧ ∀ x, 0 ≤ x → x < N → 0 ≤ nm x → C x = cap (WO (nu x)).length) N (n := n) (i0 := 0) hN0 (by omega) (c0 := (qz 0, ms F A J)) ⟨A 50, A 51, by rw [u1_id (show A 50 = A 50 from rfl), u1_id rfl], fun x x0 x1 => by omega, fun x x0 x1 => by omega⟩ ?_ ?_
  · obtain ⟨st, es, B, C, rfl, h⟩ := lp
    refine ⟨B, C, ?_, h⟩
    unfold g_X11_compare g_X11_compare_0
    rw [zl0, es, bd_some]
  · rintro s st s0 s1 ⟨B, C, rfl, g1, g2⟩
    have e1 : ∀ X Y : Int → Int, (u1 (u1 A 50 X) 51 Y) 50 = X := fun X Y => by rw [u1_o (by decide), u1_s]
    have e2 : ∀ X Y : Int → Int, (u1 (u1 A 50 X) 51 Y) 51 = Y := fun X Y => u1_s
    have ex : ∀ (X Y : Int → Int) (x : Nat), x ≠ 50 → x ≠ 51 → (u1 (u1 A 50 X) 51 Y) x = A x := fun X Y x x1 x2 => by rw [u1_o x2, u1_o x1]
    have Mx : ∀ X Y : Int → Int, MST N k nd nm ch (u1 (u1 A 50 X) 51 Y) := fun X Y => mst_c M (ex X Y _ (by decide) (by decide)) (ex X Y _ (by decide) (by decide)) (ex X Y _ (by decide) (by decide)) (ex X Y _ (by decide) (by decide)) (ex X Y _ (by decide) (by decide))
    have hAx : ∀ X Y : Int → Int, ∀ x, 0 ≤ x → x < N → 0 ≤ (u1 (u1 A 50 X) 51 Y) 47 x ∧ (u1 (u1 A 50 X) 51 Y) 47 x ≤ x ∧ 0 ≤ nm ((u1 (u1 A 50 X) 51 Y) 47 x) ∧ nu ((u1 (u1 A 50 X) 51 Y) 47 x) = nu x := fun X Y => by
      rw [ex X Y 47 (by decide) (by decide)]; exact hA
    have sz := m_sizes (n := n) (F := F) (J := J) (s := s) (WO := WO) (nu := nu) hn T (Mx (v1 B s s) (v1 C s 1)) (hAx _ _) hN s0 s1 (by rw [e2, v1_s]) (fun x x0 x1 hm => by rw [e2, v1_o (by omega)]; exact g2 x x0 x1 hm)
    rw [v2_u1, u1_1, e2, v1_1] at sz
    generalize hC : v1 C s (cap (((cat (fun t => WO (nu (ch s t))) (nd s).toNat).length : Int) + 1)) = C2 at sz
    have al := m_alike (n := n) (F := F) (J := J) (s := s) (A := u1 (u1 A 50 (v1 B s s)) 51 C2) hn D T (Mx _ _) hk U hz (hAx _ _) hN s0 s1 (by rw [e1, v1_s]) (fun x x0 x1 => by rw [e1, v1_o (by omega)]; exact g1 x x0 x1)
    rw [v2_u1, e1, v1_1, u1_sw (by decide), u1_1, u1_sw (by decide)] at al
    refine ⟨_, ?_, v1 B s (alk nm nu can s), C2, rfl, fun x x0 x1 => ?_, fun x x0 x1 hm => ?_⟩
    · unfold gL_X11_compare_2 g_X11_compare_2 g_X11_compare_245
      simp only [zl0, zl1]
      rw [gf_ms, h50, if_neg (by rw [qz_le (by omega) (by omega) (by omega) (by omega)]; omega), gp_72, ua_50 s0 (by omega), bd_some, gp_73, ua_51 s0 (by omega), bd_some, v2_u1, v2_u1, e1, u1_sw (by decide), u1_1, u1_sw (by decide), u1_1, u1_o (by decide), u1_s]
      rw [sz, bd_some, al, bd_some, qz_add, u1_sw (a := A) (i := 51) (k := 50) (by decide)]
    · by_cases y : x = s
      · rw [y, v1_s]
      · rw [v1_o y]; exact g1 x x0 (by omega)
    · rw [← hC]
      by_cases y : x = s
      · rw [y] at hm ⊢
        rw [v1_s, wo_x D W s0 s1 hm, List.length_append]
        rfl
      · rw [v1_o y]; exact g2 x x0 (by omega) hm
  · rintro st ⟨B, C, rfl, h⟩
    refine ⟨_, ?_, B, C, rfl, h⟩
    unfold gL_X11_compare_2 g_X11_compare_2
    rw [gf_ms, h50, if_pos (by rw [qz_le (by omega) (by omega) (by omega) (by omega)]; omega)]
end CMR
