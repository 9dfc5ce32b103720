/-! The image: the class. -/
theorem c_imageT {n c1 c2 c3 : Nat} {R : Nat → Nat → Option Nat} {D : KK} (hR : RF R) (h1 : R 7 3 = some c1) (q1 : c1 = 8 ∨ c1 = 9) (h2 : R 11 3 = some c2) (q2 : c2 = 12 ∨ c2 = 13) (h3 : R 15 4 = some c3) (q3 : c3 = 16 ∨ c3 = 17) (X : XX9) (hX : XI9 X) (hS : SnC 7 c1 11 c2 15 c3 18 25 27 X D) : ∃ D', XC 4 151 [.inr (some 5), .inl 1] (xS n, R, D) (some (.inl 1)) (xS n, R, D') ∧ ∃ D1, SnC 47 48 51 52 55 56 58 65 67 X D1 ∧ (∀ x k, ¬ (47 ≤ x ∧ x ≤ 85) → x ≠ 10 → x ≠ 14 → D1 x k = D x k) ∧ D' = xui D1 5 5 1 := by
  refine XE_of (Nat.le_of_ble_eq_true rfl) (Nat.le_of_ble_eq_true rfl) (loc := [_, _]) rfl ?_
  refine xx_iload_n (q := 1) rfl rfl rfl ?_
  refine xx_if_eq (q := 23) (q2 := 4) rfl rfl rfl (fun h1 => (by exfalso; omega)) (fun _ => ?_)
  refine xx_aload_n (q := 5) rfl rfl rfl ?_
  refine xx_getR (q := 8) rfl rfl rfl xS_5 (Nat.le_of_ble_eq_true rfl) rfl (hR.1 5 1 rfl) ?_
  refine xx_aload_n (q := 9) rfl rfl rfl ?_
  refine xx_getR (q := 12) rfl rfl rfl xS_5 (Nat.le_of_ble_eq_true rfl) rfl (hR.1 5 0 rfl) ?_
  obtain ⟨D1, hx1, hS1, hf1⟩ := c_wcpP (n := n) hR h1 q1 h2 q2 h3 q3 X hX hS
  refine xx_callV (q := 15) (As := [_]) (rest := []) rfl rfl rfl (Or.inl rfl) rfl rfl (Nat.le_of_ble_eq_true rfl) xS_46 (XCm hx1 rfl) rfl ?_
  refine xx_aload_n (q := 16) rfl rfl rfl ?_
  refine xx_iconst (q := 17) rfl rfl (by decide) ?_
  refine xx_puz (q := 20) rfl rfl rfl xS_5 (Nat.le_of_ble_eq_true rfl) (Nat.le_of_ble_eq_true rfl) (fun h => by cases h) (Or.inr ⟨rfl, by omega⟩) rfl ?_
  refine xx_goto (q := 48) rfl rfl ?_
  refine xx_aload_n (q := 49) rfl rfl rfl ?_
  refine xx_gez (q := 52) rfl rfl rfl xS_5 (Nat.le_of_ble_eq_true rfl) rfl xui_s ?_
  exact xx_iret rfl (Or.inr rfl) ⟨rfl, _, rfl, D1, hS1, hf1, rfl⟩
theorem c_image0 {n : Nat} {R : Nat → Nat → Option Nat} {D : KK} (h0 : D 5 5 = 0) : XC 1 151 [.inr (some 5), .inl 0] (xS n, R, D) (some (.inl 0)) (xS n, R, D) := by
  refine XC_of (Nat.le_of_ble_eq_true rfl) (Nat.le_of_ble_eq_true rfl) (loc := [_, _]) rfl ?_
  refine xx_iload_n (q := 1) rfl rfl rfl ?_
  refine xx_if_eq (q := 23) (q2 := 4) rfl rfl rfl (fun _ => ?_) (fun h1 => (by exfalso; omega))
  refine xx_aload_n (q := 24) rfl rfl rfl ?_
  refine xx_gez (q := 27) rfl rfl rfl xS_5 (Nat.le_of_ble_eq_true rfl) rfl h0 ?_
  refine xx_if_eq (q := 48) (q2 := 30) rfl rfl rfl (fun _ => ?_) (fun h27 => (by exfalso; omega))
  refine xx_aload_n (q := 49) rfl rfl rfl ?_
  refine xx_gez (q := 52) rfl rfl rfl xS_5 (Nat.le_of_ble_eq_true rfl) rfl h0 ?_
  exact xx_iret rfl (Or.inl rfl) ⟨rfl, rfl⟩
theorem c_image1 {n c1 c2 c3 : Nat} {R : Nat → Nat → Option Nat} {D : KK} (hR : RF R) (h1 : R 7 3 = some c1) (q1 : c1 = 8 ∨ c1 = 9) (h2 : R 11 3 = some c2) (q2 : c2 = 12 ∨ c2 = 13) (h3 : R 15 4 = some c3) (q3 : c3 = 16 ∨ c3 = 17) (X : XX9) (hX : XI9 X) (hS : SnC 47 48 51 52 55 56 58 65 67 X D) (h0 : D 5 5 = 1) : ∃ D', XC 4 151 [.inr (some 5), .inl 0] (xS n, R, D) (some (.inl 1)) (xS n, R, D') ∧ ∃ D1, SnC 7 c1 11 c2 15 c3 18 25 27 X D1 ∧ (∀ x k, ¬ (7 ≤ x ∧ x ≤ 45) → x ≠ 10 → x ≠ 14 → D1 x k = D x k) ∧ D' = xui D1 86 0 0 := by
  refine XE_of (Nat.le_of_ble_eq_true rfl) (Nat.le_of_ble_eq_true rfl) (loc := [_, _]) rfl ?_
  refine xx_iload_n (q := 1) rfl rfl rfl ?_
  refine xx_if_eq (q := 23) (q2 := 4) rfl rfl rfl (fun _ => ?_) (fun h1 => (by exfalso; omega))
  refine xx_aload_n (q := 24) rfl rfl rfl ?_
  refine xx_gez (q := 27) rfl rfl rfl xS_5 (Nat.le_of_ble_eq_true rfl) rfl h0 ?_
  refine xx_if_eq (q := 48) (q2 := 30) rfl rfl rfl (fun h27 => (by exfalso; omega)) (fun _ => ?_)
  refine xx_aload_n (q := 31) rfl rfl rfl ?_
  refine xx_getR (q := 34) rfl rfl rfl xS_5 (Nat.le_of_ble_eq_true rfl) rfl (hR.1 5 0 rfl) ?_
  refine xx_aload_n (q := 35) rfl rfl rfl ?_
  refine xx_getR (q := 38) rfl rfl rfl xS_5 (Nat.le_of_ble_eq_true rfl) rfl (hR.1 5 1 rfl) ?_
  obtain ⟨D1, hx1, hS1, hf1⟩ := c_wcpN (n := n) hR h1 q1 h2 q2 h3 q3 X hX hS
  refine xx_callV (q := 41) (As := [_]) (rest := []) rfl rfl rfl (Or.inl rfl) rfl rfl (Nat.le_of_ble_eq_true rfl) xS_6 (XCm hx1 rfl) rfl ?_
  refine xx_aload_n (q := 42) rfl rfl rfl ?_
  refine xx_getR (q := 45) rfl rfl rfl xS_5 (Nat.le_of_ble_eq_true rfl) rfl (hR.1 5 2 rfl) ?_
  refine xx_callV (q := 48) (As := []) (rest := []) rfl rfl rfl (Or.inl rfl) rfl rfl (Nat.le_of_ble_eq_true rfl) xS_86 (XCm (c_forgetR (n := n) hR) rfl) rfl ?_
  refine xx_aload_n (q := 49) rfl rfl rfl ?_
  refine xx_gez (q := 52) rfl rfl rfl xS_5 (Nat.le_of_ble_eq_true rfl) rfl ((xui_a (by omega)).trans ((hf1 5 5 (by omega) (by omega) (by omega)).trans h0)) ?_
  exact xx_iret rfl (Or.inr rfl) ⟨rfl, _, rfl, D1, hS1, hf1, rfl⟩
