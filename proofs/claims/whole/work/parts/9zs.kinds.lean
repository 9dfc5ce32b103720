/-! A canal begins, an image is taken up: the laws' kinds stay; the class. -/
set_option maxHeartbeats 1000000 in
theorem c_canal2 {n : Nat} {R : Nat → Nat → Option Nat} {D K : KK} {b : Int} {B : Nat → Int} {U : UU} (hR : RF R) (hW : NWd K b B U D D) (hI : KI K) (m : Int) : ∃ D', XC 5 118 [.inr (some 5), .inl m] (xS n, R, D) (some (.inl (bi (1 ≤ m ∧ m ≤ 9)))) (xS n, R, D') ∧ (if 1 ≤ m ∧ m ≤ 9 then NWd (bgnK K m) 0 B [] D' D' ∧ Bgn D D' ∧ D' 7 1 = D 7 1 ∧ D' 11 1 = D 11 1 else D' = D) := by
  refine XE_of (Nat.le_of_ble_eq_true rfl) (Nat.le_of_ble_eq_true rfl) (loc := [_, _]) rfl ?_
  refine xx_iload_n (q := 1) rfl rfl rfl ?_
  refine xx_iconst (q := 2) rfl rfl (by decide) ?_
  refine xx_bipush (q := 4) rfl rfl (by decide) ?_
  refine xx_callS (q := 7) (As := [_, _, _]) (rest := []) rfl rfl rfl (Or.inl rfl) rfl rfl (Nat.le_of_ble_eq_true rfl) (XCm (c_within m 1 9) rfl) rfl ?_
  refine xx_ifb_ne (q := 12) (q2 := 10) rfl rfl rfl (fun h7 => ?_) (fun h7 => ?_)
  · refine xx_aload_n (q := 13) rfl rfl rfl ?_
    refine xx_getR (q := 16) rfl rfl rfl xS_5 (Nat.le_of_ble_eq_true rfl) rfl (hR.1 5 0 rfl) ?_
    refine xx_iload_n (q := 17) rfl rfl rfl ?_
    refine xx_callV (q := 20) (As := [_]) (rest := []) rfl rfl rfl (Or.inl rfl) rfl rfl (Nat.le_of_ble_eq_true rfl) xS_6 (XCm (c_wbegin (n := n) (D := D) hR m) rfl) rfl ?_
    refine xx_aload_n (q := 21) rfl rfl rfl ?_
    refine xx_getR (q := 24) rfl rfl rfl xS_5 (Nat.le_of_ble_eq_true rfl) rfl (hR.1 5 2 rfl) ?_
    refine xx_callV (q := 27) (As := []) (rest := []) rfl rfl rfl (Or.inl rfl) rfl rfl (Nat.le_of_ble_eq_true rfl) xS_86 (XCm (c_forgetR (n := n) (D := (wbgD D m)) hR) rfl) rfl ?_
    refine xx_iconst (q := 28) rfl rfl (by decide) ?_
    refine xx_iret rfl (Or.inr rfl) ⟨congrArg (fun z => some (Sum.inl z)) (by exact (bi_t h7).symm), _, rfl, ?_⟩
    show (if 1 ≤ m ∧ m ≤ 9 then _ else _)
    rw [if_pos h7]
    exact ⟨hW.begin.1, hW.begin.2, rfl, rfl⟩
  · refine xx_iconst (q := 11) rfl rfl (by decide) ?_
    refine xx_iret rfl (Or.inl rfl) ⟨congrArg (fun z => some (Sum.inl z)) (by exact (bi_f h7).symm), _, rfl, ?_⟩
    show (if 1 ≤ m ∧ m ≤ 9 then _ else _)
    rw [if_neg h7]
set_option maxHeartbeats 2000000 in
theorem c_lcpG2 {n cc : Nat} {R : Nat → Nat → Option Nat} {D : KK} (hR : RF R) (hcc : R 7 3 = some cc) (hcc2 : cc = 8 ∨ cc = 9) : ∃ D', XC 1 63 [.inr (some 7), .inr (some 47)] (xS n, R, D) none (xS n, R, D') ∧ D' 7 1 = D 7 1 ∧ D' 7 0 = D 47 0 ∧ D' 7 2 = D 47 2 ∧ (∀ k, k < 400 → D' cc k = D 48 k) ∧ ∀ x k, x ≠ 7 → x ≠ cc → D' x k = D x k := by
  have hscc := sh_cc (n := n) hcc2
  refine XE_of (Nat.le_of_ble_eq_true rfl) (Nat.le_of_ble_eq_true rfl) (loc := [_, _]) rfl ?_
  refine xx_aload_n (q := 1) rfl rfl rfl ?_
  refine xx_aload_n (q := 2) rfl rfl rfl ?_
  refine xx_gez (q := 5) rfl rfl rfl xS_47 (Nat.le_of_ble_eq_true rfl) rfl rfl ?_
  refine xx_puz (q := 8) rfl rfl rfl xS_7 (Nat.le_of_ble_eq_true rfl) (Nat.le_of_ble_eq_true rfl) (fun h => by cases h) (Or.inl rfl) rfl ?_
  refine xx_aload_n (q := 9) rfl rfl rfl ?_
  refine xx_aload_n (q := 10) rfl rfl rfl ?_
  refine xx_gez (q := 13) rfl rfl rfl xS_47 (Nat.le_of_ble_eq_true rfl) rfl rfl ?_
  refine xx_puz (q := 16) rfl rfl rfl xS_7 (Nat.le_of_ble_eq_true rfl) (Nat.le_of_ble_eq_true rfl) (fun h => by cases h) (Or.inl rfl) rfl ?_
  refine xx_aload_n (q := 17) rfl rfl rfl ?_
  refine xx_getR (q := 20) rfl rfl rfl xS_47 (Nat.le_of_ble_eq_true rfl) rfl (hR.1 47 3 rfl) ?_
  refine xx_iconst (q := 21) rfl rfl (by decide) ?_
  refine xx_aload_n (q := 22) rfl rfl rfl ?_
  refine xx_getR (q := 25) rfl rfl rfl xS_7 (Nat.le_of_ble_eq_true rfl) rfl (hcc) ?_
  refine xx_iconst (q := 26) rfl rfl (by decide) ?_
  refine xx_aload_n (q := 27) rfl rfl rfl ?_
  refine xx_getR (q := 30) rfl rfl rfl xS_7 (Nat.le_of_ble_eq_true rfl) rfl (hcc) ?_
  refine xx_alen (q := 31) rfl rfl hscc (by decide) (Nat.le_of_ble_eq_true rfl) ?_
  refine xx_copy (q := 34) (zn := 400) (dn := 0) (sn := 0) rfl rfl rfl xS_48 hscc rfl rfl rfl (by decide) (by decide) (Nat.le_of_ble_eq_true rfl) ?_
  refine xx_vret rfl rfl ⟨rfl, _, rfl, ?_⟩
  exact ⟨(by unfold xcp xui; grind), (by unfold xcp xui; grind), (by unfold xcp xui; grind), (fun k hk => by unfold xcp xui; grind), (fun x k q0 q1 => by unfold xcp xui; grind)⟩
set_option maxHeartbeats 2000000 in
theorem c_lcpH2 {n cc : Nat} {R : Nat → Nat → Option Nat} {D : KK} (hR : RF R) (hcc : R 11 3 = some cc) (hcc2 : cc = 12 ∨ cc = 13) : ∃ D', XC 1 63 [.inr (some 11), .inr (some 51)] (xS n, R, D) none (xS n, R, D') ∧ D' 11 1 = D 11 1 ∧ D' 11 0 = D 51 0 ∧ D' 11 2 = D 51 2 ∧ (∀ k, k < 400 → D' cc k = D 52 k) ∧ ∀ x k, x ≠ 11 → x ≠ cc → D' x k = D x k := by
  have hscc := sh_ch (n := n) hcc2
  refine XE_of (Nat.le_of_ble_eq_true rfl) (Nat.le_of_ble_eq_true rfl) (loc := [_, _]) rfl ?_
  refine xx_aload_n (q := 1) rfl rfl rfl ?_
  refine xx_aload_n (q := 2) rfl rfl rfl ?_
  refine xx_gez (q := 5) rfl rfl rfl xS_51 (Nat.le_of_ble_eq_true rfl) rfl rfl ?_
  refine xx_puz (q := 8) rfl rfl rfl xS_11 (Nat.le_of_ble_eq_true rfl) (Nat.le_of_ble_eq_true rfl) (fun h => by cases h) (Or.inl rfl) rfl ?_
  refine xx_aload_n (q := 9) rfl rfl rfl ?_
  refine xx_aload_n (q := 10) rfl rfl rfl ?_
  refine xx_gez (q := 13) rfl rfl rfl xS_51 (Nat.le_of_ble_eq_true rfl) rfl rfl ?_
  refine xx_puz (q := 16) rfl rfl rfl xS_11 (Nat.le_of_ble_eq_true rfl) (Nat.le_of_ble_eq_true rfl) (fun h => by cases h) (Or.inl rfl) rfl ?_
  refine xx_aload_n (q := 17) rfl rfl rfl ?_
  refine xx_getR (q := 20) rfl rfl rfl xS_51 (Nat.le_of_ble_eq_true rfl) rfl (hR.1 51 3 rfl) ?_
  refine xx_iconst (q := 21) rfl rfl (by decide) ?_
  refine xx_aload_n (q := 22) rfl rfl rfl ?_
  refine xx_getR (q := 25) rfl rfl rfl xS_11 (Nat.le_of_ble_eq_true rfl) rfl (hcc) ?_
  refine xx_iconst (q := 26) rfl rfl (by decide) ?_
  refine xx_aload_n (q := 27) rfl rfl rfl ?_
  refine xx_getR (q := 30) rfl rfl rfl xS_11 (Nat.le_of_ble_eq_true rfl) rfl (hcc) ?_
  refine xx_alen (q := 31) rfl rfl hscc (by decide) (Nat.le_of_ble_eq_true rfl) ?_
  refine xx_copy (q := 34) (zn := 400) (dn := 0) (sn := 0) rfl rfl rfl xS_52 hscc rfl rfl rfl (by decide) (by decide) (Nat.le_of_ble_eq_true rfl) ?_
  refine xx_vret rfl rfl ⟨rfl, _, rfl, ?_⟩
  exact ⟨(by unfold xcp xui; grind), (by unfold xcp xui; grind), (by unfold xcp xui; grind), (fun k hk => by unfold xcp xui; grind), (fun x k q0 q1 => by unfold xcp xui; grind)⟩
set_option maxHeartbeats 4000000 in
theorem c_wcp2N {n c1 c2 c3 : Nat} {R : Nat → Nat → Option Nat} {D : KK} (hR : RF R) (h1 : R 7 3 = some c1) (q1 : c1 = 8 ∨ c1 = 9) (h2 : R 11 3 = some c2) (q2 : c2 = 12 ∨ c2 = 13) (h3 : R 15 4 = some c3) (q3 : c3 = 16 ∨ c3 = 17) (X : XX9) (hX : XI9 X) (hS : SnC 47 48 51 52 55 56 58 65 67 X D) : ∃ D', XC 3 115 [.inr (some 6), .inr (some 46)] (xS n, R, D) none (xS n, R, D') ∧ D' 7 1 = D 7 1 ∧ D' 11 1 = D 11 1 ∧ SnC 7 c1 11 c2 15 c3 18 25 27 X D' ∧ ∀ x k, ¬ (7 ≤ x ∧ x ≤ 45) → x ≠ 10 → x ≠ 14 → D' x k = D x k := by
  refine XE_of (Nat.le_of_ble_eq_true rfl) (Nat.le_of_ble_eq_true rfl) (loc := [_, _]) rfl ?_
  refine xx_aload_n (q := 1) rfl rfl rfl ?_
  refine xx_getR (q := 4) rfl rfl rfl xS_6 (Nat.le_of_ble_eq_true rfl) rfl (hR.1 6 0 rfl) ?_
  refine xx_aload_n (q := 5) rfl rfl rfl ?_
  refine xx_getR (q := 8) rfl rfl rfl xS_46 (Nat.le_of_ble_eq_true rfl) rfl (hR.1 46 0 rfl) ?_
  obtain ⟨E1, hx1, z1, a0, a2, ac, g1⟩ := c_lcpG2 (n := n) (D := D) hR h1 q1
  refine xx_callV (q := 11) (As := [_]) (rest := []) rfl rfl rfl (Or.inl rfl) rfl rfl (Nat.le_of_ble_eq_true rfl) xS_7 (XCm hx1 rfl) rfl ?_
  refine xx_aload_n (q := 12) rfl rfl rfl ?_
  refine xx_getR (q := 15) rfl rfl rfl xS_6 (Nat.le_of_ble_eq_true rfl) rfl (hR.1 6 1 rfl) ?_
  refine xx_aload_n (q := 16) rfl rfl rfl ?_
  refine xx_getR (q := 19) rfl rfl rfl xS_46 (Nat.le_of_ble_eq_true rfl) rfl (hR.1 46 1 rfl) ?_
  obtain ⟨E2, hx2, z2, b0, b2, bc, g2⟩ := c_lcpH2 (n := n) (D := E1) hR h2 q2
  refine xx_callV (q := 22) (As := [_]) (rest := []) rfl rfl rfl (Or.inl rfl) rfl rfl (Nat.le_of_ble_eq_true rfl) xS_11 (XCm hx2 rfl) rfl ?_
  refine xx_aload_n (q := 23) rfl rfl rfl ?_
  refine xx_getR (q := 26) rfl rfl rfl xS_6 (Nat.le_of_ble_eq_true rfl) rfl (hR.1 6 2 rfl) ?_
  refine xx_aload_n (q := 27) rfl rfl rfl ?_
  refine xx_getR (q := 30) rfl rfl rfl xS_46 (Nat.le_of_ble_eq_true rfl) rfl (hR.1 46 2 rfl) ?_
  obtain ⟨E3, hx3, p0, pc, g3⟩ := c_pcpN (n := n) (D := E2) hR h3 q3
  refine xx_callV (q := 33) (As := [_]) (rest := []) rfl rfl rfl (Or.inl rfl) rfl rfl (Nat.le_of_ble_eq_true rfl) xS_15 (XCm hx3 rfl) rfl ?_
  have g1_o : ∀ x k, x ≠ 7 → x ≠ c1 → E1 x k = D x k := g1
  have g2_o : ∀ x k, x ≠ 11 → x ≠ c2 → E2 x k = E1 x k := g2
  refine xx_aload_n (q := 34) rfl rfl rfl ?_
  refine xx_getR (q := 37) rfl rfl rfl xS_6 (Nat.le_of_ble_eq_true rfl) rfl (hR.1 6 3 rfl) ?_
  refine xx_aload_n (q := 38) rfl rfl rfl ?_
  refine xx_getR (q := 41) rfl rfl rfl xS_46 (Nat.le_of_ble_eq_true rfl) rfl (hR.1 46 3 rfl) ?_
  obtain ⟨E4, hx4, y0, y1, y2, y3, y4, y5, g4⟩ := c_ycpN (n := n) (D := E3) hR
  refine xx_callV (q := 44) (As := [_]) (rest := []) rfl rfl rfl (Or.inl rfl) rfl rfl (Nat.le_of_ble_eq_true rfl) xS_18 (XCm hx4 rfl) rfl ?_
  refine xx_aload_n (q := 45) rfl rfl rfl ?_
  refine xx_getR (q := 48) rfl rfl rfl xS_6 (Nat.le_of_ble_eq_true rfl) rfl (hR.1 6 4 rfl) ?_
  refine xx_aload_n (q := 49) rfl rfl rfl ?_
  refine xx_getR (q := 52) rfl rfl rfl xS_46 (Nat.le_of_ble_eq_true rfl) rfl (hR.1 46 4 rfl) ?_
  obtain ⟨E5, hx5, k0, kc, g5⟩ := c_bcpN (n := n) (D := E4) hR
  refine xx_callV (q := 55) (As := [_]) (rest := []) rfl rfl rfl (Or.inl rfl) rfl rfl (Nat.le_of_ble_eq_true rfl) xS_25 (XCm hx5 rfl) rfl ?_
  have g3_o : ∀ x k, x ≠ 15 → x ≠ c3 → E3 x k = E2 x k := g3
  have g4_o : ∀ x k, ¬ (18 ≤ x ∧ x ≤ 18 + 5) → E4 x k = E3 x k := fun x k q => g4 x k (by omega) (by omega) (by omega) (by omega) (by omega) (by omega)
  have g5_o : ∀ x k, x ≠ 25 → x ≠ 25 + 1 → E5 x k = E4 x k := g5
  refine xx_aload_n (q := 56) rfl rfl rfl ?_
  refine xx_getR (q := 59) rfl rfl rfl xS_6 (Nat.le_of_ble_eq_true rfl) rfl (hR.1 6 5 rfl) ?_
  refine xx_aload_n (q := 60) rfl rfl rfl ?_
  refine xx_getR (q := 63) rfl rfl rfl xS_46 (Nat.le_of_ble_eq_true rfl) rfl (hR.1 46 5 rfl) ?_
  have hcan : CK 67 X.1 E5 := CK_fr hS.1 (fun o k ho => by rw [g5_o _ _ (by omega) (by omega), g4_o _ _ (by omega), g3_o _ _ (by omega) (by omega), g2_o _ _ (by omega) (by omega), g1_o _ _ (by omega) (by omega)])
  obtain ⟨E6, hx6, hK6, hF6⟩ := c_copy (n := n) hR isC_27 isC_67 (by omega) hcan hX.1
  refine xx_callV (q := 66) (As := [_]) (rest := []) rfl rfl rfl (Or.inl rfl) rfl rfl (Nat.le_of_ble_eq_true rfl) (xSc_0 isC_27) (XCm hx6 rfl) rfl ?_
  refine xx_vret rfl rfl ⟨rfl, _, rfl, ?_⟩
  refine ⟨by rw [hF6 7 1 (by omega) (by omega) (by omega), g5_o 7 1 (by omega) (by omega), g4_o 7 1 (by omega), g3_o 7 1 (by omega) (by omega), g2_o 7 1 (by omega) (by omega)]; exact z1, by rw [hF6 11 1 (by omega) (by omega) (by omega), g5_o 11 1 (by omega) (by omega), g4_o 11 1 (by omega), g3_o 11 1 (by omega) (by omega), z2]; exact g1_o 11 1 (by omega) (by omega), ⟨hK6, ⟨(by rw [hF6 _ _ (by omega) (by omega) (by omega), k0, g4_o _ _ (by omega), g3_o _ _ (by omega) (by omega), g2_o _ _ (by omega) (by omega), g1_o _ _ (by omega) (by omega)]; exact hS.2.1.1), fun k hk => ?_⟩, hS.2.2.1.mv hX.2.1 (by rw [hF6 _ _ (by omega) (by omega) (by omega), g5_o _ _ (by omega) (by omega), y0, g3_o _ _ (by omega) (by omega), g2_o _ _ (by omega) (by omega), g1_o _ _ (by omega) (by omega)]) (fun k hk => by rw [hF6 _ _ (by omega) (by omega) (by omega), g5_o _ _ (by omega) (by omega), y1 k hk, g3_o _ _ (by omega) (by omega), g2_o _ _ (by omega) (by omega), g1_o _ _ (by omega) (by omega)]) (fun k hk => by rw [hF6 _ _ (by omega) (by omega) (by omega), g5_o _ _ (by omega) (by omega), y2 k hk, g3_o _ _ (by omega) (by omega), g2_o _ _ (by omega) (by omega), g1_o _ _ (by omega) (by omega)]) (fun k hk => by rw [hF6 _ _ (by omega) (by omega) (by omega), g5_o _ _ (by omega) (by omega), y3 k hk, g3_o _ _ (by omega) (by omega), g2_o _ _ (by omega) (by omega), g1_o _ _ (by omega) (by omega)]) (fun k hk => by rw [hF6 _ _ (by omega) (by omega) (by omega), g5_o _ _ (by omega) (by omega), y4 k hk, g3_o _ _ (by omega) (by omega), g2_o _ _ (by omega) (by omega), g1_o _ _ (by omega) (by omega)]) (fun k hk => by rw [hF6 _ _ (by omega) (by omega) (by omega), g5_o _ _ (by omega) (by omega), y5 k hk, g3_o _ _ (by omega) (by omega), g2_o _ _ (by omega) (by omega), g1_o _ _ (by omega) (by omega)]), hS.2.2.2.1.mv hX.2.2.1 (by rw [hF6 _ _ (by omega) (by omega) (by omega), g5_o _ _ (by omega) (by omega), g4_o _ _ (by omega), g3_o _ _ (by omega) (by omega), g2_o _ _ (by omega) (by omega), a0]) (by rw [hF6 _ _ (by omega) (by omega) (by omega), g5_o _ _ (by omega) (by omega), g4_o _ _ (by omega), g3_o _ _ (by omega) (by omega), g2_o _ _ (by omega) (by omega), a2]) (fun k hk => by rw [hF6 _ _ (by omega) (by omega) (by omega), g5_o _ _ (by omega) (by omega), g4_o _ _ (by omega), g3_o _ _ (by omega) (by omega), g2_o _ _ (by omega) (by omega), ac k hk]), hS.2.2.2.2.1.mv hX.2.2.2.1 (by rw [hF6 _ _ (by omega) (by omega) (by omega), g5_o _ _ (by omega) (by omega), g4_o _ _ (by omega), g3_o _ _ (by omega) (by omega), b0, g1_o _ _ (by omega) (by omega)]) (by rw [hF6 _ _ (by omega) (by omega) (by omega), g5_o _ _ (by omega) (by omega), g4_o _ _ (by omega), g3_o _ _ (by omega) (by omega), b2, g1_o _ _ (by omega) (by omega)]) (fun k hk => by rw [hF6 _ _ (by omega) (by omega) (by omega), g5_o _ _ (by omega) (by omega), g4_o _ _ (by omega), g3_o _ _ (by omega) (by omega), bc k hk, g1_o _ _ (by omega) (by omega)]), hS.2.2.2.2.2.mv hX.2.2.2.2 (by rw [hF6 _ _ (by omega) (by omega) (by omega), g5_o _ _ (by omega) (by omega), g4_o _ _ (by omega), p0, g2_o _ _ (by omega) (by omega), g1_o _ _ (by omega) (by omega)]) (fun k hk => by rw [hF6 _ _ (by omega) (by omega) (by omega), g5_o _ _ (by omega) (by omega), g4_o _ _ (by omega), pc k hk, g2_o _ _ (by omega) (by omega), g1_o _ _ (by omega) (by omega)])⟩, fun x k q q10 q14 => ?_⟩
  · rw [hF6 _ _ (by omega) (by omega) (by omega), kc k hk, g4_o _ _ (by omega), g3_o _ _ (by omega) (by omega), g2_o _ _ (by omega) (by omega), g1_o _ _ (by omega) (by omega)]
    exact hS.2.1.2 k hk
  · rw [hF6 x k (by omega) (by omega) (by omega), g5_o x k (by omega) (by omega), g4_o x k (by omega), g3_o x k (by omega) (by omega), g2_o x k (by omega) (by omega), g1_o x k (by omega) (by omega)]
theorem c_image2 {n c1 c2 c3 : Nat} {R : Nat → Nat → Option Nat} {D : KK} (hR : RF R) (h1 : R 7 3 = some c1) (q1 : c1 = 8 ∨ c1 = 9) (h2 : R 11 3 = some c2) (q2 : c2 = 12 ∨ c2 = 13) (h3 : R 15 4 = some c3) (q3 : c3 = 16 ∨ c3 = 17) (X : XX9) (hX : XI9 X) (hS : SnC 47 48 51 52 55 56 58 65 67 X D) (h0 : D 5 5 = 1) : ∃ D', XC 4 151 [.inr (some 5), .inl 0] (xS n, R, D) (some (.inl 1)) (xS n, R, D') ∧ ∃ D1, SnC 7 c1 11 c2 15 c3 18 25 27 X D1 ∧ (∀ x k, ¬ (7 ≤ x ∧ x ≤ 45) → x ≠ 10 → x ≠ 14 → D1 x k = D x k) ∧ D1 7 1 = D 7 1 ∧ D1 11 1 = D 11 1 ∧ D' = xui D1 86 0 0 := by
  refine XE_of (Nat.le_of_ble_eq_true rfl) (Nat.le_of_ble_eq_true rfl) (loc := [_, _]) rfl ?_
  refine xx_iload_n (q := 1) rfl rfl rfl ?_
  refine xx_if_eq (q := 23) (q2 := 4) rfl rfl rfl (fun _ => ?_) (fun h1 => (by exfalso; omega))
  refine xx_aload_n (q := 24) rfl rfl rfl ?_
  refine xx_gez (q := 27) rfl rfl rfl xS_5 (Nat.le_of_ble_eq_true rfl) rfl h0 ?_
  refine xx_if_eq (q := 48) (q2 := 30) rfl rfl rfl (fun h27 => (by exfalso; omega)) (fun _ => ?_)
  refine xx_aload_n (q := 31) rfl rfl rfl ?_
  refine xx_getR (q := 34) rfl rfl rfl xS_5 (Nat.le_of_ble_eq_true rfl) rfl (hR.1 5 0 rfl) ?_
  refine xx_aload_n (q := 35) rfl rfl rfl ?_
  refine xx_getR (q := 38) rfl rfl rfl xS_5 (Nat.le_of_ble_eq_true rfl) rfl (hR.1 5 1 rfl) ?_
  obtain ⟨D1, hx1, hz1, hz2, hS1, hf1⟩ := c_wcp2N (n := n) hR h1 q1 h2 q2 h3 q3 X hX hS
  refine xx_callV (q := 41) (As := [_]) (rest := []) rfl rfl rfl (Or.inl rfl) rfl rfl (Nat.le_of_ble_eq_true rfl) xS_6 (XCm hx1 rfl) rfl ?_
  refine xx_aload_n (q := 42) rfl rfl rfl ?_
  refine xx_getR (q := 45) rfl rfl rfl xS_5 (Nat.le_of_ble_eq_true rfl) rfl (hR.1 5 2 rfl) ?_
  refine xx_callV (q := 48) (As := []) (rest := []) rfl rfl rfl (Or.inl rfl) rfl rfl (Nat.le_of_ble_eq_true rfl) xS_86 (XCm (c_forgetR (n := n) hR) rfl) rfl ?_
  refine xx_aload_n (q := 49) rfl rfl rfl ?_
  refine xx_gez (q := 52) rfl rfl rfl xS_5 (Nat.le_of_ble_eq_true rfl) rfl ((xui_a (by omega)).trans ((hf1 5 5 (by omega) (by omega) (by omega)).trans h0)) ?_
  exact xx_iret rfl (Or.inr rfl) ⟨rfl, _, rfl, D1, hS1, hf1, hz1, hz2, rfl⟩
