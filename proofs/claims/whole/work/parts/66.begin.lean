/-! A canal begins: the class. -/
def bgnK (K : KK) (m : Int) : KK := fun o k => match o with
  | 0 => if k = 0 then m else if k = 3 then K 0 3 else 0
  | 1 => 100
  | 2 => 10
  | 3 => 0
  | 4 => 4
  | 5 => 0
  | 6 => 0
  | 8 => 0
  | 9 => -1
  | 10 => 0
  | 11 => 0
  | 12 => 0
  | 13 => 0
  | 17 => 0
  | o => K o k
theorem o_18 {K : KK} {o k : Nat} (h : k < cln K o) : o = 0 ∨ o = 1 ∨ o = 2 ∨ o = 3 ∨ o = 4 ∨ o = 5 ∨ o = 6 ∨ o = 8 ∨ o = 9 ∨ o = 10 ∨ o = 11 ∨ o = 12 ∨ o = 13 ∨ o = 14 ∨ o = 15 ∨ o = 16 ∨ o = 17 := by
  have h1 : ¬ o = 7 := fun e => by subst e; exact absurd h (Nat.not_lt_zero _)
  have h2 : o < 18 := by
    refine Decidable.byContradiction (fun q => ?_)
    unfold cln at h
    split at h <;> omega
  omega
theorem bgnK_I {K : KK} {m : Int} (h : KI K) (h1 : 1 ≤ m) (h2 : m ≤ 9) : KI (bgnK K m) := by
  intro o k
  match o with
  | 0 =>
    match k with
    | 0 => exact ⟨h1, h2⟩
    | 1 => exact ⟨by show (-2147483648 : Int) ≤ 0; decide, by show (0 : Int) ≤ 2147483647; decide⟩
    | 2 => exact ⟨by show (-2147483648 : Int) ≤ 0; decide, by show (0 : Int) ≤ 2147483647; decide⟩
    | 3 => exact h 0 3
    | k + 4 => exact ⟨by show (-2147483648 : Int) ≤ 0; decide, by show (0 : Int) ≤ 2147483647; decide⟩
  | 1 => exact ⟨by show (0 : Int) ≤ 100; decide, by show (100 : Int) ≤ 999; decide⟩
  | 2 => exact ⟨by show (1 : Int) ≤ 10; decide, by show (10 : Int) ≤ 50; decide⟩
  | 3 => exact ⟨by show (0 : Int) ≤ 0; decide, by show (0 : Int) ≤ 9; decide⟩
  | 4 => exact ⟨by show (1 : Int) ≤ 4; decide, by show (4 : Int) ≤ 9; decide⟩
  | 5 => exact ⟨by show (-2147483648 : Int) ≤ 0; decide, by show (0 : Int) ≤ 2147483647; decide⟩
  | 6 => exact ⟨by show (0 : Int) ≤ 0; decide, by show (0 : Int) ≤ 1000; decide⟩
  | 7 => exact h 7 k
  | 8 => exact ⟨by show (-99 : Int) ≤ 0; decide, by show (0 : Int) ≤ 99; decide⟩
  | 9 => exact ⟨by show (-1 : Int) ≤ -1; decide, by show (-1 : Int) ≤ 8; decide⟩
  | 10 => exact ⟨by show (-2147483648 : Int) ≤ 0; decide, by show (0 : Int) ≤ 2147483647; decide⟩
  | 11 => exact ⟨by show (-9 : Int) ≤ 0; decide, by show (0 : Int) ≤ 9; decide⟩
  | 12 => exact ⟨by show (-99 : Int) ≤ 0; decide, by show (0 : Int) ≤ 99; decide⟩
  | 13 => exact ⟨by show (0 : Int) ≤ 0; decide, by show (0 : Int) ≤ 6; decide⟩
  | 14 => exact h 14 k
  | 15 => exact h 15 k
  | 16 => exact h 16 k
  | 17 => exact ⟨by show (0 : Int) ≤ 0; decide, by show (0 : Int) ≤ 99; decide⟩
  | o + 18 => exact h (o + 18) k
def kbgD (D : KK) : KK := (xfl (xfl (xfl (xfl (xfl D (27 + 8) 9 0) (27 + 9) 9 (-1)) (27 + 10) 9 0) (27 + 11) 36 0) (27 + 12) 54 0)
theorem c_kbegin {n : Nat} {R : Nat → Nat → Option Nat} {D : KK} (hR : RF R) : XC 2 50 [.inr (some (27 + 7))] (xS n, R, D) none (xS n, R, kbgD D) := by
  refine XC_of (Nat.le_of_ble_eq_true rfl) (Nat.le_of_ble_eq_true rfl) (loc := [_]) rfl ?_
  refine xx_aload_n (q := 1) rfl rfl rfl ?_
  refine xx_getR (q := 4) rfl rfl rfl (xSc_7 isC_27) (Nat.le_of_ble_eq_true rfl) rfl (rc_mood hR isC_27) ?_
  refine xx_iconst (q := 5) rfl rfl (by decide) ?_
  refine xx_callS (q := 8) (As := [_, _]) (rest := []) rfl rfl rfl (Or.inl rfl) rfl rfl (Nat.le_of_ble_eq_true rfl) (XCm (j_fill (n := n) (D := D) 0 (N := 9) (by decide) (xSc_8 isC_27)) rfl) rfl ?_
  refine xx_aload_n (q := 9) rfl rfl rfl ?_
  refine xx_getR (q := 12) rfl rfl rfl (xSc_7 isC_27) (Nat.le_of_ble_eq_true rfl) rfl (rc_rival hR isC_27) ?_
  refine xx_iconst (q := 13) rfl rfl (by decide) ?_
  refine xx_callS (q := 16) (As := [_, _]) (rest := []) rfl rfl rfl (Or.inl rfl) rfl rfl (Nat.le_of_ble_eq_true rfl) (XCm (j_fill (n := n) (D := (xfl D (27 + 8) 9 0)) (-1) (N := 9) (by decide) (xSc_9 isC_27)) rfl) rfl ?_
  refine xx_aload_n (q := 17) rfl rfl rfl ?_
  refine xx_getR (q := 20) rfl rfl rfl (xSc_7 isC_27) (Nat.le_of_ble_eq_true rfl) rfl (rc_presents hR isC_27) ?_
  refine xx_iconst (q := 21) rfl rfl (by decide) ?_
  refine xx_callS (q := 24) (As := [_, _]) (rest := []) rfl rfl rfl (Or.inl rfl) rfl rfl (Nat.le_of_ble_eq_true rfl) (XCm (j_fill (n := n) (D := (xfl (xfl D (27 + 8) 9 0) (27 + 9) 9 (-1))) 0 (N := 9) (by decide) (xSc_10 isC_27)) rfl) rfl ?_
  refine xx_aload_n (q := 25) rfl rfl rfl ?_
  refine xx_getR (q := 28) rfl rfl rfl (xSc_7 isC_27) (Nat.le_of_ble_eq_true rfl) rfl (rc_taste hR isC_27) ?_
  refine xx_iconst (q := 29) rfl rfl (by decide) ?_
  refine xx_callS (q := 32) (As := [_, _]) (rest := []) rfl rfl rfl (Or.inl rfl) rfl rfl (Nat.le_of_ble_eq_true rfl) (XCm (j_fill (n := n) (D := (xfl (xfl (xfl D (27 + 8) 9 0) (27 + 9) 9 (-1)) (27 + 10) 9 0)) 0 (N := 36) (by decide) (xSc_11 isC_27)) rfl) rfl ?_
  refine xx_aload_n (q := 33) rfl rfl rfl ?_
  refine xx_getR (q := 36) rfl rfl rfl (xSc_7 isC_27) (Nat.le_of_ble_eq_true rfl) rfl (rc_liking hR isC_27) ?_
  refine xx_iconst (q := 37) rfl rfl (by decide) ?_
  refine xx_callS (q := 40) (As := [_, _]) (rest := []) rfl rfl rfl (Or.inl rfl) rfl rfl (Nat.le_of_ble_eq_true rfl) (XCm (j_fill (n := n) (D := (xfl (xfl (xfl (xfl D (27 + 8) 9 0) (27 + 9) 9 (-1)) (27 + 10) 9 0) (27 + 11) 36 0)) 0 (N := 54) (by decide) (xSc_12 isC_27)) rfl) rfl ?_
  exact xx_vret rfl rfl ⟨rfl, rfl⟩
def cbgD (D : KK) (m : Int) : KK := (xfl (xui (kbgD (xfl (xfl (xfl (xfl (xfl (xfl (xui (xui (xui D 27 0 m) 27 1 0) 27 2 0) (27 + 1) 10 100) (27 + 2) 9 10) (27 + 3) 9 0) (27 + 4) 9 4) (27 + 5) 9 0) (27 + 6) 5 0)) (27 + 13) 0 0) (27 + 17) 24 0)
theorem c_cbegin {n : Nat} {R : Nat → Nat → Option Nat} {D : KK} (hR : RF R) (m : Int) : XC 3 8 [.inr (some 27), .inl m] (xS n, R, D) none (xS n, R, cbgD D m) := by
  refine XC_of (Nat.le_of_ble_eq_true rfl) (Nat.le_of_ble_eq_true rfl) (loc := [_, _]) rfl ?_
  refine xx_aload_n (q := 1) rfl rfl rfl ?_
  refine xx_iload_n (q := 2) rfl rfl rfl ?_
  refine xx_puz (q := 5) rfl rfl rfl (xSc_0 isC_27) (Nat.le_of_ble_eq_true rfl) (Nat.le_of_ble_eq_true rfl) (fun h => by cases h) (Or.inl rfl) rfl ?_
  refine xx_aload_n (q := 6) rfl rfl rfl ?_
  refine xx_iconst (q := 7) rfl rfl (by decide) ?_
  refine xx_puz (q := 10) rfl rfl rfl (xSc_0 isC_27) (Nat.le_of_ble_eq_true rfl) (Nat.le_of_ble_eq_true rfl) (fun h => by cases h) (Or.inl rfl) rfl ?_
  refine xx_aload_n (q := 11) rfl rfl rfl ?_
  refine xx_iconst (q := 12) rfl rfl (by decide) ?_
  refine xx_puz (q := 15) rfl rfl rfl (xSc_0 isC_27) (Nat.le_of_ble_eq_true rfl) (Nat.le_of_ble_eq_true rfl) (fun h => by cases h) (Or.inl rfl) rfl ?_
  refine xx_aload_n (q := 16) rfl rfl rfl ?_
  refine xx_getR (q := 19) rfl rfl rfl (xSc_0 isC_27) (Nat.le_of_ble_eq_true rfl) rfl (rc_depth hR isC_27) ?_
  refine xx_bipush (q := 21) rfl rfl (by decide) ?_
  refine xx_callS (q := 24) (As := [_, _]) (rest := []) rfl rfl rfl (Or.inl rfl) rfl rfl (Nat.le_of_ble_eq_true rfl) (XCm (j_fill (n := n) (D := (xui (xui (xui D 27 0 m) 27 1 0) 27 2 0)) 100 (N := 10) (by decide) (xSc_1 isC_27)) rfl) rfl ?_
  refine xx_aload_n (q := 25) rfl rfl rfl ?_
  refine xx_getR (q := 28) rfl rfl rfl (xSc_0 isC_27) (Nat.le_of_ble_eq_true rfl) rfl (rc_fill hR isC_27) ?_
  refine xx_bipush (q := 30) rfl rfl (by decide) ?_
  refine xx_callS (q := 33) (As := [_, _]) (rest := []) rfl rfl rfl (Or.inl rfl) rfl rfl (Nat.le_of_ble_eq_true rfl) (XCm (j_fill (n := n) (D := (xfl (xui (xui (xui D 27 0 m) 27 1 0) 27 2 0) (27 + 1) 10 100)) 10 (N := 9) (by decide) (xSc_2 isC_27)) rfl) rfl ?_
  refine xx_aload_n (q := 34) rfl rfl rfl ?_
  refine xx_getR (q := 37) rfl rfl rfl (xSc_0 isC_27) (Nat.le_of_ble_eq_true rfl) rfl (rc_leak hR isC_27) ?_
  refine xx_iconst (q := 38) rfl rfl (by decide) ?_
  refine xx_callS (q := 41) (As := [_, _]) (rest := []) rfl rfl rfl (Or.inl rfl) rfl rfl (Nat.le_of_ble_eq_true rfl) (XCm (j_fill (n := n) (D := (xfl (xfl (xui (xui (xui D 27 0 m) 27 1 0) 27 2 0) (27 + 1) 10 100) (27 + 2) 9 10)) 0 (N := 9) (by decide) (xSc_3 isC_27)) rfl) rfl ?_
  refine xx_aload_n (q := 42) rfl rfl rfl ?_
  refine xx_getR (q := 45) rfl rfl rfl (xSc_0 isC_27) (Nat.le_of_ble_eq_true rfl) rfl (rc_wide hR isC_27) ?_
  refine xx_iconst (q := 46) rfl rfl (by decide) ?_
  refine xx_callS (q := 49) (As := [_, _]) (rest := []) rfl rfl rfl (Or.inl rfl) rfl rfl (Nat.le_of_ble_eq_true rfl) (XCm (j_fill (n := n) (D := (xfl (xfl (xfl (xui (xui (xui D 27 0 m) 27 1 0) 27 2 0) (27 + 1) 10 100) (27 + 2) 9 10) (27 + 3) 9 0)) 4 (N := 9) (by decide) (xSc_4 isC_27)) rfl) rfl ?_
  refine xx_aload_n (q := 50) rfl rfl rfl ?_
  refine xx_getR (q := 53) rfl rfl rfl (xSc_0 isC_27) (Nat.le_of_ble_eq_true rfl) rfl (rc_passes hR isC_27) ?_
  refine xx_iconst (q := 54) rfl rfl (by decide) ?_
  refine xx_callS (q := 57) (As := [_, _]) (rest := []) rfl rfl rfl (Or.inl rfl) rfl rfl (Nat.le_of_ble_eq_true rfl) (XCm (j_fill (n := n) (D := (xfl (xfl (xfl (xfl (xui (xui (xui D 27 0 m) 27 1 0) 27 2 0) (27 + 1) 10 100) (27 + 2) 9 10) (27 + 3) 9 0) (27 + 4) 9 4)) 0 (N := 9) (by decide) (xSc_5 isC_27)) rfl) rfl ?_
  refine xx_aload_n (q := 58) rfl rfl rfl ?_
  refine xx_getR (q := 61) rfl rfl rfl (xSc_0 isC_27) (Nat.le_of_ble_eq_true rfl) rfl (rc_weather hR isC_27) ?_
  refine xx_iconst (q := 62) rfl rfl (by decide) ?_
  refine xx_callS (q := 65) (As := [_, _]) (rest := []) rfl rfl rfl (Or.inl rfl) rfl rfl (Nat.le_of_ble_eq_true rfl) (XCm (j_fill (n := n) (D := (xfl (xfl (xfl (xfl (xfl (xui (xui (xui D 27 0 m) 27 1 0) 27 2 0) (27 + 1) 10 100) (27 + 2) 9 10) (27 + 3) 9 0) (27 + 4) 9 4) (27 + 5) 9 0)) 0 (N := 5) (by decide) (xSc_6 isC_27)) rfl) rfl ?_
  refine xx_aload_n (q := 66) rfl rfl rfl ?_
  refine xx_getR (q := 69) rfl rfl rfl (xSc_0 isC_27) (Nat.le_of_ble_eq_true rfl) rfl (rc_keepers hR isC_27) ?_
  refine xx_callV (q := 72) (As := []) (rest := []) rfl rfl rfl (Or.inl rfl) rfl rfl (Nat.le_of_ble_eq_true rfl) (xSc_7 isC_27) (XCm (c_kbegin (n := n) (D := (xfl (xfl (xfl (xfl (xfl (xfl (xui (xui (xui D 27 0 m) 27 1 0) 27 2 0) (27 + 1) 10 100) (27 + 2) 9 10) (27 + 3) 9 0) (27 + 4) 9 4) (27 + 5) 9 0) (27 + 6) 5 0)) hR) rfl) rfl ?_
  refine xx_aload_n (q := 73) rfl rfl rfl ?_
  refine xx_getR (q := 76) rfl rfl rfl (xSc_0 isC_27) (Nat.le_of_ble_eq_true rfl) rfl (rc_fleet hR isC_27) ?_
  refine xx_iconst (q := 77) rfl rfl (by decide) ?_
  refine xx_puz (q := 80) rfl rfl rfl (xSc_13 isC_27) (Nat.le_of_ble_eq_true rfl) (Nat.le_of_ble_eq_true rfl) (fun h => by cases h) (Or.inl rfl) rfl ?_
  refine xx_aload_n (q := 81) rfl rfl rfl ?_
  refine xx_getR (q := 84) rfl rfl rfl (xSc_0 isC_27) (Nat.le_of_ble_eq_true rfl) rfl (rc_fleet hR isC_27) ?_
  refine xx_getR (q := 87) rfl rfl rfl (xSc_13 isC_27) (Nat.le_of_ble_eq_true rfl) rfl (rc_cargo hR isC_27) ?_
  refine xx_iconst (q := 88) rfl rfl (by decide) ?_
  refine xx_callS (q := 91) (As := [_, _]) (rest := []) rfl rfl rfl (Or.inl rfl) rfl rfl (Nat.le_of_ble_eq_true rfl) (XCm (j_fill (n := n) (D := (xui (kbgD (xfl (xfl (xfl (xfl (xfl (xfl (xui (xui (xui D 27 0 m) 27 1 0) 27 2 0) (27 + 1) 10 100) (27 + 2) 9 10) (27 + 3) 9 0) (27 + 4) 9 4) (27 + 5) 9 0) (27 + 6) 5 0)) (27 + 13) 0 0)) 0 (N := 24) (by decide) (xSc_17 isC_27)) rfl) rfl ?_
  exact xx_vret rfl rfl ⟨rfl, rfl⟩
set_option maxHeartbeats 4000000 in
theorem CK_bgn {K D : KK} {m : Int} (h : CK 27 K D) : CK 27 (bgnK K m) (cbgD D m) := by
  intro o k hk
  have h3 : D 27 3 = K 0 3 := h 0 3 (Nat.le_of_ble_eq_true rfl)
  rcases o_18 hk with rfl | rfl | rfl | rfl | rfl | rfl | rfl | rfl | rfl | rfl | rfl | rfl | rfl | rfl | rfl | rfl | rfl
  · have hk2 : k < 4 := hk
    have e : k = 0 ∨ k = 1 ∨ k = 2 ∨ k = 3 := by omega
    rcases e with rfl | rfl | rfl | rfl
    · rfl
    · rfl
    · rfl
    · exact h3
  all_goals first
    | (exact absurd hk (Nat.not_lt_zero _))
    | (have hk2 : k < 1 := hk; obtain rfl : k = 0 := by omega
       rfl)
    | (have hk2 := hk; simp [cln] at hk2; simp [cbgD, kbgD, xfl, xui, bgnK, hk2]; done)
    | (exact (show _ = _ from by simp [cbgD, kbgD, xfl, xui]).trans (h _ k hk))
theorem Fr_bgn {D : KK} {m : Int} : ∀ x k, (x < 27 ∨ 46 ≤ x) → cbgD D m x k = D x k := by
  intro x k hx
  unfold cbgD kbgD xfl xui
  repeat first | rw [if_neg (by omega)] | dsimp only
theorem c_lclear7 {n : Nat} {R : Nat → Nat → Option Nat} {D : KK} (hR : RF R) : XC 1 62 [.inr (some 7)] (xS n, R, D) none (xS n, R, (xui (xui D 7 0 0) 7 2 0)) := by
  refine XC_of (Nat.le_of_ble_eq_true rfl) (Nat.le_of_ble_eq_true rfl) (loc := [_]) rfl ?_
  refine xx_aload_n (q := 1) rfl rfl rfl ?_
  refine xx_iconst (q := 2) rfl rfl (by decide) ?_
  refine xx_puz (q := 5) rfl rfl rfl xS_7 (Nat.le_of_ble_eq_true rfl) (Nat.le_of_ble_eq_true rfl) (fun h => by cases h) (Or.inl rfl) rfl ?_
  refine xx_aload_n (q := 6) rfl rfl rfl ?_
  refine xx_iconst (q := 7) rfl rfl (by decide) ?_
  refine xx_puz (q := 10) rfl rfl rfl xS_7 (Nat.le_of_ble_eq_true rfl) (Nat.le_of_ble_eq_true rfl) (fun h => by cases h) (Or.inl rfl) rfl ?_
  exact xx_vret rfl rfl ⟨rfl, rfl⟩
theorem c_lclear11 {n : Nat} {R : Nat → Nat → Option Nat} {D : KK} (hR : RF R) : XC 1 62 [.inr (some 11)] (xS n, R, D) none (xS n, R, (xui (xui D 11 0 0) 11 2 0)) := by
  refine XC_of (Nat.le_of_ble_eq_true rfl) (Nat.le_of_ble_eq_true rfl) (loc := [_]) rfl ?_
  refine xx_aload_n (q := 1) rfl rfl rfl ?_
  refine xx_iconst (q := 2) rfl rfl (by decide) ?_
  refine xx_puz (q := 5) rfl rfl rfl xS_11 (Nat.le_of_ble_eq_true rfl) (Nat.le_of_ble_eq_true rfl) (fun h => by cases h) (Or.inl rfl) rfl ?_
  refine xx_aload_n (q := 6) rfl rfl rfl ?_
  refine xx_iconst (q := 7) rfl rfl (by decide) ?_
  refine xx_puz (q := 10) rfl rfl rfl xS_11 (Nat.le_of_ble_eq_true rfl) (Nat.le_of_ble_eq_true rfl) (fun h => by cases h) (Or.inl rfl) rfl ?_
  exact xx_vret rfl rfl ⟨rfl, rfl⟩
theorem c_yclear {n : Nat} {R : Nat → Nat → Option Nat} {D : KK} (hR : RF R) : XC 2 42 [.inr (some 18)] (xS n, R, D) none (xS n, R, (xfl (xfl (xui D 18 0 0) 22 10 0) 23 10 0)) := by
  refine XC_of (Nat.le_of_ble_eq_true rfl) (Nat.le_of_ble_eq_true rfl) (loc := [_]) rfl ?_
  refine xx_aload_n (q := 1) rfl rfl rfl ?_
  refine xx_iconst (q := 2) rfl rfl (by decide) ?_
  refine xx_puz (q := 5) rfl rfl rfl xS_18 (Nat.le_of_ble_eq_true rfl) (Nat.le_of_ble_eq_true rfl) (fun h => by cases h) (Or.inl rfl) rfl ?_
  refine xx_aload_n (q := 6) rfl rfl rfl ?_
  refine xx_getR (q := 9) rfl rfl rfl xS_18 (Nat.le_of_ble_eq_true rfl) rfl (hR.1 18 4 rfl) ?_
  refine xx_iconst (q := 10) rfl rfl (by decide) ?_
  refine xx_callS (q := 13) (As := [_, _]) (rest := []) rfl rfl rfl (Or.inl rfl) rfl rfl (Nat.le_of_ble_eq_true rfl) (XCm (j_fill (n := n) (D := (xui D 18 0 0)) 0 (N := 10) (by decide) xS_22) rfl) rfl ?_
  refine xx_aload_n (q := 14) rfl rfl rfl ?_
  refine xx_getR (q := 17) rfl rfl rfl xS_18 (Nat.le_of_ble_eq_true rfl) rfl (hR.1 18 5 rfl) ?_
  refine xx_iconst (q := 18) rfl rfl (by decide) ?_
  refine xx_callS (q := 21) (As := [_, _]) (rest := []) rfl rfl rfl (Or.inl rfl) rfl rfl (Nat.le_of_ble_eq_true rfl) (XCm (j_fill (n := n) (D := (xfl (xui D 18 0 0) 22 10 0)) 0 (N := 10) (by decide) xS_23) rfl) rfl ?_
  exact xx_vret rfl rfl ⟨rfl, rfl⟩
def wbgD (D : KK) (m : Int) : KK := (cbgD (xui (xfl (xfl (xui (xui (xui (xui (xui (xui D 7 0 0) 7 2 0) 11 0 0) 11 2 0) 15 0 0) 18 0 0) 22 10 0) 23 10 0) 25 0 0) m)
theorem c_wbegin {n : Nat} {R : Nat → Nat → Option Nat} {D : KK} (hR : RF R) (m : Int) : XC 4 114 [.inr (some 6), .inl m] (xS n, R, D) none (xS n, R, wbgD D m) := by
  refine XC_of (Nat.le_of_ble_eq_true rfl) (Nat.le_of_ble_eq_true rfl) (loc := [_, _]) rfl ?_
  refine xx_aload_n (q := 1) rfl rfl rfl ?_
  refine xx_getR (q := 4) rfl rfl rfl xS_6 (Nat.le_of_ble_eq_true rfl) rfl (hR.1 6 0 rfl) ?_
  refine xx_callV (q := 7) (As := []) (rest := []) rfl rfl rfl (Or.inl rfl) rfl rfl (Nat.le_of_ble_eq_true rfl) xS_7 (XCm (c_lclear7 (n := n) (D := D) hR) rfl) rfl ?_
  refine xx_aload_n (q := 8) rfl rfl rfl ?_
  refine xx_getR (q := 11) rfl rfl rfl xS_6 (Nat.le_of_ble_eq_true rfl) rfl (hR.1 6 1 rfl) ?_
  refine xx_callV (q := 14) (As := []) (rest := []) rfl rfl rfl (Or.inl rfl) rfl rfl (Nat.le_of_ble_eq_true rfl) xS_11 (XCm (c_lclear11 (n := n) (D := (xui (xui D 7 0 0) 7 2 0)) hR) rfl) rfl ?_
  refine xx_aload_n (q := 15) rfl rfl rfl ?_
  refine xx_getR (q := 18) rfl rfl rfl xS_6 (Nat.le_of_ble_eq_true rfl) rfl (hR.1 6 2 rfl) ?_
  refine xx_iconst (q := 19) rfl rfl (by decide) ?_
  refine xx_puz (q := 22) rfl rfl rfl xS_15 (Nat.le_of_ble_eq_true rfl) (Nat.le_of_ble_eq_true rfl) (fun h => by cases h) (Or.inl rfl) rfl ?_
  refine xx_aload_n (q := 23) rfl rfl rfl ?_
  refine xx_getR (q := 26) rfl rfl rfl xS_6 (Nat.le_of_ble_eq_true rfl) rfl (hR.1 6 3 rfl) ?_
  refine xx_callV (q := 29) (As := []) (rest := []) rfl rfl rfl (Or.inl rfl) rfl rfl (Nat.le_of_ble_eq_true rfl) xS_18 (XCm (c_yclear (n := n) (D := (xui (xui (xui (xui (xui D 7 0 0) 7 2 0) 11 0 0) 11 2 0) 15 0 0)) hR) rfl) rfl ?_
  refine xx_aload_n (q := 30) rfl rfl rfl ?_
  refine xx_getR (q := 33) rfl rfl rfl xS_6 (Nat.le_of_ble_eq_true rfl) rfl (hR.1 6 4 rfl) ?_
  refine xx_iconst (q := 34) rfl rfl (by decide) ?_
  refine xx_puz (q := 37) rfl rfl rfl xS_25 (Nat.le_of_ble_eq_true rfl) (Nat.le_of_ble_eq_true rfl) (fun h => by cases h) (Or.inl rfl) rfl ?_
  refine xx_aload_n (q := 38) rfl rfl rfl ?_
  refine xx_getR (q := 41) rfl rfl rfl xS_6 (Nat.le_of_ble_eq_true rfl) rfl (hR.1 6 5 rfl) ?_
  refine xx_iload_n (q := 42) rfl rfl rfl ?_
  refine xx_callV (q := 45) (As := [_]) (rest := []) rfl rfl rfl (Or.inl rfl) rfl rfl (Nat.le_of_ble_eq_true rfl) (xSc_0 isC_27) (XCm (c_cbegin (n := n) (D := (xui (xfl (xfl (xui (xui (xui (xui (xui (xui D 7 0 0) 7 2 0) 11 0 0) 11 2 0) 15 0 0) 18 0 0) 22 10 0) 23 10 0) 25 0 0)) hR m) rfl) rfl ?_
  exact xx_vret rfl rfl ⟨rfl, rfl⟩
def wbg0 (D : KK) : KK := (xui (xfl (xfl (xui (xui (xui (xui (xui (xui D 7 0 0) 7 2 0) 11 0 0) 11 2 0) 15 0 0) 18 0 0) 22 10 0) 23 10 0) 25 0 0)
theorem wbg_e {D : KK} {m : Int} : wbgD D m = cbgD (wbg0 D) m := rfl
theorem wbg0_f {D : KK} : ∀ x k, x ≠ 7 → x ≠ 11 → x ≠ 15 → x ≠ 18 → x ≠ 22 → x ≠ 23 → x ≠ 25 → wbg0 D x k = D x k := by
  intro x k h1 h2 h3 h4 h5 h6 h7
  unfold wbg0 xfl xui
  repeat first | rw [if_neg (by omega)] | dsimp only
/-- what lies there behind a beginning -/
def Bgn (D E : KK) : Prop := E 7 0 = 0 ∧ E 7 2 = 0 ∧ E 11 0 = 0 ∧ E 11 2 = 0 ∧ E 15 0 = 0 ∧ E 18 0 = 0 ∧ (∀ k, k < 10 → E 22 k = 0 ∧ E 23 k = 0) ∧ ∀ x k, (x < 7 ∨ x = 8 ∨ x = 9 ∨ x = 12 ∨ x = 13 ∨ x = 16 ∨ x = 17 ∨ (46 ≤ x ∧ x < 86) ∨ 279 ≤ x) → E x k = D x k
theorem NWd.begin {K : KK} {b : Int} {B : Nat → Int} {U : UU} {D0 D : KK} {m : Int} (h : NWd K b B U D0 D) : NWd (bgnK K m) 0 B [] (xui (wbgD D m) 86 0 0) (xui (wbgD D m) 86 0 0) ∧ Bgn D (xui (wbgD D m) 86 0 0) := by
  have hc : CK 27 K (wbg0 D) := CK_fr h.1 (fun o k ho => wbg0_f _ _ (by omega) (by omega) (by omega) (by omega) (by omega) (by omega) (by omega))
  have hf : ∀ x k, (x < 27 ∨ 46 ≤ x) → wbgD D m x k = wbg0 D x k := fun x k hx => Fr_bgn x k hx
  have hP : PS U (wbgD D m) := h.2.2.1.fr (fun x k q1 q2 => (hf x k (by omega)).trans (wbg0_f _ _ (by omega) (by omega) (by omega) (by omega) (by omega) (by omega) (by omega)))
  have hb0 : wbg0 D 25 0 = 0 := xui_s
  refine ⟨⟨CK_fr (CK_bgn hc) (fun o k ho => xui_a (by omega)), ⟨(xui_a (by omega)).trans ((hf 25 0 (by omega)).trans hb0), Int.le_refl _, by omega, fun k hk => (xui_a (by omega)).trans ((hf 26 k (by omega)).trans ((wbg0_f _ _ (by omega) (by omega) (by omega) (by omega) (by omega) (by omega) (by omega)).trans (h.2.1.2.2.2 k hk)))⟩, hP.forget, FN.rf⟩, rfl, rfl, rfl, rfl, rfl, rfl, fun k hk => ⟨?_, ?_⟩, fun x k hx => (xui_a (by omega)).trans ((hf x k (by omega)).trans (wbg0_f _ _ (by omega) (by omega) (by omega) (by omega) (by omega) (by omega) (by omega)))⟩
  · refine (xui_a (by omega)).trans ((hf 22 k (by omega)).trans ?_)
    unfold wbg0
    refine (xui_a (by omega)).trans ((xfl_a (by omega)).trans ?_)
    exact xfl_s hk
  · refine (xui_a (by omega)).trans ((hf 23 k (by omega)).trans ?_)
    unfold wbg0
    refine (xui_a (by omega)).trans ?_
    exact xfl_s hk
theorem c_forgetR {n : Nat} {R : Nat → Nat → Option Nat} {D : KK} (hR : RF R) : XC 1 80 [.inr (some 86)] (xS n, R, D) none (xS n, R, xui D 86 0 0) := by
  refine XC_of (Nat.le_of_ble_eq_true rfl) (Nat.le_of_ble_eq_true rfl) (loc := [_]) rfl ?_
  refine xx_aload_n (q := 1) rfl rfl rfl ?_
  refine xx_iconst (q := 2) rfl rfl (by decide) ?_
  refine xx_puz (q := 5) rfl rfl rfl xS_86 (Nat.le_of_ble_eq_true rfl) (Nat.le_of_ble_eq_true rfl) (fun h => by cases h) (Or.inl rfl) rfl ?_
  exact xx_vret rfl rfl ⟨rfl, rfl⟩
set_option maxHeartbeats 1000000 in
theorem c_canal {n : Nat} {R : Nat → Nat → Option Nat} {D K : KK} {b : Int} {B : Nat → Int} {U : UU} (hR : RF R) (hW : NWd K b B U D D) (hI : KI K) (m : Int) : ∃ D', XC 5 118 [.inr (some 5), .inl m] (xS n, R, D) (some (.inl (bi (1 ≤ m ∧ m ≤ 9)))) (xS n, R, D') ∧ (if 1 ≤ m ∧ m ≤ 9 then NWd (bgnK K m) 0 B [] D' D' ∧ Bgn D D' else D' = D) := by
  refine XE_of (Nat.le_of_ble_eq_true rfl) (Nat.le_of_ble_eq_true rfl) (loc := [_, _]) rfl ?_
  refine xx_iload_n (q := 1) rfl rfl rfl ?_
  refine xx_iconst (q := 2) rfl rfl (by decide) ?_
  refine xx_bipush (q := 4) rfl rfl (by decide) ?_
  refine xx_callS (q := 7) (As := [_, _, _]) (rest := []) rfl rfl rfl (Or.inl rfl) rfl rfl (Nat.le_of_ble_eq_true rfl) (XCm (c_within m 1 9) rfl) rfl ?_
  refine xx_ifb_ne (q := 12) (q2 := 10) rfl rfl rfl (fun h7 => ?_) (fun h7 => ?_)
  · refine xx_aload_n (q := 13) rfl rfl rfl ?_
    refine xx_getR (q := 16) rfl rfl rfl xS_5 (Nat.le_of_ble_eq_true rfl) rfl (hR.1 5 0 rfl) ?_
    refine xx_iload_n (q := 17) rfl rfl rfl ?_
    refine xx_callV (q := 20) (As := [_]) (rest := []) rfl rfl rfl (Or.inl rfl) rfl rfl (Nat.le_of_ble_eq_true rfl) xS_6 (XCm (c_wbegin (n := n) (D := D) hR m) rfl) rfl ?_
    refine xx_aload_n (q := 21) rfl rfl rfl ?_
    refine xx_getR (q := 24) rfl rfl rfl xS_5 (Nat.le_of_ble_eq_true rfl) rfl (hR.1 5 2 rfl) ?_
    refine xx_callV (q := 27) (As := []) (rest := []) rfl rfl rfl (Or.inl rfl) rfl rfl (Nat.le_of_ble_eq_true rfl) xS_86 (XCm (c_forgetR (n := n) (D := (wbgD D m)) hR) rfl) rfl ?_
    refine xx_iconst (q := 28) rfl rfl (by decide) ?_
    refine xx_iret rfl (Or.inr rfl) ⟨congrArg (fun z => some (Sum.inl z)) (by exact (bi_t h7).symm), _, rfl, ?_⟩
    show (if 1 ≤ m ∧ m ≤ 9 then _ else _)
    rw [if_pos h7]
    exact hW.begin
  · refine xx_iconst (q := 11) rfl rfl (by decide) ?_
    refine xx_iret rfl (Or.inl rfl) ⟨congrArg (fun z => some (Sum.inl z)) (by exact (bi_f h7).symm), _, rfl, ?_⟩
    show (if 1 ≤ m ∧ m ≤ 9 then _ else _)
    rw [if_neg h7]
