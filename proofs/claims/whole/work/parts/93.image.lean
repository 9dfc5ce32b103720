/-! The image: the class. -/
theorem sh_cc {n cc : Nat} (h : cc = 8 ∨ cc = 9) : (xS n)[cc]? = some (0, 400) := by
  rcases h with e | e
  · rw [e]; exact xS_8
  · rw [e]; exact xS_9
theorem sh_ch {n cc : Nat} (h : cc = 12 ∨ cc = 13) : (xS n)[cc]? = some (0, 400) := by
  rcases h with e | e
  · rw [e]; exact xS_12
  · rw [e]; exact xS_13
theorem sh_sa {n cc : Nat} (h : cc = 16 ∨ cc = 17) : (xS n)[cc]? = some (0, 150) := by
  rcases h with e | e
  · rw [e]; exact xS_16
  · rw [e]; exact xS_17
set_option maxHeartbeats 2000000 in
theorem c_lcpGN {n cc : Nat} {R : Nat → Nat → Option Nat} {D : KK} (hR : RF R) (hcc : R 7 3 = some cc) (hcc2 : cc = 8 ∨ cc = 9) : ∃ D', XC 1 63 [.inr (some 7), .inr (some 47)] (xS n, R, D) none (xS n, R, D') ∧ D' 7 0 = D 47 0 ∧ D' 7 2 = D 47 2 ∧ (∀ k, k < 400 → D' cc k = D 48 k) ∧ ∀ x k, x ≠ 7 → x ≠ cc → D' x k = D x k := by
  have hscc := sh_cc (n := n) hcc2
  refine XE_of (Nat.le_of_ble_eq_true rfl) (Nat.le_of_ble_eq_true rfl) (loc := [_, _]) rfl ?_
  refine xx_aload_n (q := 1) rfl rfl rfl ?_
  refine xx_aload_n (q := 2) rfl rfl rfl ?_
  refine xx_gez (q := 5) rfl rfl rfl xS_47 (Nat.le_of_ble_eq_true rfl) rfl rfl ?_
  refine xx_puz (q := 8) rfl rfl rfl xS_7 (Nat.le_of_ble_eq_true rfl) (Nat.le_of_ble_eq_true rfl) (fun h => by cases h) (Or.inl rfl) rfl ?_
  refine xx_aload_n (q := 9) rfl rfl rfl ?_
  refine xx_aload_n (q := 10) rfl rfl rfl ?_
  refine xx_gez (q := 13) rfl rfl rfl xS_47 (Nat.le_of_ble_eq_true rfl) rfl rfl ?_
  refine xx_puz (q := 16) rfl rfl rfl xS_7 (Nat.le_of_ble_eq_true rfl) (Nat.le_of_ble_eq_true rfl) (fun h => by cases h) (Or.inl rfl) rfl ?_
  refine xx_aload_n (q := 17) rfl rfl rfl ?_
  refine xx_getR (q := 20) rfl rfl rfl xS_47 (Nat.le_of_ble_eq_true rfl) rfl (hR.1 47 3 rfl) ?_
  refine xx_iconst (q := 21) rfl rfl (by decide) ?_
  refine xx_aload_n (q := 22) rfl rfl rfl ?_
  refine xx_getR (q := 25) rfl rfl rfl xS_7 (Nat.le_of_ble_eq_true rfl) rfl (hcc) ?_
  refine xx_iconst (q := 26) rfl rfl (by decide) ?_
  refine xx_aload_n (q := 27) rfl rfl rfl ?_
  refine xx_getR (q := 30) rfl rfl rfl xS_7 (Nat.le_of_ble_eq_true rfl) rfl (hcc) ?_
  refine xx_alen (q := 31) rfl rfl hscc (by decide) (Nat.le_of_ble_eq_true rfl) ?_
  refine xx_copy (q := 34) (zn := 400) (dn := 0) (sn := 0) rfl rfl rfl xS_48 hscc rfl rfl rfl (by decide) (by decide) (Nat.le_of_ble_eq_true rfl) ?_
  refine xx_vret rfl rfl ⟨rfl, _, rfl, ?_⟩
  exact ⟨(by unfold xcp xui; grind), (by unfold xcp xui; grind), (fun k hk => by unfold xcp xui; grind), (fun x k q0 q1 => by unfold xcp xui; grind)⟩
set_option maxHeartbeats 2000000 in
theorem c_lcpGP {n cc : Nat} {R : Nat → Nat → Option Nat} {D : KK} (hR : RF R) (hcc : R 7 3 = some cc) (hcc2 : cc = 8 ∨ cc = 9) : ∃ D', XC 1 63 [.inr (some 47), .inr (some 7)] (xS n, R, D) none (xS n, R, D') ∧ D' 47 0 = D 7 0 ∧ D' 47 2 = D 7 2 ∧ (∀ k, k < 400 → D' 48 k = D cc k) ∧ ∀ x k, x ≠ 47 → x ≠ 48 → D' x k = D x k := by
  have hscc := sh_cc (n := n) hcc2
  refine XE_of (Nat.le_of_ble_eq_true rfl) (Nat.le_of_ble_eq_true rfl) (loc := [_, _]) rfl ?_
  refine xx_aload_n (q := 1) rfl rfl rfl ?_
  refine xx_aload_n (q := 2) rfl rfl rfl ?_
  refine xx_gez (q := 5) rfl rfl rfl xS_7 (Nat.le_of_ble_eq_true rfl) rfl rfl ?_
  refine xx_puz (q := 8) rfl rfl rfl xS_47 (Nat.le_of_ble_eq_true rfl) (Nat.le_of_ble_eq_true rfl) (fun h => by cases h) (Or.inl rfl) rfl ?_
  refine xx_aload_n (q := 9) rfl rfl rfl ?_
  refine xx_aload_n (q := 10) rfl rfl rfl ?_
  refine xx_gez (q := 13) rfl rfl rfl xS_7 (Nat.le_of_ble_eq_true rfl) rfl rfl ?_
  refine xx_puz (q := 16) rfl rfl rfl xS_47 (Nat.le_of_ble_eq_true rfl) (Nat.le_of_ble_eq_true rfl) (fun h => by cases h) (Or.inl rfl) rfl ?_
  refine xx_aload_n (q := 17) rfl rfl rfl ?_
  refine xx_getR (q := 20) rfl rfl rfl xS_7 (Nat.le_of_ble_eq_true rfl) rfl (hcc) ?_
  refine xx_iconst (q := 21) rfl rfl (by decide) ?_
  refine xx_aload_n (q := 22) rfl rfl rfl ?_
  refine xx_getR (q := 25) rfl rfl rfl xS_47 (Nat.le_of_ble_eq_true rfl) rfl (hR.1 47 3 rfl) ?_
  refine xx_iconst (q := 26) rfl rfl (by decide) ?_
  refine xx_aload_n (q := 27) rfl rfl rfl ?_
  refine xx_getR (q := 30) rfl rfl rfl xS_47 (Nat.le_of_ble_eq_true rfl) rfl (hR.1 47 3 rfl) ?_
  refine xx_alen (q := 31) rfl rfl xS_48 (by decide) (Nat.le_of_ble_eq_true rfl) ?_
  refine xx_copy (q := 34) (zn := 400) (dn := 0) (sn := 0) rfl rfl rfl hscc xS_48 rfl rfl rfl (by decide) (by decide) (Nat.le_of_ble_eq_true rfl) ?_
  refine xx_vret rfl rfl ⟨rfl, _, rfl, ?_⟩
  exact ⟨(by unfold xcp xui; grind), (by unfold xcp xui; grind), (fun k hk => by unfold xcp xui; grind), (fun x k q0 q1 => by unfold xcp xui; grind)⟩
set_option maxHeartbeats 2000000 in
theorem c_lcpHN {n cc : Nat} {R : Nat → Nat → Option Nat} {D : KK} (hR : RF R) (hcc : R 11 3 = some cc) (hcc2 : cc = 12 ∨ cc = 13) : ∃ D', XC 1 63 [.inr (some 11), .inr (some 51)] (xS n, R, D) none (xS n, R, D') ∧ D' 11 0 = D 51 0 ∧ D' 11 2 = D 51 2 ∧ (∀ k, k < 400 → D' cc k = D 52 k) ∧ ∀ x k, x ≠ 11 → x ≠ cc → D' x k = D x k := by
  have hscc := sh_ch (n := n) hcc2
  refine XE_of (Nat.le_of_ble_eq_true rfl) (Nat.le_of_ble_eq_true rfl) (loc := [_, _]) rfl ?_
  refine xx_aload_n (q := 1) rfl rfl rfl ?_
  refine xx_aload_n (q := 2) rfl rfl rfl ?_
  refine xx_gez (q := 5) rfl rfl rfl xS_51 (Nat.le_of_ble_eq_true rfl) rfl rfl ?_
  refine xx_puz (q := 8) rfl rfl rfl xS_11 (Nat.le_of_ble_eq_true rfl) (Nat.le_of_ble_eq_true rfl) (fun h => by cases h) (Or.inl rfl) rfl ?_
  refine xx_aload_n (q := 9) rfl rfl rfl ?_
  refine xx_aload_n (q := 10) rfl rfl rfl ?_
  refine xx_gez (q := 13) rfl rfl rfl xS_51 (Nat.le_of_ble_eq_true rfl) rfl rfl ?_
  refine xx_puz (q := 16) rfl rfl rfl xS_11 (Nat.le_of_ble_eq_true rfl) (Nat.le_of_ble_eq_true rfl) (fun h => by cases h) (Or.inl rfl) rfl ?_
  refine xx_aload_n (q := 17) rfl rfl rfl ?_
  refine xx_getR (q := 20) rfl rfl rfl xS_51 (Nat.le_of_ble_eq_true rfl) rfl (hR.1 51 3 rfl) ?_
  refine xx_iconst (q := 21) rfl rfl (by decide) ?_
  refine xx_aload_n (q := 22) rfl rfl rfl ?_
  refine xx_getR (q := 25) rfl rfl rfl xS_11 (Nat.le_of_ble_eq_true rfl) rfl (hcc) ?_
  refine xx_iconst (q := 26) rfl rfl (by decide) ?_
  refine xx_aload_n (q := 27) rfl rfl rfl ?_
  refine xx_getR (q := 30) rfl rfl rfl xS_11 (Nat.le_of_ble_eq_true rfl) rfl (hcc) ?_
  refine xx_alen (q := 31) rfl rfl hscc (by decide) (Nat.le_of_ble_eq_true rfl) ?_
  refine xx_copy (q := 34) (zn := 400) (dn := 0) (sn := 0) rfl rfl rfl xS_52 hscc rfl rfl rfl (by decide) (by decide) (Nat.le_of_ble_eq_true rfl) ?_
  refine xx_vret rfl rfl ⟨rfl, _, rfl, ?_⟩
  exact ⟨(by unfold xcp xui; grind), (by unfold xcp xui; grind), (fun k hk => by unfold xcp xui; grind), (fun x k q0 q1 => by unfold xcp xui; grind)⟩
set_option maxHeartbeats 2000000 in
theorem c_lcpHP {n cc : Nat} {R : Nat → Nat → Option Nat} {D : KK} (hR : RF R) (hcc : R 11 3 = some cc) (hcc2 : cc = 12 ∨ cc = 13) : ∃ D', XC 1 63 [.inr (some 51), .inr (some 11)] (xS n, R, D) none (xS n, R, D') ∧ D' 51 0 = D 11 0 ∧ D' 51 2 = D 11 2 ∧ (∀ k, k < 400 → D' 52 k = D cc k) ∧ ∀ x k, x ≠ 51 → x ≠ 52 → D' x k = D x k := by
  have hscc := sh_ch (n := n) hcc2
  refine XE_of (Nat.le_of_ble_eq_true rfl) (Nat.le_of_ble_eq_true rfl) (loc := [_, _]) rfl ?_
  refine xx_aload_n (q := 1) rfl rfl rfl ?_
  refine xx_aload_n (q := 2) rfl rfl rfl ?_
  refine xx_gez (q := 5) rfl rfl rfl xS_11 (Nat.le_of_ble_eq_true rfl) rfl rfl ?_
  refine xx_puz (q := 8) rfl rfl rfl xS_51 (Nat.le_of_ble_eq_true rfl) (Nat.le_of_ble_eq_true rfl) (fun h => by cases h) (Or.inl rfl) rfl ?_
  refine xx_aload_n (q := 9) rfl rfl rfl ?_
  refine xx_aload_n (q := 10) rfl rfl rfl ?_
  refine xx_gez (q := 13) rfl rfl rfl xS_11 (Nat.le_of_ble_eq_true rfl) rfl rfl ?_
  refine xx_puz (q := 16) rfl rfl rfl xS_51 (Nat.le_of_ble_eq_true rfl) (Nat.le_of_ble_eq_true rfl) (fun h => by cases h) (Or.inl rfl) rfl ?_
  refine xx_aload_n (q := 17) rfl rfl rfl ?_
  refine xx_getR (q := 20) rfl rfl rfl xS_11 (Nat.le_of_ble_eq_true rfl) rfl (hcc) ?_
  refine xx_iconst (q := 21) rfl rfl (by decide) ?_
  refine xx_aload_n (q := 22) rfl rfl rfl ?_
  refine xx_getR (q := 25) rfl rfl rfl xS_51 (Nat.le_of_ble_eq_true rfl) rfl (hR.1 51 3 rfl) ?_
  refine xx_iconst (q := 26) rfl rfl (by decide) ?_
  refine xx_aload_n (q := 27) rfl rfl rfl ?_
  refine xx_getR (q := 30) rfl rfl rfl xS_51 (Nat.le_of_ble_eq_true rfl) rfl (hR.1 51 3 rfl) ?_
  refine xx_alen (q := 31) rfl rfl xS_52 (by decide) (Nat.le_of_ble_eq_true rfl) ?_
  refine xx_copy (q := 34) (zn := 400) (dn := 0) (sn := 0) rfl rfl rfl hscc xS_52 rfl rfl rfl (by decide) (by decide) (Nat.le_of_ble_eq_true rfl) ?_
  refine xx_vret rfl rfl ⟨rfl, _, rfl, ?_⟩
  exact ⟨(by unfold xcp xui; grind), (by unfold xcp xui; grind), (fun k hk => by unfold xcp xui; grind), (fun x k q0 q1 => by unfold xcp xui; grind)⟩
set_option maxHeartbeats 2000000 in
theorem c_pcpN {n cc : Nat} {R : Nat → Nat → Option Nat} {D : KK} (hR : RF R) (hcc : R 15 4 = some cc) (hcc2 : cc = 16 ∨ cc = 17) : ∃ D', XC 1 82 [.inr (some 15), .inr (some 55)] (xS n, R, D) none (xS n, R, D') ∧ D' 15 0 = D 55 0 ∧ (∀ k, k < 150 → D' cc k = D 56 k) ∧ ∀ x k, x ≠ 15 → x ≠ cc → D' x k = D x k := by
  have hscc := sh_sa (n := n) hcc2
  refine XE_of (Nat.le_of_ble_eq_true rfl) (Nat.le_of_ble_eq_true rfl) (loc := [_, _]) rfl ?_
  refine xx_aload_n (q := 1) rfl rfl rfl ?_
  refine xx_aload_n (q := 2) rfl rfl rfl ?_
  refine xx_gez (q := 5) rfl rfl rfl xS_55 (Nat.le_of_ble_eq_true rfl) rfl rfl ?_
  refine xx_puz (q := 8) rfl rfl rfl xS_15 (Nat.le_of_ble_eq_true rfl) (Nat.le_of_ble_eq_true rfl) (fun h => by cases h) (Or.inl rfl) rfl ?_
  refine xx_aload_n (q := 9) rfl rfl rfl ?_
  refine xx_getR (q := 12) rfl rfl rfl xS_55 (Nat.le_of_ble_eq_true rfl) rfl (hR.1 55 4 rfl) ?_
  refine xx_iconst (q := 13) rfl rfl (by decide) ?_
  refine xx_aload_n (q := 14) rfl rfl rfl ?_
  refine xx_getR (q := 17) rfl rfl rfl xS_15 (Nat.le_of_ble_eq_true rfl) rfl (hcc) ?_
  refine xx_iconst (q := 18) rfl rfl (by decide) ?_
  refine xx_aload_n (q := 19) rfl rfl rfl ?_
  refine xx_getR (q := 22) rfl rfl rfl xS_15 (Nat.le_of_ble_eq_true rfl) rfl (hcc) ?_
  refine xx_alen (q := 23) rfl rfl hscc (by decide) (Nat.le_of_ble_eq_true rfl) ?_
  refine xx_copy (q := 26) (zn := 150) (dn := 0) (sn := 0) rfl rfl rfl xS_56 hscc rfl rfl rfl (by decide) (by decide) (Nat.le_of_ble_eq_true rfl) ?_
  refine xx_vret rfl rfl ⟨rfl, _, rfl, ?_⟩
  exact ⟨(by unfold xcp xui; grind), (fun k hk => by unfold xcp xui; grind), (fun x k q0 q1 => by unfold xcp xui; grind)⟩
set_option maxHeartbeats 2000000 in
theorem c_pcpP {n cc : Nat} {R : Nat → Nat → Option Nat} {D : KK} (hR : RF R) (hcc : R 15 4 = some cc) (hcc2 : cc = 16 ∨ cc = 17) : ∃ D', XC 1 82 [.inr (some 55), .inr (some 15)] (xS n, R, D) none (xS n, R, D') ∧ D' 55 0 = D 15 0 ∧ (∀ k, k < 150 → D' 56 k = D cc k) ∧ ∀ x k, x ≠ 55 → x ≠ 56 → D' x k = D x k := by
  have hscc := sh_sa (n := n) hcc2
  refine XE_of (Nat.le_of_ble_eq_true rfl) (Nat.le_of_ble_eq_true rfl) (loc := [_, _]) rfl ?_
  refine xx_aload_n (q := 1) rfl rfl rfl ?_
  refine xx_aload_n (q := 2) rfl rfl rfl ?_
  refine xx_gez (q := 5) rfl rfl rfl xS_15 (Nat.le_of_ble_eq_true rfl) rfl rfl ?_
  refine xx_puz (q := 8) rfl rfl rfl xS_55 (Nat.le_of_ble_eq_true rfl) (Nat.le_of_ble_eq_true rfl) (fun h => by cases h) (Or.inl rfl) rfl ?_
  refine xx_aload_n (q := 9) rfl rfl rfl ?_
  refine xx_getR (q := 12) rfl rfl rfl xS_15 (Nat.le_of_ble_eq_true rfl) rfl (hcc) ?_
  refine xx_iconst (q := 13) rfl rfl (by decide) ?_
  refine xx_aload_n (q := 14) rfl rfl rfl ?_
  refine xx_getR (q := 17) rfl rfl rfl xS_55 (Nat.le_of_ble_eq_true rfl) rfl (hR.1 55 4 rfl) ?_
  refine xx_iconst (q := 18) rfl rfl (by decide) ?_
  refine xx_aload_n (q := 19) rfl rfl rfl ?_
  refine xx_getR (q := 22) rfl rfl rfl xS_55 (Nat.le_of_ble_eq_true rfl) rfl (hR.1 55 4 rfl) ?_
  refine xx_alen (q := 23) rfl rfl xS_56 (by decide) (Nat.le_of_ble_eq_true rfl) ?_
  refine xx_copy (q := 26) (zn := 150) (dn := 0) (sn := 0) rfl rfl rfl hscc xS_56 rfl rfl rfl (by decide) (by decide) (Nat.le_of_ble_eq_true rfl) ?_
  refine xx_vret rfl rfl ⟨rfl, _, rfl, ?_⟩
  exact ⟨(by unfold xcp xui; grind), (fun k hk => by unfold xcp xui; grind), (fun x k q0 q1 => by unfold xcp xui; grind)⟩
set_option maxHeartbeats 2000000 in
theorem c_ycpN {n : Nat} {R : Nat → Nat → Option Nat} {D : KK} (hR : RF R) : ∃ D', XC 1 43 [.inr (some 18), .inr (some 58)] (xS n, R, D) none (xS n, R, D') ∧ D' 18 0 = D 58 0 ∧ (∀ k, k < 12 → D' 19 k = D 59 k) ∧ (∀ k, k < 12 → D' 20 k = D 60 k) ∧ (∀ k, k < 12 → D' 21 k = D 61 k) ∧ (∀ k, k < 10 → D' 22 k = D 62 k) ∧ (∀ k, k < 10 → D' 23 k = D 63 k) ∧ ∀ x k, x ≠ 18 → x ≠ 19 → x ≠ 20 → x ≠ 21 → x ≠ 22 → x ≠ 23 → D' x k = D x k := by
  refine XE_of (Nat.le_of_ble_eq_true rfl) (Nat.le_of_ble_eq_true rfl) (loc := [_, _]) rfl ?_
  refine xx_aload_n (q := 1) rfl rfl rfl ?_
  refine xx_aload_n (q := 2) rfl rfl rfl ?_
  refine xx_gez (q := 5) rfl rfl rfl xS_58 (Nat.le_of_ble_eq_true rfl) rfl rfl ?_
  refine xx_puz (q := 8) rfl rfl rfl xS_18 (Nat.le_of_ble_eq_true rfl) (Nat.le_of_ble_eq_true rfl) (fun h => by cases h) (Or.inl rfl) rfl ?_
  refine xx_aload_n (q := 9) rfl rfl rfl ?_
  refine xx_getR (q := 12) rfl rfl rfl xS_58 (Nat.le_of_ble_eq_true rfl) rfl (hR.1 58 1 rfl) ?_
  refine xx_iconst (q := 13) rfl rfl (by decide) ?_
  refine xx_aload_n (q := 14) rfl rfl rfl ?_
  refine xx_getR (q := 17) rfl rfl rfl xS_18 (Nat.le_of_ble_eq_true rfl) rfl (hR.1 18 1 rfl) ?_
  refine xx_iconst (q := 18) rfl rfl (by decide) ?_
  refine xx_aload_n (q := 19) rfl rfl rfl ?_
  refine xx_getR (q := 22) rfl rfl rfl xS_18 (Nat.le_of_ble_eq_true rfl) rfl (hR.1 18 1 rfl) ?_
  refine xx_alen (q := 23) rfl rfl xS_19 (by decide) (Nat.le_of_ble_eq_true rfl) ?_
  refine xx_copy (q := 26) (zn := 12) (dn := 0) (sn := 0) rfl rfl rfl xS_59 xS_19 rfl rfl rfl (by decide) (by decide) (Nat.le_of_ble_eq_true rfl) ?_
  refine xx_aload_n (q := 27) rfl rfl rfl ?_
  refine xx_getR (q := 30) rfl rfl rfl xS_58 (Nat.le_of_ble_eq_true rfl) rfl (hR.1 58 2 rfl) ?_
  refine xx_iconst (q := 31) rfl rfl (by decide) ?_
  refine xx_aload_n (q := 32) rfl rfl rfl ?_
  refine xx_getR (q := 35) rfl rfl rfl xS_18 (Nat.le_of_ble_eq_true rfl) rfl (hR.1 18 2 rfl) ?_
  refine xx_iconst (q := 36) rfl rfl (by decide) ?_
  refine xx_aload_n (q := 37) rfl rfl rfl ?_
  refine xx_getR (q := 40) rfl rfl rfl xS_18 (Nat.le_of_ble_eq_true rfl) rfl (hR.1 18 2 rfl) ?_
  refine xx_alen (q := 41) rfl rfl xS_20 (by decide) (Nat.le_of_ble_eq_true rfl) ?_
  refine xx_copy (q := 44) (zn := 12) (dn := 0) (sn := 0) rfl rfl rfl xS_60 xS_20 rfl rfl rfl (by decide) (by decide) (Nat.le_of_ble_eq_true rfl) ?_
  refine xx_aload_n (q := 45) rfl rfl rfl ?_
  refine xx_getR (q := 48) rfl rfl rfl xS_58 (Nat.le_of_ble_eq_true rfl) rfl (hR.1 58 3 rfl) ?_
  refine xx_iconst (q := 49) rfl rfl (by decide) ?_
  refine xx_aload_n (q := 50) rfl rfl rfl ?_
  refine xx_getR (q := 53) rfl rfl rfl xS_18 (Nat.le_of_ble_eq_true rfl) rfl (hR.1 18 3 rfl) ?_
  refine xx_iconst (q := 54) rfl rfl (by decide) ?_
  refine xx_aload_n (q := 55) rfl rfl rfl ?_
  refine xx_getR (q := 58) rfl rfl rfl xS_18 (Nat.le_of_ble_eq_true rfl) rfl (hR.1 18 3 rfl) ?_
  refine xx_alen (q := 59) rfl rfl xS_21 (by decide) (Nat.le_of_ble_eq_true rfl) ?_
  refine xx_copy (q := 62) (zn := 12) (dn := 0) (sn := 0) rfl rfl rfl xS_61 xS_21 rfl rfl rfl (by decide) (by decide) (Nat.le_of_ble_eq_true rfl) ?_
  refine xx_aload_n (q := 63) rfl rfl rfl ?_
  refine xx_getR (q := 66) rfl rfl rfl xS_58 (Nat.le_of_ble_eq_true rfl) rfl (hR.1 58 4 rfl) ?_
  refine xx_iconst (q := 67) rfl rfl (by decide) ?_
  refine xx_aload_n (q := 68) rfl rfl rfl ?_
  refine xx_getR (q := 71) rfl rfl rfl xS_18 (Nat.le_of_ble_eq_true rfl) rfl (hR.1 18 4 rfl) ?_
  refine xx_iconst (q := 72) rfl rfl (by decide) ?_
  refine xx_aload_n (q := 73) rfl rfl rfl ?_
  refine xx_getR (q := 76) rfl rfl rfl xS_18 (Nat.le_of_ble_eq_true rfl) rfl (hR.1 18 4 rfl) ?_
  refine xx_alen (q := 77) rfl rfl xS_22 (by decide) (Nat.le_of_ble_eq_true rfl) ?_
  refine xx_copy (q := 80) (zn := 10) (dn := 0) (sn := 0) rfl rfl rfl xS_62 xS_22 rfl rfl rfl (by decide) (by decide) (Nat.le_of_ble_eq_true rfl) ?_
  refine xx_aload_n (q := 81) rfl rfl rfl ?_
  refine xx_getR (q := 84) rfl rfl rfl xS_58 (Nat.le_of_ble_eq_true rfl) rfl (hR.1 58 5 rfl) ?_
  refine xx_iconst (q := 85) rfl rfl (by decide) ?_
  refine xx_aload_n (q := 86) rfl rfl rfl ?_
  refine xx_getR (q := 89) rfl rfl rfl xS_18 (Nat.le_of_ble_eq_true rfl) rfl (hR.1 18 5 rfl) ?_
  refine xx_iconst (q := 90) rfl rfl (by decide) ?_
  refine xx_aload_n (q := 91) rfl rfl rfl ?_
  refine xx_getR (q := 94) rfl rfl rfl xS_18 (Nat.le_of_ble_eq_true rfl) rfl (hR.1 18 5 rfl) ?_
  refine xx_alen (q := 95) rfl rfl xS_23 (by decide) (Nat.le_of_ble_eq_true rfl) ?_
  refine xx_copy (q := 98) (zn := 10) (dn := 0) (sn := 0) rfl rfl rfl xS_63 xS_23 rfl rfl rfl (by decide) (by decide) (Nat.le_of_ble_eq_true rfl) ?_
  refine xx_vret rfl rfl ⟨rfl, _, rfl, ?_⟩
  exact ⟨(by unfold xcp xui; grind), (fun k hk => by unfold xcp xui; grind), (fun k hk => by unfold xcp xui; grind), (fun k hk => by unfold xcp xui; grind), (fun k hk => by unfold xcp xui; grind), (fun k hk => by unfold xcp xui; grind), (fun x k q0 q1 q2 q3 q4 q5 => by unfold xcp xui; grind)⟩
set_option maxHeartbeats 2000000 in
theorem c_ycpP {n : Nat} {R : Nat → Nat → Option Nat} {D : KK} (hR : RF R) : ∃ D', XC 1 43 [.inr (some 58), .inr (some 18)] (xS n, R, D) none (xS n, R, D') ∧ D' 58 0 = D 18 0 ∧ (∀ k, k < 12 → D' 59 k = D 19 k) ∧ (∀ k, k < 12 → D' 60 k = D 20 k) ∧ (∀ k, k < 12 → D' 61 k = D 21 k) ∧ (∀ k, k < 10 → D' 62 k = D 22 k) ∧ (∀ k, k < 10 → D' 63 k = D 23 k) ∧ ∀ x k, x ≠ 58 → x ≠ 59 → x ≠ 60 → x ≠ 61 → x ≠ 62 → x ≠ 63 → D' x k = D x k := by
  refine XE_of (Nat.le_of_ble_eq_true rfl) (Nat.le_of_ble_eq_true rfl) (loc := [_, _]) rfl ?_
  refine xx_aload_n (q := 1) rfl rfl rfl ?_
  refine xx_aload_n (q := 2) rfl rfl rfl ?_
  refine xx_gez (q := 5) rfl rfl rfl xS_18 (Nat.le_of_ble_eq_true rfl) rfl rfl ?_
  refine xx_puz (q := 8) rfl rfl rfl xS_58 (Nat.le_of_ble_eq_true rfl) (Nat.le_of_ble_eq_true rfl) (fun h => by cases h) (Or.inl rfl) rfl ?_
  refine xx_aload_n (q := 9) rfl rfl rfl ?_
  refine xx_getR (q := 12) rfl rfl rfl xS_18 (Nat.le_of_ble_eq_true rfl) rfl (hR.1 18 1 rfl) ?_
  refine xx_iconst (q := 13) rfl rfl (by decide) ?_
  refine xx_aload_n (q := 14) rfl rfl rfl ?_
  refine xx_getR (q := 17) rfl rfl rfl xS_58 (Nat.le_of_ble_eq_true rfl) rfl (hR.1 58 1 rfl) ?_
  refine xx_iconst (q := 18) rfl rfl (by decide) ?_
  refine xx_aload_n (q := 19) rfl rfl rfl ?_
  refine xx_getR (q := 22) rfl rfl rfl xS_58 (Nat.le_of_ble_eq_true rfl) rfl (hR.1 58 1 rfl) ?_
  refine xx_alen (q := 23) rfl rfl xS_59 (by decide) (Nat.le_of_ble_eq_true rfl) ?_
  refine xx_copy (q := 26) (zn := 12) (dn := 0) (sn := 0) rfl rfl rfl xS_19 xS_59 rfl rfl rfl (by decide) (by decide) (Nat.le_of_ble_eq_true rfl) ?_
  refine xx_aload_n (q := 27) rfl rfl rfl ?_
  refine xx_getR (q := 30) rfl rfl rfl xS_18 (Nat.le_of_ble_eq_true rfl) rfl (hR.1 18 2 rfl) ?_
  refine xx_iconst (q := 31) rfl rfl (by decide) ?_
  refine xx_aload_n (q := 32) rfl rfl rfl ?_
  refine xx_getR (q := 35) rfl rfl rfl xS_58 (Nat.le_of_ble_eq_true rfl) rfl (hR.1 58 2 rfl) ?_
  refine xx_iconst (q := 36) rfl rfl (by decide) ?_
  refine xx_aload_n (q := 37) rfl rfl rfl ?_
  refine xx_getR (q := 40) rfl rfl rfl xS_58 (Nat.le_of_ble_eq_true rfl) rfl (hR.1 58 2 rfl) ?_
  refine xx_alen (q := 41) rfl rfl xS_60 (by decide) (Nat.le_of_ble_eq_true rfl) ?_
  refine xx_copy (q := 44) (zn := 12) (dn := 0) (sn := 0) rfl rfl rfl xS_20 xS_60 rfl rfl rfl (by decide) (by decide) (Nat.le_of_ble_eq_true rfl) ?_
  refine xx_aload_n (q := 45) rfl rfl rfl ?_
  refine xx_getR (q := 48) rfl rfl rfl xS_18 (Nat.le_of_ble_eq_true rfl) rfl (hR.1 18 3 rfl) ?_
  refine xx_iconst (q := 49) rfl rfl (by decide) ?_
  refine xx_aload_n (q := 50) rfl rfl rfl ?_
  refine xx_getR (q := 53) rfl rfl rfl xS_58 (Nat.le_of_ble_eq_true rfl) rfl (hR.1 58 3 rfl) ?_
  refine xx_iconst (q := 54) rfl rfl (by decide) ?_
  refine xx_aload_n (q := 55) rfl rfl rfl ?_
  refine xx_getR (q := 58) rfl rfl rfl xS_58 (Nat.le_of_ble_eq_true rfl) rfl (hR.1 58 3 rfl) ?_
  refine xx_alen (q := 59) rfl rfl xS_61 (by decide) (Nat.le_of_ble_eq_true rfl) ?_
  refine xx_copy (q := 62) (zn := 12) (dn := 0) (sn := 0) rfl rfl rfl xS_21 xS_61 rfl rfl rfl (by decide) (by decide) (Nat.le_of_ble_eq_true rfl) ?_
  refine xx_aload_n (q := 63) rfl rfl rfl ?_
  refine xx_getR (q := 66) rfl rfl rfl xS_18 (Nat.le_of_ble_eq_true rfl) rfl (hR.1 18 4 rfl) ?_
  refine xx_iconst (q := 67) rfl rfl (by decide) ?_
  refine xx_aload_n (q := 68) rfl rfl rfl ?_
  refine xx_getR (q := 71) rfl rfl rfl xS_58 (Nat.le_of_ble_eq_true rfl) rfl (hR.1 58 4 rfl) ?_
  refine xx_iconst (q := 72) rfl rfl (by decide) ?_
  refine xx_aload_n (q := 73) rfl rfl rfl ?_
  refine xx_getR (q := 76) rfl rfl rfl xS_58 (Nat.le_of_ble_eq_true rfl) rfl (hR.1 58 4 rfl) ?_
  refine xx_alen (q := 77) rfl rfl xS_62 (by decide) (Nat.le_of_ble_eq_true rfl) ?_
  refine xx_copy (q := 80) (zn := 10) (dn := 0) (sn := 0) rfl rfl rfl xS_22 xS_62 rfl rfl rfl (by decide) (by decide) (Nat.le_of_ble_eq_true rfl) ?_
  refine xx_aload_n (q := 81) rfl rfl rfl ?_
  refine xx_getR (q := 84) rfl rfl rfl xS_18 (Nat.le_of_ble_eq_true rfl) rfl (hR.1 18 5 rfl) ?_
  refine xx_iconst (q := 85) rfl rfl (by decide) ?_
  refine xx_aload_n (q := 86) rfl rfl rfl ?_
  refine xx_getR (q := 89) rfl rfl rfl xS_58 (Nat.le_of_ble_eq_true rfl) rfl (hR.1 58 5 rfl) ?_
  refine xx_iconst (q := 90) rfl rfl (by decide) ?_
  refine xx_aload_n (q := 91) rfl rfl rfl ?_
  refine xx_getR (q := 94) rfl rfl rfl xS_58 (Nat.le_of_ble_eq_true rfl) rfl (hR.1 58 5 rfl) ?_
  refine xx_alen (q := 95) rfl rfl xS_63 (by decide) (Nat.le_of_ble_eq_true rfl) ?_
  refine xx_copy (q := 98) (zn := 10) (dn := 0) (sn := 0) rfl rfl rfl xS_23 xS_63 rfl rfl rfl (by decide) (by decide) (Nat.le_of_ble_eq_true rfl) ?_
  refine xx_vret rfl rfl ⟨rfl, _, rfl, ?_⟩
  exact ⟨(by unfold xcp xui; grind), (fun k hk => by unfold xcp xui; grind), (fun k hk => by unfold xcp xui; grind), (fun k hk => by unfold xcp xui; grind), (fun k hk => by unfold xcp xui; grind), (fun k hk => by unfold xcp xui; grind), (fun x k q0 q1 q2 q3 q4 q5 => by unfold xcp xui; grind)⟩
set_option maxHeartbeats 2000000 in
theorem c_bcpN {n : Nat} {R : Nat → Nat → Option Nat} {D : KK} (hR : RF R) : ∃ D', XC 1 1 [.inr (some 25), .inr (some 65)] (xS n, R, D) none (xS n, R, D') ∧ D' 25 0 = D 65 0 ∧ (∀ k, k < 750 → D' 26 k = D 66 k) ∧ ∀ x k, x ≠ 25 → x ≠ 26 → D' x k = D x k := by
  refine XE_of (Nat.le_of_ble_eq_true rfl) (Nat.le_of_ble_eq_true rfl) (loc := [_, _]) rfl ?_
  refine xx_aload_n (q := 1) rfl rfl rfl ?_
  refine xx_aload_n (q := 2) rfl rfl rfl ?_
  refine xx_gez (q := 5) rfl rfl rfl xS_65 (Nat.le_of_ble_eq_true rfl) rfl rfl ?_
  refine xx_puz (q := 8) rfl rfl rfl xS_25 (Nat.le_of_ble_eq_true rfl) (Nat.le_of_ble_eq_true rfl) (fun h => by cases h) (Or.inl rfl) rfl ?_
  refine xx_aload_n (q := 9) rfl rfl rfl ?_
  refine xx_getR (q := 12) rfl rfl rfl xS_65 (Nat.le_of_ble_eq_true rfl) rfl (hR.1 65 1 rfl) ?_
  refine xx_iconst (q := 13) rfl rfl (by decide) ?_
  refine xx_aload_n (q := 14) rfl rfl rfl ?_
  refine xx_getR (q := 17) rfl rfl rfl xS_25 (Nat.le_of_ble_eq_true rfl) rfl (hR.1 25 1 rfl) ?_
  refine xx_iconst (q := 18) rfl rfl (by decide) ?_
  refine xx_aload_n (q := 19) rfl rfl rfl ?_
  refine xx_getR (q := 22) rfl rfl rfl xS_25 (Nat.le_of_ble_eq_true rfl) rfl (hR.1 25 1 rfl) ?_
  refine xx_alen (q := 23) rfl rfl xS_26 (by decide) (Nat.le_of_ble_eq_true rfl) ?_
  refine xx_copy (q := 26) (zn := 750) (dn := 0) (sn := 0) rfl rfl rfl xS_66 xS_26 rfl rfl rfl (by decide) (by decide) (Nat.le_of_ble_eq_true rfl) ?_
  refine xx_vret rfl rfl ⟨rfl, _, rfl, ?_⟩
  exact ⟨(by unfold xcp xui; grind), (fun k hk => by unfold xcp xui; grind), (fun x k q0 q1 => by unfold xcp xui; grind)⟩
set_option maxHeartbeats 2000000 in
theorem c_bcpP {n : Nat} {R : Nat → Nat → Option Nat} {D : KK} (hR : RF R) : ∃ D', XC 1 1 [.inr (some 65), .inr (some 25)] (xS n, R, D) none (xS n, R, D') ∧ D' 65 0 = D 25 0 ∧ (∀ k, k < 750 → D' 66 k = D 26 k) ∧ ∀ x k, x ≠ 65 → x ≠ 66 → D' x k = D x k := by
  refine XE_of (Nat.le_of_ble_eq_true rfl) (Nat.le_of_ble_eq_true rfl) (loc := [_, _]) rfl ?_
  refine xx_aload_n (q := 1) rfl rfl rfl ?_
  refine xx_aload_n (q := 2) rfl rfl rfl ?_
  refine xx_gez (q := 5) rfl rfl rfl xS_25 (Nat.le_of_ble_eq_true rfl) rfl rfl ?_
  refine xx_puz (q := 8) rfl rfl rfl xS_65 (Nat.le_of_ble_eq_true rfl) (Nat.le_of_ble_eq_true rfl) (fun h => by cases h) (Or.inl rfl) rfl ?_
  refine xx_aload_n (q := 9) rfl rfl rfl ?_
  refine xx_getR (q := 12) rfl rfl rfl xS_25 (Nat.le_of_ble_eq_true rfl) rfl (hR.1 25 1 rfl) ?_
  refine xx_iconst (q := 13) rfl rfl (by decide) ?_
  refine xx_aload_n (q := 14) rfl rfl rfl ?_
  refine xx_getR (q := 17) rfl rfl rfl xS_65 (Nat.le_of_ble_eq_true rfl) rfl (hR.1 65 1 rfl) ?_
  refine xx_iconst (q := 18) rfl rfl (by decide) ?_
  refine xx_aload_n (q := 19) rfl rfl rfl ?_
  refine xx_getR (q := 22) rfl rfl rfl xS_65 (Nat.le_of_ble_eq_true rfl) rfl (hR.1 65 1 rfl) ?_
  refine xx_alen (q := 23) rfl rfl xS_66 (by decide) (Nat.le_of_ble_eq_true rfl) ?_
  refine xx_copy (q := 26) (zn := 750) (dn := 0) (sn := 0) rfl rfl rfl xS_26 xS_66 rfl rfl rfl (by decide) (by decide) (Nat.le_of_ble_eq_true rfl) ?_
  refine xx_vret rfl rfl ⟨rfl, _, rfl, ?_⟩
  exact ⟨(by unfold xcp xui; grind), (fun k hk => by unfold xcp xui; grind), (fun x k q0 q1 => by unfold xcp xui; grind)⟩
/-- all that the image keeps, in the class's cells -/
abbrev LW3 : Type := Int × Int × (Nat → Int)
abbrev XX9 : Type := KK × (Int × (Nat → Int)) × YY × (Nat → Int) × (Nat → Int) × LW3 × LW3 × List PSt
def LwC (l lc : Nat) (L : LW3) (D : KK) : Prop := D l 0 = L.1 ∧ D l 2 = L.2.1 ∧ ∀ i : Nat, (i : Int) < L.2.1 → D lc i = L.2.2 i
def YCa (h : Nat) (Y : YY) (sn nd : Nat → Int) (D : KK) : Prop := D h 0 = Y.1 ∧ (∀ i : Nat, (i : Int) < Y.1 → D (h + 1) i = Y.2.1 i ∧ D (h + 2) i = Y.2.2.1 i ∧ D (h + 3) i = Y.2.2.2 i) ∧ ∀ k, k < 10 → D (h + 4) k = sn k ∧ D (h + 5) k = nd k
def PCa (p ps : Nat) (P : List PSt) (D : KK) : Prop := D p 0 = (P.length : Int) ∧ ∀ (j : Nat) (s : PSt), P[j]? = some s → StC ps ((j : Int) * 5) s D
def SnC (lg lc hg hc pl ps hs bk cn : Nat) (X : XX9) (D : KK) : Prop := CK cn X.1 D ∧ (D bk 0 = X.2.1.1 ∧ ∀ k, k < 750 → D (bk + 1) k = X.2.1.2 k) ∧ YCa hs X.2.2.1 X.2.2.2.1 X.2.2.2.2.1 D ∧ LwC lg lc X.2.2.2.2.2.1 D ∧ LwC hg hc X.2.2.2.2.2.2.1 D ∧ PCa pl ps X.2.2.2.2.2.2.2 D
def XI9 (X : XX9) : Prop := KI X.1 ∧ X.2.2.1.1 ≤ 12 ∧ X.2.2.2.2.2.1.2.1 ≤ 400 ∧ X.2.2.2.2.2.2.1.2.1 ≤ 400 ∧ X.2.2.2.2.2.2.2.length ≤ 30
theorem LwC.mv {l lc m mc : Nat} {L : LW3} {D E : KK} (h : LwC l lc L D) (hl : L.2.1 ≤ 400) (g0 : E m 0 = D l 0) (g2 : E m 2 = D l 2) (g : ∀ k, k < 400 → E mc k = D lc k) : LwC m mc L E := ⟨g0.trans h.1, g2.trans h.2.1, fun i hi => (g i (by omega)).trans (h.2.2 i hi)⟩
theorem StC.mv {r q : Nat} {a : Int} {s : PSt} {D E : KK} (h : StC r a s D) (h0 : 0 ≤ a) (h1 : a ≤ 145) (g : ∀ k, k < 150 → E q k = D r k) : StC q a s E := ⟨(g _ (by omega)).trans h.1, (g _ (by omega)).trans h.2.1, fun x => (g _ (by omega)).trans (h.2.2.1 x), fun x => (g _ (by omega)).trans (h.2.2.2.1 x), fun x => (g _ (by omega)).trans (h.2.2.2.2 x)⟩
theorem PCa.mv {p ps q qs : Nat} {P : List PSt} {D E : KK} (h : PCa p ps P D) (hl : P.length ≤ 30) (g0 : E q 0 = D p 0) (g : ∀ k, k < 150 → E qs k = D ps k) : PCa q qs P E := ⟨g0.trans h.1, fun j s hs => by
  have hj : j < P.length := by
    rcases Nat.lt_or_ge j P.length with r | r
    · exact r
    · rw [List.getElem?_eq_none r] at hs; cases hs
  exact (h.2 j s hs).mv (by omega) (by omega) g⟩
theorem YCa.mv {h m : Nat} {Y : YY} {sn nd : Nat → Int} {D E : KK} (q : YCa h Y sn nd D) (hl : Y.1 ≤ 12) (g0 : E m 0 = D h 0) (g1 : ∀ k, k < 12 → E (m + 1) k = D (h + 1) k) (g2 : ∀ k, k < 12 → E (m + 2) k = D (h + 2) k) (g3 : ∀ k, k < 12 → E (m + 3) k = D (h + 3) k) (g4 : ∀ k, k < 10 → E (m + 4) k = D (h + 4) k) (g5 : ∀ k, k < 10 → E (m + 5) k = D (h + 5) k) : YCa m Y sn nd E := ⟨g0.trans q.1, fun i hi => ⟨(g1 i (by omega)).trans (q.2.1 i hi).1, (g2 i (by omega)).trans (q.2.1 i hi).2.1, (g3 i (by omega)).trans (q.2.1 i hi).2.2⟩, fun k hk => ⟨(g4 k hk).trans (q.2.2 k hk).1, (g5 k hk).trans (q.2.2 k hk).2⟩⟩
set_option maxHeartbeats 4000000 in
theorem c_wcpN {n c1 c2 c3 : Nat} {R : Nat → Nat → Option Nat} {D : KK} (hR : RF R) (h1 : R 7 3 = some c1) (q1 : c1 = 8 ∨ c1 = 9) (h2 : R 11 3 = some c2) (q2 : c2 = 12 ∨ c2 = 13) (h3 : R 15 4 = some c3) (q3 : c3 = 16 ∨ c3 = 17) (X : XX9) (hX : XI9 X) (hS : SnC 47 48 51 52 55 56 58 65 67 X D) : ∃ D', XC 3 115 [.inr (some 6), .inr (some 46)] (xS n, R, D) none (xS n, R, D') ∧ SnC 7 c1 11 c2 15 c3 18 25 27 X D' ∧ ∀ x k, ¬ (7 ≤ x ∧ x ≤ 45) → x ≠ 10 → x ≠ 14 → D' x k = D x k := by
  refine XE_of (Nat.le_of_ble_eq_true rfl) (Nat.le_of_ble_eq_true rfl) (loc := [_, _]) rfl ?_
  refine xx_aload_n (q := 1) rfl rfl rfl ?_
  refine xx_getR (q := 4) rfl rfl rfl xS_6 (Nat.le_of_ble_eq_true rfl) rfl (hR.1 6 0 rfl) ?_
  refine xx_aload_n (q := 5) rfl rfl rfl ?_
  refine xx_getR (q := 8) rfl rfl rfl xS_46 (Nat.le_of_ble_eq_true rfl) rfl (hR.1 46 0 rfl) ?_
  obtain ⟨E1, hx1, a0, a2, ac, g1⟩ := c_lcpGN (n := n) (D := D) hR h1 q1
  refine xx_callV (q := 11) (As := [_]) (rest := []) rfl rfl rfl (Or.inl rfl) rfl rfl (Nat.le_of_ble_eq_true rfl) xS_7 (XCm hx1 rfl) rfl ?_
  refine xx_aload_n (q := 12) rfl rfl rfl ?_
  refine xx_getR (q := 15) rfl rfl rfl xS_6 (Nat.le_of_ble_eq_true rfl) rfl (hR.1 6 1 rfl) ?_
  refine xx_aload_n (q := 16) rfl rfl rfl ?_
  refine xx_getR (q := 19) rfl rfl rfl xS_46 (Nat.le_of_ble_eq_true rfl) rfl (hR.1 46 1 rfl) ?_
  obtain ⟨E2, hx2, b0, b2, bc, g2⟩ := c_lcpHN (n := n) (D := E1) hR h2 q2
  refine xx_callV (q := 22) (As := [_]) (rest := []) rfl rfl rfl (Or.inl rfl) rfl rfl (Nat.le_of_ble_eq_true rfl) xS_11 (XCm hx2 rfl) rfl ?_
  refine xx_aload_n (q := 23) rfl rfl rfl ?_
  refine xx_getR (q := 26) rfl rfl rfl xS_6 (Nat.le_of_ble_eq_true rfl) rfl (hR.1 6 2 rfl) ?_
  refine xx_aload_n (q := 27) rfl rfl rfl ?_
  refine xx_getR (q := 30) rfl rfl rfl xS_46 (Nat.le_of_ble_eq_true rfl) rfl (hR.1 46 2 rfl) ?_
  obtain ⟨E3, hx3, p0, pc, g3⟩ := c_pcpN (n := n) (D := E2) hR h3 q3
  refine xx_callV (q := 33) (As := [_]) (rest := []) rfl rfl rfl (Or.inl rfl) rfl rfl (Nat.le_of_ble_eq_true rfl) xS_15 (XCm hx3 rfl) rfl ?_
  have g1_o : ∀ x k, x ≠ 7 → x ≠ c1 → E1 x k = D x k := g1
  have g2_o : ∀ x k, x ≠ 11 → x ≠ c2 → E2 x k = E1 x k := g2
  refine xx_aload_n (q := 34) rfl rfl rfl ?_
  refine xx_getR (q := 37) rfl rfl rfl xS_6 (Nat.le_of_ble_eq_true rfl) rfl (hR.1 6 3 rfl) ?_
  refine xx_aload_n (q := 38) rfl rfl rfl ?_
  refine xx_getR (q := 41) rfl rfl rfl xS_46 (Nat.le_of_ble_eq_true rfl) rfl (hR.1 46 3 rfl) ?_
  obtain ⟨E4, hx4, y0, y1, y2, y3, y4, y5, g4⟩ := c_ycpN (n := n) (D := E3) hR
  refine xx_callV (q := 44) (As := [_]) (rest := []) rfl rfl rfl (Or.inl rfl) rfl rfl (Nat.le_of_ble_eq_true rfl) xS_18 (XCm hx4 rfl) rfl ?_
  refine xx_aload_n (q := 45) rfl rfl rfl ?_
  refine xx_getR (q := 48) rfl rfl rfl xS_6 (Nat.le_of_ble_eq_true rfl) rfl (hR.1 6 4 rfl) ?_
  refine xx_aload_n (q := 49) rfl rfl rfl ?_
  refine xx_getR (q := 52) rfl rfl rfl xS_46 (Nat.le_of_ble_eq_true rfl) rfl (hR.1 46 4 rfl) ?_
  obtain ⟨E5, hx5, k0, kc, g5⟩ := c_bcpN (n := n) (D := E4) hR
  refine xx_callV (q := 55) (As := [_]) (rest := []) rfl rfl rfl (Or.inl rfl) rfl rfl (Nat.le_of_ble_eq_true rfl) xS_25 (XCm hx5 rfl) rfl ?_
  have g3_o : ∀ x k, x ≠ 15 → x ≠ c3 → E3 x k = E2 x k := g3
  have g4_o : ∀ x k, ¬ (18 ≤ x ∧ x ≤ 18 + 5) → E4 x k = E3 x k := fun x k q => g4 x k (by omega) (by omega) (by omega) (by omega) (by omega) (by omega)
  have g5_o : ∀ x k, x ≠ 25 → x ≠ 25 + 1 → E5 x k = E4 x k := g5
  refine xx_aload_n (q := 56) rfl rfl rfl ?_
  refine xx_getR (q := 59) rfl rfl rfl xS_6 (Nat.le_of_ble_eq_true rfl) rfl (hR.1 6 5 rfl) ?_
  refine xx_aload_n (q := 60) rfl rfl rfl ?_
  refine xx_getR (q := 63) rfl rfl rfl xS_46 (Nat.le_of_ble_eq_true rfl) rfl (hR.1 46 5 rfl) ?_
  have hcan : CK 67 X.1 E5 := CK_fr hS.1 (fun o k ho => by rw [g5_o _ _ (by omega) (by omega), g4_o _ _ (by omega), g3_o _ _ (by omega) (by omega), g2_o _ _ (by omega) (by omega), g1_o _ _ (by omega) (by omega)])
  obtain ⟨E6, hx6, hK6, hF6⟩ := c_copy (n := n) hR isC_27 isC_67 (by omega) hcan hX.1
  refine xx_callV (q := 66) (As := [_]) (rest := []) rfl rfl rfl (Or.inl rfl) rfl rfl (Nat.le_of_ble_eq_true rfl) (xSc_0 isC_27) (XCm hx6 rfl) rfl ?_
  refine xx_vret rfl rfl ⟨rfl, _, rfl, ?_⟩
  refine ⟨⟨hK6, ⟨(by rw [hF6 _ _ (by omega) (by omega) (by omega), k0, g4_o _ _ (by omega), g3_o _ _ (by omega) (by omega), g2_o _ _ (by omega) (by omega), g1_o _ _ (by omega) (by omega)]; exact hS.2.1.1), fun k hk => ?_⟩, hS.2.2.1.mv hX.2.1 (by rw [hF6 _ _ (by omega) (by omega) (by omega), g5_o _ _ (by omega) (by omega), y0, g3_o _ _ (by omega) (by omega), g2_o _ _ (by omega) (by omega), g1_o _ _ (by omega) (by omega)]) (fun k hk => by rw [hF6 _ _ (by omega) (by omega) (by omega), g5_o _ _ (by omega) (by omega), y1 k hk, g3_o _ _ (by omega) (by omega), g2_o _ _ (by omega) (by omega), g1_o _ _ (by omega) (by omega)]) (fun k hk => by rw [hF6 _ _ (by omega) (by omega) (by omega), g5_o _ _ (by omega) (by omega), y2 k hk, g3_o _ _ (by omega) (by omega), g2_o _ _ (by omega) (by omega), g1_o _ _ (by omega) (by omega)]) (fun k hk => by rw [hF6 _ _ (by omega) (by omega) (by omega), g5_o _ _ (by omega) (by omega), y3 k hk, g3_o _ _ (by omega) (by omega), g2_o _ _ (by omega) (by omega), g1_o _ _ (by omega) (by omega)]) (fun k hk => by rw [hF6 _ _ (by omega) (by omega) (by omega), g5_o _ _ (by omega) (by omega), y4 k hk, g3_o _ _ (by omega) (by omega), g2_o _ _ (by omega) (by omega), g1_o _ _ (by omega) (by omega)]) (fun k hk => by rw [hF6 _ _ (by omega) (by omega) (by omega), g5_o _ _ (by omega) (by omega), y5 k hk, g3_o _ _ (by omega) (by omega), g2_o _ _ (by omega) (by omega), g1_o _ _ (by omega) (by omega)]), hS.2.2.2.1.mv hX.2.2.1 (by rw [hF6 _ _ (by omega) (by omega) (by omega), g5_o _ _ (by omega) (by omega), g4_o _ _ (by omega), g3_o _ _ (by omega) (by omega), g2_o _ _ (by omega) (by omega), a0]) (by rw [hF6 _ _ (by omega) (by omega) (by omega), g5_o _ _ (by omega) (by omega), g4_o _ _ (by omega), g3_o _ _ (by omega) (by omega), g2_o _ _ (by omega) (by omega), a2]) (fun k hk => by rw [hF6 _ _ (by omega) (by omega) (by omega), g5_o _ _ (by omega) (by omega), g4_o _ _ (by omega), g3_o _ _ (by omega) (by omega), g2_o _ _ (by omega) (by omega), ac k hk]), hS.2.2.2.2.1.mv hX.2.2.2.1 (by rw [hF6 _ _ (by omega) (by omega) (by omega), g5_o _ _ (by omega) (by omega), g4_o _ _ (by omega), g3_o _ _ (by omega) (by omega), b0, g1_o _ _ (by omega) (by omega)]) (by rw [hF6 _ _ (by omega) (by omega) (by omega), g5_o _ _ (by omega) (by omega), g4_o _ _ (by omega), g3_o _ _ (by omega) (by omega), b2, g1_o _ _ (by omega) (by omega)]) (fun k hk => by rw [hF6 _ _ (by omega) (by omega) (by omega), g5_o _ _ (by omega) (by omega), g4_o _ _ (by omega), g3_o _ _ (by omega) (by omega), bc k hk, g1_o _ _ (by omega) (by omega)]), hS.2.2.2.2.2.mv hX.2.2.2.2 (by rw [hF6 _ _ (by omega) (by omega) (by omega), g5_o _ _ (by omega) (by omega), g4_o _ _ (by omega), p0, g2_o _ _ (by omega) (by omega), g1_o _ _ (by omega) (by omega)]) (fun k hk => by rw [hF6 _ _ (by omega) (by omega) (by omega), g5_o _ _ (by omega) (by omega), g4_o _ _ (by omega), pc k hk, g2_o _ _ (by omega) (by omega), g1_o _ _ (by omega) (by omega)])⟩, fun x k q q10 q14 => ?_⟩
  · rw [hF6 _ _ (by omega) (by omega) (by omega), kc k hk, g4_o _ _ (by omega), g3_o _ _ (by omega) (by omega), g2_o _ _ (by omega) (by omega), g1_o _ _ (by omega) (by omega)]
    exact hS.2.1.2 k hk
  · rw [hF6 x k (by omega) (by omega) (by omega), g5_o x k (by omega) (by omega), g4_o x k (by omega), g3_o x k (by omega) (by omega), g2_o x k (by omega) (by omega), g1_o x k (by omega) (by omega)]
set_option maxHeartbeats 4000000 in
theorem c_wcpP {n c1 c2 c3 : Nat} {R : Nat → Nat → Option Nat} {D : KK} (hR : RF R) (h1 : R 7 3 = some c1) (q1 : c1 = 8 ∨ c1 = 9) (h2 : R 11 3 = some c2) (q2 : c2 = 12 ∨ c2 = 13) (h3 : R 15 4 = some c3) (q3 : c3 = 16 ∨ c3 = 17) (X : XX9) (hX : XI9 X) (hS : SnC 7 c1 11 c2 15 c3 18 25 27 X D) : ∃ D', XC 3 115 [.inr (some 46), .inr (some 6)] (xS n, R, D) none (xS n, R, D') ∧ SnC 47 48 51 52 55 56 58 65 67 X D' ∧ ∀ x k, ¬ (47 ≤ x ∧ x ≤ 85) → x ≠ 10 → x ≠ 14 → D' x k = D x k := by
  refine XE_of (Nat.le_of_ble_eq_true rfl) (Nat.le_of_ble_eq_true rfl) (loc := [_, _]) rfl ?_
  refine xx_aload_n (q := 1) rfl rfl rfl ?_
  refine xx_getR (q := 4) rfl rfl rfl xS_46 (Nat.le_of_ble_eq_true rfl) rfl (hR.1 46 0 rfl) ?_
  refine xx_aload_n (q := 5) rfl rfl rfl ?_
  refine xx_getR (q := 8) rfl rfl rfl xS_6 (Nat.le_of_ble_eq_true rfl) rfl (hR.1 6 0 rfl) ?_
  obtain ⟨E1, hx1, a0, a2, ac, g1⟩ := c_lcpGP (n := n) (D := D) hR h1 q1
  refine xx_callV (q := 11) (As := [_]) (rest := []) rfl rfl rfl (Or.inl rfl) rfl rfl (Nat.le_of_ble_eq_true rfl) xS_47 (XCm hx1 rfl) rfl ?_
  refine xx_aload_n (q := 12) rfl rfl rfl ?_
  refine xx_getR (q := 15) rfl rfl rfl xS_46 (Nat.le_of_ble_eq_true rfl) rfl (hR.1 46 1 rfl) ?_
  refine xx_aload_n (q := 16) rfl rfl rfl ?_
  refine xx_getR (q := 19) rfl rfl rfl xS_6 (Nat.le_of_ble_eq_true rfl) rfl (hR.1 6 1 rfl) ?_
  obtain ⟨E2, hx2, b0, b2, bc, g2⟩ := c_lcpHP (n := n) (D := E1) hR h2 q2
  refine xx_callV (q := 22) (As := [_]) (rest := []) rfl rfl rfl (Or.inl rfl) rfl rfl (Nat.le_of_ble_eq_true rfl) xS_51 (XCm hx2 rfl) rfl ?_
  refine xx_aload_n (q := 23) rfl rfl rfl ?_
  refine xx_getR (q := 26) rfl rfl rfl xS_46 (Nat.le_of_ble_eq_true rfl) rfl (hR.1 46 2 rfl) ?_
  refine xx_aload_n (q := 27) rfl rfl rfl ?_
  refine xx_getR (q := 30) rfl rfl rfl xS_6 (Nat.le_of_ble_eq_true rfl) rfl (hR.1 6 2 rfl) ?_
  obtain ⟨E3, hx3, p0, pc, g3⟩ := c_pcpP (n := n) (D := E2) hR h3 q3
  refine xx_callV (q := 33) (As := [_]) (rest := []) rfl rfl rfl (Or.inl rfl) rfl rfl (Nat.le_of_ble_eq_true rfl) xS_55 (XCm hx3 rfl) rfl ?_
  have g1_o : ∀ x k, x ≠ 47 → x ≠ 48 → E1 x k = D x k := g1
  have g2_o : ∀ x k, x ≠ 51 → x ≠ 52 → E2 x k = E1 x k := g2
  refine xx_aload_n (q := 34) rfl rfl rfl ?_
  refine xx_getR (q := 37) rfl rfl rfl xS_46 (Nat.le_of_ble_eq_true rfl) rfl (hR.1 46 3 rfl) ?_
  refine xx_aload_n (q := 38) rfl rfl rfl ?_
  refine xx_getR (q := 41) rfl rfl rfl xS_6 (Nat.le_of_ble_eq_true rfl) rfl (hR.1 6 3 rfl) ?_
  obtain ⟨E4, hx4, y0, y1, y2, y3, y4, y5, g4⟩ := c_ycpP (n := n) (D := E3) hR
  refine xx_callV (q := 44) (As := [_]) (rest := []) rfl rfl rfl (Or.inl rfl) rfl rfl (Nat.le_of_ble_eq_true rfl) xS_58 (XCm hx4 rfl) rfl ?_
  refine xx_aload_n (q := 45) rfl rfl rfl ?_
  refine xx_getR (q := 48) rfl rfl rfl xS_46 (Nat.le_of_ble_eq_true rfl) rfl (hR.1 46 4 rfl) ?_
  refine xx_aload_n (q := 49) rfl rfl rfl ?_
  refine xx_getR (q := 52) rfl rfl rfl xS_6 (Nat.le_of_ble_eq_true rfl) rfl (hR.1 6 4 rfl) ?_
  obtain ⟨E5, hx5, k0, kc, g5⟩ := c_bcpP (n := n) (D := E4) hR
  refine xx_callV (q := 55) (As := [_]) (rest := []) rfl rfl rfl (Or.inl rfl) rfl rfl (Nat.le_of_ble_eq_true rfl) xS_65 (XCm hx5 rfl) rfl ?_
  have g3_o : ∀ x k, x ≠ 55 → x ≠ 56 → E3 x k = E2 x k := g3
  have g4_o : ∀ x k, ¬ (58 ≤ x ∧ x ≤ 58 + 5) → E4 x k = E3 x k := fun x k q => g4 x k (by omega) (by omega) (by omega) (by omega) (by omega) (by omega)
  have g5_o : ∀ x k, x ≠ 65 → x ≠ 65 + 1 → E5 x k = E4 x k := g5
  refine xx_aload_n (q := 56) rfl rfl rfl ?_
  refine xx_getR (q := 59) rfl rfl rfl xS_46 (Nat.le_of_ble_eq_true rfl) rfl (hR.1 46 5 rfl) ?_
  refine xx_aload_n (q := 60) rfl rfl rfl ?_
  refine xx_getR (q := 63) rfl rfl rfl xS_6 (Nat.le_of_ble_eq_true rfl) rfl (hR.1 6 5 rfl) ?_
  have hcan : CK 27 X.1 E5 := CK_fr hS.1 (fun o k ho => by rw [g5_o _ _ (by omega) (by omega), g4_o _ _ (by omega), g3_o _ _ (by omega) (by omega), g2_o _ _ (by omega) (by omega), g1_o _ _ (by omega) (by omega)])
  obtain ⟨E6, hx6, hK6, hF6⟩ := c_copy (n := n) hR isC_67 isC_27 (by omega) hcan hX.1
  refine xx_callV (q := 66) (As := [_]) (rest := []) rfl rfl rfl (Or.inl rfl) rfl rfl (Nat.le_of_ble_eq_true rfl) (xSc_0 isC_67) (XCm hx6 rfl) rfl ?_
  refine xx_vret rfl rfl ⟨rfl, _, rfl, ?_⟩
  refine ⟨⟨hK6, ⟨(by rw [hF6 _ _ (by omega) (by omega) (by omega), k0, g4_o _ _ (by omega), g3_o _ _ (by omega) (by omega), g2_o _ _ (by omega) (by omega), g1_o _ _ (by omega) (by omega)]; exact hS.2.1.1), fun k hk => ?_⟩, hS.2.2.1.mv hX.2.1 (by rw [hF6 _ _ (by omega) (by omega) (by omega), g5_o _ _ (by omega) (by omega), y0, g3_o _ _ (by omega) (by omega), g2_o _ _ (by omega) (by omega), g1_o _ _ (by omega) (by omega)]) (fun k hk => by rw [hF6 _ _ (by omega) (by omega) (by omega), g5_o _ _ (by omega) (by omega), y1 k hk, g3_o _ _ (by omega) (by omega), g2_o _ _ (by omega) (by omega), g1_o _ _ (by omega) (by omega)]) (fun k hk => by rw [hF6 _ _ (by omega) (by omega) (by omega), g5_o _ _ (by omega) (by omega), y2 k hk, g3_o _ _ (by omega) (by omega), g2_o _ _ (by omega) (by omega), g1_o _ _ (by omega) (by omega)]) (fun k hk => by rw [hF6 _ _ (by omega) (by omega) (by omega), g5_o _ _ (by omega) (by omega), y3 k hk, g3_o _ _ (by omega) (by omega), g2_o _ _ (by omega) (by omega), g1_o _ _ (by omega) (by omega)]) (fun k hk => by rw [hF6 _ _ (by omega) (by omega) (by omega), g5_o _ _ (by omega) (by omega), y4 k hk, g3_o _ _ (by omega) (by omega), g2_o _ _ (by omega) (by omega), g1_o _ _ (by omega) (by omega)]) (fun k hk => by rw [hF6 _ _ (by omega) (by omega) (by omega), g5_o _ _ (by omega) (by omega), y5 k hk, g3_o _ _ (by omega) (by omega), g2_o _ _ (by omega) (by omega), g1_o _ _ (by omega) (by omega)]), hS.2.2.2.1.mv hX.2.2.1 (by rw [hF6 _ _ (by omega) (by omega) (by omega), g5_o _ _ (by omega) (by omega), g4_o _ _ (by omega), g3_o _ _ (by omega) (by omega), g2_o _ _ (by omega) (by omega), a0]) (by rw [hF6 _ _ (by omega) (by omega) (by omega), g5_o _ _ (by omega) (by omega), g4_o _ _ (by omega), g3_o _ _ (by omega) (by omega), g2_o _ _ (by omega) (by omega), a2]) (fun k hk => by rw [hF6 _ _ (by omega) (by omega) (by omega), g5_o _ _ (by omega) (by omega), g4_o _ _ (by omega), g3_o _ _ (by omega) (by omega), g2_o _ _ (by omega) (by omega), ac k hk]), hS.2.2.2.2.1.mv hX.2.2.2.1 (by rw [hF6 _ _ (by omega) (by omega) (by omega), g5_o _ _ (by omega) (by omega), g4_o _ _ (by omega), g3_o _ _ (by omega) (by omega), b0, g1_o _ _ (by omega) (by omega)]) (by rw [hF6 _ _ (by omega) (by omega) (by omega), g5_o _ _ (by omega) (by omega), g4_o _ _ (by omega), g3_o _ _ (by omega) (by omega), b2, g1_o _ _ (by omega) (by omega)]) (fun k hk => by rw [hF6 _ _ (by omega) (by omega) (by omega), g5_o _ _ (by omega) (by omega), g4_o _ _ (by omega), g3_o _ _ (by omega) (by omega), bc k hk, g1_o _ _ (by omega) (by omega)]), hS.2.2.2.2.2.mv hX.2.2.2.2 (by rw [hF6 _ _ (by omega) (by omega) (by omega), g5_o _ _ (by omega) (by omega), g4_o _ _ (by omega), p0, g2_o _ _ (by omega) (by omega), g1_o _ _ (by omega) (by omega)]) (fun k hk => by rw [hF6 _ _ (by omega) (by omega) (by omega), g5_o _ _ (by omega) (by omega), g4_o _ _ (by omega), pc k hk, g2_o _ _ (by omega) (by omega), g1_o _ _ (by omega) (by omega)])⟩, fun x k q q10 q14 => ?_⟩
  · rw [hF6 _ _ (by omega) (by omega) (by omega), kc k hk, g4_o _ _ (by omega), g3_o _ _ (by omega) (by omega), g2_o _ _ (by omega) (by omega), g1_o _ _ (by omega) (by omega)]
    exact hS.2.1.2 k hk
  · rw [hF6 x k (by omega) (by omega) (by omega), g5_o x k (by omega) (by omega), g4_o x k (by omega), g3_o x k (by omega) (by omega), g2_o x k (by omega) (by omega), g1_o x k (by omega) (by omega)]
