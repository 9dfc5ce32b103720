/-! Conditions, lines, a whole law: the class. -/
theorem tk3_1 {s : Sg} (h : kdS s = 60) : tk3 s = tkS 60 s := (if_pos (Or.inl h)).trans (show stS s = tkS 60 s from congrArg (fun t => (t, s.2)) (if_pos h).symm)
theorem tks_n {k : Int} {s : Sg} (h : ¬ kdS s = k) : tkS k s = s := congrArg (fun t => (t, s.2)) (if_neg h)
theorem tks_y {k : Int} {s : Sg} (h : kdS s = k) : tkS k s = stS s := congrArg (fun t => (t, s.2)) (if_pos h)
theorem tk3_2 {s : Sg} (h : ¬ kdS s = 60) (h2 : kdS (tkS 60 s) = 61) : tk3 s = tkS 61 (tkS 60 s) := by
  rw [tks_n h] at h2 ⊢
  rw [tks_y h2]
  exact if_pos (Or.inr (Or.inl h2))
theorem tk3_3 {s : Sg} (h : ¬ kdS s = 60) (h2 : ¬ kdS (tkS 60 s) = 61) (h3 : kdS (tkS 61 (tkS 60 s)) = 62) : tk3 s = tkS 62 (tkS 61 (tkS 60 s)) := by
  rw [tks_n h] at h2 h3 ⊢
  rw [tks_n h2] at h3 ⊢
  rw [tks_y h3]
  exact if_pos (Or.inr (Or.inr h3))
theorem tk3_4 {s : Sg} (h : ¬ kdS s = 60) (h2 : ¬ kdS (tkS 60 s) = 61) (h3 : ¬ kdS (tkS 61 (tkS 60 s)) = 62) : tk3 s = wrS 1 (tkS 62 (tkS 61 (tkS 60 s))) := by
  rw [tks_n h] at h2 h3 ⊢
  rw [tks_n h2] at h3 ⊢
  rw [tks_n h3]
  exact if_neg (fun q => q.elim h (fun q => q.elim h2 h3))
set_option maxHeartbeats 1000000 in
theorem c_boG_L {n dr L : Nat} {R : Nat → Nat → Option Nat} {D0 : KK} {al : List Tk} (hR : RF R) (hdr : R 7 5 = some dr) (hdr2 : dr = 8 ∨ dr = 9) (hh : D0 7 1 = 0) (hL : 5 ≤ L) (cl : Sg → Sg) (o : Int) (hcl : ∀ (s : Sg) (D : KK), LwS 7 dr al D0 s D → ∃ D', XC L 70 [.inr (some 7), .inr (some 474), .inl o] (xS n, R, D) none (xS n, R, D') ∧ LwS 7 dr al D0 (cl s) D') : ∀ (k : Nat) (s : Sg) (D : KK) (i : Int), LwS 7 dr al D0 s D → 0 ≤ i → i + k = 400 → XX (XC L) 69 (XP none (xS n) R (fun D' => LwS 7 dr al D0 (boL cl k s) D')) 8 [some (.inr (some 7)), some (.inr (some 474)), some (.inl o), some (.inl i)] [] (xS n, R, D) := by
  intro k
  induction k using Nat.strongRecOn with
  | ind k ih =>
  intro s D i hS h0 hk
  have hsdr := sh_cc (n := n) hdr2
  refine xx_iload_n (q := 9) rfl rfl rfl ?_
  refine xx_sipush (q := 12) rfl rfl (by decide) ?_
  refine xx_icmp_ge (q := 43) (q2 := 15) rfl rfl rfl (fun h12 => ?_) (fun h12 => ?_)
  · refine xx_vret rfl rfl ⟨rfl, _, rfl, ?_⟩
    obtain rfl : k = 0 := by omega
    exact hS
  · refine xx_aload_n (q := 16) rfl rfl rfl ?_
    refine xx_sipush (q := 19) rfl rfl (by decide) ?_
    obtain ⟨D1, hx1, hq1, hg1⟩ := c_take (n := n) hR hS.1 305
    have hS1 : LwS 7 dr al D0 (tkS 305 s) D1 := hS.tp (by omega) (by omega) hq1 hg1
    refine xx_callV (q := 22) (As := [_]) (rest := []) rfl rfl rfl (Or.inl rfl) rfl rfl (Nat.le_of_ble_eq_true rfl) xS_474 (XC_le (by omega) hx1) rfl ?_
    refine xx_ifb_eq (q := 43) (q2 := 25) rfl rfl rfl (fun h22 => ?_) (fun h22 => ?_)
    · refine xx_vret rfl rfl ⟨rfl, _, rfl, ?_⟩
      obtain ⟨k, rfl⟩ : ∃ k2, k = k2 + 1 := ⟨k - 1, by omega⟩
      rw [show boL cl (k + 1) s = tkS 305 s from (if_neg h22).trans (tks_n h22).symm]
      exact hS1
    · refine xx_aload_n (q := 26) rfl rfl rfl ?_
      refine xx_aload_n (q := 27) rfl rfl rfl ?_
      refine xx_iload_n (q := 28) rfl rfl rfl ?_
      obtain ⟨D2, hx2, hS2⟩ := hcl _ _ hS1
      refine xx_callV (q := 31) (As := [_, _]) (rest := []) rfl rfl rfl (Or.inl rfl) rfl rfl (Nat.le_of_ble_eq_true rfl) xS_7 (XC_le (by omega) hx2) rfl ?_
      refine xx_aload_n (q := 32) rfl rfl rfl ?_
      refine xx_bipush (q := 34) rfl rfl (by decide) ?_
      obtain ⟨D3, hx3, hS3⟩ := c_wtG (n := n) hR hdr hdr2 hh hS2 (-27)
      refine xx_callV (q := 37) (As := [_]) (rest := []) rfl rfl rfl (Or.inl rfl) rfl rfl (Nat.le_of_ble_eq_true rfl) xS_7 (XC_le (by omega) hx3) rfl ?_
      refine xx_incz (q := 40) (loc2 := [_, _, _, _]) rfl rfl rfl (by omega) (by omega) rfl rfl ?_
      refine xx_goto (q := 8) rfl rfl ?_
      obtain ⟨k, rfl⟩ : ∃ k2, k = k2 + 1 := ⟨k - 1, by omega⟩
      have e : boL cl (k + 1) s = boL cl k (wtS (-27) (cl (tkS 305 s))) := (if_pos h22).trans (by rw [tks_y h22])
      rw [e]
      exact ih k (by omega) _ _ _ hS3 (by omega) (by omega)
theorem c_boG {n dr L : Nat} {R : Nat → Nat → Option Nat} {D0 : KK} {al : List Tk} (hR : RF R) (hdr : R 7 5 = some dr) (hdr2 : dr = 8 ∨ dr = 9) (hh : D0 7 1 = 0) (hL : 5 ≤ L) (cl : Sg → Sg) (o : Int) (hcl : ∀ (s : Sg) (D : KK), LwS 7 dr al D0 s D → ∃ D', XC L 70 [.inr (some 7), .inr (some 474), .inl o] (xS n, R, D) none (xS n, R, D') ∧ LwS 7 dr al D0 (cl s) D') : ∀ (s : Sg) (D : KK), LwS 7 dr al D0 s D → ∃ D', XC (L + 1) 69 [.inr (some 7), .inr (some 474), .inl o] (xS n, R, D) none (xS n, R, D') ∧ LwS 7 dr al D0 (boG cl s) D' := by
  intro s D hS
  have hsdr := sh_cc (n := n) hdr2
  refine XE_of (Nat.le_of_ble_eq_true rfl) (Nat.le_of_ble_eq_true rfl) (loc := [_, _, _, _]) rfl ?_
  refine xx_aload_n (q := 1) rfl rfl rfl ?_
  refine xx_aload_n (q := 2) rfl rfl rfl ?_
  refine xx_iload_n (q := 3) rfl rfl rfl ?_
  obtain ⟨D1, hx1, hS1⟩ := hcl _ _ hS
  refine xx_callV (q := 6) (As := [_, _]) (rest := []) rfl rfl rfl (Or.inl rfl) rfl rfl (Nat.le_of_ble_eq_true rfl) xS_7 (XC_le (by omega) hx1) rfl ?_
  refine xx_iconst (q := 7) rfl rfl (by decide) ?_
  refine xx_istore_n (q := 8) (loc2 := [_, _, _, _]) rfl rfl (Nat.le_of_ble_eq_true rfl) rfl ?_
  exact c_boG_L hR hdr hdr2 hh hL cl o hcl 400 _ _ 0 hS1 (by omega) (by omega)
set_option maxHeartbeats 1000000 in
theorem c_eiG_L {n dr L : Nat} {R : Nat → Nat → Option Nat} {D0 : KK} {al : List Tk} (hR : RF R) (hdr : R 7 5 = some dr) (hdr2 : dr = 8 ∨ dr = 9) (hh : D0 7 1 = 0) (hL : 5 ≤ L) (cl : Sg → Sg) (o : Int) (hcl : ∀ (s : Sg) (D : KK), LwS 7 dr al D0 s D → ∃ D', XC L 70 [.inr (some 7), .inr (some 474), .inl o] (xS n, R, D) none (xS n, R, D') ∧ LwS 7 dr al D0 (cl s) D') : ∀ (k : Nat) (s : Sg) (D : KK) (i : Int), LwS 7 dr al D0 s D → 0 ≤ i → i + k = 400 → XX (XC (L + 1)) 68 (XP none (xS n) R (fun D' => LwS 7 dr al D0 (eiL cl k s) D')) 8 [some (.inr (some 7)), some (.inr (some 474)), some (.inl o), some (.inl i)] [] (xS n, R, D) := by
  intro k
  induction k using Nat.strongRecOn with
  | ind k ih =>
  intro s D i hS h0 hk
  have hsdr := sh_cc (n := n) hdr2
  refine xx_iload_n (q := 9) rfl rfl rfl ?_
  refine xx_sipush (q := 12) rfl rfl (by decide) ?_
  refine xx_icmp_ge (q := 43) (q2 := 15) rfl rfl rfl (fun h12 => ?_) (fun h12 => ?_)
  · refine xx_vret rfl rfl ⟨rfl, _, rfl, ?_⟩
    obtain rfl : k = 0 := by omega
    exact hS
  · refine xx_aload_n (q := 16) rfl rfl rfl ?_
    refine xx_sipush (q := 19) rfl rfl (by decide) ?_
    obtain ⟨D1, hx1, hq1, hg1⟩ := c_take (n := n) hR hS.1 304
    have hS1 : LwS 7 dr al D0 (tkS 304 s) D1 := hS.tp (by omega) (by omega) hq1 hg1
    refine xx_callV (q := 22) (As := [_]) (rest := []) rfl rfl rfl (Or.inl rfl) rfl rfl (Nat.le_of_ble_eq_true rfl) xS_474 (XC_le (by omega) hx1) rfl ?_
    refine xx_ifb_eq (q := 43) (q2 := 25) rfl rfl rfl (fun h22 => ?_) (fun h22 => ?_)
    · refine xx_vret rfl rfl ⟨rfl, _, rfl, ?_⟩
      obtain ⟨k, rfl⟩ : ∃ k2, k = k2 + 1 := ⟨k - 1, by omega⟩
      rw [show eiL cl (k + 1) s = tkS 304 s from (if_neg h22).trans (tks_n h22).symm]
      exact hS1
    · refine xx_aload_n (q := 26) rfl rfl rfl ?_
      refine xx_aload_n (q := 27) rfl rfl rfl ?_
      refine xx_iload_n (q := 28) rfl rfl rfl ?_
      obtain ⟨D2, hx2, hS2⟩ := c_boG (n := n) hR hdr hdr2 hh hL cl o hcl _ _ hS1
      refine xx_callV (q := 31) (As := [_, _]) (rest := []) rfl rfl rfl (Or.inl rfl) rfl rfl (Nat.le_of_ble_eq_true rfl) xS_7 (XC_le (by omega) hx2) rfl ?_
      refine xx_aload_n (q := 32) rfl rfl rfl ?_
      refine xx_bipush (q := 34) rfl rfl (by decide) ?_
      obtain ⟨D3, hx3, hS3⟩ := c_wtG (n := n) hR hdr hdr2 hh hS2 (-28)
      refine xx_callV (q := 37) (As := [_]) (rest := []) rfl rfl rfl (Or.inl rfl) rfl rfl (Nat.le_of_ble_eq_true rfl) xS_7 (XC_le (by omega) hx3) rfl ?_
      refine xx_incz (q := 40) (loc2 := [_, _, _, _]) rfl rfl rfl (by omega) (by omega) rfl rfl ?_
      refine xx_goto (q := 8) rfl rfl ?_
      obtain ⟨k, rfl⟩ : ∃ k2, k = k2 + 1 := ⟨k - 1, by omega⟩
      have e : eiL cl (k + 1) s = eiL cl k (wtS (-28) (boG cl (tkS 304 s))) := (if_pos h22).trans (by rw [tks_y h22])
      rw [e]
      exact ih k (by omega) _ _ _ hS3 (by omega) (by omega)
theorem c_eiG {n dr L : Nat} {R : Nat → Nat → Option Nat} {D0 : KK} {al : List Tk} (hR : RF R) (hdr : R 7 5 = some dr) (hdr2 : dr = 8 ∨ dr = 9) (hh : D0 7 1 = 0) (hL : 5 ≤ L) (cl : Sg → Sg) (o : Int) (hcl : ∀ (s : Sg) (D : KK), LwS 7 dr al D0 s D → ∃ D', XC L 70 [.inr (some 7), .inr (some 474), .inl o] (xS n, R, D) none (xS n, R, D') ∧ LwS 7 dr al D0 (cl s) D') : ∀ (s : Sg) (D : KK), LwS 7 dr al D0 s D → ∃ D', XC ((L + 1) + 1) 68 [.inr (some 7), .inr (some 474), .inl o] (xS n, R, D) none (xS n, R, D') ∧ LwS 7 dr al D0 (eiG cl s) D' := by
  intro s D hS
  have hsdr := sh_cc (n := n) hdr2
  refine XE_of (Nat.le_of_ble_eq_true rfl) (Nat.le_of_ble_eq_true rfl) (loc := [_, _, _, _]) rfl ?_
  refine xx_aload_n (q := 1) rfl rfl rfl ?_
  refine xx_aload_n (q := 2) rfl rfl rfl ?_
  refine xx_iload_n (q := 3) rfl rfl rfl ?_
  obtain ⟨D1, hx1, hS1⟩ := c_boG (n := n) hR hdr hdr2 hh hL cl o hcl _ _ hS
  refine xx_callV (q := 6) (As := [_, _]) (rest := []) rfl rfl rfl (Or.inl rfl) rfl rfl (Nat.le_of_ble_eq_true rfl) xS_7 (XC_le (by omega) hx1) rfl ?_
  refine xx_iconst (q := 7) rfl rfl (by decide) ?_
  refine xx_istore_n (q := 8) (loc2 := [_, _, _, _]) rfl rfl (Nat.le_of_ble_eq_true rfl) rfl ?_
  exact c_eiG_L hR hdr hdr2 hh hL cl o hcl 400 _ _ 0 hS1 (by omega) (by omega)
set_option maxHeartbeats 4000000 in
theorem c_clG {n dr : Nat} {R : Nat → Nat → Option Nat} {D0 : KK} {al : List Tk} (hR : RF R) (hdr : R 7 5 = some dr) (hdr2 : dr = 8 ∨ dr = 9) (hh : D0 7 1 = 0) : ∀ (m : Nat) (o : Int), 0 ≤ o → o + m = 8 → ∀ (s : Sg) (D : KK), LwS 7 dr al D0 s D → ∃ D', XC (6 + 3 * m) 70 [.inr (some 7), .inr (some 474), .inl o] (xS n, R, D) none (xS n, R, D') ∧ LwS 7 dr al D0 (clF 0 m s) D' := by
  intro m
  induction m with
  | zero =>
    intro o ho0 ho s D hS
    have hsdr := sh_cc (n := n) hdr2
    obtain rfl : o = 8 := by omega
    refine XE_of (Nat.le_of_ble_eq_true rfl) (Nat.le_of_ble_eq_true rfl) (loc := [_, _, _, _, _, _, _]) rfl ?_
    refine xx_aload_n (q := 1) rfl rfl rfl ?_
    have hkb1 := kdT_b hS.1
    change 0 ≤ kdS s ∧ kdS s ≤ 400 at hkb1
    refine xx_callV (q := 4) (As := []) (rest := []) rfl rfl rfl (Or.inl rfl) rfl rfl (Nat.le_of_ble_eq_true rfl) xS_474 (XC_le (by omega) (c_kindS (n := n) (s := s) hR hS.1)) rfl ?_
    refine xx_istore_n (q := 5) (loc2 := [_, _, _, _, _, _, _]) rfl rfl (Nat.le_of_ble_eq_true rfl) rfl ?_
    refine xx_iload_n (q := 6) rfl rfl rfl ?_
    refine xx_bipush (q := 8) rfl rfl (by decide) ?_
    refine xx_icmp_eq (q := 18) (q2 := 11) rfl rfl rfl (fun h8 => ?_) (fun h8 => ?_)
    · refine xx_iconst (q := 19) rfl rfl (by decide) ?_
      refine xx_goto (q := 23) rfl rfl ?_
      refine xx_istore (q := 25) (loc2 := [_, _, _, _, _, _, _]) rfl rfl (Nat.le_of_ble_eq_true rfl) rfl ?_
      refine xx_iload (q := 27) rfl rfl rfl ?_
      refine xx_if_eq (q := 44) (q2 := 30) rfl rfl rfl (fun h27 => (by exfalso; omega)) (fun _ => ?_)
      refine xx_iload_n (q := 31) rfl rfl rfl ?_
      refine xx_bipush (q := 33) rfl rfl (by decide) ?_
      refine xx_icmp_lt (q := 44) (q2 := 36) rfl rfl rfl (fun h33 => (by exfalso; omega)) (fun _ => ?_)
      refine xx_aload_n (q := 37) rfl rfl rfl ?_
      refine xx_iconst (q := 38) rfl rfl (by decide) ?_
      obtain ⟨D2, hx2, hq2, hg2⟩ := c_wrong (n := n) hR hS.1 3
      have hS2 : LwS 7 dr al D0 (wrS 3 s) D2 := hS.tp (by omega) (by omega) hq2 hg2
      refine xx_callV (q := 41) (As := [_]) (rest := []) rfl rfl rfl (Or.inl rfl) rfl rfl (Nat.le_of_ble_eq_true rfl) xS_474 (XC_le (by omega) hx2) rfl ?_
      refine xx_goto (q := 168) rfl rfl ?_
      refine xx_vret rfl rfl ⟨rfl, _, rfl, ?_⟩
      rw [show clF 0 0 s = wrS 3 s from if_pos (Or.inl h8)]
      exact hS2
    · refine xx_iload_n (q := 12) rfl rfl rfl ?_
      refine xx_sipush (q := 15) rfl rfl (by decide) ?_
      refine xx_icmp_ne (q := 22) (q2 := 18) rfl rfl rfl (fun h15 => ?_) (fun h15 => ?_)
      · refine xx_iconst (q := 23) rfl rfl (by decide) ?_
        refine xx_istore (q := 25) (loc2 := [_, _, _, _, _, _, _]) rfl rfl (Nat.le_of_ble_eq_true rfl) rfl ?_
        refine xx_iload (q := 27) rfl rfl rfl ?_
        refine xx_if_eq (q := 44) (q2 := 30) rfl rfl rfl (fun _ => ?_) (fun h27 => (by exfalso; omega))
        refine xx_iload_n (q := 45) rfl rfl rfl ?_
        refine xx_sipush (q := 48) rfl rfl (by decide) ?_
        refine xx_icmp_ne (q := 72) (q2 := 51) rfl rfl rfl (fun _ => ?_) (fun h48 => (by exfalso; omega))
        refine xx_iload_n (q := 73) rfl rfl rfl ?_
        refine xx_bipush (q := 75) rfl rfl (by decide) ?_
        refine xx_icmp_ne (q := 99) (q2 := 78) rfl rfl rfl (fun _ => ?_) (fun h75 => (by exfalso; omega))
        refine xx_aload_n (q := 100) rfl rfl rfl ?_
        refine xx_aload_n (q := 101) rfl rfl rfl ?_
        obtain ⟨D3, hx3, hS3⟩ := c_smG (n := n) hR hdr hdr2 hh hS
        refine xx_callV (q := 104) (As := [_]) (rest := []) rfl rfl rfl (Or.inl rfl) rfl rfl (Nat.le_of_ble_eq_true rfl) xS_7 (XC_le (by omega) hx3) rfl ?_
        refine xx_aload_n (q := 105) rfl rfl rfl ?_
        have hkb4 := kdT_b hS3.1
        change 0 ≤ kdS (smS 0 s) ∧ kdS (smS 0 s) ≤ 400 at hkb4
        refine xx_callV (q := 108) (As := []) (rest := []) rfl rfl rfl (Or.inl rfl) rfl rfl (Nat.le_of_ble_eq_true rfl) xS_474 (XC_le (by omega) (c_kindS (n := n) (s := smS 0 s) hR hS3.1)) rfl ?_
        refine xx_istore (q := 110) (loc2 := [_, _, _, _, _, _, _]) rfl rfl (Nat.le_of_ble_eq_true rfl) rfl ?_
        refine xx_aload_n (q := 111) rfl rfl rfl ?_
        refine xx_bipush (q := 113) rfl rfl (by decide) ?_
        obtain ⟨D5, hx5, hq5, hg5⟩ := c_take (n := n) hR hS3.1 60
        have hS5 : LwS 7 dr al D0 (tkS 60 (smS 0 s)) D5 := hS3.tp (by omega) (by omega) hq5 hg5
        refine xx_callV (q := 116) (As := [_]) (rest := []) rfl rfl rfl (Or.inl rfl) rfl rfl (Nat.le_of_ble_eq_true rfl) xS_474 (XC_le (by omega) hx5) rfl ?_
        refine xx_ifb_ne (q := 137) (q2 := 119) rfl rfl rfl (fun h116 => ?_) (fun h116 => ?_)
        · refine xx_iconst (q := 138) rfl rfl (by decide) ?_
          refine xx_goto (q := 142) rfl rfl ?_
          refine xx_istore (q := 144) (loc2 := [_, _, _, _, _, _, _]) rfl rfl (Nat.le_of_ble_eq_true rfl) rfl ?_
          refine xx_iload (q := 146) rfl rfl rfl ?_
          refine xx_if_ne (q := 154) (q2 := 149) rfl rfl rfl (fun _ => ?_) (fun h146 => (by exfalso; omega))
          refine xx_aload_n (q := 155) rfl rfl rfl ?_
          refine xx_aload_n (q := 156) rfl rfl rfl ?_
          obtain ⟨D6, hx6, hS6⟩ := c_smG (n := n) hR hdr hdr2 hh hS5
          refine xx_callV (q := 159) (As := [_]) (rest := []) rfl rfl rfl (Or.inl rfl) rfl rfl (Nat.le_of_ble_eq_true rfl) xS_7 (XC_le (by omega) hx6) rfl ?_
          refine xx_aload_n (q := 160) rfl rfl rfl ?_
          refine xx_iload (q := 162) rfl rfl rfl ?_
          refine xx_callS (q := 165) (As := [_]) (rest := [_]) rfl rfl rfl (Or.inl rfl) rfl rfl (Nat.le_of_ble_eq_true rfl) (XC_le (by omega) (c_cp (kdS (smS 0 s)))) rfl ?_
          obtain ⟨D7, hx7, hS7⟩ := c_wtG (n := n) hR hdr hdr2 hh hS6 (cpF (kdS (smS 0 s)))
          refine xx_callV (q := 168) (As := [_]) (rest := []) rfl rfl rfl (Or.inl rfl) rfl rfl (Nat.le_of_ble_eq_true rfl) xS_7 (XC_le (by omega) hx7) rfl ?_
          refine xx_vret rfl rfl ⟨rfl, _, rfl, ?_⟩
          have e : clF 0 0 s = wtS (cpF (kdS (smS 0 s))) (smS 0 (tkS 60 (smS 0 s))) := (if_neg (fun q => q.elim h8 h15)).trans (by unfold cmF; rw [tk3_1 h116])
          rw [e]
          exact hS7
        · refine xx_aload_n (q := 120) rfl rfl rfl ?_
          refine xx_bipush (q := 122) rfl rfl (by decide) ?_
          obtain ⟨D8, hx8, hq8, hg8⟩ := c_take (n := n) hR hS5.1 61
          have hS8 : LwS 7 dr al D0 (tkS 61 (tkS 60 (smS 0 s))) D8 := hS5.tp (by omega) (by omega) hq8 hg8
          refine xx_callV (q := 125) (As := [_]) (rest := []) rfl rfl rfl (Or.inl rfl) rfl rfl (Nat.le_of_ble_eq_true rfl) xS_474 (XC_le (by omega) hx8) rfl ?_
          refine xx_ifb_ne (q := 137) (q2 := 128) rfl rfl rfl (fun h125 => ?_) (fun h125 => ?_)
          · refine xx_iconst (q := 138) rfl rfl (by decide) ?_
            refine xx_goto (q := 142) rfl rfl ?_
            refine xx_istore (q := 144) (loc2 := [_, _, _, _, _, _, _]) rfl rfl (Nat.le_of_ble_eq_true rfl) rfl ?_
            refine xx_iload (q := 146) rfl rfl rfl ?_
            refine xx_if_ne (q := 154) (q2 := 149) rfl rfl rfl (fun _ => ?_) (fun h146 => (by exfalso; omega))
            refine xx_aload_n (q := 155) rfl rfl rfl ?_
            refine xx_aload_n (q := 156) rfl rfl rfl ?_
            obtain ⟨D9, hx9, hS9⟩ := c_smG (n := n) hR hdr hdr2 hh hS8
            refine xx_callV (q := 159) (As := [_]) (rest := []) rfl rfl rfl (Or.inl rfl) rfl rfl (Nat.le_of_ble_eq_true rfl) xS_7 (XC_le (by omega) hx9) rfl ?_
            refine xx_aload_n (q := 160) rfl rfl rfl ?_
            refine xx_iload (q := 162) rfl rfl rfl ?_
            refine xx_callS (q := 165) (As := [_]) (rest := [_]) rfl rfl rfl (Or.inl rfl) rfl rfl (Nat.le_of_ble_eq_true rfl) (XC_le (by omega) (c_cp (kdS (smS 0 s)))) rfl ?_
            obtain ⟨D10, hx10, hS10⟩ := c_wtG (n := n) hR hdr hdr2 hh hS9 (cpF (kdS (smS 0 s)))
            refine xx_callV (q := 168) (As := [_]) (rest := []) rfl rfl rfl (Or.inl rfl) rfl rfl (Nat.le_of_ble_eq_true rfl) xS_7 (XC_le (by omega) hx10) rfl ?_
            refine xx_vret rfl rfl ⟨rfl, _, rfl, ?_⟩
            have e : clF 0 0 s = wtS (cpF (kdS (smS 0 s))) (smS 0 (tkS 61 (tkS 60 (smS 0 s)))) := (if_neg (fun q => q.elim h8 h15)).trans (by unfold cmF; rw [tk3_2 h116 h125])
            rw [e]
            exact hS10
          · refine xx_aload_n (q := 129) rfl rfl rfl ?_
            refine xx_bipush (q := 131) rfl rfl (by decide) ?_
            obtain ⟨D11, hx11, hq11, hg11⟩ := c_take (n := n) hR hS8.1 62
            have hS11 : LwS 7 dr al D0 (tkS 62 (tkS 61 (tkS 60 (smS 0 s)))) D11 := hS8.tp (by omega) (by omega) hq11 hg11
            refine xx_callV (q := 134) (As := [_]) (rest := []) rfl rfl rfl (Or.inl rfl) rfl rfl (Nat.le_of_ble_eq_true rfl) xS_474 (XC_le (by omega) hx11) rfl ?_
            refine xx_ifb_eq (q := 141) (q2 := 137) rfl rfl rfl (fun h134 => ?_) (fun h134 => ?_)
            · refine xx_iconst (q := 142) rfl rfl (by decide) ?_
              refine xx_istore (q := 144) (loc2 := [_, _, _, _, _, _, _]) rfl rfl (Nat.le_of_ble_eq_true rfl) rfl ?_
              refine xx_iload (q := 146) rfl rfl rfl ?_
              refine xx_if_ne (q := 154) (q2 := 149) rfl rfl rfl (fun h146 => (by exfalso; omega)) (fun _ => ?_)
              refine xx_aload_n (q := 150) rfl rfl rfl ?_
              refine xx_iconst (q := 151) rfl rfl (by decide) ?_
              obtain ⟨D12, hx12, hq12, hg12⟩ := c_wrong (n := n) hR hS11.1 1
              have hS12 : LwS 7 dr al D0 (wrS 1 (tkS 62 (tkS 61 (tkS 60 (smS 0 s))))) D12 := hS11.tp (by omega) (by omega) hq12 hg12
              refine xx_callV (q := 154) (As := [_]) (rest := []) rfl rfl rfl (Or.inl rfl) rfl rfl (Nat.le_of_ble_eq_true rfl) xS_474 (XC_le (by omega) hx12) rfl ?_
              refine xx_aload_n (q := 155) rfl rfl rfl ?_
              refine xx_aload_n (q := 156) rfl rfl rfl ?_
              obtain ⟨D13, hx13, hS13⟩ := c_smG (n := n) hR hdr hdr2 hh hS12
              refine xx_callV (q := 159) (As := [_]) (rest := []) rfl rfl rfl (Or.inl rfl) rfl rfl (Nat.le_of_ble_eq_true rfl) xS_7 (XC_le (by omega) hx13) rfl ?_
              refine xx_aload_n (q := 160) rfl rfl rfl ?_
              refine xx_iload (q := 162) rfl rfl rfl ?_
              refine xx_callS (q := 165) (As := [_]) (rest := [_]) rfl rfl rfl (Or.inl rfl) rfl rfl (Nat.le_of_ble_eq_true rfl) (XC_le (by omega) (c_cp (kdS (smS 0 s)))) rfl ?_
              obtain ⟨D14, hx14, hS14⟩ := c_wtG (n := n) hR hdr hdr2 hh hS13 (cpF (kdS (smS 0 s)))
              refine xx_callV (q := 168) (As := [_]) (rest := []) rfl rfl rfl (Or.inl rfl) rfl rfl (Nat.le_of_ble_eq_true rfl) xS_7 (XC_le (by omega) hx14) rfl ?_
              refine xx_vret rfl rfl ⟨rfl, _, rfl, ?_⟩
              have e : clF 0 0 s = wtS (cpF (kdS (smS 0 s))) (smS 0 (wrS 1 (tkS 62 (tkS 61 (tkS 60 (smS 0 s)))))) := (if_neg (fun q => q.elim h8 h15)).trans (by unfold cmF; rw [tk3_4 h116 h125 h134])
              rw [e]
              exact hS14
            · refine xx_iconst (q := 138) rfl rfl (by decide) ?_
              refine xx_goto (q := 142) rfl rfl ?_
              refine xx_istore (q := 144) (loc2 := [_, _, _, _, _, _, _]) rfl rfl (Nat.le_of_ble_eq_true rfl) rfl ?_
              refine xx_iload (q := 146) rfl rfl rfl ?_
              refine xx_if_ne (q := 154) (q2 := 149) rfl rfl rfl (fun _ => ?_) (fun h146 => (by exfalso; omega))
              refine xx_aload_n (q := 155) rfl rfl rfl ?_
              refine xx_aload_n (q := 156) rfl rfl rfl ?_
              obtain ⟨D15, hx15, hS15⟩ := c_smG (n := n) hR hdr hdr2 hh hS11
              refine xx_callV (q := 159) (As := [_]) (rest := []) rfl rfl rfl (Or.inl rfl) rfl rfl (Nat.le_of_ble_eq_true rfl) xS_7 (XC_le (by omega) hx15) rfl ?_
              refine xx_aload_n (q := 160) rfl rfl rfl ?_
              refine xx_iload (q := 162) rfl rfl rfl ?_
              refine xx_callS (q := 165) (As := [_]) (rest := [_]) rfl rfl rfl (Or.inl rfl) rfl rfl (Nat.le_of_ble_eq_true rfl) (XC_le (by omega) (c_cp (kdS (smS 0 s)))) rfl ?_
              obtain ⟨D16, hx16, hS16⟩ := c_wtG (n := n) hR hdr hdr2 hh hS15 (cpF (kdS (smS 0 s)))
              refine xx_callV (q := 168) (As := [_]) (rest := []) rfl rfl rfl (Or.inl rfl) rfl rfl (Nat.le_of_ble_eq_true rfl) xS_7 (XC_le (by omega) hx16) rfl ?_
              refine xx_vret rfl rfl ⟨rfl, _, rfl, ?_⟩
              have e : clF 0 0 s = wtS (cpF (kdS (smS 0 s))) (smS 0 (tkS 62 (tkS 61 (tkS 60 (smS 0 s))))) := (if_neg (fun q => q.elim h8 h15)).trans (by unfold cmF; rw [tk3_3 h116 h125 h134])
              rw [e]
              exact hS16
      · refine xx_iconst (q := 19) rfl rfl (by decide) ?_
        refine xx_goto (q := 23) rfl rfl ?_
        refine xx_istore (q := 25) (loc2 := [_, _, _, _, _, _, _]) rfl rfl (Nat.le_of_ble_eq_true rfl) rfl ?_
        refine xx_iload (q := 27) rfl rfl rfl ?_
        refine xx_if_eq (q := 44) (q2 := 30) rfl rfl rfl (fun h27 => (by exfalso; omega)) (fun _ => ?_)
        refine xx_iload_n (q := 31) rfl rfl rfl ?_
        refine xx_bipush (q := 33) rfl rfl (by decide) ?_
        refine xx_icmp_lt (q := 44) (q2 := 36) rfl rfl rfl (fun h33 => (by exfalso; omega)) (fun _ => ?_)
        refine xx_aload_n (q := 37) rfl rfl rfl ?_
        refine xx_iconst (q := 38) rfl rfl (by decide) ?_
        obtain ⟨D17, hx17, hq17, hg17⟩ := c_wrong (n := n) hR hS.1 3
        have hS17 : LwS 7 dr al D0 (wrS 3 s) D17 := hS.tp (by omega) (by omega) hq17 hg17
        refine xx_callV (q := 41) (As := [_]) (rest := []) rfl rfl rfl (Or.inl rfl) rfl rfl (Nat.le_of_ble_eq_true rfl) xS_474 (XC_le (by omega) hx17) rfl ?_
        refine xx_goto (q := 168) rfl rfl ?_
        refine xx_vret rfl rfl ⟨rfl, _, rfl, ?_⟩
        rw [show clF 0 0 s = wrS 3 s from if_pos (Or.inr h15)]
        exact hS17
  | succ m ih =>
    intro o ho0 ho s D hS
    have hsdr := sh_cc (n := n) hdr2
    rw [show 6 + 3 * (m + 1) = (6 + 3 * m + 2) + 1 by omega]
    refine XE_of (Nat.le_of_ble_eq_true rfl) (Nat.le_of_ble_eq_true rfl) (loc := [_, _, _, _, _, _, _]) rfl ?_
    refine xx_aload_n (q := 1) rfl rfl rfl ?_
    have hkb1 := kdT_b hS.1
    change 0 ≤ kdS s ∧ kdS s ≤ 400 at hkb1
    refine xx_callV (q := 4) (As := []) (rest := []) rfl rfl rfl (Or.inl rfl) rfl rfl (Nat.le_of_ble_eq_true rfl) xS_474 (XC_le (by omega) (c_kindS (n := n) (s := s) hR hS.1)) rfl ?_
    refine xx_istore_n (q := 5) (loc2 := [_, _, _, _, _, _, _]) rfl rfl (Nat.le_of_ble_eq_true rfl) rfl ?_
    refine xx_iload_n (q := 6) rfl rfl rfl ?_
    refine xx_bipush (q := 8) rfl rfl (by decide) ?_
    refine xx_icmp_eq (q := 18) (q2 := 11) rfl rfl rfl (fun h8 => ?_) (fun h8 => ?_)
    · refine xx_iconst (q := 19) rfl rfl (by decide) ?_
      refine xx_goto (q := 23) rfl rfl ?_
      refine xx_istore (q := 25) (loc2 := [_, _, _, _, _, _, _]) rfl rfl (Nat.le_of_ble_eq_true rfl) rfl ?_
      refine xx_iload (q := 27) rfl rfl rfl ?_
      refine xx_if_eq (q := 44) (q2 := 30) rfl rfl rfl (fun h27 => (by exfalso; omega)) (fun _ => ?_)
      refine xx_iload_n (q := 31) rfl rfl rfl ?_
      refine xx_bipush (q := 33) rfl rfl (by decide) ?_
      refine xx_icmp_lt (q := 44) (q2 := 36) rfl rfl rfl (fun _ => ?_) (fun h33 => (by exfalso; omega))
      refine xx_iload_n (q := 45) rfl rfl rfl ?_
      refine xx_sipush (q := 48) rfl rfl (by decide) ?_
      refine xx_icmp_ne (q := 72) (q2 := 51) rfl rfl rfl (fun _ => ?_) (fun h48 => (by exfalso; omega))
      refine xx_iload_n (q := 73) rfl rfl rfl ?_
      refine xx_bipush (q := 75) rfl rfl (by decide) ?_
      refine xx_icmp_ne (q := 99) (q2 := 78) rfl rfl rfl (fun h75 => (by exfalso; omega)) (fun _ => ?_)
      refine xx_aload_n (q := 79) rfl rfl rfl ?_
      obtain ⟨D2, hx2, hq2, hg2⟩ := c_step (n := n) hR hS.1 
      have hS2 : LwS 7 dr al D0 (stS s) D2 := hS.tp (by omega) (by omega) hq2 hg2
      refine xx_callV (q := 82) (As := []) (rest := []) rfl rfl rfl (Or.inl rfl) rfl rfl (Nat.le_of_ble_eq_true rfl) xS_474 (XC_le (by omega) hx2) rfl ?_
      refine xx_aload_n (q := 83) rfl rfl rfl ?_
      refine xx_aload_n (q := 84) rfl rfl rfl ?_
      refine xx_iload_n (q := 85) rfl rfl rfl ?_
      refine xx_iconst (q := 86) rfl rfl (by decide) ?_
      refine xx_iaddR (q := 87) rfl rfl (by omega) (by omega) ?_
      obtain ⟨D3, hx3, hS3⟩ := c_eiG (n := n) hR hdr hdr2 hh (by omega) (clF 0 m) (o + 1) (ih (o + 1) (by omega) (by omega)) _ _ hS2
      refine xx_callV (q := 90) (As := [_, _]) (rest := []) rfl rfl rfl (Or.inl rfl) rfl rfl (Nat.le_of_ble_eq_true rfl) xS_7 (XC_le (by omega) hx3) rfl ?_
      refine xx_aload_n (q := 91) rfl rfl rfl ?_
      refine xx_bipush (q := 93) rfl rfl (by decide) ?_
      obtain ⟨D4, hx4, hq4, hg4⟩ := c_expect (n := n) hR hS3.1 41
      have hS4 : LwS 7 dr al D0 (exS 41 (eiG (clF 0 m) (stS s))) D4 := hS3.tp (by omega) (by omega) hq4 hg4
      refine xx_callV (q := 96) (As := [_]) (rest := []) rfl rfl rfl (Or.inl rfl) rfl rfl (Nat.le_of_ble_eq_true rfl) xS_474 (XC_le (by omega) hx4) rfl ?_
      refine xx_goto (q := 168) rfl rfl ?_
      refine xx_vret rfl rfl ⟨rfl, _, rfl, ?_⟩
      rw [show clF 0 (m + 1) s = exS 41 (eiG (clF 0 m) (stS s)) from (if_neg (show ¬ kdS s = 306 by omega)).trans (if_pos (show kdS s = 40 by omega))]
      exact hS4
    · refine xx_iload_n (q := 12) rfl rfl rfl ?_
      refine xx_sipush (q := 15) rfl rfl (by decide) ?_
      refine xx_icmp_ne (q := 22) (q2 := 18) rfl rfl rfl (fun h15 => ?_) (fun h15 => ?_)
      · refine xx_iconst (q := 23) rfl rfl (by decide) ?_
        refine xx_istore (q := 25) (loc2 := [_, _, _, _, _, _, _]) rfl rfl (Nat.le_of_ble_eq_true rfl) rfl ?_
        refine xx_iload (q := 27) rfl rfl rfl ?_
        refine xx_if_eq (q := 44) (q2 := 30) rfl rfl rfl (fun _ => ?_) (fun h27 => (by exfalso; omega))
        refine xx_iload_n (q := 45) rfl rfl rfl ?_
        refine xx_sipush (q := 48) rfl rfl (by decide) ?_
        refine xx_icmp_ne (q := 72) (q2 := 51) rfl rfl rfl (fun _ => ?_) (fun h48 => (by exfalso; omega))
        refine xx_iload_n (q := 73) rfl rfl rfl ?_
        refine xx_bipush (q := 75) rfl rfl (by decide) ?_
        refine xx_icmp_ne (q := 99) (q2 := 78) rfl rfl rfl (fun _ => ?_) (fun h75 => (by exfalso; omega))
        refine xx_aload_n (q := 100) rfl rfl rfl ?_
        refine xx_aload_n (q := 101) rfl rfl rfl ?_
        obtain ⟨D5, hx5, hS5⟩ := c_smG (n := n) hR hdr hdr2 hh hS
        refine xx_callV (q := 104) (As := [_]) (rest := []) rfl rfl rfl (Or.inl rfl) rfl rfl (Nat.le_of_ble_eq_true rfl) xS_7 (XC_le (by omega) hx5) rfl ?_
        refine xx_aload_n (q := 105) rfl rfl rfl ?_
        have hkb6 := kdT_b hS5.1
        change 0 ≤ kdS (smS 0 s) ∧ kdS (smS 0 s) ≤ 400 at hkb6
        refine xx_callV (q := 108) (As := []) (rest := []) rfl rfl rfl (Or.inl rfl) rfl rfl (Nat.le_of_ble_eq_true rfl) xS_474 (XC_le (by omega) (c_kindS (n := n) (s := smS 0 s) hR hS5.1)) rfl ?_
        refine xx_istore (q := 110) (loc2 := [_, _, _, _, _, _, _]) rfl rfl (Nat.le_of_ble_eq_true rfl) rfl ?_
        refine xx_aload_n (q := 111) rfl rfl rfl ?_
        refine xx_bipush (q := 113) rfl rfl (by decide) ?_
        obtain ⟨D7, hx7, hq7, hg7⟩ := c_take (n := n) hR hS5.1 60
        have hS7 : LwS 7 dr al D0 (tkS 60 (smS 0 s)) D7 := hS5.tp (by omega) (by omega) hq7 hg7
        refine xx_callV (q := 116) (As := [_]) (rest := []) rfl rfl rfl (Or.inl rfl) rfl rfl (Nat.le_of_ble_eq_true rfl) xS_474 (XC_le (by omega) hx7) rfl ?_
        refine xx_ifb_ne (q := 137) (q2 := 119) rfl rfl rfl (fun h116 => ?_) (fun h116 => ?_)
        · refine xx_iconst (q := 138) rfl rfl (by decide) ?_
          refine xx_goto (q := 142) rfl rfl ?_
          refine xx_istore (q := 144) (loc2 := [_, _, _, _, _, _, _]) rfl rfl (Nat.le_of_ble_eq_true rfl) rfl ?_
          refine xx_iload (q := 146) rfl rfl rfl ?_
          refine xx_if_ne (q := 154) (q2 := 149) rfl rfl rfl (fun _ => ?_) (fun h146 => (by exfalso; omega))
          refine xx_aload_n (q := 155) rfl rfl rfl ?_
          refine xx_aload_n (q := 156) rfl rfl rfl ?_
          obtain ⟨D8, hx8, hS8⟩ := c_smG (n := n) hR hdr hdr2 hh hS7
          refine xx_callV (q := 159) (As := [_]) (rest := []) rfl rfl rfl (Or.inl rfl) rfl rfl (Nat.le_of_ble_eq_true rfl) xS_7 (XC_le (by omega) hx8) rfl ?_
          refine xx_aload_n (q := 160) rfl rfl rfl ?_
          refine xx_iload (q := 162) rfl rfl rfl ?_
          refine xx_callS (q := 165) (As := [_]) (rest := [_]) rfl rfl rfl (Or.inl rfl) rfl rfl (Nat.le_of_ble_eq_true rfl) (XC_le (by omega) (c_cp (kdS (smS 0 s)))) rfl ?_
          obtain ⟨D9, hx9, hS9⟩ := c_wtG (n := n) hR hdr hdr2 hh hS8 (cpF (kdS (smS 0 s)))
          refine xx_callV (q := 168) (As := [_]) (rest := []) rfl rfl rfl (Or.inl rfl) rfl rfl (Nat.le_of_ble_eq_true rfl) xS_7 (XC_le (by omega) hx9) rfl ?_
          refine xx_vret rfl rfl ⟨rfl, _, rfl, ?_⟩
          have e : clF 0 (m + 1) s = wtS (cpF (kdS (smS 0 s))) (smS 0 (tkS 60 (smS 0 s))) := ((if_neg (show ¬ kdS s = 306 by omega)).trans (if_neg (show ¬ kdS s = 40 by omega))).trans (by unfold cmF; rw [tk3_1 h116])
          rw [e]
          exact hS9
        · refine xx_aload_n (q := 120) rfl rfl rfl ?_
          refine xx_bipush (q := 122) rfl rfl (by decide) ?_
          obtain ⟨D10, hx10, hq10, hg10⟩ := c_take (n := n) hR hS7.1 61
          have hS10 : LwS 7 dr al D0 (tkS 61 (tkS 60 (smS 0 s))) D10 := hS7.tp (by omega) (by omega) hq10 hg10
          refine xx_callV (q := 125) (As := [_]) (rest := []) rfl rfl rfl (Or.inl rfl) rfl rfl (Nat.le_of_ble_eq_true rfl) xS_474 (XC_le (by omega) hx10) rfl ?_
          refine xx_ifb_ne (q := 137) (q2 := 128) rfl rfl rfl (fun h125 => ?_) (fun h125 => ?_)
          · refine xx_iconst (q := 138) rfl rfl (by decide) ?_
            refine xx_goto (q := 142) rfl rfl ?_
            refine xx_istore (q := 144) (loc2 := [_, _, _, _, _, _, _]) rfl rfl (Nat.le_of_ble_eq_true rfl) rfl ?_
            refine xx_iload (q := 146) rfl rfl rfl ?_
            refine xx_if_ne (q := 154) (q2 := 149) rfl rfl rfl (fun _ => ?_) (fun h146 => (by exfalso; omega))
            refine xx_aload_n (q := 155) rfl rfl rfl ?_
            refine xx_aload_n (q := 156) rfl rfl rfl ?_
            obtain ⟨D11, hx11, hS11⟩ := c_smG (n := n) hR hdr hdr2 hh hS10
            refine xx_callV (q := 159) (As := [_]) (rest := []) rfl rfl rfl (Or.inl rfl) rfl rfl (Nat.le_of_ble_eq_true rfl) xS_7 (XC_le (by omega) hx11) rfl ?_
            refine xx_aload_n (q := 160) rfl rfl rfl ?_
            refine xx_iload (q := 162) rfl rfl rfl ?_
            refine xx_callS (q := 165) (As := [_]) (rest := [_]) rfl rfl rfl (Or.inl rfl) rfl rfl (Nat.le_of_ble_eq_true rfl) (XC_le (by omega) (c_cp (kdS (smS 0 s)))) rfl ?_
            obtain ⟨D12, hx12, hS12⟩ := c_wtG (n := n) hR hdr hdr2 hh hS11 (cpF (kdS (smS 0 s)))
            refine xx_callV (q := 168) (As := [_]) (rest := []) rfl rfl rfl (Or.inl rfl) rfl rfl (Nat.le_of_ble_eq_true rfl) xS_7 (XC_le (by omega) hx12) rfl ?_
            refine xx_vret rfl rfl ⟨rfl, _, rfl, ?_⟩
            have e : clF 0 (m + 1) s = wtS (cpF (kdS (smS 0 s))) (smS 0 (tkS 61 (tkS 60 (smS 0 s)))) := ((if_neg (show ¬ kdS s = 306 by omega)).trans (if_neg (show ¬ kdS s = 40 by omega))).trans (by unfold cmF; rw [tk3_2 h116 h125])
            rw [e]
            exact hS12
          · refine xx_aload_n (q := 129) rfl rfl rfl ?_
            refine xx_bipush (q := 131) rfl rfl (by decide) ?_
            obtain ⟨D13, hx13, hq13, hg13⟩ := c_take (n := n) hR hS10.1 62
            have hS13 : LwS 7 dr al D0 (tkS 62 (tkS 61 (tkS 60 (smS 0 s)))) D13 := hS10.tp (by omega) (by omega) hq13 hg13
            refine xx_callV (q := 134) (As := [_]) (rest := []) rfl rfl rfl (Or.inl rfl) rfl rfl (Nat.le_of_ble_eq_true rfl) xS_474 (XC_le (by omega) hx13) rfl ?_
            refine xx_ifb_eq (q := 141) (q2 := 137) rfl rfl rfl (fun h134 => ?_) (fun h134 => ?_)
            · refine xx_iconst (q := 142) rfl rfl (by decide) ?_
              refine xx_istore (q := 144) (loc2 := [_, _, _, _, _, _, _]) rfl rfl (Nat.le_of_ble_eq_true rfl) rfl ?_
              refine xx_iload (q := 146) rfl rfl rfl ?_
              refine xx_if_ne (q := 154) (q2 := 149) rfl rfl rfl (fun h146 => (by exfalso; omega)) (fun _ => ?_)
              refine xx_aload_n (q := 150) rfl rfl rfl ?_
              refine xx_iconst (q := 151) rfl rfl (by decide) ?_
              obtain ⟨D14, hx14, hq14, hg14⟩ := c_wrong (n := n) hR hS13.1 1
              have hS14 : LwS 7 dr al D0 (wrS 1 (tkS 62 (tkS 61 (tkS 60 (smS 0 s))))) D14 := hS13.tp (by omega) (by omega) hq14 hg14
              refine xx_callV (q := 154) (As := [_]) (rest := []) rfl rfl rfl (Or.inl rfl) rfl rfl (Nat.le_of_ble_eq_true rfl) xS_474 (XC_le (by omega) hx14) rfl ?_
              refine xx_aload_n (q := 155) rfl rfl rfl ?_
              refine xx_aload_n (q := 156) rfl rfl rfl ?_
              obtain ⟨D15, hx15, hS15⟩ := c_smG (n := n) hR hdr hdr2 hh hS14
              refine xx_callV (q := 159) (As := [_]) (rest := []) rfl rfl rfl (Or.inl rfl) rfl rfl (Nat.le_of_ble_eq_true rfl) xS_7 (XC_le (by omega) hx15) rfl ?_
              refine xx_aload_n (q := 160) rfl rfl rfl ?_
              refine xx_iload (q := 162) rfl rfl rfl ?_
              refine xx_callS (q := 165) (As := [_]) (rest := [_]) rfl rfl rfl (Or.inl rfl) rfl rfl (Nat.le_of_ble_eq_true rfl) (XC_le (by omega) (c_cp (kdS (smS 0 s)))) rfl ?_
              obtain ⟨D16, hx16, hS16⟩ := c_wtG (n := n) hR hdr hdr2 hh hS15 (cpF (kdS (smS 0 s)))
              refine xx_callV (q := 168) (As := [_]) (rest := []) rfl rfl rfl (Or.inl rfl) rfl rfl (Nat.le_of_ble_eq_true rfl) xS_7 (XC_le (by omega) hx16) rfl ?_
              refine xx_vret rfl rfl ⟨rfl, _, rfl, ?_⟩
              have e : clF 0 (m + 1) s = wtS (cpF (kdS (smS 0 s))) (smS 0 (wrS 1 (tkS 62 (tkS 61 (tkS 60 (smS 0 s)))))) := ((if_neg (show ¬ kdS s = 306 by omega)).trans (if_neg (show ¬ kdS s = 40 by omega))).trans (by unfold cmF; rw [tk3_4 h116 h125 h134])
              rw [e]
              exact hS16
            · refine xx_iconst (q := 138) rfl rfl (by decide) ?_
              refine xx_goto (q := 142) rfl rfl ?_
              refine xx_istore (q := 144) (loc2 := [_, _, _, _, _, _, _]) rfl rfl (Nat.le_of_ble_eq_true rfl) rfl ?_
              refine xx_iload (q := 146) rfl rfl rfl ?_
              refine xx_if_ne (q := 154) (q2 := 149) rfl rfl rfl (fun _ => ?_) (fun h146 => (by exfalso; omega))
              refine xx_aload_n (q := 155) rfl rfl rfl ?_
              refine xx_aload_n (q := 156) rfl rfl rfl ?_
              obtain ⟨D17, hx17, hS17⟩ := c_smG (n := n) hR hdr hdr2 hh hS13
              refine xx_callV (q := 159) (As := [_]) (rest := []) rfl rfl rfl (Or.inl rfl) rfl rfl (Nat.le_of_ble_eq_true rfl) xS_7 (XC_le (by omega) hx17) rfl ?_
              refine xx_aload_n (q := 160) rfl rfl rfl ?_
              refine xx_iload (q := 162) rfl rfl rfl ?_
              refine xx_callS (q := 165) (As := [_]) (rest := [_]) rfl rfl rfl (Or.inl rfl) rfl rfl (Nat.le_of_ble_eq_true rfl) (XC_le (by omega) (c_cp (kdS (smS 0 s)))) rfl ?_
              obtain ⟨D18, hx18, hS18⟩ := c_wtG (n := n) hR hdr hdr2 hh hS17 (cpF (kdS (smS 0 s)))
              refine xx_callV (q := 168) (As := [_]) (rest := []) rfl rfl rfl (Or.inl rfl) rfl rfl (Nat.le_of_ble_eq_true rfl) xS_7 (XC_le (by omega) hx18) rfl ?_
              refine xx_vret rfl rfl ⟨rfl, _, rfl, ?_⟩
              have e : clF 0 (m + 1) s = wtS (cpF (kdS (smS 0 s))) (smS 0 (tkS 62 (tkS 61 (tkS 60 (smS 0 s))))) := ((if_neg (show ¬ kdS s = 306 by omega)).trans (if_neg (show ¬ kdS s = 40 by omega))).trans (by unfold cmF; rw [tk3_3 h116 h125 h134])
              rw [e]
              exact hS18
      · refine xx_iconst (q := 19) rfl rfl (by decide) ?_
        refine xx_goto (q := 23) rfl rfl ?_
        refine xx_istore (q := 25) (loc2 := [_, _, _, _, _, _, _]) rfl rfl (Nat.le_of_ble_eq_true rfl) rfl ?_
        refine xx_iload (q := 27) rfl rfl rfl ?_
        refine xx_if_eq (q := 44) (q2 := 30) rfl rfl rfl (fun h27 => (by exfalso; omega)) (fun _ => ?_)
        refine xx_iload_n (q := 31) rfl rfl rfl ?_
        refine xx_bipush (q := 33) rfl rfl (by decide) ?_
        refine xx_icmp_lt (q := 44) (q2 := 36) rfl rfl rfl (fun _ => ?_) (fun h33 => (by exfalso; omega))
        refine xx_iload_n (q := 45) rfl rfl rfl ?_
        refine xx_sipush (q := 48) rfl rfl (by decide) ?_
        refine xx_icmp_ne (q := 72) (q2 := 51) rfl rfl rfl (fun h48 => (by exfalso; omega)) (fun _ => ?_)
        refine xx_aload_n (q := 52) rfl rfl rfl ?_
        obtain ⟨D19, hx19, hq19, hg19⟩ := c_step (n := n) hR hS.1 
        have hS19 : LwS 7 dr al D0 (stS s) D19 := hS.tp (by omega) (by omega) hq19 hg19
        refine xx_callV (q := 55) (As := []) (rest := []) rfl rfl rfl (Or.inl rfl) rfl rfl (Nat.le_of_ble_eq_true rfl) xS_474 (XC_le (by omega) hx19) rfl ?_
        refine xx_aload_n (q := 56) rfl rfl rfl ?_
        refine xx_aload_n (q := 57) rfl rfl rfl ?_
        refine xx_iload_n (q := 58) rfl rfl rfl ?_
        refine xx_iconst (q := 59) rfl rfl (by decide) ?_
        refine xx_iaddR (q := 60) rfl rfl (by omega) (by omega) ?_
        obtain ⟨D20, hx20, hS20⟩ := ih (o + 1) (by omega) (by omega) _ _ hS19
        refine xx_callV (q := 63) (As := [_, _]) (rest := []) rfl rfl rfl (Or.inl rfl) rfl rfl (Nat.le_of_ble_eq_true rfl) xS_7 (XC_le (by omega) hx20) rfl ?_
        refine xx_aload_n (q := 64) rfl rfl rfl ?_
        refine xx_bipush (q := 66) rfl rfl (by decide) ?_
        obtain ⟨D21, hx21, hS21⟩ := c_wtG (n := n) hR hdr hdr2 hh hS20 (-29)
        refine xx_callV (q := 69) (As := [_]) (rest := []) rfl rfl rfl (Or.inl rfl) rfl rfl (Nat.le_of_ble_eq_true rfl) xS_7 (XC_le (by omega) hx21) rfl ?_
        refine xx_goto (q := 168) rfl rfl ?_
        refine xx_vret rfl rfl ⟨rfl, _, rfl, ?_⟩
        rw [show clF 0 (m + 1) s = wtS (-29) (clF 0 m (stS s)) from if_pos h15]
        exact hS21
set_option maxHeartbeats 4000000 in
theorem c_liG {n dr : Nat} {R : Nat → Nat → Option Nat} {D0 D : KK} {al : List Tk} {s : Sg} (hR : RF R) (hdr : R 7 5 = some dr) (hdr2 : dr = 8 ∨ dr = 9) (hh : D0 7 1 = 0) (hS : LwS 7 dr al D0 s D) (bf : Int) : ∃ D', XC 33 67 [.inr (some 7), .inr (some 474), .inl bf] (xS n, R, D) none (xS n, R, D') ∧ LwS 7 dr al D0 (liF 0 bf s) D' := by
  have hsdr := sh_cc (n := n) hdr2
  refine XE_of (Nat.le_of_ble_eq_true rfl) (Nat.le_of_ble_eq_true rfl) (loc := [_, _, _, _, _]) rfl ?_
  refine xx_aload_n (q := 1) rfl rfl rfl ?_
  have hkb1 := kdT_b hS.1
  change 0 ≤ kdS s ∧ kdS s ≤ 400 at hkb1
  refine xx_callV (q := 4) (As := []) (rest := []) rfl rfl rfl (Or.inl rfl) rfl rfl (Nat.le_of_ble_eq_true rfl) xS_474 (XCm (c_kindS (n := n) (s := s) hR hS.1) rfl) rfl ?_
  refine xx_istore_n (q := 5) (loc2 := [_, _, _, _, _]) rfl rfl (Nat.le_of_ble_eq_true rfl) rfl ?_
  refine xx_aload_n (q := 6) rfl rfl rfl ?_
  refine xx_gez (q := 9) rfl rfl rfl xS_7 (Nat.le_of_ble_eq_true rfl) rfl ((hS.2.2.2.2 7 1 (by omega) (by omega) (by omega)).trans hh) ?_
  refine xx_if_eq (q := 27) (q2 := 12) rfl rfl rfl (fun _ => ?_) (fun h9 => (by exfalso; omega))
  refine xx_iload_n (q := 28) rfl rfl rfl ?_
  refine xx_sipush (q := 31) rfl rfl (by decide) ?_
  refine xx_icmp_eq (q := 41) (q2 := 34) rfl rfl rfl (fun h31 => ?_) (fun h31 => ?_)
  · refine xx_iconst (q := 42) rfl rfl (by decide) ?_
    refine xx_goto (q := 46) rfl rfl ?_
    refine xx_istore (q := 48) (loc2 := [_, _, _, _, _]) rfl rfl (Nat.le_of_ble_eq_true rfl) rfl ?_
    refine xx_iload (q := 50) rfl rfl rfl ?_
    refine xx_if_eq (q := 59) (q2 := 53) rfl rfl rfl (fun h50 => (by exfalso; omega)) (fun _ => ?_)
    refine xx_iload_n (q := 54) rfl rfl rfl ?_
    refine xx_bipush (q := 56) rfl rfl (by decide) ?_
    refine xx_icmp_lt (q := 74) (q2 := 59) rfl rfl rfl (fun h56 => ?_) (fun h56 => ?_)
    · refine xx_aload_n (q := 75) rfl rfl rfl ?_
      obtain ⟨D2, hx2, hq2, hg2⟩ := c_step (n := n) hR hS.1 
      have hS2 : LwS 7 dr al D0 (stS s) D2 := hS.tp (by omega) (by omega) hq2 hg2
      refine xx_callV (q := 78) (As := []) (rest := []) rfl rfl rfl (Or.inl rfl) rfl rfl (Nat.le_of_ble_eq_true rfl) xS_474 (XCm hx2 rfl) rfl ?_
      refine xx_aload_n (q := 79) rfl rfl rfl ?_
      refine xx_gez (q := 82) rfl rfl rfl xS_7 (Nat.le_of_ble_eq_true rfl) rfl ((hS2.2.2.2.2 7 1 (by omega) (by omega) (by omega)).trans hh) ?_
      refine xx_if_eq (q := 93) (q2 := 85) rfl rfl rfl (fun _ => ?_) (fun h82 => (by exfalso; omega))
      refine xx_aload_n (q := 94) rfl rfl rfl ?_
      refine xx_iload_n (q := 95) rfl rfl rfl ?_
      refine xx_sipush (q := 98) rfl rfl (by decide) ?_
      refine xx_icmp_ne (q := 105) (q2 := 101) rfl rfl rfl (fun h98 => ?_) (fun h98 => ?_)
      · refine xx_iconst (q := 106) rfl rfl (by decide) ?_
        obtain ⟨D3, hx3, hS3⟩ := c_wtG (n := n) hR hdr hdr2 hh hS2 0
        refine xx_callV (q := 109) (As := [_]) (rest := []) rfl rfl rfl (Or.inl rfl) rfl rfl (Nat.le_of_ble_eq_true rfl) xS_7 (XCm hx3 rfl) rfl ?_
        refine xx_aload_n (q := 110) rfl rfl rfl ?_
        refine xx_sipush (q := 113) rfl rfl (by decide) ?_
        obtain ⟨D4, hx4, hq4, hg4⟩ := c_take (n := n) hR hS3.1 303
        have hS4 : LwS 7 dr al D0 (tkS 303 (wtS 0 (stS s))) D4 := hS3.tp (by omega) (by omega) hq4 hg4
        refine xx_callV (q := 116) (As := [_]) (rest := []) rfl rfl rfl (Or.inl rfl) rfl rfl (Nat.le_of_ble_eq_true rfl) xS_474 (XCm hx4 rfl) rfl ?_
        refine xx_ifb_eq (q := 134) (q2 := 119) rfl rfl rfl (fun h116 => ?_) (fun h116 => ?_)
        · refine xx_aload_n (q := 135) rfl rfl rfl ?_
          refine xx_bipush (q := 137) rfl rfl (by decide) ?_
          obtain ⟨D5, hx5, hS5⟩ := c_wtG (n := n) hR hdr hdr2 hh hS4 (-30)
          refine xx_callV (q := 140) (As := [_]) (rest := []) rfl rfl rfl (Or.inl rfl) rfl rfl (Nat.le_of_ble_eq_true rfl) xS_7 (XCm hx5 rfl) rfl ?_
          refine xx_aload_n (q := 141) rfl rfl rfl ?_
          refine xx_bipush (q := 143) rfl rfl (by decide) ?_
          obtain ⟨D6, hx6, hq6, hg6⟩ := c_expect (n := n) hR hS5.1 59
          have hS6 : LwS 7 dr al D0 (exS 59 (wtS (-30) (tkS 303 (wtS 0 (stS s))))) D6 := hS5.tp (by omega) (by omega) hq6 hg6
          refine xx_callV (q := 146) (As := [_]) (rest := []) rfl rfl rfl (Or.inl rfl) rfl rfl (Nat.le_of_ble_eq_true rfl) xS_474 (XCm hx6 rfl) rfl ?_
          refine xx_vret rfl rfl ⟨rfl, _, rfl, ?_⟩
          have ev : vaF 0 s = wtS 0 (stS s) := congrArg (fun z => wtS z (stS s)) (if_neg h98)
          have ew : whF 0 (wtS 0 (stS s)) = (wtS (-30) (tkS 303 (wtS 0 (stS s)))) := (if_neg h116).trans (by rw [tks_n h116])
          rw [show liF 0 bf s = exS 59 (wtS (-30) (tkS 303 (wtS 0 (stS s)))) from (if_neg (fun q => q (show bgP 0 (kdS s) from Or.inl h31))).trans ((if_pos (by omega)).trans (by rw [ev, ew]))]
          exact hS6
        · refine xx_aload_n (q := 120) rfl rfl rfl ?_
          refine xx_aload_n (q := 121) rfl rfl rfl ?_
          refine xx_iconst (q := 122) rfl rfl (by decide) ?_
          obtain ⟨D7, hx7, hS7⟩ := c_eiG (n := n) hR hdr hdr2 hh (by omega) (clF 0 8) 0 (c_clG (n := n) hR hdr hdr2 hh 8 0 (by omega) (by omega)) _ _ hS4
          refine xx_callV (q := 125) (As := [_, _]) (rest := []) rfl rfl rfl (Or.inl rfl) rfl rfl (Nat.le_of_ble_eq_true rfl) xS_7 (XCm hx7 rfl) rfl ?_
          refine xx_aload_n (q := 126) rfl rfl rfl ?_
          refine xx_bipush (q := 128) rfl rfl (by decide) ?_
          obtain ⟨D8, hx8, hS8⟩ := c_wtG (n := n) hR hdr hdr2 hh hS7 (-31)
          refine xx_callV (q := 131) (As := [_]) (rest := []) rfl rfl rfl (Or.inl rfl) rfl rfl (Nat.le_of_ble_eq_true rfl) xS_7 (XCm hx8 rfl) rfl ?_
          refine xx_goto (q := 140) rfl rfl ?_
          refine xx_aload_n (q := 141) rfl rfl rfl ?_
          refine xx_bipush (q := 143) rfl rfl (by decide) ?_
          obtain ⟨D9, hx9, hq9, hg9⟩ := c_expect (n := n) hR hS8.1 59
          have hS9 : LwS 7 dr al D0 (exS 59 (wtS (-31) (eiG (clF 0 8) (tkS 303 (wtS 0 (stS s)))))) D9 := hS8.tp (by omega) (by omega) hq9 hg9
          refine xx_callV (q := 146) (As := [_]) (rest := []) rfl rfl rfl (Or.inl rfl) rfl rfl (Nat.le_of_ble_eq_true rfl) xS_474 (XCm hx9 rfl) rfl ?_
          refine xx_vret rfl rfl ⟨rfl, _, rfl, ?_⟩
          have ev : vaF 0 s = wtS 0 (stS s) := congrArg (fun z => wtS z (stS s)) (if_neg h98)
          have ew : whF 0 (wtS 0 (stS s)) = (wtS (-31) (eiG (clF 0 8) (tkS 303 (wtS 0 (stS s))))) := (if_pos h116).trans (by rw [tks_y h116])
          rw [show liF 0 bf s = exS 59 (wtS (-31) (eiG (clF 0 8) (tkS 303 (wtS 0 (stS s))))) from (if_neg (fun q => q (show bgP 0 (kdS s) from Or.inl h31))).trans ((if_pos (by omega)).trans (by rw [ev, ew]))]
          exact hS9
      · refine xx_iconst (q := 102) rfl rfl (by decide) ?_
        refine xx_goto (q := 106) rfl rfl ?_
        obtain ⟨D10, hx10, hS10⟩ := c_wtG (n := n) hR hdr hdr2 hh hS2 1
        refine xx_callV (q := 109) (As := [_]) (rest := []) rfl rfl rfl (Or.inl rfl) rfl rfl (Nat.le_of_ble_eq_true rfl) xS_7 (XCm hx10 rfl) rfl ?_
        refine xx_aload_n (q := 110) rfl rfl rfl ?_
        refine xx_sipush (q := 113) rfl rfl (by decide) ?_
        obtain ⟨D11, hx11, hq11, hg11⟩ := c_take (n := n) hR hS10.1 303
        have hS11 : LwS 7 dr al D0 (tkS 303 (wtS 1 (stS s))) D11 := hS10.tp (by omega) (by omega) hq11 hg11
        refine xx_callV (q := 116) (As := [_]) (rest := []) rfl rfl rfl (Or.inl rfl) rfl rfl (Nat.le_of_ble_eq_true rfl) xS_474 (XCm hx11 rfl) rfl ?_
        refine xx_ifb_eq (q := 134) (q2 := 119) rfl rfl rfl (fun h116 => ?_) (fun h116 => ?_)
        · refine xx_aload_n (q := 135) rfl rfl rfl ?_
          refine xx_bipush (q := 137) rfl rfl (by decide) ?_
          obtain ⟨D12, hx12, hS12⟩ := c_wtG (n := n) hR hdr hdr2 hh hS11 (-30)
          refine xx_callV (q := 140) (As := [_]) (rest := []) rfl rfl rfl (Or.inl rfl) rfl rfl (Nat.le_of_ble_eq_true rfl) xS_7 (XCm hx12 rfl) rfl ?_
          refine xx_aload_n (q := 141) rfl rfl rfl ?_
          refine xx_bipush (q := 143) rfl rfl (by decide) ?_
          obtain ⟨D13, hx13, hq13, hg13⟩ := c_expect (n := n) hR hS12.1 59
          have hS13 : LwS 7 dr al D0 (exS 59 (wtS (-30) (tkS 303 (wtS 1 (stS s))))) D13 := hS12.tp (by omega) (by omega) hq13 hg13
          refine xx_callV (q := 146) (As := [_]) (rest := []) rfl rfl rfl (Or.inl rfl) rfl rfl (Nat.le_of_ble_eq_true rfl) xS_474 (XCm hx13 rfl) rfl ?_
          refine xx_vret rfl rfl ⟨rfl, _, rfl, ?_⟩
          have ev : vaF 0 s = wtS 1 (stS s) := congrArg (fun z => wtS z (stS s)) (if_pos h98)
          have ew : whF 0 (wtS 1 (stS s)) = (wtS (-30) (tkS 303 (wtS 1 (stS s)))) := (if_neg h116).trans (by rw [tks_n h116])
          rw [show liF 0 bf s = exS 59 (wtS (-30) (tkS 303 (wtS 1 (stS s)))) from (if_neg (fun q => q (show bgP 0 (kdS s) from Or.inl h31))).trans ((if_pos (by omega)).trans (by rw [ev, ew]))]
          exact hS13
        · refine xx_aload_n (q := 120) rfl rfl rfl ?_
          refine xx_aload_n (q := 121) rfl rfl rfl ?_
          refine xx_iconst (q := 122) rfl rfl (by decide) ?_
          obtain ⟨D14, hx14, hS14⟩ := c_eiG (n := n) hR hdr hdr2 hh (by omega) (clF 0 8) 0 (c_clG (n := n) hR hdr hdr2 hh 8 0 (by omega) (by omega)) _ _ hS11
          refine xx_callV (q := 125) (As := [_, _]) (rest := []) rfl rfl rfl (Or.inl rfl) rfl rfl (Nat.le_of_ble_eq_true rfl) xS_7 (XCm hx14 rfl) rfl ?_
          refine xx_aload_n (q := 126) rfl rfl rfl ?_
          refine xx_bipush (q := 128) rfl rfl (by decide) ?_
          obtain ⟨D15, hx15, hS15⟩ := c_wtG (n := n) hR hdr hdr2 hh hS14 (-31)
          refine xx_callV (q := 131) (As := [_]) (rest := []) rfl rfl rfl (Or.inl rfl) rfl rfl (Nat.le_of_ble_eq_true rfl) xS_7 (XCm hx15 rfl) rfl ?_
          refine xx_goto (q := 140) rfl rfl ?_
          refine xx_aload_n (q := 141) rfl rfl rfl ?_
          refine xx_bipush (q := 143) rfl rfl (by decide) ?_
          obtain ⟨D16, hx16, hq16, hg16⟩ := c_expect (n := n) hR hS15.1 59
          have hS16 : LwS 7 dr al D0 (exS 59 (wtS (-31) (eiG (clF 0 8) (tkS 303 (wtS 1 (stS s)))))) D16 := hS15.tp (by omega) (by omega) hq16 hg16
          refine xx_callV (q := 146) (As := [_]) (rest := []) rfl rfl rfl (Or.inl rfl) rfl rfl (Nat.le_of_ble_eq_true rfl) xS_474 (XCm hx16 rfl) rfl ?_
          refine xx_vret rfl rfl ⟨rfl, _, rfl, ?_⟩
          have ev : vaF 0 s = wtS 1 (stS s) := congrArg (fun z => wtS z (stS s)) (if_pos h98)
          have ew : whF 0 (wtS 1 (stS s)) = (wtS (-31) (eiG (clF 0 8) (tkS 303 (wtS 1 (stS s))))) := (if_pos h116).trans (by rw [tks_y h116])
          rw [show liF 0 bf s = exS 59 (wtS (-31) (eiG (clF 0 8) (tkS 303 (wtS 1 (stS s))))) from (if_neg (fun q => q (show bgP 0 (kdS s) from Or.inl h31))).trans ((if_pos (by omega)).trans (by rw [ev, ew]))]
          exact hS16
    · refine xx_aload_n (q := 60) rfl rfl rfl ?_
      refine xx_iload (q := 62) rfl rfl rfl ?_
      refine xx_if_eq (q := 69) (q2 := 65) rfl rfl rfl (fun h62 => (by exfalso; omega)) (fun _ => ?_)
      refine xx_iconst (q := 66) rfl rfl (by decide) ?_
      refine xx_goto (q := 70) rfl rfl ?_
      obtain ⟨D17, hx17, hq17, hg17⟩ := c_wrong (n := n) hR hS.1 3
      have hS17 : LwS 7 dr al D0 (wrS 3 s) D17 := hS.tp (by omega) (by omega) hq17 hg17
      refine xx_callV (q := 73) (As := [_]) (rest := []) rfl rfl rfl (Or.inl rfl) rfl rfl (Nat.le_of_ble_eq_true rfl) xS_474 (XCm hx17 rfl) rfl ?_
      refine xx_vret rfl rfl ⟨rfl, _, rfl, ?_⟩
      rw [show liF 0 bf s = wrS 3 s from (if_neg (fun q => q (show bgP 0 (kdS s) from Or.inl h31))).trans (if_neg (by omega))]
      exact hS17
  · refine xx_iload_n (q := 35) rfl rfl rfl ?_
    refine xx_sipush (q := 38) rfl rfl (by decide) ?_
    refine xx_icmp_ne (q := 45) (q2 := 41) rfl rfl rfl (fun h38 => ?_) (fun h38 => ?_)
    · refine xx_iconst (q := 46) rfl rfl (by decide) ?_
      refine xx_istore (q := 48) (loc2 := [_, _, _, _, _]) rfl rfl (Nat.le_of_ble_eq_true rfl) rfl ?_
      refine xx_iload (q := 50) rfl rfl rfl ?_
      refine xx_if_eq (q := 59) (q2 := 53) rfl rfl rfl (fun _ => ?_) (fun h50 => (by exfalso; omega))
      refine xx_aload_n (q := 60) rfl rfl rfl ?_
      refine xx_iload (q := 62) rfl rfl rfl ?_
      refine xx_if_eq (q := 69) (q2 := 65) rfl rfl rfl (fun _ => ?_) (fun h62 => (by exfalso; omega))
      refine xx_iconst (q := 70) rfl rfl (by decide) ?_
      obtain ⟨D18, hx18, hq18, hg18⟩ := c_wrong (n := n) hR hS.1 1
      have hS18 : LwS 7 dr al D0 (wrS 1 s) D18 := hS.tp (by omega) (by omega) hq18 hg18
      refine xx_callV (q := 73) (As := [_]) (rest := []) rfl rfl rfl (Or.inl rfl) rfl rfl (Nat.le_of_ble_eq_true rfl) xS_474 (XCm hx18 rfl) rfl ?_
      refine xx_vret rfl rfl ⟨rfl, _, rfl, ?_⟩
      rw [show liF 0 bf s = wrS 1 s from if_pos (fun q => q.elim h31 h38)]
      exact hS18
    · refine xx_iconst (q := 42) rfl rfl (by decide) ?_
      refine xx_goto (q := 46) rfl rfl ?_
      refine xx_istore (q := 48) (loc2 := [_, _, _, _, _]) rfl rfl (Nat.le_of_ble_eq_true rfl) rfl ?_
      refine xx_iload (q := 50) rfl rfl rfl ?_
      refine xx_if_eq (q := 59) (q2 := 53) rfl rfl rfl (fun h50 => (by exfalso; omega)) (fun _ => ?_)
      refine xx_iload_n (q := 54) rfl rfl rfl ?_
      refine xx_bipush (q := 56) rfl rfl (by decide) ?_
      refine xx_icmp_lt (q := 74) (q2 := 59) rfl rfl rfl (fun h56 => ?_) (fun h56 => ?_)
      · refine xx_aload_n (q := 75) rfl rfl rfl ?_
        obtain ⟨D19, hx19, hq19, hg19⟩ := c_step (n := n) hR hS.1 
        have hS19 : LwS 7 dr al D0 (stS s) D19 := hS.tp (by omega) (by omega) hq19 hg19
        refine xx_callV (q := 78) (As := []) (rest := []) rfl rfl rfl (Or.inl rfl) rfl rfl (Nat.le_of_ble_eq_true rfl) xS_474 (XCm hx19 rfl) rfl ?_
        refine xx_aload_n (q := 79) rfl rfl rfl ?_
        refine xx_gez (q := 82) rfl rfl rfl xS_7 (Nat.le_of_ble_eq_true rfl) rfl ((hS19.2.2.2.2 7 1 (by omega) (by omega) (by omega)).trans hh) ?_
        refine xx_if_eq (q := 93) (q2 := 85) rfl rfl rfl (fun _ => ?_) (fun h82 => (by exfalso; omega))
        refine xx_aload_n (q := 94) rfl rfl rfl ?_
        refine xx_iload_n (q := 95) rfl rfl rfl ?_
        refine xx_sipush (q := 98) rfl rfl (by decide) ?_
        refine xx_icmp_ne (q := 105) (q2 := 101) rfl rfl rfl (fun h98 => ?_) (fun h98 => ?_)
        · refine xx_iconst (q := 106) rfl rfl (by decide) ?_
          obtain ⟨D20, hx20, hS20⟩ := c_wtG (n := n) hR hdr hdr2 hh hS19 0
          refine xx_callV (q := 109) (As := [_]) (rest := []) rfl rfl rfl (Or.inl rfl) rfl rfl (Nat.le_of_ble_eq_true rfl) xS_7 (XCm hx20 rfl) rfl ?_
          refine xx_aload_n (q := 110) rfl rfl rfl ?_
          refine xx_sipush (q := 113) rfl rfl (by decide) ?_
          obtain ⟨D21, hx21, hq21, hg21⟩ := c_take (n := n) hR hS20.1 303
          have hS21 : LwS 7 dr al D0 (tkS 303 (wtS 0 (stS s))) D21 := hS20.tp (by omega) (by omega) hq21 hg21
          refine xx_callV (q := 116) (As := [_]) (rest := []) rfl rfl rfl (Or.inl rfl) rfl rfl (Nat.le_of_ble_eq_true rfl) xS_474 (XCm hx21 rfl) rfl ?_
          refine xx_ifb_eq (q := 134) (q2 := 119) rfl rfl rfl (fun h116 => ?_) (fun h116 => ?_)
          · refine xx_aload_n (q := 135) rfl rfl rfl ?_
            refine xx_bipush (q := 137) rfl rfl (by decide) ?_
            obtain ⟨D22, hx22, hS22⟩ := c_wtG (n := n) hR hdr hdr2 hh hS21 (-30)
            refine xx_callV (q := 140) (As := [_]) (rest := []) rfl rfl rfl (Or.inl rfl) rfl rfl (Nat.le_of_ble_eq_true rfl) xS_7 (XCm hx22 rfl) rfl ?_
            refine xx_aload_n (q := 141) rfl rfl rfl ?_
            refine xx_bipush (q := 143) rfl rfl (by decide) ?_
            obtain ⟨D23, hx23, hq23, hg23⟩ := c_expect (n := n) hR hS22.1 59
            have hS23 : LwS 7 dr al D0 (exS 59 (wtS (-30) (tkS 303 (wtS 0 (stS s))))) D23 := hS22.tp (by omega) (by omega) hq23 hg23
            refine xx_callV (q := 146) (As := [_]) (rest := []) rfl rfl rfl (Or.inl rfl) rfl rfl (Nat.le_of_ble_eq_true rfl) xS_474 (XCm hx23 rfl) rfl ?_
            refine xx_vret rfl rfl ⟨rfl, _, rfl, ?_⟩
            have ev : vaF 0 s = wtS 0 (stS s) := congrArg (fun z => wtS z (stS s)) (if_neg h98)
            have ew : whF 0 (wtS 0 (stS s)) = (wtS (-30) (tkS 303 (wtS 0 (stS s)))) := (if_neg h116).trans (by rw [tks_n h116])
            rw [show liF 0 bf s = exS 59 (wtS (-30) (tkS 303 (wtS 0 (stS s)))) from (if_neg (fun q => q (show bgP 0 (kdS s) from Or.inr h38))).trans ((if_pos (by omega)).trans (by rw [ev, ew]))]
            exact hS23
          · refine xx_aload_n (q := 120) rfl rfl rfl ?_
            refine xx_aload_n (q := 121) rfl rfl rfl ?_
            refine xx_iconst (q := 122) rfl rfl (by decide) ?_
            obtain ⟨D24, hx24, hS24⟩ := c_eiG (n := n) hR hdr hdr2 hh (by omega) (clF 0 8) 0 (c_clG (n := n) hR hdr hdr2 hh 8 0 (by omega) (by omega)) _ _ hS21
            refine xx_callV (q := 125) (As := [_, _]) (rest := []) rfl rfl rfl (Or.inl rfl) rfl rfl (Nat.le_of_ble_eq_true rfl) xS_7 (XCm hx24 rfl) rfl ?_
            refine xx_aload_n (q := 126) rfl rfl rfl ?_
            refine xx_bipush (q := 128) rfl rfl (by decide) ?_
            obtain ⟨D25, hx25, hS25⟩ := c_wtG (n := n) hR hdr hdr2 hh hS24 (-31)
            refine xx_callV (q := 131) (As := [_]) (rest := []) rfl rfl rfl (Or.inl rfl) rfl rfl (Nat.le_of_ble_eq_true rfl) xS_7 (XCm hx25 rfl) rfl ?_
            refine xx_goto (q := 140) rfl rfl ?_
            refine xx_aload_n (q := 141) rfl rfl rfl ?_
            refine xx_bipush (q := 143) rfl rfl (by decide) ?_
            obtain ⟨D26, hx26, hq26, hg26⟩ := c_expect (n := n) hR hS25.1 59
            have hS26 : LwS 7 dr al D0 (exS 59 (wtS (-31) (eiG (clF 0 8) (tkS 303 (wtS 0 (stS s)))))) D26 := hS25.tp (by omega) (by omega) hq26 hg26
            refine xx_callV (q := 146) (As := [_]) (rest := []) rfl rfl rfl (Or.inl rfl) rfl rfl (Nat.le_of_ble_eq_true rfl) xS_474 (XCm hx26 rfl) rfl ?_
            refine xx_vret rfl rfl ⟨rfl, _, rfl, ?_⟩
            have ev : vaF 0 s = wtS 0 (stS s) := congrArg (fun z => wtS z (stS s)) (if_neg h98)
            have ew : whF 0 (wtS 0 (stS s)) = (wtS (-31) (eiG (clF 0 8) (tkS 303 (wtS 0 (stS s))))) := (if_pos h116).trans (by rw [tks_y h116])
            rw [show liF 0 bf s = exS 59 (wtS (-31) (eiG (clF 0 8) (tkS 303 (wtS 0 (stS s))))) from (if_neg (fun q => q (show bgP 0 (kdS s) from Or.inr h38))).trans ((if_pos (by omega)).trans (by rw [ev, ew]))]
            exact hS26
        · refine xx_iconst (q := 102) rfl rfl (by decide) ?_
          refine xx_goto (q := 106) rfl rfl ?_
          obtain ⟨D27, hx27, hS27⟩ := c_wtG (n := n) hR hdr hdr2 hh hS19 1
          refine xx_callV (q := 109) (As := [_]) (rest := []) rfl rfl rfl (Or.inl rfl) rfl rfl (Nat.le_of_ble_eq_true rfl) xS_7 (XCm hx27 rfl) rfl ?_
          refine xx_aload_n (q := 110) rfl rfl rfl ?_
          refine xx_sipush (q := 113) rfl rfl (by decide) ?_
          obtain ⟨D28, hx28, hq28, hg28⟩ := c_take (n := n) hR hS27.1 303
          have hS28 : LwS 7 dr al D0 (tkS 303 (wtS 1 (stS s))) D28 := hS27.tp (by omega) (by omega) hq28 hg28
          refine xx_callV (q := 116) (As := [_]) (rest := []) rfl rfl rfl (Or.inl rfl) rfl rfl (Nat.le_of_ble_eq_true rfl) xS_474 (XCm hx28 rfl) rfl ?_
          refine xx_ifb_eq (q := 134) (q2 := 119) rfl rfl rfl (fun h116 => ?_) (fun h116 => ?_)
          · refine xx_aload_n (q := 135) rfl rfl rfl ?_
            refine xx_bipush (q := 137) rfl rfl (by decide) ?_
            obtain ⟨D29, hx29, hS29⟩ := c_wtG (n := n) hR hdr hdr2 hh hS28 (-30)
            refine xx_callV (q := 140) (As := [_]) (rest := []) rfl rfl rfl (Or.inl rfl) rfl rfl (Nat.le_of_ble_eq_true rfl) xS_7 (XCm hx29 rfl) rfl ?_
            refine xx_aload_n (q := 141) rfl rfl rfl ?_
            refine xx_bipush (q := 143) rfl rfl (by decide) ?_
            obtain ⟨D30, hx30, hq30, hg30⟩ := c_expect (n := n) hR hS29.1 59
            have hS30 : LwS 7 dr al D0 (exS 59 (wtS (-30) (tkS 303 (wtS 1 (stS s))))) D30 := hS29.tp (by omega) (by omega) hq30 hg30
            refine xx_callV (q := 146) (As := [_]) (rest := []) rfl rfl rfl (Or.inl rfl) rfl rfl (Nat.le_of_ble_eq_true rfl) xS_474 (XCm hx30 rfl) rfl ?_
            refine xx_vret rfl rfl ⟨rfl, _, rfl, ?_⟩
            have ev : vaF 0 s = wtS 1 (stS s) := congrArg (fun z => wtS z (stS s)) (if_pos h98)
            have ew : whF 0 (wtS 1 (stS s)) = (wtS (-30) (tkS 303 (wtS 1 (stS s)))) := (if_neg h116).trans (by rw [tks_n h116])
            rw [show liF 0 bf s = exS 59 (wtS (-30) (tkS 303 (wtS 1 (stS s)))) from (if_neg (fun q => q (show bgP 0 (kdS s) from Or.inr h38))).trans ((if_pos (by omega)).trans (by rw [ev, ew]))]
            exact hS30
          · refine xx_aload_n (q := 120) rfl rfl rfl ?_
            refine xx_aload_n (q := 121) rfl rfl rfl ?_
            refine xx_iconst (q := 122) rfl rfl (by decide) ?_
            obtain ⟨D31, hx31, hS31⟩ := c_eiG (n := n) hR hdr hdr2 hh (by omega) (clF 0 8) 0 (c_clG (n := n) hR hdr hdr2 hh 8 0 (by omega) (by omega)) _ _ hS28
            refine xx_callV (q := 125) (As := [_, _]) (rest := []) rfl rfl rfl (Or.inl rfl) rfl rfl (Nat.le_of_ble_eq_true rfl) xS_7 (XCm hx31 rfl) rfl ?_
            refine xx_aload_n (q := 126) rfl rfl rfl ?_
            refine xx_bipush (q := 128) rfl rfl (by decide) ?_
            obtain ⟨D32, hx32, hS32⟩ := c_wtG (n := n) hR hdr hdr2 hh hS31 (-31)
            refine xx_callV (q := 131) (As := [_]) (rest := []) rfl rfl rfl (Or.inl rfl) rfl rfl (Nat.le_of_ble_eq_true rfl) xS_7 (XCm hx32 rfl) rfl ?_
            refine xx_goto (q := 140) rfl rfl ?_
            refine xx_aload_n (q := 141) rfl rfl rfl ?_
            refine xx_bipush (q := 143) rfl rfl (by decide) ?_
            obtain ⟨D33, hx33, hq33, hg33⟩ := c_expect (n := n) hR hS32.1 59
            have hS33 : LwS 7 dr al D0 (exS 59 (wtS (-31) (eiG (clF 0 8) (tkS 303 (wtS 1 (stS s)))))) D33 := hS32.tp (by omega) (by omega) hq33 hg33
            refine xx_callV (q := 146) (As := [_]) (rest := []) rfl rfl rfl (Or.inl rfl) rfl rfl (Nat.le_of_ble_eq_true rfl) xS_474 (XCm hx33 rfl) rfl ?_
            refine xx_vret rfl rfl ⟨rfl, _, rfl, ?_⟩
            have ev : vaF 0 s = wtS 1 (stS s) := congrArg (fun z => wtS z (stS s)) (if_pos h98)
            have ew : whF 0 (wtS 1 (stS s)) = (wtS (-31) (eiG (clF 0 8) (tkS 303 (wtS 1 (stS s))))) := (if_pos h116).trans (by rw [tks_y h116])
            rw [show liF 0 bf s = exS 59 (wtS (-31) (eiG (clF 0 8) (tkS 303 (wtS 1 (stS s))))) from (if_neg (fun q => q (show bgP 0 (kdS s) from Or.inr h38))).trans ((if_pos (by omega)).trans (by rw [ev, ew]))]
            exact hS33
      · refine xx_aload_n (q := 60) rfl rfl rfl ?_
        refine xx_iload (q := 62) rfl rfl rfl ?_
        refine xx_if_eq (q := 69) (q2 := 65) rfl rfl rfl (fun h62 => (by exfalso; omega)) (fun _ => ?_)
        refine xx_iconst (q := 66) rfl rfl (by decide) ?_
        refine xx_goto (q := 70) rfl rfl ?_
        obtain ⟨D34, hx34, hq34, hg34⟩ := c_wrong (n := n) hR hS.1 3
        have hS34 : LwS 7 dr al D0 (wrS 3 s) D34 := hS.tp (by omega) (by omega) hq34 hg34
        refine xx_callV (q := 73) (As := [_]) (rest := []) rfl rfl rfl (Or.inl rfl) rfl rfl (Nat.le_of_ble_eq_true rfl) xS_474 (XCm hx34 rfl) rfl ?_
        refine xx_vret rfl rfl ⟨rfl, _, rfl, ?_⟩
        rw [show liF 0 bf s = wrS 3 s from (if_neg (fun q => q (show bgP 0 (kdS s) from Or.inr h38))).trans (if_neg (by omega))]
        exact hS34
set_option maxHeartbeats 1000000 in
theorem c_boH_L {n dr L : Nat} {R : Nat → Nat → Option Nat} {D0 : KK} {al : List Tk} (hR : RF R) (hdr : R 11 5 = some dr) (hdr2 : dr = 12 ∨ dr = 13) (hh : D0 11 1 = 1) (hL : 5 ≤ L) (cl : Sg → Sg) (o : Int) (hcl : ∀ (s : Sg) (D : KK), LwS 11 dr al D0 s D → ∃ D', XC L 70 [.inr (some 11), .inr (some 474), .inl o] (xS n, R, D) none (xS n, R, D') ∧ LwS 11 dr al D0 (cl s) D') : ∀ (k : Nat) (s : Sg) (D : KK) (i : Int), LwS 11 dr al D0 s D → 0 ≤ i → i + k = 400 → XX (XC L) 69 (XP none (xS n) R (fun D' => LwS 11 dr al D0 (boL cl k s) D')) 8 [some (.inr (some 11)), some (.inr (some 474)), some (.inl o), some (.inl i)] [] (xS n, R, D) := by
  intro k
  induction k using Nat.strongRecOn with
  | ind k ih =>
  intro s D i hS h0 hk
  have hsdr := sh_ch (n := n) hdr2
  refine xx_iload_n (q := 9) rfl rfl rfl ?_
  refine xx_sipush (q := 12) rfl rfl (by decide) ?_
  refine xx_icmp_ge (q := 43) (q2 := 15) rfl rfl rfl (fun h12 => ?_) (fun h12 => ?_)
  · refine xx_vret rfl rfl ⟨rfl, _, rfl, ?_⟩
    obtain rfl : k = 0 := by omega
    exact hS
  · refine xx_aload_n (q := 16) rfl rfl rfl ?_
    refine xx_sipush (q := 19) rfl rfl (by decide) ?_
    obtain ⟨D1, hx1, hq1, hg1⟩ := c_take (n := n) hR hS.1 305
    have hS1 : LwS 11 dr al D0 (tkS 305 s) D1 := hS.tp (by omega) (by omega) hq1 hg1
    refine xx_callV (q := 22) (As := [_]) (rest := []) rfl rfl rfl (Or.inl rfl) rfl rfl (Nat.le_of_ble_eq_true rfl) xS_474 (XC_le (by omega) hx1) rfl ?_
    refine xx_ifb_eq (q := 43) (q2 := 25) rfl rfl rfl (fun h22 => ?_) (fun h22 => ?_)
    · refine xx_vret rfl rfl ⟨rfl, _, rfl, ?_⟩
      obtain ⟨k, rfl⟩ : ∃ k2, k = k2 + 1 := ⟨k - 1, by omega⟩
      rw [show boL cl (k + 1) s = tkS 305 s from (if_neg h22).trans (tks_n h22).symm]
      exact hS1
    · refine xx_aload_n (q := 26) rfl rfl rfl ?_
      refine xx_aload_n (q := 27) rfl rfl rfl ?_
      refine xx_iload_n (q := 28) rfl rfl rfl ?_
      obtain ⟨D2, hx2, hS2⟩ := hcl _ _ hS1
      refine xx_callV (q := 31) (As := [_, _]) (rest := []) rfl rfl rfl (Or.inl rfl) rfl rfl (Nat.le_of_ble_eq_true rfl) xS_11 (XC_le (by omega) hx2) rfl ?_
      refine xx_aload_n (q := 32) rfl rfl rfl ?_
      refine xx_bipush (q := 34) rfl rfl (by decide) ?_
      obtain ⟨D3, hx3, hS3⟩ := c_wtH (n := n) hR hdr hdr2 hh hS2 (-27)
      refine xx_callV (q := 37) (As := [_]) (rest := []) rfl rfl rfl (Or.inl rfl) rfl rfl (Nat.le_of_ble_eq_true rfl) xS_11 (XC_le (by omega) hx3) rfl ?_
      refine xx_incz (q := 40) (loc2 := [_, _, _, _]) rfl rfl rfl (by omega) (by omega) rfl rfl ?_
      refine xx_goto (q := 8) rfl rfl ?_
      obtain ⟨k, rfl⟩ : ∃ k2, k = k2 + 1 := ⟨k - 1, by omega⟩
      have e : boL cl (k + 1) s = boL cl k (wtS (-27) (cl (tkS 305 s))) := (if_pos h22).trans (by rw [tks_y h22])
      rw [e]
      exact ih k (by omega) _ _ _ hS3 (by omega) (by omega)
theorem c_boH {n dr L : Nat} {R : Nat → Nat → Option Nat} {D0 : KK} {al : List Tk} (hR : RF R) (hdr : R 11 5 = some dr) (hdr2 : dr = 12 ∨ dr = 13) (hh : D0 11 1 = 1) (hL : 5 ≤ L) (cl : Sg → Sg) (o : Int) (hcl : ∀ (s : Sg) (D : KK), LwS 11 dr al D0 s D → ∃ D', XC L 70 [.inr (some 11), .inr (some 474), .inl o] (xS n, R, D) none (xS n, R, D') ∧ LwS 11 dr al D0 (cl s) D') : ∀ (s : Sg) (D : KK), LwS 11 dr al D0 s D → ∃ D', XC (L + 1) 69 [.inr (some 11), .inr (some 474), .inl o] (xS n, R, D) none (xS n, R, D') ∧ LwS 11 dr al D0 (boG cl s) D' := by
  intro s D hS
  have hsdr := sh_ch (n := n) hdr2
  refine XE_of (Nat.le_of_ble_eq_true rfl) (Nat.le_of_ble_eq_true rfl) (loc := [_, _, _, _]) rfl ?_
  refine xx_aload_n (q := 1) rfl rfl rfl ?_
  refine xx_aload_n (q := 2) rfl rfl rfl ?_
  refine xx_iload_n (q := 3) rfl rfl rfl ?_
  obtain ⟨D1, hx1, hS1⟩ := hcl _ _ hS
  refine xx_callV (q := 6) (As := [_, _]) (rest := []) rfl rfl rfl (Or.inl rfl) rfl rfl (Nat.le_of_ble_eq_true rfl) xS_11 (XC_le (by omega) hx1) rfl ?_
  refine xx_iconst (q := 7) rfl rfl (by decide) ?_
  refine xx_istore_n (q := 8) (loc2 := [_, _, _, _]) rfl rfl (Nat.le_of_ble_eq_true rfl) rfl ?_
  exact c_boH_L hR hdr hdr2 hh hL cl o hcl 400 _ _ 0 hS1 (by omega) (by omega)
set_option maxHeartbeats 1000000 in
theorem c_eiH_L {n dr L : Nat} {R : Nat → Nat → Option Nat} {D0 : KK} {al : List Tk} (hR : RF R) (hdr : R 11 5 = some dr) (hdr2 : dr = 12 ∨ dr = 13) (hh : D0 11 1 = 1) (hL : 5 ≤ L) (cl : Sg → Sg) (o : Int) (hcl : ∀ (s : Sg) (D : KK), LwS 11 dr al D0 s D → ∃ D', XC L 70 [.inr (some 11), .inr (some 474), .inl o] (xS n, R, D) none (xS n, R, D') ∧ LwS 11 dr al D0 (cl s) D') : ∀ (k : Nat) (s : Sg) (D : KK) (i : Int), LwS 11 dr al D0 s D → 0 ≤ i → i + k = 400 → XX (XC (L + 1)) 68 (XP none (xS n) R (fun D' => LwS 11 dr al D0 (eiL cl k s) D')) 8 [some (.inr (some 11)), some (.inr (some 474)), some (.inl o), some (.inl i)] [] (xS n, R, D) := by
  intro k
  induction k using Nat.strongRecOn with
  | ind k ih =>
  intro s D i hS h0 hk
  have hsdr := sh_ch (n := n) hdr2
  refine xx_iload_n (q := 9) rfl rfl rfl ?_
  refine xx_sipush (q := 12) rfl rfl (by decide) ?_
  refine xx_icmp_ge (q := 43) (q2 := 15) rfl rfl rfl (fun h12 => ?_) (fun h12 => ?_)
  · refine xx_vret rfl rfl ⟨rfl, _, rfl, ?_⟩
    obtain rfl : k = 0 := by omega
    exact hS
  · refine xx_aload_n (q := 16) rfl rfl rfl ?_
    refine xx_sipush (q := 19) rfl rfl (by decide) ?_
    obtain ⟨D1, hx1, hq1, hg1⟩ := c_take (n := n) hR hS.1 304
    have hS1 : LwS 11 dr al D0 (tkS 304 s) D1 := hS.tp (by omega) (by omega) hq1 hg1
    refine xx_callV (q := 22) (As := [_]) (rest := []) rfl rfl rfl (Or.inl rfl) rfl rfl (Nat.le_of_ble_eq_true rfl) xS_474 (XC_le (by omega) hx1) rfl ?_
    refine xx_ifb_eq (q := 43) (q2 := 25) rfl rfl rfl (fun h22 => ?_) (fun h22 => ?_)
    · refine xx_vret rfl rfl ⟨rfl, _, rfl, ?_⟩
      obtain ⟨k, rfl⟩ : ∃ k2, k = k2 + 1 := ⟨k - 1, by omega⟩
      rw [show eiL cl (k + 1) s = tkS 304 s from (if_neg h22).trans (tks_n h22).symm]
      exact hS1
    · refine xx_aload_n (q := 26) rfl rfl rfl ?_
      refine xx_aload_n (q := 27) rfl rfl rfl ?_
      refine xx_iload_n (q := 28) rfl rfl rfl ?_
      obtain ⟨D2, hx2, hS2⟩ := c_boH (n := n) hR hdr hdr2 hh hL cl o hcl _ _ hS1
      refine xx_callV (q := 31) (As := [_, _]) (rest := []) rfl rfl rfl (Or.inl rfl) rfl rfl (Nat.le_of_ble_eq_true rfl) xS_11 (XC_le (by omega) hx2) rfl ?_
      refine xx_aload_n (q := 32) rfl rfl rfl ?_
      refine xx_bipush (q := 34) rfl rfl (by decide) ?_
      obtain ⟨D3, hx3, hS3⟩ := c_wtH (n := n) hR hdr hdr2 hh hS2 (-28)
      refine xx_callV (q := 37) (As := [_]) (rest := []) rfl rfl rfl (Or.inl rfl) rfl rfl (Nat.le_of_ble_eq_true rfl) xS_11 (XC_le (by omega) hx3) rfl ?_
      refine xx_incz (q := 40) (loc2 := [_, _, _, _]) rfl rfl rfl (by omega) (by omega) rfl rfl ?_
      refine xx_goto (q := 8) rfl rfl ?_
      obtain ⟨k, rfl⟩ : ∃ k2, k = k2 + 1 := ⟨k - 1, by omega⟩
      have e : eiL cl (k + 1) s = eiL cl k (wtS (-28) (boG cl (tkS 304 s))) := (if_pos h22).trans (by rw [tks_y h22])
      rw [e]
      exact ih k (by omega) _ _ _ hS3 (by omega) (by omega)
theorem c_eiH {n dr L : Nat} {R : Nat → Nat → Option Nat} {D0 : KK} {al : List Tk} (hR : RF R) (hdr : R 11 5 = some dr) (hdr2 : dr = 12 ∨ dr = 13) (hh : D0 11 1 = 1) (hL : 5 ≤ L) (cl : Sg → Sg) (o : Int) (hcl : ∀ (s : Sg) (D : KK), LwS 11 dr al D0 s D → ∃ D', XC L 70 [.inr (some 11), .inr (some 474), .inl o] (xS n, R, D) none (xS n, R, D') ∧ LwS 11 dr al D0 (cl s) D') : ∀ (s : Sg) (D : KK), LwS 11 dr al D0 s D → ∃ D', XC ((L + 1) + 1) 68 [.inr (some 11), .inr (some 474), .inl o] (xS n, R, D) none (xS n, R, D') ∧ LwS 11 dr al D0 (eiG cl s) D' := by
  intro s D hS
  have hsdr := sh_ch (n := n) hdr2
  refine XE_of (Nat.le_of_ble_eq_true rfl) (Nat.le_of_ble_eq_true rfl) (loc := [_, _, _, _]) rfl ?_
  refine xx_aload_n (q := 1) rfl rfl rfl ?_
  refine xx_aload_n (q := 2) rfl rfl rfl ?_
  refine xx_iload_n (q := 3) rfl rfl rfl ?_
  obtain ⟨D1, hx1, hS1⟩ := c_boH (n := n) hR hdr hdr2 hh hL cl o hcl _ _ hS
  refine xx_callV (q := 6) (As := [_, _]) (rest := []) rfl rfl rfl (Or.inl rfl) rfl rfl (Nat.le_of_ble_eq_true rfl) xS_11 (XC_le (by omega) hx1) rfl ?_
  refine xx_iconst (q := 7) rfl rfl (by decide) ?_
  refine xx_istore_n (q := 8) (loc2 := [_, _, _, _]) rfl rfl (Nat.le_of_ble_eq_true rfl) rfl ?_
  exact c_eiH_L hR hdr hdr2 hh hL cl o hcl 400 _ _ 0 hS1 (by omega) (by omega)
set_option maxHeartbeats 4000000 in
theorem c_clH {n dr : Nat} {R : Nat → Nat → Option Nat} {D0 : KK} {al : List Tk} (hR : RF R) (hdr : R 11 5 = some dr) (hdr2 : dr = 12 ∨ dr = 13) (hh : D0 11 1 = 1) : ∀ (m : Nat) (o : Int), 0 ≤ o → o + m = 8 → ∀ (s : Sg) (D : KK), LwS 11 dr al D0 s D → ∃ D', XC (6 + 3 * m) 70 [.inr (some 11), .inr (some 474), .inl o] (xS n, R, D) none (xS n, R, D') ∧ LwS 11 dr al D0 (clF 1 m s) D' := by
  intro m
  induction m with
  | zero =>
    intro o ho0 ho s D hS
    have hsdr := sh_ch (n := n) hdr2
    obtain rfl : o = 8 := by omega
    refine XE_of (Nat.le_of_ble_eq_true rfl) (Nat.le_of_ble_eq_true rfl) (loc := [_, _, _, _, _, _, _]) rfl ?_
    refine xx_aload_n (q := 1) rfl rfl rfl ?_
    have hkb1 := kdT_b hS.1
    change 0 ≤ kdS s ∧ kdS s ≤ 400 at hkb1
    refine xx_callV (q := 4) (As := []) (rest := []) rfl rfl rfl (Or.inl rfl) rfl rfl (Nat.le_of_ble_eq_true rfl) xS_474 (XC_le (by omega) (c_kindS (n := n) (s := s) hR hS.1)) rfl ?_
    refine xx_istore_n (q := 5) (loc2 := [_, _, _, _, _, _, _]) rfl rfl (Nat.le_of_ble_eq_true rfl) rfl ?_
    refine xx_iload_n (q := 6) rfl rfl rfl ?_
    refine xx_bipush (q := 8) rfl rfl (by decide) ?_
    refine xx_icmp_eq (q := 18) (q2 := 11) rfl rfl rfl (fun h8 => ?_) (fun h8 => ?_)
    · refine xx_iconst (q := 19) rfl rfl (by decide) ?_
      refine xx_goto (q := 23) rfl rfl ?_
      refine xx_istore (q := 25) (loc2 := [_, _, _, _, _, _, _]) rfl rfl (Nat.le_of_ble_eq_true rfl) rfl ?_
      refine xx_iload (q := 27) rfl rfl rfl ?_
      refine xx_if_eq (q := 44) (q2 := 30) rfl rfl rfl (fun h27 => (by exfalso; omega)) (fun _ => ?_)
      refine xx_iload_n (q := 31) rfl rfl rfl ?_
      refine xx_bipush (q := 33) rfl rfl (by decide) ?_
      refine xx_icmp_lt (q := 44) (q2 := 36) rfl rfl rfl (fun h33 => (by exfalso; omega)) (fun _ => ?_)
      refine xx_aload_n (q := 37) rfl rfl rfl ?_
      refine xx_iconst (q := 38) rfl rfl (by decide) ?_
      obtain ⟨D2, hx2, hq2, hg2⟩ := c_wrong (n := n) hR hS.1 3
      have hS2 : LwS 11 dr al D0 (wrS 3 s) D2 := hS.tp (by omega) (by omega) hq2 hg2
      refine xx_callV (q := 41) (As := [_]) (rest := []) rfl rfl rfl (Or.inl rfl) rfl rfl (Nat.le_of_ble_eq_true rfl) xS_474 (XC_le (by omega) hx2) rfl ?_
      refine xx_goto (q := 168) rfl rfl ?_
      refine xx_vret rfl rfl ⟨rfl, _, rfl, ?_⟩
      rw [show clF 1 0 s = wrS 3 s from if_pos (Or.inl h8)]
      exact hS2
    · refine xx_iload_n (q := 12) rfl rfl rfl ?_
      refine xx_sipush (q := 15) rfl rfl (by decide) ?_
      refine xx_icmp_ne (q := 22) (q2 := 18) rfl rfl rfl (fun h15 => ?_) (fun h15 => ?_)
      · refine xx_iconst (q := 23) rfl rfl (by decide) ?_
        refine xx_istore (q := 25) (loc2 := [_, _, _, _, _, _, _]) rfl rfl (Nat.le_of_ble_eq_true rfl) rfl ?_
        refine xx_iload (q := 27) rfl rfl rfl ?_
        refine xx_if_eq (q := 44) (q2 := 30) rfl rfl rfl (fun _ => ?_) (fun h27 => (by exfalso; omega))
        refine xx_iload_n (q := 45) rfl rfl rfl ?_
        refine xx_sipush (q := 48) rfl rfl (by decide) ?_
        refine xx_icmp_ne (q := 72) (q2 := 51) rfl rfl rfl (fun _ => ?_) (fun h48 => (by exfalso; omega))
        refine xx_iload_n (q := 73) rfl rfl rfl ?_
        refine xx_bipush (q := 75) rfl rfl (by decide) ?_
        refine xx_icmp_ne (q := 99) (q2 := 78) rfl rfl rfl (fun _ => ?_) (fun h75 => (by exfalso; omega))
        refine xx_aload_n (q := 100) rfl rfl rfl ?_
        refine xx_aload_n (q := 101) rfl rfl rfl ?_
        obtain ⟨D3, hx3, hS3⟩ := c_smH (n := n) hR hdr hdr2 hh hS
        refine xx_callV (q := 104) (As := [_]) (rest := []) rfl rfl rfl (Or.inl rfl) rfl rfl (Nat.le_of_ble_eq_true rfl) xS_11 (XC_le (by omega) hx3) rfl ?_
        refine xx_aload_n (q := 105) rfl rfl rfl ?_
        have hkb4 := kdT_b hS3.1
        change 0 ≤ kdS (smS 1 s) ∧ kdS (smS 1 s) ≤ 400 at hkb4
        refine xx_callV (q := 108) (As := []) (rest := []) rfl rfl rfl (Or.inl rfl) rfl rfl (Nat.le_of_ble_eq_true rfl) xS_474 (XC_le (by omega) (c_kindS (n := n) (s := smS 1 s) hR hS3.1)) rfl ?_
        refine xx_istore (q := 110) (loc2 := [_, _, _, _, _, _, _]) rfl rfl (Nat.le_of_ble_eq_true rfl) rfl ?_
        refine xx_aload_n (q := 111) rfl rfl rfl ?_
        refine xx_bipush (q := 113) rfl rfl (by decide) ?_
        obtain ⟨D5, hx5, hq5, hg5⟩ := c_take (n := n) hR hS3.1 60
        have hS5 : LwS 11 dr al D0 (tkS 60 (smS 1 s)) D5 := hS3.tp (by omega) (by omega) hq5 hg5
        refine xx_callV (q := 116) (As := [_]) (rest := []) rfl rfl rfl (Or.inl rfl) rfl rfl (Nat.le_of_ble_eq_true rfl) xS_474 (XC_le (by omega) hx5) rfl ?_
        refine xx_ifb_ne (q := 137) (q2 := 119) rfl rfl rfl (fun h116 => ?_) (fun h116 => ?_)
        · refine xx_iconst (q := 138) rfl rfl (by decide) ?_
          refine xx_goto (q := 142) rfl rfl ?_
          refine xx_istore (q := 144) (loc2 := [_, _, _, _, _, _, _]) rfl rfl (Nat.le_of_ble_eq_true rfl) rfl ?_
          refine xx_iload (q := 146) rfl rfl rfl ?_
          refine xx_if_ne (q := 154) (q2 := 149) rfl rfl rfl (fun _ => ?_) (fun h146 => (by exfalso; omega))
          refine xx_aload_n (q := 155) rfl rfl rfl ?_
          refine xx_aload_n (q := 156) rfl rfl rfl ?_
          obtain ⟨D6, hx6, hS6⟩ := c_smH (n := n) hR hdr hdr2 hh hS5
          refine xx_callV (q := 159) (As := [_]) (rest := []) rfl rfl rfl (Or.inl rfl) rfl rfl (Nat.le_of_ble_eq_true rfl) xS_11 (XC_le (by omega) hx6) rfl ?_
          refine xx_aload_n (q := 160) rfl rfl rfl ?_
          refine xx_iload (q := 162) rfl rfl rfl ?_
          refine xx_callS (q := 165) (As := [_]) (rest := [_]) rfl rfl rfl (Or.inl rfl) rfl rfl (Nat.le_of_ble_eq_true rfl) (XC_le (by omega) (c_cp (kdS (smS 1 s)))) rfl ?_
          obtain ⟨D7, hx7, hS7⟩ := c_wtH (n := n) hR hdr hdr2 hh hS6 (cpF (kdS (smS 1 s)))
          refine xx_callV (q := 168) (As := [_]) (rest := []) rfl rfl rfl (Or.inl rfl) rfl rfl (Nat.le_of_ble_eq_true rfl) xS_11 (XC_le (by omega) hx7) rfl ?_
          refine xx_vret rfl rfl ⟨rfl, _, rfl, ?_⟩
          have e : clF 1 0 s = wtS (cpF (kdS (smS 1 s))) (smS 1 (tkS 60 (smS 1 s))) := (if_neg (fun q => q.elim h8 h15)).trans (by unfold cmF; rw [tk3_1 h116])
          rw [e]
          exact hS7
        · refine xx_aload_n (q := 120) rfl rfl rfl ?_
          refine xx_bipush (q := 122) rfl rfl (by decide) ?_
          obtain ⟨D8, hx8, hq8, hg8⟩ := c_take (n := n) hR hS5.1 61
          have hS8 : LwS 11 dr al D0 (tkS 61 (tkS 60 (smS 1 s))) D8 := hS5.tp (by omega) (by omega) hq8 hg8
          refine xx_callV (q := 125) (As := [_]) (rest := []) rfl rfl rfl (Or.inl rfl) rfl rfl (Nat.le_of_ble_eq_true rfl) xS_474 (XC_le (by omega) hx8) rfl ?_
          refine xx_ifb_ne (q := 137) (q2 := 128) rfl rfl rfl (fun h125 => ?_) (fun h125 => ?_)
          · refine xx_iconst (q := 138) rfl rfl (by decide) ?_
            refine xx_goto (q := 142) rfl rfl ?_
            refine xx_istore (q := 144) (loc2 := [_, _, _, _, _, _, _]) rfl rfl (Nat.le_of_ble_eq_true rfl) rfl ?_
            refine xx_iload (q := 146) rfl rfl rfl ?_
            refine xx_if_ne (q := 154) (q2 := 149) rfl rfl rfl (fun _ => ?_) (fun h146 => (by exfalso; omega))
            refine xx_aload_n (q := 155) rfl rfl rfl ?_
            refine xx_aload_n (q := 156) rfl rfl rfl ?_
            obtain ⟨D9, hx9, hS9⟩ := c_smH (n := n) hR hdr hdr2 hh hS8
            refine xx_callV (q := 159) (As := [_]) (rest := []) rfl rfl rfl (Or.inl rfl) rfl rfl (Nat.le_of_ble_eq_true rfl) xS_11 (XC_le (by omega) hx9) rfl ?_
            refine xx_aload_n (q := 160) rfl rfl rfl ?_
            refine xx_iload (q := 162) rfl rfl rfl ?_
            refine xx_callS (q := 165) (As := [_]) (rest := [_]) rfl rfl rfl (Or.inl rfl) rfl rfl (Nat.le_of_ble_eq_true rfl) (XC_le (by omega) (c_cp (kdS (smS 1 s)))) rfl ?_
            obtain ⟨D10, hx10, hS10⟩ := c_wtH (n := n) hR hdr hdr2 hh hS9 (cpF (kdS (smS 1 s)))
            refine xx_callV (q := 168) (As := [_]) (rest := []) rfl rfl rfl (Or.inl rfl) rfl rfl (Nat.le_of_ble_eq_true rfl) xS_11 (XC_le (by omega) hx10) rfl ?_
            refine xx_vret rfl rfl ⟨rfl, _, rfl, ?_⟩
            have e : clF 1 0 s = wtS (cpF (kdS (smS 1 s))) (smS 1 (tkS 61 (tkS 60 (smS 1 s)))) := (if_neg (fun q => q.elim h8 h15)).trans (by unfold cmF; rw [tk3_2 h116 h125])
            rw [e]
            exact hS10
          · refine xx_aload_n (q := 129) rfl rfl rfl ?_
            refine xx_bipush (q := 131) rfl rfl (by decide) ?_
            obtain ⟨D11, hx11, hq11, hg11⟩ := c_take (n := n) hR hS8.1 62
            have hS11 : LwS 11 dr al D0 (tkS 62 (tkS 61 (tkS 60 (smS 1 s)))) D11 := hS8.tp (by omega) (by omega) hq11 hg11
            refine xx_callV (q := 134) (As := [_]) (rest := []) rfl rfl rfl (Or.inl rfl) rfl rfl (Nat.le_of_ble_eq_true rfl) xS_474 (XC_le (by omega) hx11) rfl ?_
            refine xx_ifb_eq (q := 141) (q2 := 137) rfl rfl rfl (fun h134 => ?_) (fun h134 => ?_)
            · refine xx_iconst (q := 142) rfl rfl (by decide) ?_
              refine xx_istore (q := 144) (loc2 := [_, _, _, _, _, _, _]) rfl rfl (Nat.le_of_ble_eq_true rfl) rfl ?_
              refine xx_iload (q := 146) rfl rfl rfl ?_
              refine xx_if_ne (q := 154) (q2 := 149) rfl rfl rfl (fun h146 => (by exfalso; omega)) (fun _ => ?_)
              refine xx_aload_n (q := 150) rfl rfl rfl ?_
              refine xx_iconst (q := 151) rfl rfl (by decide) ?_
              obtain ⟨D12, hx12, hq12, hg12⟩ := c_wrong (n := n) hR hS11.1 1
              have hS12 : LwS 11 dr al D0 (wrS 1 (tkS 62 (tkS 61 (tkS 60 (smS 1 s))))) D12 := hS11.tp (by omega) (by omega) hq12 hg12
              refine xx_callV (q := 154) (As := [_]) (rest := []) rfl rfl rfl (Or.inl rfl) rfl rfl (Nat.le_of_ble_eq_true rfl) xS_474 (XC_le (by omega) hx12) rfl ?_
              refine xx_aload_n (q := 155) rfl rfl rfl ?_
              refine xx_aload_n (q := 156) rfl rfl rfl ?_
              obtain ⟨D13, hx13, hS13⟩ := c_smH (n := n) hR hdr hdr2 hh hS12
              refine xx_callV (q := 159) (As := [_]) (rest := []) rfl rfl rfl (Or.inl rfl) rfl rfl (Nat.le_of_ble_eq_true rfl) xS_11 (XC_le (by omega) hx13) rfl ?_
              refine xx_aload_n (q := 160) rfl rfl rfl ?_
              refine xx_iload (q := 162) rfl rfl rfl ?_
              refine xx_callS (q := 165) (As := [_]) (rest := [_]) rfl rfl rfl (Or.inl rfl) rfl rfl (Nat.le_of_ble_eq_true rfl) (XC_le (by omega) (c_cp (kdS (smS 1 s)))) rfl ?_
              obtain ⟨D14, hx14, hS14⟩ := c_wtH (n := n) hR hdr hdr2 hh hS13 (cpF (kdS (smS 1 s)))
              refine xx_callV (q := 168) (As := [_]) (rest := []) rfl rfl rfl (Or.inl rfl) rfl rfl (Nat.le_of_ble_eq_true rfl) xS_11 (XC_le (by omega) hx14) rfl ?_
              refine xx_vret rfl rfl ⟨rfl, _, rfl, ?_⟩
              have e : clF 1 0 s = wtS (cpF (kdS (smS 1 s))) (smS 1 (wrS 1 (tkS 62 (tkS 61 (tkS 60 (smS 1 s)))))) := (if_neg (fun q => q.elim h8 h15)).trans (by unfold cmF; rw [tk3_4 h116 h125 h134])
              rw [e]
              exact hS14
            · refine xx_iconst (q := 138) rfl rfl (by decide) ?_
              refine xx_goto (q := 142) rfl rfl ?_
              refine xx_istore (q := 144) (loc2 := [_, _, _, _, _, _, _]) rfl rfl (Nat.le_of_ble_eq_true rfl) rfl ?_
              refine xx_iload (q := 146) rfl rfl rfl ?_
              refine xx_if_ne (q := 154) (q2 := 149) rfl rfl rfl (fun _ => ?_) (fun h146 => (by exfalso; omega))
              refine xx_aload_n (q := 155) rfl rfl rfl ?_
              refine xx_aload_n (q := 156) rfl rfl rfl ?_
              obtain ⟨D15, hx15, hS15⟩ := c_smH (n := n) hR hdr hdr2 hh hS11
              refine xx_callV (q := 159) (As := [_]) (rest := []) rfl rfl rfl (Or.inl rfl) rfl rfl (Nat.le_of_ble_eq_true rfl) xS_11 (XC_le (by omega) hx15) rfl ?_
              refine xx_aload_n (q := 160) rfl rfl rfl ?_
              refine xx_iload (q := 162) rfl rfl rfl ?_
              refine xx_callS (q := 165) (As := [_]) (rest := [_]) rfl rfl rfl (Or.inl rfl) rfl rfl (Nat.le_of_ble_eq_true rfl) (XC_le (by omega) (c_cp (kdS (smS 1 s)))) rfl ?_
              obtain ⟨D16, hx16, hS16⟩ := c_wtH (n := n) hR hdr hdr2 hh hS15 (cpF (kdS (smS 1 s)))
              refine xx_callV (q := 168) (As := [_]) (rest := []) rfl rfl rfl (Or.inl rfl) rfl rfl (Nat.le_of_ble_eq_true rfl) xS_11 (XC_le (by omega) hx16) rfl ?_
              refine xx_vret rfl rfl ⟨rfl, _, rfl, ?_⟩
              have e : clF 1 0 s = wtS (cpF (kdS (smS 1 s))) (smS 1 (tkS 62 (tkS 61 (tkS 60 (smS 1 s))))) := (if_neg (fun q => q.elim h8 h15)).trans (by unfold cmF; rw [tk3_3 h116 h125 h134])
              rw [e]
              exact hS16
      · refine xx_iconst (q := 19) rfl rfl (by decide) ?_
        refine xx_goto (q := 23) rfl rfl ?_
        refine xx_istore (q := 25) (loc2 := [_, _, _, _, _, _, _]) rfl rfl (Nat.le_of_ble_eq_true rfl) rfl ?_
        refine xx_iload (q := 27) rfl rfl rfl ?_
        refine xx_if_eq (q := 44) (q2 := 30) rfl rfl rfl (fun h27 => (by exfalso; omega)) (fun _ => ?_)
        refine xx_iload_n (q := 31) rfl rfl rfl ?_
        refine xx_bipush (q := 33) rfl rfl (by decide) ?_
        refine xx_icmp_lt (q := 44) (q2 := 36) rfl rfl rfl (fun h33 => (by exfalso; omega)) (fun _ => ?_)
        refine xx_aload_n (q := 37) rfl rfl rfl ?_
        refine xx_iconst (q := 38) rfl rfl (by decide) ?_
        obtain ⟨D17, hx17, hq17, hg17⟩ := c_wrong (n := n) hR hS.1 3
        have hS17 : LwS 11 dr al D0 (wrS 3 s) D17 := hS.tp (by omega) (by omega) hq17 hg17
        refine xx_callV (q := 41) (As := [_]) (rest := []) rfl rfl rfl (Or.inl rfl) rfl rfl (Nat.le_of_ble_eq_true rfl) xS_474 (XC_le (by omega) hx17) rfl ?_
        refine xx_goto (q := 168) rfl rfl ?_
        refine xx_vret rfl rfl ⟨rfl, _, rfl, ?_⟩
        rw [show clF 1 0 s = wrS 3 s from if_pos (Or.inr h15)]
        exact hS17
  | succ m ih =>
    intro o ho0 ho s D hS
    have hsdr := sh_ch (n := n) hdr2
    rw [show 6 + 3 * (m + 1) = (6 + 3 * m + 2) + 1 by omega]
    refine XE_of (Nat.le_of_ble_eq_true rfl) (Nat.le_of_ble_eq_true rfl) (loc := [_, _, _, _, _, _, _]) rfl ?_
    refine xx_aload_n (q := 1) rfl rfl rfl ?_
    have hkb1 := kdT_b hS.1
    change 0 ≤ kdS s ∧ kdS s ≤ 400 at hkb1
    refine xx_callV (q := 4) (As := []) (rest := []) rfl rfl rfl (Or.inl rfl) rfl rfl (Nat.le_of_ble_eq_true rfl) xS_474 (XC_le (by omega) (c_kindS (n := n) (s := s) hR hS.1)) rfl ?_
    refine xx_istore_n (q := 5) (loc2 := [_, _, _, _, _, _, _]) rfl rfl (Nat.le_of_ble_eq_true rfl) rfl ?_
    refine xx_iload_n (q := 6) rfl rfl rfl ?_
    refine xx_bipush (q := 8) rfl rfl (by decide) ?_
    refine xx_icmp_eq (q := 18) (q2 := 11) rfl rfl rfl (fun h8 => ?_) (fun h8 => ?_)
    · refine xx_iconst (q := 19) rfl rfl (by decide) ?_
      refine xx_goto (q := 23) rfl rfl ?_
      refine xx_istore (q := 25) (loc2 := [_, _, _, _, _, _, _]) rfl rfl (Nat.le_of_ble_eq_true rfl) rfl ?_
      refine xx_iload (q := 27) rfl rfl rfl ?_
      refine xx_if_eq (q := 44) (q2 := 30) rfl rfl rfl (fun h27 => (by exfalso; omega)) (fun _ => ?_)
      refine xx_iload_n (q := 31) rfl rfl rfl ?_
      refine xx_bipush (q := 33) rfl rfl (by decide) ?_
      refine xx_icmp_lt (q := 44) (q2 := 36) rfl rfl rfl (fun _ => ?_) (fun h33 => (by exfalso; omega))
      refine xx_iload_n (q := 45) rfl rfl rfl ?_
      refine xx_sipush (q := 48) rfl rfl (by decide) ?_
      refine xx_icmp_ne (q := 72) (q2 := 51) rfl rfl rfl (fun _ => ?_) (fun h48 => (by exfalso; omega))
      refine xx_iload_n (q := 73) rfl rfl rfl ?_
      refine xx_bipush (q := 75) rfl rfl (by decide) ?_
      refine xx_icmp_ne (q := 99) (q2 := 78) rfl rfl rfl (fun h75 => (by exfalso; omega)) (fun _ => ?_)
      refine xx_aload_n (q := 79) rfl rfl rfl ?_
      obtain ⟨D2, hx2, hq2, hg2⟩ := c_step (n := n) hR hS.1 
      have hS2 : LwS 11 dr al D0 (stS s) D2 := hS.tp (by omega) (by omega) hq2 hg2
      refine xx_callV (q := 82) (As := []) (rest := []) rfl rfl rfl (Or.inl rfl) rfl rfl (Nat.le_of_ble_eq_true rfl) xS_474 (XC_le (by omega) hx2) rfl ?_
      refine xx_aload_n (q := 83) rfl rfl rfl ?_
      refine xx_aload_n (q := 84) rfl rfl rfl ?_
      refine xx_iload_n (q := 85) rfl rfl rfl ?_
      refine xx_iconst (q := 86) rfl rfl (by decide) ?_
      refine xx_iaddR (q := 87) rfl rfl (by omega) (by omega) ?_
      obtain ⟨D3, hx3, hS3⟩ := c_eiH (n := n) hR hdr hdr2 hh (by omega) (clF 1 m) (o + 1) (ih (o + 1) (by omega) (by omega)) _ _ hS2
      refine xx_callV (q := 90) (As := [_, _]) (rest := []) rfl rfl rfl (Or.inl rfl) rfl rfl (Nat.le_of_ble_eq_true rfl) xS_11 (XC_le (by omega) hx3) rfl ?_
      refine xx_aload_n (q := 91) rfl rfl rfl ?_
      refine xx_bipush (q := 93) rfl rfl (by decide) ?_
      obtain ⟨D4, hx4, hq4, hg4⟩ := c_expect (n := n) hR hS3.1 41
      have hS4 : LwS 11 dr al D0 (exS 41 (eiG (clF 1 m) (stS s))) D4 := hS3.tp (by omega) (by omega) hq4 hg4
      refine xx_callV (q := 96) (As := [_]) (rest := []) rfl rfl rfl (Or.inl rfl) rfl rfl (Nat.le_of_ble_eq_true rfl) xS_474 (XC_le (by omega) hx4) rfl ?_
      refine xx_goto (q := 168) rfl rfl ?_
      refine xx_vret rfl rfl ⟨rfl, _, rfl, ?_⟩
      rw [show clF 1 (m + 1) s = exS 41 (eiG (clF 1 m) (stS s)) from (if_neg (show ¬ kdS s = 306 by omega)).trans (if_pos (show kdS s = 40 by omega))]
      exact hS4
    · refine xx_iload_n (q := 12) rfl rfl rfl ?_
      refine xx_sipush (q := 15) rfl rfl (by decide) ?_
      refine xx_icmp_ne (q := 22) (q2 := 18) rfl rfl rfl (fun h15 => ?_) (fun h15 => ?_)
      · refine xx_iconst (q := 23) rfl rfl (by decide) ?_
        refine xx_istore (q := 25) (loc2 := [_, _, _, _, _, _, _]) rfl rfl (Nat.le_of_ble_eq_true rfl) rfl ?_
        refine xx_iload (q := 27) rfl rfl rfl ?_
        refine xx_if_eq (q := 44) (q2 := 30) rfl rfl rfl (fun _ => ?_) (fun h27 => (by exfalso; omega))
        refine xx_iload_n (q := 45) rfl rfl rfl ?_
        refine xx_sipush (q := 48) rfl rfl (by decide) ?_
        refine xx_icmp_ne (q := 72) (q2 := 51) rfl rfl rfl (fun _ => ?_) (fun h48 => (by exfalso; omega))
        refine xx_iload_n (q := 73) rfl rfl rfl ?_
        refine xx_bipush (q := 75) rfl rfl (by decide) ?_
        refine xx_icmp_ne (q := 99) (q2 := 78) rfl rfl rfl (fun _ => ?_) (fun h75 => (by exfalso; omega))
        refine xx_aload_n (q := 100) rfl rfl rfl ?_
        refine xx_aload_n (q := 101) rfl rfl rfl ?_
        obtain ⟨D5, hx5, hS5⟩ := c_smH (n := n) hR hdr hdr2 hh hS
        refine xx_callV (q := 104) (As := [_]) (rest := []) rfl rfl rfl (Or.inl rfl) rfl rfl (Nat.le_of_ble_eq_true rfl) xS_11 (XC_le (by omega) hx5) rfl ?_
        refine xx_aload_n (q := 105) rfl rfl rfl ?_
        have hkb6 := kdT_b hS5.1
        change 0 ≤ kdS (smS 1 s) ∧ kdS (smS 1 s) ≤ 400 at hkb6
        refine xx_callV (q := 108) (As := []) (rest := []) rfl rfl rfl (Or.inl rfl) rfl rfl (Nat.le_of_ble_eq_true rfl) xS_474 (XC_le (by omega) (c_kindS (n := n) (s := smS 1 s) hR hS5.1)) rfl ?_
        refine xx_istore (q := 110) (loc2 := [_, _, _, _, _, _, _]) rfl rfl (Nat.le_of_ble_eq_true rfl) rfl ?_
        refine xx_aload_n (q := 111) rfl rfl rfl ?_
        refine xx_bipush (q := 113) rfl rfl (by decide) ?_
        obtain ⟨D7, hx7, hq7, hg7⟩ := c_take (n := n) hR hS5.1 60
        have hS7 : LwS 11 dr al D0 (tkS 60 (smS 1 s)) D7 := hS5.tp (by omega) (by omega) hq7 hg7
        refine xx_callV (q := 116) (As := [_]) (rest := []) rfl rfl rfl (Or.inl rfl) rfl rfl (Nat.le_of_ble_eq_true rfl) xS_474 (XC_le (by omega) hx7) rfl ?_
        refine xx_ifb_ne (q := 137) (q2 := 119) rfl rfl rfl (fun h116 => ?_) (fun h116 => ?_)
        · refine xx_iconst (q := 138) rfl rfl (by decide) ?_
          refine xx_goto (q := 142) rfl rfl ?_
          refine xx_istore (q := 144) (loc2 := [_, _, _, _, _, _, _]) rfl rfl (Nat.le_of_ble_eq_true rfl) rfl ?_
          refine xx_iload (q := 146) rfl rfl rfl ?_
          refine xx_if_ne (q := 154) (q2 := 149) rfl rfl rfl (fun _ => ?_) (fun h146 => (by exfalso; omega))
          refine xx_aload_n (q := 155) rfl rfl rfl ?_
          refine xx_aload_n (q := 156) rfl rfl rfl ?_
          obtain ⟨D8, hx8, hS8⟩ := c_smH (n := n) hR hdr hdr2 hh hS7
          refine xx_callV (q := 159) (As := [_]) (rest := []) rfl rfl rfl (Or.inl rfl) rfl rfl (Nat.le_of_ble_eq_true rfl) xS_11 (XC_le (by omega) hx8) rfl ?_
          refine xx_aload_n (q := 160) rfl rfl rfl ?_
          refine xx_iload (q := 162) rfl rfl rfl ?_
          refine xx_callS (q := 165) (As := [_]) (rest := [_]) rfl rfl rfl (Or.inl rfl) rfl rfl (Nat.le_of_ble_eq_true rfl) (XC_le (by omega) (c_cp (kdS (smS 1 s)))) rfl ?_
          obtain ⟨D9, hx9, hS9⟩ := c_wtH (n := n) hR hdr hdr2 hh hS8 (cpF (kdS (smS 1 s)))
          refine xx_callV (q := 168) (As := [_]) (rest := []) rfl rfl rfl (Or.inl rfl) rfl rfl (Nat.le_of_ble_eq_true rfl) xS_11 (XC_le (by omega) hx9) rfl ?_
          refine xx_vret rfl rfl ⟨rfl, _, rfl, ?_⟩
          have e : clF 1 (m + 1) s = wtS (cpF (kdS (smS 1 s))) (smS 1 (tkS 60 (smS 1 s))) := ((if_neg (show ¬ kdS s = 306 by omega)).trans (if_neg (show ¬ kdS s = 40 by omega))).trans (by unfold cmF; rw [tk3_1 h116])
          rw [e]
          exact hS9
        · refine xx_aload_n (q := 120) rfl rfl rfl ?_
          refine xx_bipush (q := 122) rfl rfl (by decide) ?_
          obtain ⟨D10, hx10, hq10, hg10⟩ := c_take (n := n) hR hS7.1 61
          have hS10 : LwS 11 dr al D0 (tkS 61 (tkS 60 (smS 1 s))) D10 := hS7.tp (by omega) (by omega) hq10 hg10
          refine xx_callV (q := 125) (As := [_]) (rest := []) rfl rfl rfl (Or.inl rfl) rfl rfl (Nat.le_of_ble_eq_true rfl) xS_474 (XC_le (by omega) hx10) rfl ?_
          refine xx_ifb_ne (q := 137) (q2 := 128) rfl rfl rfl (fun h125 => ?_) (fun h125 => ?_)
          · refine xx_iconst (q := 138) rfl rfl (by decide) ?_
            refine xx_goto (q := 142) rfl rfl ?_
            refine xx_istore (q := 144) (loc2 := [_, _, _, _, _, _, _]) rfl rfl (Nat.le_of_ble_eq_true rfl) rfl ?_
            refine xx_iload (q := 146) rfl rfl rfl ?_
            refine xx_if_ne (q := 154) (q2 := 149) rfl rfl rfl (fun _ => ?_) (fun h146 => (by exfalso; omega))
            refine xx_aload_n (q := 155) rfl rfl rfl ?_
            refine xx_aload_n (q := 156) rfl rfl rfl ?_
            obtain ⟨D11, hx11, hS11⟩ := c_smH (n := n) hR hdr hdr2 hh hS10
            refine xx_callV (q := 159) (As := [_]) (rest := []) rfl rfl rfl (Or.inl rfl) rfl rfl (Nat.le_of_ble_eq_true rfl) xS_11 (XC_le (by omega) hx11) rfl ?_
            refine xx_aload_n (q := 160) rfl rfl rfl ?_
            refine xx_iload (q := 162) rfl rfl rfl ?_
            refine xx_callS (q := 165) (As := [_]) (rest := [_]) rfl rfl rfl (Or.inl rfl) rfl rfl (Nat.le_of_ble_eq_true rfl) (XC_le (by omega) (c_cp (kdS (smS 1 s)))) rfl ?_
            obtain ⟨D12, hx12, hS12⟩ := c_wtH (n := n) hR hdr hdr2 hh hS11 (cpF (kdS (smS 1 s)))
            refine xx_callV (q := 168) (As := [_]) (rest := []) rfl rfl rfl (Or.inl rfl) rfl rfl (Nat.le_of_ble_eq_true rfl) xS_11 (XC_le (by omega) hx12) rfl ?_
            refine xx_vret rfl rfl ⟨rfl, _, rfl, ?_⟩
            have e : clF 1 (m + 1) s = wtS (cpF (kdS (smS 1 s))) (smS 1 (tkS 61 (tkS 60 (smS 1 s)))) := ((if_neg (show ¬ kdS s = 306 by omega)).trans (if_neg (show ¬ kdS s = 40 by omega))).trans (by unfold cmF; rw [tk3_2 h116 h125])
            rw [e]
            exact hS12
          · refine xx_aload_n (q := 129) rfl rfl rfl ?_
            refine xx_bipush (q := 131) rfl rfl (by decide) ?_
            obtain ⟨D13, hx13, hq13, hg13⟩ := c_take (n := n) hR hS10.1 62
            have hS13 : LwS 11 dr al D0 (tkS 62 (tkS 61 (tkS 60 (smS 1 s)))) D13 := hS10.tp (by omega) (by omega) hq13 hg13
            refine xx_callV (q := 134) (As := [_]) (rest := []) rfl rfl rfl (Or.inl rfl) rfl rfl (Nat.le_of_ble_eq_true rfl) xS_474 (XC_le (by omega) hx13) rfl ?_
            refine xx_ifb_eq (q := 141) (q2 := 137) rfl rfl rfl (fun h134 => ?_) (fun h134 => ?_)
            · refine xx_iconst (q := 142) rfl rfl (by decide) ?_
              refine xx_istore (q := 144) (loc2 := [_, _, _, _, _, _, _]) rfl rfl (Nat.le_of_ble_eq_true rfl) rfl ?_
              refine xx_iload (q := 146) rfl rfl rfl ?_
              refine xx_if_ne (q := 154) (q2 := 149) rfl rfl rfl (fun h146 => (by exfalso; omega)) (fun _ => ?_)
              refine xx_aload_n (q := 150) rfl rfl rfl ?_
              refine xx_iconst (q := 151) rfl rfl (by decide) ?_
              obtain ⟨D14, hx14, hq14, hg14⟩ := c_wrong (n := n) hR hS13.1 1
              have hS14 : LwS 11 dr al D0 (wrS 1 (tkS 62 (tkS 61 (tkS 60 (smS 1 s))))) D14 := hS13.tp (by omega) (by omega) hq14 hg14
              refine xx_callV (q := 154) (As := [_]) (rest := []) rfl rfl rfl (Or.inl rfl) rfl rfl (Nat.le_of_ble_eq_true rfl) xS_474 (XC_le (by omega) hx14) rfl ?_
              refine xx_aload_n (q := 155) rfl rfl rfl ?_
              refine xx_aload_n (q := 156) rfl rfl rfl ?_
              obtain ⟨D15, hx15, hS15⟩ := c_smH (n := n) hR hdr hdr2 hh hS14
              refine xx_callV (q := 159) (As := [_]) (rest := []) rfl rfl rfl (Or.inl rfl) rfl rfl (Nat.le_of_ble_eq_true rfl) xS_11 (XC_le (by omega) hx15) rfl ?_
              refine xx_aload_n (q := 160) rfl rfl rfl ?_
              refine xx_iload (q := 162) rfl rfl rfl ?_
              refine xx_callS (q := 165) (As := [_]) (rest := [_]) rfl rfl rfl (Or.inl rfl) rfl rfl (Nat.le_of_ble_eq_true rfl) (XC_le (by omega) (c_cp (kdS (smS 1 s)))) rfl ?_
              obtain ⟨D16, hx16, hS16⟩ := c_wtH (n := n) hR hdr hdr2 hh hS15 (cpF (kdS (smS 1 s)))
              refine xx_callV (q := 168) (As := [_]) (rest := []) rfl rfl rfl (Or.inl rfl) rfl rfl (Nat.le_of_ble_eq_true rfl) xS_11 (XC_le (by omega) hx16) rfl ?_
              refine xx_vret rfl rfl ⟨rfl, _, rfl, ?_⟩
              have e : clF 1 (m + 1) s = wtS (cpF (kdS (smS 1 s))) (smS 1 (wrS 1 (tkS 62 (tkS 61 (tkS 60 (smS 1 s)))))) := ((if_neg (show ¬ kdS s = 306 by omega)).trans (if_neg (show ¬ kdS s = 40 by omega))).trans (by unfold cmF; rw [tk3_4 h116 h125 h134])
              rw [e]
              exact hS16
            · refine xx_iconst (q := 138) rfl rfl (by decide) ?_
              refine xx_goto (q := 142) rfl rfl ?_
              refine xx_istore (q := 144) (loc2 := [_, _, _, _, _, _, _]) rfl rfl (Nat.le_of_ble_eq_true rfl) rfl ?_
              refine xx_iload (q := 146) rfl rfl rfl ?_
              refine xx_if_ne (q := 154) (q2 := 149) rfl rfl rfl (fun _ => ?_) (fun h146 => (by exfalso; omega))
              refine xx_aload_n (q := 155) rfl rfl rfl ?_
              refine xx_aload_n (q := 156) rfl rfl rfl ?_
              obtain ⟨D17, hx17, hS17⟩ := c_smH (n := n) hR hdr hdr2 hh hS13
              refine xx_callV (q := 159) (As := [_]) (rest := []) rfl rfl rfl (Or.inl rfl) rfl rfl (Nat.le_of_ble_eq_true rfl) xS_11 (XC_le (by omega) hx17) rfl ?_
              refine xx_aload_n (q := 160) rfl rfl rfl ?_
              refine xx_iload (q := 162) rfl rfl rfl ?_
              refine xx_callS (q := 165) (As := [_]) (rest := [_]) rfl rfl rfl (Or.inl rfl) rfl rfl (Nat.le_of_ble_eq_true rfl) (XC_le (by omega) (c_cp (kdS (smS 1 s)))) rfl ?_
              obtain ⟨D18, hx18, hS18⟩ := c_wtH (n := n) hR hdr hdr2 hh hS17 (cpF (kdS (smS 1 s)))
              refine xx_callV (q := 168) (As := [_]) (rest := []) rfl rfl rfl (Or.inl rfl) rfl rfl (Nat.le_of_ble_eq_true rfl) xS_11 (XC_le (by omega) hx18) rfl ?_
              refine xx_vret rfl rfl ⟨rfl, _, rfl, ?_⟩
              have e : clF 1 (m + 1) s = wtS (cpF (kdS (smS 1 s))) (smS 1 (tkS 62 (tkS 61 (tkS 60 (smS 1 s))))) := ((if_neg (show ¬ kdS s = 306 by omega)).trans (if_neg (show ¬ kdS s = 40 by omega))).trans (by unfold cmF; rw [tk3_3 h116 h125 h134])
              rw [e]
              exact hS18
      · refine xx_iconst (q := 19) rfl rfl (by decide) ?_
        refine xx_goto (q := 23) rfl rfl ?_
        refine xx_istore (q := 25) (loc2 := [_, _, _, _, _, _, _]) rfl rfl (Nat.le_of_ble_eq_true rfl) rfl ?_
        refine xx_iload (q := 27) rfl rfl rfl ?_
        refine xx_if_eq (q := 44) (q2 := 30) rfl rfl rfl (fun h27 => (by exfalso; omega)) (fun _ => ?_)
        refine xx_iload_n (q := 31) rfl rfl rfl ?_
        refine xx_bipush (q := 33) rfl rfl (by decide) ?_
        refine xx_icmp_lt (q := 44) (q2 := 36) rfl rfl rfl (fun _ => ?_) (fun h33 => (by exfalso; omega))
        refine xx_iload_n (q := 45) rfl rfl rfl ?_
        refine xx_sipush (q := 48) rfl rfl (by decide) ?_
        refine xx_icmp_ne (q := 72) (q2 := 51) rfl rfl rfl (fun h48 => (by exfalso; omega)) (fun _ => ?_)
        refine xx_aload_n (q := 52) rfl rfl rfl ?_
        obtain ⟨D19, hx19, hq19, hg19⟩ := c_step (n := n) hR hS.1 
        have hS19 : LwS 11 dr al D0 (stS s) D19 := hS.tp (by omega) (by omega) hq19 hg19
        refine xx_callV (q := 55) (As := []) (rest := []) rfl rfl rfl (Or.inl rfl) rfl rfl (Nat.le_of_ble_eq_true rfl) xS_474 (XC_le (by omega) hx19) rfl ?_
        refine xx_aload_n (q := 56) rfl rfl rfl ?_
        refine xx_aload_n (q := 57) rfl rfl rfl ?_
        refine xx_iload_n (q := 58) rfl rfl rfl ?_
        refine xx_iconst (q := 59) rfl rfl (by decide) ?_
        refine xx_iaddR (q := 60) rfl rfl (by omega) (by omega) ?_
        obtain ⟨D20, hx20, hS20⟩ := ih (o + 1) (by omega) (by omega) _ _ hS19
        refine xx_callV (q := 63) (As := [_, _]) (rest := []) rfl rfl rfl (Or.inl rfl) rfl rfl (Nat.le_of_ble_eq_true rfl) xS_11 (XC_le (by omega) hx20) rfl ?_
        refine xx_aload_n (q := 64) rfl rfl rfl ?_
        refine xx_bipush (q := 66) rfl rfl (by decide) ?_
        obtain ⟨D21, hx21, hS21⟩ := c_wtH (n := n) hR hdr hdr2 hh hS20 (-29)
        refine xx_callV (q := 69) (As := [_]) (rest := []) rfl rfl rfl (Or.inl rfl) rfl rfl (Nat.le_of_ble_eq_true rfl) xS_11 (XC_le (by omega) hx21) rfl ?_
        refine xx_goto (q := 168) rfl rfl ?_
        refine xx_vret rfl rfl ⟨rfl, _, rfl, ?_⟩
        rw [show clF 1 (m + 1) s = wtS (-29) (clF 1 m (stS s)) from if_pos h15]
        exact hS21
set_option maxHeartbeats 4000000 in
theorem c_liH {n dr : Nat} {R : Nat → Nat → Option Nat} {D0 D : KK} {al : List Tk} {s : Sg} (hR : RF R) (hdr : R 11 5 = some dr) (hdr2 : dr = 12 ∨ dr = 13) (hh : D0 11 1 = 1) (hS : LwS 11 dr al D0 s D) (bf : Int) : ∃ D', XC 33 67 [.inr (some 11), .inr (some 474), .inl bf] (xS n, R, D) none (xS n, R, D') ∧ LwS 11 dr al D0 (liF 1 bf s) D' := by
  have hsdr := sh_ch (n := n) hdr2
  refine XE_of (Nat.le_of_ble_eq_true rfl) (Nat.le_of_ble_eq_true rfl) (loc := [_, _, _, _, _]) rfl ?_
  refine xx_aload_n (q := 1) rfl rfl rfl ?_
  have hkb1 := kdT_b hS.1
  change 0 ≤ kdS s ∧ kdS s ≤ 400 at hkb1
  refine xx_callV (q := 4) (As := []) (rest := []) rfl rfl rfl (Or.inl rfl) rfl rfl (Nat.le_of_ble_eq_true rfl) xS_474 (XCm (c_kindS (n := n) (s := s) hR hS.1) rfl) rfl ?_
  refine xx_istore_n (q := 5) (loc2 := [_, _, _, _, _]) rfl rfl (Nat.le_of_ble_eq_true rfl) rfl ?_
  refine xx_aload_n (q := 6) rfl rfl rfl ?_
  refine xx_gez (q := 9) rfl rfl rfl xS_11 (Nat.le_of_ble_eq_true rfl) rfl ((hS.2.2.2.2 11 1 (by omega) (by omega) (by omega)).trans hh) ?_
  refine xx_if_eq (q := 27) (q2 := 12) rfl rfl rfl (fun h9 => (by exfalso; omega)) (fun _ => ?_)
  refine xx_iload_n (q := 13) rfl rfl rfl ?_
  refine xx_sipush (q := 16) rfl rfl (by decide) ?_
  refine xx_icmp_ne (q := 23) (q2 := 19) rfl rfl rfl (fun h16 => ?_) (fun h16 => ?_)
  · refine xx_iconst (q := 24) rfl rfl (by decide) ?_
    refine xx_goto (q := 46) rfl rfl ?_
    refine xx_istore (q := 48) (loc2 := [_, _, _, _, _]) rfl rfl (Nat.le_of_ble_eq_true rfl) rfl ?_
    refine xx_iload (q := 50) rfl rfl rfl ?_
    refine xx_if_eq (q := 59) (q2 := 53) rfl rfl rfl (fun _ => ?_) (fun h50 => (by exfalso; omega))
    refine xx_aload_n (q := 60) rfl rfl rfl ?_
    refine xx_iload (q := 62) rfl rfl rfl ?_
    refine xx_if_eq (q := 69) (q2 := 65) rfl rfl rfl (fun _ => ?_) (fun h62 => (by exfalso; omega))
    refine xx_iconst (q := 70) rfl rfl (by decide) ?_
    obtain ⟨D2, hx2, hq2, hg2⟩ := c_wrong (n := n) hR hS.1 1
    have hS2 : LwS 11 dr al D0 (wrS 1 s) D2 := hS.tp (by omega) (by omega) hq2 hg2
    refine xx_callV (q := 73) (As := [_]) (rest := []) rfl rfl rfl (Or.inl rfl) rfl rfl (Nat.le_of_ble_eq_true rfl) xS_474 (XCm hx2 rfl) rfl ?_
    refine xx_vret rfl rfl ⟨rfl, _, rfl, ?_⟩
    rw [show liF 1 bf s = wrS 1 s from if_pos (h16)]
    exact hS2
  · refine xx_iconst (q := 20) rfl rfl (by decide) ?_
    refine xx_goto (q := 46) rfl rfl ?_
    refine xx_istore (q := 48) (loc2 := [_, _, _, _, _]) rfl rfl (Nat.le_of_ble_eq_true rfl) rfl ?_
    refine xx_iload (q := 50) rfl rfl rfl ?_
    refine xx_if_eq (q := 59) (q2 := 53) rfl rfl rfl (fun h50 => (by exfalso; omega)) (fun _ => ?_)
    refine xx_iload_n (q := 54) rfl rfl rfl ?_
    refine xx_bipush (q := 56) rfl rfl (by decide) ?_
    refine xx_icmp_lt (q := 74) (q2 := 59) rfl rfl rfl (fun h56 => ?_) (fun h56 => ?_)
    · refine xx_aload_n (q := 75) rfl rfl rfl ?_
      obtain ⟨D3, hx3, hq3, hg3⟩ := c_step (n := n) hR hS.1 
      have hS3 : LwS 11 dr al D0 (stS s) D3 := hS.tp (by omega) (by omega) hq3 hg3
      refine xx_callV (q := 78) (As := []) (rest := []) rfl rfl rfl (Or.inl rfl) rfl rfl (Nat.le_of_ble_eq_true rfl) xS_474 (XCm hx3 rfl) rfl ?_
      refine xx_aload_n (q := 79) rfl rfl rfl ?_
      refine xx_gez (q := 82) rfl rfl rfl xS_11 (Nat.le_of_ble_eq_true rfl) rfl ((hS3.2.2.2.2 11 1 (by omega) (by omega) (by omega)).trans hh) ?_
      refine xx_if_eq (q := 93) (q2 := 85) rfl rfl rfl (fun h82 => (by exfalso; omega)) (fun _ => ?_)
      refine xx_aload_n (q := 86) rfl rfl rfl ?_
      refine xx_aload_n (q := 87) rfl rfl rfl ?_
      obtain ⟨D4, hx4, hS4⟩ := c_smH (n := n) hR hdr hdr2 hh hS3
      refine xx_callV (q := 90) (As := [_]) (rest := []) rfl rfl rfl (Or.inl rfl) rfl rfl (Nat.le_of_ble_eq_true rfl) xS_11 (XCm hx4 rfl) rfl ?_
      refine xx_goto (q := 109) rfl rfl ?_
      refine xx_aload_n (q := 110) rfl rfl rfl ?_
      refine xx_sipush (q := 113) rfl rfl (by decide) ?_
      obtain ⟨D5, hx5, hq5, hg5⟩ := c_take (n := n) hR hS4.1 303
      have hS5 : LwS 11 dr al D0 (tkS 303 (smS 1 (stS s))) D5 := hS4.tp (by omega) (by omega) hq5 hg5
      refine xx_callV (q := 116) (As := [_]) (rest := []) rfl rfl rfl (Or.inl rfl) rfl rfl (Nat.le_of_ble_eq_true rfl) xS_474 (XCm hx5 rfl) rfl ?_
      refine xx_ifb_eq (q := 134) (q2 := 119) rfl rfl rfl (fun h116 => ?_) (fun h116 => ?_)
      · refine xx_aload_n (q := 135) rfl rfl rfl ?_
        refine xx_bipush (q := 137) rfl rfl (by decide) ?_
        obtain ⟨D6, hx6, hS6⟩ := c_wtH (n := n) hR hdr hdr2 hh hS5 (-30)
        refine xx_callV (q := 140) (As := [_]) (rest := []) rfl rfl rfl (Or.inl rfl) rfl rfl (Nat.le_of_ble_eq_true rfl) xS_11 (XCm hx6 rfl) rfl ?_
        refine xx_aload_n (q := 141) rfl rfl rfl ?_
        refine xx_bipush (q := 143) rfl rfl (by decide) ?_
        obtain ⟨D7, hx7, hq7, hg7⟩ := c_expect (n := n) hR hS6.1 59
        have hS7 : LwS 11 dr al D0 (exS 59 (wtS (-30) (tkS 303 (smS 1 (stS s))))) D7 := hS6.tp (by omega) (by omega) hq7 hg7
        refine xx_callV (q := 146) (As := [_]) (rest := []) rfl rfl rfl (Or.inl rfl) rfl rfl (Nat.le_of_ble_eq_true rfl) xS_474 (XCm hx7 rfl) rfl ?_
        refine xx_vret rfl rfl ⟨rfl, _, rfl, ?_⟩
        have ev : vaF 1 s = smS 1 (stS s) := rfl
        have ew : whF 1 (smS 1 (stS s)) = (wtS (-30) (tkS 303 (smS 1 (stS s)))) := (if_neg h116).trans (by rw [tks_n h116])
        rw [show liF 1 bf s = exS 59 (wtS (-30) (tkS 303 (smS 1 (stS s)))) from (if_neg (fun q => q (show bgP 1 (kdS s) from h16))).trans ((if_pos (by omega)).trans (by rw [ev, ew]))]
        exact hS7
      · refine xx_aload_n (q := 120) rfl rfl rfl ?_
        refine xx_aload_n (q := 121) rfl rfl rfl ?_
        refine xx_iconst (q := 122) rfl rfl (by decide) ?_
        obtain ⟨D8, hx8, hS8⟩ := c_eiH (n := n) hR hdr hdr2 hh (by omega) (clF 1 8) 0 (c_clH (n := n) hR hdr hdr2 hh 8 0 (by omega) (by omega)) _ _ hS5
        refine xx_callV (q := 125) (As := [_, _]) (rest := []) rfl rfl rfl (Or.inl rfl) rfl rfl (Nat.le_of_ble_eq_true rfl) xS_11 (XCm hx8 rfl) rfl ?_
        refine xx_aload_n (q := 126) rfl rfl rfl ?_
        refine xx_bipush (q := 128) rfl rfl (by decide) ?_
        obtain ⟨D9, hx9, hS9⟩ := c_wtH (n := n) hR hdr hdr2 hh hS8 (-31)
        refine xx_callV (q := 131) (As := [_]) (rest := []) rfl rfl rfl (Or.inl rfl) rfl rfl (Nat.le_of_ble_eq_true rfl) xS_11 (XCm hx9 rfl) rfl ?_
        refine xx_goto (q := 140) rfl rfl ?_
        refine xx_aload_n (q := 141) rfl rfl rfl ?_
        refine xx_bipush (q := 143) rfl rfl (by decide) ?_
        obtain ⟨D10, hx10, hq10, hg10⟩ := c_expect (n := n) hR hS9.1 59
        have hS10 : LwS 11 dr al D0 (exS 59 (wtS (-31) (eiG (clF 1 8) (tkS 303 (smS 1 (stS s)))))) D10 := hS9.tp (by omega) (by omega) hq10 hg10
        refine xx_callV (q := 146) (As := [_]) (rest := []) rfl rfl rfl (Or.inl rfl) rfl rfl (Nat.le_of_ble_eq_true rfl) xS_474 (XCm hx10 rfl) rfl ?_
        refine xx_vret rfl rfl ⟨rfl, _, rfl, ?_⟩
        have ev : vaF 1 s = smS 1 (stS s) := rfl
        have ew : whF 1 (smS 1 (stS s)) = (wtS (-31) (eiG (clF 1 8) (tkS 303 (smS 1 (stS s))))) := (if_pos h116).trans (by rw [tks_y h116])
        rw [show liF 1 bf s = exS 59 (wtS (-31) (eiG (clF 1 8) (tkS 303 (smS 1 (stS s))))) from (if_neg (fun q => q (show bgP 1 (kdS s) from h16))).trans ((if_pos (by omega)).trans (by rw [ev, ew]))]
        exact hS10
    · refine xx_aload_n (q := 60) rfl rfl rfl ?_
      refine xx_iload (q := 62) rfl rfl rfl ?_
      refine xx_if_eq (q := 69) (q2 := 65) rfl rfl rfl (fun h62 => (by exfalso; omega)) (fun _ => ?_)
      refine xx_iconst (q := 66) rfl rfl (by decide) ?_
      refine xx_goto (q := 70) rfl rfl ?_
      obtain ⟨D11, hx11, hq11, hg11⟩ := c_wrong (n := n) hR hS.1 3
      have hS11 : LwS 11 dr al D0 (wrS 3 s) D11 := hS.tp (by omega) (by omega) hq11 hg11
      refine xx_callV (q := 73) (As := [_]) (rest := []) rfl rfl rfl (Or.inl rfl) rfl rfl (Nat.le_of_ble_eq_true rfl) xS_474 (XCm hx11 rfl) rfl ?_
      refine xx_vret rfl rfl ⟨rfl, _, rfl, ?_⟩
      rw [show liF 1 bf s = wrS 3 s from (if_neg (fun q => q (show bgP 1 (kdS s) from h16))).trans (if_neg (by omega))]
      exact hS11
