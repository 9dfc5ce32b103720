/-! What is: the class. -/
def depF (K : KK) (p : Int) : Int := if 0 ≤ p ∧ p ≤ K 0 0 then K 1 p.toNat else -1
def atF (K : KK) (l w : Int) : Int := if ¬ (0 ≤ l ∧ l < K 0 0) then -1000 else if w = 0 then K 2 l.toNat else if w = 1 then K 3 l.toNat else if w = 2 then K 4 l.toNat else if w = 3 then K 8 l.toNat else if w = 4 then K 9 l.toNat else if w = 5 then K 5 l.toNat else if w = 6 then K 10 l.toNat else if w = 7 then favF K l else if 10 ≤ w ∧ w ≤ 13 then K 11 (l * 4 + (w - 10)).toNat else if 20 ≤ w ∧ w ≤ 19 + K 13 0 then K 12 (l * 6 + (w - 20)).toNat else -1000
def ofF (K : KK) (c w : Int) : Int := if ¬ (0 ≤ c ∧ c < K 13 0) then -1 else if w = 0 then K 14 c.toNat else if w = 1 then K 15 c.toNat else if w = 2 then K 16 c.toNat else if 10 ≤ w ∧ w ≤ 13 then K 17 (c * 4 + (w - 10)).toNat else -1
def bokF (b : Int) (B : Nat → Int) (i w : Int) : Int := if (0 ≤ i ∧ i ≤ b - 1) ∧ (0 ≤ w ∧ w ≤ 4) then B (i * 5 + w).toNat else -1
def didP (B : Nat → Int) (i pool locks : Int) : Bool := if B (i * 5 + 1).toNat = 0 ∨ B (i * 5 + 1).toNat = 2 then decide (nrm (B (i * 5 + 2).toNat + 1) = pool) else if B (i * 5 + 1).toNat = 3 then decide (pool = 0) else if B (i * 5 + 1).toNat = 4 then decide (pool = locks) else false
def lstL (B : Nat → Int) (pool locks : Int) : Nat → Int → Int
  | 0, _ => -1
  | k + 1, i => if didP B i pool locks = true then i else lstL B pool locks k (i - 1)
def smlF (K : KK) (b : Int) (B : Nat → Int) (p : Int) : Int := if 0 ≤ p ∧ p ≤ K 0 0 then lstL B p (K 0 0) b.toNat (b - 1) else -1
set_option maxHeartbeats 1000000 in
theorem c_depth {n : Nat} {R : Nat → Nat → Option Nat} {D K : KK} (hR : RF R) (hK : CK 27 K D) (hI : KI K) (p : Int) : XC 2 133 [.inr (some 5), .inl p] (xS n, R, D) (some (.inl (depF K p))) (xS n, R, D) := by
  have hbL := ki_L hI
  refine XC_of (Nat.le_of_ble_eq_true rfl) (Nat.le_of_ble_eq_true rfl) (loc := [_, _]) rfl ?_
  refine xx_aload_n (q := 1) rfl rfl rfl ?_
  refine xx_getR (q := 4) rfl rfl rfl xS_5 (Nat.le_of_ble_eq_true rfl) rfl (hR.1 5 0 rfl) ?_
  refine xx_getR (q := 7) rfl rfl rfl xS_6 (Nat.le_of_ble_eq_true rfl) rfl (hR.1 6 5 rfl) ?_
  refine xx_iload_n (q := 8) rfl rfl rfl ?_
  refine xx_callV (q := 11) (As := [_]) (rest := []) rfl rfl rfl (Or.inl rfl) rfl rfl (Nat.le_of_ble_eq_true rfl) (xSc_0 isC_27) (XCm (c_hasPool hR isC_27 hK hI p) rfl) rfl ?_
  refine xx_ifb_eq (q := 29) (q2 := 14) rfl rfl rfl (fun h11 => ?_) (fun h11 => ?_)
  · refine xx_iconst (q := 30) rfl rfl (by decide) ?_
    exact xx_iret rfl trivial ⟨congrArg (fun z => some (Sum.inl z)) (by grind [depF]), rfl⟩
  · refine xx_aload_n (q := 15) rfl rfl rfl ?_
    refine xx_getR (q := 18) rfl rfl rfl xS_5 (Nat.le_of_ble_eq_true rfl) rfl (hR.1 5 0 rfl) ?_
    refine xx_getR (q := 21) rfl rfl rfl xS_6 (Nat.le_of_ble_eq_true rfl) rfl (hR.1 6 5 rfl) ?_
    refine xx_getR (q := 24) rfl rfl rfl (xSc_0 isC_27) (Nat.le_of_ble_eq_true rfl) rfl (rc_depth hR isC_27) ?_
    refine xx_iload_n (q := 25) rfl rfl rfl ?_
    refine xx_iaz (v := K 1 (p).toNat) (q := 26) rfl rfl (xSc_1 isC_27) (by omega) (by omega) (ck_a hK (o := 1) (N := 10) rfl (by omega) (by omega)) ?_
    have hb1 : 0 ≤ K 1 (p).toNat ∧ K 1 (p).toNat ≤ 999 := by have h := ki_1 hI (p).toNat; exact h
    refine xx_goto (q := 30) rfl rfl ?_
    exact xx_iret rfl trivial ⟨congrArg (fun z => some (Sum.inl z)) (by grind [depF]), rfl⟩
set_option maxHeartbeats 4000000 in
theorem c_at {n : Nat} {R : Nat → Nat → Option Nat} {D K : KK} (hR : RF R) (hK : CK 27 K D) (hI : KI K) (l w : Int) : XC 3 134 [.inr (some 5), .inl l, .inl w] (xS n, R, D) (some (.inl (atF K l w))) (xS n, R, D) := by
  have hbL := ki_L hI
  have hbB := ki_B hI
  refine XC_of (Nat.le_of_ble_eq_true rfl) (Nat.le_of_ble_eq_true rfl) (loc := [_, _, _, _]) rfl ?_
  refine xx_aload_n (q := 1) rfl rfl rfl ?_
  refine xx_getR (q := 4) rfl rfl rfl xS_5 (Nat.le_of_ble_eq_true rfl) rfl (hR.1 5 0 rfl) ?_
  refine xx_getR (q := 7) rfl rfl rfl xS_6 (Nat.le_of_ble_eq_true rfl) rfl (hR.1 6 5 rfl) ?_
  refine xx_astore_n (q := 8) (loc2 := [_, _, _, _]) rfl rfl (Nat.le_of_ble_eq_true rfl) rfl ?_
  refine xx_aload_n (q := 9) rfl rfl rfl ?_
  refine xx_iload_n (q := 10) rfl rfl rfl ?_
  refine xx_callV (q := 13) (As := [_]) (rest := []) rfl rfl rfl (Or.inl rfl) rfl rfl (Nat.le_of_ble_eq_true rfl) (xSc_0 isC_27) (XCm (c_hasLock hR isC_27 hK hI l) rfl) rfl ?_
  refine xx_ifb_ne (q := 20) (q2 := 16) rfl rfl rfl (fun h13 => ?_) (fun h13 => ?_)
  · refine xx_iload_n (q := 21) rfl rfl rfl ?_
    by_cases h21_0 : w = 0
    · refine xx_swK (q := 68) (zl := 0) (off := 47) rfl h21_0 (by decide) (by decide) rfl rfl ?_
      refine xx_aload_n (q := 69) rfl rfl rfl ?_
      refine xx_getR (q := 72) rfl rfl rfl (xSc_0 isC_27) (Nat.le_of_ble_eq_true rfl) rfl (rc_fill hR isC_27) ?_
      refine xx_iload_n (q := 73) rfl rfl rfl ?_
      refine xx_iaz (v := K 2 (l).toNat) (q := 74) rfl rfl (xSc_2 isC_27) (by omega) (by omega) (ck_a hK (o := 2) (N := 9) rfl (by omega) (by omega)) ?_
      have hb1 : 1 ≤ K 2 (l).toNat ∧ K 2 (l).toNat ≤ 50 := by have h := ki_2 hI (l).toNat; exact h
      exact xx_iret rfl trivial ⟨congrArg (fun z => some (Sum.inl z)) (by grind [atF]), rfl⟩
    by_cases h21_1 : w = 1
    · refine xx_swK (q := 75) (zl := 1) (off := 54) rfl h21_1 (by decide) (by decide) rfl rfl ?_
      refine xx_aload_n (q := 76) rfl rfl rfl ?_
      refine xx_getR (q := 79) rfl rfl rfl (xSc_0 isC_27) (Nat.le_of_ble_eq_true rfl) rfl (rc_leak hR isC_27) ?_
      refine xx_iload_n (q := 80) rfl rfl rfl ?_
      refine xx_iaz (v := K 3 (l).toNat) (q := 81) rfl rfl (xSc_3 isC_27) (by omega) (by omega) (ck_a hK (o := 3) (N := 9) rfl (by omega) (by omega)) ?_
      have hb2 : 0 ≤ K 3 (l).toNat ∧ K 3 (l).toNat ≤ 9 := by have h := ki_3 hI (l).toNat; exact h
      exact xx_iret rfl trivial ⟨congrArg (fun z => some (Sum.inl z)) (by grind [atF]), rfl⟩
    by_cases h21_2 : w = 2
    · refine xx_swK (q := 82) (zl := 2) (off := 61) rfl h21_2 (by decide) (by decide) rfl rfl ?_
      refine xx_aload_n (q := 83) rfl rfl rfl ?_
      refine xx_getR (q := 86) rfl rfl rfl (xSc_0 isC_27) (Nat.le_of_ble_eq_true rfl) rfl (rc_wide hR isC_27) ?_
      refine xx_iload_n (q := 87) rfl rfl rfl ?_
      refine xx_iaz (v := K 4 (l).toNat) (q := 88) rfl rfl (xSc_4 isC_27) (by omega) (by omega) (ck_a hK (o := 4) (N := 9) rfl (by omega) (by omega)) ?_
      have hb3 : 1 ≤ K 4 (l).toNat ∧ K 4 (l).toNat ≤ 9 := by have h := ki_4 hI (l).toNat; exact h
      exact xx_iret rfl trivial ⟨congrArg (fun z => some (Sum.inl z)) (by grind [atF]), rfl⟩
    by_cases h21_3 : w = 3
    · refine xx_swK (q := 89) (zl := 3) (off := 68) rfl h21_3 (by decide) (by decide) rfl rfl ?_
      refine xx_aload_n (q := 90) rfl rfl rfl ?_
      refine xx_getR (q := 93) rfl rfl rfl (xSc_0 isC_27) (Nat.le_of_ble_eq_true rfl) rfl (rc_keepers hR isC_27) ?_
      refine xx_getR (q := 96) rfl rfl rfl (xSc_7 isC_27) (Nat.le_of_ble_eq_true rfl) rfl (rc_mood hR isC_27) ?_
      refine xx_iload_n (q := 97) rfl rfl rfl ?_
      refine xx_iaz (v := K 8 (l).toNat) (q := 98) rfl rfl (xSc_8 isC_27) (by omega) (by omega) (ck_a hK (o := 8) (N := 9) rfl (by omega) (by omega)) ?_
      have hb4 : -99 ≤ K 8 (l).toNat ∧ K 8 (l).toNat ≤ 99 := by have h := ki_8 hI (l).toNat; exact h
      exact xx_iret rfl trivial ⟨congrArg (fun z => some (Sum.inl z)) (by grind [atF]), rfl⟩
    by_cases h21_4 : w = 4
    · refine xx_swK (q := 99) (zl := 4) (off := 78) rfl h21_4 (by decide) (by decide) rfl rfl ?_
      refine xx_aload_n (q := 100) rfl rfl rfl ?_
      refine xx_getR (q := 103) rfl rfl rfl (xSc_0 isC_27) (Nat.le_of_ble_eq_true rfl) rfl (rc_keepers hR isC_27) ?_
      refine xx_getR (q := 106) rfl rfl rfl (xSc_7 isC_27) (Nat.le_of_ble_eq_true rfl) rfl (rc_rival hR isC_27) ?_
      refine xx_iload_n (q := 107) rfl rfl rfl ?_
      refine xx_iaz (v := K 9 (l).toNat) (q := 108) rfl rfl (xSc_9 isC_27) (by omega) (by omega) (ck_a hK (o := 9) (N := 9) rfl (by omega) (by omega)) ?_
      have hb5 : -1 ≤ K 9 (l).toNat ∧ K 9 (l).toNat ≤ 8 := by have h := ki_9 hI (l).toNat; exact h
      exact xx_iret rfl trivial ⟨congrArg (fun z => some (Sum.inl z)) (by grind [atF]), rfl⟩
    by_cases h21_5 : w = 5
    · refine xx_swK (q := 109) (zl := 5) (off := 88) rfl h21_5 (by decide) (by decide) rfl rfl ?_
      refine xx_aload_n (q := 110) rfl rfl rfl ?_
      refine xx_getR (q := 113) rfl rfl rfl (xSc_0 isC_27) (Nat.le_of_ble_eq_true rfl) rfl (rc_passes hR isC_27) ?_
      refine xx_iload_n (q := 114) rfl rfl rfl ?_
      refine xx_iaz (v := K 5 (l).toNat) (q := 115) rfl rfl (xSc_5 isC_27) (by omega) (by omega) (ck_a hK (o := 5) (N := 9) rfl (by omega) (by omega)) ?_
      have hb6 : -2147483648 ≤ K 5 (l).toNat ∧ K 5 (l).toNat ≤ 2147483647 := by have h := ki_5 hI (l).toNat; exact h
      exact xx_iret rfl trivial ⟨congrArg (fun z => some (Sum.inl z)) (by grind [atF]), rfl⟩
    by_cases h21_6 : w = 6
    · refine xx_swK (q := 116) (zl := 6) (off := 95) rfl h21_6 (by decide) (by decide) rfl rfl ?_
      refine xx_aload_n (q := 117) rfl rfl rfl ?_
      refine xx_getR (q := 120) rfl rfl rfl (xSc_0 isC_27) (Nat.le_of_ble_eq_true rfl) rfl (rc_keepers hR isC_27) ?_
      refine xx_getR (q := 123) rfl rfl rfl (xSc_7 isC_27) (Nat.le_of_ble_eq_true rfl) rfl (rc_presents hR isC_27) ?_
      refine xx_iload_n (q := 124) rfl rfl rfl ?_
      refine xx_iaz (v := K 10 (l).toNat) (q := 125) rfl rfl (xSc_10 isC_27) (by omega) (by omega) (ck_a hK (o := 10) (N := 9) rfl (by omega) (by omega)) ?_
      have hb7 : -2147483648 ≤ K 10 (l).toNat ∧ K 10 (l).toNat ≤ 2147483647 := by have h := ki_10 hI (l).toNat; exact h
      exact xx_iret rfl trivial ⟨congrArg (fun z => some (Sum.inl z)) (by grind [atF]), rfl⟩
    by_cases h21_7 : w = 7
    · refine xx_swK (q := 126) (zl := 7) (off := 105) rfl h21_7 (by decide) (by decide) rfl rfl ?_
      refine xx_aload_n (q := 127) rfl rfl rfl ?_
      refine xx_getR (q := 130) rfl rfl rfl (xSc_0 isC_27) (Nat.le_of_ble_eq_true rfl) rfl (rc_keepers hR isC_27) ?_
      refine xx_iload_n (q := 131) rfl rfl rfl ?_
      refine xx_aload_n (q := 132) rfl rfl rfl ?_
      refine xx_getR (q := 135) rfl rfl rfl (xSc_0 isC_27) (Nat.le_of_ble_eq_true rfl) rfl (rc_fleet hR isC_27) ?_
      refine xx_gez (v := K 13 0) (q := 138) rfl rfl rfl (xSc_13 isC_27) (Nat.le_of_ble_eq_true rfl) rfl (hK 13 0 (Nat.le_of_ble_eq_true rfl)) ?_
      have hb8 : 0 ≤ K 13 0 ∧ K 13 0 ≤ 6 := by have h := ki_B hI; exact h
      refine xx_callV (q := 141) (As := [_, _]) (rest := []) rfl rfl rfl (Or.inl rfl) rfl rfl (Nat.le_of_ble_eq_true rfl) (xSc_7 isC_27) (XCm (c_favourite hR isC_27 hK hI l (by omega) (by omega)) rfl) rfl ?_
      have hb9 := favF_b hI l
      exact xx_iret rfl trivial ⟨congrArg (fun z => some (Sum.inl z)) (by grind [atF]), rfl⟩
    refine xx_swOut (q := 142) rfl (by omega) rfl ?_
    refine xx_iload_n (q := 143) rfl rfl rfl ?_
    refine xx_bipush (q := 145) rfl rfl (by decide) ?_
    refine xx_bipush (q := 147) rfl rfl (by decide) ?_
    refine xx_callS (q := 150) (As := [_, _, _]) (rest := []) rfl rfl rfl (Or.inl rfl) rfl rfl (Nat.le_of_ble_eq_true rfl) (XCm (c_within w 10 13) rfl) rfl ?_
    refine xx_ifb_eq (q := 166) (q2 := 153) rfl rfl rfl (fun h150 => ?_) (fun h150 => ?_)
    · refine xx_iload_n (q := 167) rfl rfl rfl ?_
      refine xx_bipush (q := 169) rfl rfl (by decide) ?_
      refine xx_bipush (q := 171) rfl rfl (by decide) ?_
      refine xx_aload_n (q := 172) rfl rfl rfl ?_
      refine xx_getR (q := 175) rfl rfl rfl (xSc_0 isC_27) (Nat.le_of_ble_eq_true rfl) rfl (rc_fleet hR isC_27) ?_
      refine xx_gez (v := K 13 0) (q := 178) rfl rfl rfl (xSc_13 isC_27) (Nat.le_of_ble_eq_true rfl) rfl (hK 13 0 (Nat.le_of_ble_eq_true rfl)) ?_
      have hb10 : 0 ≤ K 13 0 ∧ K 13 0 ≤ 6 := by have h := ki_B hI; exact h
      refine xx_iaddR (q := 179) rfl rfl (by omega) (by omega) ?_
      refine xx_callS (q := 182) (As := [_, _, _]) (rest := []) rfl rfl rfl (Or.inl rfl) rfl rfl (Nat.le_of_ble_eq_true rfl) (XCm (c_within w 20 (19 + (K 13 0))) rfl) rfl ?_
      refine xx_ifb_eq (q := 198) (q2 := 185) rfl rfl rfl (fun h182 => ?_) (fun h182 => ?_)
      · refine xx_sipush (q := 201) rfl rfl (by decide) ?_
        exact xx_iret rfl trivial ⟨congrArg (fun z => some (Sum.inl z)) (by grind [atF]), rfl⟩
      · refine xx_aload_n (q := 186) rfl rfl rfl ?_
        refine xx_getR (q := 189) rfl rfl rfl (xSc_0 isC_27) (Nat.le_of_ble_eq_true rfl) rfl (rc_keepers hR isC_27) ?_
        refine xx_iload_n (q := 190) rfl rfl rfl ?_
        refine xx_iload_n (q := 191) rfl rfl rfl ?_
        refine xx_bipush (q := 193) rfl rfl (by decide) ?_
        refine xx_isubR (q := 194) rfl rfl (by omega) (by omega) ?_
        refine xx_callV (q := 197) (As := [_, _]) (rest := []) rfl rfl rfl (Or.inl rfl) rfl rfl (Nat.le_of_ble_eq_true rfl) (xSc_7 isC_27) (XCm (c_likingOf hR isC_27 hK hI l (w - 20) (by omega) (by omega) (by omega) (by omega)) rfl) rfl ?_
        exact xx_iret rfl trivial ⟨congrArg (fun z => some (Sum.inl z)) (by grind [atF]), rfl⟩
    · refine xx_aload_n (q := 154) rfl rfl rfl ?_
      refine xx_getR (q := 157) rfl rfl rfl (xSc_0 isC_27) (Nat.le_of_ble_eq_true rfl) rfl (rc_keepers hR isC_27) ?_
      refine xx_iload_n (q := 158) rfl rfl rfl ?_
      refine xx_iload_n (q := 159) rfl rfl rfl ?_
      refine xx_bipush (q := 161) rfl rfl (by decide) ?_
      refine xx_isubR (q := 162) rfl rfl (by omega) (by omega) ?_
      refine xx_callV (q := 165) (As := [_, _]) (rest := []) rfl rfl rfl (Or.inl rfl) rfl rfl (Nat.le_of_ble_eq_true rfl) (xSc_7 isC_27) (XCm (c_tasteFor hR isC_27 hK hI l (w - 10) (by omega) (by omega) (by omega) (by omega)) rfl) rfl ?_
      exact xx_iret rfl trivial ⟨congrArg (fun z => some (Sum.inl z)) (by grind [atF]), rfl⟩
  · refine xx_sipush (q := 19) rfl rfl (by decide) ?_
    exact xx_iret rfl trivial ⟨congrArg (fun z => some (Sum.inl z)) (by grind [atF]), rfl⟩
set_option maxHeartbeats 4000000 in
theorem c_of {n : Nat} {R : Nat → Nat → Option Nat} {D K : KK} (hR : RF R) (hK : CK 27 K D) (hI : KI K) (c w : Int) : XC 2 135 [.inr (some 5), .inl c, .inl w] (xS n, R, D) (some (.inl (ofF K c w))) (xS n, R, D) := by
  have hbB := ki_B hI
  refine XC_of (Nat.le_of_ble_eq_true rfl) (Nat.le_of_ble_eq_true rfl) (loc := [_, _, _, _]) rfl ?_
  refine xx_aload_n (q := 1) rfl rfl rfl ?_
  refine xx_getR (q := 4) rfl rfl rfl xS_5 (Nat.le_of_ble_eq_true rfl) rfl (hR.1 5 0 rfl) ?_
  refine xx_getR (q := 7) rfl rfl rfl xS_6 (Nat.le_of_ble_eq_true rfl) rfl (hR.1 6 5 rfl) ?_
  refine xx_getR (q := 10) rfl rfl rfl (xSc_0 isC_27) (Nat.le_of_ble_eq_true rfl) rfl (rc_fleet hR isC_27) ?_
  refine xx_astore_n (q := 11) (loc2 := [_, _, _, _]) rfl rfl (Nat.le_of_ble_eq_true rfl) rfl ?_
  refine xx_aload_n (q := 12) rfl rfl rfl ?_
  refine xx_iload_n (q := 13) rfl rfl rfl ?_
  refine xx_callV (q := 16) (As := [_]) (rest := []) rfl rfl rfl (Or.inl rfl) rfl rfl (Nat.le_of_ble_eq_true rfl) (xSc_13 isC_27) (XCm (c_has hR isC_27 hK hI c) rfl) rfl ?_
  refine xx_ifb_ne (q := 21) (q2 := 19) rfl rfl rfl (fun h16 => ?_) (fun h16 => ?_)
  · refine xx_iload_n (q := 22) rfl rfl rfl ?_
    by_cases h22_0 : w = 0
    · refine xx_swK (q := 48) (zl := 0) (off := 26) rfl h22_0 (by decide) (by decide) rfl rfl ?_
      refine xx_aload_n (q := 49) rfl rfl rfl ?_
      refine xx_getR (q := 52) rfl rfl rfl (xSc_13 isC_27) (Nat.le_of_ble_eq_true rfl) rfl (rc_where hR isC_27) ?_
      refine xx_iload_n (q := 53) rfl rfl rfl ?_
      refine xx_iaz (v := K 14 (c).toNat) (q := 54) rfl rfl (xSc_14 isC_27) (by omega) (by omega) (ck_w hK (by omega) (by omega)) ?_
      have hb1 : 0 ≤ K 14 (c).toNat ∧ K 14 (c).toNat ≤ 9 := by have h := ki_14 hI (c).toNat; exact h
      exact xx_iret rfl trivial ⟨congrArg (fun z => some (Sum.inl z)) (by grind [ofF]), rfl⟩
    by_cases h22_1 : w = 1
    · refine xx_swK (q := 55) (zl := 1) (off := 33) rfl h22_1 (by decide) (by decide) rfl rfl ?_
      refine xx_aload_n (q := 56) rfl rfl rfl ?_
      refine xx_getR (q := 59) rfl rfl rfl (xSc_13 isC_27) (Nat.le_of_ble_eq_true rfl) rfl (rc_draught hR isC_27) ?_
      refine xx_iload_n (q := 60) rfl rfl rfl ?_
      refine xx_iaz (v := K 15 (c).toNat) (q := 61) rfl rfl (xSc_15 isC_27) (by omega) (by omega) (ck_a hK (o := 15) (N := 6) rfl (by omega) (by omega)) ?_
      have hb2 : 0 ≤ K 15 (c).toNat ∧ K 15 (c).toNat ≤ 99 := by have h := ki_15 hI (c).toNat; exact h
      exact xx_iret rfl trivial ⟨congrArg (fun z => some (Sum.inl z)) (by grind [ofF]), rfl⟩
    by_cases h22_2 : w = 2
    · refine xx_swK (q := 62) (zl := 2) (off := 40) rfl h22_2 (by decide) (by decide) rfl rfl ?_
      refine xx_aload_n (q := 63) rfl rfl rfl ?_
      refine xx_getR (q := 66) rfl rfl rfl (xSc_13 isC_27) (Nat.le_of_ble_eq_true rfl) rfl (rc_broad hR isC_27) ?_
      refine xx_iload_n (q := 67) rfl rfl rfl ?_
      refine xx_iaz (v := K 16 (c).toNat) (q := 68) rfl rfl (xSc_16 isC_27) (by omega) (by omega) (ck_a hK (o := 16) (N := 6) rfl (by omega) (by omega)) ?_
      have hb3 : 0 ≤ K 16 (c).toNat ∧ K 16 (c).toNat ≤ 9 := by have h := ki_16 hI (c).toNat; exact h
      exact xx_iret rfl trivial ⟨congrArg (fun z => some (Sum.inl z)) (by grind [ofF]), rfl⟩
    refine xx_swOut (q := 69) rfl (by omega) rfl ?_
    refine xx_iload_n (q := 70) rfl rfl rfl ?_
    refine xx_bipush (q := 72) rfl rfl (by decide) ?_
    refine xx_bipush (q := 74) rfl rfl (by decide) ?_
    refine xx_callS (q := 77) (As := [_, _, _]) (rest := []) rfl rfl rfl (Or.inl rfl) rfl rfl (Nat.le_of_ble_eq_true rfl) (XCm (c_within w 10 13) rfl) rfl ?_
    refine xx_ifb_eq (q := 92) (q2 := 80) rfl rfl rfl (fun h77 => ?_) (fun h77 => ?_)
    · refine xx_iconst (q := 93) rfl rfl (by decide) ?_
      exact xx_iret rfl trivial ⟨congrArg (fun z => some (Sum.inl z)) (by grind [ofF]), rfl⟩
    · refine xx_aload_n (q := 81) rfl rfl rfl ?_
      refine xx_iload_n (q := 82) rfl rfl rfl ?_
      refine xx_iload_n (q := 83) rfl rfl rfl ?_
      refine xx_bipush (q := 85) rfl rfl (by decide) ?_
      refine xx_isubR (q := 86) rfl rfl (by omega) (by omega) ?_
      refine xx_callV (q := 89) (As := [_, _]) (rest := []) rfl rfl rfl (Or.inl rfl) rfl rfl (Nat.le_of_ble_eq_true rfl) (xSc_13 isC_27) (XCm (c_cargoOf hR isC_27 hK hI c (w - 10) (by omega) (by omega) (by omega) (by omega)) rfl) rfl ?_
      refine xx_goto (q := 93) rfl rfl ?_
      exact xx_iret rfl trivial ⟨congrArg (fun z => some (Sum.inl z)) (by grind [ofF]), rfl⟩
  · refine xx_iconst (q := 20) rfl rfl (by decide) ?_
    exact xx_iret rfl trivial ⟨congrArg (fun z => some (Sum.inl z)) (by grind [ofF]), rfl⟩
set_option maxHeartbeats 1000000 in
theorem c_entry {n : Nat} {R : Nat → Nat → Option Nat} {D : KK} (hR : RF R) {b : Int} {B : Nat → Int} (hB : BK b B D) (i w : Int) (h0 : 0 ≤ i) (h1 : i < 150) (h2 : 0 ≤ w) (h3 : w ≤ 4) : XC 1 2 [.inr (some 25), .inl i, .inl w] (xS n, R, D) (some (.inl (B (i * 5 + w).toNat))) (xS n, R, D) := by
  refine XC_of (Nat.le_of_ble_eq_true rfl) (Nat.le_of_ble_eq_true rfl) (loc := [_, _, _]) rfl ?_
  refine xx_aload_n (q := 1) rfl rfl rfl ?_
  refine xx_getR (q := 4) rfl rfl rfl xS_25 (Nat.le_of_ble_eq_true rfl) rfl (hR.1 25 1 rfl) ?_
  refine xx_iload_n (q := 5) rfl rfl rfl ?_
  refine xx_iconst (q := 6) rfl rfl (by decide) ?_
  refine xx_imulR (q := 7) rfl rfl (by omega) (by omega) ?_
  refine xx_iload_n (q := 8) rfl rfl rfl ?_
  refine xx_iaddR (q := 9) rfl rfl (by omega) (by omega) ?_
  refine xx_iaz (v := B ((i * 5) + w).toNat) (q := 10) rfl rfl xS_26 (by omega) (by omega) (hB.2.2.2 _ (by omega)) ?_
  exact xx_iret rfl trivial ⟨congrArg (fun z => some (Sum.inl z)) (by rfl), rfl⟩
set_option maxHeartbeats 1000000 in
theorem c_book {n : Nat} {R : Nat → Nat → Option Nat} {D K : KK} (hR : RF R) (hK : CK 27 K D) (hI : KI K) {b : Int} {B : Nat → Int} (hB : BK b B D) (i w : Int) : XC 2 136 [.inr (some 5), .inl i, .inl w] (xS n, R, D) (some (.inl (bokF b B i w))) (xS n, R, D) := by
  have hb0 := hB.2.1
  have hb1 := hB.2.2.1
  refine XC_of (Nat.le_of_ble_eq_true rfl) (Nat.le_of_ble_eq_true rfl) (loc := [_, _, _, _]) rfl ?_
  refine xx_iload_n (q := 1) rfl rfl rfl ?_
  refine xx_iconst (q := 2) rfl rfl (by decide) ?_
  refine xx_aload_n (q := 3) rfl rfl rfl ?_
  refine xx_getR (q := 6) rfl rfl rfl xS_5 (Nat.le_of_ble_eq_true rfl) rfl (hR.1 5 0 rfl) ?_
  refine xx_getR (q := 9) rfl rfl rfl xS_6 (Nat.le_of_ble_eq_true rfl) rfl (hR.1 6 4 rfl) ?_
  refine xx_gez (q := 12) rfl rfl rfl xS_25 (Nat.le_of_ble_eq_true rfl) rfl hB.1 ?_
  refine xx_iconst (q := 13) rfl rfl (by decide) ?_
  refine xx_isubR (q := 14) rfl rfl (by omega) (by omega) ?_
  refine xx_callS (q := 17) (As := [_, _, _]) (rest := []) rfl rfl rfl (Or.inl rfl) rfl rfl (Nat.le_of_ble_eq_true rfl) (XCm (c_within i 0 (b - 1)) rfl) rfl ?_
  refine xx_ifb_eq (q := 33) (q2 := 20) rfl rfl rfl (fun h17 => ?_) (fun h17 => ?_)
  · refine xx_iconst (q := 34) rfl rfl (by decide) ?_
    refine xx_istore_n (q := 35) (loc2 := [_, _, _, _]) rfl rfl (Nat.le_of_ble_eq_true rfl) rfl ?_
    refine xx_iload_n (q := 36) rfl rfl rfl ?_
    refine xx_if_eq (q := 54) (q2 := 39) rfl rfl rfl (fun _ => ?_) (fun h36 => (by exfalso; omega))
    refine xx_iconst (q := 55) rfl rfl (by decide) ?_
    exact xx_iret rfl trivial ⟨congrArg (fun z => some (Sum.inl z)) (by grind [bokF]), rfl⟩
  · refine xx_iload_n (q := 21) rfl rfl rfl ?_
    refine xx_iconst (q := 22) rfl rfl (by decide) ?_
    refine xx_iconst (q := 23) rfl rfl (by decide) ?_
    refine xx_callS (q := 26) (As := [_, _, _]) (rest := []) rfl rfl rfl (Or.inl rfl) rfl rfl (Nat.le_of_ble_eq_true rfl) (XCm (c_within w 0 4) rfl) rfl ?_
    refine xx_ifb_eq (q := 33) (q2 := 29) rfl rfl rfl (fun h26 => ?_) (fun h26 => ?_)
    · refine xx_iconst (q := 34) rfl rfl (by decide) ?_
      refine xx_istore_n (q := 35) (loc2 := [_, _, _, _]) rfl rfl (Nat.le_of_ble_eq_true rfl) rfl ?_
      refine xx_iload_n (q := 36) rfl rfl rfl ?_
      refine xx_if_eq (q := 54) (q2 := 39) rfl rfl rfl (fun _ => ?_) (fun h36 => (by exfalso; omega))
      refine xx_iconst (q := 55) rfl rfl (by decide) ?_
      exact xx_iret rfl trivial ⟨congrArg (fun z => some (Sum.inl z)) (by grind [bokF]), rfl⟩
    · refine xx_iconst (q := 30) rfl rfl (by decide) ?_
      refine xx_goto (q := 34) rfl rfl ?_
      refine xx_istore_n (q := 35) (loc2 := [_, _, _, _]) rfl rfl (Nat.le_of_ble_eq_true rfl) rfl ?_
      refine xx_iload_n (q := 36) rfl rfl rfl ?_
      refine xx_if_eq (q := 54) (q2 := 39) rfl rfl rfl (fun h36 => (by exfalso; omega)) (fun _ => ?_)
      refine xx_aload_n (q := 40) rfl rfl rfl ?_
      refine xx_getR (q := 43) rfl rfl rfl xS_5 (Nat.le_of_ble_eq_true rfl) rfl (hR.1 5 0 rfl) ?_
      refine xx_getR (q := 46) rfl rfl rfl xS_6 (Nat.le_of_ble_eq_true rfl) rfl (hR.1 6 4 rfl) ?_
      refine xx_iload_n (q := 47) rfl rfl rfl ?_
      refine xx_iload_n (q := 48) rfl rfl rfl ?_
      refine xx_callV (q := 51) (As := [_, _]) (rest := []) rfl rfl rfl (Or.inl rfl) rfl rfl (Nat.le_of_ble_eq_true rfl) xS_25 (XCm (c_entry hR hB i w (by omega) (by omega) (by omega) (by omega)) rfl) rfl ?_
      refine xx_goto (q := 55) rfl rfl ?_
      exact xx_iret rfl trivial ⟨congrArg (fun z => some (Sum.inl z)) (by grind [bokF]), rfl⟩
set_option maxHeartbeats 4000000 in
theorem c_leadsInto {n : Nat} {R : Nat → Nat → Option Nat} {D : KK} (hR : RF R) {b : Int} {B : Nat → Int} (hB : BK b B D) (i p l : Int) (h0 : 0 ≤ i) (h1 : i < 150) : XC 2 5 [.inr (some 25), .inl i, .inl p, .inl l] (xS n, R, D) (some (.inl (bi (didP B i p l = true)))) (xS n, R, D) := by
  refine XC_of (Nat.le_of_ble_eq_true rfl) (Nat.le_of_ble_eq_true rfl) (loc := [_, _, _, _]) rfl ?_
  refine xx_aload_n (q := 1) rfl rfl rfl ?_
  refine xx_iload_n (q := 2) rfl rfl rfl ?_
  refine xx_iconst (q := 3) rfl rfl (by decide) ?_
  refine xx_callV (q := 6) (As := [_, _]) (rest := []) rfl rfl rfl (Or.inl rfl) rfl rfl (Nat.le_of_ble_eq_true rfl) xS_25 (XCm (c_entry hR hB i 1 (by omega) (by omega) (by omega) (by omega)) rfl) rfl ?_
  by_cases h6_0 : B (i * 5 + 1).toNat = 0
  · refine xx_swK (q := 40) (zl := 0) (off := 34) rfl h6_0 (by decide) (by decide) rfl rfl ?_
    refine xx_aload_n (q := 41) rfl rfl rfl ?_
    refine xx_iload_n (q := 42) rfl rfl rfl ?_
    refine xx_iconst (q := 43) rfl rfl (by decide) ?_
    refine xx_callV (q := 46) (As := [_, _]) (rest := []) rfl rfl rfl (Or.inl rfl) rfl rfl (Nat.le_of_ble_eq_true rfl) xS_25 (XCm (c_entry hR hB i 2 (by omega) (by omega) (by omega) (by omega)) rfl) rfl ?_
    refine xx_iconst (q := 47) rfl rfl (by decide) ?_
    refine xx_iadd (q := 48) rfl rfl ?_
    refine xx_iload_n (q := 49) rfl rfl rfl ?_
    refine xx_icmp_ne (q := 56) (q2 := 52) rfl rfl rfl (fun h49 => ?_) (fun h49 => ?_)
    · refine xx_iconst (q := 57) rfl rfl (by decide) ?_
      exact xx_iret rfl (Or.inl rfl) ⟨congrArg (fun z => some (Sum.inl z)) (by simp only [didP]; grind [bi]), rfl⟩
    · refine xx_iconst (q := 53) rfl rfl (by decide) ?_
      refine xx_goto (q := 57) rfl rfl ?_
      exact xx_iret rfl (Or.inr rfl) ⟨congrArg (fun z => some (Sum.inl z)) (by simp only [didP]; grind [bi]), rfl⟩
  by_cases h6_1 : B (i * 5 + 1).toNat = 1
  · refine xx_swK (q := 79) (zl := 1) (off := 73) rfl h6_1 (by decide) (by decide) rfl rfl ?_
    refine xx_iconst (q := 80) rfl rfl (by decide) ?_
    exact xx_iret rfl (Or.inl rfl) ⟨congrArg (fun z => some (Sum.inl z)) (by simp only [didP]; grind [bi]), rfl⟩
  by_cases h6_2 : B (i * 5 + 1).toNat = 2
  · refine xx_swK (q := 40) (zl := 2) (off := 34) rfl h6_2 (by decide) (by decide) rfl rfl ?_
    refine xx_aload_n (q := 41) rfl rfl rfl ?_
    refine xx_iload_n (q := 42) rfl rfl rfl ?_
    refine xx_iconst (q := 43) rfl rfl (by decide) ?_
    refine xx_callV (q := 46) (As := [_, _]) (rest := []) rfl rfl rfl (Or.inl rfl) rfl rfl (Nat.le_of_ble_eq_true rfl) xS_25 (XCm (c_entry hR hB i 2 (by omega) (by omega) (by omega) (by omega)) rfl) rfl ?_
    refine xx_iconst (q := 47) rfl rfl (by decide) ?_
    refine xx_iadd (q := 48) rfl rfl ?_
    refine xx_iload_n (q := 49) rfl rfl rfl ?_
    refine xx_icmp_ne (q := 56) (q2 := 52) rfl rfl rfl (fun h49 => ?_) (fun h49 => ?_)
    · refine xx_iconst (q := 57) rfl rfl (by decide) ?_
      exact xx_iret rfl (Or.inl rfl) ⟨congrArg (fun z => some (Sum.inl z)) (by simp only [didP]; grind [bi]), rfl⟩
    · refine xx_iconst (q := 53) rfl rfl (by decide) ?_
      refine xx_goto (q := 57) rfl rfl ?_
      exact xx_iret rfl (Or.inr rfl) ⟨congrArg (fun z => some (Sum.inl z)) (by simp only [didP]; grind [bi]), rfl⟩
  by_cases h6_3 : B (i * 5 + 1).toNat = 3
  · refine xx_swK (q := 58) (zl := 3) (off := 52) rfl h6_3 (by decide) (by decide) rfl rfl ?_
    refine xx_iload_n (q := 59) rfl rfl rfl ?_
    refine xx_if_ne (q := 66) (q2 := 62) rfl rfl rfl (fun h59 => ?_) (fun h59 => ?_)
    · refine xx_iconst (q := 67) rfl rfl (by decide) ?_
      exact xx_iret rfl (Or.inl rfl) ⟨congrArg (fun z => some (Sum.inl z)) (by simp only [didP]; grind [bi]), rfl⟩
    · refine xx_iconst (q := 63) rfl rfl (by decide) ?_
      refine xx_goto (q := 67) rfl rfl ?_
      exact xx_iret rfl (Or.inr rfl) ⟨congrArg (fun z => some (Sum.inl z)) (by simp only [didP]; grind [bi]), rfl⟩
  by_cases h6_4 : B (i * 5 + 1).toNat = 4
  · refine xx_swK (q := 68) (zl := 4) (off := 62) rfl h6_4 (by decide) (by decide) rfl rfl ?_
    refine xx_iload_n (q := 69) rfl rfl rfl ?_
    refine xx_iload_n (q := 70) rfl rfl rfl ?_
    refine xx_icmp_ne (q := 77) (q2 := 73) rfl rfl rfl (fun h70 => ?_) (fun h70 => ?_)
    · refine xx_iconst (q := 78) rfl rfl (by decide) ?_
      exact xx_iret rfl (Or.inl rfl) ⟨congrArg (fun z => some (Sum.inl z)) (by simp only [didP]; grind [bi]), rfl⟩
    · refine xx_iconst (q := 74) rfl rfl (by decide) ?_
      refine xx_goto (q := 78) rfl rfl ?_
      exact xx_iret rfl (Or.inr rfl) ⟨congrArg (fun z => some (Sum.inl z)) (by simp only [didP]; grind [bi]), rfl⟩
  refine xx_swOut (q := 79) rfl (by omega) rfl ?_
  refine xx_iconst (q := 80) rfl rfl (by decide) ?_
  exact xx_iret rfl (Or.inl rfl) ⟨congrArg (fun z => some (Sum.inl z)) (by simp only [didP]; grind [bi]), rfl⟩
set_option maxHeartbeats 1000000 in
theorem c_lst_L {n : Nat} {R : Nat → Nat → Option Nat} {D : KK} (hR : RF R) {b : Int} {B : Nat → Int} (hB : BK b B D) (p l : Int) : ∀ (k : Nat) (i : Int), i + 1 = k → i < 150 → XX (XC 2) 4 (fun r2 m2 => r2 = some (.inl (lstL B p l k i)) ∧ m2 = (xS n, R, D)) 7 [some (.inr (some 25)), some (.inl p), some (.inl l), some (.inl i)] [] (xS n, R, D) := by
  intro k
  induction k using Nat.strongRecOn with
  | ind k ih =>
  intro i hk h1
  refine xx_iload_n (q := 8) rfl rfl rfl ?_
  refine xx_if_lt (q := 29) (q2 := 11) rfl rfl rfl (fun h8 => ?_) (fun h8 => ?_)
  · refine xx_iconst (q := 30) rfl rfl (by decide) ?_
    obtain rfl : k = 0 := by omega
    exact xx_iret rfl trivial ⟨rfl, rfl⟩
  · obtain ⟨k, rfl⟩ : ∃ k2, k = k2 + 1 := ⟨k - 1, by omega⟩
    refine xx_aload_n (q := 12) rfl rfl rfl ?_
    refine xx_iload_n (q := 13) rfl rfl rfl ?_
    refine xx_iload_n (q := 14) rfl rfl rfl ?_
    refine xx_iload_n (q := 15) rfl rfl rfl ?_
    refine xx_callV (q := 18) (As := [_, _, _]) (rest := []) rfl rfl rfl (Or.inl rfl) rfl rfl (Nat.le_of_ble_eq_true rfl) xS_25 (XCm (c_leadsInto hR hB i p l (by omega) (by omega)) rfl) rfl ?_
    refine xx_ifb_eq (q := 23) (q2 := 21) rfl rfl rfl (fun h18 => ?_) (fun h18 => ?_)
    · refine xx_incz (q := 26) (loc2 := [_, _, _, _]) rfl rfl rfl (by omega) (by omega) rfl rfl ?_
      refine xx_goto (q := 7) rfl rfl ?_
      rw [show lstL B p l (k + 1) i = lstL B p l k (i - 1) from if_neg h18]
      exact ih k (by omega) _ (by omega) (by omega)
    · refine xx_iload_n (q := 22) rfl rfl rfl ?_
      exact xx_iret rfl trivial ⟨congrArg (fun z => some (Sum.inl z)) (if_pos h18).symm, rfl⟩
theorem c_lastInto {n : Nat} {R : Nat → Nat → Option Nat} {D : KK} (hR : RF R) {b : Int} {B : Nat → Int} (hB : BK b B D) (p l : Int) : XC 3 4 [.inr (some 25), .inl p, .inl l] (xS n, R, D) (some (.inl (lstL B p l b.toNat (b - 1)))) (xS n, R, D) := by
  have hb0 := hB.2.1
  have hb1 := hB.2.2.1
  refine XC_of (Nat.le_of_ble_eq_true rfl) (Nat.le_of_ble_eq_true rfl) (loc := [_, _, _, _]) rfl ?_
  refine xx_aload_n (q := 1) rfl rfl rfl ?_
  refine xx_gez (q := 4) rfl rfl rfl xS_25 (Nat.le_of_ble_eq_true rfl) rfl hB.1 ?_
  refine xx_iconst (q := 5) rfl rfl (by decide) ?_
  refine xx_isubR (q := 6) rfl rfl (by omega) (by omega) ?_
  refine xx_istore_n (q := 7) (loc2 := [_, _, _, _]) rfl rfl (Nat.le_of_ble_eq_true rfl) rfl ?_
  exact c_lst_L hR hB p l b.toNat (b - 1) (by omega) (by omega)
set_option maxHeartbeats 1000000 in
theorem c_smile {n : Nat} {R : Nat → Nat → Option Nat} {D K : KK} (hR : RF R) (hK : CK 27 K D) (hI : KI K) {b : Int} {B : Nat → Int} (hB : BK b B D) (p : Int) : XC 4 148 [.inr (some 5), .inl p] (xS n, R, D) (some (.inl (smlF K b B p))) (xS n, R, D) := by
  refine XC_of (Nat.le_of_ble_eq_true rfl) (Nat.le_of_ble_eq_true rfl) (loc := [_, _]) rfl ?_
  refine xx_aload_n (q := 1) rfl rfl rfl ?_
  refine xx_getR (q := 4) rfl rfl rfl xS_5 (Nat.le_of_ble_eq_true rfl) rfl (hR.1 5 0 rfl) ?_
  refine xx_getR (q := 7) rfl rfl rfl xS_6 (Nat.le_of_ble_eq_true rfl) rfl (hR.1 6 5 rfl) ?_
  refine xx_iload_n (q := 8) rfl rfl rfl ?_
  refine xx_callV (q := 11) (As := [_]) (rest := []) rfl rfl rfl (Or.inl rfl) rfl rfl (Nat.le_of_ble_eq_true rfl) (xSc_0 isC_27) (XCm (c_hasPool hR isC_27 hK hI p) rfl) rfl ?_
  refine xx_ifb_eq (q := 38) (q2 := 14) rfl rfl rfl (fun h11 => ?_) (fun h11 => ?_)
  · refine xx_iconst (q := 39) rfl rfl (by decide) ?_
    exact xx_iret rfl trivial ⟨congrArg (fun z => some (Sum.inl z)) (by grind [smlF]), rfl⟩
  · refine xx_aload_n (q := 15) rfl rfl rfl ?_
    refine xx_getR (q := 18) rfl rfl rfl xS_5 (Nat.le_of_ble_eq_true rfl) rfl (hR.1 5 0 rfl) ?_
    refine xx_getR (q := 21) rfl rfl rfl xS_6 (Nat.le_of_ble_eq_true rfl) rfl (hR.1 6 4 rfl) ?_
    refine xx_iload_n (q := 22) rfl rfl rfl ?_
    refine xx_aload_n (q := 23) rfl rfl rfl ?_
    refine xx_getR (q := 26) rfl rfl rfl xS_5 (Nat.le_of_ble_eq_true rfl) rfl (hR.1 5 0 rfl) ?_
    refine xx_getR (q := 29) rfl rfl rfl xS_6 (Nat.le_of_ble_eq_true rfl) rfl (hR.1 6 5 rfl) ?_
    refine xx_gez (v := K 0 0) (q := 32) rfl rfl rfl (xSc_0 isC_27) (Nat.le_of_ble_eq_true rfl) rfl (hK 0 0 (Nat.le_of_ble_eq_true rfl)) ?_
    have hb1 : 1 ≤ K 0 0 ∧ K 0 0 ≤ 9 := by have h := ki_L hI; exact h
    refine xx_callV (q := 35) (As := [_, _]) (rest := []) rfl rfl rfl (Or.inl rfl) rfl rfl (Nat.le_of_ble_eq_true rfl) xS_25 (XCm (c_lastInto hR hB p (K 0 0)) rfl) rfl ?_
    refine xx_goto (q := 39) rfl rfl ?_
    exact xx_iret rfl trivial ⟨congrArg (fun z => some (Sum.inl z)) (by grind [smlF]), rfl⟩
theorem c_envious2 {n c : Nat} {R : Nat → Nat → Option Nat} {D K : KK} (hR : RF R) (hc : isC c) (hK : CK c K D) (hI : KI K) (N M : Int) (hN : N = K 0 0) (hM : M = K 13 0) : XC 3 60 [.inr (some (c + 7)), .inl N, .inl M] (xS n, R, D) (some (.inl (envF K))) (xS n, R, D) := by
  subst hN
  subst hM
  exact c_envious hR hc hK hI
set_option maxHeartbeats 1000000 in
theorem c_envy {n : Nat} {R : Nat → Nat → Option Nat} {D K : KK} (hR : RF R) (hK : CK 27 K D) (hI : KI K) : XC 4 147 [.inr (some 5)] (xS n, R, D) (some (.inl (envF K))) (xS n, R, D) := by
  refine XC_of (Nat.le_of_ble_eq_true rfl) (Nat.le_of_ble_eq_true rfl) (loc := [_]) rfl ?_
  refine xx_aload_n (q := 1) rfl rfl rfl ?_
  refine xx_getR (q := 4) rfl rfl rfl xS_5 (Nat.le_of_ble_eq_true rfl) rfl (hR.1 5 0 rfl) ?_
  refine xx_getR (q := 7) rfl rfl rfl xS_6 (Nat.le_of_ble_eq_true rfl) rfl (hR.1 6 5 rfl) ?_
  refine xx_getR (q := 10) rfl rfl rfl (xSc_0 isC_27) (Nat.le_of_ble_eq_true rfl) rfl (rc_keepers hR isC_27) ?_
  refine xx_aload_n (q := 11) rfl rfl rfl ?_
  refine xx_getR (q := 14) rfl rfl rfl xS_5 (Nat.le_of_ble_eq_true rfl) rfl (hR.1 5 0 rfl) ?_
  refine xx_getR (q := 17) rfl rfl rfl xS_6 (Nat.le_of_ble_eq_true rfl) rfl (hR.1 6 5 rfl) ?_
  refine xx_gez (v := K 0 0) (q := 20) rfl rfl rfl (xSc_0 isC_27) (Nat.le_of_ble_eq_true rfl) rfl (hK 0 0 (Nat.le_of_ble_eq_true rfl)) ?_
  have hb1 : 1 ≤ K 0 0 ∧ K 0 0 ≤ 9 := by have h := ki_L hI; exact h
  refine xx_aload_n (q := 21) rfl rfl rfl ?_
  refine xx_getR (q := 24) rfl rfl rfl xS_5 (Nat.le_of_ble_eq_true rfl) rfl (hR.1 5 0 rfl) ?_
  refine xx_getR (q := 27) rfl rfl rfl xS_6 (Nat.le_of_ble_eq_true rfl) rfl (hR.1 6 5 rfl) ?_
  refine xx_getR (q := 30) rfl rfl rfl (xSc_0 isC_27) (Nat.le_of_ble_eq_true rfl) rfl (rc_fleet hR isC_27) ?_
  refine xx_gez (v := K 13 0) (q := 33) rfl rfl rfl (xSc_13 isC_27) (Nat.le_of_ble_eq_true rfl) rfl (hK 13 0 (Nat.le_of_ble_eq_true rfl)) ?_
  have hb2 : 0 ≤ K 13 0 ∧ K 13 0 ≤ 6 := by have h := ki_B hI; exact h
  refine xx_callV (q := 36) (As := [_, _]) (rest := []) rfl rfl rfl (Or.inl rfl) rfl rfl (Nat.le_of_ble_eq_true rfl) (xSc_7 isC_27) (XCm (c_envious hR isC_27 hK hI) rfl) rfl ?_
  exact xx_iret rfl trivial ⟨congrArg (fun z => some (Sum.inl z)) (by rfl), rfl⟩
def lkkF (K : KK) (b lg lh pc uc yc : Int) (sn nd : Nat → Int) (w : Int) : Int := if w = 0 then K 0 0 else if w = 1 then K 13 0 else if w = 2 then K 0 1 else if w = 3 then K 0 2 else if w = 4 then b else if w = 5 then K 0 3 else if w = 6 then lg else if w = 7 then lh else if w = 8 then pc else if w = 9 then uc else if w = 10 then yc else if w = 11 then watF K else if 20 ≤ w ∧ w ≤ 24 then K 6 (w - 20).toNat else if 30 ≤ w ∧ w ≤ 30 + K 0 0 then sn (w - 30).toNat else if 40 ≤ w ∧ w ≤ 40 + K 0 0 then nd (w - 40).toNat else -100000
set_option maxHeartbeats 10000000 in
theorem c_look {n : Nat} {R : Nat → Nat → Option Nat} {D K : KK} (hR : RF R) (hK : CK 27 K D) (hI : KI K) {b : Int} {B : Nat → Int} (hB : BK b B D) {lg lh pc uc yc : Int} {sn nd : Nat → Int} (hlg : D 7 0 = lg) (hlh : D 11 0 = lh) (hpc : D 15 0 = pc) (huc : D 86 0 = uc) (hyc : D 18 0 = yc) (hsn : ∀ k, k < 10 → D 22 k = sn k) (hnd : ∀ k, k < 10 → D 23 k = nd k) (w : Int) : XC 2 152 [.inr (some 5), .inl w] (xS n, R, D) (some (.inl (lkkF K b lg lh pc uc yc sn nd w))) (xS n, R, D) := by
  have hbL := ki_L hI
  refine XC_of (Nat.le_of_ble_eq_true rfl) (Nat.le_of_ble_eq_true rfl) (loc := [_, _, _]) rfl ?_
  refine xx_aload_n (q := 1) rfl rfl rfl ?_
  refine xx_getR (q := 4) rfl rfl rfl xS_5 (Nat.le_of_ble_eq_true rfl) rfl (hR.1 5 0 rfl) ?_
  refine xx_getR (q := 7) rfl rfl rfl xS_6 (Nat.le_of_ble_eq_true rfl) rfl (hR.1 6 5 rfl) ?_
  refine xx_astore_n (q := 8) (loc2 := [_, _, _]) rfl rfl (Nat.le_of_ble_eq_true rfl) rfl ?_
  refine xx_iload_n (q := 9) rfl rfl rfl ?_
  by_cases h9_0 : w = 0
  · refine xx_swK (q := 72) (zl := 0) (off := 63) rfl h9_0 (by decide) (by decide) rfl rfl ?_
    refine xx_aload_n (q := 73) rfl rfl rfl ?_
    refine xx_gez (v := K 0 0) (q := 76) rfl rfl rfl (xSc_0 isC_27) (Nat.le_of_ble_eq_true rfl) rfl (hK 0 0 (Nat.le_of_ble_eq_true rfl)) ?_
    have hb1 : 1 ≤ K 0 0 ∧ K 0 0 ≤ 9 := by have h := ki_L hI; exact h
    exact xx_iret rfl trivial ⟨congrArg (fun z => some (Sum.inl z)) (by grind [lkkF]), rfl⟩
  by_cases h9_1 : w = 1
  · refine xx_swK (q := 77) (zl := 1) (off := 68) rfl h9_1 (by decide) (by decide) rfl rfl ?_
    refine xx_aload_n (q := 78) rfl rfl rfl ?_
    refine xx_getR (q := 81) rfl rfl rfl (xSc_0 isC_27) (Nat.le_of_ble_eq_true rfl) rfl (rc_fleet hR isC_27) ?_
    refine xx_gez (v := K 13 0) (q := 84) rfl rfl rfl (xSc_13 isC_27) (Nat.le_of_ble_eq_true rfl) rfl (hK 13 0 (Nat.le_of_ble_eq_true rfl)) ?_
    have hb2 : 0 ≤ K 13 0 ∧ K 13 0 ≤ 6 := by have h := ki_B hI; exact h
    exact xx_iret rfl trivial ⟨congrArg (fun z => some (Sum.inl z)) (by grind [lkkF]), rfl⟩
  by_cases h9_2 : w = 2
  · refine xx_swK (q := 85) (zl := 2) (off := 76) rfl h9_2 (by decide) (by decide) rfl rfl ?_
    refine xx_aload_n (q := 86) rfl rfl rfl ?_
    refine xx_gez (v := K 0 1) (q := 89) rfl rfl rfl (xSc_0 isC_27) (Nat.le_of_ble_eq_true rfl) rfl (hK 0 1 (Nat.le_of_ble_eq_true rfl)) ?_
    exact xx_iret rfl trivial ⟨congrArg (fun z => some (Sum.inl z)) (by grind [lkkF]), rfl⟩
  by_cases h9_3 : w = 3
  · refine xx_swK (q := 90) (zl := 3) (off := 81) rfl h9_3 (by decide) (by decide) rfl rfl ?_
    refine xx_aload_n (q := 91) rfl rfl rfl ?_
    refine xx_gez (v := K 0 2) (q := 94) rfl rfl rfl (xSc_0 isC_27) (Nat.le_of_ble_eq_true rfl) rfl (hK 0 2 (Nat.le_of_ble_eq_true rfl)) ?_
    exact xx_iret rfl trivial ⟨congrArg (fun z => some (Sum.inl z)) (by grind [lkkF]), rfl⟩
  by_cases h9_4 : w = 4
  · refine xx_swK (q := 95) (zl := 4) (off := 86) rfl h9_4 (by decide) (by decide) rfl rfl ?_
    refine xx_aload_n (q := 96) rfl rfl rfl ?_
    refine xx_getR (q := 99) rfl rfl rfl xS_5 (Nat.le_of_ble_eq_true rfl) rfl (hR.1 5 0 rfl) ?_
    refine xx_getR (q := 102) rfl rfl rfl xS_6 (Nat.le_of_ble_eq_true rfl) rfl (hR.1 6 4 rfl) ?_
    refine xx_gez (q := 105) rfl rfl rfl xS_25 (Nat.le_of_ble_eq_true rfl) rfl hB.1 ?_
    exact xx_iret rfl trivial ⟨congrArg (fun z => some (Sum.inl z)) (by grind [lkkF]), rfl⟩
  by_cases h9_5 : w = 5
  · refine xx_swK (q := 106) (zl := 5) (off := 97) rfl h9_5 (by decide) (by decide) rfl rfl ?_
    refine xx_aload_n (q := 107) rfl rfl rfl ?_
    refine xx_gez (v := K 0 3) (q := 110) rfl rfl rfl (xSc_0 isC_27) (Nat.le_of_ble_eq_true rfl) rfl (hK 0 3 (Nat.le_of_ble_eq_true rfl)) ?_
    exact xx_iret rfl trivial ⟨congrArg (fun z => some (Sum.inl z)) (by grind [lkkF]), rfl⟩
  by_cases h9_6 : w = 6
  · refine xx_swK (q := 111) (zl := 6) (off := 102) rfl h9_6 (by decide) (by decide) rfl rfl ?_
    refine xx_aload_n (q := 112) rfl rfl rfl ?_
    refine xx_getR (q := 115) rfl rfl rfl xS_5 (Nat.le_of_ble_eq_true rfl) rfl (hR.1 5 0 rfl) ?_
    refine xx_getR (q := 118) rfl rfl rfl xS_6 (Nat.le_of_ble_eq_true rfl) rfl (hR.1 6 0 rfl) ?_
    refine xx_gez (q := 121) rfl rfl rfl xS_7 (Nat.le_of_ble_eq_true rfl) rfl hlg ?_
    exact xx_iret rfl trivial ⟨congrArg (fun z => some (Sum.inl z)) (by grind [lkkF]), rfl⟩
  by_cases h9_7 : w = 7
  · refine xx_swK (q := 122) (zl := 7) (off := 113) rfl h9_7 (by decide) (by decide) rfl rfl ?_
    refine xx_aload_n (q := 123) rfl rfl rfl ?_
    refine xx_getR (q := 126) rfl rfl rfl xS_5 (Nat.le_of_ble_eq_true rfl) rfl (hR.1 5 0 rfl) ?_
    refine xx_getR (q := 129) rfl rfl rfl xS_6 (Nat.le_of_ble_eq_true rfl) rfl (hR.1 6 1 rfl) ?_
    refine xx_gez (q := 132) rfl rfl rfl xS_11 (Nat.le_of_ble_eq_true rfl) rfl hlh ?_
    exact xx_iret rfl trivial ⟨congrArg (fun z => some (Sum.inl z)) (by grind [lkkF]), rfl⟩
  by_cases h9_8 : w = 8
  · refine xx_swK (q := 133) (zl := 8) (off := 124) rfl h9_8 (by decide) (by decide) rfl rfl ?_
    refine xx_aload_n (q := 134) rfl rfl rfl ?_
    refine xx_getR (q := 137) rfl rfl rfl xS_5 (Nat.le_of_ble_eq_true rfl) rfl (hR.1 5 0 rfl) ?_
    refine xx_getR (q := 140) rfl rfl rfl xS_6 (Nat.le_of_ble_eq_true rfl) rfl (hR.1 6 2 rfl) ?_
    refine xx_gez (q := 143) rfl rfl rfl xS_15 (Nat.le_of_ble_eq_true rfl) rfl hpc ?_
    exact xx_iret rfl trivial ⟨congrArg (fun z => some (Sum.inl z)) (by grind [lkkF]), rfl⟩
  by_cases h9_9 : w = 9
  · refine xx_swK (q := 144) (zl := 9) (off := 135) rfl h9_9 (by decide) (by decide) rfl rfl ?_
    refine xx_aload_n (q := 145) rfl rfl rfl ?_
    refine xx_getR (q := 148) rfl rfl rfl xS_5 (Nat.le_of_ble_eq_true rfl) rfl (hR.1 5 2 rfl) ?_
    refine xx_gez (q := 151) rfl rfl rfl xS_86 (Nat.le_of_ble_eq_true rfl) rfl huc ?_
    exact xx_iret rfl trivial ⟨congrArg (fun z => some (Sum.inl z)) (by grind [lkkF]), rfl⟩
  by_cases h9_10 : w = 10
  · refine xx_swK (q := 152) (zl := 10) (off := 143) rfl h9_10 (by decide) (by decide) rfl rfl ?_
    refine xx_aload_n (q := 153) rfl rfl rfl ?_
    refine xx_getR (q := 156) rfl rfl rfl xS_5 (Nat.le_of_ble_eq_true rfl) rfl (hR.1 5 0 rfl) ?_
    refine xx_getR (q := 159) rfl rfl rfl xS_6 (Nat.le_of_ble_eq_true rfl) rfl (hR.1 6 3 rfl) ?_
    refine xx_gez (q := 162) rfl rfl rfl xS_18 (Nat.le_of_ble_eq_true rfl) rfl hyc ?_
    exact xx_iret rfl trivial ⟨congrArg (fun z => some (Sum.inl z)) (by grind [lkkF]), rfl⟩
  by_cases h9_11 : w = 11
  · refine xx_swK (q := 163) (zl := 11) (off := 154) rfl h9_11 (by decide) (by decide) rfl rfl ?_
    refine xx_aload_n (q := 164) rfl rfl rfl ?_
    refine xx_callV (q := 167) (As := []) (rest := []) rfl rfl rfl (Or.inl rfl) rfl rfl (Nat.le_of_ble_eq_true rfl) (xSc_0 isC_27) (XCm (c_allWater hR isC_27 hK hI) rfl) rfl ?_
    have hb3 := watF_b hI
    exact xx_iret rfl trivial ⟨congrArg (fun z => some (Sum.inl z)) (by grind [lkkF]), rfl⟩
  refine xx_swOut (q := 168) rfl (by omega) rfl ?_
  refine xx_iload_n (q := 169) rfl rfl rfl ?_
  refine xx_bipush (q := 171) rfl rfl (by decide) ?_
  refine xx_bipush (q := 173) rfl rfl (by decide) ?_
  refine xx_callS (q := 176) (As := [_, _, _]) (rest := []) rfl rfl rfl (Or.inl rfl) rfl rfl (Nat.le_of_ble_eq_true rfl) (XCm (c_within w 20 24) rfl) rfl ?_
  refine xx_ifb_eq (q := 189) (q2 := 179) rfl rfl rfl (fun h176 => ?_) (fun h176 => ?_)
  · refine xx_iload_n (q := 190) rfl rfl rfl ?_
    refine xx_bipush (q := 192) rfl rfl (by decide) ?_
    refine xx_bipush (q := 194) rfl rfl (by decide) ?_
    refine xx_aload_n (q := 195) rfl rfl rfl ?_
    refine xx_gez (v := K 0 0) (q := 198) rfl rfl rfl (xSc_0 isC_27) (Nat.le_of_ble_eq_true rfl) rfl (hK 0 0 (Nat.le_of_ble_eq_true rfl)) ?_
    have hb4 : 1 ≤ K 0 0 ∧ K 0 0 ≤ 9 := by have h := ki_L hI; exact h
    refine xx_iaddR (q := 199) rfl rfl (by omega) (by omega) ?_
    refine xx_callS (q := 202) (As := [_, _, _]) (rest := []) rfl rfl rfl (Or.inl rfl) rfl rfl (Nat.le_of_ble_eq_true rfl) (XCm (c_within w 30 (30 + (K 0 0))) rfl) rfl ?_
    refine xx_ifb_eq (q := 221) (q2 := 205) rfl rfl rfl (fun h202 => ?_) (fun h202 => ?_)
    · refine xx_iload_n (q := 222) rfl rfl rfl ?_
      refine xx_bipush (q := 224) rfl rfl (by decide) ?_
      refine xx_bipush (q := 226) rfl rfl (by decide) ?_
      refine xx_aload_n (q := 227) rfl rfl rfl ?_
      refine xx_gez (v := K 0 0) (q := 230) rfl rfl rfl (xSc_0 isC_27) (Nat.le_of_ble_eq_true rfl) rfl (hK 0 0 (Nat.le_of_ble_eq_true rfl)) ?_
      have hb5 : 1 ≤ K 0 0 ∧ K 0 0 ≤ 9 := by have h := ki_L hI; exact h
      refine xx_iaddR (q := 231) rfl rfl (by omega) (by omega) ?_
      refine xx_callS (q := 234) (As := [_, _, _]) (rest := []) rfl rfl rfl (Or.inl rfl) rfl rfl (Nat.le_of_ble_eq_true rfl) (XCm (c_within w 40 (40 + (K 0 0))) rfl) rfl ?_
      refine xx_ifb_eq (q := 255) (q2 := 237) rfl rfl rfl (fun h234 => ?_) (fun h234 => ?_)
      · refine xx_ldcw (q := 258) rfl rfl rfl ?_
        exact xx_iret rfl trivial ⟨congrArg (fun z => some (Sum.inl z)) (by grind [lkkF]), rfl⟩
      · refine xx_aload_n (q := 238) rfl rfl rfl ?_
        refine xx_getR (q := 241) rfl rfl rfl xS_5 (Nat.le_of_ble_eq_true rfl) rfl (hR.1 5 0 rfl) ?_
        refine xx_getR (q := 244) rfl rfl rfl xS_6 (Nat.le_of_ble_eq_true rfl) rfl (hR.1 6 3 rfl) ?_
        refine xx_getR (q := 247) rfl rfl rfl xS_18 (Nat.le_of_ble_eq_true rfl) rfl (hR.1 18 5 rfl) ?_
        refine xx_iload_n (q := 248) rfl rfl rfl ?_
        refine xx_bipush (q := 250) rfl rfl (by decide) ?_
        refine xx_isubR (q := 251) rfl rfl (by omega) (by omega) ?_
        refine xx_iaz (v := nd (w - 40).toNat) (q := 252) rfl rfl xS_23 (by omega) (by omega) (hnd _ (by omega)) ?_
        refine xx_goto (q := 258) rfl rfl ?_
        exact xx_iret rfl trivial ⟨congrArg (fun z => some (Sum.inl z)) (by grind [lkkF]), rfl⟩
    · refine xx_aload_n (q := 206) rfl rfl rfl ?_
      refine xx_getR (q := 209) rfl rfl rfl xS_5 (Nat.le_of_ble_eq_true rfl) rfl (hR.1 5 0 rfl) ?_
      refine xx_getR (q := 212) rfl rfl rfl xS_6 (Nat.le_of_ble_eq_true rfl) rfl (hR.1 6 3 rfl) ?_
      refine xx_getR (q := 215) rfl rfl rfl xS_18 (Nat.le_of_ble_eq_true rfl) rfl (hR.1 18 4 rfl) ?_
      refine xx_iload_n (q := 216) rfl rfl rfl ?_
      refine xx_bipush (q := 218) rfl rfl (by decide) ?_
      refine xx_isubR (q := 219) rfl rfl (by omega) (by omega) ?_
      refine xx_iaz (v := sn (w - 30).toNat) (q := 220) rfl rfl xS_22 (by omega) (by omega) (hsn _ (by omega)) ?_
      exact xx_iret rfl trivial ⟨congrArg (fun z => some (Sum.inl z)) (by grind [lkkF]), rfl⟩
  · refine xx_aload_n (q := 180) rfl rfl rfl ?_
    refine xx_getR (q := 183) rfl rfl rfl (xSc_0 isC_27) (Nat.le_of_ble_eq_true rfl) rfl (rc_weather hR isC_27) ?_
    refine xx_iload_n (q := 184) rfl rfl rfl ?_
    refine xx_bipush (q := 186) rfl rfl (by decide) ?_
    refine xx_isubR (q := 187) rfl rfl (by omega) (by omega) ?_
    refine xx_iaz (v := K 6 (w - 20).toNat) (q := 188) rfl rfl (xSc_6 isC_27) (by omega) (by omega) (ck_a hK (o := 6) (N := 5) rfl (by omega) (by omega)) ?_
    have hb6 : 0 ≤ K 6 (w - 20).toNat ∧ K 6 (w - 20).toNat ≤ 1000 := by have h := ki_6 hI (w - 20).toNat; exact h
    exact xx_iret rfl trivial ⟨congrArg (fun z => some (Sum.inl z)) (by grind [lkkF]), rfl⟩
