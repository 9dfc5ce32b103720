/-! With a record: rain, tides, hours, passings, presents. -/
set_option maxHeartbeats 1000000 in
theorem c_rainN {n : Nat} {R : Nat → Nat → Option Nat} {D0 D K : KK} {b : Int} {B : Nat → Int} {U : UU} (hR : RF R) (hW : NWd K b B U D0 D) (hI : KI K) : ∃ D', XC 3 21 [.inr (some 27)] (xS n, R, D) (some (.inl (bi (ranP K)))) (xS n, R, D') ∧ NWd (ranK K) (ranb K b) (ranB K b B) U D0 D' := by
  have hbL := ki_L hI
  have hb61 := ki_6 hI 1
  refine XE_of (Nat.le_of_ble_eq_true rfl) (Nat.le_of_ble_eq_true rfl) (loc := [_]) rfl ?_
  refine xx_aload_n (q := 1) rfl rfl rfl ?_
  refine xx_getR (q := 4) rfl rfl rfl (xSc_0 isC_27) (Nat.le_of_ble_eq_true rfl) rfl (hR.1 27 15 rfl) ?_
  refine xx_ifnull (q := 7) rfl rfl ?_
  refine xx_aload_n (q := 8) rfl rfl rfl ?_
  refine xx_getR (q := 11) rfl rfl rfl (xSc_0 isC_27) (Nat.le_of_ble_eq_true rfl) rfl (rc_weather hR isC_27) ?_
  refine xx_iconst (q := 12) rfl rfl (by decide) ?_
  refine xx_iaz (v := K 6 0) (q := 13) rfl rfl (xSc_6 isC_27) (by omega) (by omega) (ck_a hW.1 (o := 6) (N := 5) rfl (by omega) (by omega)) ?_
  have hb1 : 0 ≤ K 6 0 ∧ K 6 0 ≤ 1000 := by have h := ki_6 hI 0; exact h
  refine xx_if_gt (q := 18) (q2 := 16) rfl rfl rfl (fun h13 => ?_) (fun h13 => ?_)
  · refine xx_aload_n (q := 19) rfl rfl rfl ?_
    refine xx_aload_n (q := 20) rfl rfl rfl ?_
    refine xx_gez (v := K 0 3) (q := 23) rfl rfl rfl (xSc_0 isC_27) (Nat.le_of_ble_eq_true rfl) rfl (hW.1 0 3 (Nat.le_of_ble_eq_true rfl)) ?_
    refine xx_ldc (q := 25) rfl rfl rfl ?_
    refine xx_imul (q := 26) rfl rfl ?_
    refine xx_ldc (q := 28) rfl rfl rfl ?_
    refine xx_iadd (q := 29) rfl rfl ?_
    refine xn_puz (o := 0) hW (q := 32) rfl rfl rfl (xSc_0 isC_27) (Nat.le_of_ble_eq_true rfl) (Nat.le_of_ble_eq_true rfl) (fun h => by cases h) (Or.inl rfl) (by decide) (by decide) (fun D2 hW2 => ?_)
    have hI2 : KI (xui K 0 3 (nrm ((nrm ((K 0 3) * 1664525)) + 1013904223))) := KI_up hI (nrm_lo _) (nrm_hi _)
    refine xx_aload_n (q := 33) rfl rfl rfl ?_
    refine xx_gez (v := nrm ((nrm ((K 0 3) * 1664525)) + 1013904223)) (q := 36) rfl rfl rfl (xSc_0 isC_27) (Nat.le_of_ble_eq_true rfl) rfl ((hW2.1 0 3 (Nat.le_of_ble_eq_true rfl)).trans xui_s) ?_
    refine xx_bipush (q := 38) rfl rfl (by decide) ?_
    refine xx_iushr (q := 39) rfl rfl ?_
    refine xx_sipush (q := 42) rfl rfl (by decide) ?_
    have hu8 := xushr_8 (nrm (nrm (K 0 3 * 1664525) + 1013904223))
    refine xx_irem (q := 43) rfl rfl (by omega) ?_
    refine xx_aload_n (q := 44) rfl rfl rfl ?_
    refine xx_getR (q := 47) rfl rfl rfl (xSc_0 isC_27) (Nat.le_of_ble_eq_true rfl) rfl (rc_weather hR isC_27) ?_
    refine xx_iconst (q := 48) rfl rfl (by decide) ?_
    refine xx_iaz (v := K 6 0) (q := 49) rfl rfl (xSc_6 isC_27) (by omega) (by omega) (ck_a hW2.1 (o := 6) (N := 5) rfl (by omega) (by omega)) ?_
    have hb3 : 0 ≤ K 6 0 ∧ K 6 0 ≤ 1000 := by have h := ki_6 hI2 0; exact h
    change XX _ _ _ _ _ (.inl (K 6 0) :: .inl (xrem (xushr (drwF K) 8) 1000) :: []) _
    refine xx_icmp_lt (q := 54) (q2 := 52) rfl rfl rfl (fun h49 => ?_) (fun h49 => ?_)
    · refine xx_aload_n (q := 55) rfl rfl rfl ?_
      refine xx_iconst (q := 56) rfl rfl (by decide) ?_
      refine xx_aload_n (q := 57) rfl rfl rfl ?_
      refine xx_getR (q := 60) rfl rfl rfl (xSc_0 isC_27) (Nat.le_of_ble_eq_true rfl) rfl (rc_weather hR isC_27) ?_
      refine xx_iconst (q := 61) rfl rfl (by decide) ?_
      refine xx_iaz (v := K 6 1) (q := 62) rfl rfl (xSc_6 isC_27) (by omega) (by omega) (ck_a hW2.1 (o := 6) (N := 5) rfl (by omega) (by omega)) ?_
      have hb4 : 0 ≤ K 6 1 ∧ K 6 1 ≤ 1000 := by have h := ki_6 hI2 1; exact h
      have hL6 : (xui K 0 3 (nrm ((nrm ((K 0 3) * 1664525)) + 1013904223))) 0 0 = K 0 0 := rfl
      have hL7 : (xui K 0 3 (nrm ((nrm ((K 0 3) * 1664525)) + 1013904223))) 13 0 = K 13 0 := rfl
      obtain ⟨D5, hx5, hK5, hG5⟩ := c_comeInto (n := n) hR isC_27 hW2.1 hI2 0 (K 6 1) (by omega) (by omega) (by omega) (by omega)
      have hW5 := NWd.fr hW2 hK5 hG5
      have hI5 : KI (comeF (xui K 0 3 (nrm ((nrm ((K 0 3) * 1664525)) + 1013904223))) 0 (K 6 1)) := comeF_I hI2 (by omega)
      refine xx_callV (q := 65) (As := [_, _]) (rest := []) rfl rfl rfl (Or.inl rfl) rfl rfl (Nat.le_of_ble_eq_true rfl) (xSc_0 isC_27) (XCm hx5 rfl) rfl ?_
      refine xx_aload_n (q := 66) rfl rfl rfl ?_
      refine xx_iconst (q := 67) rfl rfl (by decide) ?_
      refine xx_iconst (q := 68) rfl rfl (by decide) ?_
      refine xx_iconst (q := 69) rfl rfl (by decide) ?_
      refine xx_aload_n (q := 70) rfl rfl rfl ?_
      refine xx_getR (q := 73) rfl rfl rfl (xSc_0 isC_27) (Nat.le_of_ble_eq_true rfl) rfl (rc_weather hR isC_27) ?_
      refine xx_iconst (q := 74) rfl rfl (by decide) ?_
      refine xx_iaz (v := K 6 1) (q := 75) rfl rfl (xSc_6 isC_27) (by omega) (by omega) ((ck_a hW5.1 (o := 6) (N := 5) rfl (by omega) (by omega)).trans (comeL_k _ _ _ _ _ _ (by decide) (by omega))) ?_
      have hb8 : 0 ≤ K 6 1 ∧ K 6 1 ≤ 1000 := by rw [← show (comeF (xui K 0 3 (nrm ((nrm ((K 0 3) * 1664525)) + 1013904223))) 0 (K 6 1)) 6 1 = K 6 1 from comeL_k _ _ _ _ _ _ (by decide) (by omega)]; exact ki_6 hI5 1
      obtain ⟨D9, hx9, hW9⟩ := c_noteN (n := n) hR hW5 hI5 3 (-1) (-1) (K 6 1)
      refine xx_callV (q := 78) (As := [_, _, _, _]) (rest := []) rfl rfl rfl (Or.inl rfl) rfl rfl (Nat.le_of_ble_eq_true rfl) (xSc_0 isC_27) (XCm hx9 rfl) rfl ?_
      refine xx_iconst (q := 79) rfl rfl (by decide) ?_
      refine xx_iret rfl (Or.inr rfl) ⟨congrArg (fun z => some (Sum.inl z)) (by exact (bi_t ⟨by omega, h49⟩).symm), _, rfl, ?_⟩
      have q0 : 0 < K 6 0 := by omega
      have e1 : ranK K = comeF (xui K 0 3 (drwF K)) 0 (K 6 1) := by unfold ranK; rw [if_pos q0]; exact if_pos h49
      have e2 : ranb K b = notb b := if_pos ⟨q0, h49⟩
      have e3 : ranB K b B = notB b B (K 0 1) 3 (-1) (-1) (K 6 1) := if_pos ⟨q0, h49⟩
      have e4 : (comeF (xui K 0 3 (nrm ((nrm ((K 0 3) * 1664525)) + 1013904223))) 0 (K 6 1)) 0 1 = K 0 1 := comeL_k _ _ _ _ _ _ (by decide) (by omega)
      rw [e4] at hW9
      rw [e1, e2, e3]
      exact hW9
    · refine xx_iconst (q := 53) rfl rfl (by decide) ?_
      refine xx_iret rfl (Or.inl rfl) ⟨congrArg (fun z => some (Sum.inl z)) (by exact (bi_f (fun q => h49 q.2)).symm), _, rfl, ?_⟩
      have q0 : 0 < K 6 0 := by omega
      have e1 : ranK K = xui K 0 3 (drwF K) := by unfold ranK; rw [if_pos q0]; exact if_neg h49
      have e2 : ranb K b = b := if_neg (fun q => h49 q.2)
      have e3 : ranB K b B = B := if_neg (fun q => h49 q.2)
      rw [e1, e2, e3]
      exact hW2
  · refine xx_iconst (q := 17) rfl rfl (by decide) ?_
    refine xx_iret rfl (Or.inl rfl) ⟨congrArg (fun z => some (Sum.inl z)) (by exact (bi_f (fun q => by omega)).symm), _, rfl, ?_⟩
    have q0 : ¬ 0 < K 6 0 := by omega
    have e1 : ranK K = K := if_neg q0
    have e2 : ranb K b = b := if_neg (fun q => q0 q.1)
    have e3 : ranB K b B = B := if_neg (fun q => q0 q.1)
    rw [e1, e2, e3]
    exact hW
set_option maxHeartbeats 1000000 in
theorem c_tideN {n : Nat} {R : Nat → Nat → Option Nat} {D0 D K : KK} {b : Int} {B : Nat → Int} {U : UU} (hR : RF R) (hW : NWd K b B U D0 D) (hI : KI K) : ∃ D', XC 3 22 [.inr (some 27)] (xS n, R, D) none (xS n, R, D') ∧ NWd (tidT K) (tidb K b) (tidB K b B) U D0 D' := by
  have hbL := ki_L hI
  have hb6 := ki_6 hI 3
  refine XE_of (Nat.le_of_ble_eq_true rfl) (Nat.le_of_ble_eq_true rfl) (loc := [_, _]) rfl ?_
  refine xx_aload_n (q := 1) rfl rfl rfl ?_
  refine xx_getR (q := 4) rfl rfl rfl (xSc_0 isC_27) (Nat.le_of_ble_eq_true rfl) rfl (rc_weather hR isC_27) ?_
  refine xx_iconst (q := 5) rfl rfl (by decide) ?_
  refine xx_iaz (v := K 6 2) (q := 6) rfl rfl (xSc_6 isC_27) (by omega) (by omega) (ck_a hW.1 (o := 6) (N := 5) rfl (by omega) (by omega)) ?_
  have hb1 : 0 ≤ K 6 2 ∧ K 6 2 ≤ 1000 := by have h := ki_6 hI 2; exact h
  refine xx_istore_n (q := 7) (loc2 := [_, _]) rfl rfl (Nat.le_of_ble_eq_true rfl) rfl ?_
  refine xx_iload_n (q := 8) rfl rfl rfl ?_
  refine xx_if_le (q := 22) (q2 := 11) rfl rfl rfl (fun h8 => ?_) (fun h8 => ?_)
  · refine xx_vret rfl rfl ⟨rfl, _, rfl, ?_⟩
    have e1 : tidT K = K := if_neg (fun q => q.1 h8)
    have e2 : tidb K b = b := if_neg (fun q => q.1 h8)
    have e3 : tidB K b B = B := if_neg (fun q => q.1 h8)
    rw [e1, e2, e3]
    exact hW
  · refine xx_aload_n (q := 12) rfl rfl rfl ?_
    refine xx_gez (v := K 0 1) (q := 15) rfl rfl rfl (xSc_0 isC_27) (Nat.le_of_ble_eq_true rfl) rfl (hW.1 0 1 (Nat.le_of_ble_eq_true rfl)) ?_
    refine xx_iconst (q := 16) rfl rfl (by decide) ?_
    refine xx_iadd (q := 17) rfl rfl ?_
    refine xx_iload_n (q := 18) rfl rfl rfl ?_
    refine xx_irem (q := 19) rfl rfl (by omega) ?_
    refine xx_if_eq (q := 23) (q2 := 22) rfl rfl rfl (fun h19 => ?_) (fun h19 => ?_)
    · refine xx_aload_n (q := 24) rfl rfl rfl ?_
      refine xx_dup (q := 25) rfl rfl ?_
      refine xx_gez (v := K 0 2) (q := 28) rfl rfl rfl (xSc_0 isC_27) (Nat.le_of_ble_eq_true rfl) rfl (hW.1 0 2 (Nat.le_of_ble_eq_true rfl)) ?_
      refine xx_aload_n (q := 29) rfl rfl rfl ?_
      refine xx_getR (q := 32) rfl rfl rfl (xSc_0 isC_27) (Nat.le_of_ble_eq_true rfl) rfl (rc_weather hR isC_27) ?_
      refine xx_iconst (q := 33) rfl rfl (by decide) ?_
      refine xx_iaz (v := K 6 3) (q := 34) rfl rfl (xSc_6 isC_27) (by omega) (by omega) (ck_a hW.1 (o := 6) (N := 5) rfl (by omega) (by omega)) ?_
      have hb2 : 0 ≤ K 6 3 ∧ K 6 3 ≤ 1000 := by have h := ki_6 hI 3; exact h
      refine xx_isub (q := 35) rfl rfl ?_
      refine xn_puz (o := 0) hW (q := 38) rfl rfl rfl (xSc_0 isC_27) (Nat.le_of_ble_eq_true rfl) (Nat.le_of_ble_eq_true rfl) (fun h => by cases h) (Or.inl rfl) (by decide) (by decide) (fun D3 hW3 => ?_)
      have hI3 : KI (xui K 0 2 (nrm ((K 0 2) - (K 6 3)))) := KI_up hI (nrm_lo _) (nrm_hi _)
      refine xx_aload_n (q := 39) rfl rfl rfl ?_
      refine xx_aload_n (q := 40) rfl rfl rfl ?_
      refine xx_gez (v := K 0 0) (q := 43) rfl rfl rfl (xSc_0 isC_27) (Nat.le_of_ble_eq_true rfl) rfl (hW3.1 0 0 (Nat.le_of_ble_eq_true rfl)) ?_
      have hb4 : 1 ≤ K 0 0 ∧ K 0 0 ≤ 9 := by have h := ki_L hI3; exact h
      refine xx_aload_n (q := 44) rfl rfl rfl ?_
      refine xx_getR (q := 47) rfl rfl rfl (xSc_0 isC_27) (Nat.le_of_ble_eq_true rfl) rfl (rc_weather hR isC_27) ?_
      refine xx_iconst (q := 48) rfl rfl (by decide) ?_
      refine xx_iaz (v := K 6 3) (q := 49) rfl rfl (xSc_6 isC_27) (by omega) (by omega) (ck_a hW3.1 (o := 6) (N := 5) rfl (by omega) (by omega)) ?_
      have hb5 : 0 ≤ K 6 3 ∧ K 6 3 ≤ 1000 := by have h := ki_6 hI3 3; exact h
      have hL7 : (xui K 0 2 (nrm ((K 0 2) - (K 6 3)))) 0 0 = K 0 0 := rfl
      have hL8 : (xui K 0 2 (nrm ((K 0 2) - (K 6 3)))) 13 0 = K 13 0 := rfl
      obtain ⟨D6, hx6, hK6, hG6⟩ := c_comeInto (n := n) hR isC_27 hW3.1 hI3 (K 0 0) (K 6 3) (by omega) (by omega) (by omega) (by omega)
      have hW6 := NWd.fr hW3 hK6 hG6
      have hI6 : KI (comeF (xui K 0 2 (nrm ((K 0 2) - (K 6 3)))) (K 0 0) (K 6 3)) := comeF_I hI3 (by omega)
      refine xx_callV (q := 52) (As := [_, _]) (rest := []) rfl rfl rfl (Or.inl rfl) rfl rfl (Nat.le_of_ble_eq_true rfl) (xSc_0 isC_27) (XCm hx6 rfl) rfl ?_
      refine xx_aload_n (q := 53) rfl rfl rfl ?_
      refine xx_iconst (q := 54) rfl rfl (by decide) ?_
      refine xx_iconst (q := 55) rfl rfl (by decide) ?_
      refine xx_iconst (q := 56) rfl rfl (by decide) ?_
      refine xx_aload_n (q := 57) rfl rfl rfl ?_
      refine xx_getR (q := 60) rfl rfl rfl (xSc_0 isC_27) (Nat.le_of_ble_eq_true rfl) rfl (rc_weather hR isC_27) ?_
      refine xx_iconst (q := 61) rfl rfl (by decide) ?_
      refine xx_iaz (v := K 6 3) (q := 62) rfl rfl (xSc_6 isC_27) (by omega) (by omega) ((ck_a hW6.1 (o := 6) (N := 5) rfl (by omega) (by omega)).trans (comeL_k _ _ _ _ _ _ (by decide) (by omega))) ?_
      have hb9 : 0 ≤ K 6 3 ∧ K 6 3 ≤ 1000 := by rw [← show (comeF (xui K 0 2 (nrm ((K 0 2) - (K 6 3)))) (K 0 0) (K 6 3)) 6 3 = K 6 3 from comeL_k _ _ _ _ _ _ (by decide) (by omega)]; exact ki_6 hI6 3
      obtain ⟨D10, hx10, hW10⟩ := c_noteN (n := n) hR hW6 hI6 4 (-1) (-1) (K 6 3)
      refine xx_callV (q := 65) (As := [_, _, _, _]) (rest := []) rfl rfl rfl (Or.inl rfl) rfl rfl (Nat.le_of_ble_eq_true rfl) (xSc_0 isC_27) (XCm hx10 rfl) rfl ?_
      refine xx_vret rfl rfl ⟨rfl, _, rfl, ?_⟩
      have e1 : tidT K = tidK K := if_pos ⟨h8, h19⟩
      have e2 : tidb K b = notb b := if_pos ⟨h8, h19⟩
      have e3 : tidB K b B = notB b B (K 0 1) 4 (-1) (-1) (K 6 3) := if_pos ⟨h8, h19⟩
      have e4 : (comeF (xui K 0 2 (nrm ((K 0 2) - (K 6 3)))) (K 0 0) (K 6 3)) 0 1 = K 0 1 := comeL_k _ _ _ _ _ _ (by decide) (by omega)
      rw [e4] at hW10
      rw [e1, e2, e3]
      exact hW10
    · refine xx_vret rfl rfl ⟨rfl, _, rfl, ?_⟩
      have e1 : tidT K = K := if_neg (fun q => h19 q.2)
      have e2 : tidb K b = b := if_neg (fun q => h19 q.2)
      have e3 : tidB K b B = B := if_neg (fun q => h19 q.2)
      rw [e1, e2, e3]
      exact hW
set_option maxHeartbeats 1000000 in
theorem c_lek_N {n : Nat} {R : Nat → Nat → Option Nat} {D0 : KK} {Q : XQ} {b : Int} {B : Nat → Int} {U : UU} (hR : RF R) (r : Int) : ∀ (k : Nat) (K D : KK) (l : Int), NWd K b B U D0 D → KI K → 0 ≤ l → l + k = K 0 0 → (∀ D2 l2, NWd (lekL k K l) b B U D0 D2 → KI (lekL k K l) → XX (XC 5) 18 Q 41 [some (.inr (some 27)), some (.inl r), some (.inl l2)] [] (xS n, R, D2)) → XX (XC 5) 18 (Q) 7 [some (.inr (some 27)), some (.inl r), some (.inl l)] [] (xS n, R, D) := by
  intro k
  induction k using Nat.strongRecOn with
  | ind k ih =>
  intro K D l hW hI h1 hk kx
  have hbL := ki_L hI
  refine xx_iload_n (q := 8) rfl rfl rfl ?_
  refine xx_aload_n (q := 9) rfl rfl rfl ?_
  refine xx_gez (v := K 0 0) (q := 12) rfl rfl rfl (xSc_0 isC_27) (Nat.le_of_ble_eq_true rfl) rfl (hW.1 0 0 (Nat.le_of_ble_eq_true rfl)) ?_
  have hb1 : 1 ≤ K 0 0 ∧ K 0 0 ≤ 9 := by have h := ki_L hI; exact h
  refine xx_icmp_ge (q := 41) (q2 := 15) rfl rfl rfl (fun h12 => ?_) (fun h12 => ?_)
  · obtain rfl : k = 0 := by omega
    exact kx _ _ hW hI
  · obtain ⟨k, rfl⟩ : ∃ k2, k = k2 + 1 := ⟨k - 1, by omega⟩
    refine xx_aload_n (q := 16) rfl rfl rfl ?_
    refine xx_iload_n (q := 17) rfl rfl rfl ?_
    refine xx_aload_n (q := 18) rfl rfl rfl ?_
    refine xx_getR (q := 21) rfl rfl rfl (xSc_0 isC_27) (Nat.le_of_ble_eq_true rfl) rfl (rc_leak hR isC_27) ?_
    refine xx_iload_n (q := 22) rfl rfl rfl ?_
    refine xx_iaz (v := K 3 (l).toNat) (q := 23) rfl rfl (xSc_3 isC_27) (by omega) (by omega) (ck_a hW.1 (o := 3) (N := 9) rfl (by omega) (by omega)) ?_
    have hb2 : 0 ≤ K 3 (l).toNat ∧ K 3 (l).toNat ≤ 9 := by have h := ki_3 hI (l).toNat; exact h
    refine xx_aload_n (q := 24) rfl rfl rfl ?_
    refine xx_getR (q := 27) rfl rfl rfl (xSc_0 isC_27) (Nat.le_of_ble_eq_true rfl) rfl (rc_depth hR isC_27) ?_
    refine xx_iload_n (q := 28) rfl rfl rfl ?_
    refine xx_iaz (v := K 1 (l).toNat) (q := 29) rfl rfl (xSc_1 isC_27) (by omega) (by omega) (ck_a hW.1 (o := 1) (N := 10) rfl (by omega) (by omega)) ?_
    have hb3 : 0 ≤ K 1 (l).toNat ∧ K 1 (l).toNat ≤ 999 := by have h := ki_1 hI (l).toNat; exact h
    refine xx_minF (q := 32) rfl rfl rfl (Nat.le_of_ble_eq_true rfl) ?_
    have hb4 := mnF_sp (K 3 (l).toNat) (K 1 (l).toNat)
    obtain ⟨D5, hx5, hK5, hG5⟩ := c_flow (n := n) hR isC_27 hW.1 hI l (mnF (K 3 (l).toNat) (K 1 (l).toNat)) (by omega) (by omega) (by omega) (by omega) (by omega)
    have hW5 := NWd.fr hW hK5 hG5
    have hI5 : KI (flowF K l (mnF (K 3 (l).toNat) (K 1 (l).toNat))) := flowF_I hI (by omega) (by omega)
    refine xx_callV (q := 35) (As := [_, _]) (rest := []) rfl rfl rfl (Or.inl rfl) rfl rfl (Nat.le_of_ble_eq_true rfl) (xSc_0 isC_27) (XCm hx5 rfl) rfl ?_
    refine xx_incz (q := 38) (loc2 := [_, _, _]) rfl rfl rfl (by omega) (by omega) rfl rfl ?_
    refine xx_goto (q := 7) rfl rfl ?_
    exact ih k (by omega) _ _ _ hW5 hI5 (by omega) (by rw [flowF_k (by decide) (by omega)]; omega) kx
set_option maxHeartbeats 1000000 in
theorem c_hrest_N {n : Nat} {R : Nat → Nat → Option Nat} {D0 K D : KK} {b : Int} {B : Nat → Int} {U : UU} (hR : RF R) (r l : Int) (hr : r = 0 ∨ r = 1) (hW : NWd K b B U D0 D) (hI : KI K) : XX (XC 5) 18 (XP (some (.inl r)) (xS n) R (fun D' => NWd (aftT (tidT K)) (tidb K b) (tidB K b B) U D0 D')) 41 [some (.inr (some 27)), some (.inl r), some (.inl l)] [] (xS n, R, D) := by
  refine xx_aload_n (q := 42) rfl rfl rfl ?_
  obtain ⟨D1, hx1, hW1⟩ := c_tideN (n := n) hR hW hI
  have hI1 : KI (tidT K) := tidT_I hI
  refine xx_callV (q := 45) (As := []) (rest := []) rfl rfl rfl (Or.inl rfl) rfl rfl (Nat.le_of_ble_eq_true rfl) (xSc_0 isC_27) (XCm hx1 rfl) rfl ?_
  refine xx_aload_n (q := 46) rfl rfl rfl ?_
  refine xx_getR (q := 49) rfl rfl rfl (xSc_0 isC_27) (Nat.le_of_ble_eq_true rfl) rfl (rc_weather hR isC_27) ?_
  refine xx_iconst (q := 50) rfl rfl (by decide) ?_
  refine xx_iaz (v := K 6 4) (q := 51) rfl rfl (xSc_6 isC_27) (by omega) (by omega) ((ck_a hW1.1 (o := 6) (N := 5) rfl (by omega) (by omega)).trans (tidT_k (by decide) (by omega))) ?_
  have hb2 : 0 ≤ K 6 4 ∧ K 6 4 ≤ 1000 := by rw [← show (tidT K) 6 4 = K 6 4 from tidT_k (by decide) (by omega)]; exact ki_6 hI1 4
  refine xx_iconst (q := 52) rfl rfl (by decide) ?_
  refine xx_icmp_ne (q := 73) (q2 := 55) rfl rfl rfl (fun h52 => ?_) (fun h52 => ?_)
  · refine xx_aload_n (q := 74) rfl rfl rfl ?_
    refine xx_getR (q := 77) rfl rfl rfl (xSc_0 isC_27) (Nat.le_of_ble_eq_true rfl) rfl (rc_keepers hR isC_27) ?_
    refine xx_aload_n (q := 78) rfl rfl rfl ?_
    refine xx_gez (v := K 0 0) (q := 81) rfl rfl rfl (xSc_0 isC_27) (Nat.le_of_ble_eq_true rfl) rfl ((hW1.1 0 0 (Nat.le_of_ble_eq_true rfl)).trans (tidT_k (by decide) (by omega))) ?_
    have hb3 : 1 ≤ K 0 0 ∧ K 0 0 ≤ 9 := by rw [← show (tidT K) 0 0 = K 0 0 from tidT_k (by decide) (by omega)]; exact ki_L hI1
    have hL5 : (tidT K) 0 0 = K 0 0 := tidT_k (by decide) (by omega)
    have hL6 : (tidT K) 13 0 = K 13 0 := tidT_k (by decide) (by omega)
    obtain ⟨D4, hx4, hK4, hG4⟩ := c_calmDown (n := n) hR isC_27 hW1.1 hI1 (K 0 0) (by omega)
    have hW4 := NWd.fr hW1 hK4 hG4
    have hI4 : KI (clmF (tidT K)) := clmL_I _ _ _ hI1
    refine xx_callV (q := 84) (As := [_]) (rest := []) rfl rfl rfl (Or.inl rfl) rfl rfl (Nat.le_of_ble_eq_true rfl) (xSc_7 isC_27) (XCm hx4 rfl) rfl ?_
    refine xx_aload_n (q := 85) rfl rfl rfl ?_
    refine xx_dup (q := 86) rfl rfl ?_
    refine xx_gez (v := K 0 1) (q := 89) rfl rfl rfl (xSc_0 isC_27) (Nat.le_of_ble_eq_true rfl) rfl ((hW4.1 0 1 (Nat.le_of_ble_eq_true rfl)).trans ((clmL_k _ _ _ _ _ (by decide)).trans (tidT_k (by decide) (by omega)))) ?_
    refine xx_iconst (q := 90) rfl rfl (by decide) ?_
    refine xx_iadd (q := 91) rfl rfl ?_
    refine xn_puz (o := 0) hW4 (q := 94) rfl rfl rfl (xSc_0 isC_27) (Nat.le_of_ble_eq_true rfl) (Nat.le_of_ble_eq_true rfl) (fun h => by cases h) (Or.inl rfl) (by decide) (by decide) (fun D7 hW7 => ?_)
    have hI7 : KI (xui (clmF (tidT K)) 0 1 (nrm ((K 0 1) + 1))) := KI_up hI4 (nrm_lo _) (nrm_hi _)
    refine xx_iload_n (q := 95) rfl rfl rfl ?_
    refine xx_iret rfl hr ⟨rfl, _, rfl, ?_⟩
    have e : aftT (tidT K) = (xui (clmF (tidT K)) 0 1 (nrm ((K 0 1) + 1))) := by
      unfold aftT gosT
      rw [if_neg (fun q => h52 ((tidT_k (by decide) (by omega)).symm.trans q)), tidT_k (by decide) (by omega)]
    rw [e]
    exact hW7
  · refine xx_aload_n (q := 56) rfl rfl rfl ?_
    refine xx_getR (q := 59) rfl rfl rfl (xSc_0 isC_27) (Nat.le_of_ble_eq_true rfl) rfl (rc_keepers hR isC_27) ?_
    refine xx_aload_n (q := 60) rfl rfl rfl ?_
    refine xx_gez (v := K 0 0) (q := 63) rfl rfl rfl (xSc_0 isC_27) (Nat.le_of_ble_eq_true rfl) rfl ((hW1.1 0 0 (Nat.le_of_ble_eq_true rfl)).trans (tidT_k (by decide) (by omega))) ?_
    have hb8 : 1 ≤ K 0 0 ∧ K 0 0 ≤ 9 := by rw [← show (tidT K) 0 0 = K 0 0 from tidT_k (by decide) (by omega)]; exact ki_L hI1
    refine xx_aload_n (q := 64) rfl rfl rfl ?_
    refine xx_getR (q := 67) rfl rfl rfl (xSc_0 isC_27) (Nat.le_of_ble_eq_true rfl) rfl (rc_fleet hR isC_27) ?_
    refine xx_gez (v := K 13 0) (q := 70) rfl rfl rfl (xSc_13 isC_27) (Nat.le_of_ble_eq_true rfl) rfl ((hW1.1 13 0 (Nat.le_of_ble_eq_true rfl)).trans (tidT_k (by decide) (by omega))) ?_
    have hb9 : 0 ≤ K 13 0 ∧ K 13 0 ≤ 6 := by rw [← show (tidT K) 13 0 = K 13 0 from tidT_k (by decide) (by omega)]; exact ki_B hI1
    have hL11 : (tidT K) 0 0 = K 0 0 := tidT_k (by decide) (by omega)
    have hL12 : (tidT K) 13 0 = K 13 0 := tidT_k (by decide) (by omega)
    obtain ⟨D10, hx10, hK10, hG10⟩ := c_gossip (n := n) hR isC_27 hW1.1 hI1 (K 0 0) (K 13 0) (by omega) (by omega)
    have hW10 := NWd.fr hW1 hK10 hG10
    have hI10 : KI (gspF (tidT K)) := gspL_I _ _ _ hI1
    refine xx_callV (q := 73) (As := [_, _]) (rest := []) rfl rfl rfl (Or.inl rfl) rfl rfl (Nat.le_of_ble_eq_true rfl) (xSc_7 isC_27) (XCm hx10 rfl) rfl ?_
    refine xx_aload_n (q := 74) rfl rfl rfl ?_
    refine xx_getR (q := 77) rfl rfl rfl (xSc_0 isC_27) (Nat.le_of_ble_eq_true rfl) rfl (rc_keepers hR isC_27) ?_
    refine xx_aload_n (q := 78) rfl rfl rfl ?_
    refine xx_gez (v := K 0 0) (q := 81) rfl rfl rfl (xSc_0 isC_27) (Nat.le_of_ble_eq_true rfl) rfl ((hW10.1 0 0 (Nat.le_of_ble_eq_true rfl)).trans ((gspL_k _ _ _ _ _ (by decide)).trans (tidT_k (by decide) (by omega)))) ?_
    have hb13 : 1 ≤ K 0 0 ∧ K 0 0 ≤ 9 := by rw [← show (gspF (tidT K)) 0 0 = K 0 0 from (gspL_k _ _ _ _ _ (by decide)).trans (tidT_k (by decide) (by omega))]; exact ki_L hI10
    have hL15 : (gspF (tidT K)) 0 0 = K 0 0 := (gspL_k _ _ _ _ _ (by decide)).trans (tidT_k (by decide) (by omega))
    have hL16 : (gspF (tidT K)) 13 0 = K 13 0 := (gspL_k _ _ _ _ _ (by decide)).trans (tidT_k (by decide) (by omega))
    obtain ⟨D14, hx14, hK14, hG14⟩ := c_calmDown (n := n) hR isC_27 hW10.1 hI10 (K 0 0) (by omega)
    have hW14 := NWd.fr hW10 hK14 hG14
    have hI14 : KI (clmF (gspF (tidT K))) := clmL_I _ _ _ hI10
    refine xx_callV (q := 84) (As := [_]) (rest := []) rfl rfl rfl (Or.inl rfl) rfl rfl (Nat.le_of_ble_eq_true rfl) (xSc_7 isC_27) (XCm hx14 rfl) rfl ?_
    refine xx_aload_n (q := 85) rfl rfl rfl ?_
    refine xx_dup (q := 86) rfl rfl ?_
    refine xx_gez (v := K 0 1) (q := 89) rfl rfl rfl (xSc_0 isC_27) (Nat.le_of_ble_eq_true rfl) rfl ((hW14.1 0 1 (Nat.le_of_ble_eq_true rfl)).trans ((clmL_k _ _ _ _ _ (by decide)).trans ((gspL_k _ _ _ _ _ (by decide)).trans (tidT_k (by decide) (by omega))))) ?_
    refine xx_iconst (q := 90) rfl rfl (by decide) ?_
    refine xx_iadd (q := 91) rfl rfl ?_
    refine xn_puz (o := 0) hW14 (q := 94) rfl rfl rfl (xSc_0 isC_27) (Nat.le_of_ble_eq_true rfl) (Nat.le_of_ble_eq_true rfl) (fun h => by cases h) (Or.inl rfl) (by decide) (by decide) (fun D17 hW17 => ?_)
    have hI17 : KI (xui (clmF (gspF (tidT K))) 0 1 (nrm ((K 0 1) + 1))) := KI_up hI14 (nrm_lo _) (nrm_hi _)
    refine xx_iload_n (q := 95) rfl rfl rfl ?_
    refine xx_iret rfl hr ⟨rfl, _, rfl, ?_⟩
    have e : aftT (tidT K) = (xui (clmF (gspF (tidT K))) 0 1 (nrm ((K 0 1) + 1))) := by
      unfold aftT gosT
      rw [if_pos (show tidT K 6 4 = 1 from (tidT_k (by decide) (by omega)).trans h52), tidT_k (by decide) (by omega)]
    rw [e]
    exact hW17
set_option maxHeartbeats 1000000 in
theorem c_hourN {n : Nat} {R : Nat → Nat → Option Nat} {D0 D K : KK} {b : Int} {B : Nat → Int} {U : UU} (hR : RF R) (hW : NWd K b B U D0 D) (hI : KI K) : ∃ D', XC 6 18 [.inr (some 27)] (xS n, R, D) (some (.inl (bi (ranP K)))) (xS n, R, D') ∧ NWd (hrK K) (hrb K b) (hrB K b B) U D0 D' := by
  have hbL := ki_L hI
  refine XE_of (Nat.le_of_ble_eq_true rfl) (Nat.le_of_ble_eq_true rfl) (loc := [_, _, _]) rfl ?_
  refine xx_aload_n (q := 1) rfl rfl rfl ?_
  obtain ⟨D1, hx1, hW1⟩ := c_rainN (n := n) hR hW hI
  have hI1 : KI (ranK K) := ranK_I hI
  refine xx_callV (q := 4) (As := []) (rest := []) rfl rfl rfl (Or.inl rfl) rfl rfl (Nat.le_of_ble_eq_true rfl) (xSc_0 isC_27) (XCm hx1 rfl) rfl ?_
  refine xx_istore_n (q := 5) (loc2 := [_, _, _]) rfl rfl (Nat.le_of_ble_eq_true rfl) rfl ?_
  refine xx_iconst (q := 6) rfl rfl (by decide) ?_
  refine xx_istore_n (q := 7) (loc2 := [_, _, _]) rfl rfl (Nat.le_of_ble_eq_true rfl) rfl ?_
  have hbL2 := ki_L hI1
  exact c_lek_N hR _ ((ranK K) 0 0).toNat (ranK K) _ 0 hW1 hI1 (by omega) (by omega) (fun D2 l2 hW2 hI2 => c_hrest_N hR _ l2 (bi_01 _) hW2 hI2)
abbrev ZZ : Type := KK × Int × (Nat → Int) × UU
def hrZ (Z : ZZ) : ZZ := (hrK Z.1, hrb Z.1 Z.2.1, hrB Z.1 Z.2.1 Z.2.2.1, kepU Z.1 Z.2.1 Z.2.2.2)
def hrsZ : Nat → ZZ → ZZ
  | 0, Z => Z
  | k + 1, Z => hrsZ k (hrZ Z)
def hrsR : Nat → ZZ → Int
  | 0, _ => 0
  | k + 1, Z => bi (ranP Z.1) + hrsR k (hrZ Z)
theorem hrsZ_I : ∀ (k : Nat) (Z : ZZ), KI Z.1 → KI (hrsZ k Z).1
  | 0, _, h => h
  | k + 1, _, h => hrsZ_I k _ (hrK_I h)
abbrev NZ (Z : ZZ) (D0 D : KK) : Prop := NWd Z.1 Z.2.1 Z.2.2.1 Z.2.2.2 D0 D
def waiZ (Z : ZZ) (m : Int) : ZZ := if waiP Z.1 m then hrsZ m.toNat Z else Z
def waiR (Z : ZZ) (m : Int) : Int := if waiP Z.1 m then hrsR m.toNat Z else -1
theorem waiZ_I {Z : ZZ} {m : Int} (h : KI Z.1) : KI (waiZ Z m).1 := by
  unfold waiZ
  split
  · exact hrsZ_I _ _ h
  · exact h
set_option maxHeartbeats 1000000 in
theorem c_wai_N {n : Nat} {R : Nat → Nat → Option Nat} {D0 : KK} (hR : RF R) (m : Int) (hm : m ≤ 100) : ∀ (k : Nat) (K D : KK) (b : Int) (B : Nat → Int) (U : UU) (rr l : Int), NWd K b B U D0 D → KI K → 0 ≤ l → 0 ≤ rr → rr ≤ l → l + k = m → XX (XC 6) 17 (XP (some (.inl (rr + hrsR k (K, b, B, U)))) (xS n) R (fun D' => NZ (hrsZ k (K, b, B, U)) D0 D')) 28 [some (.inr (some 27)), some (.inl m), some (.inl rr), some (.inl l)] [] (xS n, R, D) := by
  intro k
  induction k using Nat.strongRecOn with
  | ind k ih =>
  intro K D b B U rr l hW hI h1 h2 h3 hk
  refine xx_iload_n (q := 29) rfl rfl rfl ?_
  refine xx_iload_n (q := 30) rfl rfl rfl ?_
  refine xx_icmp_ge (q := 64) (q2 := 33) rfl rfl rfl (fun h30 => ?_) (fun h30 => ?_)
  · refine xx_iload_n (q := 65) rfl rfl rfl ?_
    obtain rfl : k = 0 := by omega
    exact xx_iret rfl trivial ⟨congrArg (fun z => some (Sum.inl z)) (by show rr = rr + 0; omega), _, rfl, hW⟩
  · obtain ⟨k, rfl⟩ : ∃ k2, k = k2 + 1 := ⟨k - 1, by omega⟩
    refine xx_aload_n (q := 34) rfl rfl rfl ?_
    refine xx_getR (q := 37) rfl rfl rfl (xSc_0 isC_27) (Nat.le_of_ble_eq_true rfl) rfl (hR.1 27 16 rfl) ?_
    refine xx_ifnull (q := 40) rfl rfl ?_
    refine xx_aload_n (q := 41) rfl rfl rfl ?_
    refine xx_getR (q := 44) rfl rfl rfl (xSc_0 isC_27) (Nat.le_of_ble_eq_true rfl) rfl (hR.1 27 16 rfl) ?_
    refine xx_aload_n (q := 45) rfl rfl rfl ?_
    obtain ⟨D1, hx1, hW1⟩ := c_keep (n := n) hR hW hI
    refine xx_callV (q := 48) (As := [_]) (rest := []) rfl rfl rfl (Or.inl rfl) rfl rfl (Nat.le_of_ble_eq_true rfl) xS_86 (XCm hx1 rfl) rfl ?_
    refine xx_aload_n (q := 49) rfl rfl rfl ?_
    obtain ⟨D2, hx2, hW2⟩ := c_hourN (n := n) hR hW1 hI
    have hI2 : KI (hrK K) := hrK_I hI
    refine xx_callV (q := 52) (As := []) (rest := []) rfl rfl rfl (Or.inl rfl) rfl rfl (Nat.le_of_ble_eq_true rfl) (xSc_0 isC_27) (XCm hx2 rfl) rfl ?_
    refine xx_ifb_eq (q := 58) (q2 := 55) rfl rfl rfl (fun h52 => ?_) (fun h52 => ?_)
    · refine xx_incz (q := 61) (loc2 := [_, _, _, _]) rfl rfl rfl (by omega) (by omega) rfl rfl ?_
      refine xx_goto (q := 28) rfl rfl ?_
      have e : rr + hrsR (k + 1) (K, b, B, U) = rr + hrsR k (hrZ (K, b, B, U)) := by show rr + (bi (ranP K) + _) = _; rw [bi_f h52]; omega
      rw [e]
      exact ih k (by omega) _ _ _ _ _ _ _ hW2 hI2 (by omega) (by omega) (by omega) (by omega)
    · refine xx_incz (q := 58) (loc2 := [_, _, _, _]) rfl rfl rfl (by omega) (by omega) rfl rfl ?_
      refine xx_incz (q := 61) (loc2 := [_, _, _, _]) rfl rfl rfl (by omega) (by omega) rfl rfl ?_
      refine xx_goto (q := 28) rfl rfl ?_
      have e : rr + hrsR (k + 1) (K, b, B, U) = rr + 1 + hrsR k (hrZ (K, b, B, U)) := by show rr + (bi (ranP K) + _) = _; rw [bi_t h52]; omega
      rw [e]
      exact ih k (by omega) _ _ _ _ _ _ _ hW2 hI2 (by omega) (by omega) (by omega) (by omega)
set_option maxHeartbeats 1000000 in
theorem c_waitN {n : Nat} {R : Nat → Nat → Option Nat} {D0 D K : KK} {b : Int} {B : Nat → Int} {U : UU} (hR : RF R) (hW : NWd K b B U D0 D) (hI : KI K) (m : Int) : ∃ D', XC 7 17 [.inr (some 27), .inl m] (xS n, R, D) (some (.inl (waiR (K, b, B, U) m))) (xS n, R, D') ∧ NZ (waiZ (K, b, B, U) m) D0 D' := by
  refine XE_of (Nat.le_of_ble_eq_true rfl) (Nat.le_of_ble_eq_true rfl) (loc := [_, _, _, _]) rfl ?_
  refine xx_iload_n (q := 1) rfl rfl rfl ?_
  refine xx_iconst (q := 2) rfl rfl (by decide) ?_
  refine xx_bipush (q := 4) rfl rfl (by decide) ?_
  refine xx_callS (q := 7) (As := [_, _, _]) (rest := []) rfl rfl rfl (Or.inr rfl) rfl rfl (Nat.le_of_ble_eq_true rfl) (XCm (c_within m 1 100) rfl) rfl ?_
  refine xx_ifb_eq (q := 22) (q2 := 10) rfl rfl rfl (fun h7 => ?_) (fun h7 => ?_)
  · refine xx_iconst (q := 23) rfl rfl (by decide) ?_
    refine xx_iret rfl trivial ⟨congrArg (fun z => some (Sum.inl z)) (by exact (if_neg (c := waiP K m) (fun q => h7 q.1)).symm), _, rfl, ?_⟩
    have e : waiZ (K, b, B, U) m = (K, b, B, U) := if_neg (fun q => h7 q.1)
    rw [e]
    exact hW
  · refine xx_aload_n (q := 11) rfl rfl rfl ?_
    refine xx_gez (v := K 0 1) (q := 14) rfl rfl rfl (xSc_0 isC_27) (Nat.le_of_ble_eq_true rfl) rfl (hW.1 0 1 (Nat.le_of_ble_eq_true rfl)) ?_
    refine xx_iload_n (q := 15) rfl rfl rfl ?_
    refine xx_iadd (q := 16) rfl rfl ?_
    refine xx_sipush (q := 19) rfl rfl (by decide) ?_
    refine xx_icmp_le (q := 24) (q2 := 22) rfl rfl rfl (fun h19 => ?_) (fun h19 => ?_)
    · refine xx_iconst (q := 25) rfl rfl (by decide) ?_
      refine xx_istore_n (q := 26) (loc2 := [_, _, _, _]) rfl rfl (Nat.le_of_ble_eq_true rfl) rfl ?_
      refine xx_iconst (q := 27) rfl rfl (by decide) ?_
      refine xx_istore_n (q := 28) (loc2 := [_, _, _, _]) rfl rfl (Nat.le_of_ble_eq_true rfl) rfl ?_
      have e : waiZ (K, b, B, U) m = hrsZ m.toNat (K, b, B, U) := if_pos ⟨h7, h19⟩
      have e2 : waiR (K, b, B, U) m = 0 + hrsR m.toNat (K, b, B, U) := (if_pos (c := waiP K m) ⟨h7, h19⟩).trans (by omega)
      rw [e, e2]
      exact c_wai_N hR m (by omega) m.toNat K D b B U 0 0 hW hI (by omega) (by omega) (by omega) (by omega)
    · refine xx_iconst (q := 23) rfl rfl (by decide) ?_
      refine xx_iret rfl trivial ⟨congrArg (fun z => some (Sum.inl z)) (by exact (if_neg (c := waiP K m) (fun q => h19 q.2)).symm), _, rfl, ?_⟩
      have e : waiZ (K, b, B, U) m = (K, b, B, U) := if_neg (fun q => h19 q.2)
      rw [e]
      exact hW
def pasb (K : KK) (G : LwF) (boat up wth b : Int) : Int := if refF K G boat up wth = 0 then notb b else b
def pasB (K : KK) (G : LwF) (boat up wth b : Int) (B : Nat → Int) : Nat → Int := if refF K G boat up wth = 0 then notB b B (K 0 1) 0 (lckF K (K 14 boat.toNat) up) boat (K 2 (lckF K (K 14 boat.toNat) up).toNat) else B
def pasU (K : KK) (G : LwF) (boat up wth b : Int) (U : UU) : UU := if refF K G boat up wth = 0 then kepU K b U else U
theorem pasK_h {K : KK} {boat up wth : Int} : pasK K boat up wth 0 1 = K 0 1 := by
  unfold pasK
  rw [xui_a (by decide)]
  split
  · rw [xui_a (by decide)]; exact flowF_k (by decide) (by omega)
  · rw [xui_a (by decide), xui_a (by decide)]; exact flowF_k (by decide) (by omega)
set_option maxHeartbeats 1000000 in
theorem c_passN {n : Nat} {R : Nat → Nat → Option Nat} {D0 D K : KK} {b : Int} {B : Nat → Int} {U : UU} (hR : RF R) (hW : NWd K b B U D0 D) (hI : KI K) {G : LwF} (hG : LwG G n R D0) (boat up wth : Int) : ∃ D', XC 5 14 [.inr (some 27), .inl boat, .inl up, .inl wth] (xS n, R, D) (some (.inl (pasR K G boat up wth))) (xS n, R, D') ∧ NWd (pasT K G boat up wth) (pasb K G boat up wth b) (pasB K G boat up wth b B) (pasU K G boat up wth b U) D0 D' := by
  refine XE_of (Nat.le_of_ble_eq_true rfl) (Nat.le_of_ble_eq_true rfl) (loc := [_, _, _, _, _, _, _]) rfl ?_
  refine xx_aload_n (q := 1) rfl rfl rfl ?_
  refine xx_iload_n (q := 2) rfl rfl rfl ?_
  refine xx_iload_n (q := 3) rfl rfl rfl ?_
  refine xx_iload_n (q := 4) rfl rfl rfl ?_
  obtain ⟨D1, hx1, hK1, hG1⟩ := c_refusal (n := n) hR isN_27 hW.1 hI (LwG.fn hG hW.2.2.2) boat up wth
  have hW1 := NWd.fr hW hK1 hG1
  refine xx_callV (q := 7) (As := [_, _, _]) (rest := []) rfl rfl rfl (Or.inl rfl) rfl rfl (Nat.le_of_ble_eq_true rfl) (xSc_0 isC_27) (XCm hx1 rfl) rfl ?_
  refine xx_istore (q := 9) (loc2 := [_, _, _, _, _, _, _]) rfl rfl (Nat.le_of_ble_eq_true rfl) rfl ?_
  refine xx_iload (q := 11) rfl rfl rfl ?_
  refine xx_if_eq (q := 17) (q2 := 14) rfl rfl rfl (fun h11 => ?_) (fun h11 => ?_)
  · have hr0 := refF_0 h11
    have hbB := ki_B hI
    have hbL := ki_L hI
    refine xx_aload_n (q := 18) rfl rfl rfl ?_
    refine xx_getR (q := 21) rfl rfl rfl (xSc_0 isC_27) (Nat.le_of_ble_eq_true rfl) rfl (hR.1 27 16 rfl) ?_
    refine xx_ifnull (q := 24) rfl rfl ?_
    refine xx_aload_n (q := 25) rfl rfl rfl ?_
    refine xx_getR (q := 28) rfl rfl rfl (xSc_0 isC_27) (Nat.le_of_ble_eq_true rfl) rfl (hR.1 27 16 rfl) ?_
    refine xx_aload_n (q := 29) rfl rfl rfl ?_
    obtain ⟨D2, hx2, hW2⟩ := c_keep (n := n) hR hW1 hI
    refine xx_callV (q := 32) (As := [_]) (rest := []) rfl rfl rfl (Or.inl rfl) rfl rfl (Nat.le_of_ble_eq_true rfl) xS_86 (XCm hx2 rfl) rfl ?_
    refine xx_aload_n (q := 33) rfl rfl rfl ?_
    refine xx_aload_n (q := 34) rfl rfl rfl ?_
    refine xx_getR (q := 37) rfl rfl rfl (xSc_0 isC_27) (Nat.le_of_ble_eq_true rfl) rfl (rc_fleet hR isC_27) ?_
    refine xx_getR (q := 40) rfl rfl rfl (xSc_13 isC_27) (Nat.le_of_ble_eq_true rfl) rfl (rc_where hR isC_27) ?_
    refine xx_iload_n (q := 41) rfl rfl rfl ?_
    refine xx_iaz (v := K 14 (boat).toNat) (q := 42) rfl rfl (xSc_14 isC_27) (by omega) (by omega) (ck_w hW2.1 (by omega) (by omega)) ?_
    have hb3 : 0 ≤ K 14 (boat).toNat ∧ K 14 (boat).toNat ≤ 9 := by have h := ki_14 hI (boat).toNat; exact h
    refine xx_iload_n (q := 43) rfl rfl rfl ?_
    refine xx_callV (q := 46) (As := [_, _]) (rest := []) rfl rfl rfl (Or.inl rfl) rfl rfl (Nat.le_of_ble_eq_true rfl) (xSc_0 isC_27) (XCm (c_lockOnWay hR isC_27 hW2.1 hI (K 14 (boat).toNat) up (by omega) (by omega)) rfl) rfl ?_
    have hb4 := lckF_b K (K 14 (boat).toNat) up
    refine xx_istore (q := 48) (loc2 := [_, _, _, _, _, _, _]) rfl rfl (Nat.le_of_ble_eq_true rfl) rfl ?_
    refine xx_iload_n (q := 49) rfl rfl rfl ?_
    refine xx_if_eq (q := 57) (q2 := 52) rfl rfl rfl (fun h49 => ?_) (fun h49 => ?_)
    · refine xx_iload (q := 59) rfl rfl rfl ?_
      refine xx_iconst (q := 60) rfl rfl (by decide) ?_
      refine xx_iaddR (q := 61) rfl rfl (by omega) (by omega) ?_
      refine xx_istore (q := 63) (loc2 := [_, _, _, _, _, _, _]) rfl rfl (Nat.le_of_ble_eq_true rfl) rfl ?_
      refine xx_aload_n (q := 64) rfl rfl rfl ?_
      refine xx_iload (q := 66) rfl rfl rfl ?_
      refine xx_aload_n (q := 67) rfl rfl rfl ?_
      refine xx_getR (q := 70) rfl rfl rfl (xSc_0 isC_27) (Nat.le_of_ble_eq_true rfl) rfl (rc_fill hR isC_27) ?_
      refine xx_iload (q := 72) rfl rfl rfl ?_
      refine xx_iaz (v := K 2 (lckF K (K 14 (boat).toNat) up).toNat) (q := 73) rfl rfl (xSc_2 isC_27) (by omega) (by omega) (ck_a hW2.1 (o := 2) (N := 9) rfl (by omega) (by omega)) ?_
      have hb5 : 1 ≤ K 2 (lckF K (K 14 (boat).toNat) up).toNat ∧ K 2 (lckF K (K 14 (boat).toNat) up).toNat ≤ 50 := by have h := ki_2 hI (lckF K (K 14 (boat).toNat) up).toNat; exact h
      obtain ⟨D6, hx6, hK6, hG6⟩ := c_flow (n := n) hR isC_27 hW2.1 hI (lckF K (K 14 (boat).toNat) up) (K 2 (lckF K (K 14 (boat).toNat) up).toNat) (by omega) (by omega) (by omega) (by omega) (by omega)
      have hW6 := NWd.fr hW2 hK6 hG6
      have hI6 : KI (flowF K (lckF K (K 14 (boat).toNat) up) (K 2 (lckF K (K 14 (boat).toNat) up).toNat)) := flowF_I hI (by omega) (by omega)
      refine xx_callV (q := 76) (As := [_, _]) (rest := []) rfl rfl rfl (Or.inl rfl) rfl rfl (Nat.le_of_ble_eq_true rfl) (xSc_0 isC_27) (XCm hx6 rfl) rfl ?_
      refine xx_aload_n (q := 77) rfl rfl rfl ?_
      refine xx_getR (q := 80) rfl rfl rfl (xSc_0 isC_27) (Nat.le_of_ble_eq_true rfl) rfl (rc_fleet hR isC_27) ?_
      refine xx_getR (q := 83) rfl rfl rfl (xSc_13 isC_27) (Nat.le_of_ble_eq_true rfl) rfl (rc_where hR isC_27) ?_
      refine xx_iload_n (q := 84) rfl rfl rfl ?_
      refine xx_iload (q := 86) rfl rfl rfl ?_
      refine xn_isz (o := 14) hW6 (q := 87) rfl rfl (xSc_14 isC_27) (by decide) (by decide) (by omega) (by omega) (fun D7 hW7 => ?_)
      have hs7 : (xui (flowF K (lckF K (K 14 (boat).toNat) up) (K 2 (lckF K (K 14 (boat).toNat) up).toNat)) 14 (boat).toNat ((lckF K (K 14 (boat).toNat) up) + 1)) 14 (boat).toNat = ((lckF K (K 14 (boat).toNat) up) + 1) := xui_s
      have hI7 : KI (xui (flowF K (lckF K (K 14 (boat).toNat) up) (K 2 (lckF K (K 14 (boat).toNat) up).toNat)) 14 (boat).toNat ((lckF K (K 14 (boat).toNat) up) + 1)) := KI_up hI6 (show (0 : Int) ≤ _ by omega) (show _ ≤ (9 : Int) by omega)
      refine xx_iload_n (q := 88) rfl rfl rfl ?_
      refine xx_iconst (q := 89) rfl rfl (by decide) ?_
      refine xx_icmp_eq (q := 103) (q2 := 92) rfl rfl rfl (fun h89 => ?_) (fun h89 => ?_)
      · refine xx_aload_n (q := 104) rfl rfl rfl ?_
        refine xx_getR (q := 107) rfl rfl rfl (xSc_0 isC_27) (Nat.le_of_ble_eq_true rfl) rfl (rc_passes hR isC_27) ?_
        refine xx_iload (q := 109) rfl rfl rfl ?_
        refine xx_dup2 (q := 110) rfl rfl ?_
        refine xx_iaz (v := K 5 (lckF K (K 14 (boat).toNat) up).toNat) (q := 111) rfl rfl (xSc_5 isC_27) (by omega) (by omega) ((ck_a hW7.1 (o := 5) (N := 9) rfl (by omega) (by omega)).trans (flowF_k (by decide) (by omega))) ?_
        have hb8 : -2147483648 ≤ K 5 (lckF K (K 14 (boat).toNat) up).toNat ∧ K 5 (lckF K (K 14 (boat).toNat) up).toNat ≤ 2147483647 := by rw [← show (xui (flowF K (lckF K (K 14 (boat).toNat) up) (K 2 (lckF K (K 14 (boat).toNat) up).toNat)) 14 (boat).toNat ((lckF K (K 14 (boat).toNat) up) + 1)) 5 (lckF K (K 14 (boat).toNat) up).toNat = K 5 (lckF K (K 14 (boat).toNat) up).toNat from flowF_k (by decide) (by omega)]; exact ki_5 hI7 (lckF K (K 14 (boat).toNat) up).toNat
        refine xx_iconst (q := 112) rfl rfl (by decide) ?_
        refine xx_iadd (q := 113) rfl rfl ?_
        refine xn_isz (o := 5) hW7 (q := 114) rfl rfl (xSc_5 isC_27) (by decide) (by decide) (by omega) (by omega) (fun D9 hW9 => ?_)
        have hs9 : (xui (xui (flowF K (lckF K (K 14 (boat).toNat) up) (K 2 (lckF K (K 14 (boat).toNat) up).toNat)) 14 (boat).toNat ((lckF K (K 14 (boat).toNat) up) + 1)) 5 (lckF K (K 14 (boat).toNat) up).toNat (nrm ((K 5 (lckF K (K 14 (boat).toNat) up).toNat) + 1))) 5 (lckF K (K 14 (boat).toNat) up).toNat = (nrm ((K 5 (lckF K (K 14 (boat).toNat) up).toNat) + 1)) := xui_s
        have hI9 : KI (xui (xui (flowF K (lckF K (K 14 (boat).toNat) up) (K 2 (lckF K (K 14 (boat).toNat) up).toNat)) 14 (boat).toNat ((lckF K (K 14 (boat).toNat) up) + 1)) 5 (lckF K (K 14 (boat).toNat) up).toNat (nrm ((K 5 (lckF K (K 14 (boat).toNat) up).toNat) + 1))) := KI_up hI7 (nrm_lo _) (nrm_hi _)
        refine xx_aload_n (q := 115) rfl rfl rfl ?_
        refine xx_iconst (q := 116) rfl rfl (by decide) ?_
        refine xx_iload (q := 118) rfl rfl rfl ?_
        refine xx_iload_n (q := 119) rfl rfl rfl ?_
        refine xx_aload_n (q := 120) rfl rfl rfl ?_
        refine xx_getR (q := 123) rfl rfl rfl (xSc_0 isC_27) (Nat.le_of_ble_eq_true rfl) rfl (rc_fill hR isC_27) ?_
        refine xx_iload (q := 125) rfl rfl rfl ?_
        refine xx_iaz (v := K 2 (lckF K (K 14 (boat).toNat) up).toNat) (q := 126) rfl rfl (xSc_2 isC_27) (by omega) (by omega) ((ck_a hW9.1 (o := 2) (N := 9) rfl (by omega) (by omega)).trans (flowF_k (by decide) (by omega))) ?_
        have hb10 : 1 ≤ K 2 (lckF K (K 14 (boat).toNat) up).toNat ∧ K 2 (lckF K (K 14 (boat).toNat) up).toNat ≤ 50 := by rw [← show (xui (xui (flowF K (lckF K (K 14 (boat).toNat) up) (K 2 (lckF K (K 14 (boat).toNat) up).toNat)) 14 (boat).toNat ((lckF K (K 14 (boat).toNat) up) + 1)) 5 (lckF K (K 14 (boat).toNat) up).toNat (nrm ((K 5 (lckF K (K 14 (boat).toNat) up).toNat) + 1))) 2 (lckF K (K 14 (boat).toNat) up).toNat = K 2 (lckF K (K 14 (boat).toNat) up).toNat from flowF_k (by decide) (by omega)]; exact ki_2 hI9 (lckF K (K 14 (boat).toNat) up).toNat
        obtain ⟨D11, hx11, hW11⟩ := c_noteN (n := n) hR hW9 hI9 0 (lckF K (K 14 (boat).toNat) up) boat (K 2 (lckF K (K 14 (boat).toNat) up).toNat)
        refine xx_callV (q := 129) (As := [_, _, _, _]) (rest := []) rfl rfl rfl (Or.inl rfl) rfl rfl (Nat.le_of_ble_eq_true rfl) (xSc_0 isC_27) (XCm hx11 rfl) rfl ?_
        refine xx_iload (q := 131) rfl rfl rfl ?_
        refine xx_iret rfl trivial ⟨congrArg (fun z => some (Sum.inl z)) (by unfold pasR; first | rw [if_neg h11] | rw [if_pos h11]), _, rfl, ?_⟩
        unfold pasT pasb pasB pasU
        rw [if_pos h11, if_pos h11, if_pos h11, if_pos h11]
        have e : pasK K boat up wth = (xui (xui (flowF K (lckF K (K 14 (boat).toNat) up) (K 2 (lckF K (K 14 (boat).toNat) up).toNat)) 14 (boat).toNat ((lckF K (K 14 (boat).toNat) up) + 1)) 5 (lckF K (K 14 (boat).toNat) up).toNat (nrm ((K 5 (lckF K (K 14 (boat).toNat) up).toNat) + 1))) := by unfold pasK; simp only [*, if_true, if_false, reduceIte]
        have e2 : (xui (xui (flowF K (lckF K (K 14 (boat).toNat) up) (K 2 (lckF K (K 14 (boat).toNat) up).toNat)) 14 (boat).toNat ((lckF K (K 14 (boat).toNat) up) + 1)) 5 (lckF K (K 14 (boat).toNat) up).toNat (nrm ((K 5 (lckF K (K 14 (boat).toNat) up).toNat) + 1))) 0 1 = K 0 1 := by rw [← e]; exact pasK_h
        rw [e, ← e2]
        exact hW11
      · refine xx_aload_n (q := 93) rfl rfl rfl ?_
        refine xx_getR (q := 96) rfl rfl rfl (xSc_0 isC_27) (Nat.le_of_ble_eq_true rfl) rfl (rc_fleet hR isC_27) ?_
        refine xx_getR (q := 99) rfl rfl rfl (xSc_13 isC_27) (Nat.le_of_ble_eq_true rfl) rfl (rc_where hR isC_27) ?_
        refine xx_iload_n (q := 100) rfl rfl rfl ?_
        refine xx_iload (q := 102) rfl rfl rfl ?_
        refine xn_isz (o := 14) hW7 (q := 103) rfl rfl (xSc_14 isC_27) (by decide) (by decide) (by omega) (by omega) (fun D12 hW12 => ?_)
        have hs12 : (xui (xui (flowF K (lckF K (K 14 (boat).toNat) up) (K 2 (lckF K (K 14 (boat).toNat) up).toNat)) 14 (boat).toNat ((lckF K (K 14 (boat).toNat) up) + 1)) 14 (wth).toNat ((lckF K (K 14 (boat).toNat) up) + 1)) 14 (wth).toNat = ((lckF K (K 14 (boat).toNat) up) + 1) := xui_s
        have hI12 : KI (xui (xui (flowF K (lckF K (K 14 (boat).toNat) up) (K 2 (lckF K (K 14 (boat).toNat) up).toNat)) 14 (boat).toNat ((lckF K (K 14 (boat).toNat) up) + 1)) 14 (wth).toNat ((lckF K (K 14 (boat).toNat) up) + 1)) := KI_up hI7 (show (0 : Int) ≤ _ by omega) (show _ ≤ (9 : Int) by omega)
        refine xx_aload_n (q := 104) rfl rfl rfl ?_
        refine xx_getR (q := 107) rfl rfl rfl (xSc_0 isC_27) (Nat.le_of_ble_eq_true rfl) rfl (rc_passes hR isC_27) ?_
        refine xx_iload (q := 109) rfl rfl rfl ?_
        refine xx_dup2 (q := 110) rfl rfl ?_
        refine xx_iaz (v := K 5 (lckF K (K 14 (boat).toNat) up).toNat) (q := 111) rfl rfl (xSc_5 isC_27) (by omega) (by omega) ((ck_a hW12.1 (o := 5) (N := 9) rfl (by omega) (by omega)).trans (flowF_k (by decide) (by omega))) ?_
        have hb13 : -2147483648 ≤ K 5 (lckF K (K 14 (boat).toNat) up).toNat ∧ K 5 (lckF K (K 14 (boat).toNat) up).toNat ≤ 2147483647 := by rw [← show (xui (xui (flowF K (lckF K (K 14 (boat).toNat) up) (K 2 (lckF K (K 14 (boat).toNat) up).toNat)) 14 (boat).toNat ((lckF K (K 14 (boat).toNat) up) + 1)) 14 (wth).toNat ((lckF K (K 14 (boat).toNat) up) + 1)) 5 (lckF K (K 14 (boat).toNat) up).toNat = K 5 (lckF K (K 14 (boat).toNat) up).toNat from flowF_k (by decide) (by omega)]; exact ki_5 hI12 (lckF K (K 14 (boat).toNat) up).toNat
        refine xx_iconst (q := 112) rfl rfl (by decide) ?_
        refine xx_iadd (q := 113) rfl rfl ?_
        refine xn_isz (o := 5) hW12 (q := 114) rfl rfl (xSc_5 isC_27) (by decide) (by decide) (by omega) (by omega) (fun D14 hW14 => ?_)
        have hs14 : (xui (xui (xui (flowF K (lckF K (K 14 (boat).toNat) up) (K 2 (lckF K (K 14 (boat).toNat) up).toNat)) 14 (boat).toNat ((lckF K (K 14 (boat).toNat) up) + 1)) 14 (wth).toNat ((lckF K (K 14 (boat).toNat) up) + 1)) 5 (lckF K (K 14 (boat).toNat) up).toNat (nrm ((K 5 (lckF K (K 14 (boat).toNat) up).toNat) + 1))) 5 (lckF K (K 14 (boat).toNat) up).toNat = (nrm ((K 5 (lckF K (K 14 (boat).toNat) up).toNat) + 1)) := xui_s
        have hI14 : KI (xui (xui (xui (flowF K (lckF K (K 14 (boat).toNat) up) (K 2 (lckF K (K 14 (boat).toNat) up).toNat)) 14 (boat).toNat ((lckF K (K 14 (boat).toNat) up) + 1)) 14 (wth).toNat ((lckF K (K 14 (boat).toNat) up) + 1)) 5 (lckF K (K 14 (boat).toNat) up).toNat (nrm ((K 5 (lckF K (K 14 (boat).toNat) up).toNat) + 1))) := KI_up hI12 (nrm_lo _) (nrm_hi _)
        refine xx_aload_n (q := 115) rfl rfl rfl ?_
        refine xx_iconst (q := 116) rfl rfl (by decide) ?_
        refine xx_iload (q := 118) rfl rfl rfl ?_
        refine xx_iload_n (q := 119) rfl rfl rfl ?_
        refine xx_aload_n (q := 120) rfl rfl rfl ?_
        refine xx_getR (q := 123) rfl rfl rfl (xSc_0 isC_27) (Nat.le_of_ble_eq_true rfl) rfl (rc_fill hR isC_27) ?_
        refine xx_iload (q := 125) rfl rfl rfl ?_
        refine xx_iaz (v := K 2 (lckF K (K 14 (boat).toNat) up).toNat) (q := 126) rfl rfl (xSc_2 isC_27) (by omega) (by omega) ((ck_a hW14.1 (o := 2) (N := 9) rfl (by omega) (by omega)).trans (flowF_k (by decide) (by omega))) ?_
        have hb15 : 1 ≤ K 2 (lckF K (K 14 (boat).toNat) up).toNat ∧ K 2 (lckF K (K 14 (boat).toNat) up).toNat ≤ 50 := by rw [← show (xui (xui (xui (flowF K (lckF K (K 14 (boat).toNat) up) (K 2 (lckF K (K 14 (boat).toNat) up).toNat)) 14 (boat).toNat ((lckF K (K 14 (boat).toNat) up) + 1)) 14 (wth).toNat ((lckF K (K 14 (boat).toNat) up) + 1)) 5 (lckF K (K 14 (boat).toNat) up).toNat (nrm ((K 5 (lckF K (K 14 (boat).toNat) up).toNat) + 1))) 2 (lckF K (K 14 (boat).toNat) up).toNat = K 2 (lckF K (K 14 (boat).toNat) up).toNat from flowF_k (by decide) (by omega)]; exact ki_2 hI14 (lckF K (K 14 (boat).toNat) up).toNat
        obtain ⟨D16, hx16, hW16⟩ := c_noteN (n := n) hR hW14 hI14 0 (lckF K (K 14 (boat).toNat) up) boat (K 2 (lckF K (K 14 (boat).toNat) up).toNat)
        refine xx_callV (q := 129) (As := [_, _, _, _]) (rest := []) rfl rfl rfl (Or.inl rfl) rfl rfl (Nat.le_of_ble_eq_true rfl) (xSc_0 isC_27) (XCm hx16 rfl) rfl ?_
        refine xx_iload (q := 131) rfl rfl rfl ?_
        refine xx_iret rfl trivial ⟨congrArg (fun z => some (Sum.inl z)) (by unfold pasR; first | rw [if_neg h11] | rw [if_pos h11]), _, rfl, ?_⟩
        unfold pasT pasb pasB pasU
        rw [if_pos h11, if_pos h11, if_pos h11, if_pos h11]
        have e : pasK K boat up wth = (xui (xui (xui (flowF K (lckF K (K 14 (boat).toNat) up) (K 2 (lckF K (K 14 (boat).toNat) up).toNat)) 14 (boat).toNat ((lckF K (K 14 (boat).toNat) up) + 1)) 14 (wth).toNat ((lckF K (K 14 (boat).toNat) up) + 1)) 5 (lckF K (K 14 (boat).toNat) up).toNat (nrm ((K 5 (lckF K (K 14 (boat).toNat) up).toNat) + 1))) := by unfold pasK; simp only [*, if_true, if_false, reduceIte]
        have e2 : (xui (xui (xui (flowF K (lckF K (K 14 (boat).toNat) up) (K 2 (lckF K (K 14 (boat).toNat) up).toNat)) 14 (boat).toNat ((lckF K (K 14 (boat).toNat) up) + 1)) 14 (wth).toNat ((lckF K (K 14 (boat).toNat) up) + 1)) 5 (lckF K (K 14 (boat).toNat) up).toNat (nrm ((K 5 (lckF K (K 14 (boat).toNat) up).toNat) + 1))) 0 1 = K 0 1 := by rw [← e]; exact pasK_h
        rw [e, ← e2]
        exact hW16
    · refine xx_iload (q := 54) rfl rfl rfl ?_
      refine xx_goto (q := 61) rfl rfl ?_
      refine xx_istore (q := 63) (loc2 := [_, _, _, _, _, _, _]) rfl rfl (Nat.le_of_ble_eq_true rfl) rfl ?_
      refine xx_aload_n (q := 64) rfl rfl rfl ?_
      refine xx_iload (q := 66) rfl rfl rfl ?_
      refine xx_aload_n (q := 67) rfl rfl rfl ?_
      refine xx_getR (q := 70) rfl rfl rfl (xSc_0 isC_27) (Nat.le_of_ble_eq_true rfl) rfl (rc_fill hR isC_27) ?_
      refine xx_iload (q := 72) rfl rfl rfl ?_
      refine xx_iaz (v := K 2 (lckF K (K 14 (boat).toNat) up).toNat) (q := 73) rfl rfl (xSc_2 isC_27) (by omega) (by omega) (ck_a hW2.1 (o := 2) (N := 9) rfl (by omega) (by omega)) ?_
      have hb17 : 1 ≤ K 2 (lckF K (K 14 (boat).toNat) up).toNat ∧ K 2 (lckF K (K 14 (boat).toNat) up).toNat ≤ 50 := by have h := ki_2 hI (lckF K (K 14 (boat).toNat) up).toNat; exact h
      obtain ⟨D18, hx18, hK18, hG18⟩ := c_flow (n := n) hR isC_27 hW2.1 hI (lckF K (K 14 (boat).toNat) up) (K 2 (lckF K (K 14 (boat).toNat) up).toNat) (by omega) (by omega) (by omega) (by omega) (by omega)
      have hW18 := NWd.fr hW2 hK18 hG18
      have hI18 : KI (flowF K (lckF K (K 14 (boat).toNat) up) (K 2 (lckF K (K 14 (boat).toNat) up).toNat)) := flowF_I hI (by omega) (by omega)
      refine xx_callV (q := 76) (As := [_, _]) (rest := []) rfl rfl rfl (Or.inl rfl) rfl rfl (Nat.le_of_ble_eq_true rfl) (xSc_0 isC_27) (XCm hx18 rfl) rfl ?_
      refine xx_aload_n (q := 77) rfl rfl rfl ?_
      refine xx_getR (q := 80) rfl rfl rfl (xSc_0 isC_27) (Nat.le_of_ble_eq_true rfl) rfl (rc_fleet hR isC_27) ?_
      refine xx_getR (q := 83) rfl rfl rfl (xSc_13 isC_27) (Nat.le_of_ble_eq_true rfl) rfl (rc_where hR isC_27) ?_
      refine xx_iload_n (q := 84) rfl rfl rfl ?_
      refine xx_iload (q := 86) rfl rfl rfl ?_
      refine xn_isz (o := 14) hW18 (q := 87) rfl rfl (xSc_14 isC_27) (by decide) (by decide) (by omega) (by omega) (fun D19 hW19 => ?_)
      have hs19 : (xui (flowF K (lckF K (K 14 (boat).toNat) up) (K 2 (lckF K (K 14 (boat).toNat) up).toNat)) 14 (boat).toNat (lckF K (K 14 (boat).toNat) up)) 14 (boat).toNat = (lckF K (K 14 (boat).toNat) up) := xui_s
      have hI19 : KI (xui (flowF K (lckF K (K 14 (boat).toNat) up) (K 2 (lckF K (K 14 (boat).toNat) up).toNat)) 14 (boat).toNat (lckF K (K 14 (boat).toNat) up)) := KI_up hI18 (show (0 : Int) ≤ _ by omega) (show _ ≤ (9 : Int) by omega)
      refine xx_iload_n (q := 88) rfl rfl rfl ?_
      refine xx_iconst (q := 89) rfl rfl (by decide) ?_
      refine xx_icmp_eq (q := 103) (q2 := 92) rfl rfl rfl (fun h89 => ?_) (fun h89 => ?_)
      · refine xx_aload_n (q := 104) rfl rfl rfl ?_
        refine xx_getR (q := 107) rfl rfl rfl (xSc_0 isC_27) (Nat.le_of_ble_eq_true rfl) rfl (rc_passes hR isC_27) ?_
        refine xx_iload (q := 109) rfl rfl rfl ?_
        refine xx_dup2 (q := 110) rfl rfl ?_
        refine xx_iaz (v := K 5 (lckF K (K 14 (boat).toNat) up).toNat) (q := 111) rfl rfl (xSc_5 isC_27) (by omega) (by omega) ((ck_a hW19.1 (o := 5) (N := 9) rfl (by omega) (by omega)).trans (flowF_k (by decide) (by omega))) ?_
        have hb20 : -2147483648 ≤ K 5 (lckF K (K 14 (boat).toNat) up).toNat ∧ K 5 (lckF K (K 14 (boat).toNat) up).toNat ≤ 2147483647 := by rw [← show (xui (flowF K (lckF K (K 14 (boat).toNat) up) (K 2 (lckF K (K 14 (boat).toNat) up).toNat)) 14 (boat).toNat (lckF K (K 14 (boat).toNat) up)) 5 (lckF K (K 14 (boat).toNat) up).toNat = K 5 (lckF K (K 14 (boat).toNat) up).toNat from flowF_k (by decide) (by omega)]; exact ki_5 hI19 (lckF K (K 14 (boat).toNat) up).toNat
        refine xx_iconst (q := 112) rfl rfl (by decide) ?_
        refine xx_iadd (q := 113) rfl rfl ?_
        refine xn_isz (o := 5) hW19 (q := 114) rfl rfl (xSc_5 isC_27) (by decide) (by decide) (by omega) (by omega) (fun D21 hW21 => ?_)
        have hs21 : (xui (xui (flowF K (lckF K (K 14 (boat).toNat) up) (K 2 (lckF K (K 14 (boat).toNat) up).toNat)) 14 (boat).toNat (lckF K (K 14 (boat).toNat) up)) 5 (lckF K (K 14 (boat).toNat) up).toNat (nrm ((K 5 (lckF K (K 14 (boat).toNat) up).toNat) + 1))) 5 (lckF K (K 14 (boat).toNat) up).toNat = (nrm ((K 5 (lckF K (K 14 (boat).toNat) up).toNat) + 1)) := xui_s
        have hI21 : KI (xui (xui (flowF K (lckF K (K 14 (boat).toNat) up) (K 2 (lckF K (K 14 (boat).toNat) up).toNat)) 14 (boat).toNat (lckF K (K 14 (boat).toNat) up)) 5 (lckF K (K 14 (boat).toNat) up).toNat (nrm ((K 5 (lckF K (K 14 (boat).toNat) up).toNat) + 1))) := KI_up hI19 (nrm_lo _) (nrm_hi _)
        refine xx_aload_n (q := 115) rfl rfl rfl ?_
        refine xx_iconst (q := 116) rfl rfl (by decide) ?_
        refine xx_iload (q := 118) rfl rfl rfl ?_
        refine xx_iload_n (q := 119) rfl rfl rfl ?_
        refine xx_aload_n (q := 120) rfl rfl rfl ?_
        refine xx_getR (q := 123) rfl rfl rfl (xSc_0 isC_27) (Nat.le_of_ble_eq_true rfl) rfl (rc_fill hR isC_27) ?_
        refine xx_iload (q := 125) rfl rfl rfl ?_
        refine xx_iaz (v := K 2 (lckF K (K 14 (boat).toNat) up).toNat) (q := 126) rfl rfl (xSc_2 isC_27) (by omega) (by omega) ((ck_a hW21.1 (o := 2) (N := 9) rfl (by omega) (by omega)).trans (flowF_k (by decide) (by omega))) ?_
        have hb22 : 1 ≤ K 2 (lckF K (K 14 (boat).toNat) up).toNat ∧ K 2 (lckF K (K 14 (boat).toNat) up).toNat ≤ 50 := by rw [← show (xui (xui (flowF K (lckF K (K 14 (boat).toNat) up) (K 2 (lckF K (K 14 (boat).toNat) up).toNat)) 14 (boat).toNat (lckF K (K 14 (boat).toNat) up)) 5 (lckF K (K 14 (boat).toNat) up).toNat (nrm ((K 5 (lckF K (K 14 (boat).toNat) up).toNat) + 1))) 2 (lckF K (K 14 (boat).toNat) up).toNat = K 2 (lckF K (K 14 (boat).toNat) up).toNat from flowF_k (by decide) (by omega)]; exact ki_2 hI21 (lckF K (K 14 (boat).toNat) up).toNat
        obtain ⟨D23, hx23, hW23⟩ := c_noteN (n := n) hR hW21 hI21 0 (lckF K (K 14 (boat).toNat) up) boat (K 2 (lckF K (K 14 (boat).toNat) up).toNat)
        refine xx_callV (q := 129) (As := [_, _, _, _]) (rest := []) rfl rfl rfl (Or.inl rfl) rfl rfl (Nat.le_of_ble_eq_true rfl) (xSc_0 isC_27) (XCm hx23 rfl) rfl ?_
        refine xx_iload (q := 131) rfl rfl rfl ?_
        refine xx_iret rfl trivial ⟨congrArg (fun z => some (Sum.inl z)) (by unfold pasR; first | rw [if_neg h11] | rw [if_pos h11]), _, rfl, ?_⟩
        unfold pasT pasb pasB pasU
        rw [if_pos h11, if_pos h11, if_pos h11, if_pos h11]
        have e : pasK K boat up wth = (xui (xui (flowF K (lckF K (K 14 (boat).toNat) up) (K 2 (lckF K (K 14 (boat).toNat) up).toNat)) 14 (boat).toNat (lckF K (K 14 (boat).toNat) up)) 5 (lckF K (K 14 (boat).toNat) up).toNat (nrm ((K 5 (lckF K (K 14 (boat).toNat) up).toNat) + 1))) := by unfold pasK; simp only [*, if_true, if_false, reduceIte]
        have e2 : (xui (xui (flowF K (lckF K (K 14 (boat).toNat) up) (K 2 (lckF K (K 14 (boat).toNat) up).toNat)) 14 (boat).toNat (lckF K (K 14 (boat).toNat) up)) 5 (lckF K (K 14 (boat).toNat) up).toNat (nrm ((K 5 (lckF K (K 14 (boat).toNat) up).toNat) + 1))) 0 1 = K 0 1 := by rw [← e]; exact pasK_h
        rw [e, ← e2]
        exact hW23
      · refine xx_aload_n (q := 93) rfl rfl rfl ?_
        refine xx_getR (q := 96) rfl rfl rfl (xSc_0 isC_27) (Nat.le_of_ble_eq_true rfl) rfl (rc_fleet hR isC_27) ?_
        refine xx_getR (q := 99) rfl rfl rfl (xSc_13 isC_27) (Nat.le_of_ble_eq_true rfl) rfl (rc_where hR isC_27) ?_
        refine xx_iload_n (q := 100) rfl rfl rfl ?_
        refine xx_iload (q := 102) rfl rfl rfl ?_
        refine xn_isz (o := 14) hW19 (q := 103) rfl rfl (xSc_14 isC_27) (by decide) (by decide) (by omega) (by omega) (fun D24 hW24 => ?_)
        have hs24 : (xui (xui (flowF K (lckF K (K 14 (boat).toNat) up) (K 2 (lckF K (K 14 (boat).toNat) up).toNat)) 14 (boat).toNat (lckF K (K 14 (boat).toNat) up)) 14 (wth).toNat (lckF K (K 14 (boat).toNat) up)) 14 (wth).toNat = (lckF K (K 14 (boat).toNat) up) := xui_s
        have hI24 : KI (xui (xui (flowF K (lckF K (K 14 (boat).toNat) up) (K 2 (lckF K (K 14 (boat).toNat) up).toNat)) 14 (boat).toNat (lckF K (K 14 (boat).toNat) up)) 14 (wth).toNat (lckF K (K 14 (boat).toNat) up)) := KI_up hI19 (show (0 : Int) ≤ _ by omega) (show _ ≤ (9 : Int) by omega)
        refine xx_aload_n (q := 104) rfl rfl rfl ?_
        refine xx_getR (q := 107) rfl rfl rfl (xSc_0 isC_27) (Nat.le_of_ble_eq_true rfl) rfl (rc_passes hR isC_27) ?_
        refine xx_iload (q := 109) rfl rfl rfl ?_
        refine xx_dup2 (q := 110) rfl rfl ?_
        refine xx_iaz (v := K 5 (lckF K (K 14 (boat).toNat) up).toNat) (q := 111) rfl rfl (xSc_5 isC_27) (by omega) (by omega) ((ck_a hW24.1 (o := 5) (N := 9) rfl (by omega) (by omega)).trans (flowF_k (by decide) (by omega))) ?_
        have hb25 : -2147483648 ≤ K 5 (lckF K (K 14 (boat).toNat) up).toNat ∧ K 5 (lckF K (K 14 (boat).toNat) up).toNat ≤ 2147483647 := by rw [← show (xui (xui (flowF K (lckF K (K 14 (boat).toNat) up) (K 2 (lckF K (K 14 (boat).toNat) up).toNat)) 14 (boat).toNat (lckF K (K 14 (boat).toNat) up)) 14 (wth).toNat (lckF K (K 14 (boat).toNat) up)) 5 (lckF K (K 14 (boat).toNat) up).toNat = K 5 (lckF K (K 14 (boat).toNat) up).toNat from flowF_k (by decide) (by omega)]; exact ki_5 hI24 (lckF K (K 14 (boat).toNat) up).toNat
        refine xx_iconst (q := 112) rfl rfl (by decide) ?_
        refine xx_iadd (q := 113) rfl rfl ?_
        refine xn_isz (o := 5) hW24 (q := 114) rfl rfl (xSc_5 isC_27) (by decide) (by decide) (by omega) (by omega) (fun D26 hW26 => ?_)
        have hs26 : (xui (xui (xui (flowF K (lckF K (K 14 (boat).toNat) up) (K 2 (lckF K (K 14 (boat).toNat) up).toNat)) 14 (boat).toNat (lckF K (K 14 (boat).toNat) up)) 14 (wth).toNat (lckF K (K 14 (boat).toNat) up)) 5 (lckF K (K 14 (boat).toNat) up).toNat (nrm ((K 5 (lckF K (K 14 (boat).toNat) up).toNat) + 1))) 5 (lckF K (K 14 (boat).toNat) up).toNat = (nrm ((K 5 (lckF K (K 14 (boat).toNat) up).toNat) + 1)) := xui_s
        have hI26 : KI (xui (xui (xui (flowF K (lckF K (K 14 (boat).toNat) up) (K 2 (lckF K (K 14 (boat).toNat) up).toNat)) 14 (boat).toNat (lckF K (K 14 (boat).toNat) up)) 14 (wth).toNat (lckF K (K 14 (boat).toNat) up)) 5 (lckF K (K 14 (boat).toNat) up).toNat (nrm ((K 5 (lckF K (K 14 (boat).toNat) up).toNat) + 1))) := KI_up hI24 (nrm_lo _) (nrm_hi _)
        refine xx_aload_n (q := 115) rfl rfl rfl ?_
        refine xx_iconst (q := 116) rfl rfl (by decide) ?_
        refine xx_iload (q := 118) rfl rfl rfl ?_
        refine xx_iload_n (q := 119) rfl rfl rfl ?_
        refine xx_aload_n (q := 120) rfl rfl rfl ?_
        refine xx_getR (q := 123) rfl rfl rfl (xSc_0 isC_27) (Nat.le_of_ble_eq_true rfl) rfl (rc_fill hR isC_27) ?_
        refine xx_iload (q := 125) rfl rfl rfl ?_
        refine xx_iaz (v := K 2 (lckF K (K 14 (boat).toNat) up).toNat) (q := 126) rfl rfl (xSc_2 isC_27) (by omega) (by omega) ((ck_a hW26.1 (o := 2) (N := 9) rfl (by omega) (by omega)).trans (flowF_k (by decide) (by omega))) ?_
        have hb27 : 1 ≤ K 2 (lckF K (K 14 (boat).toNat) up).toNat ∧ K 2 (lckF K (K 14 (boat).toNat) up).toNat ≤ 50 := by rw [← show (xui (xui (xui (flowF K (lckF K (K 14 (boat).toNat) up) (K 2 (lckF K (K 14 (boat).toNat) up).toNat)) 14 (boat).toNat (lckF K (K 14 (boat).toNat) up)) 14 (wth).toNat (lckF K (K 14 (boat).toNat) up)) 5 (lckF K (K 14 (boat).toNat) up).toNat (nrm ((K 5 (lckF K (K 14 (boat).toNat) up).toNat) + 1))) 2 (lckF K (K 14 (boat).toNat) up).toNat = K 2 (lckF K (K 14 (boat).toNat) up).toNat from flowF_k (by decide) (by omega)]; exact ki_2 hI26 (lckF K (K 14 (boat).toNat) up).toNat
        obtain ⟨D28, hx28, hW28⟩ := c_noteN (n := n) hR hW26 hI26 0 (lckF K (K 14 (boat).toNat) up) boat (K 2 (lckF K (K 14 (boat).toNat) up).toNat)
        refine xx_callV (q := 129) (As := [_, _, _, _]) (rest := []) rfl rfl rfl (Or.inl rfl) rfl rfl (Nat.le_of_ble_eq_true rfl) (xSc_0 isC_27) (XCm hx28 rfl) rfl ?_
        refine xx_iload (q := 131) rfl rfl rfl ?_
        refine xx_iret rfl trivial ⟨congrArg (fun z => some (Sum.inl z)) (by unfold pasR; first | rw [if_neg h11] | rw [if_pos h11]), _, rfl, ?_⟩
        unfold pasT pasb pasB pasU
        rw [if_pos h11, if_pos h11, if_pos h11, if_pos h11]
        have e : pasK K boat up wth = (xui (xui (xui (flowF K (lckF K (K 14 (boat).toNat) up) (K 2 (lckF K (K 14 (boat).toNat) up).toNat)) 14 (boat).toNat (lckF K (K 14 (boat).toNat) up)) 14 (wth).toNat (lckF K (K 14 (boat).toNat) up)) 5 (lckF K (K 14 (boat).toNat) up).toNat (nrm ((K 5 (lckF K (K 14 (boat).toNat) up).toNat) + 1))) := by unfold pasK; simp only [*, if_true, if_false, reduceIte]
        have e2 : (xui (xui (xui (flowF K (lckF K (K 14 (boat).toNat) up) (K 2 (lckF K (K 14 (boat).toNat) up).toNat)) 14 (boat).toNat (lckF K (K 14 (boat).toNat) up)) 14 (wth).toNat (lckF K (K 14 (boat).toNat) up)) 5 (lckF K (K 14 (boat).toNat) up).toNat (nrm ((K 5 (lckF K (K 14 (boat).toNat) up).toNat) + 1))) 0 1 = K 0 1 := by rw [← e]; exact pasK_h
        rw [e, ← e2]
        exact hW28
  · refine xx_iload (q := 16) rfl rfl rfl ?_
    refine xx_iret rfl trivial ⟨congrArg (fun z => some (Sum.inl z)) (by unfold pasR; first | rw [if_neg h11] | rw [if_pos h11]), _, rfl, ?_⟩
    unfold pasT pasb pasB pasU
    rw [if_neg h11, if_neg h11, if_neg h11, if_neg h11]
    exact hW1
def givb (K : KK) (boat good amount lock b : Int) : Int := if canF K boat good amount lock then notb b else b
def givB (K : KK) (boat good amount lock b : Int) (B : Nat → Int) : Nat → Int := if canF K boat good amount lock then notB b B (K 0 1) 1 lock boat amount else B
def givU (K : KK) (boat good amount lock b : Int) (U : UU) : UU := if canF K boat good amount lock then kepU K b U else U
set_option maxHeartbeats 1000000 in
theorem c_giveN {n : Nat} {R : Nat → Nat → Option Nat} {D0 D K : KK} {b : Int} {B : Nat → Int} {U : UU} (hR : RF R) (hW : NWd K b B U D0 D) (hI : KI K) {Hh : LwF} (hH : LwH Hh n R D0) (boat good amount lock : Int) : ∃ D', XC 4 15 [.inr (some 27), .inl boat, .inl good, .inl amount, .inl lock] (xS n, R, D) (some (.inl (givR K Hh boat good amount lock))) (xS n, R, D') ∧ NWd (givT K Hh boat good amount lock) (givb K boat good amount lock b) (givB K boat good amount lock b B) (givU K boat good amount lock b U) D0 D' := by
  refine XE_of (Nat.le_of_ble_eq_true rfl) (Nat.le_of_ble_eq_true rfl) (loc := [_, _, _, _, _, _]) rfl ?_
  refine xx_aload_n (q := 1) rfl rfl rfl ?_
  refine xx_iload_n (q := 2) rfl rfl rfl ?_
  refine xx_iload_n (q := 3) rfl rfl rfl ?_
  refine xx_iload_n (q := 4) rfl rfl rfl ?_
  refine xx_iload (q := 6) rfl rfl rfl ?_
  refine xx_callV (q := 9) (As := [_, _, _, _]) (rest := []) rfl rfl rfl (Or.inl rfl) rfl rfl (Nat.le_of_ble_eq_true rfl) (xSc_0 isC_27) (XCm (c_canGive hR isC_27 hW.1 hI boat good amount lock) rfl) rfl ?_
  refine xx_ifb_ne (q := 16) (q2 := 12) rfl rfl rfl (fun h9 => ?_) (fun h9 => ?_)
  · have hbB := ki_B hI
    have hbL := ki_L hI
    have hcn := h9
    refine xx_aload_n (q := 17) rfl rfl rfl ?_
    refine xx_getR (q := 20) rfl rfl rfl (xSc_0 isC_27) (Nat.le_of_ble_eq_true rfl) rfl (hR.1 27 16 rfl) ?_
    refine xx_ifnull (q := 23) rfl rfl ?_
    refine xx_aload_n (q := 24) rfl rfl rfl ?_
    refine xx_getR (q := 27) rfl rfl rfl (xSc_0 isC_27) (Nat.le_of_ble_eq_true rfl) rfl (hR.1 27 16 rfl) ?_
    refine xx_aload_n (q := 28) rfl rfl rfl ?_
    obtain ⟨D1, hx1, hW1⟩ := c_keep (n := n) hR hW hI
    refine xx_callV (q := 31) (As := [_]) (rest := []) rfl rfl rfl (Or.inl rfl) rfl rfl (Nat.le_of_ble_eq_true rfl) xS_86 (XCm hx1 rfl) rfl ?_
    refine xx_aload_n (q := 32) rfl rfl rfl ?_
    refine xx_iload_n (q := 33) rfl rfl rfl ?_
    refine xx_iload_n (q := 34) rfl rfl rfl ?_
    refine xx_iload_n (q := 35) rfl rfl rfl ?_
    refine xx_iload (q := 37) rfl rfl rfl ?_
    obtain ⟨D2, hx2, hK2, hG2⟩ := c_delight (n := n) hR isN_27 hW1.1 hI (LwH.fn hH hW1.2.2.2) boat good amount lock (by omega) (by omega) (by omega) (by omega) (by omega) (by omega) (by omega) (by omega)
    have hW2 := NWd.fr hW1 hK2 hG2
    refine xx_callV (q := 40) (As := [_, _, _, _]) (rest := []) rfl rfl rfl (Or.inl rfl) rfl rfl (Nat.le_of_ble_eq_true rfl) (xSc_0 isC_27) (XCm hx2 rfl) rfl ?_
    have hb3 : -99 ≤ dlgF K Hh boat good amount lock ∧ dlgF K Hh boat good amount lock ≤ 99 := hld_b _
    refine xx_istore (q := 42) (loc2 := [_, _, _, _, _, _]) rfl rfl (Nat.le_of_ble_eq_true rfl) rfl ?_
    refine xx_aload_n (q := 43) rfl rfl rfl ?_
    refine xx_getR (q := 46) rfl rfl rfl (xSc_0 isC_27) (Nat.le_of_ble_eq_true rfl) rfl (rc_keepers hR isC_27) ?_
    refine xx_iload (q := 48) rfl rfl rfl ?_
    refine xx_iload_n (q := 49) rfl rfl rfl ?_
    refine xx_iload (q := 51) rfl rfl rfl ?_
    obtain ⟨D4, hx4, hK4, hG4⟩ := c_receive (n := n) hR isC_27 hW2.1 hI lock boat (dlgF K Hh boat good amount lock) (by omega) (by omega) (by omega) (by omega) (by omega) (by omega)
    have hW4 := NWd.fr hW2 hK4 hG4
    have hI4 : KI (rcvF K lock boat (dlgF K Hh boat good amount lock)) := rcvF_I hI
    refine xx_callV (q := 54) (As := [_, _, _]) (rest := []) rfl rfl rfl (Or.inl rfl) rfl rfl (Nat.le_of_ble_eq_true rfl) (xSc_7 isC_27) (XCm hx4 rfl) rfl ?_
    refine xx_aload_n (q := 55) rfl rfl rfl ?_
    refine xx_getR (q := 58) rfl rfl rfl (xSc_0 isC_27) (Nat.le_of_ble_eq_true rfl) rfl (rc_fleet hR isC_27) ?_
    refine xx_getR (q := 61) rfl rfl rfl (xSc_13 isC_27) (Nat.le_of_ble_eq_true rfl) rfl (rc_cargo hR isC_27) ?_
    refine xx_iload_n (q := 62) rfl rfl rfl ?_
    refine xx_iconst (q := 63) rfl rfl (by decide) ?_
    refine xx_imulR (q := 64) rfl rfl (by omega) (by omega) ?_
    refine xx_iload_n (q := 65) rfl rfl rfl ?_
    refine xx_iaddR (q := 66) rfl rfl (by omega) (by omega) ?_
    refine xx_dup2 (q := 67) rfl rfl ?_
    refine xx_iaz (v := K 17 ((boat * 4) + good).toNat) (q := 68) rfl rfl (xSc_17 isC_27) (by omega) (by omega) ((ck_a hW4.1 (o := 17) (N := 24) rfl (by omega) (by omega)).trans (rcvF_k (by decide) (by decide) (by decide))) ?_
    have hb5 : 0 ≤ K 17 ((boat * 4) + good).toNat ∧ K 17 ((boat * 4) + good).toNat ≤ 99 := by rw [← show (rcvF K lock boat (dlgF K Hh boat good amount lock)) 17 ((boat * 4) + good).toNat = K 17 ((boat * 4) + good).toNat from rcvF_k (by decide) (by decide) (by decide)]; exact ki_17 hI4 ((boat * 4) + good).toNat
    refine xx_iload_n (q := 69) rfl rfl rfl ?_
    refine xx_isubR (q := 70) rfl rfl (by omega) (by omega) ?_
    refine xn_isz (o := 17) hW4 (q := 71) rfl rfl (xSc_17 isC_27) (by decide) (by decide) (by omega) (by omega) (fun D6 hW6 => ?_)
    have hs6 : (xui (rcvF K lock boat (dlgF K Hh boat good amount lock)) 17 ((boat * 4) + good).toNat ((K 17 ((boat * 4) + good).toNat) - amount)) 17 ((boat * 4) + good).toNat = ((K 17 ((boat * 4) + good).toNat) - amount) := xui_s
    have hI6 : KI (xui (rcvF K lock boat (dlgF K Hh boat good amount lock)) 17 ((boat * 4) + good).toNat ((K 17 ((boat * 4) + good).toNat) - amount)) := KI_up hI4 (show (0 : Int) ≤ _ by omega) (show _ ≤ (99 : Int) by omega)
    refine xx_aload_n (q := 72) rfl rfl rfl ?_
    refine xx_iconst (q := 73) rfl rfl (by decide) ?_
    refine xx_iload (q := 75) rfl rfl rfl ?_
    refine xx_iload_n (q := 76) rfl rfl rfl ?_
    refine xx_iload_n (q := 77) rfl rfl rfl ?_
    obtain ⟨D7, hx7, hW7⟩ := c_noteN (n := n) hR hW6 hI6 1 lock boat amount
    refine xx_callV (q := 80) (As := [_, _, _, _]) (rest := []) rfl rfl rfl (Or.inl rfl) rfl rfl (Nat.le_of_ble_eq_true rfl) (xSc_0 isC_27) (XCm hx7 rfl) rfl ?_
    refine xx_iload (q := 82) rfl rfl rfl ?_
    refine xx_iret rfl trivial ⟨congrArg (fun z => some (Sum.inl z)) (by unfold givR; first | rw [if_neg h9] | rw [if_pos h9]), _, rfl, ?_⟩
    unfold givT givb givB givU
    rw [if_pos h9, if_pos h9, if_pos h9, if_pos h9]
    have e2 : (xui (rcvF K lock boat (dlgF K Hh boat good amount lock)) 17 ((boat * 4) + good).toNat ((K 17 ((boat * 4) + good).toNat) - amount)) 0 1 = K 0 1 := (xui_a (by decide)).trans (rcvF_k (by decide) (by decide) (by decide))
    rw [e2] at hW7
    exact hW7
  · refine xx_sipush (q := 15) rfl rfl (by decide) ?_
    refine xx_iret rfl trivial ⟨congrArg (fun z => some (Sum.inl z)) (by unfold givR; first | rw [if_neg h9] | rw [if_pos h9]), _, rfl, ?_⟩
    unfold givT givb givB givU
    rw [if_neg h9, if_neg h9, if_neg h9, if_neg h9]
    exact hW
