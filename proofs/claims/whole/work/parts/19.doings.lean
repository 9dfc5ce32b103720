/-! Hours, pulls, passings, presents: whole, in thought and with a record. -/
set_option maxHeartbeats 1000000 in
theorem c_hourT {n c : Nat} {R : Nat → Nat → Option Nat} {D K : KK} (hR : RF R) (ht : isT c) (hK : CK c K D) (hI : KI K) : ∃ D', XC 6 18 [.inr (some c)] (xS n, R, D) (some (.inl 0)) (xS n, R, D') ∧ CK c (hrT K) D' ∧ Fr c D D' := by
  have hc := isT_C ht
  have hn := isT_N ht
  have hbL := ki_L hI
  refine XE_of (Nat.le_of_ble_eq_true rfl) (Nat.le_of_ble_eq_true rfl) (loc := [_, _, _]) rfl ?_
  refine xx_aload_n (q := 1) rfl rfl rfl ?_
  refine xx_callV (q := 4) (As := []) (rest := []) rfl rfl rfl (Or.inl rfl) rfl rfl (Nat.le_of_ble_eq_true rfl) (xSc_0 hc) (XCm (c_rainT hR ht hK hI) rfl) rfl ?_
  refine xx_istore_n (q := 5) (loc2 := [_, _, _]) rfl rfl (Nat.le_of_ble_eq_true rfl) rfl ?_
  refine xx_iconst (q := 6) rfl rfl (by decide) ?_
  refine xx_istore_n (q := 7) (loc2 := [_, _, _]) rfl rfl (Nat.le_of_ble_eq_true rfl) rfl ?_
  exact c_lek_T hR ht 0 (K 0 0).toNat K D 0 hK hI Fr.rf (by omega) (by omega) (fun D2 l2 hK2 hI2 hF2 => c_hrest_T hR ht 0 l2 (Or.inl rfl) hK2 hI2 hF2)
set_option maxHeartbeats 1000000 in
theorem c_wai_T {n c : Nat} {R : Nat → Nat → Option Nat} {D0 : KK} (hR : RF R) (ht : isT c) (m : Int) (hm : m ≤ 100) : ∀ (k : Nat) (K D : KK) (l : Int), CK c K D → KI K → Fr c D0 D → 0 ≤ l → l + k = m → XX (XC 6) 17 (XP (some (.inl 0)) (xS n) R (fun D' => CK c (hrsT k K) D' ∧ Fr c D0 D')) 28 [some (.inr (some c)), some (.inl m), some (.inl 0), some (.inl l)] [] (xS n, R, D) := by
  intro k
  induction k using Nat.strongRecOn with
  | ind k ih =>
  intro K D l hK hI hF h1 hk
  have hc := isT_C ht
  refine xx_iload_n (q := 29) rfl rfl rfl ?_
  refine xx_iload_n (q := 30) rfl rfl rfl ?_
  refine xx_icmp_ge (q := 64) (q2 := 33) rfl rfl rfl (fun h30 => ?_) (fun h30 => ?_)
  · refine xx_iload_n (q := 65) rfl rfl rfl ?_
    obtain rfl : k = 0 := by omega
    exact xx_iret rfl trivial ⟨rfl, _, rfl, hK, hF⟩
  · obtain ⟨k, rfl⟩ : ∃ k2, k = k2 + 1 := ⟨k - 1, by omega⟩
    refine xx_aload_n (q := 34) rfl rfl rfl ?_
    refine xx_getR (q := 37) rfl rfl rfl (xSc_0 hc) (Nat.le_of_ble_eq_true rfl) rfl (rc_past hR ht) ?_
    refine xx_ifnullN (q := 48) rfl rfl ?_
    refine xx_aload_n (q := 49) rfl rfl rfl ?_
    obtain ⟨D1, hx1, hK1, hG1⟩ := c_hourT (n := n) hR ht hK hI
    have hF1 := hF.trans hG1
    have hI1 : KI (hrT K) := hrT_I hI
    refine xx_callV (q := 52) (As := []) (rest := []) rfl rfl rfl (Or.inl rfl) rfl rfl (Nat.le_of_ble_eq_true rfl) (xSc_0 hc) (XCm hx1 rfl) rfl ?_
    refine xx_if_eq (q := 58) (q2 := 55) rfl rfl rfl (fun _ => ?_) (fun h52 => (by exfalso; omega))
    refine xx_incz (q := 61) (loc2 := [_, _, _, _]) rfl rfl rfl (by omega) (by omega) rfl rfl ?_
    refine xx_goto (q := 28) rfl rfl ?_
    exact ih k (by omega) _ _ _ hK1 hI1 hF1 (by omega) (by omega)
set_option maxHeartbeats 1000000 in
theorem c_waitT {n c : Nat} {R : Nat → Nat → Option Nat} {D K : KK} (hR : RF R) (ht : isT c) (hK : CK c K D) (hI : KI K) (m : Int) : ∃ D', XC 7 17 [.inr (some c), .inl m] (xS n, R, D) (some (.inl (bi (waiP K m) - 1))) (xS n, R, D') ∧ CK c (waiT K m) D' ∧ Fr c D D' := by
  have hc := isT_C ht
  have hn := isT_N ht
  refine XE_of (Nat.le_of_ble_eq_true rfl) (Nat.le_of_ble_eq_true rfl) (loc := [_, _, _, _]) rfl ?_
  refine xx_iload_n (q := 1) rfl rfl rfl ?_
  refine xx_iconst (q := 2) rfl rfl (by decide) ?_
  refine xx_bipush (q := 4) rfl rfl (by decide) ?_
  refine xx_callS (q := 7) (As := [_, _, _]) (rest := []) rfl rfl rfl (Or.inr rfl) rfl rfl (Nat.le_of_ble_eq_true rfl) (XCm (c_within m 1 100) rfl) rfl ?_
  refine xx_ifb_eq (q := 22) (q2 := 10) rfl rfl rfl (fun h7 => ?_) (fun h7 => ?_)
  · refine xx_iconst (q := 23) rfl rfl (by decide) ?_
    refine xx_iret rfl trivial ⟨congrArg (fun z => some (Sum.inl z)) (by rw [bi_f (fun q => h7 q.1)]; rfl), _, rfl, ?_⟩
    refine ⟨?_, Fr.rf⟩
    have e : waiT K m = K := if_neg (fun q => h7 q.1)
    rw [e]
    exact hK
  · refine xx_aload_n (q := 11) rfl rfl rfl ?_
    refine xx_gez (v := K 0 1) (q := 14) rfl rfl rfl (xSc_0 hc) (Nat.le_of_ble_eq_true rfl) rfl (hK 0 1 (Nat.le_of_ble_eq_true rfl)) ?_
    refine xx_iload_n (q := 15) rfl rfl rfl ?_
    refine xx_iadd (q := 16) rfl rfl ?_
    refine xx_sipush (q := 19) rfl rfl (by decide) ?_
    refine xx_icmp_le (q := 24) (q2 := 22) rfl rfl rfl (fun h19 => ?_) (fun h19 => ?_)
    · refine xx_iconst (q := 25) rfl rfl (by decide) ?_
      refine xx_istore_n (q := 26) (loc2 := [_, _, _, _]) rfl rfl (Nat.le_of_ble_eq_true rfl) rfl ?_
      refine xx_iconst (q := 27) rfl rfl (by decide) ?_
      refine xx_istore_n (q := 28) (loc2 := [_, _, _, _]) rfl rfl (Nat.le_of_ble_eq_true rfl) rfl ?_
      have e : waiT K m = hrsT m.toNat K := if_pos ⟨h7, h19⟩
      rw [e, bi_t (p := waiP K m) ⟨h7, h19⟩]
      exact c_wai_T hR ht m (by omega) m.toNat K D 0 hK hI Fr.rf (by omega) (by omega)
    · refine xx_iconst (q := 23) rfl rfl (by decide) ?_
      refine xx_iret rfl trivial ⟨congrArg (fun z => some (Sum.inl z)) (by rw [bi_f (fun q => h19 q.2)]; rfl), _, rfl, ?_⟩
      refine ⟨?_, Fr.rf⟩
      have e : waiT K m = K := if_neg (fun q => h19 q.2)
      rw [e]
      exact hK
set_option maxHeartbeats 1000000 in
theorem c_pul_T {n c : Nat} {R : Nat → Nat → Option Nat} {D0 : KK} {Q : XQ} (hR : RF R) (ht : isT c) (lock m : Int) (h0 : 0 ≤ lock) (hm : m ≤ 9) : ∀ (k : Nat) (K D : KK) (t : Int), CK c K D → KI K → Fr c D0 D → lock < K 0 0 → 0 ≤ t → t + k = m → (∀ D2, CK c (pulL k K lock) D2 → KI (pulL k K lock) → Fr c D0 D2 → XX (XC 8) 16 Q 74 [some (.inr (some c)), some (.inl lock), some (.inl m), some (.inl (t + pulN k K lock))] [] (xS n, R, D2)) → XX (XC 8) 16 (Q) 37 [some (.inr (some c)), some (.inl lock), some (.inl m), some (.inl t)] [] (xS n, R, D) := by
  intro k
  induction k using Nat.strongRecOn with
  | ind k ih =>
  intro K D t hK hI hF h1 h2 hk kx
  have hc := isT_C ht
  have hbL := ki_L hI
  refine xx_iload_n (q := 38) rfl rfl rfl ?_
  refine xx_iload_n (q := 39) rfl rfl rfl ?_
  refine xx_icmp_ge (q := 74) (q2 := 42) rfl rfl rfl (fun h39 => ?_) (fun h39 => ?_)
  · obtain rfl : k = 0 := by omega
    have e : t + ((pulN 0 K lock : Nat) : Int) = t := by show t + 0 = t; omega
    rw [e] at kx
    exact kx _ hK hI hF
  · refine xx_aload_n (q := 43) rfl rfl rfl ?_
    refine xx_getR (q := 46) rfl rfl rfl (xSc_0 hc) (Nat.le_of_ble_eq_true rfl) rfl (rc_depth hR hc) ?_
    refine xx_iload_n (q := 47) rfl rfl rfl ?_
    refine xx_iaz (v := K 1 (lock).toNat) (q := 48) rfl rfl (xSc_1 hc) (by omega) (by omega) (ck_a hK (o := 1) (N := 10) rfl (by omega) (by omega)) ?_
    have hb1 : 0 ≤ K 1 (lock).toNat ∧ K 1 (lock).toNat ≤ 999 := by have h := ki_1 hI (lock).toNat; exact h
    refine xx_aload_n (q := 49) rfl rfl rfl ?_
    refine xx_getR (q := 52) rfl rfl rfl (xSc_0 hc) (Nat.le_of_ble_eq_true rfl) rfl (rc_fill hR hc) ?_
    refine xx_iload_n (q := 53) rfl rfl rfl ?_
    refine xx_iaz (v := K 2 (lock).toNat) (q := 54) rfl rfl (xSc_2 hc) (by omega) (by omega) (ck_a hK (o := 2) (N := 9) rfl (by omega) (by omega)) ?_
    have hb2 : 1 ≤ K 2 (lock).toNat ∧ K 2 (lock).toNat ≤ 50 := by have h := ki_2 hI (lock).toNat; exact h
    refine xx_icmp_lt (q := 74) (q2 := 57) rfl rfl rfl (fun h54 => ?_) (fun h54 => ?_)
    · obtain ⟨k, rfl⟩ : ∃ k2, k = k2 + 1 := ⟨k - 1, by omega⟩
      have e1 : pulL (k + 1) K lock = K := if_pos h54
      have e2 : pulN (k + 1) K lock = 0 := if_pos h54
      rw [e1, e2] at kx
      have e : t + ((0 : Nat) : Int) = t := by omega
      rw [e] at kx
      exact kx _ hK hI hF
    · refine xx_aload_n (q := 58) rfl rfl rfl ?_
      refine xx_iload_n (q := 59) rfl rfl rfl ?_
      refine xx_aload_n (q := 60) rfl rfl rfl ?_
      refine xx_getR (q := 63) rfl rfl rfl (xSc_0 hc) (Nat.le_of_ble_eq_true rfl) rfl (rc_fill hR hc) ?_
      refine xx_iload_n (q := 64) rfl rfl rfl ?_
      refine xx_iaz (v := K 2 (lock).toNat) (q := 65) rfl rfl (xSc_2 hc) (by omega) (by omega) (ck_a hK (o := 2) (N := 9) rfl (by omega) (by omega)) ?_
      have hb3 : 1 ≤ K 2 (lock).toNat ∧ K 2 (lock).toNat ≤ 50 := by have h := ki_2 hI (lock).toNat; exact h
      obtain ⟨D4, hx4, hK4, hG4⟩ := c_flow (n := n) hR hc hK hI lock (K 2 (lock).toNat) (by omega) (by omega) (by omega) (by omega) (by omega)
      have hF4 := hF.trans hG4
      have hI4 : KI (flowF K lock (K 2 (lock).toNat)) := flowF_I hI (by omega) (by omega)
      refine xx_callV (q := 68) (As := [_, _]) (rest := []) rfl rfl rfl (Or.inl rfl) rfl rfl (Nat.le_of_ble_eq_true rfl) (xSc_0 hc) (XCm hx4 rfl) rfl ?_
      refine xx_incz (q := 71) (loc2 := [_, _, _, _]) rfl rfl rfl (by omega) (by omega) rfl rfl ?_
      refine xx_goto (q := 37) rfl rfl ?_
      obtain ⟨k, rfl⟩ : ∃ k2, k = k2 + 1 := ⟨k - 1, by omega⟩
      have e1 : pulL (k + 1) K lock = pulL k (flowF K lock (K 2 lock.toNat)) lock := if_neg h54
      have e2 : pulN (k + 1) K lock = pulN k (flowF K lock (K 2 lock.toNat)) lock + 1 := if_neg h54
      rw [e1, e2] at kx
      refine ih k (by omega) _ _ (t + 1) hK4 hI4 hF4 (by rw [flowF_k (by decide) (by omega)]; omega) (by omega) (by omega) ?_
      have e : t + ((pulN k (flowF K lock (K 2 lock.toNat)) lock + 1 : Nat) : Int) = t + 1 + ((pulN k (flowF K lock (K 2 lock.toNat)) lock : Nat) : Int) := by omega
      rw [e] at kx
      exact kx
set_option maxHeartbeats 1000000 in
theorem c_pul_N {n : Nat} {R : Nat → Nat → Option Nat} {D0 : KK} {Q : XQ} {b : Int} {B : Nat → Int} {U : UU} (hR : RF R) (lock m : Int) (h0 : 0 ≤ lock) (hm : m ≤ 9) : ∀ (k : Nat) (K D : KK) (t : Int), NWd K b B U D0 D → KI K → lock < K 0 0 → 0 ≤ t → t + k = m → (∀ D2, NWd (pulL k K lock) b B U D0 D2 → KI (pulL k K lock) → XX (XC 8) 16 Q 74 [some (.inr (some 27)), some (.inl lock), some (.inl m), some (.inl (t + pulN k K lock))] [] (xS n, R, D2)) → XX (XC 8) 16 (Q) 37 [some (.inr (some 27)), some (.inl lock), some (.inl m), some (.inl t)] [] (xS n, R, D) := by
  intro k
  induction k using Nat.strongRecOn with
  | ind k ih =>
  intro K D t hW hI h1 h2 hk kx
  have hbL := ki_L hI
  refine xx_iload_n (q := 38) rfl rfl rfl ?_
  refine xx_iload_n (q := 39) rfl rfl rfl ?_
  refine xx_icmp_ge (q := 74) (q2 := 42) rfl rfl rfl (fun h39 => ?_) (fun h39 => ?_)
  · obtain rfl : k = 0 := by omega
    have e : t + ((pulN 0 K lock : Nat) : Int) = t := by show t + 0 = t; omega
    rw [e] at kx
    exact kx _ hW hI
  · refine xx_aload_n (q := 43) rfl rfl rfl ?_
    refine xx_getR (q := 46) rfl rfl rfl (xSc_0 isC_27) (Nat.le_of_ble_eq_true rfl) rfl (rc_depth hR isC_27) ?_
    refine xx_iload_n (q := 47) rfl rfl rfl ?_
    refine xx_iaz (v := K 1 (lock).toNat) (q := 48) rfl rfl (xSc_1 isC_27) (by omega) (by omega) (ck_a hW.1 (o := 1) (N := 10) rfl (by omega) (by omega)) ?_
    have hb1 : 0 ≤ K 1 (lock).toNat ∧ K 1 (lock).toNat ≤ 999 := by have h := ki_1 hI (lock).toNat; exact h
    refine xx_aload_n (q := 49) rfl rfl rfl ?_
    refine xx_getR (q := 52) rfl rfl rfl (xSc_0 isC_27) (Nat.le_of_ble_eq_true rfl) rfl (rc_fill hR isC_27) ?_
    refine xx_iload_n (q := 53) rfl rfl rfl ?_
    refine xx_iaz (v := K 2 (lock).toNat) (q := 54) rfl rfl (xSc_2 isC_27) (by omega) (by omega) (ck_a hW.1 (o := 2) (N := 9) rfl (by omega) (by omega)) ?_
    have hb2 : 1 ≤ K 2 (lock).toNat ∧ K 2 (lock).toNat ≤ 50 := by have h := ki_2 hI (lock).toNat; exact h
    refine xx_icmp_lt (q := 74) (q2 := 57) rfl rfl rfl (fun h54 => ?_) (fun h54 => ?_)
    · obtain ⟨k, rfl⟩ : ∃ k2, k = k2 + 1 := ⟨k - 1, by omega⟩
      have e1 : pulL (k + 1) K lock = K := if_pos h54
      have e2 : pulN (k + 1) K lock = 0 := if_pos h54
      rw [e1, e2] at kx
      have e : t + ((0 : Nat) : Int) = t := by omega
      rw [e] at kx
      exact kx _ hW hI
    · refine xx_aload_n (q := 58) rfl rfl rfl ?_
      refine xx_iload_n (q := 59) rfl rfl rfl ?_
      refine xx_aload_n (q := 60) rfl rfl rfl ?_
      refine xx_getR (q := 63) rfl rfl rfl (xSc_0 isC_27) (Nat.le_of_ble_eq_true rfl) rfl (rc_fill hR isC_27) ?_
      refine xx_iload_n (q := 64) rfl rfl rfl ?_
      refine xx_iaz (v := K 2 (lock).toNat) (q := 65) rfl rfl (xSc_2 isC_27) (by omega) (by omega) (ck_a hW.1 (o := 2) (N := 9) rfl (by omega) (by omega)) ?_
      have hb3 : 1 ≤ K 2 (lock).toNat ∧ K 2 (lock).toNat ≤ 50 := by have h := ki_2 hI (lock).toNat; exact h
      obtain ⟨D4, hx4, hK4, hG4⟩ := c_flow (n := n) hR isC_27 hW.1 hI lock (K 2 (lock).toNat) (by omega) (by omega) (by omega) (by omega) (by omega)
      have hW4 := NWd.fr hW hK4 hG4
      have hI4 : KI (flowF K lock (K 2 (lock).toNat)) := flowF_I hI (by omega) (by omega)
      refine xx_callV (q := 68) (As := [_, _]) (rest := []) rfl rfl rfl (Or.inl rfl) rfl rfl (Nat.le_of_ble_eq_true rfl) (xSc_0 isC_27) (XCm hx4 rfl) rfl ?_
      refine xx_incz (q := 71) (loc2 := [_, _, _, _]) rfl rfl rfl (by omega) (by omega) rfl rfl ?_
      refine xx_goto (q := 37) rfl rfl ?_
      obtain ⟨k, rfl⟩ : ∃ k2, k = k2 + 1 := ⟨k - 1, by omega⟩
      have e1 : pulL (k + 1) K lock = pulL k (flowF K lock (K 2 lock.toNat)) lock := if_neg h54
      have e2 : pulN (k + 1) K lock = pulN k (flowF K lock (K 2 lock.toNat)) lock + 1 := if_neg h54
      rw [e1, e2] at kx
      refine ih k (by omega) _ _ (t + 1) hW4 hI4 (by rw [flowF_k (by decide) (by omega)]; omega) (by omega) (by omega) ?_
      have e : t + ((pulN k (flowF K lock (K 2 lock.toNat)) lock + 1 : Nat) : Int) = t + 1 + ((pulN k (flowF K lock (K 2 lock.toNat)) lock : Nat) : Int) := by omega
      rw [e] at kx
      exact kx
theorem mul_c {t a : Int} (h : 1 ≤ a ∧ a ≤ 50) (h1 : 0 ≤ t ∧ t ≤ 9) : 0 ≤ t * a ∧ t * a ≤ 450 := by
  have e1 : t * a ≤ t * 50 := Int.mul_le_mul_of_nonneg_left h.2 h1.1
  have e2 : 0 ≤ t * a := Int.mul_nonneg h1.1 (by omega)
  omega
set_option maxHeartbeats 1000000 in
theorem c_prest_T {n c : Nat} {R : Nat → Nat → Option Nat} {D0 K D : KK} (hR : RF R) (ht : isT c) (lock m t : Int) (h0 : 0 ≤ lock) (h1 : lock < 9) (ht1 : 0 ≤ t ∧ t ≤ 9) (hK : CK c K D) (hI : KI K) (hF : Fr c D0 D) : XX (XC 8) 16 (XP (some (.inl t)) (xS n) R (fun D' => CK c K D' ∧ Fr c D0 D')) 74 [some (.inr (some c)), some (.inl lock), some (.inl m), some (.inl t)] [] (xS n, R, D) := by
  have hc := isT_C ht
  refine xx_iload_n (q := 75) rfl rfl rfl ?_
  refine xx_if_le (q := 93) (q2 := 78) rfl rfl rfl (fun h75 => ?_) (fun h75 => ?_)
  · refine xx_iload_n (q := 94) rfl rfl rfl ?_
    exact xx_iret rfl trivial ⟨rfl, _, rfl, hK, hF⟩
  · refine xx_aload_n (q := 79) rfl rfl rfl ?_
    refine xx_iconst (q := 80) rfl rfl (by decide) ?_
    refine xx_iload_n (q := 81) rfl rfl rfl ?_
    refine xx_iconst (q := 82) rfl rfl (by decide) ?_
    refine xx_iload_n (q := 83) rfl rfl rfl ?_
    refine xx_aload_n (q := 84) rfl rfl rfl ?_
    refine xx_getR (q := 87) rfl rfl rfl (xSc_0 hc) (Nat.le_of_ble_eq_true rfl) rfl (rc_fill hR hc) ?_
    refine xx_iload_n (q := 88) rfl rfl rfl ?_
    refine xx_iaz (v := K 2 (lock).toNat) (q := 89) rfl rfl (xSc_2 hc) (by omega) (by omega) (ck_a hK (o := 2) (N := 9) rfl (by omega) (by omega)) ?_
    have hb1 : 1 ≤ K 2 (lock).toNat ∧ K 2 (lock).toNat ≤ 50 := by have h := ki_2 hI (lock).toNat; exact h
    have hmm := mul_c hb1 ht1
    refine xx_imulR (q := 90) rfl rfl (by omega) (by omega) ?_
    obtain ⟨D2, hx2, hK2, hG2⟩ := c_noteT (n := n) hR ht hK hI 2 lock (-1) (t * (K 2 (lock).toNat))
    have hF2 := hF.trans hG2
    refine xx_callV (q := 93) (As := [_, _, _, _]) (rest := []) rfl rfl rfl (Or.inl rfl) rfl rfl (Nat.le_of_ble_eq_true rfl) (xSc_0 hc) (XCm hx2 rfl) rfl ?_
    refine xx_iload_n (q := 94) rfl rfl rfl ?_
    exact xx_iret rfl trivial ⟨rfl, _, rfl, hK2, hF2⟩
def pulb (t b : Int) : Int := if t ≤ 0 then b else notb b
def pulB (K : KK) (t lock b : Int) (B : Nat → Int) : Nat → Int := if t ≤ 0 then B else notB b B (K 0 1) 2 lock (-1) (t * K 2 lock.toNat)
set_option maxHeartbeats 1000000 in
theorem c_prest_N {n : Nat} {R : Nat → Nat → Option Nat} {D0 K D : KK} {b : Int} {B : Nat → Int} {U : UU} (hR : RF R) (lock m t : Int) (h0 : 0 ≤ lock) (h1 : lock < 9) (ht1 : 0 ≤ t ∧ t ≤ 9) (hW : NWd K b B U D0 D) (hI : KI K) : XX (XC 8) 16 (XP (some (.inl t)) (xS n) R (fun D' => NWd K (pulb t b) (pulB K t lock b B) U D0 D')) 74 [some (.inr (some 27)), some (.inl lock), some (.inl m), some (.inl t)] [] (xS n, R, D) := by
  refine xx_iload_n (q := 75) rfl rfl rfl ?_
  refine xx_if_le (q := 93) (q2 := 78) rfl rfl rfl (fun h75 => ?_) (fun h75 => ?_)
  · refine xx_iload_n (q := 94) rfl rfl rfl ?_
    refine xx_iret rfl trivial ⟨rfl, _, rfl, ?_⟩
    unfold pulb pulB
    rw [if_pos h75, if_pos h75]
    exact hW
  · refine xx_aload_n (q := 79) rfl rfl rfl ?_
    refine xx_iconst (q := 80) rfl rfl (by decide) ?_
    refine xx_iload_n (q := 81) rfl rfl rfl ?_
    refine xx_iconst (q := 82) rfl rfl (by decide) ?_
    refine xx_iload_n (q := 83) rfl rfl rfl ?_
    refine xx_aload_n (q := 84) rfl rfl rfl ?_
    refine xx_getR (q := 87) rfl rfl rfl (xSc_0 isC_27) (Nat.le_of_ble_eq_true rfl) rfl (rc_fill hR isC_27) ?_
    refine xx_iload_n (q := 88) rfl rfl rfl ?_
    refine xx_iaz (v := K 2 (lock).toNat) (q := 89) rfl rfl (xSc_2 isC_27) (by omega) (by omega) (ck_a hW.1 (o := 2) (N := 9) rfl (by omega) (by omega)) ?_
    have hb1 : 1 ≤ K 2 (lock).toNat ∧ K 2 (lock).toNat ≤ 50 := by have h := ki_2 hI (lock).toNat; exact h
    have hmm := mul_c hb1 ht1
    refine xx_imulR (q := 90) rfl rfl (by omega) (by omega) ?_
    obtain ⟨D2, hx2, hW2⟩ := c_noteN (n := n) hR hW hI 2 lock (-1) (t * (K 2 (lock).toNat))
    refine xx_callV (q := 93) (As := [_, _, _, _]) (rest := []) rfl rfl rfl (Or.inl rfl) rfl rfl (Nat.le_of_ble_eq_true rfl) (xSc_0 isC_27) (XCm hx2 rfl) rfl ?_
    refine xx_iload_n (q := 94) rfl rfl rfl ?_
    refine xx_iret rfl trivial ⟨rfl, _, rfl, ?_⟩
    unfold pulb pulB
    rw [if_neg h75, if_neg h75]
    exact hW2
set_option maxHeartbeats 1000000 in
theorem c_pullT {n c : Nat} {R : Nat → Nat → Option Nat} {D K : KK} (hR : RF R) (ht : isT c) (hK : CK c K D) (hI : KI K) (lock m : Int) : ∃ D', XC 9 16 [.inr (some c), .inl lock, .inl m] (xS n, R, D) (some (.inl (pulR K lock m))) (xS n, R, D') ∧ CK c (pulT K lock m) D' ∧ Fr c D D' := by
  have hc := isT_C ht
  have hn := isT_N ht
  have hbL := ki_L hI
  refine XE_of (Nat.le_of_ble_eq_true rfl) (Nat.le_of_ble_eq_true rfl) (loc := [_, _, _, _]) rfl ?_
  refine xx_aload_n (q := 1) rfl rfl rfl ?_
  refine xx_iload_n (q := 2) rfl rfl rfl ?_
  refine xx_callV (q := 5) (As := [_]) (rest := []) rfl rfl rfl (Or.inl rfl) rfl rfl (Nat.le_of_ble_eq_true rfl) (xSc_0 hc) (XCm (c_hasLock hR hc hK hI lock) rfl) rfl ?_
  refine xx_ifb_eq (q := 18) (q2 := 8) rfl rfl rfl (fun h5 => ?_) (fun h5 => ?_)
  · refine xx_iconst (q := 19) rfl rfl (by decide) ?_
    refine xx_iret rfl trivial ⟨congrArg (fun z => some (Sum.inl z)) (by unfold pulR; rw [if_neg (fun q => h5 q.1)]), _, rfl, ?_⟩
    refine ⟨?_, Fr.rf⟩
    have e : pulT K lock m = K := if_neg (fun q => h5 q.1)
    rw [e]
    exact hK
  · refine xx_iload_n (q := 9) rfl rfl rfl ?_
    refine xx_iconst (q := 10) rfl rfl (by decide) ?_
    refine xx_bipush (q := 12) rfl rfl (by decide) ?_
    refine xx_callS (q := 15) (As := [_, _, _]) (rest := []) rfl rfl rfl (Or.inr rfl) rfl rfl (Nat.le_of_ble_eq_true rfl) (XCm (c_within m 1 9) rfl) rfl ?_
    refine xx_ifb_ne (q := 20) (q2 := 18) rfl rfl rfl (fun h15 => ?_) (fun h15 => ?_)
    · refine xx_aload_n (q := 21) rfl rfl rfl ?_
      refine xx_getR (q := 24) rfl rfl rfl (xSc_0 hc) (Nat.le_of_ble_eq_true rfl) rfl (rc_past hR ht) ?_
      refine xx_ifnullN (q := 35) rfl rfl ?_
      refine xx_iconst (q := 36) rfl rfl (by decide) ?_
      refine xx_istore_n (q := 37) (loc2 := [_, _, _, _]) rfl rfl (Nat.le_of_ble_eq_true rfl) rfl ?_
      have e : pulT K lock m = pulL m.toNat K lock := if_pos ⟨h5, h15⟩
      have e2 : pulR K lock m = (pulN m.toNat K lock : Int) := if_pos ⟨h5, h15⟩
      rw [e, e2]
      have hle := pulN_le m.toNat K lock
      refine c_pul_T hR ht lock m (by omega) (by omega) m.toNat K D 0 hK hI Fr.rf (by omega) (by omega) (by omega) (fun D2 hK2 hI2 hF2 => ?_)
      have e3 : (0 : Int) + (pulN m.toNat K lock : Int) = (pulN m.toNat K lock : Int) := by omega
      rw [e3]
      exact c_prest_T hR ht lock m _ (by omega) (by omega) (by omega) hK2 hI2 hF2
    · refine xx_iconst (q := 19) rfl rfl (by decide) ?_
      refine xx_iret rfl trivial ⟨congrArg (fun z => some (Sum.inl z)) (by unfold pulR; rw [if_neg (fun q => h15 q.2)]), _, rfl, ?_⟩
      refine ⟨?_, Fr.rf⟩
      have e : pulT K lock m = K := if_neg (fun q => h15 q.2)
      rw [e]
      exact hK
def pullb (K : KK) (lock m b : Int) : Int := if pulP K lock m then pulb (pulN m.toNat K lock) b else b
def pullB (K : KK) (lock m b : Int) (B : Nat → Int) : Nat → Int := if pulP K lock m then pulB (pulL m.toNat K lock) (pulN m.toNat K lock) lock b B else B
def pullU (K : KK) (lock m b : Int) (U : UU) : UU := if pulP K lock m then kepU K b U else U
set_option maxHeartbeats 1000000 in
theorem c_pullN {n : Nat} {R : Nat → Nat → Option Nat} {D0 D K : KK} {b : Int} {B : Nat → Int} {U : UU} (hR : RF R) (hW : NWd K b B U D0 D) (hI : KI K) (lock m : Int) : ∃ D', XC 9 16 [.inr (some 27), .inl lock, .inl m] (xS n, R, D) (some (.inl (pulR K lock m))) (xS n, R, D') ∧ NWd (pulT K lock m) (pullb K lock m b) (pullB K lock m b B) (pullU K lock m b U) D0 D' := by
  have hbL := ki_L hI
  refine XE_of (Nat.le_of_ble_eq_true rfl) (Nat.le_of_ble_eq_true rfl) (loc := [_, _, _, _]) rfl ?_
  refine xx_aload_n (q := 1) rfl rfl rfl ?_
  refine xx_iload_n (q := 2) rfl rfl rfl ?_
  refine xx_callV (q := 5) (As := [_]) (rest := []) rfl rfl rfl (Or.inl rfl) rfl rfl (Nat.le_of_ble_eq_true rfl) (xSc_0 isC_27) (XCm (c_hasLock hR isC_27 hW.1 hI lock) rfl) rfl ?_
  refine xx_ifb_eq (q := 18) (q2 := 8) rfl rfl rfl (fun h5 => ?_) (fun h5 => ?_)
  · refine xx_iconst (q := 19) rfl rfl (by decide) ?_
    refine xx_iret rfl trivial ⟨congrArg (fun z => some (Sum.inl z)) (by unfold pulR; rw [if_neg (fun q => h5 q.1)]), _, rfl, ?_⟩
    unfold pulT pullb pullB pullU
    rw [if_neg (fun q => h5 q.1), if_neg (fun q => h5 q.1), if_neg (fun q => h5 q.1), if_neg (fun q => h5 q.1)]
    exact hW
  · refine xx_iload_n (q := 9) rfl rfl rfl ?_
    refine xx_iconst (q := 10) rfl rfl (by decide) ?_
    refine xx_bipush (q := 12) rfl rfl (by decide) ?_
    refine xx_callS (q := 15) (As := [_, _, _]) (rest := []) rfl rfl rfl (Or.inr rfl) rfl rfl (Nat.le_of_ble_eq_true rfl) (XCm (c_within m 1 9) rfl) rfl ?_
    refine xx_ifb_ne (q := 20) (q2 := 18) rfl rfl rfl (fun h15 => ?_) (fun h15 => ?_)
    · refine xx_aload_n (q := 21) rfl rfl rfl ?_
      refine xx_getR (q := 24) rfl rfl rfl (xSc_0 isC_27) (Nat.le_of_ble_eq_true rfl) rfl (hR.1 27 16 rfl) ?_
      refine xx_ifnull (q := 27) rfl rfl ?_
      refine xx_aload_n (q := 28) rfl rfl rfl ?_
      refine xx_getR (q := 31) rfl rfl rfl (xSc_0 isC_27) (Nat.le_of_ble_eq_true rfl) rfl (hR.1 27 16 rfl) ?_
      refine xx_aload_n (q := 32) rfl rfl rfl ?_
      obtain ⟨D1, hx1, hW1⟩ := c_keep (n := n) hR hW hI
      refine xx_callV (q := 35) (As := [_]) (rest := []) rfl rfl rfl (Or.inl rfl) rfl rfl (Nat.le_of_ble_eq_true rfl) xS_86 (XCm hx1 rfl) rfl ?_
      refine xx_iconst (q := 36) rfl rfl (by decide) ?_
      refine xx_istore_n (q := 37) (loc2 := [_, _, _, _]) rfl rfl (Nat.le_of_ble_eq_true rfl) rfl ?_
      have e2 : pulR K lock m = (pulN m.toNat K lock : Int) := if_pos ⟨h5, h15⟩
      unfold pulT pullb pullB pullU
      rw [e2, if_pos ⟨h5, h15⟩, if_pos ⟨h5, h15⟩, if_pos ⟨h5, h15⟩, if_pos ⟨h5, h15⟩]
      have hle := pulN_le m.toNat K lock
      refine c_pul_N hR lock m (by omega) (by omega) m.toNat K _ 0 hW1 hI (by omega) (by omega) (by omega) (fun D2 hW2 hI2 => ?_)
      have e3 : (0 : Int) + (pulN m.toNat K lock : Int) = (pulN m.toNat K lock : Int) := by omega
      rw [e3]
      exact c_prest_N hR lock m _ (by omega) (by omega) (by omega) hW2 hI2
    · refine xx_iconst (q := 19) rfl rfl (by decide) ?_
      refine xx_iret rfl trivial ⟨congrArg (fun z => some (Sum.inl z)) (by unfold pulR; rw [if_neg (fun q => h15 q.2)]), _, rfl, ?_⟩
      unfold pulT pullb pullB pullU
      rw [if_neg (fun q => h15 q.2), if_neg (fun q => h15 q.2), if_neg (fun q => h15 q.2), if_neg (fun q => h15 q.2)]
      exact hW
