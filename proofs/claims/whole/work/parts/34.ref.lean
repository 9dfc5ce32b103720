/-! The reference: pulls, hours. -/
theorem twd_hld {v to : Int} (h : -99 ≤ v ∧ v ≤ 99) (h2 : -99 ≤ to ∧ to ≤ 99) : twdF v to = hld (v + cmpF to v) := by grind [twdF, hld, cmpF]
theorem twd_0 {v : Int} : twdF v 0 = v - cmpF v 0 := by grind [twdF, cmpF]
def rlb (t : Int) (K : KK) (lock m b : Int) : Int := if (pulN m.toNat K lock : Int) ≤ 0 then b else tb t b
def rlB (t : Int) (K : KK) (lock m b : Int) (B : Nat → Int) : Nat → Int := if (pulN m.toNat K lock : Int) ≤ 0 then B else tB t (pulL m.toNat K lock) b B 2 lock (-1) ((pulN m.toNat K lock : Int) * (pulL m.toNat K lock) 2 lock.toNat)
set_option maxHeartbeats 1000000 in
theorem r_pul_L {n : Nat} {R : Nat → Nat → Option Nat} {t : Int} {D0 : KK} {b : Int} {B : Nat → Int} {U : UU} {Q : XQ} (hR : RF R) (lock m : Int) (h0 : 0 ≤ lock) (hm : m ≤ 9) : ∀ (k : Nat) (K D : KK) (tt : Int), RV t K b B U D0 D → KI K → lock < K 0 0 → 0 ≤ tt → tt + k = m → (∀ D2, RV t (pulL k K lock) b B U D0 D2 → KI (pulL k K lock) → XX (XC 3) 244 Q 41 [some (.inr (some 479)), some (.inl lock), some (.inl m), some (.inl (tt + pulN k K lock))] [] (xS n, R, D2)) → XX (XC 3) 244 (Q) 6 [some (.inr (some 479)), some (.inl lock), some (.inl m), some (.inl tt)] [] (xS n, R, D) := by
  intro k
  induction k using Nat.strongRecOn with
  | ind k ih =>
  intro K D tt hV hI h1 h2 hk kx
  have hbL := ki_L hI
  refine xx_iload_n (q := 7) rfl rfl rfl ?_
  refine xx_iload_n (q := 8) rfl rfl rfl ?_
  refine xx_icmp_ge (q := 41) (q2 := 11) rfl rfl rfl (fun h8 => ?_) (fun h8 => ?_)
  · obtain rfl : k = 0 := by omega
    have e : tt + ((pulN 0 K lock : Nat) : Int) = tt := by show tt + 0 = tt; omega
    rw [e] at kx
    exact kx _ hV hI
  · refine xx_aload_n (q := 12) rfl rfl rfl ?_
    refine xx_iload_n (q := 13) rfl rfl rfl ?_
    refine xx_callV (q := 16) (As := [_]) (rest := []) rfl rfl rfl (Or.inl rfl) rfl rfl (Nat.le_of_ble_eq_true rfl) xS_479 (XCm (r_depthOf hR hV hI lock (by omega) (by omega)) rfl) rfl ?_
    have hb1 := ki_1 hI (lock).toNat
    refine xx_aload_n (q := 17) rfl rfl rfl ?_
    refine xx_iload_n (q := 18) rfl rfl rfl ?_
    refine xx_callV (q := 21) (As := [_]) (rest := [_]) rfl rfl rfl (Or.inl rfl) rfl rfl (Nat.le_of_ble_eq_true rfl) xS_479 (XCm (r_fillOf hR hV hI lock (by omega) (by omega)) rfl) rfl ?_
    have hb2 := ki_2 hI (lock).toNat
    refine xx_icmp_lt (q := 41) (q2 := 24) rfl rfl rfl (fun h21 => ?_) (fun h21 => ?_)
    · obtain ⟨k, rfl⟩ : ∃ k2, k = k2 + 1 := ⟨k - 1, by omega⟩
      have e1 : pulL (k + 1) K lock = K := if_pos h21
      have e2 : pulN (k + 1) K lock = 0 := if_pos h21
      rw [e1, e2] at kx
      have e : tt + ((0 : Nat) : Int) = tt := by omega
      rw [e] at kx
      exact kx _ hV hI
    · refine xx_aload_n (q := 25) rfl rfl rfl ?_
      refine xx_iload_n (q := 26) rfl rfl rfl ?_
      refine xx_aload_n (q := 27) rfl rfl rfl ?_
      refine xx_iload_n (q := 28) rfl rfl rfl ?_
      refine xx_callV (q := 31) (As := [_]) (rest := [_, _]) rfl rfl rfl (Or.inl rfl) rfl rfl (Nat.le_of_ble_eq_true rfl) xS_479 (XCm (r_fillOf hR hV hI lock (by omega) (by omega)) rfl) rfl ?_
      have hb3 := ki_2 hI (lock).toNat
      obtain ⟨D4, hx4, hV4⟩ := r_flows (n := n) hR hV hI lock (K 2 (lock).toNat) (by omega) (by omega) (by omega) (by omega) (by omega)
      have hI4 : KI (flowF K lock (K 2 (lock).toNat)) := flowF_I hI (by omega) (by omega)
      refine xx_callV (q := 34) (As := [_, _]) (rest := []) rfl rfl rfl (Or.inl rfl) rfl rfl (Nat.le_of_ble_eq_true rfl) xS_479 (XCm hx4 rfl) rfl ?_
      refine xx_iload_n (q := 35) rfl rfl rfl ?_
      refine xx_iconst (q := 36) rfl rfl (by decide) ?_
      refine xx_iaddR (q := 37) rfl rfl (by omega) (by omega) ?_
      refine xx_istore_n (q := 38) (loc2 := [_, _, _, _]) rfl rfl (Nat.le_of_ble_eq_true rfl) rfl ?_
      refine xx_goto (q := 6) rfl rfl ?_
      obtain ⟨k, rfl⟩ : ∃ k2, k = k2 + 1 := ⟨k - 1, by omega⟩
      have e1 : pulL (k + 1) K lock = pulL k (flowF K lock (K 2 lock.toNat)) lock := if_neg h21
      have e2 : pulN (k + 1) K lock = pulN k (flowF K lock (K 2 lock.toNat)) lock + 1 := if_neg h21
      rw [e1, e2] at kx
      refine ih k (by omega) _ _ (tt + 1) hV4 hI4 (by rw [flowF_k (by decide) (by omega)]; omega) (by omega) (by omega) ?_
      have e : tt + ((pulN k (flowF K lock (K 2 lock.toNat)) lock + 1 : Nat) : Int) = tt + 1 + ((pulN k (flowF K lock (K 2 lock.toNat)) lock : Nat) : Int) := by omega
      rw [e] at kx
      exact kx
set_option maxHeartbeats 1000000 in
theorem r_prest {n : Nat} {R : Nat → Nat → Option Nat} {t : Int} {D0 K D : KK} {b : Int} {B : Nat → Int} {U : UU} (hR : RF R) (lock m tt : Int) (h0 : 0 ≤ lock) (h1 : lock < 9) (ht1 : 0 ≤ tt ∧ tt ≤ 9) (hV : RV t K b B U D0 D) (hI : KI K) : XX (XC 3) 244 (XP (some (.inl tt)) (xS n) R (fun D' => RV t K (if tt ≤ 0 then b else tb t b) (if tt ≤ 0 then B else tB t K b B 2 lock (-1) (tt * K 2 lock.toNat)) U D0 D')) 41 [some (.inr (some 479)), some (.inl lock), some (.inl m), some (.inl tt)] [] (xS n, R, D) := by
  refine xx_iload_n (q := 42) rfl rfl rfl ?_
  refine xx_if_le (q := 59) (q2 := 45) rfl rfl rfl (fun h42 => ?_) (fun h42 => ?_)
  · refine xx_iload_n (q := 60) rfl rfl rfl ?_
    exact xx_iret rfl trivial ⟨rfl, _, rfl, by rw [if_pos h42, if_pos h42]; exact hV⟩
  · refine xx_aload_n (q := 46) rfl rfl rfl ?_
    refine xx_iconst (q := 47) rfl rfl (by decide) ?_
    refine xx_iload_n (q := 48) rfl rfl rfl ?_
    refine xx_iconst (q := 49) rfl rfl (by decide) ?_
    refine xx_iload_n (q := 50) rfl rfl rfl ?_
    refine xx_aload_n (q := 51) rfl rfl rfl ?_
    refine xx_iload_n (q := 52) rfl rfl rfl ?_
    refine xx_callV (q := 55) (As := [_]) (rest := [_, _, _, _, _]) rfl rfl rfl (Or.inl rfl) rfl rfl (Nat.le_of_ble_eq_true rfl) xS_479 (XCm (r_fillOf hR hV hI lock (by omega) (by omega)) rfl) rfl ?_
    have hb1 := ki_2 hI (lock).toNat
    have hmm := mul_c hb1 ht1
    refine xx_imulR (q := 56) rfl rfl (by omega) (by omega) ?_
    obtain ⟨D2, hx2, hV2⟩ := r_notes (n := n) hR hV hI 2 lock (-1) (tt * (K 2 (lock).toNat))
    refine xx_callV (q := 59) (As := [_, _, _, _]) (rest := []) rfl rfl rfl (Or.inl rfl) rfl rfl (Nat.le_of_ble_eq_true rfl) xS_479 (XCm hx2 rfl) rfl ?_
    refine xx_iload_n (q := 60) rfl rfl rfl ?_
    exact xx_iret rfl trivial ⟨rfl, _, rfl, by rw [if_neg h42, if_neg h42]; exact hV2⟩
set_option maxHeartbeats 1000000 in
theorem r_pulls {n : Nat} {R : Nat → Nat → Option Nat} {t : Int} {K D0 D : KK} {b : Int} {B : Nat → Int} {U : UU} (hR : RF R) (hV : RV t K b B U D0 D) (hI : KI K) (lock m : Int) (hp : pulP K lock m) : ∃ D', XC 4 244 [.inr (some 479), .inl lock, .inl m] (xS n, R, D) (some (.inl (pulN m.toNat K lock : Int))) (xS n, R, D') ∧ RV t (pulL m.toNat K lock) (rlb t K lock m b) (rlB t K lock m b B) (tU t K b U) D0 D' := by
  have hbL := ki_L hI
  have hle := pulN_le m.toNat K lock
  refine XE_of (Nat.le_of_ble_eq_true rfl) (Nat.le_of_ble_eq_true rfl) (loc := [_, _, _, _]) rfl ?_
  refine xx_aload_n (q := 1) rfl rfl rfl ?_
  obtain ⟨D1, hx1, hV1⟩ := r_keepsAhead (n := n) hR hV hI
  refine xx_callV (q := 4) (As := []) (rest := []) rfl rfl rfl (Or.inl rfl) rfl rfl (Nat.le_of_ble_eq_true rfl) xS_479 (XCm hx1 rfl) rfl ?_
  refine xx_iconst (q := 5) rfl rfl (by decide) ?_
  refine xx_istore_n (q := 6) (loc2 := [_, _, _, _]) rfl rfl (Nat.le_of_ble_eq_true rfl) rfl ?_
  refine r_pul_L hR lock m (by omega) (by omega) m.toNat K _ 0 hV1 hI (by omega) (by omega) (by omega) (fun D2 hV2 hI2 => ?_)
  have e3 : (0 : Int) + (pulN m.toNat K lock : Int) = (pulN m.toNat K lock : Int) := by omega
  rw [e3]
  exact r_prest hR lock m _ (by omega) (by omega) (by omega) hV2 hI2
set_option maxHeartbeats 1000000 in
theorem r_draw {n : Nat} {R : Nat → Nat → Option Nat} {t : Int} {K D0 D : KK} {b : Int} {B : Nat → Int} {U : UU} (hR : RF R) (hV : RV t K b B U D0 D) (hI : KI K) : ∃ D', XC 1 170 [.inr (some 479), .inl 1000] (xS n, R, D) (some (.inl (xrem (xushr (drwF K) 8) 1000))) (xS n, R, D') ∧ RV t (xui K 0 3 (drwF K)) b B U D0 D' := by
  refine XE_of (Nat.le_of_ble_eq_true rfl) (Nat.le_of_ble_eq_true rfl) (loc := [_, _]) rfl ?_
  refine xx_aload_n (q := 1) rfl rfl rfl ?_
  refine xx_getR (q := 4) rfl rfl rfl xS_479 (Nat.le_of_ble_eq_true rfl) rfl (hR.1 479 1 rfl) ?_
  refine xx_iconst (q := 5) rfl rfl (by decide) ?_
  refine xx_ldc (q := 7) rfl rfl rfl ?_
  refine xx_aload_n (q := 8) rfl rfl rfl ?_
  refine xx_getR (q := 11) rfl rfl rfl xS_479 (Nat.le_of_ble_eq_true rfl) rfl (hR.1 479 1 rfl) ?_
  refine xx_iconst (q := 12) rfl rfl (by decide) ?_
  refine xx_iaz (v := K 0 3) (q := 13) rfl rfl xS_480 (by omega) (by omega) (rv_d hV) ?_
  refine xx_imul (q := 14) rfl rfl ?_
  refine xx_ldc (q := 16) rfl rfl rfl ?_
  refine xx_iadd (q := 17) rfl rfl ?_
  refine xr_isz (RV t (xui K 0 3 (nrm ((nrm (1664525 * (K 0 3))) + 1013904223))) b B U D0) (q := 18) rfl rfl xS_480 (by omega) (by omega) (rs_d hV) (fun D2 hV2 => ?_)
  have hs2 : (xui K 0 3 (nrm ((nrm (1664525 * (K 0 3))) + 1013904223))) 0 3 = (nrm ((nrm (1664525 * (K 0 3))) + 1013904223)) := xui_s
  have hI2 : KI (xui K 0 3 (nrm ((nrm (1664525 * (K 0 3))) + 1013904223))) := KI_up hI (nrm_lo _) (nrm_hi _)
  refine xx_aload_n (q := 19) rfl rfl rfl ?_
  refine xx_getR (q := 22) rfl rfl rfl xS_479 (Nat.le_of_ble_eq_true rfl) rfl (hR.1 479 1 rfl) ?_
  refine xx_iconst (q := 23) rfl rfl (by decide) ?_
  refine xx_iaz (v := nrm ((nrm (1664525 * (K 0 3))) + 1013904223)) (q := 24) rfl rfl xS_480 (by omega) (by omega) ((rv_d hV2).trans xui_s) ?_
  refine xx_bipush (q := 26) rfl rfl (by decide) ?_
  refine xx_iushr (q := 27) rfl rfl ?_
  refine xx_iload_n (q := 28) rfl rfl rfl ?_
  have hu8 := xushr_8 (nrm (nrm (1664525 * K 0 3) + 1013904223))
  refine xx_irem (q := 29) rfl rfl (by omega) ?_
  refine xx_iret rfl trivial ⟨congrArg (fun z => some (Sum.inl z)) (by unfold drwF; rw [Int.mul_comm (K 0 3)]), _, rfl, ?_⟩
  have e : drwF K = nrm (nrm (1664525 * K 0 3) + 1013904223) := by unfold drwF; rw [Int.mul_comm]
  rw [e]
  exact hV2
def trK (t : Int) (K : KK) : KK := if t = 0 then ranK K else K
def trb (t : Int) (K : KK) (b : Int) : Int := if t = 0 then ranb K b else b
def trB (t : Int) (K : KK) (b : Int) (B : Nat → Int) : Nat → Int := if t = 0 then ranB K b B else B
theorem xui_3 {K : KK} {v : Int} {o j : Nat} (h : o = 0 → j ≠ 3) : xui K 0 3 v o j = K o j := if_neg (fun q => h q.1 q.2)
theorem trK_I {t : Int} {K : KK} (h : KI K) : KI (trK t K) := by
  unfold trK
  split
  · exact ranK_I h
  · exact h
theorem trK_k {t : Int} {K : KK} {o j : Nat} (h : o ≠ 1) (h2 : o = 0 → j ≠ 2 ∧ j ≠ 3) : trK t K o j = K o j := by
  unfold trK
  split
  · exact ranK_k h h2
  · rfl
set_option maxHeartbeats 1000000 in
theorem r_doesRain {n : Nat} {R : Nat → Nat → Option Nat} {t : Int} {K D0 D : KK} {b : Int} {B : Nat → Int} {U : UU} (hR : RF R) (hV : RV t K b B U D0 D) (hI : KI K) : ∃ D', XC 3 246 [.inr (some 479)] (xS n, R, D) (some (.inl (bi (t = 0 ∧ ranP K)))) (xS n, R, D') ∧ RV t (trK t K) (trb t K b) (trB t K b B) U D0 D' := by
  have hbL := ki_L hI
  have hb60 := ki_6 hI 0
  have hb61 := ki_6 hI 1
  refine XE_of (Nat.le_of_ble_eq_true rfl) (Nat.le_of_ble_eq_true rfl) (loc := [_]) rfl ?_
  refine xx_aload_n (q := 1) rfl rfl rfl ?_
  refine xx_gez (q := 4) rfl rfl rfl xS_479 (Nat.le_of_ble_eq_true rfl) rfl (rv_t hV) ?_
  refine xx_if_ne (q := 32) (q2 := 7) rfl rfl rfl (fun h4 => ?_) (fun h4 => ?_)
  · refine xx_iconst (q := 33) rfl rfl (by decide) ?_
    refine xx_iret rfl (Or.inl rfl) ⟨congrArg (fun z => some (Sum.inl z)) (by exact (bi_f (fun q => h4 q.1)).symm), _, rfl, ?_⟩
    have e1 : trK t K = K := if_neg h4
    have e2 : trb t K b = b := if_neg h4
    have e3 : trB t K b B = B := if_neg h4
    rw [e1, e2, e3]
    exact hV
  · refine xx_aload_n (q := 8) rfl rfl rfl ?_
    refine xx_getR (q := 11) rfl rfl rfl xS_479 (Nat.le_of_ble_eq_true rfl) rfl (hR.1 479 15 rfl) ?_
    refine xx_iconst (q := 12) rfl rfl (by decide) ?_
    refine xx_iaz (v := K 6 0) (q := 13) rfl rfl xS_490 (by omega) (by omega) (rv_490 hV (p := 0) (by omega) (by omega)) ?_
    have hb1 : 0 ≤ K 6 0 ∧ K 6 0 ≤ 1000 := by have h := ki_6 hI 0; exact h
    refine xx_if_eq (q := 32) (q2 := 16) rfl rfl rfl (fun h13 => ?_) (fun h13 => ?_)
    · refine xx_iconst (q := 33) rfl rfl (by decide) ?_
      refine xx_iret rfl (Or.inl rfl) ⟨congrArg (fun z => some (Sum.inl z)) (by exact (bi_f (fun q => by omega)).symm), _, rfl, ?_⟩
      have q0 : ¬ 0 < K 6 0 := by omega
      have e1 : trK t K = K := (if_pos h4).trans (if_neg q0)
      have e2 : trb t K b = b := (if_pos h4).trans (if_neg (fun q => q0 q.1))
      have e3 : trB t K b B = B := (if_pos h4).trans (if_neg (fun q => q0 q.1))
      rw [e1, e2, e3]
      exact hV
    · refine xx_aload_n (q := 17) rfl rfl rfl ?_
      refine xx_sipush (q := 20) rfl rfl (by decide) ?_
      obtain ⟨D2, hx2, hV2⟩ := r_draw (n := n) hR hV hI
      have hI2 : KI (xui K 0 3 (drwF K)) := KI_up hI (nrm_lo _) (nrm_hi _)
      refine xx_callV (q := 23) (As := [_]) (rest := []) rfl rfl rfl (Or.inl rfl) rfl rfl (Nat.le_of_ble_eq_true rfl) xS_479 (XCm hx2 rfl) rfl ?_
      refine xx_aload_n (q := 24) rfl rfl rfl ?_
      refine xx_getR (q := 27) rfl rfl rfl xS_479 (Nat.le_of_ble_eq_true rfl) rfl (hR.1 479 15 rfl) ?_
      refine xx_iconst (q := 28) rfl rfl (by decide) ?_
      refine xx_iaz (v := K 6 0) (q := 29) rfl rfl xS_490 (by omega) (by omega) ((rv_490 hV2 (p := 0) (by omega) (by omega)).trans (xui_3 (by omega))) ?_
      have hb3 : 0 ≤ K 6 0 ∧ K 6 0 ≤ 1000 := by rw [← show (xui K 0 3 (drwF K)) 6 0 = K 6 0 from xui_3 (by omega)]; exact ki_6 hI2 0
      refine xx_icmp_lt (q := 34) (q2 := 32) rfl rfl rfl (fun h29 => ?_) (fun h29 => ?_)
      · refine xx_aload_n (q := 35) rfl rfl rfl ?_
        refine xx_iconst (q := 36) rfl rfl (by decide) ?_
        refine xx_aload_n (q := 37) rfl rfl rfl ?_
        refine xx_getR (q := 40) rfl rfl rfl xS_479 (Nat.le_of_ble_eq_true rfl) rfl (hR.1 479 15 rfl) ?_
        refine xx_iconst (q := 41) rfl rfl (by decide) ?_
        refine xx_iaz (v := K 6 1) (q := 42) rfl rfl xS_490 (by omega) (by omega) ((rv_490 hV2 (p := 1) (by omega) (by omega)).trans (xui_3 (by omega))) ?_
        have hb4 : 0 ≤ K 6 1 ∧ K 6 1 ≤ 1000 := by rw [← show (xui K 0 3 (drwF K)) 6 1 = K 6 1 from xui_3 (by omega)]; exact ki_6 hI2 1
        have hL5 : (xui K 0 3 (drwF K)) 0 0 = K 0 0 := xui_3 (by omega)
        have hL6 : (xui K 0 3 (drwF K)) 13 0 = K 13 0 := xui_3 (by omega)
        obtain ⟨D7, hx7, hV7⟩ := r_pours (n := n) hR hV2 hI2 0 (K 6 1) (by omega) (by omega) (by omega) (by omega)
        have hI7 : KI (comeF (xui K 0 3 (drwF K)) 0 (K 6 1)) := comeF_I hI2 (by omega)
        refine xx_callV (q := 45) (As := [_, _]) (rest := []) rfl rfl rfl (Or.inl rfl) rfl rfl (Nat.le_of_ble_eq_true rfl) xS_479 (XCm hx7 rfl) rfl ?_
        refine xx_aload_n (q := 46) rfl rfl rfl ?_
        refine xx_iconst (q := 47) rfl rfl (by decide) ?_
        refine xx_iconst (q := 48) rfl rfl (by decide) ?_
        refine xx_iconst (q := 49) rfl rfl (by decide) ?_
        refine xx_aload_n (q := 50) rfl rfl rfl ?_
        refine xx_getR (q := 53) rfl rfl rfl xS_479 (Nat.le_of_ble_eq_true rfl) rfl (hR.1 479 15 rfl) ?_
        refine xx_iconst (q := 54) rfl rfl (by decide) ?_
        refine xx_iaz (v := K 6 1) (q := 55) rfl rfl xS_490 (by omega) (by omega) ((rv_490 hV7 (p := 1) (by omega) (by omega)).trans ((comeL_k _ _ _ _ _ _ (by decide) (by omega)).trans (xui_3 (by omega)))) ?_
        have hb8 : 0 ≤ K 6 1 ∧ K 6 1 ≤ 1000 := by rw [← show (comeF (xui K 0 3 (drwF K)) 0 (K 6 1)) 6 1 = K 6 1 from (comeL_k _ _ _ _ _ _ (by decide) (by omega)).trans (xui_3 (by omega))]; exact ki_6 hI7 1
        have hL9 : (comeF (xui K 0 3 (drwF K)) 0 (K 6 1)) 0 0 = K 0 0 := (comeL_k _ _ _ _ _ _ (by decide) (by omega)).trans (xui_3 (by omega))
        have hL10 : (comeF (xui K 0 3 (drwF K)) 0 (K 6 1)) 13 0 = K 13 0 := (comeL_k _ _ _ _ _ _ (by decide) (by omega)).trans (xui_3 (by omega))
        obtain ⟨D11, hx11, hV11⟩ := r_notes (n := n) hR hV7 hI7 3 (-1) (-1) (K 6 1)
        refine xx_callV (q := 58) (As := [_, _, _, _]) (rest := []) rfl rfl rfl (Or.inl rfl) rfl rfl (Nat.le_of_ble_eq_true rfl) xS_479 (XCm hx11 rfl) rfl ?_
        refine xx_iconst (q := 59) rfl rfl (by decide) ?_
        refine xx_iret rfl (Or.inr rfl) ⟨congrArg (fun z => some (Sum.inl z)) (by exact (bi_t ⟨h4, by omega, h29⟩).symm), _, rfl, ?_⟩
        have q0 : 0 < K 6 0 := by omega
        have e4 : (comeF (xui K 0 3 (drwF K)) 0 (K 6 1)) 0 1 = K 0 1 := (comeL_k _ _ _ _ _ _ (by decide) (by omega)).trans (xui_3 (by omega))
        have e1 : trK t K = (comeF (xui K 0 3 (drwF K)) 0 (K 6 1)) := (if_pos h4).trans (by unfold ranK; rw [if_pos q0]; exact if_pos h29)
        have e2 : trb t K b = tb t b := (if_pos h4).trans ((if_pos ⟨q0, h29⟩).trans (if_pos h4).symm)
        have e3 : trB t K b B = tB t (comeF (xui K 0 3 (drwF K)) 0 (K 6 1)) b B 3 (-1) (-1) (K 6 1) := (if_pos h4).trans ((if_pos ⟨q0, h29⟩).trans (by unfold tB; rw [if_pos h4, e4]))
        rw [e1, e2, e3]
        exact hV11
      · refine xx_iconst (q := 33) rfl rfl (by decide) ?_
        refine xx_iret rfl (Or.inl rfl) ⟨congrArg (fun z => some (Sum.inl z)) (by exact (bi_f (fun q => h29 q.2.2)).symm), _, rfl, ?_⟩
        have q0 : 0 < K 6 0 := by omega
        have e1 : trK t K = (xui K 0 3 (drwF K)) := (if_pos h4).trans (by unfold ranK; rw [if_pos q0]; exact if_neg h29)
        have e2 : trb t K b = b := (if_pos h4).trans (if_neg (fun q => h29 q.2))
        have e3 : trB t K b B = B := (if_pos h4).trans (if_neg (fun q => h29 q.2))
        rw [e1, e2, e3]
        exact hV2
set_option maxHeartbeats 1000000 in
theorem r_lek_L {n : Nat} {R : Nat → Nat → Option Nat} {t : Int} {D0 : KK} {b : Int} {B : Nat → Int} {U : UU} (hR : RF R) : ∀ (k : Nat) (K D : KK) (l : Int) (x : Option XV), RV t K b B U D0 D → KI K → 0 ≤ l → l + k = K 0 0 → XX (XC 3) 247 (XP none (xS n) R (fun D' => RV t (lekL k K l) b B U D0 D')) 2 [some (.inr (some 479)), some (.inl l), x] [] (xS n, R, D) := by
  intro k
  induction k using Nat.strongRecOn with
  | ind k ih =>
  intro K D l x hV hI h1 hk
  have hbL := ki_L hI
  refine xx_iload_n (q := 3) rfl rfl rfl ?_
  refine xx_aload_n (q := 4) rfl rfl rfl ?_
  refine xx_gez (q := 7) rfl rfl rfl xS_479 (Nat.le_of_ble_eq_true rfl) rfl (rv_L hV) ?_
  have hb1 : 1 ≤ K 0 0 ∧ K 0 0 ≤ 9 := by have h := ki_L hI; exact h
  refine xx_icmp_ge (q := 51) (q2 := 10) rfl rfl rfl (fun h7 => ?_) (fun h7 => ?_)
  · obtain rfl : k = 0 := by omega
    exact xx_vret rfl rfl ⟨rfl, _, rfl, hV⟩
  · obtain ⟨k, rfl⟩ : ∃ k2, k = k2 + 1 := ⟨k - 1, by omega⟩
    refine xx_aload_n (q := 11) rfl rfl rfl ?_
    refine xx_getR (q := 14) rfl rfl rfl xS_479 (Nat.le_of_ble_eq_true rfl) rfl (hR.1 479 9 rfl) ?_
    refine xx_iload_n (q := 15) rfl rfl rfl ?_
    refine xx_iaz (v := K 3 (l).toNat) (q := 16) rfl rfl xS_484 (by omega) (by omega) (rv_484 hV (p := l) (by omega) (by omega)) ?_
    have hb2 : 0 ≤ K 3 (l).toNat ∧ K 3 (l).toNat ≤ 9 := by have h := ki_3 hI (l).toNat; exact h
    refine xx_aload_n (q := 17) rfl rfl rfl ?_
    refine xx_iload_n (q := 18) rfl rfl rfl ?_
    refine xx_callV (q := 21) (As := [_]) (rest := [_]) rfl rfl rfl (Or.inl rfl) rfl rfl (Nat.le_of_ble_eq_true rfl) xS_479 (XCm (r_depthOf hR hV hI l (by omega) (by omega)) rfl) rfl ?_
    have hb3 := ki_1 hI (l).toNat
    refine xx_icmp_ge (q := 33) (q2 := 24) rfl rfl rfl (fun h21 => ?_) (fun h21 => ?_)
    · refine xx_aload_n (q := 34) rfl rfl rfl ?_
      refine xx_iload_n (q := 35) rfl rfl rfl ?_
      refine xx_callV (q := 38) (As := [_]) (rest := []) rfl rfl rfl (Or.inl rfl) rfl rfl (Nat.le_of_ble_eq_true rfl) xS_479 (XCm (r_depthOf hR hV hI l (by omega) (by omega)) rfl) rfl ?_
      have hb4 := ki_1 hI (l).toNat
      refine xx_istore_n (q := 39) (loc2 := [_, _, _]) rfl rfl (Nat.le_of_ble_eq_true rfl) rfl ?_
      refine xx_aload_n (q := 40) rfl rfl rfl ?_
      refine xx_iload_n (q := 41) rfl rfl rfl ?_
      refine xx_iload_n (q := 42) rfl rfl rfl ?_
      obtain ⟨D5, hx5, hV5⟩ := r_flows (n := n) hR hV hI l (K 1 (l).toNat) (by omega) (by omega) (by omega) (by omega) (by omega)
      have hI5 : KI (flowF K l (K 1 (l).toNat)) := flowF_I hI (by omega) (by omega)
      refine xx_callV (q := 45) (As := [_, _]) (rest := []) rfl rfl rfl (Or.inl rfl) rfl rfl (Nat.le_of_ble_eq_true rfl) xS_479 (XCm hx5 rfl) rfl ?_
      refine xx_incz (q := 48) (loc2 := [_, _, _]) rfl rfl rfl (by omega) (by omega) rfl rfl ?_
      refine xx_goto (q := 2) rfl rfl ?_
      have e : lekL (k + 1) K l = lekL k (flowF K l (K 1 (l).toNat)) (l + 1) := by show lekL k (flowF K l (mnF (K 3 l.toNat) (K 1 l.toNat))) _ = _; rw [show mnF (K 3 l.toNat) (K 1 l.toNat) = K 1 (l).toNat by have := mnF_sp (K 3 l.toNat) (K 1 l.toNat); omega]
      rw [e]
      exact ih k (by omega) _ _ _ _ hV5 hI5 (by omega) (by rw [flowF_k (by decide) (by omega)]; omega)
    · refine xx_aload_n (q := 25) rfl rfl rfl ?_
      refine xx_getR (q := 28) rfl rfl rfl xS_479 (Nat.le_of_ble_eq_true rfl) rfl (hR.1 479 9 rfl) ?_
      refine xx_iload_n (q := 29) rfl rfl rfl ?_
      refine xx_iaz (v := K 3 (l).toNat) (q := 30) rfl rfl xS_484 (by omega) (by omega) (rv_484 hV (p := l) (by omega) (by omega)) ?_
      have hb6 : 0 ≤ K 3 (l).toNat ∧ K 3 (l).toNat ≤ 9 := by have h := ki_3 hI (l).toNat; exact h
      refine xx_goto (q := 38) rfl rfl ?_
      refine xx_istore_n (q := 39) (loc2 := [_, _, _]) rfl rfl (Nat.le_of_ble_eq_true rfl) rfl ?_
      refine xx_aload_n (q := 40) rfl rfl rfl ?_
      refine xx_iload_n (q := 41) rfl rfl rfl ?_
      refine xx_iload_n (q := 42) rfl rfl rfl ?_
      obtain ⟨D7, hx7, hV7⟩ := r_flows (n := n) hR hV hI l (K 3 (l).toNat) (by omega) (by omega) (by omega) (by omega) (by omega)
      have hI7 : KI (flowF K l (K 3 (l).toNat)) := flowF_I hI (by omega) (by omega)
      refine xx_callV (q := 45) (As := [_, _]) (rest := []) rfl rfl rfl (Or.inl rfl) rfl rfl (Nat.le_of_ble_eq_true rfl) xS_479 (XCm hx7 rfl) rfl ?_
      refine xx_incz (q := 48) (loc2 := [_, _, _]) rfl rfl rfl (by omega) (by omega) rfl rfl ?_
      refine xx_goto (q := 2) rfl rfl ?_
      have e : lekL (k + 1) K l = lekL k (flowF K l (K 3 (l).toNat)) (l + 1) := by show lekL k (flowF K l (mnF (K 3 l.toNat) (K 1 l.toNat))) _ = _; rw [show mnF (K 3 l.toNat) (K 1 l.toNat) = K 3 (l).toNat by have := mnF_sp (K 3 l.toNat) (K 1 l.toNat); omega]
      rw [e]
      exact ih k (by omega) _ _ _ _ hV7 hI7 (by omega) (by rw [flowF_k (by decide) (by omega)]; omega)
set_option maxHeartbeats 1000000 in
theorem r_leaks {n : Nat} {R : Nat → Nat → Option Nat} {t : Int} {K D0 D : KK} {b : Int} {B : Nat → Int} {U : UU} (hR : RF R) (hV : RV t K b B U D0 D) (hI : KI K) : ∃ D', XC 4 247 [.inr (some 479)] (xS n, R, D) none (xS n, R, D') ∧ RV t (lekL (K 0 0).toNat K 0) b B U D0 D' := by
  have hbL := ki_L hI
  refine XE_of (Nat.le_of_ble_eq_true rfl) (Nat.le_of_ble_eq_true rfl) (loc := [_, _, _]) rfl ?_
  refine xx_iconst (q := 1) rfl rfl (by decide) ?_
  refine xx_istore_n (q := 2) (loc2 := [_, _, _]) rfl rfl (Nat.le_of_ble_eq_true rfl) rfl ?_
  exact r_lek_L hR (K 0 0).toNat K D 0 _ hV hI (by omega) (by omega)
def ttb (t : Int) (K : KK) (b : Int) : Int := if tidP K then tb t b else b
def ttB (t : Int) (K : KK) (b : Int) (B : Nat → Int) : Nat → Int := if tidP K then tB t K b B 4 (-1) (-1) (K 6 3) else B
set_option maxHeartbeats 1000000 in
theorem r_tide {n : Nat} {R : Nat → Nat → Option Nat} {t : Int} {K D0 D : KK} {b : Int} {B : Nat → Int} {U : UU} (hR : RF R) (hV : RV t K b B U D0 D) (hI : KI K) : ∃ D', XC 3 248 [.inr (some 479)] (xS n, R, D) none (xS n, R, D') ∧ RV t (tidT K) (ttb t K b) (ttB t K b B) U D0 D' := by
  have hbL := ki_L hI
  have hb62 := ki_6 hI 2
  have hb6 := ki_6 hI 3
  refine XE_of (Nat.le_of_ble_eq_true rfl) (Nat.le_of_ble_eq_true rfl) (loc := [_]) rfl ?_
  refine xx_aload_n (q := 1) rfl rfl rfl ?_
  refine xx_getR (q := 4) rfl rfl rfl xS_479 (Nat.le_of_ble_eq_true rfl) rfl (hR.1 479 15 rfl) ?_
  refine xx_iconst (q := 5) rfl rfl (by decide) ?_
  refine xx_iaz (v := K 6 2) (q := 6) rfl rfl xS_490 (by omega) (by omega) (rv_490 hV (p := 2) (by omega) (by omega)) ?_
  have hb1 : 0 ≤ K 6 2 ∧ K 6 2 ≤ 1000 := by have h := ki_6 hI 2; exact h
  refine xx_if_eq (q := 27) (q2 := 9) rfl rfl rfl (fun h6 => ?_) (fun h6 => ?_)
  · refine xx_vret rfl rfl ⟨rfl, _, rfl, ?_⟩
    have e1 : tidT K = K := if_neg (fun q => q.1 (by omega))
    have e2 : ttb t K b = b := if_neg (fun q => q.1 (by omega))
    have e3 : ttB t K b B = B := if_neg (fun q => q.1 (by omega))
    rw [e1, e2, e3]
    exact hV
  · refine xx_aload_n (q := 10) rfl rfl rfl ?_
    refine xx_getR (q := 13) rfl rfl rfl xS_479 (Nat.le_of_ble_eq_true rfl) rfl (hR.1 479 1 rfl) ?_
    refine xx_iconst (q := 14) rfl rfl (by decide) ?_
    refine xx_iaz (v := K 0 1) (q := 15) rfl rfl xS_480 (by omega) (by omega) (rv_h hV) ?_
    refine xx_iconst (q := 16) rfl rfl (by decide) ?_
    refine xx_iadd (q := 17) rfl rfl ?_
    refine xx_aload_n (q := 18) rfl rfl rfl ?_
    refine xx_getR (q := 21) rfl rfl rfl xS_479 (Nat.le_of_ble_eq_true rfl) rfl (hR.1 479 15 rfl) ?_
    refine xx_iconst (q := 22) rfl rfl (by decide) ?_
    refine xx_iaz (v := K 6 2) (q := 23) rfl rfl xS_490 (by omega) (by omega) (rv_490 hV (p := 2) (by omega) (by omega)) ?_
    have hb2 : 0 ≤ K 6 2 ∧ K 6 2 ≤ 1000 := by have h := ki_6 hI 2; exact h
    refine xx_irem (q := 24) rfl rfl (by omega) ?_
    refine xx_if_eq (q := 28) (q2 := 27) rfl rfl rfl (fun h24 => ?_) (fun h24 => ?_)
    · refine xx_aload_n (q := 29) rfl rfl rfl ?_
      refine xx_getR (q := 32) rfl rfl rfl xS_479 (Nat.le_of_ble_eq_true rfl) rfl (hR.1 479 1 rfl) ?_
      refine xx_iconst (q := 33) rfl rfl (by decide) ?_
      refine xx_aload_n (q := 34) rfl rfl rfl ?_
      refine xx_getR (q := 37) rfl rfl rfl xS_479 (Nat.le_of_ble_eq_true rfl) rfl (hR.1 479 1 rfl) ?_
      refine xx_iconst (q := 38) rfl rfl (by decide) ?_
      refine xx_iaz (v := K 0 2) (q := 39) rfl rfl xS_480 (by omega) (by omega) (rv_s hV) ?_
      refine xx_aload_n (q := 40) rfl rfl rfl ?_
      refine xx_getR (q := 43) rfl rfl rfl xS_479 (Nat.le_of_ble_eq_true rfl) rfl (hR.1 479 15 rfl) ?_
      refine xx_iconst (q := 44) rfl rfl (by decide) ?_
      refine xx_iaz (v := K 6 3) (q := 45) rfl rfl xS_490 (by omega) (by omega) (rv_490 hV (p := 3) (by omega) (by omega)) ?_
      have hb3 : 0 ≤ K 6 3 ∧ K 6 3 ≤ 1000 := by have h := ki_6 hI 3; exact h
      refine xx_isub (q := 46) rfl rfl ?_
      refine xr_isz (RV t (xui K 0 2 (nrm ((K 0 2) - (K 6 3)))) b B U D0) (q := 47) rfl rfl xS_480 (by omega) (by omega) (rs_s hV) (fun D5 hV5 => ?_)
      have hs5 : (xui K 0 2 (nrm ((K 0 2) - (K 6 3)))) 0 2 = (nrm ((K 0 2) - (K 6 3))) := xui_s
      have hI5 : KI (xui K 0 2 (nrm ((K 0 2) - (K 6 3)))) := KI_up hI (nrm_lo _) (nrm_hi _)
      refine xx_aload_n (q := 48) rfl rfl rfl ?_
      refine xx_aload_n (q := 49) rfl rfl rfl ?_
      refine xx_gez (q := 52) rfl rfl rfl xS_479 (Nat.le_of_ble_eq_true rfl) rfl (rv_L hV5) ?_
      have hb6 : 1 ≤ K 0 0 ∧ K 0 0 ≤ 9 := by have h := ki_L hI5; exact h
      refine xx_aload_n (q := 53) rfl rfl rfl ?_
      refine xx_getR (q := 56) rfl rfl rfl xS_479 (Nat.le_of_ble_eq_true rfl) rfl (hR.1 479 15 rfl) ?_
      refine xx_iconst (q := 57) rfl rfl (by decide) ?_
      refine xx_iaz (v := K 6 3) (q := 58) rfl rfl xS_490 (by omega) (by omega) (rv_490 hV5 (p := 3) (by omega) (by omega)) ?_
      have hb7 : 0 ≤ K 6 3 ∧ K 6 3 ≤ 1000 := by have h := ki_6 hI5 3; exact h
      have hL8 : (xui K 0 2 (nrm ((K 0 2) - (K 6 3)))) 0 0 = K 0 0 := rfl
      have hL9 : (xui K 0 2 (nrm ((K 0 2) - (K 6 3)))) 13 0 = K 13 0 := rfl
      obtain ⟨D10, hx10, hV10⟩ := r_pours (n := n) hR hV5 hI5 (K 0 0) (K 6 3) (by omega) (by omega) (by omega) (by omega)
      have hI10 : KI (comeF (xui K 0 2 (nrm ((K 0 2) - (K 6 3)))) (K 0 0) (K 6 3)) := comeF_I hI5 (by omega)
      refine xx_callV (q := 61) (As := [_, _]) (rest := []) rfl rfl rfl (Or.inl rfl) rfl rfl (Nat.le_of_ble_eq_true rfl) xS_479 (XCm hx10 rfl) rfl ?_
      refine xx_aload_n (q := 62) rfl rfl rfl ?_
      refine xx_iconst (q := 63) rfl rfl (by decide) ?_
      refine xx_iconst (q := 64) rfl rfl (by decide) ?_
      refine xx_iconst (q := 65) rfl rfl (by decide) ?_
      refine xx_aload_n (q := 66) rfl rfl rfl ?_
      refine xx_getR (q := 69) rfl rfl rfl xS_479 (Nat.le_of_ble_eq_true rfl) rfl (hR.1 479 15 rfl) ?_
      refine xx_iconst (q := 70) rfl rfl (by decide) ?_
      refine xx_iaz (v := K 6 3) (q := 71) rfl rfl xS_490 (by omega) (by omega) ((rv_490 hV10 (p := 3) (by omega) (by omega)).trans (comeL_k _ _ _ _ _ _ (by decide) (by omega))) ?_
      have hb11 : 0 ≤ K 6 3 ∧ K 6 3 ≤ 1000 := by rw [← show (comeF (xui K 0 2 (nrm ((K 0 2) - (K 6 3)))) (K 0 0) (K 6 3)) 6 3 = K 6 3 from comeL_k _ _ _ _ _ _ (by decide) (by omega)]; exact ki_6 hI10 3
      have hL12 : (comeF (xui K 0 2 (nrm ((K 0 2) - (K 6 3)))) (K 0 0) (K 6 3)) 0 0 = K 0 0 := comeL_k _ _ _ _ _ _ (by decide) (by omega)
      have hL13 : (comeF (xui K 0 2 (nrm ((K 0 2) - (K 6 3)))) (K 0 0) (K 6 3)) 13 0 = K 13 0 := comeL_k _ _ _ _ _ _ (by decide) (by omega)
      obtain ⟨D14, hx14, hV14⟩ := r_notes (n := n) hR hV10 hI10 4 (-1) (-1) (K 6 3)
      refine xx_callV (q := 74) (As := [_, _, _, _]) (rest := []) rfl rfl rfl (Or.inl rfl) rfl rfl (Nat.le_of_ble_eq_true rfl) xS_479 (XCm hx14 rfl) rfl ?_
      refine xx_vret rfl rfl ⟨rfl, _, rfl, ?_⟩
      have q0 : tidP K := ⟨by omega, h24⟩
      have e1 : tidT K = tidK K := if_pos q0
      have e2 : ttb t K b = tb t b := if_pos q0
      have e4 : (comeF (xui K 0 2 (nrm ((K 0 2) - (K 6 3)))) (K 0 0) (K 6 3)) 0 1 = K 0 1 := comeL_k _ _ _ _ _ _ (by decide) (by omega)
      have e3 : ttB t K b B = tB t (comeF (xui K 0 2 (nrm ((K 0 2) - (K 6 3)))) (K 0 0) (K 6 3)) b B 4 (-1) (-1) (K 6 3) := (if_pos q0).trans (by unfold tB; rw [e4])
      rw [e1, e2, e3]
      exact hV14
    · refine xx_vret rfl rfl ⟨rfl, _, rfl, ?_⟩
      have e1 : tidT K = K := if_neg (fun q => h24 q.2)
      have e2 : ttb t K b = b := if_neg (fun q => h24 q.2)
      have e3 : ttB t K b B = B := if_neg (fun q => h24 q.2)
      rw [e1, e2, e3]
      exact hV
set_option maxHeartbeats 1000000 in
theorem r_gsp_B {n : Nat} {R : Nat → Nat → Option Nat} {t : Int} {D0 : KK} {b : Int} {B : Nat → Int} {U : UU} {Q : XQ} (hR : RF R) (l : Int) (hl : 0 ≤ l) : ∀ (k : Nat) (K D : KK) (c : Int), RV t K b B U D0 D → KI K → l + 1 < K 0 0 → 0 ≤ c → c + k = K 13 0 → (∀ D2 c2, RV t (gspB k K l c) b B U D0 D2 → KI (gspB k K l c) → XX (XC 3) 250 Q 70 [some (.inr (some 479)), some (.inl l), some (.inl c2)] [] (xS n, R, D2)) → XX (XC 3) 250 (Q) 24 [some (.inr (some 479)), some (.inl l), some (.inl c)] [] (xS n, R, D) := by
  intro k
  induction k using Nat.strongRecOn with
  | ind k ih =>
  intro K D c hV hI h0 h1 hk kx
  have hbL := ki_L hI
  have hbB := ki_B hI
  refine xx_iload_n (q := 25) rfl rfl rfl ?_
  refine xx_aload_n (q := 26) rfl rfl rfl ?_
  refine xx_gez (q := 29) rfl rfl rfl xS_479 (Nat.le_of_ble_eq_true rfl) rfl (rv_B hV) ?_
  have hb1 : 0 ≤ K 13 0 ∧ K 13 0 ≤ 6 := by have h := ki_B hI; exact h
  refine xx_icmp_ge (q := 70) (q2 := 32) rfl rfl rfl (fun h29 => ?_) (fun h29 => ?_)
  · obtain rfl : k = 0 := by omega
    exact kx _ _ hV hI
  · obtain ⟨k, rfl⟩ : ∃ k2, k = k2 + 1 := ⟨k - 1, by omega⟩
    have hk1 := ki_12 hI (l * 6 + c).toNat
    have hk2 := ki_12 hI ((l + 1) * 6 + c).toNat
    have htw := twd_hld hk1 hk2
    have hhb := hld_b (K 12 (l * 6 + c).toNat + cmpF (K 12 ((l + 1) * 6 + c).toNat) (K 12 (l * 6 + c).toNat))
    refine xx_aload_n (q := 33) rfl rfl rfl ?_
    refine xx_getR (q := 36) rfl rfl rfl xS_479 (Nat.le_of_ble_eq_true rfl) rfl (hR.1 479 1 rfl) ?_
    refine xx_bipush (q := 38) rfl rfl (by decide) ?_
    refine xx_bipush (q := 40) rfl rfl (by decide) ?_
    refine xx_iload_n (q := 41) rfl rfl rfl ?_
    refine xx_imulR (q := 42) rfl rfl (by omega) (by omega) ?_
    refine xx_iaddR (q := 43) rfl rfl (by omega) (by omega) ?_
    refine xx_iload_n (q := 44) rfl rfl rfl ?_
    refine xx_iaddR (q := 45) rfl rfl (by omega) (by omega) ?_
    refine xx_aload_n (q := 46) rfl rfl rfl ?_
    refine xx_aload_n (q := 47) rfl rfl rfl ?_
    refine xx_iload_n (q := 48) rfl rfl rfl ?_
    refine xx_iload_n (q := 49) rfl rfl rfl ?_
    refine xx_callV (q := 52) (As := [_, _]) (rest := [_, _, _]) rfl rfl rfl (Or.inl rfl) rfl rfl (Nat.le_of_ble_eq_true rfl) xS_479 (XCm (r_likingOf (n := n) hR hV hI l c (by omega) (by omega) (by omega) (by omega)) rfl) rfl ?_
    have hb2 := ki_12 hI (l * 6 + c).toNat
    refine xx_aload_n (q := 53) rfl rfl rfl ?_
    refine xx_iload_n (q := 54) rfl rfl rfl ?_
    refine xx_iconst (q := 55) rfl rfl (by decide) ?_
    refine xx_iaddR (q := 56) rfl rfl (by omega) (by omega) ?_
    refine xx_iload_n (q := 57) rfl rfl rfl ?_
    refine xx_callV (q := 60) (As := [_, _]) (rest := [_, _, _, _]) rfl rfl rfl (Or.inl rfl) rfl rfl (Nat.le_of_ble_eq_true rfl) xS_479 (XCm (r_likingOf (n := n) hR hV hI (l + 1) c (by omega) (by omega) (by omega) (by omega)) rfl) rfl ?_
    have hb3 := ki_12 hI ((l + 1) * 6 + c).toNat
    refine xx_callV (q := 63) (As := [_, _]) (rest := [_, _]) rfl rfl rfl (Or.inl rfl) rfl rfl (Nat.le_of_ble_eq_true rfl) xS_479 (XCm (r_towards (K 12 (l * 6 + c).toNat) (K 12 ((l + 1) * 6 + c).toNat) (by omega) (by omega)) rfl) rfl ?_
    refine xr_isz (RV t (xui K 12 (l * 6 + c).toNat (hld (K 12 (l * 6 + c).toNat + cmpF (K 12 ((l + 1) * 6 + c).toNat) (K 12 (l * 6 + c).toNat)))) b B U D0) (q := 64) rfl rfl xS_480 (by omega) (by omega) (rs_12 (v := hld (K 12 (l * 6 + c).toNat + cmpF (K 12 ((l + 1) * 6 + c).toNat) (K 12 (l * 6 + c).toNat))) (l := l) (c := c) hV hI (by omega) (by omega) (by omega) (by omega) (by omega)) (fun D5 hV5 => ?_)
    have hs5 : (xui K 12 (l * 6 + c).toNat (hld (K 12 (l * 6 + c).toNat + cmpF (K 12 ((l + 1) * 6 + c).toNat) (K 12 (l * 6 + c).toNat)))) 12 (l * 6 + c).toNat = (hld (K 12 (l * 6 + c).toNat + cmpF (K 12 ((l + 1) * 6 + c).toNat) (K 12 (l * 6 + c).toNat))) := xui_s
    have hI5 : KI (xui K 12 (l * 6 + c).toNat (hld (K 12 (l * 6 + c).toNat + cmpF (K 12 ((l + 1) * 6 + c).toNat) (K 12 (l * 6 + c).toNat)))) := KI_up hI (show (-99 : Int) ≤ _ by omega) (show _ ≤ (99 : Int) by omega)
    refine xx_incz (q := 67) (loc2 := [_, _, _]) rfl rfl rfl (by omega) (by omega) rfl rfl ?_
    refine xx_goto (q := 24) rfl rfl ?_
    exact ih k (by omega) _ _ _ hV5 hI5 h0 (by omega) (show _ + _ = K 13 0 by omega) kx
set_option maxHeartbeats 1000000 in
theorem r_gsp_L {n : Nat} {R : Nat → Nat → Option Nat} {t : Int} {D0 : KK} {b : Int} {B : Nat → Int} {U : UU} (hR : RF R) : ∀ (k : Nat) (K D : KK) (l : Int) (x : Option XV), RV t K b B U D0 D → KI K → K 6 4 = 1 → 0 ≤ l → l + k + 1 = K 0 0 → XX (XC 3) 250 (XP none (xS n) R (fun D' => RV t (gspL k K l) b B U D0 D')) 2 [some (.inr (some 479)), some (.inl l), x] [] (xS n, R, D) := by
  intro k
  induction k using Nat.strongRecOn with
  | ind k ih =>
  intro K D l x hV hI hw h1 hk
  have hbL := ki_L hI
  have hbB := ki_B hI
  refine xx_iload_n (q := 3) rfl rfl rfl ?_
  refine xx_iconst (q := 4) rfl rfl (by decide) ?_
  refine xx_iaddR (q := 5) rfl rfl (by omega) (by omega) ?_
  refine xx_aload_n (q := 6) rfl rfl rfl ?_
  refine xx_gez (q := 9) rfl rfl rfl xS_479 (Nat.le_of_ble_eq_true rfl) rfl (rv_L hV) ?_
  have hb1 : 1 ≤ K 0 0 ∧ K 0 0 ≤ 9 := by have h := ki_L hI; exact h
  refine xx_icmp_ge (q := 76) (q2 := 12) rfl rfl rfl (fun h9 => ?_) (fun h9 => ?_)
  · obtain rfl : k = 0 := by omega
    exact xx_vret rfl rfl ⟨rfl, _, rfl, hV⟩
  · refine xx_aload_n (q := 13) rfl rfl rfl ?_
    refine xx_getR (q := 16) rfl rfl rfl xS_479 (Nat.le_of_ble_eq_true rfl) rfl (hR.1 479 15 rfl) ?_
    refine xx_iconst (q := 17) rfl rfl (by decide) ?_
    refine xx_iaz (v := K 6 4) (q := 18) rfl rfl xS_490 (by omega) (by omega) (rv_490 hV (p := 4) (by omega) (by omega)) ?_
    have hb2 : 0 ≤ K 6 4 ∧ K 6 4 ≤ 1000 := by have h := ki_6 hI 4; exact h
    refine xx_iconst (q := 19) rfl rfl (by decide) ?_
    refine xx_icmp_ne (q := 76) (q2 := 22) rfl rfl rfl (fun h19 => ?_) (fun h19 => ?_)
    · exact absurd hw h19
    · obtain ⟨k, rfl⟩ : ∃ k2, k = k2 + 1 := ⟨k - 1, by omega⟩
      refine xx_iconst (q := 23) rfl rfl (by decide) ?_
      refine xx_istore_n (q := 24) (loc2 := [_, _, _]) rfl rfl (Nat.le_of_ble_eq_true rfl) rfl ?_
      refine r_gsp_B hR l (by omega) (K 13 0).toNat _ _ 0 hV hI (by omega) (by omega) (by omega) (fun D2 b2 hV2 hI2 => ?_)
      refine xx_incz (q := 73) (loc2 := [_, _, _]) rfl rfl rfl (by omega) (by omega) rfl rfl ?_
      refine xx_goto (q := 2) rfl rfl ?_
      exact ih k (by omega) _ _ _ _ hV2 hI2 ((gspB_k _ _ _ _ _ _ (by decide)).trans hw) (by omega) (by rw [gspB_k _ _ _ _ _ _ (by decide)]; omega)
set_option maxHeartbeats 1000000 in
theorem r_gossips {n : Nat} {R : Nat → Nat → Option Nat} {t : Int} {K D0 D : KK} {b : Int} {B : Nat → Int} {U : UU} (hR : RF R) (hV : RV t K b B U D0 D) (hI : KI K) : ∃ D', XC 4 250 [.inr (some 479)] (xS n, R, D) none (xS n, R, D') ∧ RV t (gosT K) b B U D0 D' := by
  have hbL := ki_L hI
  have hbB := ki_B hI
  refine XE_of (Nat.le_of_ble_eq_true rfl) (Nat.le_of_ble_eq_true rfl) (loc := [_, _, _]) rfl ?_
  refine xx_iconst (q := 1) rfl rfl (by decide) ?_
  refine xx_istore_n (q := 2) (loc2 := [_, _, _]) rfl rfl (Nat.le_of_ble_eq_true rfl) rfl ?_
  refine xx_iload_n (q := 3) rfl rfl rfl ?_
  refine xx_iconst (q := 4) rfl rfl (by decide) ?_
  refine xx_iaddR (q := 5) rfl rfl (by omega) (by omega) ?_
  refine xx_aload_n (q := 6) rfl rfl rfl ?_
  refine xx_gez (q := 9) rfl rfl rfl xS_479 (Nat.le_of_ble_eq_true rfl) rfl (rv_L hV) ?_
  have hb1 : 1 ≤ K 0 0 ∧ K 0 0 ≤ 9 := by have h := ki_L hI; exact h
  refine xx_icmp_ge (q := 76) (q2 := 12) rfl rfl rfl (fun h9 => ?_) (fun h9 => ?_)
  · refine xx_vret rfl rfl ⟨rfl, _, rfl, ?_⟩
    have e : gosT K = K := by
      unfold gosT
      split
      · have e1 : (K 0 0 - 1).toNat = 0 := by omega
        unfold gspF
        rw [e1]
        rfl
      · rfl
    rw [e]
    exact hV
  · refine xx_aload_n (q := 13) rfl rfl rfl ?_
    refine xx_getR (q := 16) rfl rfl rfl xS_479 (Nat.le_of_ble_eq_true rfl) rfl (hR.1 479 15 rfl) ?_
    refine xx_iconst (q := 17) rfl rfl (by decide) ?_
    refine xx_iaz (v := K 6 4) (q := 18) rfl rfl xS_490 (by omega) (by omega) (rv_490 hV (p := 4) (by omega) (by omega)) ?_
    have hb2 : 0 ≤ K 6 4 ∧ K 6 4 ≤ 1000 := by have h := ki_6 hI 4; exact h
    refine xx_iconst (q := 19) rfl rfl (by decide) ?_
    refine xx_icmp_ne (q := 76) (q2 := 22) rfl rfl rfl (fun h19 => ?_) (fun h19 => ?_)
    · refine xx_vret rfl rfl ⟨rfl, _, rfl, ?_⟩
      have e : gosT K = K := if_neg h19
      rw [e]
      exact hV
    · have e : gosT K = gspF K := if_pos h19
      rw [e]
      unfold gspF
      obtain ⟨k, hk⟩ : ∃ k, (K 0 0 - 1).toNat = k + 1 := ⟨(K 0 0 - 1).toNat - 1, by omega⟩
      rw [hk]
      refine xx_iconst (q := 23) rfl rfl (by decide) ?_
      refine xx_istore_n (q := 24) (loc2 := [_, _, _]) rfl rfl (Nat.le_of_ble_eq_true rfl) rfl ?_
      refine r_gsp_B hR 0 (by omega) (K 13 0).toNat _ _ 0 hV hI (by omega) (by omega) (by omega) (fun D2 b2 hV2 hI2 => ?_)
      refine xx_incz (q := 73) (loc2 := [_, _, _]) rfl rfl rfl (by omega) (by omega) rfl rfl ?_
      refine xx_goto (q := 2) rfl rfl ?_
      exact r_gsp_L hR k _ _ _ _ hV2 hI2 ((gspB_k _ _ _ _ _ _ (by decide)).trans h19) (by omega) (by rw [gspB_k _ _ _ _ _ _ (by decide)]; omega)
theorem gosT_k {K : KK} {o j : Nat} (h : o ≠ 12) : gosT K o j = K o j := by
  unfold gosT
  split
  · exact gspL_k _ _ _ _ _ h
  · rfl
def teK (t : Int) (K : KK) : KK := lekL ((trK t K) 0 0).toNat (trK t K) 0
def tdK (t : Int) (K : KK) : KK := aftT (tidT (teK t K))
def tdb (t : Int) (K : KK) (b : Int) : Int := ttb t (teK t K) (trb t K b)
def tdB (t : Int) (K : KK) (b : Int) (B : Nat → Int) : Nat → Int := ttB t (teK t K) (trb t K b) (trB t K b B)
theorem tdK_I {t : Int} {K : KK} (h : KI K) : KI (tdK t K) := aftT_I (tidT_I (lekL_I _ _ _ (trK_I h)))
set_option maxHeartbeats 1000000 in
theorem r_calm {n : Nat} {R : Nat → Nat → Option Nat} {t : Int} {D0 : KK} {b : Int} {B : Nat → Int} {U : UU} (hR : RF R) (r : Int) (hr : r = 0 ∨ r = 1) : ∀ (k : Nat) (K D : KK) (l : Int), RV t K b B U D0 D → KI K → 0 ≤ l → l + k = K 0 0 → XX (XC 4) 251 (XP (some (.inl r)) (xS n) R (fun D' => RV t (xui (clmL k K l) 0 1 (nrm (K 0 1 + 1))) b B U D0 D')) 23 [some (.inr (some 479)), some (.inl r), some (.inl l)] [] (xS n, R, D) := by
  intro k
  induction k using Nat.strongRecOn with
  | ind k ih =>
  intro K D l hV hI h1 hk
  have hbL := ki_L hI
  refine xx_iload_n (q := 24) rfl rfl rfl ?_
  refine xx_aload_n (q := 25) rfl rfl rfl ?_
  refine xx_gez (q := 28) rfl rfl rfl xS_479 (Nat.le_of_ble_eq_true rfl) rfl (rv_L hV) ?_
  have hb1 : 1 ≤ K 0 0 ∧ K 0 0 ≤ 9 := by have h := ki_L hI; exact h
  refine xx_icmp_ge (q := 60) (q2 := 31) rfl rfl rfl (fun h28 => ?_) (fun h28 => ?_)
  · refine xx_aload_n (q := 61) rfl rfl rfl ?_
    refine xx_getR (q := 64) rfl rfl rfl xS_479 (Nat.le_of_ble_eq_true rfl) rfl (hR.1 479 1 rfl) ?_
    refine xx_iconst (q := 65) rfl rfl (by decide) ?_
    refine xx_aload_n (q := 66) rfl rfl rfl ?_
    refine xx_getR (q := 69) rfl rfl rfl xS_479 (Nat.le_of_ble_eq_true rfl) rfl (hR.1 479 1 rfl) ?_
    refine xx_iconst (q := 70) rfl rfl (by decide) ?_
    refine xx_iaz (v := K 0 1) (q := 71) rfl rfl xS_480 (by omega) (by omega) (rv_h hV) ?_
    refine xx_iconst (q := 72) rfl rfl (by decide) ?_
    refine xx_iadd (q := 73) rfl rfl ?_
    refine xr_isz (RV t (xui K 0 1 (nrm ((K 0 1) + 1))) b B U D0) (q := 74) rfl rfl xS_480 (by omega) (by omega) (rs_h hV) (fun D3 hV3 => ?_)
    have hs3 : (xui K 0 1 (nrm ((K 0 1) + 1))) 0 1 = (nrm ((K 0 1) + 1)) := xui_s
    have hI3 : KI (xui K 0 1 (nrm ((K 0 1) + 1))) := KI_up hI (nrm_lo _) (nrm_hi _)
    refine xx_iload_n (q := 75) rfl rfl rfl ?_
    obtain rfl : k = 0 := by omega
    exact xx_iret rfl hr ⟨rfl, _, rfl, hV3⟩
  · obtain ⟨k, rfl⟩ : ∃ k2, k = k2 + 1 := ⟨k - 1, by omega⟩
    have htw := twd_0 (v := K 8 l.toNat)
    have hcm := cmp_m _ (ki_8 hI l.toNat)
    refine xx_aload_n (q := 32) rfl rfl rfl ?_
    refine xx_getR (q := 35) rfl rfl rfl xS_479 (Nat.le_of_ble_eq_true rfl) rfl (hR.1 479 1 rfl) ?_
    refine xx_bipush (q := 37) rfl rfl (by decide) ?_
    refine xx_iload_n (q := 38) rfl rfl rfl ?_
    refine xx_iaddR (q := 39) rfl rfl (by omega) (by omega) ?_
    refine xx_aload_n (q := 40) rfl rfl rfl ?_
    refine xx_aload_n (q := 41) rfl rfl rfl ?_
    refine xx_getR (q := 44) rfl rfl rfl xS_479 (Nat.le_of_ble_eq_true rfl) rfl (hR.1 479 1 rfl) ?_
    refine xx_bipush (q := 46) rfl rfl (by decide) ?_
    refine xx_iload_n (q := 47) rfl rfl rfl ?_
    refine xx_iaddR (q := 48) rfl rfl (by omega) (by omega) ?_
    refine xx_iaz (v := K 8 (l).toNat) (q := 49) rfl rfl xS_480 (by omega) (by omega) (rv_8 hV (p := l) (by omega) (by omega)) ?_
    have hb4 : -99 ≤ K 8 (l).toNat ∧ K 8 (l).toNat ≤ 99 := by have h := ki_8 hI (l).toNat; exact h
    refine xx_iconst (q := 50) rfl rfl (by decide) ?_
    refine xx_callV (q := 53) (As := [_, _]) (rest := [_, _]) rfl rfl rfl (Or.inl rfl) rfl rfl (Nat.le_of_ble_eq_true rfl) xS_479 (XCm (r_towards (K 8 (l).toNat) 0 (by omega) (by omega)) rfl) rfl ?_
    refine xr_isz (RV t (xui K 8 (l).toNat (K 8 l.toNat - cmpF (K 8 l.toNat) 0)) b B U D0) (q := 54) rfl rfl xS_480 (by omega) (by omega) (rs_8 (v := K 8 l.toNat - cmpF (K 8 l.toNat) 0) (p := l) hV hI (by omega) (by omega) (by omega)) (fun D6 hV6 => ?_)
    have hs6 : (xui K 8 (l).toNat (K 8 l.toNat - cmpF (K 8 l.toNat) 0)) 8 (l).toNat = (K 8 l.toNat - cmpF (K 8 l.toNat) 0) := xui_s
    have hI6 : KI (xui K 8 (l).toNat (K 8 l.toNat - cmpF (K 8 l.toNat) 0)) := KI_up hI (show (-99 : Int) ≤ _ by omega) (show _ ≤ (99 : Int) by omega)
    refine xx_incz (q := 57) (loc2 := [_, _, _]) rfl rfl rfl (by omega) (by omega) rfl rfl ?_
    refine xx_goto (q := 23) rfl rfl ?_
    exact ih k (by omega) _ _ _ hV6 hI6 (by omega) (show _ + _ = K 0 0 by omega)
set_option maxHeartbeats 1000000 in
theorem r_ends {n : Nat} {R : Nat → Nat → Option Nat} {t : Int} {K D0 D : KK} {b : Int} {B : Nat → Int} {U : UU} (hR : RF R) (hV : RV t K b B U D0 D) (hI : KI K) : ∃ D', XC 5 251 [.inr (some 479)] (xS n, R, D) (some (.inl (bi (t = 0 ∧ ranP K)))) (xS n, R, D') ∧ RV t (tdK t K) (tdb t K b) (tdB t K b B) (tU t K b U) D0 D' := by
  have hbL := ki_L hI
  refine XE_of (Nat.le_of_ble_eq_true rfl) (Nat.le_of_ble_eq_true rfl) (loc := [_, _, _]) rfl ?_
  refine xx_aload_n (q := 1) rfl rfl rfl ?_
  obtain ⟨D1, hx1, hV1⟩ := r_keepsAhead (n := n) hR hV hI
  refine xx_callV (q := 4) (As := []) (rest := []) rfl rfl rfl (Or.inl rfl) rfl rfl (Nat.le_of_ble_eq_true rfl) xS_479 (XCm hx1 rfl) rfl ?_
  refine xx_aload_n (q := 5) rfl rfl rfl ?_
  obtain ⟨D2, hx2, hV2⟩ := r_doesRain (n := n) hR hV1 hI
  have hI2 : KI (trK t K) := trK_I hI
  refine xx_callV (q := 8) (As := []) (rest := []) rfl rfl rfl (Or.inl rfl) rfl rfl (Nat.le_of_ble_eq_true rfl) xS_479 (XCm hx2 rfl) rfl ?_
  refine xx_istore_n (q := 9) (loc2 := [_, _, _]) rfl rfl (Nat.le_of_ble_eq_true rfl) rfl ?_
  refine xx_aload_n (q := 10) rfl rfl rfl ?_
  have hL3 : (trK t K) 0 0 = K 0 0 := trK_k (by decide) (by omega)
  have hL4 : (trK t K) 13 0 = K 13 0 := trK_k (by decide) (by omega)
  obtain ⟨D5, hx5, hV5⟩ := r_leaks (n := n) hR hV2 hI2
  have hI5 : KI (lekL ((trK t K) 0 0).toNat (trK t K) 0) := lekL_I _ _ _ hI2
  refine xx_callV (q := 13) (As := []) (rest := []) rfl rfl rfl (Or.inl rfl) rfl rfl (Nat.le_of_ble_eq_true rfl) xS_479 (XCm hx5 rfl) rfl ?_
  refine xx_aload_n (q := 14) rfl rfl rfl ?_
  have hL6 : (lekL ((trK t K) 0 0).toNat (trK t K) 0) 0 0 = K 0 0 := (lekL_k _ _ _ _ _ (by decide) (by omega)).trans (trK_k (by decide) (by omega))
  have hL7 : (lekL ((trK t K) 0 0).toNat (trK t K) 0) 13 0 = K 13 0 := (lekL_k _ _ _ _ _ (by decide) (by omega)).trans (trK_k (by decide) (by omega))
  obtain ⟨D8, hx8, hV8⟩ := r_tide (n := n) hR hV5 hI5
  have hI8 : KI (tidT (lekL ((trK t K) 0 0).toNat (trK t K) 0)) := tidT_I hI5
  refine xx_callV (q := 17) (As := []) (rest := []) rfl rfl rfl (Or.inl rfl) rfl rfl (Nat.le_of_ble_eq_true rfl) xS_479 (XCm hx8 rfl) rfl ?_
  refine xx_aload_n (q := 18) rfl rfl rfl ?_
  have hL9 : (tidT (lekL ((trK t K) 0 0).toNat (trK t K) 0)) 0 0 = K 0 0 := (tidT_k (by decide) (by omega)).trans ((lekL_k _ _ _ _ _ (by decide) (by omega)).trans (trK_k (by decide) (by omega)))
  have hL10 : (tidT (lekL ((trK t K) 0 0).toNat (trK t K) 0)) 13 0 = K 13 0 := (tidT_k (by decide) (by omega)).trans ((lekL_k _ _ _ _ _ (by decide) (by omega)).trans (trK_k (by decide) (by omega)))
  obtain ⟨D11, hx11, hV11⟩ := r_gossips (n := n) hR hV8 hI8
  have hI11 : KI (gosT (tidT (lekL ((trK t K) 0 0).toNat (trK t K) 0))) := gosT_I hI8
  refine xx_callV (q := 21) (As := []) (rest := []) rfl rfl rfl (Or.inl rfl) rfl rfl (Nat.le_of_ble_eq_true rfl) xS_479 (XCm hx11 rfl) rfl ?_
  refine xx_iconst (q := 22) rfl rfl (by decide) ?_
  refine xx_istore_n (q := 23) (loc2 := [_, _, _]) rfl rfl (Nat.le_of_ble_eq_true rfl) rfl ?_
  have hbL2 : 1 ≤ (gosT (tidT (teK t K))) 0 0 ∧ (gosT (tidT (teK t K))) 0 0 ≤ 9 := ki_L hI11
  have eg : ∀ (X : KK), X 0 1 = (gosT X) 0 1 := fun X => (gosT_k (by decide)).symm
  unfold tdK aftT clmF
  rw [eg (tidT (teK t K))]
  exact r_calm hR _ (bi_01 (t = 0 ∧ ranP K)) ((gosT (tidT (teK t K))) 0 0).toNat (gosT (tidT (teK t K))) _ 0 hV11 hI11 (by omega) (by omega)
abbrev TZ (t : Int) (Z : ZZ) (D0 D : KK) : Prop := RV t Z.1 Z.2.1 Z.2.2.1 Z.2.2.2 D0 D
def tdZ (t : Int) (Z : ZZ) : ZZ := (tdK t Z.1, tdb t Z.1 Z.2.1, tdB t Z.1 Z.2.1 Z.2.2.1, tU t Z.1 Z.2.1 Z.2.2.2)
def tdsZ (t : Int) : Nat → ZZ → ZZ
  | 0, Z => Z
  | k + 1, Z => tdsZ t k (tdZ t Z)
def tdsR (t : Int) : Nat → ZZ → Int
  | 0, _ => 0
  | k + 1, Z => bi (t = 0 ∧ ranP Z.1) + tdsR t k (tdZ t Z)
theorem tdsZ_I {t : Int} : ∀ (k : Nat) (Z : ZZ), KI Z.1 → KI (tdsZ t k Z).1
  | 0, _, h => h
  | k + 1, _, h => tdsZ_I k _ (tdK_I h)
set_option maxHeartbeats 1000000 in
theorem r_gb_L {n : Nat} {R : Nat → Nat → Option Nat} {t : Int} {D0 : KK} (hR : RF R) (m : Int) (hm : m ≤ 200) : ∀ (k : Nat) (K D : KK) (b : Int) (B : Nat → Int) (U : UU) (rr l : Int), RV t K b B U D0 D → KI K → 0 ≤ l → 0 ≤ rr → rr ≤ l → l + k = m → XX (XC 5) 252 (XP (some (.inl (rr + tdsR t k (K, b, B, U)))) (xS n) R (fun D' => TZ t (tdsZ t k (K, b, B, U)) D0 D')) 4 [some (.inr (some 479)), some (.inl m), some (.inl rr), some (.inl l)] [] (xS n, R, D) := by
  intro k
  induction k using Nat.strongRecOn with
  | ind k ih =>
  intro K D b B U rr l hV hI h1 h2 h3 hk
  refine xx_iload_n (q := 5) rfl rfl rfl ?_
  refine xx_iload_n (q := 6) rfl rfl rfl ?_
  refine xx_icmp_ge (q := 26) (q2 := 9) rfl rfl rfl (fun h6 => ?_) (fun h6 => ?_)
  · refine xx_iload_n (q := 27) rfl rfl rfl ?_
    obtain rfl : k = 0 := by omega
    exact xx_iret rfl trivial ⟨congrArg (fun z => some (Sum.inl z)) (by show rr = rr + 0; omega), _, rfl, hV⟩
  · obtain ⟨k, rfl⟩ : ∃ k2, k = k2 + 1 := ⟨k - 1, by omega⟩
    refine xx_aload_n (q := 10) rfl rfl rfl ?_
    obtain ⟨D1, hx1, hV1⟩ := r_ends (n := n) hR hV hI
    have hI1 : KI (tdK t K) := tdK_I hI
    refine xx_callV (q := 13) (As := []) (rest := []) rfl rfl rfl (Or.inl rfl) rfl rfl (Nat.le_of_ble_eq_true rfl) xS_479 (XCm hx1 rfl) rfl ?_
    refine xx_ifb_eq (q := 20) (q2 := 16) rfl rfl rfl (fun h13 => ?_) (fun h13 => ?_)
    · refine xx_incz (q := 23) (loc2 := [_, _, _, _]) rfl rfl rfl (by omega) (by omega) rfl rfl ?_
      refine xx_goto (q := 4) rfl rfl ?_
      have e : rr + tdsR t (k + 1) (K, b, B, U) = rr + tdsR t k (tdZ t (K, b, B, U)) := by show rr + (bi (t = 0 ∧ ranP K) + _) = _; rw [bi_f h13]; omega
      rw [e]
      exact ih k (by omega) _ _ _ _ _ _ _ hV1 hI1 (by omega) (by omega) (by omega) (by omega)
    · refine xx_iload_n (q := 17) rfl rfl rfl ?_
      refine xx_iconst (q := 18) rfl rfl (by decide) ?_
      refine xx_iaddR (q := 19) rfl rfl (by omega) (by omega) ?_
      refine xx_istore_n (q := 20) (loc2 := [_, _, _, _]) rfl rfl (Nat.le_of_ble_eq_true rfl) rfl ?_
      refine xx_incz (q := 23) (loc2 := [_, _, _, _]) rfl rfl rfl (by omega) (by omega) rfl rfl ?_
      refine xx_goto (q := 4) rfl rfl ?_
      have e : rr + tdsR t (k + 1) (K, b, B, U) = rr + 1 + tdsR t k (tdZ t (K, b, B, U)) := by show rr + (bi (t = 0 ∧ ranP K) + _) = _; rw [bi_t h13]; omega
      rw [e]
      exact ih k (by omega) _ _ _ _ _ _ _ hV1 hI1 (by omega) (by omega) (by omega) (by omega)
set_option maxHeartbeats 1000000 in
theorem r_goesBy {n : Nat} {R : Nat → Nat → Option Nat} {t : Int} {K D0 D : KK} {b : Int} {B : Nat → Int} {U : UU} (hR : RF R) (hV : RV t K b B U D0 D) (hI : KI K) (m : Int) (h0 : 0 ≤ m) (hm : m ≤ 200) : ∃ D', XC 6 252 [.inr (some 479), .inl m] (xS n, R, D) (some (.inl (tdsR t m.toNat (K, b, B, U)))) (xS n, R, D') ∧ TZ t (tdsZ t m.toNat (K, b, B, U)) D0 D' := by
  refine XE_of (Nat.le_of_ble_eq_true rfl) (Nat.le_of_ble_eq_true rfl) (loc := [_, _, _, _]) rfl ?_
  refine xx_iconst (q := 1) rfl rfl (by decide) ?_
  refine xx_istore_n (q := 2) (loc2 := [_, _, _, _]) rfl rfl (Nat.le_of_ble_eq_true rfl) rfl ?_
  refine xx_iconst (q := 3) rfl rfl (by decide) ?_
  refine xx_istore_n (q := 4) (loc2 := [_, _, _, _]) rfl rfl (Nat.le_of_ble_eq_true rfl) rfl ?_
  have e : tdsR t m.toNat (K, b, B, U) = 0 + tdsR t m.toNat (K, b, B, U) := by omega
  rw [e]
  exact r_gb_L hR m hm m.toNat K D b B U 0 0 hV hI (by omega) (by omega) (by omega) (by omega)
