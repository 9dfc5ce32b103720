/-! The water, the keepers, the laws' facts; a passing's refusal. -/
def comeL : Nat → KK → Int → Int → KK
  | 0, K, _, on => xui K 0 2 (nrm (K 0 2 + on))
  | k + 1, K, pool, on => comeL k (xui K 1 pool.toNat (mnF (K 1 pool.toNat + on) 999)) (pool + 1) (K 1 pool.toNat + on - mnF (K 1 pool.toNat + on) 999)
def comeF (K : KK) (first a : Int) : KK := comeL (K 0 0 + 1 - first).toNat K first a
def flowF (K : KK) (lock a : Int) : KK := comeF (xui K 1 lock.toNat (K 1 lock.toNat - a)) (lock + 1) a
theorem nrm_lo (z : Int) : -2147483648 ≤ nrm z := (nrm_ok z).1
theorem nrm_hi (z : Int) : nrm z ≤ 2147483647 := by have := (nrm_ok z).2; omega
theorem comeL_I : ∀ (k : Nat) (K : KK) (pool on : Int), KI K → 0 ≤ on → KI (comeL k K pool on)
  | 0, K, pool, on, h, _ => KI_up h (nrm_lo _) (nrm_hi _)
  | k + 1, K, pool, on, h, h2 => by
    have h3 := ki_1 h pool.toNat
    have h4 := mnF_sp (K 1 pool.toNat + on) 999
    exact comeL_I k _ _ _ (KI_up h (show (0 : Int) ≤ _ by omega) (show _ ≤ (999 : Int) by omega)) (by omega)
theorem comeL_k : ∀ (k : Nat) (K : KK) (pool on : Int) (o j : Nat), o ≠ 1 → (o = 0 → j ≠ 2) → comeL k K pool on o j = K o j
  | 0, K, pool, on, o, j, h, h2 => if_neg (fun q => h2 q.1 q.2)
  | k + 1, K, pool, on, o, j, h, h2 => (comeL_k k _ _ _ o j h h2).trans (xui_a h)
theorem comeF_I {K : KK} {first a : Int} (h : KI K) (h2 : 0 ≤ a) : KI (comeF K first a) := comeL_I _ _ _ _ h h2
theorem flowF_I {K : KK} {lock a : Int} (h : KI K) (h2 : 0 ≤ a) (h3 : a ≤ K 1 lock.toNat) : KI (flowF K lock a) := by
  have h4 := ki_1 h lock.toNat
  exact comeF_I (KI_up h (show (0 : Int) ≤ _ by omega) (show _ ≤ (999 : Int) by omega)) h2
theorem flowF_k {K : KK} {lock a : Int} {o j : Nat} (h : o ≠ 1) (h2 : o = 0 → j ≠ 2) : flowF K lock a o j = K o j := (comeL_k _ _ _ _ o j h h2).trans (xui_a h)
set_option maxHeartbeats 1000000 in
theorem c_come_L {n c : Nat} {R : Nat → Nat → Option Nat} {D0 : KK} (hR : RF R) (hc : isC c) (f a : Int) : ∀ (k : Nat) (K D : KK) (pool on : Int) (x : Option XV), CK c K D → KI K → Fr c D0 D → 0 ≤ pool → 0 ≤ on → on ≤ 3000 → pool + k = K 0 0 + 1 → XX (XC 0) 20 (XP none (xS n) R (fun D' => CK c (comeL k K pool on) D' ∧ Fr c D0 D')) 5 [some (.inr (some c)), some (.inl f), some (.inl a), some (.inl on), some (.inl pool), x] [] (xS n, R, D) := by
  intro k
  induction k using Nat.strongRecOn with
  | ind k ih =>
  intro K D pool on x hK hI hF h1 h2 h3 hk

  refine xx_iload (q := 7) rfl rfl rfl ?_
  refine xx_aload_n (q := 8) rfl rfl rfl ?_
  refine xx_gez (v := K 0 0) (q := 11) rfl rfl rfl (xSc_0 hc) (Nat.le_of_ble_eq_true rfl) rfl (hK 0 0 (Nat.le_of_ble_eq_true rfl)) ?_
  have hb1 : 1 ≤ K 0 0 ∧ K 0 0 ≤ 9 := by have h := ki_L hI; exact h
  refine xx_icmp_gt (q := 57) (q2 := 14) rfl rfl rfl (fun h11 => ?_) (fun h11 => ?_)
  · obtain rfl : k = 0 := by omega
    refine xx_aload_n (q := 58) rfl rfl rfl ?_
    refine xx_dup (q := 59) rfl rfl ?_
    refine xx_gez (v := K 0 2) (q := 62) rfl rfl rfl (xSc_0 hc) (Nat.le_of_ble_eq_true rfl) rfl (hK 0 2 (Nat.le_of_ble_eq_true rfl)) ?_
    refine xx_iload_n (q := 63) rfl rfl rfl ?_
    refine xx_iadd (q := 64) rfl rfl ?_
    refine xc_puz (o := 0) hK hF (q := 67) rfl rfl rfl (xSc_0 hc) (Nat.le_of_ble_eq_true rfl) (Nat.le_of_ble_eq_true rfl) (fun h => by cases h) (Or.inl rfl) (by decide) (by decide) (fun D2 hK2 hF2 => ?_)
    have hI2 : KI (xui K 0 2 (nrm ((K 0 2) + on))) := KI_up hI (nrm_lo _) (nrm_hi _)
    exact xx_vret rfl rfl ⟨rfl, _, rfl, hK2, hF2⟩
  · obtain ⟨k, rfl⟩ : ∃ k2, k = k2 + 1 := ⟨k - 1, by omega⟩
    refine xx_aload_n (q := 15) rfl rfl rfl ?_
    refine xx_getR (q := 18) rfl rfl rfl (xSc_0 hc) (Nat.le_of_ble_eq_true rfl) rfl (rc_depth hR hc) ?_
    refine xx_iload (q := 20) rfl rfl rfl ?_
    refine xx_iaz (v := K 1 (pool).toNat) (q := 21) rfl rfl (xSc_1 hc) (by omega) (by omega) (ck_a hK (o := 1) (N := 10) rfl (by omega) (by omega)) ?_
    have hb3 : 0 ≤ K 1 (pool).toNat ∧ K 1 (pool).toNat ≤ 999 := by have h := ki_1 hI (pool).toNat; exact h
    refine xx_iload_n (q := 22) rfl rfl rfl ?_
    refine xx_iaddR (q := 23) rfl rfl (by omega) (by omega) ?_
    refine xx_istore (q := 25) (loc2 := [_, _, _, _, _, _]) rfl rfl (Nat.le_of_ble_eq_true rfl) rfl ?_
    refine xx_aload_n (q := 26) rfl rfl rfl ?_
    refine xx_getR (q := 29) rfl rfl rfl (xSc_0 hc) (Nat.le_of_ble_eq_true rfl) rfl (rc_depth hR hc) ?_
    refine xx_iload (q := 31) rfl rfl rfl ?_
    refine xx_iload (q := 33) rfl rfl rfl ?_
    refine xx_sipush (q := 36) rfl rfl (by decide) ?_
    refine xx_minF (q := 39) rfl rfl rfl (Nat.le_of_ble_eq_true rfl) ?_
    have hb4 := mnF_sp ((K 1 (pool).toNat) + on) 999
    refine xc_isz (o := 1) hK hF (q := 40) rfl rfl (xSc_1 hc) (by decide) (by decide) (by omega) (by omega) (fun D5 hK5 hF5 => ?_)
    have hs5 : (xui K 1 (pool).toNat (mnF ((K 1 (pool).toNat) + on) 999)) 1 (pool).toNat = (mnF ((K 1 (pool).toNat) + on) 999) := xui_s
    have hI5 : KI (xui K 1 (pool).toNat (mnF ((K 1 (pool).toNat) + on) 999)) := KI_up hI (show (0 : Int) ≤ _ by omega) (show _ ≤ (999 : Int) by omega)
    refine xx_iload (q := 42) rfl rfl rfl ?_
    refine xx_aload_n (q := 43) rfl rfl rfl ?_
    refine xx_getR (q := 46) rfl rfl rfl (xSc_0 hc) (Nat.le_of_ble_eq_true rfl) rfl (rc_depth hR hc) ?_
    refine xx_iload (q := 48) rfl rfl rfl ?_
    refine xx_iaz (v := mnF ((K 1 (pool).toNat) + on) 999) (q := 49) rfl rfl (xSc_1 hc) (by omega) (by omega) ((ck_a hK5 (o := 1) (N := 10) rfl (by omega) (by omega)).trans xui_s) ?_
    have hb6 : 0 ≤ mnF ((K 1 (pool).toNat) + on) 999 ∧ mnF ((K 1 (pool).toNat) + on) 999 ≤ 999 := by rw [← show (xui K 1 (pool).toNat (mnF ((K 1 (pool).toNat) + on) 999)) 1 (pool).toNat = mnF ((K 1 (pool).toNat) + on) 999 from xui_s]; exact ki_1 hI5 (pool).toNat
    refine xx_isubR (q := 50) rfl rfl (by omega) (by omega) ?_
    refine xx_istore_n (q := 51) (loc2 := [_, _, _, _, _, _]) rfl rfl (Nat.le_of_ble_eq_true rfl) rfl ?_
    refine xx_incz (q := 54) (loc2 := [_, _, _, _, _, _]) rfl rfl rfl (by omega) (by omega) rfl rfl ?_
    refine xx_goto (q := 5) rfl rfl ?_
    exact ih k (by omega) _ _ _ _ _ hK5 hI5 hF5 (by omega) (by omega) (by omega) (show _ + _ = K 0 0 + 1 by omega)
set_option maxHeartbeats 1000000 in
theorem c_comeInto {n c : Nat} {R : Nat → Nat → Option Nat} {D K : KK} (hR : RF R) (hc : isC c) (hK : CK c K D) (hI : KI K) (f a : Int) (h0 : 0 ≤ f) (h1 : f ≤ K 0 0 + 1) (h2 : 0 ≤ a) (h3 : a ≤ 3000) : ∃ D', XC 1 20 [.inr (some c), .inl f, .inl a] (xS n, R, D) none (xS n, R, D') ∧ CK c (comeF K f a) D' ∧ Fr c D D' := by
  refine XE_of (Nat.le_of_ble_eq_true rfl) (Nat.le_of_ble_eq_true rfl) (loc := [_, _, _, _, _, _]) rfl ?_
  refine xx_iload_n (q := 1) rfl rfl rfl ?_
  refine xx_istore_n (q := 2) (loc2 := [_, _, _, _, _, _]) rfl rfl (Nat.le_of_ble_eq_true rfl) rfl ?_
  refine xx_iload_n (q := 3) rfl rfl rfl ?_
  refine xx_istore (q := 5) (loc2 := [_, _, _, _, _, _]) rfl rfl (Nat.le_of_ble_eq_true rfl) rfl ?_
  exact c_come_L hR hc f a _ K D f a _ hK hI Fr.rf h0 h2 h3 (by omega)
set_option maxHeartbeats 1000000 in
theorem c_flow {n c : Nat} {R : Nat → Nat → Option Nat} {D K : KK} (hR : RF R) (hc : isC c) (hK : CK c K D) (hI : KI K) (lock a : Int) (h0 : 0 ≤ lock) (h1 : lock < K 0 0) (h2 : 0 ≤ a) (h3 : a ≤ K 1 lock.toNat) (h4 : a ≤ 3000) : ∃ D', XC 2 19 [.inr (some c), .inl lock, .inl a] (xS n, R, D) none (xS n, R, D') ∧ CK c (flowF K lock a) D' ∧ Fr c D D' := by
  have hbL := ki_L hI
  refine XE_of (Nat.le_of_ble_eq_true rfl) (Nat.le_of_ble_eq_true rfl) (loc := [_, _, _]) rfl ?_
  refine xx_aload_n (q := 1) rfl rfl rfl ?_
  refine xx_getR (q := 4) rfl rfl rfl (xSc_0 hc) (Nat.le_of_ble_eq_true rfl) rfl (rc_depth hR hc) ?_
  refine xx_iload_n (q := 5) rfl rfl rfl ?_
  refine xx_dup2 (q := 6) rfl rfl ?_
  refine xx_iaz (v := K 1 (lock).toNat) (q := 7) rfl rfl (xSc_1 hc) (by omega) (by omega) (ck_a hK (o := 1) (N := 10) rfl (by omega) (by omega)) ?_
  have hb1 : 0 ≤ K 1 (lock).toNat ∧ K 1 (lock).toNat ≤ 999 := by have h := ki_1 hI (lock).toNat; exact h
  refine xx_iload_n (q := 8) rfl rfl rfl ?_
  refine xx_isubR (q := 9) rfl rfl (by omega) (by omega) ?_
  refine xc_isz (o := 1) hK Fr.rf (q := 10) rfl rfl (xSc_1 hc) (by decide) (by decide) (by omega) (by omega) (fun D2 hK2 hF2 => ?_)
  have hs2 : (xui K 1 (lock).toNat ((K 1 (lock).toNat) - a)) 1 (lock).toNat = ((K 1 (lock).toNat) - a) := xui_s
  have hI2 : KI (xui K 1 (lock).toNat ((K 1 (lock).toNat) - a)) := KI_up hI (show (0 : Int) ≤ _ by omega) (show _ ≤ (999 : Int) by omega)
  have hL : xui K 1 lock.toNat (K 1 lock.toNat - a) 0 0 = K 0 0 := rfl
  refine xx_aload_n (q := 11) rfl rfl rfl ?_
  refine xx_iload_n (q := 12) rfl rfl rfl ?_
  refine xx_iconst (q := 13) rfl rfl (by decide) ?_
  refine xx_iaddR (q := 14) rfl rfl (by omega) (by omega) ?_
  refine xx_iload_n (q := 15) rfl rfl rfl ?_
  have hL4 : (xui K 1 (lock).toNat ((K 1 (lock).toNat) - a)) 0 0 = K 0 0 := rfl
  have hL5 : (xui K 1 (lock).toNat ((K 1 (lock).toNat) - a)) 13 0 = K 13 0 := rfl
  obtain ⟨D3, hx3, hK3, hG3⟩ := c_comeInto (n := n) hR hc hK2 hI2 (lock + 1) a (by omega) (by omega) (by omega) (by omega)
  have hF3 := hF2.trans hG3
  have hI3 : KI (comeF (xui K 1 (lock).toNat ((K 1 (lock).toNat) - a)) (lock + 1) a) := comeF_I hI2 (by omega)
  refine xx_callV (q := 18) (As := [_, _]) (rest := []) rfl rfl rfl (Or.inl rfl) rfl rfl (Nat.le_of_ble_eq_true rfl) (xSc_0 hc) (XCm hx3 rfl) rfl ?_
  refine xx_vret rfl rfl ⟨rfl, _, rfl, ?_⟩
  exact ⟨hK3, hF3⟩
def lkmF (K : KK) (lock boat more : Int) : KK := xui K 12 (lock * 6 + boat).toNat (hld (K 12 (lock * 6 + boat).toNat + more))
theorem lkmF_I {K : KK} {lock boat more : Int} (h : KI K) : KI (lkmF K lock boat more) := KI_up h (hld_b _).1 (hld_b _).2
set_option maxHeartbeats 1000000 in
theorem c_likeMore {n c : Nat} {R : Nat → Nat → Option Nat} {D K : KK} (hR : RF R) (hc : isC c) (hK : CK c K D) (hI : KI K) (lock boat more : Int) (h0 : 0 ≤ lock) (h1 : lock < 9) (h2 : 0 ≤ boat) (h3 : boat < 6) (h4 : -1000 ≤ more) (h5 : more ≤ 1000) : ∃ D', XC 2 55 [.inr (some (c + 7)), .inl lock, .inl boat, .inl more] (xS n, R, D) none (xS n, R, D') ∧ CK c (lkmF K lock boat more) D' ∧ Fr c D D' := by
  have hbK := ki_12 hI (lock * 6 + boat).toNat
  refine XE_of (Nat.le_of_ble_eq_true rfl) (Nat.le_of_ble_eq_true rfl) (loc := [_, _, _, _]) rfl ?_
  refine xx_aload_n (q := 1) rfl rfl rfl ?_
  refine xx_getR (q := 4) rfl rfl rfl (xSc_7 hc) (Nat.le_of_ble_eq_true rfl) rfl (rc_liking hR hc) ?_
  refine xx_iload_n (q := 5) rfl rfl rfl ?_
  refine xx_bipush (q := 7) rfl rfl (by decide) ?_
  refine xx_imulR (q := 8) rfl rfl (by omega) (by omega) ?_
  refine xx_iload_n (q := 9) rfl rfl rfl ?_
  refine xx_iaddR (q := 10) rfl rfl (by omega) (by omega) ?_
  refine xx_aload_n (q := 11) rfl rfl rfl ?_
  refine xx_iload_n (q := 12) rfl rfl rfl ?_
  refine xx_iload_n (q := 13) rfl rfl rfl ?_
  refine xx_callV (q := 16) (As := [_, _]) (rest := [_, _]) rfl rfl rfl (Or.inl rfl) rfl rfl (Nat.le_of_ble_eq_true rfl) (xSc_7 hc) (XCm (c_likingOf hR hc hK hI lock boat (by omega) (by omega) (by omega) (by omega)) rfl) rfl ?_
  refine xx_iload_n (q := 17) rfl rfl rfl ?_
  refine xx_iaddR (q := 18) rfl rfl (by omega) (by omega) ?_
  refine xx_callS (q := 21) (As := [_]) (rest := [_, _]) rfl rfl rfl (Or.inr rfl) rfl rfl (Nat.le_of_ble_eq_true rfl) (XCm (c_held ((K 12 (lock * 6 + boat).toNat) + more)) rfl) rfl ?_
  have hb1 := hld_b ((K 12 (lock * 6 + boat).toNat) + more)
  refine xc_isz (o := 12) hK Fr.rf (q := 22) rfl rfl (xSc_12 hc) (by decide) (by decide) (by omega) (by omega) (fun D2 hK2 hF2 => ?_)
  have hs2 : (xui K 12 ((lock * 6) + boat).toNat (hld ((K 12 (lock * 6 + boat).toNat) + more))) 12 ((lock * 6) + boat).toNat = (hld ((K 12 (lock * 6 + boat).toNat) + more)) := xui_s
  have hI2 : KI (xui K 12 ((lock * 6) + boat).toNat (hld ((K 12 (lock * 6 + boat).toNat) + more))) := KI_up hI (show (-99 : Int) ≤ _ by omega) (show _ ≤ (99 : Int) by omega)
  refine xx_vret rfl rfl ⟨rfl, _, rfl, ?_⟩
  exact ⟨hK2, hF2⟩
def rcvF (K : KK) (lock boat d : Int) : KK :=
  let K1 := lkmF K lock boat d
  let K2 := xui K1 8 lock.toNat (hld (K 8 lock.toNat + cmpF d 0))
  let K3 := if 0 < d ∧ ¬ K 9 lock.toNat = -1 then lkmF K2 (K 9 lock.toNat) boat (-(xdiv d 2)) else K2
  xui K3 10 lock.toNat (nrm (K 10 lock.toNat + 1))
theorem xdiv_2 {d : Int} (h0 : 0 ≤ d) (h1 : d ≤ 1000) : 0 ≤ xdiv d 2 ∧ xdiv d 2 ≤ d ∧ xdiv d 2 = d / 2 := by
  have e : xdiv d 2 = d / 2 := by
    unfold xdiv
    rw [Int.tdiv_eq_ediv_of_nonneg h0]
    exact nrm_id ⟨by omega, by omega⟩
  rw [e]
  omega
set_option maxHeartbeats 1000000 in
theorem c_receive {n c : Nat} {R : Nat → Nat → Option Nat} {D K : KK} (hR : RF R) (hc : isC c) (hK : CK c K D) (hI : KI K) (lock boat d : Int) (h0 : 0 ≤ lock) (h1 : lock < 9) (h2 : 0 ≤ boat) (h3 : boat < 6) (h4 : -99 ≤ d) (h5 : d ≤ 99) : ∃ D', XC 3 56 [.inr (some (c + 7)), .inl lock, .inl boat, .inl d] (xS n, R, D) none (xS n, R, D') ∧ CK c (rcvF K lock boat d) D' ∧ Fr c D D' := by
  have hb0 := hld_b (K 8 lock.toNat + cmpF d 0)
  refine XE_of (Nat.le_of_ble_eq_true rfl) (Nat.le_of_ble_eq_true rfl) (loc := [_, _, _, _]) rfl ?_
  refine xx_aload_n (q := 1) rfl rfl rfl ?_
  refine xx_iload_n (q := 2) rfl rfl rfl ?_
  refine xx_iload_n (q := 3) rfl rfl rfl ?_
  refine xx_iload_n (q := 4) rfl rfl rfl ?_
  obtain ⟨D1, hx1, hK1, hG1⟩ := c_likeMore (n := n) hR hc hK hI lock boat d (by omega) (by omega) (by omega) (by omega) (by omega) (by omega)
  have hF1 := Fr.rf.trans hG1
  have hI1 : KI (lkmF K lock boat d) := lkmF_I hI
  refine xx_callV (q := 7) (As := [_, _, _]) (rest := []) rfl rfl rfl (Or.inl rfl) rfl rfl (Nat.le_of_ble_eq_true rfl) (xSc_7 hc) (XCm hx1 rfl) rfl ?_
  refine xx_aload_n (q := 8) rfl rfl rfl ?_
  refine xx_getR (q := 11) rfl rfl rfl (xSc_7 hc) (Nat.le_of_ble_eq_true rfl) rfl (rc_mood hR hc) ?_
  refine xx_iload_n (q := 12) rfl rfl rfl ?_
  refine xx_aload_n (q := 13) rfl rfl rfl ?_
  refine xx_getR (q := 16) rfl rfl rfl (xSc_7 hc) (Nat.le_of_ble_eq_true rfl) rfl (rc_mood hR hc) ?_
  refine xx_iload_n (q := 17) rfl rfl rfl ?_
  refine xx_iaz (v := K 8 (lock).toNat) (q := 18) rfl rfl (xSc_8 hc) (by omega) (by omega) ((ck_a hK1 (o := 8) (N := 9) rfl (by omega) (by omega)).trans (xui_a (by decide))) ?_
  have hb2 : -99 ≤ K 8 (lock).toNat ∧ K 8 (lock).toNat ≤ 99 := by rw [← show (lkmF K lock boat d) 8 (lock).toNat = K 8 (lock).toNat from xui_a (by decide)]; exact ki_8 hI1 (lock).toNat
  refine xx_iload_n (q := 19) rfl rfl rfl ?_
  refine xx_iconst (q := 20) rfl rfl (by decide) ?_
  refine xx_callS (q := 23) (As := [_, _]) (rest := [_, _, _]) rfl rfl rfl (Or.inl rfl) rfl rfl (Nat.le_of_ble_eq_true rfl) (XCm (c_compare d 0) rfl) rfl ?_
  have hb3 := cmpF_b d 0
  refine xx_iaddR (q := 24) rfl rfl (by omega) (by omega) ?_
  refine xx_callS (q := 27) (As := [_]) (rest := [_, _]) rfl rfl rfl (Or.inr rfl) rfl rfl (Nat.le_of_ble_eq_true rfl) (XCm (c_held ((K 8 (lock).toNat) + (cmpF d 0))) rfl) rfl ?_
  have hb4 := hld_b ((K 8 (lock).toNat) + (cmpF d 0))
  refine xc_isz (o := 8) hK1 hF1 (q := 28) rfl rfl (xSc_8 hc) (by decide) (by decide) (by omega) (by omega) (fun D5 hK5 hF5 => ?_)
  have hs5 : (xui (lkmF K lock boat d) 8 (lock).toNat (hld ((K 8 (lock).toNat) + (cmpF d 0)))) 8 (lock).toNat = (hld ((K 8 (lock).toNat) + (cmpF d 0))) := xui_s
  have hI5 : KI (xui (lkmF K lock boat d) 8 (lock).toNat (hld ((K 8 (lock).toNat) + (cmpF d 0)))) := KI_up hI1 (show (-99 : Int) ≤ _ by omega) (show _ ≤ (99 : Int) by omega)
  refine xx_iload_n (q := 29) rfl rfl rfl ?_
  refine xx_if_le (q := 57) (q2 := 32) rfl rfl rfl (fun h29 => ?_) (fun h29 => ?_)
  · refine xx_aload_n (q := 58) rfl rfl rfl ?_
    refine xx_getR (q := 61) rfl rfl rfl (xSc_7 hc) (Nat.le_of_ble_eq_true rfl) rfl (rc_presents hR hc) ?_
    refine xx_iload_n (q := 62) rfl rfl rfl ?_
    refine xx_dup2 (q := 63) rfl rfl ?_
    refine xx_iaz (v := K 10 (lock).toNat) (q := 64) rfl rfl (xSc_10 hc) (by omega) (by omega) ((ck_a hK5 (o := 10) (N := 9) rfl (by omega) (by omega)).trans (xui_a (by decide))) ?_
    have hb6 : -2147483648 ≤ K 10 (lock).toNat ∧ K 10 (lock).toNat ≤ 2147483647 := by rw [← show (xui (lkmF K lock boat d) 8 (lock).toNat (hld ((K 8 (lock).toNat) + (cmpF d 0)))) 10 (lock).toNat = K 10 (lock).toNat from xui_a (by decide)]; exact ki_10 hI5 (lock).toNat
    refine xx_iconst (q := 65) rfl rfl (by decide) ?_
    refine xx_iadd (q := 66) rfl rfl ?_
    refine xc_isz (o := 10) hK5 hF5 (q := 67) rfl rfl (xSc_10 hc) (by decide) (by decide) (by omega) (by omega) (fun D7 hK7 hF7 => ?_)
    have hs7 : (xui (xui (lkmF K lock boat d) 8 (lock).toNat (hld ((K 8 (lock).toNat) + (cmpF d 0)))) 10 (lock).toNat (nrm ((K 10 (lock).toNat) + 1))) 10 (lock).toNat = (nrm ((K 10 (lock).toNat) + 1)) := xui_s
    have hI7 : KI (xui (xui (lkmF K lock boat d) 8 (lock).toNat (hld ((K 8 (lock).toNat) + (cmpF d 0)))) 10 (lock).toNat (nrm ((K 10 (lock).toNat) + 1))) := KI_up hI5 (nrm_lo _) (nrm_hi _)
    refine xx_vret rfl rfl ⟨rfl, _, rfl, ?_⟩
    refine ⟨?_, hF7⟩
    have e : rcvF K lock boat d = (xui (xui (lkmF K lock boat d) 8 (lock).toNat (hld ((K 8 (lock).toNat) + (cmpF d 0)))) 10 (lock).toNat (nrm ((K 10 (lock).toNat) + 1))) := by simp only [rcvF]; grind
    rw [e]
    exact hK7
  · refine xx_aload_n (q := 33) rfl rfl rfl ?_
    refine xx_getR (q := 36) rfl rfl rfl (xSc_7 hc) (Nat.le_of_ble_eq_true rfl) rfl (rc_rival hR hc) ?_
    refine xx_iload_n (q := 37) rfl rfl rfl ?_
    refine xx_iaz (v := K 9 (lock).toNat) (q := 38) rfl rfl (xSc_9 hc) (by omega) (by omega) ((ck_a hK5 (o := 9) (N := 9) rfl (by omega) (by omega)).trans (xui_a (by decide))) ?_
    have hb8 : -1 ≤ K 9 (lock).toNat ∧ K 9 (lock).toNat ≤ 8 := by rw [← show (xui (lkmF K lock boat d) 8 (lock).toNat (hld ((K 8 (lock).toNat) + (cmpF d 0)))) 9 (lock).toNat = K 9 (lock).toNat from xui_a (by decide)]; exact ki_9 hI5 (lock).toNat
    refine xx_iconst (q := 39) rfl rfl (by decide) ?_
    refine xx_icmp_eq (q := 57) (q2 := 42) rfl rfl rfl (fun h39 => ?_) (fun h39 => ?_)
    · refine xx_aload_n (q := 58) rfl rfl rfl ?_
      refine xx_getR (q := 61) rfl rfl rfl (xSc_7 hc) (Nat.le_of_ble_eq_true rfl) rfl (rc_presents hR hc) ?_
      refine xx_iload_n (q := 62) rfl rfl rfl ?_
      refine xx_dup2 (q := 63) rfl rfl ?_
      refine xx_iaz (v := K 10 (lock).toNat) (q := 64) rfl rfl (xSc_10 hc) (by omega) (by omega) ((ck_a hK5 (o := 10) (N := 9) rfl (by omega) (by omega)).trans (xui_a (by decide))) ?_
      have hb9 : -2147483648 ≤ K 10 (lock).toNat ∧ K 10 (lock).toNat ≤ 2147483647 := by rw [← show (xui (lkmF K lock boat d) 8 (lock).toNat (hld ((K 8 (lock).toNat) + (cmpF d 0)))) 10 (lock).toNat = K 10 (lock).toNat from xui_a (by decide)]; exact ki_10 hI5 (lock).toNat
      refine xx_iconst (q := 65) rfl rfl (by decide) ?_
      refine xx_iadd (q := 66) rfl rfl ?_
      refine xc_isz (o := 10) hK5 hF5 (q := 67) rfl rfl (xSc_10 hc) (by decide) (by decide) (by omega) (by omega) (fun D10 hK10 hF10 => ?_)
      have hs10 : (xui (xui (lkmF K lock boat d) 8 (lock).toNat (hld ((K 8 (lock).toNat) + (cmpF d 0)))) 10 (lock).toNat (nrm ((K 10 (lock).toNat) + 1))) 10 (lock).toNat = (nrm ((K 10 (lock).toNat) + 1)) := xui_s
      have hI10 : KI (xui (xui (lkmF K lock boat d) 8 (lock).toNat (hld ((K 8 (lock).toNat) + (cmpF d 0)))) 10 (lock).toNat (nrm ((K 10 (lock).toNat) + 1))) := KI_up hI5 (nrm_lo _) (nrm_hi _)
      refine xx_vret rfl rfl ⟨rfl, _, rfl, ?_⟩
      refine ⟨?_, hF10⟩
      have e : rcvF K lock boat d = (xui (xui (lkmF K lock boat d) 8 (lock).toNat (hld ((K 8 (lock).toNat) + (cmpF d 0)))) 10 (lock).toNat (nrm ((K 10 (lock).toNat) + 1))) := by simp only [rcvF]; grind
      rw [e]
      exact hK10
    · refine xx_aload_n (q := 43) rfl rfl rfl ?_
      refine xx_aload_n (q := 44) rfl rfl rfl ?_
      refine xx_getR (q := 47) rfl rfl rfl (xSc_7 hc) (Nat.le_of_ble_eq_true rfl) rfl (rc_rival hR hc) ?_
      refine xx_iload_n (q := 48) rfl rfl rfl ?_
      refine xx_iaz (v := K 9 (lock).toNat) (q := 49) rfl rfl (xSc_9 hc) (by omega) (by omega) ((ck_a hK5 (o := 9) (N := 9) rfl (by omega) (by omega)).trans (xui_a (by decide))) ?_
      have hb11 : -1 ≤ K 9 (lock).toNat ∧ K 9 (lock).toNat ≤ 8 := by rw [← show (xui (lkmF K lock boat d) 8 (lock).toNat (hld ((K 8 (lock).toNat) + (cmpF d 0)))) 9 (lock).toNat = K 9 (lock).toNat from xui_a (by decide)]; exact ki_9 hI5 (lock).toNat
      refine xx_iload_n (q := 50) rfl rfl rfl ?_
      refine xx_iload_n (q := 51) rfl rfl rfl ?_
      refine xx_iconst (q := 52) rfl rfl (by decide) ?_
      refine xx_idiv (q := 53) rfl rfl (by omega) ?_
      have hd2 := xdiv_2 (d := d) (by omega) (by omega)
      refine xx_inegR (q := 54) rfl rfl (by omega) (by omega) ?_
      have hL13 : (xui (lkmF K lock boat d) 8 (lock).toNat (hld ((K 8 (lock).toNat) + (cmpF d 0)))) 0 0 = K 0 0 := xui_a (by decide)
      have hL14 : (xui (lkmF K lock boat d) 8 (lock).toNat (hld ((K 8 (lock).toNat) + (cmpF d 0)))) 13 0 = K 13 0 := xui_a (by decide)
      obtain ⟨D12, hx12, hK12, hG12⟩ := c_likeMore (n := n) hR hc hK5 hI5 (K 9 (lock).toNat) boat (-(xdiv d 2)) (by omega) (by omega) (by omega) (by omega) (by omega) (by omega)
      have hF12 := hF5.trans hG12
      have hI12 : KI (lkmF (xui (lkmF K lock boat d) 8 (lock).toNat (hld ((K 8 (lock).toNat) + (cmpF d 0)))) (K 9 (lock).toNat) boat (-(xdiv d 2))) := lkmF_I hI5
      refine xx_callV (q := 57) (As := [_, _, _]) (rest := []) rfl rfl rfl (Or.inl rfl) rfl rfl (Nat.le_of_ble_eq_true rfl) (xSc_7 hc) (XCm hx12 rfl) rfl ?_
      refine xx_aload_n (q := 58) rfl rfl rfl ?_
      refine xx_getR (q := 61) rfl rfl rfl (xSc_7 hc) (Nat.le_of_ble_eq_true rfl) rfl (rc_presents hR hc) ?_
      refine xx_iload_n (q := 62) rfl rfl rfl ?_
      refine xx_dup2 (q := 63) rfl rfl ?_
      refine xx_iaz (v := K 10 (lock).toNat) (q := 64) rfl rfl (xSc_10 hc) (by omega) (by omega) ((ck_a hK12 (o := 10) (N := 9) rfl (by omega) (by omega)).trans ((xui_a (by decide)).trans (xui_a (by decide)))) ?_
      have hb15 : -2147483648 ≤ K 10 (lock).toNat ∧ K 10 (lock).toNat ≤ 2147483647 := by rw [← show (lkmF (xui (lkmF K lock boat d) 8 (lock).toNat (hld ((K 8 (lock).toNat) + (cmpF d 0)))) (K 9 (lock).toNat) boat (-(xdiv d 2))) 10 (lock).toNat = K 10 (lock).toNat from (xui_a (by decide)).trans (xui_a (by decide))]; exact ki_10 hI12 (lock).toNat
      refine xx_iconst (q := 65) rfl rfl (by decide) ?_
      refine xx_iadd (q := 66) rfl rfl ?_
      refine xc_isz (o := 10) hK12 hF12 (q := 67) rfl rfl (xSc_10 hc) (by decide) (by decide) (by omega) (by omega) (fun D16 hK16 hF16 => ?_)
      have hs16 : (xui (lkmF (xui (lkmF K lock boat d) 8 (lock).toNat (hld ((K 8 (lock).toNat) + (cmpF d 0)))) (K 9 (lock).toNat) boat (-(xdiv d 2))) 10 (lock).toNat (nrm ((K 10 (lock).toNat) + 1))) 10 (lock).toNat = (nrm ((K 10 (lock).toNat) + 1)) := xui_s
      have hI16 : KI (xui (lkmF (xui (lkmF K lock boat d) 8 (lock).toNat (hld ((K 8 (lock).toNat) + (cmpF d 0)))) (K 9 (lock).toNat) boat (-(xdiv d 2))) 10 (lock).toNat (nrm ((K 10 (lock).toNat) + 1))) := KI_up hI12 (nrm_lo _) (nrm_hi _)
      refine xx_vret rfl rfl ⟨rfl, _, rfl, ?_⟩
      refine ⟨?_, hF16⟩
      have e : rcvF K lock boat d = (xui (lkmF (xui (lkmF K lock boat d) 8 (lock).toNat (hld ((K 8 (lock).toNat) + (cmpF d 0)))) (K 9 (lock).toNat) boat (-(xdiv d 2))) 10 (lock).toNat (nrm ((K 10 (lock).toNat) + 1))) := by simp only [rcvF]; grind
      rw [e]
      exact hK16
theorem rcvF_I {K : KK} {lock boat d : Int} (h : KI K) : KI (rcvF K lock boat d) := by
  unfold rcvF
  dsimp only
  have h1 : KI (xui (lkmF K lock boat d) 8 lock.toNat (hld (K 8 lock.toNat + cmpF d 0))) := KI_up (lkmF_I h) (hld_b _).1 (hld_b _).2
  split
  · exact KI_up (lkmF_I h1) (nrm_lo _) (nrm_hi _)
  · exact KI_up h1 (nrm_lo _) (nrm_hi _)
theorem rcvF_k {K : KK} {lock boat d : Int} {o j : Nat} (h1 : o ≠ 8) (h2 : o ≠ 10) (h3 : o ≠ 12) : rcvF K lock boat d o j = K o j := by
  unfold rcvF
  rw [xui_a h2]
  split
  · exact (xui_a h3).trans ((xui_a h1).trans (xui_a h3))
  · exact (xui_a h1).trans (xui_a h3)
def clmL : Nat → KK → Int → KK
  | 0, K, _ => K
  | k + 1, K, lock => clmL k (xui K 8 lock.toNat (K 8 lock.toNat - cmpF (K 8 lock.toNat) 0)) (lock + 1)
theorem cmp_m (v : Int) (h : -99 ≤ v ∧ v ≤ 99) : -99 ≤ v - cmpF v 0 ∧ v - cmpF v 0 ≤ 99 := by grind [cmpF]
theorem clmL_I : ∀ (k : Nat) (K : KK) (lock : Int), KI K → KI (clmL k K lock)
  | 0, K, lock, h => h
  | k + 1, K, lock, h => clmL_I k _ _ (KI_up h (cmp_m _ (ki_8 h lock.toNat)).1 (cmp_m _ (ki_8 h lock.toNat)).2)
theorem clmL_k : ∀ (k : Nat) (K : KK) (lock : Int) (o j : Nat), o ≠ 8 → clmL k K lock o j = K o j
  | 0, K, lock, o, j, h => rfl
  | k + 1, K, lock, o, j, h => (clmL_k k _ _ o j h).trans (xui_a h)
set_option maxHeartbeats 1000000 in
theorem c_calm_L {n c : Nat} {R : Nat → Nat → Option Nat} {D0 : KK} (hR : RF R) (hc : isC c) (N : Int) (hN : N ≤ 9) : ∀ (k : Nat) (K D : KK) (l : Int), CK c K D → KI K → Fr c D0 D → 0 ≤ l → l + k = N → XX (XC 1) 58 (XP none (xS n) R (fun D' => CK c (clmL k K l) D' ∧ Fr c D0 D')) 2 [some (.inr (some (c + 7))), some (.inl N), some (.inl l)] [] (xS n, R, D) := by
  intro k
  induction k using Nat.strongRecOn with
  | ind k ih =>
  intro K D l hK hI hF h1 hk

  refine xx_iload_n (q := 3) rfl rfl rfl ?_
  refine xx_iload_n (q := 4) rfl rfl rfl ?_
  refine xx_icmp_ge (q := 32) (q2 := 7) rfl rfl rfl (fun h4 => ?_) (fun h4 => ?_)
  · obtain rfl : k = 0 := by omega
    exact xx_vret rfl rfl ⟨rfl, _, rfl, hK, hF⟩
  · obtain ⟨k, rfl⟩ : ∃ k2, k = k2 + 1 := ⟨k - 1, by omega⟩
    have hcm := cmp_m _ (ki_8 hI l.toNat)
    refine xx_aload_n (q := 8) rfl rfl rfl ?_
    refine xx_getR (q := 11) rfl rfl rfl (xSc_7 hc) (Nat.le_of_ble_eq_true rfl) rfl (rc_mood hR hc) ?_
    refine xx_iload_n (q := 12) rfl rfl rfl ?_
    refine xx_dup2 (q := 13) rfl rfl ?_
    refine xx_iaz (v := K 8 (l).toNat) (q := 14) rfl rfl (xSc_8 hc) (by omega) (by omega) (ck_a hK (o := 8) (N := 9) rfl (by omega) (by omega)) ?_
    have hb1 : -99 ≤ K 8 (l).toNat ∧ K 8 (l).toNat ≤ 99 := by have h := ki_8 hI (l).toNat; exact h
    refine xx_aload_n (q := 15) rfl rfl rfl ?_
    refine xx_getR (q := 18) rfl rfl rfl (xSc_7 hc) (Nat.le_of_ble_eq_true rfl) rfl (rc_mood hR hc) ?_
    refine xx_iload_n (q := 19) rfl rfl rfl ?_
    refine xx_iaz (v := K 8 (l).toNat) (q := 20) rfl rfl (xSc_8 hc) (by omega) (by omega) (ck_a hK (o := 8) (N := 9) rfl (by omega) (by omega)) ?_
    have hb2 : -99 ≤ K 8 (l).toNat ∧ K 8 (l).toNat ≤ 99 := by have h := ki_8 hI (l).toNat; exact h
    refine xx_iconst (q := 21) rfl rfl (by decide) ?_
    refine xx_callS (q := 24) (As := [_, _]) (rest := [_, _, _]) rfl rfl rfl (Or.inl rfl) rfl rfl (Nat.le_of_ble_eq_true rfl) (XCm (c_compare (K 8 (l).toNat) 0) rfl) rfl ?_
    have hb3 := cmpF_b (K 8 (l).toNat) 0
    refine xx_isubR (q := 25) rfl rfl (by omega) (by omega) ?_
    refine xc_isz (o := 8) hK hF (q := 26) rfl rfl (xSc_8 hc) (by decide) (by decide) (by omega) (by omega) (fun D4 hK4 hF4 => ?_)
    have hs4 : (xui K 8 (l).toNat ((K 8 (l).toNat) - (cmpF (K 8 (l).toNat) 0))) 8 (l).toNat = ((K 8 (l).toNat) - (cmpF (K 8 (l).toNat) 0)) := xui_s
    have hI4 : KI (xui K 8 (l).toNat ((K 8 (l).toNat) - (cmpF (K 8 (l).toNat) 0))) := KI_up hI (show (-99 : Int) ≤ _ by omega) (show _ ≤ (99 : Int) by omega)
    refine xx_incz (q := 29) (loc2 := [_, _, _]) rfl rfl rfl (by omega) (by omega) rfl rfl ?_
    refine xx_goto (q := 2) rfl rfl ?_
    exact ih k (by omega) _ _ _ hK4 hI4 hF4 (by omega) (by omega)
def clmF (K : KK) : KK := clmL (K 0 0).toNat K 0
set_option maxHeartbeats 1000000 in
theorem c_calmDown {n c : Nat} {R : Nat → Nat → Option Nat} {D K : KK} (hR : RF R) (hc : isC c) (hK : CK c K D) (hI : KI K) (N : Int) (hN : N = K 0 0) : ∃ D', XC 2 58 [.inr (some (c + 7)), .inl N] (xS n, R, D) none (xS n, R, D') ∧ CK c (clmF K) D' ∧ Fr c D D' := by
  subst hN
  have hbL := ki_L hI
  refine XE_of (Nat.le_of_ble_eq_true rfl) (Nat.le_of_ble_eq_true rfl) (loc := [_, _, _]) rfl ?_
  refine xx_iconst (q := 1) rfl rfl (by decide) ?_
  refine xx_istore_n (q := 2) (loc2 := [_, _, _]) rfl rfl (Nat.le_of_ble_eq_true rfl) rfl ?_
  exact c_calm_L hR hc (K 0 0) (by omega) (K 0 0).toNat K D 0 hK hI Fr.rf (by omega) (by omega)
def gspB : Nat → KK → Int → Int → KK
  | 0, K, _, _ => K
  | k + 1, K, lock, boat => gspB k (lkmF K lock boat (cmpF (K 12 ((lock + 1) * 6 + boat).toNat) (K 12 (lock * 6 + boat).toNat))) lock (boat + 1)
def gspL : Nat → KK → Int → KK
  | 0, K, _ => K
  | k + 1, K, lock => gspL k (gspB (K 13 0).toNat K lock 0) (lock + 1)
def gspF (K : KK) : KK := gspL (K 0 0 - 1).toNat K 0
theorem gspB_I : ∀ (k : Nat) (K : KK) (lock boat : Int), KI K → KI (gspB k K lock boat)
  | 0, K, lock, boat, h => h
  | k + 1, K, lock, boat, h => gspB_I k _ _ _ (lkmF_I h)
theorem gspB_k : ∀ (k : Nat) (K : KK) (lock boat : Int) (o j : Nat), o ≠ 12 → gspB k K lock boat o j = K o j
  | 0, K, lock, boat, o, j, h => rfl
  | k + 1, K, lock, boat, o, j, h => (gspB_k k _ _ _ o j h).trans (xui_a h)
theorem gspL_I : ∀ (k : Nat) (K : KK) (lock : Int), KI K → KI (gspL k K lock)
  | 0, K, lock, h => h
  | k + 1, K, lock, h => gspL_I k _ _ (gspB_I _ _ _ _ h)
theorem gspL_k : ∀ (k : Nat) (K : KK) (lock : Int) (o j : Nat), o ≠ 12 → gspL k K lock o j = K o j
  | 0, K, lock, o, j, h => rfl
  | k + 1, K, lock, o, j, h => (gspL_k k _ _ o j h).trans (gspB_k _ _ _ _ o j h)
set_option maxHeartbeats 1000000 in
theorem c_gsp_B {n c : Nat} {R : Nat → Nat → Option Nat} {D0 : KK} {Q : XQ} (hR : RF R) (hc : isC c) (N M l : Int) (hM : M ≤ 6) (hl : 0 ≤ l) (hl2 : l < 8) : ∀ (k : Nat) (K D : KK) (b : Int), CK c K D → KI K → Fr c D0 D → 0 ≤ b → b + k = M → (∀ D2 b2, CK c (gspB k K l b) D2 → KI (gspB k K l b) → Fr c D0 D2 → XX (XC 3) 57 Q 50 [some (.inr (some (c + 7))), some (.inl N), some (.inl M), some (.inl l), some (.inl b2)] [] (xS n, R, D2)) → XX (XC 3) 57 (Q) 12 [some (.inr (some (c + 7))), some (.inl N), some (.inl M), some (.inl l), some (.inl b)] [] (xS n, R, D) := by
  intro k
  induction k using Nat.strongRecOn with
  | ind k ih =>
  intro K D b hK hI hF h1 hk kx
  refine xx_iload (q := 14) rfl rfl rfl ?_
  refine xx_iload_n (q := 15) rfl rfl rfl ?_
  refine xx_icmp_ge (q := 50) (q2 := 18) rfl rfl rfl (fun h15 => ?_) (fun h15 => ?_)
  · obtain rfl : k = 0 := by omega
    exact kx _ _ hK hI hF
  · obtain ⟨k, rfl⟩ : ∃ k2, k = k2 + 1 := ⟨k - 1, by omega⟩
    refine xx_aload_n (q := 19) rfl rfl rfl ?_
    refine xx_iload_n (q := 20) rfl rfl rfl ?_
    refine xx_iload (q := 22) rfl rfl rfl ?_
    refine xx_aload_n (q := 23) rfl rfl rfl ?_
    refine xx_iload_n (q := 24) rfl rfl rfl ?_
    refine xx_iconst (q := 25) rfl rfl (by decide) ?_
    refine xx_iaddR (q := 26) rfl rfl (by omega) (by omega) ?_
    refine xx_iload (q := 28) rfl rfl rfl ?_
    refine xx_callV (q := 31) (As := [_, _]) (rest := [_, _, _]) rfl rfl rfl (Or.inl rfl) rfl rfl (Nat.le_of_ble_eq_true rfl) (xSc_7 hc) (XCm (c_likingOf hR hc hK hI (l + 1) b (by omega) (by omega) (by omega) (by omega)) rfl) rfl ?_
    refine xx_aload_n (q := 32) rfl rfl rfl ?_
    refine xx_iload_n (q := 33) rfl rfl rfl ?_
    refine xx_iload (q := 35) rfl rfl rfl ?_
    refine xx_callV (q := 38) (As := [_, _]) (rest := [_, _, _, _]) rfl rfl rfl (Or.inl rfl) rfl rfl (Nat.le_of_ble_eq_true rfl) (xSc_7 hc) (XCm (c_likingOf hR hc hK hI l b (by omega) (by omega) (by omega) (by omega)) rfl) rfl ?_
    refine xx_callS (q := 41) (As := [_, _]) (rest := [_, _, _]) rfl rfl rfl (Or.inl rfl) rfl rfl (Nat.le_of_ble_eq_true rfl) (XCm (c_compare (K 12 ((l + 1) * 6 + b).toNat) (K 12 (l * 6 + b).toNat)) rfl) rfl ?_
    have hb1 := cmpF_b (K 12 ((l + 1) * 6 + b).toNat) (K 12 (l * 6 + b).toNat)
    obtain ⟨D2, hx2, hK2, hG2⟩ := c_likeMore (n := n) hR hc hK hI l b (cmpF (K 12 ((l + 1) * 6 + b).toNat) (K 12 (l * 6 + b).toNat)) (by omega) (by omega) (by omega) (by omega) (by omega) (by omega)
    have hF2 := hF.trans hG2
    have hI2 : KI (lkmF K l b (cmpF (K 12 ((l + 1) * 6 + b).toNat) (K 12 (l * 6 + b).toNat))) := lkmF_I hI
    refine xx_callV (q := 44) (As := [_, _, _]) (rest := []) rfl rfl rfl (Or.inl rfl) rfl rfl (Nat.le_of_ble_eq_true rfl) (xSc_7 hc) (XCm hx2 rfl) rfl ?_
    refine xx_incz (q := 47) (loc2 := [_, _, _, _, _]) rfl rfl rfl (by omega) (by omega) rfl rfl ?_
    refine xx_goto (q := 12) rfl rfl ?_
    exact ih k (by omega) _ _ _ hK2 hI2 hF2 (by omega) (by omega) kx
set_option maxHeartbeats 1000000 in
theorem c_gsp_L {n c : Nat} {R : Nat → Nat → Option Nat} {D0 : KK} (hR : RF R) (hc : isC c) (N M : Int) (hN : N ≤ 9) (hM : 0 ≤ M) (hM2 : M ≤ 6) : ∀ (k : Nat) (K D : KK) (l : Int) (x : Option XV), CK c K D → KI K → Fr c D0 D → M = K 13 0 → 0 ≤ l → l + k + 1 = N → XX (XC 3) 57 (XP none (xS n) R (fun D' => CK c (gspL k K l) D' ∧ Fr c D0 D')) 2 [some (.inr (some (c + 7))), some (.inl N), some (.inl M), some (.inl l), x] [] (xS n, R, D) := by
  intro k
  induction k using Nat.strongRecOn with
  | ind k ih =>
  intro K D l x hK hI hF hM3 h1 hk
  refine xx_iload_n (q := 3) rfl rfl rfl ?_
  refine xx_iconst (q := 4) rfl rfl (by decide) ?_
  refine xx_iaddR (q := 5) rfl rfl (by omega) (by omega) ?_
  refine xx_iload_n (q := 6) rfl rfl rfl ?_
  refine xx_icmp_ge (q := 56) (q2 := 9) rfl rfl rfl (fun h6 => ?_) (fun h6 => ?_)
  · obtain rfl : k = 0 := by omega
    exact xx_vret rfl rfl ⟨rfl, _, rfl, hK, hF⟩
  · obtain ⟨k, rfl⟩ : ∃ k2, k = k2 + 1 := ⟨k - 1, by omega⟩
    refine xx_iconst (q := 10) rfl rfl (by decide) ?_
    refine xx_istore (q := 12) (loc2 := [_, _, _, _, _]) rfl rfl (Nat.le_of_ble_eq_true rfl) rfl ?_
    refine c_gsp_B hR hc N M l (by omega) (by omega) (by omega) (K 13 0).toNat _ _ 0 hK hI hF (by omega) (by omega) (fun D2 b2 hK2 hI2 hF2 => ?_)
    refine xx_incz (q := 53) (loc2 := [_, _, _, _, _]) rfl rfl rfl (by omega) (by omega) rfl rfl ?_
    refine xx_goto (q := 2) rfl rfl ?_
    exact ih k (by omega) _ _ _ _ hK2 hI2 hF2 (hM3.trans (gspB_k _ _ _ _ _ _ (by decide)).symm) (by omega) (by omega)
set_option maxHeartbeats 1000000 in
theorem c_gossip {n c : Nat} {R : Nat → Nat → Option Nat} {D K : KK} (hR : RF R) (hc : isC c) (hK : CK c K D) (hI : KI K) (N M : Int) (hN : N = K 0 0) (hM : M = K 13 0) : ∃ D', XC 4 57 [.inr (some (c + 7)), .inl N, .inl M] (xS n, R, D) none (xS n, R, D') ∧ CK c (gspF K) D' ∧ Fr c D D' := by
  subst hN
  subst hM
  have hbL := ki_L hI
  have hbB := ki_B hI
  refine XE_of (Nat.le_of_ble_eq_true rfl) (Nat.le_of_ble_eq_true rfl) (loc := [_, _, _, _, _]) rfl ?_
  refine xx_iconst (q := 1) rfl rfl (by decide) ?_
  refine xx_istore_n (q := 2) (loc2 := [_, _, _, _, _]) rfl rfl (Nat.le_of_ble_eq_true rfl) rfl ?_
  exact c_gsp_L hR hc (K 0 0) (K 13 0) (by omega) (by omega) (by omega) (K 0 0 - 1).toNat K D 0 _ hK hI Fr.rf rfl (by omega) (by omega)
def favL : Nat → KK → Int → Int → Int → Int
  | 0, _, _, best, _ => best
  | k + 1, K, lock, best, b => favL k K lock (if best = -1 ∨ K 12 (lock * 6 + best).toNat < K 12 (lock * 6 + b).toNat then b else best) (b + 1)
def favF (K : KK) (lock : Int) : Int := favL (K 13 0).toNat K lock (-1) 0
theorem favL_b : ∀ (k : Nat) (K : KK) (lock best b : Int), -1 ≤ best → best < b → -1 ≤ favL k K lock best b ∧ favL k K lock best b < b + k
  | 0, K, lock, best, b, h1, h2 => ⟨h1, by show best < b + 0; omega⟩
  | k + 1, K, lock, best, b, h1, h2 => by
    have h := favL_b k K lock (if best = -1 ∨ K 12 (lock * 6 + best).toNat < K 12 (lock * 6 + b).toNat then b else best) (b + 1) (by split <;> omega) (by split <;> omega)
    exact ⟨h.1, by have := h.2; show favL k K lock _ (b + 1) < b + ((k + 1 : Nat) : Int); omega⟩
theorem favF_b {K : KK} (h : KI K) (lock : Int) : -1 ≤ favF K lock ∧ favF K lock < K 13 0 := by
  have h1 := favL_b (K 13 0).toNat K lock (-1) 0 (by omega) (by omega)
  have h2 := ki_B h
  exact ⟨h1.1, by have := h1.2; unfold favF; omega⟩
set_option maxHeartbeats 1000000 in
theorem c_fav_L {n c : Nat} {R : Nat → Nat → Option Nat} {D K : KK} (hR : RF R) (hc : isC c) (hK : CK c K D) (hI : KI K) (l M : Int) (hM : M = K 13 0) (h0 : 0 ≤ l) (h1 : l < 9) : ∀ (k : Nat) (best b : Int), -1 ≤ best → best < b → b + k = M → XX (XC 1) 59 (fun r2 m2 => r2 = some (.inl (favL k K l best b)) ∧ m2 = (xS n, R, D)) 5 [some (.inr (some (c + 7))), some (.inl l), some (.inl M), some (.inl best), some (.inl b)] [] (xS n, R, D) := by
  intro k
  induction k using Nat.strongRecOn with
  | ind k ih =>
  intro best b h2 h3 hk
  have hbB := ki_B hI
  refine xx_iload (q := 7) rfl rfl rfl ?_
  refine xx_iload_n (q := 8) rfl rfl rfl ?_
  refine xx_icmp_ge (q := 41) (q2 := 11) rfl rfl rfl (fun h8 => ?_) (fun h8 => ?_)
  · refine xx_iload_n (q := 42) rfl rfl rfl ?_
    obtain rfl : k = 0 := by omega
    exact xx_iret rfl trivial ⟨rfl, rfl⟩
  · obtain ⟨k, rfl⟩ : ∃ k2, k = k2 + 1 := ⟨k - 1, by omega⟩
    refine xx_iload_n (q := 12) rfl rfl rfl ?_
    refine xx_iconst (q := 13) rfl rfl (by decide) ?_
    refine xx_icmp_eq (q := 32) (q2 := 16) rfl rfl rfl (fun h13 => ?_) (fun h13 => ?_)
    · refine xx_iload (q := 34) rfl rfl rfl ?_
      refine xx_istore_n (q := 35) (loc2 := [_, _, _, _, _]) rfl rfl (Nat.le_of_ble_eq_true rfl) rfl ?_
      refine xx_incz (q := 38) (loc2 := [_, _, _, _, _]) rfl rfl rfl (by omega) (by omega) rfl rfl ?_
      refine xx_goto (q := 5) rfl rfl ?_
      have e := ih k (by omega) b (b + 1) (by omega) (by omega) (by omega)
      have e2 : favL (k + 1) K l best b = favL k K l b (b + 1) := by simp only [favL]; congr 1; grind
      rw [e2]
      exact e
    · refine xx_aload_n (q := 17) rfl rfl rfl ?_
      refine xx_iload_n (q := 18) rfl rfl rfl ?_
      refine xx_iload (q := 20) rfl rfl rfl ?_
      refine xx_callV (q := 23) (As := [_, _]) (rest := []) rfl rfl rfl (Or.inl rfl) rfl rfl (Nat.le_of_ble_eq_true rfl) (xSc_7 hc) (XCm (c_likingOf hR hc hK hI l b (by omega) (by omega) (by omega) (by omega)) rfl) rfl ?_
      refine xx_aload_n (q := 24) rfl rfl rfl ?_
      refine xx_iload_n (q := 25) rfl rfl rfl ?_
      refine xx_iload_n (q := 26) rfl rfl rfl ?_
      refine xx_callV (q := 29) (As := [_, _]) (rest := [_]) rfl rfl rfl (Or.inl rfl) rfl rfl (Nat.le_of_ble_eq_true rfl) (xSc_7 hc) (XCm (c_likingOf hR hc hK hI l best (by omega) (by omega) (by omega) (by omega)) rfl) rfl ?_
      refine xx_icmp_le (q := 35) (q2 := 32) rfl rfl rfl (fun h29 => ?_) (fun h29 => ?_)
      · refine xx_incz (q := 38) (loc2 := [_, _, _, _, _]) rfl rfl rfl (by omega) (by omega) rfl rfl ?_
        refine xx_goto (q := 5) rfl rfl ?_
        have e := ih k (by omega) best (b + 1) (by omega) (by omega) (by omega)
        have e2 : favL (k + 1) K l best b = favL k K l best (b + 1) := by simp only [favL]; congr 1; grind
        rw [e2]
        exact e
      · refine xx_iload (q := 34) rfl rfl rfl ?_
        refine xx_istore_n (q := 35) (loc2 := [_, _, _, _, _]) rfl rfl (Nat.le_of_ble_eq_true rfl) rfl ?_
        refine xx_incz (q := 38) (loc2 := [_, _, _, _, _]) rfl rfl rfl (by omega) (by omega) rfl rfl ?_
        refine xx_goto (q := 5) rfl rfl ?_
        have e := ih k (by omega) b (b + 1) (by omega) (by omega) (by omega)
        have e2 : favL (k + 1) K l best b = favL k K l b (b + 1) := by simp only [favL]; congr 1; grind
        rw [e2]
        exact e
set_option maxHeartbeats 1000000 in
theorem c_favourite {n c : Nat} {R : Nat → Nat → Option Nat} {D K : KK} (hR : RF R) (hc : isC c) (hK : CK c K D) (hI : KI K) (l : Int) (h0 : 0 ≤ l) (h1 : l < 9) : XC 2 59 [.inr (some (c + 7)), .inl l, .inl (K 13 0)] (xS n, R, D) (some (.inl (favF K l))) (xS n, R, D) := by
  have hbB := ki_B hI
  refine XC_of (Nat.le_of_ble_eq_true rfl) (Nat.le_of_ble_eq_true rfl) (loc := [_, _, _, _, _]) rfl ?_
  refine xx_iconst (q := 1) rfl rfl (by decide) ?_
  refine xx_istore_n (q := 2) (loc2 := [_, _, _, _, _]) rfl rfl (Nat.le_of_ble_eq_true rfl) rfl ?_
  refine xx_iconst (q := 3) rfl rfl (by decide) ?_
  refine xx_istore (q := 5) (loc2 := [_, _, _, _, _]) rfl rfl (Nat.le_of_ble_eq_true rfl) rfl ?_
  exact c_fav_L hR hc hK hI l (K 13 0) rfl h0 h1 (K 13 0).toNat (-1) 0 (by omega) (by omega) (by omega)
def watL : Nat → KK → Int → Int → Int
  | 0, _, all, _ => all
  | k + 1, K, all, p => watL k K (all + K 1 p.toNat) (p + 1)
def watF (K : KK) : Int := watL (K 0 0 + 1).toNat K 0 0
theorem watL_b : ∀ (k : Nat) (K : KK) (all p : Int), KI K → 0 ≤ all → 0 ≤ watL k K all p ∧ watL k K all p ≤ all + 999 * k
  | 0, K, all, p, h, h1 => ⟨h1, by show all ≤ _; omega⟩
  | k + 1, K, all, p, h, h1 => by
    have h2 := ki_1 h p.toNat
    have h3 := watL_b k K (all + K 1 p.toNat) (p + 1) h (by omega)
    exact ⟨h3.1, by have := h3.2; show watL k K _ _ ≤ all + 999 * ((k + 1 : Nat) : Int); omega⟩
theorem watF_b {K : KK} (h : KI K) : 0 ≤ watF K ∧ watF K ≤ 9990 := by
  have h1 := watL_b (K 0 0 + 1).toNat K 0 0 h (by omega)
  have h2 := ki_L h
  exact ⟨h1.1, by have := h1.2; unfold watF; omega⟩
set_option maxHeartbeats 1000000 in
theorem c_wat_L {n c : Nat} {R : Nat → Nat → Option Nat} {D K : KK} (hR : RF R) (hc : isC c) (hK : CK c K D) (hI : KI K) : ∀ (k : Nat) (all p : Int), 0 ≤ all → all ≤ 999 * p → 0 ≤ p → p + k = K 0 0 + 1 → XX (XC 0) 13 (fun r2 m2 => r2 = some (.inl (watL k K all p)) ∧ m2 = (xS n, R, D)) 4 [some (.inr (some c)), some (.inl all), some (.inl p)] [] (xS n, R, D) := by
  intro k
  induction k using Nat.strongRecOn with
  | ind k ih =>
  intro all p h1 h2 h3 hk
  have hbL := ki_L hI
  refine xx_iload_n (q := 5) rfl rfl rfl ?_
  refine xx_aload_n (q := 6) rfl rfl rfl ?_
  refine xx_gez (v := K 0 0) (q := 9) rfl rfl rfl (xSc_0 hc) (Nat.le_of_ble_eq_true rfl) rfl (hK 0 0 (Nat.le_of_ble_eq_true rfl)) ?_
  have hb1 : 1 ≤ K 0 0 ∧ K 0 0 ≤ 9 := by have h := ki_L hI; exact h
  refine xx_icmp_gt (q := 27) (q2 := 12) rfl rfl rfl (fun h9 => ?_) (fun h9 => ?_)
  · refine xx_iload_n (q := 28) rfl rfl rfl ?_
    obtain rfl : k = 0 := by omega
    exact xx_iret rfl trivial ⟨rfl, rfl⟩
  · obtain ⟨k, rfl⟩ : ∃ k2, k = k2 + 1 := ⟨k - 1, by omega⟩
    refine xx_iload_n (q := 13) rfl rfl rfl ?_
    refine xx_aload_n (q := 14) rfl rfl rfl ?_
    refine xx_getR (q := 17) rfl rfl rfl (xSc_0 hc) (Nat.le_of_ble_eq_true rfl) rfl (rc_depth hR hc) ?_
    refine xx_iload_n (q := 18) rfl rfl rfl ?_
    refine xx_iaz (v := K 1 (p).toNat) (q := 19) rfl rfl (xSc_1 hc) (by omega) (by omega) (ck_a hK (o := 1) (N := 10) rfl (by omega) (by omega)) ?_
    have hb2 : 0 ≤ K 1 (p).toNat ∧ K 1 (p).toNat ≤ 999 := by have h := ki_1 hI (p).toNat; exact h
    refine xx_iaddR (q := 20) rfl rfl (by omega) (by omega) ?_
    refine xx_istore_n (q := 21) (loc2 := [_, _, _]) rfl rfl (Nat.le_of_ble_eq_true rfl) rfl ?_
    refine xx_incz (q := 24) (loc2 := [_, _, _]) rfl rfl rfl (by omega) (by omega) rfl rfl ?_
    refine xx_goto (q := 4) rfl rfl ?_
    exact ih k (by omega) (all + (K 1 (p).toNat)) (p + 1) (by omega) (by omega) (by omega) (by omega)
set_option maxHeartbeats 1000000 in
theorem c_allWater {n c : Nat} {R : Nat → Nat → Option Nat} {D K : KK} (hR : RF R) (hc : isC c) (hK : CK c K D) (hI : KI K) : XC 1 13 [.inr (some c)] (xS n, R, D) (some (.inl (watF K))) (xS n, R, D) := by
  have hbL := ki_L hI
  refine XC_of (Nat.le_of_ble_eq_true rfl) (Nat.le_of_ble_eq_true rfl) (loc := [_, _, _]) rfl ?_
  refine xx_iconst (q := 1) rfl rfl (by decide) ?_
  refine xx_istore_n (q := 2) (loc2 := [_, _, _]) rfl rfl (Nat.le_of_ble_eq_true rfl) rfl ?_
  refine xx_iconst (q := 3) rfl rfl (by decide) ?_
  refine xx_istore_n (q := 4) (loc2 := [_, _, _]) rfl rfl (Nat.le_of_ble_eq_true rfl) rfl ?_
  exact c_wat_L hR hc hK hI (K 0 0 + 1).toNat 0 0 (by omega) (by omega) (by omega) (by omega)
def envL : Nat → KK → Int → Int → Int
  | 0, _, set, _ => set
  | k + 1, K, set, l => envL k K (if ¬ favF K l = -1 ∧ ¬ K 9 l.toNat = -1 ∧ K 12 (l * 6 + favF K l).toNat < K 12 (K 9 l.toNat * 6 + favF K l).toNat then xor_ set (xshl 1 l) else set) (l + 1)
def envF (K : KK) : Int := envL (K 0 0).toNat K 0 0
set_option maxHeartbeats 1000000 in
theorem c_env_L {n c : Nat} {R : Nat → Nat → Option Nat} {D K : KK} (hR : RF R) (hc : isC c) (hK : CK c K D) (hI : KI K) : ∀ (k : Nat) (set l : Int) (x : Option XV), 0 ≤ l → l + k = K 0 0 → XX (XC 2) 60 (fun r2 m2 => r2 = some (.inl (envL k K set l)) ∧ m2 = (xS n, R, D)) 5 [some (.inr (some (c + 7))), some (.inl (K 0 0)), some (.inl (K 13 0)), some (.inl set), some (.inl l), x] [] (xS n, R, D) := by
  intro k
  induction k using Nat.strongRecOn with
  | ind k ih =>
  intro set l x h1 hk
  have hbL := ki_L hI
  have hbB := ki_B hI
  refine xx_iload (q := 7) rfl rfl rfl ?_
  refine xx_iload_n (q := 8) rfl rfl rfl ?_
  refine xx_icmp_ge (q := 77) (q2 := 11) rfl rfl rfl (fun h8 => ?_) (fun h8 => ?_)
  · refine xx_iload_n (q := 78) rfl rfl rfl ?_
    obtain rfl : k = 0 := by omega
    exact xx_iret rfl trivial ⟨rfl, rfl⟩
  · obtain ⟨k, rfl⟩ : ∃ k2, k = k2 + 1 := ⟨k - 1, by omega⟩
    refine xx_aload_n (q := 12) rfl rfl rfl ?_
    refine xx_iload (q := 14) rfl rfl rfl ?_
    refine xx_iload_n (q := 15) rfl rfl rfl ?_
    refine xx_callV (q := 18) (As := [_, _]) (rest := []) rfl rfl rfl (Or.inl rfl) rfl rfl (Nat.le_of_ble_eq_true rfl) (xSc_7 hc) (XCm (c_favourite hR hc hK hI l (by omega) (by omega)) rfl) rfl ?_
    have hb1 := favF_b hI l
    refine xx_istore (q := 20) (loc2 := [_, _, _, _, _, _]) rfl rfl (Nat.le_of_ble_eq_true rfl) rfl ?_
    refine xx_iload (q := 22) rfl rfl rfl ?_
    refine xx_iconst (q := 23) rfl rfl (by decide) ?_
    refine xx_icmp_eq (q := 71) (q2 := 26) rfl rfl rfl (fun h23 => ?_) (fun h23 => ?_)
    · refine xx_incz (q := 74) (loc2 := [_, _, _, _, _, _]) rfl rfl rfl (by omega) (by omega) rfl rfl ?_
      refine xx_goto (q := 5) rfl rfl ?_
      have e2 : envL (k + 1) K set l = envL k K set (l + 1) := by simp only [envL]; congr 1; grind
      rw [e2]
      exact ih k (by omega) set (l + 1) _ (by omega) (by omega)
    · refine xx_aload_n (q := 27) rfl rfl rfl ?_
      refine xx_getR (q := 30) rfl rfl rfl (xSc_7 hc) (Nat.le_of_ble_eq_true rfl) rfl (rc_rival hR hc) ?_
      refine xx_iload (q := 32) rfl rfl rfl ?_
      refine xx_iaz (v := K 9 (l).toNat) (q := 33) rfl rfl (xSc_9 hc) (by omega) (by omega) (ck_a hK (o := 9) (N := 9) rfl (by omega) (by omega)) ?_
      have hb2 : -1 ≤ K 9 (l).toNat ∧ K 9 (l).toNat ≤ 8 := by have h := ki_9 hI (l).toNat; exact h
      refine xx_iconst (q := 34) rfl rfl (by decide) ?_
      refine xx_icmp_ne (q := 40) (q2 := 37) rfl rfl rfl (fun h34 => ?_) (fun h34 => ?_)
      · refine xx_aload_n (q := 41) rfl rfl rfl ?_
        refine xx_aload_n (q := 42) rfl rfl rfl ?_
        refine xx_getR (q := 45) rfl rfl rfl (xSc_7 hc) (Nat.le_of_ble_eq_true rfl) rfl (rc_rival hR hc) ?_
        refine xx_iload (q := 47) rfl rfl rfl ?_
        refine xx_iaz (v := K 9 (l).toNat) (q := 48) rfl rfl (xSc_9 hc) (by omega) (by omega) (ck_a hK (o := 9) (N := 9) rfl (by omega) (by omega)) ?_
        have hb3 : -1 ≤ K 9 (l).toNat ∧ K 9 (l).toNat ≤ 8 := by have h := ki_9 hI (l).toNat; exact h
        refine xx_iload (q := 50) rfl rfl rfl ?_
        refine xx_callV (q := 53) (As := [_, _]) (rest := []) rfl rfl rfl (Or.inl rfl) rfl rfl (Nat.le_of_ble_eq_true rfl) (xSc_7 hc) (XCm (c_likingOf hR hc hK hI (K 9 (l).toNat) (favF K l) (by omega) (by omega) (by omega) (by omega)) rfl) rfl ?_
        refine xx_aload_n (q := 54) rfl rfl rfl ?_
        refine xx_iload (q := 56) rfl rfl rfl ?_
        refine xx_iload (q := 58) rfl rfl rfl ?_
        refine xx_callV (q := 61) (As := [_, _]) (rest := [_]) rfl rfl rfl (Or.inl rfl) rfl rfl (Nat.le_of_ble_eq_true rfl) (xSc_7 hc) (XCm (c_likingOf hR hc hK hI l (favF K l) (by omega) (by omega) (by omega) (by omega)) rfl) rfl ?_
        refine xx_icmp_le (q := 71) (q2 := 64) rfl rfl rfl (fun h61 => ?_) (fun h61 => ?_)
        · refine xx_incz (q := 74) (loc2 := [_, _, _, _, _, _]) rfl rfl rfl (by omega) (by omega) rfl rfl ?_
          refine xx_goto (q := 5) rfl rfl ?_
          have e2 : envL (k + 1) K set l = envL k K set (l + 1) := by simp only [envL]; congr 1; grind
          rw [e2]
          exact ih k (by omega) set (l + 1) _ (by omega) (by omega)
        · refine xx_iload_n (q := 65) rfl rfl rfl ?_
          refine xx_iconst (q := 66) rfl rfl (by decide) ?_
          refine xx_iload (q := 68) rfl rfl rfl ?_
          refine xx_ishl (q := 69) rfl rfl ?_
          refine xx_ior (q := 70) rfl rfl ?_
          refine xx_istore_n (q := 71) (loc2 := [_, _, _, _, _, _]) rfl rfl (Nat.le_of_ble_eq_true rfl) rfl ?_
          refine xx_incz (q := 74) (loc2 := [_, _, _, _, _, _]) rfl rfl rfl (by omega) (by omega) rfl rfl ?_
          refine xx_goto (q := 5) rfl rfl ?_
          have e2 : envL (k + 1) K set l = envL k K (xor_ set (xshl 1 l)) (l + 1) := by simp only [envL]; congr 1; grind
          rw [e2]
          exact ih k (by omega) (xor_ set (xshl 1 l)) (l + 1) _ (by omega) (by omega)
      · refine xx_goto (q := 71) rfl rfl ?_
        refine xx_incz (q := 74) (loc2 := [_, _, _, _, _, _]) rfl rfl rfl (by omega) (by omega) rfl rfl ?_
        refine xx_goto (q := 5) rfl rfl ?_
        have e2 : envL (k + 1) K set l = envL k K set (l + 1) := by simp only [envL]; congr 1; grind
        rw [e2]
        exact ih k (by omega) set (l + 1) _ (by omega) (by omega)
set_option maxHeartbeats 1000000 in
theorem c_envious {n c : Nat} {R : Nat → Nat → Option Nat} {D K : KK} (hR : RF R) (hc : isC c) (hK : CK c K D) (hI : KI K) : XC 3 60 [.inr (some (c + 7)), .inl (K 0 0), .inl (K 13 0)] (xS n, R, D) (some (.inl (envF K))) (xS n, R, D) := by
  have hbL := ki_L hI
  refine XC_of (Nat.le_of_ble_eq_true rfl) (Nat.le_of_ble_eq_true rfl) (loc := [_, _, _, _, _, _]) rfl ?_
  refine xx_iconst (q := 1) rfl rfl (by decide) ?_
  refine xx_istore_n (q := 2) (loc2 := [_, _, _, _, _, _]) rfl rfl (Nat.le_of_ble_eq_true rfl) rfl ?_
  refine xx_iconst (q := 3) rfl rfl (by decide) ?_
  refine xx_istore (q := 5) (loc2 := [_, _, _, _, _, _]) rfl rfl (Nat.le_of_ble_eq_true rfl) rfl ?_
  exact c_env_L hR hc hK hI (K 0 0).toNat 0 0 _ (by omega) (by omega)
