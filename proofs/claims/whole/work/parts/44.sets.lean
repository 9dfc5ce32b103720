/-! Sets of boats; orders. -/
abbrev inS (s b : Int) : Prop := xand (xshr s b) 1 = 1
def rmS (s b : Int) : Int := xand s (xxor (xshl 1 b) (-1))
set_option maxHeartbeats 1000000 in
theorem c_isIn {m : XM} (s b : Int) : XC 1 36 [.inl s, .inl b] m (some (.inl (bi (inS s b)))) m := by
  refine XC_of (Nat.le_of_ble_eq_true rfl) (Nat.le_of_ble_eq_true rfl) (loc := [_, _]) rfl ?_
  refine xx_iload_n (q := 1) rfl rfl rfl ?_
  refine xx_iload_n (q := 2) rfl rfl rfl ?_
  refine xx_ishr (q := 3) rfl rfl ?_
  refine xx_iconst (q := 4) rfl rfl (by decide) ?_
  refine xx_iand (q := 5) rfl rfl ?_
  refine xx_iconst (q := 6) rfl rfl (by decide) ?_
  refine xx_icmp_ne (q := 13) (q2 := 9) rfl rfl rfl (fun h6 => ?_) (fun h6 => ?_)
  · refine xx_iconst (q := 14) rfl rfl (by decide) ?_
    exact xx_iret rfl (Or.inl rfl) ⟨congrArg (fun z => some (Sum.inl z)) (by grind [bi]), rfl⟩
  · refine xx_iconst (q := 10) rfl rfl (by decide) ?_
    refine xx_goto (q := 14) rfl rfl ?_
    exact xx_iret rfl (Or.inr rfl) ⟨congrArg (fun z => some (Sum.inl z)) (by grind [bi]), rfl⟩
set_option maxHeartbeats 1000000 in
theorem c_hasAll {n c : Nat} {R : Nat → Nat → Option Nat} {D K : KK} (hR : RF R) (hc : isC c) (hK : CK c K D) (hI : KI K) (s : Int) : XC 1 34 [.inr (some (c + 13)), .inl s] (xS n, R, D) (some (.inl (bi (0 < s ∧ xshr s (K 13 0) = 0)))) (xS n, R, D) := by
  refine XC_of (Nat.le_of_ble_eq_true rfl) (Nat.le_of_ble_eq_true rfl) (loc := [_, _]) rfl ?_
  refine xx_iload_n (q := 1) rfl rfl rfl ?_
  refine xx_if_le (q := 17) (q2 := 4) rfl rfl rfl (fun h1 => ?_) (fun h1 => ?_)
  · refine xx_iconst (q := 18) rfl rfl (by decide) ?_
    exact xx_iret rfl (Or.inl rfl) ⟨congrArg (fun z => some (Sum.inl z)) (by grind [bi]), rfl⟩
  · refine xx_iload_n (q := 5) rfl rfl rfl ?_
    refine xx_aload_n (q := 6) rfl rfl rfl ?_
    refine xx_gez (v := K 13 0) (q := 9) rfl rfl rfl (xSc_13 hc) (Nat.le_of_ble_eq_true rfl) rfl (hK 13 0 (Nat.le_of_ble_eq_true rfl)) ?_
    have hb1 : 0 ≤ K 13 0 ∧ K 13 0 ≤ 6 := by have h := ki_B hI; exact h
    refine xx_ishr (q := 10) rfl rfl ?_
    refine xx_if_ne (q := 17) (q2 := 13) rfl rfl rfl (fun h10 => ?_) (fun h10 => ?_)
    · refine xx_iconst (q := 18) rfl rfl (by decide) ?_
      exact xx_iret rfl (Or.inl rfl) ⟨congrArg (fun z => some (Sum.inl z)) (by grind [bi]), rfl⟩
    · refine xx_iconst (q := 14) rfl rfl (by decide) ?_
      refine xx_goto (q := 18) rfl rfl ?_
      exact xx_iret rfl (Or.inr rfl) ⟨congrArg (fun z => some (Sum.inl z)) (by grind [bi]), rfl⟩
def pofL (K : KK) (s : Int) : Nat → Int → Int
  | 0, _ => -1
  | k + 1, b => if inS s b then K 14 b.toNat else pofL K s k (b + 1)
def pofF (K : KK) (s : Int) : Int := pofL K s (K 13 0).toNat 0
theorem pofL_b {K : KK} (h : KI K) (s : Int) : ∀ (k : Nat) (b : Int), -1 ≤ pofL K s k b ∧ pofL K s k b ≤ 9
  | 0, _ => ⟨by show (-1 : Int) ≤ -1; omega, by show (-1 : Int) ≤ 9; omega⟩
  | k + 1, b => by
    have := ki_14 h b.toNat
    unfold pofL
    split
    · omega
    · exact pofL_b h s k (b + 1)
def togL (K : KK) (s pool : Int) : Nat → Int → Bool
  | 0, _ => ! decide (pool = -1)
  | k + 1, b => if inS s b ∧ ¬ K 14 b.toNat = pool then false else togL K s pool k (b + 1)
def togB (K : KK) (s : Int) : Bool := togL K s (pofF K s) (K 13 0).toNat 0
def brdL (K : KK) (s : Int) : Nat → Int → Int → Int
  | 0, _, m => m
  | k + 1, b, m => brdL K s k (b + 1) (if inS s b then mxF m (K 16 b.toNat) else m)
def brdF (K : KK) (s : Int) : Int := brdL K s (K 13 0).toNat 0 0
set_option maxHeartbeats 1000000 in
theorem c_pof_L {n c : Nat} {R : Nat → Nat → Option Nat} {D K : KK} (hR : RF R) (hc : isC c) (hK : CK c K D) (hI : KI K) (s : Int) : ∀ (k : Nat) (b : Int), 0 ≤ b → b + k = K 13 0 → XX (XC 1) 37 (fun r2 m2 => r2 = some (.inl (pofL K s k b)) ∧ m2 = (xS n, R, D)) 2 [some (.inr (some (c + 13))), some (.inl s), some (.inl b)] [] (xS n, R, D) := by
  intro k
  induction k using Nat.strongRecOn with
  | ind k ih =>
  intro b h1 hk
  have hbB := ki_B hI
  refine xx_iload_n (q := 3) rfl rfl rfl ?_
  refine xx_aload_n (q := 4) rfl rfl rfl ?_
  refine xx_gez (v := K 13 0) (q := 7) rfl rfl rfl (xSc_13 hc) (Nat.le_of_ble_eq_true rfl) rfl (hK 13 0 (Nat.le_of_ble_eq_true rfl)) ?_
  have hb1 : 0 ≤ K 13 0 ∧ K 13 0 ≤ 6 := by have h := ki_B hI; exact h
  refine xx_icmp_ge (q := 31) (q2 := 10) rfl rfl rfl (fun h7 => ?_) (fun h7 => ?_)
  · refine xx_iconst (q := 32) rfl rfl (by decide) ?_
    obtain rfl : k = 0 := by omega
    exact xx_iret rfl trivial ⟨rfl, rfl⟩
  · obtain ⟨k, rfl⟩ : ∃ k2, k = k2 + 1 := ⟨k - 1, by omega⟩
    refine xx_iload_n (q := 11) rfl rfl rfl ?_
    refine xx_iload_n (q := 12) rfl rfl rfl ?_
    refine xx_callS (q := 15) (As := [_, _]) (rest := []) rfl rfl rfl (Or.inl rfl) rfl rfl (Nat.le_of_ble_eq_true rfl) (XCm (c_isIn s b) rfl) rfl ?_
    refine xx_ifb_eq (q := 25) (q2 := 18) rfl rfl rfl (fun h15 => ?_) (fun h15 => ?_)
    · refine xx_incz (q := 28) (loc2 := [_, _, _]) rfl rfl rfl (by omega) (by omega) rfl rfl ?_
      refine xx_goto (q := 2) rfl rfl ?_
      rw [show pofL K s (k + 1) b = pofL K s k (b + 1) from if_neg h15]
      exact ih k (by omega) _ (by omega) (by omega)
    · refine xx_aload_n (q := 19) rfl rfl rfl ?_
      refine xx_getR (q := 22) rfl rfl rfl (xSc_13 hc) (Nat.le_of_ble_eq_true rfl) rfl (rc_where hR hc) ?_
      refine xx_iload_n (q := 23) rfl rfl rfl ?_
      refine xx_iaz (v := K 14 (b).toNat) (q := 24) rfl rfl (xSc_14 hc) (by omega) (by omega) (ck_w hK (by omega) (by omega)) ?_
      have hb2 : 0 ≤ K 14 (b).toNat ∧ K 14 (b).toNat ≤ 9 := by have h := ki_14 hI (b).toNat; exact h
      exact xx_iret rfl trivial ⟨congrArg (fun z => some (Sum.inl z)) (if_pos h15).symm, rfl⟩
set_option maxHeartbeats 1000000 in
theorem c_poolOfFirst {n c : Nat} {R : Nat → Nat → Option Nat} {D K : KK} (hR : RF R) (hc : isC c) (hK : CK c K D) (hI : KI K) (s : Int) : XC 2 37 [.inr (some (c + 13)), .inl s] (xS n, R, D) (some (.inl (pofF K s))) (xS n, R, D) := by
  have hbB := ki_B hI
  refine XC_of (Nat.le_of_ble_eq_true rfl) (Nat.le_of_ble_eq_true rfl) (loc := [_, _, _]) rfl ?_
  refine xx_iconst (q := 1) rfl rfl (by decide) ?_
  refine xx_istore_n (q := 2) (loc2 := [_, _, _]) rfl rfl (Nat.le_of_ble_eq_true rfl) rfl ?_
  exact c_pof_L hR hc hK hI s (K 13 0).toNat 0 (by omega) (by omega)
set_option maxHeartbeats 1000000 in
theorem c_tog_L {n c : Nat} {R : Nat → Nat → Option Nat} {D K : KK} (hR : RF R) (hc : isC c) (hK : CK c K D) (hI : KI K) (s p : Int) : ∀ (k : Nat) (b : Int), 0 ≤ b → b + k = K 13 0 → XX (XC 2) 38 (fun r2 m2 => r2 = some (.inl (bi (togL K s p k b = true))) ∧ m2 = (xS n, R, D)) 8 [some (.inr (some (c + 13))), some (.inl s), some (.inl p), some (.inl b)] [] (xS n, R, D) := by
  intro k
  induction k using Nat.strongRecOn with
  | ind k ih =>
  intro b h1 hk
  have hbB := ki_B hI
  refine xx_iload_n (q := 9) rfl rfl rfl ?_
  refine xx_aload_n (q := 10) rfl rfl rfl ?_
  refine xx_gez (v := K 13 0) (q := 13) rfl rfl rfl (xSc_13 hc) (Nat.le_of_ble_eq_true rfl) rfl (hK 13 0 (Nat.le_of_ble_eq_true rfl)) ?_
  have hb1 : 0 ≤ K 13 0 ∧ K 13 0 ≤ 6 := by have h := ki_B hI; exact h
  refine xx_icmp_ge (q := 42) (q2 := 16) rfl rfl rfl (fun h13 => ?_) (fun h13 => ?_)
  · refine xx_iload_n (q := 43) rfl rfl rfl ?_
    refine xx_iconst (q := 44) rfl rfl (by decide) ?_
    refine xx_icmp_eq (q := 51) (q2 := 47) rfl rfl rfl (fun h44 => ?_) (fun h44 => ?_)
    · refine xx_iconst (q := 52) rfl rfl (by decide) ?_
      obtain rfl : k = 0 := by omega
      exact xx_iret rfl (Or.inl rfl) ⟨congrArg (fun z => some (Sum.inl z)) (bi_f (by show ¬ (! decide (p = -1)) = true; simp [h44])).symm, rfl⟩
    · refine xx_iconst (q := 48) rfl rfl (by decide) ?_
      refine xx_goto (q := 52) rfl rfl ?_
      obtain rfl : k = 0 := by omega
      exact xx_iret rfl (Or.inr rfl) ⟨congrArg (fun z => some (Sum.inl z)) (bi_t (by show (! decide (p = -1)) = true; simp [h44])).symm, rfl⟩
  · obtain ⟨k, rfl⟩ : ∃ k2, k = k2 + 1 := ⟨k - 1, by omega⟩
    refine xx_iload_n (q := 17) rfl rfl rfl ?_
    refine xx_iload_n (q := 18) rfl rfl rfl ?_
    refine xx_callS (q := 21) (As := [_, _]) (rest := []) rfl rfl rfl (Or.inl rfl) rfl rfl (Nat.le_of_ble_eq_true rfl) (XCm (c_isIn s b) rfl) rfl ?_
    refine xx_ifb_eq (q := 36) (q2 := 24) rfl rfl rfl (fun h21 => ?_) (fun h21 => ?_)
    · refine xx_incz (q := 39) (loc2 := [_, _, _, _]) rfl rfl rfl (by omega) (by omega) rfl rfl ?_
      refine xx_goto (q := 8) rfl rfl ?_
      rw [show togL K s p (k + 1) b = togL K s p k (b + 1) from if_neg (fun q => h21 q.1)]
      exact ih k (by omega) _ (by omega) (by omega)
    · refine xx_aload_n (q := 25) rfl rfl rfl ?_
      refine xx_getR (q := 28) rfl rfl rfl (xSc_13 hc) (Nat.le_of_ble_eq_true rfl) rfl (rc_where hR hc) ?_
      refine xx_iload_n (q := 29) rfl rfl rfl ?_
      refine xx_iaz (v := K 14 (b).toNat) (q := 30) rfl rfl (xSc_14 hc) (by omega) (by omega) (ck_w hK (by omega) (by omega)) ?_
      have hb2 : 0 ≤ K 14 (b).toNat ∧ K 14 (b).toNat ≤ 9 := by have h := ki_14 hI (b).toNat; exact h
      refine xx_iload_n (q := 31) rfl rfl rfl ?_
      refine xx_icmp_eq (q := 36) (q2 := 34) rfl rfl rfl (fun h31 => ?_) (fun h31 => ?_)
      · refine xx_incz (q := 39) (loc2 := [_, _, _, _]) rfl rfl rfl (by omega) (by omega) rfl rfl ?_
        refine xx_goto (q := 8) rfl rfl ?_
        rw [show togL K s p (k + 1) b = togL K s p k (b + 1) from if_neg (fun q => q.2 h31)]
        exact ih k (by omega) _ (by omega) (by omega)
      · refine xx_iconst (q := 35) rfl rfl (by decide) ?_
        rw [show togL K s p (k + 1) b = false from if_pos ⟨h21, h31⟩]
        exact xx_iret rfl (Or.inl rfl) ⟨congrArg (fun z => some (Sum.inl z)) (bi_f (by intro q; cases q)).symm, rfl⟩
set_option maxHeartbeats 1000000 in
theorem c_areTogether {n c : Nat} {R : Nat → Nat → Option Nat} {D K : KK} (hR : RF R) (hc : isC c) (hK : CK c K D) (hI : KI K) (s : Int) : XC 3 38 [.inr (some (c + 13)), .inl s] (xS n, R, D) (some (.inl (bi (togB K s = true)))) (xS n, R, D) := by
  have hbB := ki_B hI
  refine XC_of (Nat.le_of_ble_eq_true rfl) (Nat.le_of_ble_eq_true rfl) (loc := [_, _, _, _]) rfl ?_
  refine xx_aload_n (q := 1) rfl rfl rfl ?_
  refine xx_iload_n (q := 2) rfl rfl rfl ?_
  refine xx_callV (q := 5) (As := [_]) (rest := []) rfl rfl rfl (Or.inl rfl) rfl rfl (Nat.le_of_ble_eq_true rfl) (xSc_13 hc) (XCm (c_poolOfFirst hR hc hK hI s) rfl) rfl ?_
  have hb1 := pofL_b hI s (K 13 0).toNat 0
  refine xx_istore_n (q := 6) (loc2 := [_, _, _, _]) rfl rfl (Nat.le_of_ble_eq_true rfl) rfl ?_
  refine xx_iconst (q := 7) rfl rfl (by decide) ?_
  refine xx_istore_n (q := 8) (loc2 := [_, _, _, _]) rfl rfl (Nat.le_of_ble_eq_true rfl) rfl ?_
  exact c_tog_L hR hc hK hI s _ (K 13 0).toNat 0 (by omega) (by omega)
set_option maxHeartbeats 1000000 in
theorem c_brd_L {n c : Nat} {R : Nat → Nat → Option Nat} {D K : KK} (hR : RF R) (hc : isC c) (hK : CK c K D) (hI : KI K) (s : Int) : ∀ (k : Nat) (m b : Int), 0 ≤ b → b + k = K 13 0 → XX (XC 1) 39 (fun r2 m2 => r2 = some (.inl (brdL K s k b m)) ∧ m2 = (xS n, R, D)) 4 [some (.inr (some (c + 13))), some (.inl s), some (.inl m), some (.inl b)] [] (xS n, R, D) := by
  intro k
  induction k using Nat.strongRecOn with
  | ind k ih =>
  intro m b h1 hk
  have hbB := ki_B hI
  refine xx_iload_n (q := 5) rfl rfl rfl ?_
  refine xx_aload_n (q := 6) rfl rfl rfl ?_
  refine xx_gez (v := K 13 0) (q := 9) rfl rfl rfl (xSc_13 hc) (Nat.le_of_ble_eq_true rfl) rfl (hK 13 0 (Nat.le_of_ble_eq_true rfl)) ?_
  have hb1 : 0 ≤ K 13 0 ∧ K 13 0 ≤ 6 := by have h := ki_B hI; exact h
  refine xx_icmp_ge (q := 37) (q2 := 12) rfl rfl rfl (fun h9 => ?_) (fun h9 => ?_)
  · refine xx_iload_n (q := 38) rfl rfl rfl ?_
    obtain rfl : k = 0 := by omega
    exact xx_iret rfl trivial ⟨rfl, rfl⟩
  · obtain ⟨k, rfl⟩ : ∃ k2, k = k2 + 1 := ⟨k - 1, by omega⟩
    refine xx_iload_n (q := 13) rfl rfl rfl ?_
    refine xx_iload_n (q := 14) rfl rfl rfl ?_
    refine xx_callS (q := 17) (As := [_, _]) (rest := []) rfl rfl rfl (Or.inl rfl) rfl rfl (Nat.le_of_ble_eq_true rfl) (XCm (c_isIn s b) rfl) rfl ?_
    refine xx_ifb_eq (q := 31) (q2 := 20) rfl rfl rfl (fun h17 => ?_) (fun h17 => ?_)
    · refine xx_incz (q := 34) (loc2 := [_, _, _, _]) rfl rfl rfl (by omega) (by omega) rfl rfl ?_
      refine xx_goto (q := 4) rfl rfl ?_
      rw [show brdL K s (k + 1) b m = brdL K s k (b + 1) m from congrArg (brdL K s k (b + 1)) (if_neg h17)]
      exact ih k (by omega) _ _ (by omega) (by omega)
    · refine xx_iload_n (q := 21) rfl rfl rfl ?_
      refine xx_aload_n (q := 22) rfl rfl rfl ?_
      refine xx_getR (q := 25) rfl rfl rfl (xSc_13 hc) (Nat.le_of_ble_eq_true rfl) rfl (rc_broad hR hc) ?_
      refine xx_iload_n (q := 26) rfl rfl rfl ?_
      refine xx_iaz (v := K 16 (b).toNat) (q := 27) rfl rfl (xSc_16 hc) (by omega) (by omega) (ck_a hK (o := 16) (N := 6) rfl (by omega) (by omega)) ?_
      have hb2 : 0 ≤ K 16 (b).toNat ∧ K 16 (b).toNat ≤ 9 := by have h := ki_16 hI (b).toNat; exact h
      refine xx_maxF (q := 30) rfl rfl rfl (Nat.le_of_ble_eq_true rfl) ?_
      have hb3 := mxF_sp m (K 16 (b).toNat)
      refine xx_istore_n (q := 31) (loc2 := [_, _, _, _]) rfl rfl (Nat.le_of_ble_eq_true rfl) rfl ?_
      refine xx_incz (q := 34) (loc2 := [_, _, _, _]) rfl rfl rfl (by omega) (by omega) rfl rfl ?_
      refine xx_goto (q := 4) rfl rfl ?_
      rw [show brdL K s (k + 1) b m = brdL K s k (b + 1) (mxF m (K 16 (b).toNat)) from congrArg (brdL K s k (b + 1)) (if_pos h17)]
      exact ih k (by omega) _ _ (by omega) (by omega)
set_option maxHeartbeats 1000000 in
theorem c_broadest {n c : Nat} {R : Nat → Nat → Option Nat} {D K : KK} (hR : RF R) (hc : isC c) (hK : CK c K D) (hI : KI K) (s : Int) : XC 2 39 [.inr (some (c + 13)), .inl s] (xS n, R, D) (some (.inl (brdF K s))) (xS n, R, D) := by
  have hbB := ki_B hI
  refine XC_of (Nat.le_of_ble_eq_true rfl) (Nat.le_of_ble_eq_true rfl) (loc := [_, _, _, _]) rfl ?_
  refine xx_iconst (q := 1) rfl rfl (by decide) ?_
  refine xx_istore_n (q := 2) (loc2 := [_, _, _, _]) rfl rfl (Nat.le_of_ble_eq_true rfl) rfl ?_
  refine xx_iconst (q := 3) rfl rfl (by decide) ?_
  refine xx_istore_n (q := 4) (loc2 := [_, _, _, _]) rfl rfl (Nat.le_of_ble_eq_true rfl) rfl ?_
  exact c_brd_L hR hc hK hI s (K 13 0).toNat 0 0 (by omega) (by omega)
def fpsM (K : KK) (wide : Int) (rec : Int → Int) (s f : Int) : Nat → Int → Int → Int
  | 0, _, w => w
  | k + 1, m, w => fpsM K wide rec s f k (m + 1) (if inS s m ∧ K 16 f.toNat + K 16 m.toNat ≤ wide then mnF w (rec (rmS s m)) else w)
def fpsF (K : KK) (wide : Int) : Nat → Int → Int → Int
  | 0, _, _ => 0
  | k + 1, s, f => if inS s f then fpsM K wide (fun s2 => fpsF K wide k s2 (f + 1)) s f k (f + 1) (fpsF K wide k s (f + 1)) + 1 else fpsF K wide k s (f + 1)
theorem fpsM_b {K : KK} {wide : Int} {rec : Int → Int} {N : Int} (hr : ∀ s, 0 ≤ rec s) (s f : Int) : ∀ (k : Nat) (m w : Int), 0 ≤ w → w ≤ N → 0 ≤ fpsM K wide rec s f k m w ∧ fpsM K wide rec s f k m w ≤ N
  | 0, _, _, h1, h2 => ⟨h1, h2⟩
  | k + 1, m, w, h1, h2 => by
    have h3 := mnF_sp w (rec (rmS s m))
    have h4 := hr (rmS s m)
    unfold fpsM
    split
    · exact fpsM_b hr s f k _ _ (by omega) (by omega)
    · exact fpsM_b hr s f k _ _ h1 h2
theorem fpsF_b {K : KK} {wide : Int} : ∀ (k : Nat) (s f : Int), 0 ≤ fpsF K wide k s f ∧ fpsF K wide k s f ≤ k
  | 0, _, _ => ⟨Int.le_refl _, Int.le_refl _⟩
  | k + 1, s, f => by
    have h1 := fpsF_b (K := K) (wide := wide) k s (f + 1)
    unfold fpsF
    split
    · have h2 := fpsM_b (K := K) (wide := wide) (rec := fun s2 => fpsF K wide k s2 (f + 1)) (N := k) (fun s2 => (fpsF_b k s2 (f + 1)).1) s f k (f + 1) _ h1.1 h1.2
      omega
    · omega
set_option maxHeartbeats 1000000 in
theorem c_fps_M {n c L kk : Nat} {R : Nat → Nat → Option Nat} {D K : KK} (hR : RF R) (hc : isC c) (hK : CK c K D) (hI : KI K) (s f wide : Int) (hL : 1 ≤ L) (hf0 : 0 ≤ f) (hf1 : f + 1 ≤ 6) (hkk : kk ≤ 6) (hrec : ∀ s2 : Int, XC L 40 [.inr (some (c + 13)), .inl s2, .inl (f + 1), .inl wide] (xS n, R, D) (some (.inl (fpsF K wide kk s2 (f + 1)))) (xS n, R, D)) : ∀ (k : Nat) (m w : Int), 0 ≤ m → m + k = K 13 0 → 0 ≤ w → w ≤ 6 → XX (XC L) 40 (fun r2 m2 => r2 = some (.inl (fpsM K wide (fun s2 => fpsF K wide kk s2 (f + 1)) s f k m w + 1)) ∧ m2 = (xS n, R, D)) 44 [some (.inr (some (c + 13))), some (.inl s), some (.inl f), some (.inl wide), some (.inl w), some (.inl m)] [] (xS n, R, D) := by
  intro k
  induction k using Nat.strongRecOn with
  | ind k ih =>
  intro m w h1 hk hw0 hw1
  have hbB := ki_B hI
  refine xx_iload (q := 46) rfl rfl rfl ?_
  refine xx_aload_n (q := 47) rfl rfl rfl ?_
  refine xx_gez (v := K 13 0) (q := 50) rfl rfl rfl (xSc_13 hc) (Nat.le_of_ble_eq_true rfl) rfl (hK 13 0 (Nat.le_of_ble_eq_true rfl)) ?_
  have hb1 : 0 ≤ K 13 0 ∧ K 13 0 ≤ 6 := by have h := ki_B hI; exact h
  refine xx_icmp_ge (q := 109) (q2 := 53) rfl rfl rfl (fun h50 => ?_) (fun h50 => ?_)
  · refine xx_iload (q := 111) rfl rfl rfl ?_
    refine xx_iconst (q := 112) rfl rfl (by decide) ?_
    refine xx_iaddR (q := 113) rfl rfl (by omega) (by omega) ?_
    obtain rfl : k = 0 := by omega
    exact xx_iret rfl trivial ⟨rfl, rfl⟩
  · obtain ⟨k, rfl⟩ : ∃ k2, k = k2 + 1 := ⟨k - 1, by omega⟩
    refine xx_iload_n (q := 54) rfl rfl rfl ?_
    refine xx_iload (q := 56) rfl rfl rfl ?_
    refine xx_callS (q := 59) (As := [_, _]) (rest := []) rfl rfl rfl (Or.inl rfl) rfl rfl (Nat.le_of_ble_eq_true rfl) (XC_le (by omega) (c_isIn s m)) rfl ?_
    refine xx_ifb_eq (q := 103) (q2 := 62) rfl rfl rfl (fun h59 => ?_) (fun h59 => ?_)
    · refine xx_incz (q := 106) (loc2 := [_, _, _, _, _, _]) rfl rfl rfl (by omega) (by omega) rfl rfl ?_
      refine xx_goto (q := 44) rfl rfl ?_
      rw [show fpsM K wide (fun s2 => fpsF K wide kk s2 (f + 1)) s f (k + 1) m w = fpsM K wide (fun s2 => fpsF K wide kk s2 (f + 1)) s f k (m + 1) w from congrArg (fpsM K wide (fun s2 => fpsF K wide kk s2 (f + 1)) s f k (m + 1)) (if_neg (fun q => h59 q.1))]
      exact ih k (by omega) _ _ (by omega) (by omega) (by omega) (by omega)
    · refine xx_aload_n (q := 63) rfl rfl rfl ?_
      refine xx_getR (q := 66) rfl rfl rfl (xSc_13 hc) (Nat.le_of_ble_eq_true rfl) rfl (rc_broad hR hc) ?_
      refine xx_iload_n (q := 67) rfl rfl rfl ?_
      refine xx_iaz (v := K 16 (f).toNat) (q := 68) rfl rfl (xSc_16 hc) (by omega) (by omega) (ck_a hK (o := 16) (N := 6) rfl (by omega) (by omega)) ?_
      have hb2 : 0 ≤ K 16 (f).toNat ∧ K 16 (f).toNat ≤ 9 := by have h := ki_16 hI (f).toNat; exact h
      refine xx_aload_n (q := 69) rfl rfl rfl ?_
      refine xx_getR (q := 72) rfl rfl rfl (xSc_13 hc) (Nat.le_of_ble_eq_true rfl) rfl (rc_broad hR hc) ?_
      refine xx_iload (q := 74) rfl rfl rfl ?_
      refine xx_iaz (v := K 16 (m).toNat) (q := 75) rfl rfl (xSc_16 hc) (by omega) (by omega) (ck_a hK (o := 16) (N := 6) rfl (by omega) (by omega)) ?_
      have hb3 : 0 ≤ K 16 (m).toNat ∧ K 16 (m).toNat ≤ 9 := by have h := ki_16 hI (m).toNat; exact h
      refine xx_iaddR (q := 76) rfl rfl (by omega) (by omega) ?_
      refine xx_iload_n (q := 77) rfl rfl rfl ?_
      refine xx_icmp_gt (q := 103) (q2 := 80) rfl rfl rfl (fun h77 => ?_) (fun h77 => ?_)
      · refine xx_incz (q := 106) (loc2 := [_, _, _, _, _, _]) rfl rfl rfl (by omega) (by omega) rfl rfl ?_
        refine xx_goto (q := 44) rfl rfl ?_
        rw [show fpsM K wide (fun s2 => fpsF K wide kk s2 (f + 1)) s f (k + 1) m w = fpsM K wide (fun s2 => fpsF K wide kk s2 (f + 1)) s f k (m + 1) w from congrArg (fpsM K wide (fun s2 => fpsF K wide kk s2 (f + 1)) s f k (m + 1)) (if_neg (fun q => by omega))]
        exact ih k (by omega) _ _ (by omega) (by omega) (by omega) (by omega)
      · refine xx_iload (q := 82) rfl rfl rfl ?_
        refine xx_aload_n (q := 83) rfl rfl rfl ?_
        refine xx_iload_n (q := 84) rfl rfl rfl ?_
        refine xx_iconst (q := 85) rfl rfl (by decide) ?_
        refine xx_iload (q := 87) rfl rfl rfl ?_
        refine xx_ishl (q := 88) rfl rfl ?_
        refine xx_iconst (q := 89) rfl rfl (by decide) ?_
        refine xx_ixor (q := 90) rfl rfl ?_
        refine xx_iand (q := 91) rfl rfl ?_
        refine xx_iload_n (q := 92) rfl rfl rfl ?_
        refine xx_iconst (q := 93) rfl rfl (by decide) ?_
        refine xx_iaddR (q := 94) rfl rfl (by omega) (by omega) ?_
        refine xx_iload_n (q := 95) rfl rfl rfl ?_
        refine xx_callV (q := 98) (As := [_, _, _]) (rest := [_]) rfl rfl rfl (Or.inl rfl) rfl rfl (Nat.le_of_ble_eq_true rfl) (xSc_13 hc) (XC_le (by omega) (hrec (xand s (xxor (xshl 1 m) (-1))))) rfl ?_
        have hb5 := fpsF_b (K := K) (wide := wide) kk (xand s (xxor (xshl 1 m) (-1))) (f + 1)
        refine xx_minF (q := 101) rfl rfl rfl (Nat.le_of_ble_eq_true rfl) ?_
        have hb6 := mnF_sp w (fpsF K wide kk (xand s (xxor (xshl 1 m) (-1))) (f + 1))
        refine xx_istore (q := 103) (loc2 := [_, _, _, _, _, _]) rfl rfl (Nat.le_of_ble_eq_true rfl) rfl ?_
        refine xx_incz (q := 106) (loc2 := [_, _, _, _, _, _]) rfl rfl rfl (by omega) (by omega) rfl rfl ?_
        refine xx_goto (q := 44) rfl rfl ?_
        rw [show fpsM K wide (fun s2 => fpsF K wide kk s2 (f + 1)) s f (k + 1) m w = fpsM K wide (fun s2 => fpsF K wide kk s2 (f + 1)) s f k (m + 1) (mnF w (fpsF K wide kk (xand s (xxor (xshl 1 m) (-1))) (f + 1))) from congrArg (fpsM K wide (fun s2 => fpsF K wide kk s2 (f + 1)) s f k (m + 1)) (if_pos ⟨h59, by omega⟩)]
        exact ih k (by omega) _ _ (by omega) (by omega) (by omega) (by omega)
set_option maxHeartbeats 1000000 in
theorem c_fps_W {n c L kk : Nat} {R : Nat → Nat → Option Nat} {D K : KK} (hR : RF R) (hc : isC c) (hK : CK c K D) (hI : KI K) (s f wide : Int) (hL : 1 ≤ L) (hf0 : 0 ≤ f) (hk : f + (kk + 1) = K 13 0) (hrec : ∀ s2 : Int, XC L 40 [.inr (some (c + 13)), .inl s2, .inl (f + 1), .inl wide] (xS n, R, D) (some (.inl (fpsF K wide kk s2 (f + 1)))) (xS n, R, D)) : XC (L + 1) 40 [.inr (some (c + 13)), .inl s, .inl f, .inl wide] (xS n, R, D) (some (.inl (fpsF K wide (kk + 1) s f))) (xS n, R, D) := by
  have hbB := ki_B hI
  refine XC_of (Nat.le_of_ble_eq_true rfl) (Nat.le_of_ble_eq_true rfl) (loc := [_, _, _, _, _, _]) rfl ?_
  refine xx_iload_n (q := 1) rfl rfl rfl ?_
  refine xx_aload_n (q := 2) rfl rfl rfl ?_
  refine xx_gez (v := K 13 0) (q := 5) rfl rfl rfl (xSc_13 hc) (Nat.le_of_ble_eq_true rfl) rfl (hK 13 0 (Nat.le_of_ble_eq_true rfl)) ?_
  have hb1 : 0 ≤ K 13 0 ∧ K 13 0 ≤ 6 := by have h := ki_B hI; exact h
  refine xx_icmp_lt (q := 10) (q2 := 8) rfl rfl rfl (fun _ => ?_) (fun h5 => (by exfalso; omega))
  refine xx_iload_n (q := 11) rfl rfl rfl ?_
  refine xx_iload_n (q := 12) rfl rfl rfl ?_
  refine xx_callS (q := 15) (As := [_, _]) (rest := []) rfl rfl rfl (Or.inl rfl) rfl rfl (Nat.le_of_ble_eq_true rfl) (XC_le (by omega) (c_isIn s f)) rfl ?_
  refine xx_ifb_ne (q := 28) (q2 := 18) rfl rfl rfl (fun h15 => ?_) (fun h15 => ?_)
  · refine xx_aload_n (q := 29) rfl rfl rfl ?_
    refine xx_iload_n (q := 30) rfl rfl rfl ?_
    refine xx_iload_n (q := 31) rfl rfl rfl ?_
    refine xx_iconst (q := 32) rfl rfl (by decide) ?_
    refine xx_iaddR (q := 33) rfl rfl (by omega) (by omega) ?_
    refine xx_iload_n (q := 34) rfl rfl rfl ?_
    refine xx_callV (q := 37) (As := [_, _, _]) (rest := []) rfl rfl rfl (Or.inl rfl) rfl rfl (Nat.le_of_ble_eq_true rfl) (xSc_13 hc) (XC_le (by omega) (hrec s)) rfl ?_
    have hb3 := fpsF_b (K := K) (wide := wide) kk s (f + 1)
    refine xx_istore (q := 39) (loc2 := [_, _, _, _, _, _]) rfl rfl (Nat.le_of_ble_eq_true rfl) rfl ?_
    refine xx_iload_n (q := 40) rfl rfl rfl ?_
    refine xx_iconst (q := 41) rfl rfl (by decide) ?_
    refine xx_iaddR (q := 42) rfl rfl (by omega) (by omega) ?_
    refine xx_istore (q := 44) (loc2 := [_, _, _, _, _, _]) rfl rfl (Nat.le_of_ble_eq_true rfl) rfl ?_
    rw [show fpsF K wide (kk + 1) s f = fpsM K wide (fun s2 => fpsF K wide kk s2 (f + 1)) s f kk (f + 1) (fpsF K wide kk s (f + 1)) + 1 from if_pos h15]
    exact c_fps_M hR hc hK hI s f wide hL hf0 (by omega) (by omega) hrec kk _ _ (by omega) (by omega) (by omega) (by omega)
  · refine xx_aload_n (q := 19) rfl rfl rfl ?_
    refine xx_iload_n (q := 20) rfl rfl rfl ?_
    refine xx_iload_n (q := 21) rfl rfl rfl ?_
    refine xx_iconst (q := 22) rfl rfl (by decide) ?_
    refine xx_iaddR (q := 23) rfl rfl (by omega) (by omega) ?_
    refine xx_iload_n (q := 24) rfl rfl rfl ?_
    refine xx_callV (q := 27) (As := [_, _, _]) (rest := []) rfl rfl rfl (Or.inl rfl) rfl rfl (Nat.le_of_ble_eq_true rfl) (xSc_13 hc) (XC_le (by omega) (hrec s)) rfl ?_
    have hb5 := fpsF_b (K := K) (wide := wide) kk s (f + 1)
    exact xx_iret rfl trivial ⟨congrArg (fun z => some (Sum.inl z)) (by show _ = (if inS s f then _ else _); rw [if_neg h15]), rfl⟩
set_option maxHeartbeats 1000000 in
theorem c_fps {n c : Nat} {R : Nat → Nat → Option Nat} {D K : KK} (hR : RF R) (hc : isC c) (hK : CK c K D) (hI : KI K) (wide : Int) : ∀ (k : Nat) (s f : Int), 0 ≤ f → f + k = K 13 0 → XC (k + 2) 40 [.inr (some (c + 13)), .inl s, .inl f, .inl wide] (xS n, R, D) (some (.inl (fpsF K wide k s f))) (xS n, R, D)
  | 0, s, f, h1, h2 => by
    refine XC_of (Nat.le_of_ble_eq_true rfl) (Nat.le_of_ble_eq_true rfl) (loc := [_, _, _, _, _, _]) rfl ?_
    refine xx_iload_n (q := 1) rfl rfl rfl ?_
    refine xx_aload_n (q := 2) rfl rfl rfl ?_
    refine xx_gez (v := K 13 0) (q := 5) rfl rfl rfl (xSc_13 hc) (Nat.le_of_ble_eq_true rfl) rfl (hK 13 0 (Nat.le_of_ble_eq_true rfl)) ?_
    have hb1 : 0 ≤ K 13 0 ∧ K 13 0 ≤ 6 := by have h := ki_B hI; exact h
    refine xx_icmp_lt (q := 10) (q2 := 8) rfl rfl rfl (fun h5 => (by exfalso; omega)) (fun _ => ?_)
    refine xx_iconst (q := 9) rfl rfl (by decide) ?_
    exact xx_iret rfl trivial ⟨rfl, rfl⟩
  | k + 1, s, f, h1, h2 => c_fps_W hR hc hK hI s f wide (by omega) h1 (by omega) (fun s2 => c_fps hR hc hK hI wide k s2 (f + 1) (by omega) (by omega))
