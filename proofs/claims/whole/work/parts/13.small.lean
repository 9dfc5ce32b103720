/-! Small methods of the class. -/
def cmpF (x y : Int) : Int := if x < y then -1 else if x = y then 0 else 1
def hld (v : Int) : Int := if v < -99 then -99 else if 99 < v then 99 else v
theorem cmpF_b (x y : Int) : -1 ≤ cmpF x y ∧ cmpF x y ≤ 1 := by grind [cmpF]
theorem hld_b (v : Int) : -99 ≤ hld v ∧ hld v ≤ 99 := by grind [hld]
def mnF (a b : Int) : Int := if b < a then b else a
def mxF (a b : Int) : Int := if a < b then b else a
theorem mnF_sp (a b : Int) : mnF a b ≤ a ∧ mnF a b ≤ b ∧ (mnF a b = a ∨ mnF a b = b) := by grind [mnF]
theorem mxF_sp (a b : Int) : a ≤ mxF a b ∧ b ≤ mxF a b ∧ (mxF a b = a ∨ mxF a b = b) := by grind [mxF]
section XXm
variable {C : XCal} {i : Nat} {Q : XQ} {pc q : Nat} {loc : XLc}
theorem xx_maxF {idx j pl : Nat} {a b : Int} {rest : List XV} {m : XM} (h : xi i pc = some (.invokestatic idx, 3)) (hq : pc + 3 = q) (hl : xlk (xmo (xow i)) idx = some (9, j, pl)) (hr : rest.length ≤ 8) (k : XX C i Q q loc (.inl (mxF a b) :: rest) m) : XX C i Q pc loc (.inl b :: .inl a :: rest) m := xx_max h hq hl hr k
theorem xx_minF {idx j pl : Nat} {a b : Int} {rest : List XV} {m : XM} (h : xi i pc = some (.invokestatic idx, 3)) (hq : pc + 3 = q) (hl : xlk (xmo (xow i)) idx = some (10, j, pl)) (hr : rest.length ≤ 8) (k : XX C i Q q loc (.inl (mnF a b) :: rest) m) : XX C i Q pc loc (.inl b :: .inl a :: rest) m := xx_min h hq hl hr k
end XXm
def isN (c : Nat) : Prop := c = 27 ∨ isT c
theorem isN_C {c : Nat} (h : isN c) : isC c := h.elim (fun q => q ▸ isC_27) isT_C
theorem isT_N {c : Nat} (h : isT c) : isN c := Or.inr h
theorem isN_27 : isN 27 := Or.inl rfl
theorem isC_gt {c : Nat} (h : isC c) : 26 < c := by have := isC_ge h; omega
theorem rc_gatesN {R : Nat → Nat → Option Nat} {c : Nat} (hR : RF R) (h : isN c) : R c 13 = some 7 := by
  rcases h with rfl | h
  · exact hR.1 27 13 rfl
  · exact rc_gates hR h
theorem rc_heartsN {R : Nat → Nat → Option Nat} {c : Nat} (hR : RF R) (h : isN c) : R c 14 = some 11 := by
  rcases h with rfl | h
  · exact hR.1 27 14 rfl
  · exact rc_hearts hR h
def lckF (K : KK) (pool up : Int) : Int := if up = 0 then (if 0 ≤ pool ∧ pool < K 0 0 then pool else -1) else if 0 ≤ pool - 1 ∧ pool - 1 < K 0 0 then pool - 1 else -1
set_option maxHeartbeats 1000000 in
theorem c_within {m : XM} (v lo hi : Int) : XC 1 157 [.inl v, .inl lo, .inl hi] m (some (.inl (bi (lo ≤ v ∧ v ≤ hi)))) m := by
  refine XC_of (Nat.le_of_ble_eq_true rfl) (Nat.le_of_ble_eq_true rfl) (loc := [_, _, _]) rfl ?_
  refine xx_iload_n (q := 1) rfl rfl rfl ?_
  refine xx_iload_n (q := 2) rfl rfl rfl ?_
  refine xx_icmp_lt (q := 14) (q2 := 5) rfl rfl rfl (fun h2 => ?_) (fun h2 => ?_)
  · refine xx_iconst (q := 15) rfl rfl (by decide) ?_
    exact xx_iret rfl (Or.inl rfl) ⟨congrArg (fun z => some (Sum.inl z)) (by grind [bi]), rfl⟩
  · refine xx_iload_n (q := 6) rfl rfl rfl ?_
    refine xx_iload_n (q := 7) rfl rfl rfl ?_
    refine xx_icmp_gt (q := 14) (q2 := 10) rfl rfl rfl (fun h7 => ?_) (fun h7 => ?_)
    · refine xx_iconst (q := 15) rfl rfl (by decide) ?_
      exact xx_iret rfl (Or.inl rfl) ⟨congrArg (fun z => some (Sum.inl z)) (by grind [bi]), rfl⟩
    · refine xx_iconst (q := 11) rfl rfl (by decide) ?_
      refine xx_goto (q := 15) rfl rfl ?_
      exact xx_iret rfl (Or.inr rfl) ⟨congrArg (fun z => some (Sum.inl z)) (by grind [bi]), rfl⟩
set_option maxHeartbeats 1000000 in
theorem c_held {m : XM} (v : Int) : XC 1 158 [.inl v] m (some (.inl (hld v))) m := by
  refine XC_of (Nat.le_of_ble_eq_true rfl) (Nat.le_of_ble_eq_true rfl) (loc := [_]) rfl ?_
  refine xx_iload_n (q := 1) rfl rfl rfl ?_
  refine xx_bipush (q := 3) rfl rfl (by decide) ?_
  refine xx_icmp_le (q := 9) (q2 := 6) rfl rfl rfl (fun h3 => ?_) (fun h3 => ?_)
  · refine xx_iload_n (q := 10) rfl rfl rfl ?_
    refine xx_bipush (q := 12) rfl rfl (by decide) ?_
    refine xx_icmp_ge (q := 20) (q2 := 15) rfl rfl rfl (fun h12 => ?_) (fun h12 => ?_)
    · refine xx_iload_n (q := 21) rfl rfl rfl ?_
      exact xx_iret rfl trivial ⟨congrArg (fun z => some (Sum.inl z)) (by grind [hld]), rfl⟩
    · refine xx_bipush (q := 17) rfl rfl (by decide) ?_
      refine xx_goto (q := 21) rfl rfl ?_
      exact xx_iret rfl trivial ⟨congrArg (fun z => some (Sum.inl z)) (by grind [hld]), rfl⟩
  · refine xx_bipush (q := 8) rfl rfl (by decide) ?_
    exact xx_iret rfl trivial ⟨congrArg (fun z => some (Sum.inl z)) (by grind [hld]), rfl⟩
set_option maxHeartbeats 1000000 in
theorem c_compare {m : XM} (x y : Int) : XC 1 301 [.inl x, .inl y] m (some (.inl (cmpF x y))) m := by
  refine XC_of (Nat.le_of_ble_eq_true rfl) (Nat.le_of_ble_eq_true rfl) (loc := [_, _]) rfl ?_
  refine xx_iload_n (q := 1) rfl rfl rfl ?_
  refine xx_iload_n (q := 2) rfl rfl rfl ?_
  refine xx_icmp_ge (q := 9) (q2 := 5) rfl rfl rfl (fun h2 => ?_) (fun h2 => ?_)
  · refine xx_iload_n (q := 10) rfl rfl rfl ?_
    refine xx_iload_n (q := 11) rfl rfl rfl ?_
    refine xx_icmp_ne (q := 18) (q2 := 14) rfl rfl rfl (fun h11 => ?_) (fun h11 => ?_)
    · refine xx_iconst (q := 19) rfl rfl (by decide) ?_
      exact xx_iret rfl trivial ⟨congrArg (fun z => some (Sum.inl z)) (by grind [cmpF]), rfl⟩
    · refine xx_iconst (q := 15) rfl rfl (by decide) ?_
      refine xx_goto (q := 19) rfl rfl ?_
      exact xx_iret rfl trivial ⟨congrArg (fun z => some (Sum.inl z)) (by grind [cmpF]), rfl⟩
  · refine xx_iconst (q := 6) rfl rfl (by decide) ?_
    refine xx_goto (q := 19) rfl rfl ?_
    exact xx_iret rfl trivial ⟨congrArg (fun z => some (Sum.inl z)) (by grind [cmpF]), rfl⟩
set_option maxHeartbeats 1000000 in
theorem c_hasLock {n c : Nat} {R : Nat → Nat → Option Nat} {D K : KK} (hR : RF R) (hc : isC c) (hK : CK c K D) (hI : KI K) (z : Int) : XC 1 10 [.inr (some c), .inl z] (xS n, R, D) (some (.inl (bi (0 ≤ z ∧ z < K 0 0)))) (xS n, R, D) := by
  refine XC_of (Nat.le_of_ble_eq_true rfl) (Nat.le_of_ble_eq_true rfl) (loc := [_, _]) rfl ?_
  refine xx_iload_n (q := 1) rfl rfl rfl ?_
  refine xx_if_lt (q := 16) (q2 := 4) rfl rfl rfl (fun h1 => ?_) (fun h1 => ?_)
  · refine xx_iconst (q := 17) rfl rfl (by decide) ?_
    exact xx_iret rfl (Or.inl rfl) ⟨congrArg (fun z => some (Sum.inl z)) (by grind [bi]), rfl⟩
  · refine xx_iload_n (q := 5) rfl rfl rfl ?_
    refine xx_aload_n (q := 6) rfl rfl rfl ?_
    refine xx_gez (v := K 0 0) (q := 9) rfl rfl rfl (xSc_0 hc) (Nat.le_of_ble_eq_true rfl) rfl (hK 0 0 (Nat.le_of_ble_eq_true rfl)) ?_
    have hb1 : 1 ≤ K 0 0 ∧ K 0 0 ≤ 9 := by have h := ki_L hI; exact h
    refine xx_icmp_ge (q := 16) (q2 := 12) rfl rfl rfl (fun h9 => ?_) (fun h9 => ?_)
    · refine xx_iconst (q := 17) rfl rfl (by decide) ?_
      exact xx_iret rfl (Or.inl rfl) ⟨congrArg (fun z => some (Sum.inl z)) (by grind [bi]), rfl⟩
    · refine xx_iconst (q := 13) rfl rfl (by decide) ?_
      refine xx_goto (q := 17) rfl rfl ?_
      exact xx_iret rfl (Or.inr rfl) ⟨congrArg (fun z => some (Sum.inl z)) (by grind [bi]), rfl⟩
set_option maxHeartbeats 1000000 in
theorem c_hasPool {n c : Nat} {R : Nat → Nat → Option Nat} {D K : KK} (hR : RF R) (hc : isC c) (hK : CK c K D) (hI : KI K) (z : Int) : XC 1 11 [.inr (some c), .inl z] (xS n, R, D) (some (.inl (bi (0 ≤ z ∧ z ≤ K 0 0)))) (xS n, R, D) := by
  refine XC_of (Nat.le_of_ble_eq_true rfl) (Nat.le_of_ble_eq_true rfl) (loc := [_, _]) rfl ?_
  refine xx_iload_n (q := 1) rfl rfl rfl ?_
  refine xx_if_lt (q := 16) (q2 := 4) rfl rfl rfl (fun h1 => ?_) (fun h1 => ?_)
  · refine xx_iconst (q := 17) rfl rfl (by decide) ?_
    exact xx_iret rfl (Or.inl rfl) ⟨congrArg (fun z => some (Sum.inl z)) (by grind [bi]), rfl⟩
  · refine xx_iload_n (q := 5) rfl rfl rfl ?_
    refine xx_aload_n (q := 6) rfl rfl rfl ?_
    refine xx_gez (v := K 0 0) (q := 9) rfl rfl rfl (xSc_0 hc) (Nat.le_of_ble_eq_true rfl) rfl (hK 0 0 (Nat.le_of_ble_eq_true rfl)) ?_
    have hb1 : 1 ≤ K 0 0 ∧ K 0 0 ≤ 9 := by have h := ki_L hI; exact h
    refine xx_icmp_gt (q := 16) (q2 := 12) rfl rfl rfl (fun h9 => ?_) (fun h9 => ?_)
    · refine xx_iconst (q := 17) rfl rfl (by decide) ?_
      exact xx_iret rfl (Or.inl rfl) ⟨congrArg (fun z => some (Sum.inl z)) (by grind [bi]), rfl⟩
    · refine xx_iconst (q := 13) rfl rfl (by decide) ?_
      refine xx_goto (q := 17) rfl rfl ?_
      exact xx_iret rfl (Or.inr rfl) ⟨congrArg (fun z => some (Sum.inl z)) (by grind [bi]), rfl⟩
set_option maxHeartbeats 1000000 in
theorem c_lockOnWay {n c : Nat} {R : Nat → Nat → Option Nat} {D K : KK} (hR : RF R) (hc : isC c) (hK : CK c K D) (hI : KI K) (z up : Int) (h0 : -1 ≤ z) (h1 : z ≤ 9) : XC 2 12 [.inr (some c), .inl z, .inl up] (xS n, R, D) (some (.inl (lckF K z up))) (xS n, R, D) := by
  refine XC_of (Nat.le_of_ble_eq_true rfl) (Nat.le_of_ble_eq_true rfl) (loc := [_, _, _, _]) rfl ?_
  refine xx_iload_n (q := 1) rfl rfl rfl ?_
  refine xx_if_eq (q := 10) (q2 := 4) rfl rfl rfl (fun h1 => ?_) (fun h1 => ?_)
  · refine xx_iload_n (q := 11) rfl rfl rfl ?_
    refine xx_istore_n (q := 12) (loc2 := [_, _, _, _]) rfl rfl (Nat.le_of_ble_eq_true rfl) rfl ?_
    refine xx_aload_n (q := 13) rfl rfl rfl ?_
    refine xx_iload_n (q := 14) rfl rfl rfl ?_
    refine xx_callV (q := 17) (As := [_]) (rest := []) rfl rfl rfl (Or.inl rfl) rfl rfl (Nat.le_of_ble_eq_true rfl) (xSc_0 hc) (XCm (c_hasLock hR hc hK hI z) rfl) rfl ?_
    refine xx_ifb_eq (q := 24) (q2 := 20) rfl rfl rfl (fun h17 => ?_) (fun h17 => ?_)
    · refine xx_iconst (q := 25) rfl rfl (by decide) ?_
      exact xx_iret rfl trivial ⟨congrArg (fun z => some (Sum.inl z)) (by grind [lckF]), rfl⟩
    · refine xx_iload_n (q := 21) rfl rfl rfl ?_
      refine xx_goto (q := 25) rfl rfl ?_
      exact xx_iret rfl trivial ⟨congrArg (fun z => some (Sum.inl z)) (by grind [lckF]), rfl⟩
  · refine xx_iload_n (q := 5) rfl rfl rfl ?_
    refine xx_iconst (q := 6) rfl rfl (by decide) ?_
    refine xx_isubR (q := 7) rfl rfl (by omega) (by omega) ?_
    refine xx_goto (q := 11) rfl rfl ?_
    refine xx_istore_n (q := 12) (loc2 := [_, _, _, _]) rfl rfl (Nat.le_of_ble_eq_true rfl) rfl ?_
    refine xx_aload_n (q := 13) rfl rfl rfl ?_
    refine xx_iload_n (q := 14) rfl rfl rfl ?_
    refine xx_callV (q := 17) (As := [_]) (rest := []) rfl rfl rfl (Or.inl rfl) rfl rfl (Nat.le_of_ble_eq_true rfl) (xSc_0 hc) (XCm (c_hasLock hR hc hK hI (z - 1)) rfl) rfl ?_
    refine xx_ifb_eq (q := 24) (q2 := 20) rfl rfl rfl (fun h17 => ?_) (fun h17 => ?_)
    · refine xx_iconst (q := 25) rfl rfl (by decide) ?_
      exact xx_iret rfl trivial ⟨congrArg (fun z => some (Sum.inl z)) (by grind [lckF]), rfl⟩
    · refine xx_iload_n (q := 21) rfl rfl rfl ?_
      refine xx_goto (q := 25) rfl rfl ?_
      exact xx_iret rfl trivial ⟨congrArg (fun z => some (Sum.inl z)) (by grind [lckF]), rfl⟩
theorem lckF_b (K : KK) (p up : Int) : lckF K p up = -1 ∨ (0 ≤ lckF K p up ∧ lckF K p up < K 0 0) := by grind [lckF]
set_option maxHeartbeats 1000000 in
theorem c_has {n c : Nat} {R : Nat → Nat → Option Nat} {D K : KK} (hR : RF R) (hc : isC c) (hK : CK c K D) (hI : KI K) (z : Int) : XC 1 33 [.inr (some (c + 13)), .inl z] (xS n, R, D) (some (.inl (bi (0 ≤ z ∧ z < K 13 0)))) (xS n, R, D) := by
  refine XC_of (Nat.le_of_ble_eq_true rfl) (Nat.le_of_ble_eq_true rfl) (loc := [_, _]) rfl ?_
  refine xx_iload_n (q := 1) rfl rfl rfl ?_
  refine xx_if_lt (q := 16) (q2 := 4) rfl rfl rfl (fun h1 => ?_) (fun h1 => ?_)
  · refine xx_iconst (q := 17) rfl rfl (by decide) ?_
    exact xx_iret rfl (Or.inl rfl) ⟨congrArg (fun z => some (Sum.inl z)) (by grind [bi]), rfl⟩
  · refine xx_iload_n (q := 5) rfl rfl rfl ?_
    refine xx_aload_n (q := 6) rfl rfl rfl ?_
    refine xx_gez (v := K 13 0) (q := 9) rfl rfl rfl (xSc_13 hc) (Nat.le_of_ble_eq_true rfl) rfl (hK 13 0 (Nat.le_of_ble_eq_true rfl)) ?_
    have hb1 : 0 ≤ K 13 0 ∧ K 13 0 ≤ 6 := by have h := ki_B hI; exact h
    refine xx_icmp_ge (q := 16) (q2 := 12) rfl rfl rfl (fun h9 => ?_) (fun h9 => ?_)
    · refine xx_iconst (q := 17) rfl rfl (by decide) ?_
      exact xx_iret rfl (Or.inl rfl) ⟨congrArg (fun z => some (Sum.inl z)) (by grind [bi]), rfl⟩
    · refine xx_iconst (q := 13) rfl rfl (by decide) ?_
      refine xx_goto (q := 17) rfl rfl ?_
      exact xx_iret rfl (Or.inr rfl) ⟨congrArg (fun z => some (Sum.inl z)) (by grind [bi]), rfl⟩
set_option maxHeartbeats 1000000 in
theorem c_cargoOf {n c : Nat} {R : Nat → Nat → Option Nat} {D K : KK} (hR : RF R) (hc : isC c) (hK : CK c K D) (hI : KI K) (b g : Int) (h0 : 0 ≤ b) (h1 : b < 6) (h2 : 0 ≤ g) (h3 : g < 4) : XC 1 35 [.inr (some (c + 13)), .inl b, .inl g] (xS n, R, D) (some (.inl (K 17 (b * 4 + g).toNat))) (xS n, R, D) := by
  refine XC_of (Nat.le_of_ble_eq_true rfl) (Nat.le_of_ble_eq_true rfl) (loc := [_, _, _]) rfl ?_
  refine xx_aload_n (q := 1) rfl rfl rfl ?_
  refine xx_getR (q := 4) rfl rfl rfl (xSc_13 hc) (Nat.le_of_ble_eq_true rfl) rfl (rc_cargo hR hc) ?_
  refine xx_iload_n (q := 5) rfl rfl rfl ?_
  refine xx_iconst (q := 6) rfl rfl (by decide) ?_
  refine xx_imulR (q := 7) rfl rfl (by omega) (by omega) ?_
  refine xx_iload_n (q := 8) rfl rfl rfl ?_
  refine xx_iaddR (q := 9) rfl rfl (by omega) (by omega) ?_
  refine xx_iaz (v := K 17 ((b * 4) + g).toNat) (q := 10) rfl rfl (xSc_17 hc) (by omega) (by omega) (ck_a hK (o := 17) (N := 24) rfl (by omega) (by omega)) ?_
  have hb1 : 0 ≤ K 17 ((b * 4) + g).toNat ∧ K 17 ((b * 4) + g).toNat ≤ 99 := by have h := ki_17 hI ((b * 4) + g).toNat; exact h
  exact xx_iret rfl trivial ⟨congrArg (fun z => some (Sum.inl z)) (by rfl), rfl⟩
set_option maxHeartbeats 1000000 in
theorem c_tasteFor {n c : Nat} {R : Nat → Nat → Option Nat} {D K : KK} (hR : RF R) (hc : isC c) (hK : CK c K D) (hI : KI K) (b g : Int) (h0 : 0 ≤ b) (h1 : b < 9) (h2 : 0 ≤ g) (h3 : g < 4) : XC 1 52 [.inr (some (c + 7)), .inl b, .inl g] (xS n, R, D) (some (.inl (K 11 (b * 4 + g).toNat))) (xS n, R, D) := by
  refine XC_of (Nat.le_of_ble_eq_true rfl) (Nat.le_of_ble_eq_true rfl) (loc := [_, _, _]) rfl ?_
  refine xx_aload_n (q := 1) rfl rfl rfl ?_
  refine xx_getR (q := 4) rfl rfl rfl (xSc_7 hc) (Nat.le_of_ble_eq_true rfl) rfl (rc_taste hR hc) ?_
  refine xx_iload_n (q := 5) rfl rfl rfl ?_
  refine xx_iconst (q := 6) rfl rfl (by decide) ?_
  refine xx_imulR (q := 7) rfl rfl (by omega) (by omega) ?_
  refine xx_iload_n (q := 8) rfl rfl rfl ?_
  refine xx_iaddR (q := 9) rfl rfl (by omega) (by omega) ?_
  refine xx_iaz (v := K 11 ((b * 4) + g).toNat) (q := 10) rfl rfl (xSc_11 hc) (by omega) (by omega) (ck_a hK (o := 11) (N := 36) rfl (by omega) (by omega)) ?_
  have hb1 : -9 ≤ K 11 ((b * 4) + g).toNat ∧ K 11 ((b * 4) + g).toNat ≤ 9 := by have h := ki_11 hI ((b * 4) + g).toNat; exact h
  exact xx_iret rfl trivial ⟨congrArg (fun z => some (Sum.inl z)) (by rfl), rfl⟩
set_option maxHeartbeats 1000000 in
theorem c_likingOf {n c : Nat} {R : Nat → Nat → Option Nat} {D K : KK} (hR : RF R) (hc : isC c) (hK : CK c K D) (hI : KI K) (b g : Int) (h0 : 0 ≤ b) (h1 : b < 9) (h2 : 0 ≤ g) (h3 : g < 6) : XC 1 53 [.inr (some (c + 7)), .inl b, .inl g] (xS n, R, D) (some (.inl (K 12 (b * 6 + g).toNat))) (xS n, R, D) := by
  refine XC_of (Nat.le_of_ble_eq_true rfl) (Nat.le_of_ble_eq_true rfl) (loc := [_, _, _]) rfl ?_
  refine xx_aload_n (q := 1) rfl rfl rfl ?_
  refine xx_getR (q := 4) rfl rfl rfl (xSc_7 hc) (Nat.le_of_ble_eq_true rfl) rfl (rc_liking hR hc) ?_
  refine xx_iload_n (q := 5) rfl rfl rfl ?_
  refine xx_bipush (q := 7) rfl rfl (by decide) ?_
  refine xx_imulR (q := 8) rfl rfl (by omega) (by omega) ?_
  refine xx_iload_n (q := 9) rfl rfl rfl ?_
  refine xx_iaddR (q := 10) rfl rfl (by omega) (by omega) ?_
  refine xx_iaz (v := K 12 ((b * 6) + g).toNat) (q := 11) rfl rfl (xSc_12 hc) (by omega) (by omega) (ck_a hK (o := 12) (N := 54) rfl (by omega) (by omega)) ?_
  have hb1 : -99 ≤ K 12 ((b * 6) + g).toNat ∧ K 12 ((b * 6) + g).toNat ≤ 99 := by have h := ki_12 hI ((b * 6) + g).toNat; exact h
  exact xx_iret rfl trivial ⟨congrArg (fun z => some (Sum.inl z)) (by rfl), rfl⟩
def rlkF (K : KK) (lock boat : Int) : Int := if K 9 lock.toNat = -1 then 0 else K 12 (K 9 lock.toNat * 6 + boat).toNat
set_option maxHeartbeats 1000000 in
theorem c_rivalsLikingOf {n c : Nat} {R : Nat → Nat → Option Nat} {D K : KK} (hR : RF R) (hc : isC c) (hK : CK c K D) (hI : KI K) (b g : Int) (h0 : 0 ≤ b) (h1 : b < 9) (h2 : 0 ≤ g) (h3 : g < 6) : XC 1 54 [.inr (some (c + 7)), .inl b, .inl g] (xS n, R, D) (some (.inl (rlkF K b g))) (xS n, R, D) := by
  refine XC_of (Nat.le_of_ble_eq_true rfl) (Nat.le_of_ble_eq_true rfl) (loc := [_, _, _]) rfl ?_
  refine xx_aload_n (q := 1) rfl rfl rfl ?_
  refine xx_getR (q := 4) rfl rfl rfl (xSc_7 hc) (Nat.le_of_ble_eq_true rfl) rfl (rc_rival hR hc) ?_
  refine xx_iload_n (q := 5) rfl rfl rfl ?_
  refine xx_iaz (v := K 9 (b).toNat) (q := 6) rfl rfl (xSc_9 hc) (by omega) (by omega) (ck_a hK (o := 9) (N := 9) rfl (by omega) (by omega)) ?_
  have hb1 : -1 ≤ K 9 (b).toNat ∧ K 9 (b).toNat ≤ 8 := by have h := ki_9 hI (b).toNat; exact h
  refine xx_iconst (q := 7) rfl rfl (by decide) ?_
  refine xx_icmp_ne (q := 14) (q2 := 10) rfl rfl rfl (fun h7 => ?_) (fun h7 => ?_)
  · refine xx_aload_n (q := 15) rfl rfl rfl ?_
    refine xx_getR (q := 18) rfl rfl rfl (xSc_7 hc) (Nat.le_of_ble_eq_true rfl) rfl (rc_liking hR hc) ?_
    refine xx_aload_n (q := 19) rfl rfl rfl ?_
    refine xx_getR (q := 22) rfl rfl rfl (xSc_7 hc) (Nat.le_of_ble_eq_true rfl) rfl (rc_rival hR hc) ?_
    refine xx_iload_n (q := 23) rfl rfl rfl ?_
    refine xx_iaz (v := K 9 (b).toNat) (q := 24) rfl rfl (xSc_9 hc) (by omega) (by omega) (ck_a hK (o := 9) (N := 9) rfl (by omega) (by omega)) ?_
    have hb2 : -1 ≤ K 9 (b).toNat ∧ K 9 (b).toNat ≤ 8 := by have h := ki_9 hI (b).toNat; exact h
    refine xx_bipush (q := 26) rfl rfl (by decide) ?_
    refine xx_imulR (q := 27) rfl rfl (by omega) (by omega) ?_
    refine xx_iload_n (q := 28) rfl rfl rfl ?_
    refine xx_iaddR (q := 29) rfl rfl (by omega) (by omega) ?_
    refine xx_iaz (v := K 12 (((K 9 (b).toNat) * 6) + g).toNat) (q := 30) rfl rfl (xSc_12 hc) (by omega) (by omega) (ck_a hK (o := 12) (N := 54) rfl (by omega) (by omega)) ?_
    have hb3 : -99 ≤ K 12 (((K 9 (b).toNat) * 6) + g).toNat ∧ K 12 (((K 9 (b).toNat) * 6) + g).toNat ≤ 99 := by have h := ki_12 hI (((K 9 (b).toNat) * 6) + g).toNat; exact h
    exact xx_iret rfl trivial ⟨congrArg (fun z => some (Sum.inl z)) (by grind [rlkF]), rfl⟩
  · refine xx_iconst (q := 11) rfl rfl (by decide) ?_
    refine xx_goto (q := 30) rfl rfl ?_
    exact xx_iret rfl trivial ⟨congrArg (fun z => some (Sum.inl z)) (by grind [rlkF]), rfl⟩
