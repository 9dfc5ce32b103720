/-! The reference: small methods, the water. -/
def AF (f : Nat → Int) (D : KK) : Prop := ∀ k, D 508 k = f k
theorem AF_up {f : Nat → Int} {D : KK} {j : Nat} {v : Int} (h : AF f D) : AF (fset f j v) (xui D 508 j v) := fun k => by
  rw [xui_f]
  unfold fset
  rw [h k]
set_option maxHeartbeats 1000000 in
theorem r_isIn {m : XM} (v lo hi : Int) : XC 1 161 [.inr (some 479), .inl v, .inl lo, .inl hi] m (some (.inl (bi (lo ≤ v ∧ v ≤ hi)))) m := by
  refine XC_of (Nat.le_of_ble_eq_true rfl) (Nat.le_of_ble_eq_true rfl) (loc := [_, _, _, _]) rfl ?_
  refine xx_iload_n (q := 1) rfl rfl rfl ?_
  refine xx_iload_n (q := 2) rfl rfl rfl ?_
  refine xx_icmp_lt (q := 14) (q2 := 5) rfl rfl rfl (fun h2 => ?_) (fun h2 => ?_)
  · refine xx_iconst (q := 15) rfl rfl (by decide) ?_
    exact xx_iret rfl (Or.inl rfl) ⟨congrArg (fun z => some (Sum.inl z)) (by grind [bi]), rfl⟩
  · refine xx_iload_n (q := 6) rfl rfl rfl ?_
    refine xx_iload_n (q := 7) rfl rfl rfl ?_
    refine xx_icmp_gt (q := 14) (q2 := 10) rfl rfl rfl (fun h7 => ?_) (fun h7 => ?_)
    · refine xx_iconst (q := 15) rfl rfl (by decide) ?_
      exact xx_iret rfl (Or.inl rfl) ⟨congrArg (fun z => some (Sum.inl z)) (by grind [bi]), rfl⟩
    · refine xx_iconst (q := 11) rfl rfl (by decide) ?_
      refine xx_goto (q := 15) rfl rfl ?_
      exact xx_iret rfl (Or.inr rfl) ⟨congrArg (fun z => some (Sum.inl z)) (by grind [bi]), rfl⟩
set_option maxHeartbeats 1000000 in
theorem r_held {m : XM} (v : Int) : XC 1 162 [.inr (some 479), .inl v, .inl (-99), .inl 99] m (some (.inl (hld v))) m := by
  refine XC_of (Nat.le_of_ble_eq_true rfl) (Nat.le_of_ble_eq_true rfl) (loc := [_, _, _, _]) rfl ?_
  refine xx_iload_n (q := 1) rfl rfl rfl ?_
  refine xx_iload_n (q := 2) rfl rfl rfl ?_
  refine xx_icmp_ge (q := 9) (q2 := 5) rfl rfl rfl (fun h2 => ?_) (fun h2 => ?_)
  · refine xx_iload_n (q := 10) rfl rfl rfl ?_
    refine xx_iload_n (q := 11) rfl rfl rfl ?_
    refine xx_icmp_le (q := 18) (q2 := 14) rfl rfl rfl (fun h11 => ?_) (fun h11 => ?_)
    · refine xx_iload_n (q := 19) rfl rfl rfl ?_
      exact xx_iret rfl trivial ⟨congrArg (fun z => some (Sum.inl z)) (by grind [hld]), rfl⟩
    · refine xx_iload_n (q := 15) rfl rfl rfl ?_
      refine xx_goto (q := 19) rfl rfl ?_
      exact xx_iret rfl trivial ⟨congrArg (fun z => some (Sum.inl z)) (by grind [hld]), rfl⟩
  · refine xx_iload_n (q := 6) rfl rfl rfl ?_
    refine xx_goto (q := 19) rfl rfl ?_
    exact xx_iret rfl trivial ⟨congrArg (fun z => some (Sum.inl z)) (by grind [hld]), rfl⟩
def twdF (v to : Int) : Int := if v < to then v + 1 else if to < v then v - 1 else v
set_option maxHeartbeats 1000000 in
theorem r_towards {m : XM} (v to : Int) (h0 : -100 ≤ v) (h1 : v ≤ 100) : XC 1 249 [.inr (some 479), .inl v, .inl to] m (some (.inl (twdF v to))) m := by
  refine XC_of (Nat.le_of_ble_eq_true rfl) (Nat.le_of_ble_eq_true rfl) (loc := [_, _, _]) rfl ?_
  refine xx_iload_n (q := 1) rfl rfl rfl ?_
  refine xx_iload_n (q := 2) rfl rfl rfl ?_
  refine xx_icmp_ge (q := 11) (q2 := 5) rfl rfl rfl (fun h2 => ?_) (fun h2 => ?_)
  · refine xx_iload_n (q := 12) rfl rfl rfl ?_
    refine xx_iload_n (q := 13) rfl rfl rfl ?_
    refine xx_icmp_le (q := 22) (q2 := 16) rfl rfl rfl (fun h13 => ?_) (fun h13 => ?_)
    · refine xx_iload_n (q := 23) rfl rfl rfl ?_
      exact xx_iret rfl trivial ⟨congrArg (fun z => some (Sum.inl z)) (by grind [twdF]), rfl⟩
    · refine xx_iload_n (q := 17) rfl rfl rfl ?_
      refine xx_iconst (q := 18) rfl rfl (by decide) ?_
      refine xx_isubR (q := 19) rfl rfl (by omega) (by omega) ?_
      refine xx_goto (q := 23) rfl rfl ?_
      exact xx_iret rfl trivial ⟨congrArg (fun z => some (Sum.inl z)) (by grind [twdF]), rfl⟩
  · refine xx_iload_n (q := 6) rfl rfl rfl ?_
    refine xx_iconst (q := 7) rfl rfl (by decide) ?_
    refine xx_iaddR (q := 8) rfl rfl (by omega) (by omega) ?_
    refine xx_goto (q := 23) rfl rfl ?_
    exact xx_iret rfl trivial ⟨congrArg (fun z => some (Sum.inl z)) (by grind [twdF]), rfl⟩
set_option maxHeartbeats 1000000 in
theorem r_isLock {n : Nat} {R : Nat → Nat → Option Nat} {t : Int} {K D0 D : KK} {b : Int} {B : Nat → Int} {U : UU} (hR : RF R) (hV : RV t K b B U D0 D) (hI : KI K) (z : Int) : XC 1 171 [.inr (some 479), .inl z] (xS n, R, D) (some (.inl (bi (0 ≤ z ∧ z < K 0 0)))) (xS n, R, D) := by
  refine XC_of (Nat.le_of_ble_eq_true rfl) (Nat.le_of_ble_eq_true rfl) (loc := [_, _]) rfl ?_
  refine xx_iload_n (q := 1) rfl rfl rfl ?_
  refine xx_if_lt (q := 16) (q2 := 4) rfl rfl rfl (fun h1 => ?_) (fun h1 => ?_)
  · refine xx_iconst (q := 17) rfl rfl (by decide) ?_
    exact xx_iret rfl (Or.inl rfl) ⟨congrArg (fun z => some (Sum.inl z)) (by grind [bi]), rfl⟩
  · refine xx_iload_n (q := 5) rfl rfl rfl ?_
    refine xx_aload_n (q := 6) rfl rfl rfl ?_
    refine xx_gez (q := 9) rfl rfl rfl xS_479 (Nat.le_of_ble_eq_true rfl) rfl (rv_L hV) ?_
    have hb1 : 1 ≤ K 0 0 ∧ K 0 0 ≤ 9 := by have h := ki_L hI; exact h
    refine xx_icmp_ge (q := 16) (q2 := 12) rfl rfl rfl (fun h9 => ?_) (fun h9 => ?_)
    · refine xx_iconst (q := 17) rfl rfl (by decide) ?_
      exact xx_iret rfl (Or.inl rfl) ⟨congrArg (fun z => some (Sum.inl z)) (by grind [bi]), rfl⟩
    · refine xx_iconst (q := 13) rfl rfl (by decide) ?_
      refine xx_goto (q := 17) rfl rfl ?_
      exact xx_iret rfl (Or.inr rfl) ⟨congrArg (fun z => some (Sum.inl z)) (by grind [bi]), rfl⟩
set_option maxHeartbeats 1000000 in
theorem r_isPool {n : Nat} {R : Nat → Nat → Option Nat} {t : Int} {K D0 D : KK} {b : Int} {B : Nat → Int} {U : UU} (hR : RF R) (hV : RV t K b B U D0 D) (hI : KI K) (z : Int) : XC 1 172 [.inr (some 479), .inl z] (xS n, R, D) (some (.inl (bi (0 ≤ z ∧ z ≤ K 0 0)))) (xS n, R, D) := by
  refine XC_of (Nat.le_of_ble_eq_true rfl) (Nat.le_of_ble_eq_true rfl) (loc := [_, _]) rfl ?_
  refine xx_iload_n (q := 1) rfl rfl rfl ?_
  refine xx_if_lt (q := 16) (q2 := 4) rfl rfl rfl (fun h1 => ?_) (fun h1 => ?_)
  · refine xx_iconst (q := 17) rfl rfl (by decide) ?_
    exact xx_iret rfl (Or.inl rfl) ⟨congrArg (fun z => some (Sum.inl z)) (by grind [bi]), rfl⟩
  · refine xx_iload_n (q := 5) rfl rfl rfl ?_
    refine xx_aload_n (q := 6) rfl rfl rfl ?_
    refine xx_gez (q := 9) rfl rfl rfl xS_479 (Nat.le_of_ble_eq_true rfl) rfl (rv_L hV) ?_
    have hb1 : 1 ≤ K 0 0 ∧ K 0 0 ≤ 9 := by have h := ki_L hI; exact h
    refine xx_icmp_gt (q := 16) (q2 := 12) rfl rfl rfl (fun h9 => ?_) (fun h9 => ?_)
    · refine xx_iconst (q := 17) rfl rfl (by decide) ?_
      exact xx_iret rfl (Or.inl rfl) ⟨congrArg (fun z => some (Sum.inl z)) (by grind [bi]), rfl⟩
    · refine xx_iconst (q := 13) rfl rfl (by decide) ?_
      refine xx_goto (q := 17) rfl rfl ?_
      exact xx_iret rfl (Or.inr rfl) ⟨congrArg (fun z => some (Sum.inl z)) (by grind [bi]), rfl⟩
set_option maxHeartbeats 1000000 in
theorem r_isBoat {n : Nat} {R : Nat → Nat → Option Nat} {t : Int} {K D0 D : KK} {b : Int} {B : Nat → Int} {U : UU} (hR : RF R) (hV : RV t K b B U D0 D) (hI : KI K) (z : Int) : XC 1 173 [.inr (some 479), .inl z] (xS n, R, D) (some (.inl (bi (0 ≤ z ∧ z < K 13 0)))) (xS n, R, D) := by
  refine XC_of (Nat.le_of_ble_eq_true rfl) (Nat.le_of_ble_eq_true rfl) (loc := [_, _]) rfl ?_
  refine xx_iload_n (q := 1) rfl rfl rfl ?_
  refine xx_if_lt (q := 16) (q2 := 4) rfl rfl rfl (fun h1 => ?_) (fun h1 => ?_)
  · refine xx_iconst (q := 17) rfl rfl (by decide) ?_
    exact xx_iret rfl (Or.inl rfl) ⟨congrArg (fun z => some (Sum.inl z)) (by grind [bi]), rfl⟩
  · refine xx_iload_n (q := 5) rfl rfl rfl ?_
    refine xx_aload_n (q := 6) rfl rfl rfl ?_
    refine xx_gez (q := 9) rfl rfl rfl xS_479 (Nat.le_of_ble_eq_true rfl) rfl (rv_B hV) ?_
    have hb1 : 0 ≤ K 13 0 ∧ K 13 0 ≤ 6 := by have h := ki_B hI; exact h
    refine xx_icmp_ge (q := 16) (q2 := 12) rfl rfl rfl (fun h9 => ?_) (fun h9 => ?_)
    · refine xx_iconst (q := 17) rfl rfl (by decide) ?_
      exact xx_iret rfl (Or.inl rfl) ⟨congrArg (fun z => some (Sum.inl z)) (by grind [bi]), rfl⟩
    · refine xx_iconst (q := 13) rfl rfl (by decide) ?_
      refine xx_goto (q := 17) rfl rfl ?_
      exact xx_iret rfl (Or.inr rfl) ⟨congrArg (fun z => some (Sum.inl z)) (by grind [bi]), rfl⟩
set_option maxHeartbeats 1000000 in
theorem r_isGood {m : XM} (z : Int) : XC 1 174 [.inr (some 479), .inl z] m (some (.inl (bi (0 ≤ z ∧ z ≤ 3)))) m := by
  refine XC_of (Nat.le_of_ble_eq_true rfl) (Nat.le_of_ble_eq_true rfl) (loc := [_, _]) rfl ?_
  refine xx_iload_n (q := 1) rfl rfl rfl ?_
  refine xx_if_lt (q := 13) (q2 := 4) rfl rfl rfl (fun h1 => ?_) (fun h1 => ?_)
  · refine xx_iconst (q := 14) rfl rfl (by decide) ?_
    exact xx_iret rfl (Or.inl rfl) ⟨congrArg (fun z => some (Sum.inl z)) (by grind [bi]), rfl⟩
  · refine xx_iload_n (q := 5) rfl rfl rfl ?_
    refine xx_iconst (q := 6) rfl rfl (by decide) ?_
    refine xx_icmp_ge (q := 13) (q2 := 9) rfl rfl rfl (fun h6 => ?_) (fun h6 => ?_)
    · refine xx_iconst (q := 14) rfl rfl (by decide) ?_
      exact xx_iret rfl (Or.inl rfl) ⟨congrArg (fun z => some (Sum.inl z)) (by grind [bi]), rfl⟩
    · refine xx_iconst (q := 10) rfl rfl (by decide) ?_
      refine xx_goto (q := 14) rfl rfl ?_
      exact xx_iret rfl (Or.inr rfl) ⟨congrArg (fun z => some (Sum.inl z)) (by grind [bi]), rfl⟩
set_option maxHeartbeats 1000000 in
theorem r_fillOf {n : Nat} {R : Nat → Nat → Option Nat} {t : Int} {K D0 D : KK} {b : Int} {B : Nat → Int} {U : UU} (hR : RF R) (hV : RV t K b B U D0 D) (hI : KI K) (z : Int) (h0 : 0 ≤ z) (h1 : z < 9) : XC 1 175 [.inr (some 479), .inl z] (xS n, R, D) (some (.inl (K 2 z.toNat))) (xS n, R, D) := by
  refine XC_of (Nat.le_of_ble_eq_true rfl) (Nat.le_of_ble_eq_true rfl) (loc := [_, _]) rfl ?_
  refine xx_aload_n (q := 1) rfl rfl rfl ?_
  refine xx_getR (q := 4) rfl rfl rfl xS_479 (Nat.le_of_ble_eq_true rfl) rfl (hR.1 479 8 rfl) ?_
  refine xx_iload_n (q := 5) rfl rfl rfl ?_
  refine xx_iaz (v := K 2 (z).toNat - 10) (q := 6) rfl rfl xS_483 (by omega) (by omega) (rv_483 hV (p := z) (by omega) (by omega)) ?_
  have hb1 : 1 ≤ K 2 (z).toNat ∧ K 2 (z).toNat ≤ 50 := by have h := ki_2 hI (z).toNat; exact h
  refine xx_bipush (q := 8) rfl rfl (by decide) ?_
  refine xx_iaddR (q := 9) rfl rfl (by omega) (by omega) ?_
  exact xx_iret rfl trivial ⟨congrArg (fun z => some (Sum.inl z)) (by omega), rfl⟩
set_option maxHeartbeats 1000000 in
theorem r_wideOf {n : Nat} {R : Nat → Nat → Option Nat} {t : Int} {K D0 D : KK} {b : Int} {B : Nat → Int} {U : UU} (hR : RF R) (hV : RV t K b B U D0 D) (hI : KI K) (z : Int) (h0 : 0 ≤ z) (h1 : z < 9) : XC 1 176 [.inr (some 479), .inl z] (xS n, R, D) (some (.inl (K 4 z.toNat))) (xS n, R, D) := by
  refine XC_of (Nat.le_of_ble_eq_true rfl) (Nat.le_of_ble_eq_true rfl) (loc := [_, _]) rfl ?_
  refine xx_aload_n (q := 1) rfl rfl rfl ?_
  refine xx_getR (q := 4) rfl rfl rfl xS_479 (Nat.le_of_ble_eq_true rfl) rfl (hR.1 479 10 rfl) ?_
  refine xx_iload_n (q := 5) rfl rfl rfl ?_
  refine xx_iaz (v := K 4 (z).toNat - 4) (q := 6) rfl rfl xS_485 (by omega) (by omega) (rv_485 hV (p := z) (by omega) (by omega)) ?_
  have hb1 : 1 ≤ K 4 (z).toNat ∧ K 4 (z).toNat ≤ 9 := by have h := ki_4 hI (z).toNat; exact h
  refine xx_iconst (q := 7) rfl rfl (by decide) ?_
  refine xx_iaddR (q := 8) rfl rfl (by omega) (by omega) ?_
  exact xx_iret rfl trivial ⟨congrArg (fun z => some (Sum.inl z)) (by omega), rfl⟩
set_option maxHeartbeats 1000000 in
theorem r_rivalOf {n : Nat} {R : Nat → Nat → Option Nat} {t : Int} {K D0 D : KK} {b : Int} {B : Nat → Int} {U : UU} (hR : RF R) (hV : RV t K b B U D0 D) (hI : KI K) (z : Int) (h0 : 0 ≤ z) (h1 : z < 9) : XC 1 177 [.inr (some 479), .inl z] (xS n, R, D) (some (.inl (K 9 z.toNat))) (xS n, R, D) := by
  refine XC_of (Nat.le_of_ble_eq_true rfl) (Nat.le_of_ble_eq_true rfl) (loc := [_, _]) rfl ?_
  refine xx_aload_n (q := 1) rfl rfl rfl ?_
  refine xx_getR (q := 4) rfl rfl rfl xS_479 (Nat.le_of_ble_eq_true rfl) rfl (hR.1 479 11 rfl) ?_
  refine xx_iload_n (q := 5) rfl rfl rfl ?_
  refine xx_iaz (v := K 9 (z).toNat + 1) (q := 6) rfl rfl xS_486 (by omega) (by omega) (rv_486 hV (p := z) (by omega) (by omega)) ?_
  have hb1 : -1 ≤ K 9 (z).toNat ∧ K 9 (z).toNat ≤ 8 := by have h := ki_9 hI (z).toNat; exact h
  refine xx_iconst (q := 7) rfl rfl (by decide) ?_
  refine xx_isubR (q := 8) rfl rfl (by omega) (by omega) ?_
  exact xx_iret rfl trivial ⟨congrArg (fun z => some (Sum.inl z)) (by omega), rfl⟩
set_option maxHeartbeats 1000000 in
theorem r_depthOf {n : Nat} {R : Nat → Nat → Option Nat} {t : Int} {K D0 D : KK} {b : Int} {B : Nat → Int} {U : UU} (hR : RF R) (hV : RV t K b B U D0 D) (hI : KI K) (z : Int) (h0 : 0 ≤ z) (h1 : z < 10) : XC 1 178 [.inr (some 479), .inl z] (xS n, R, D) (some (.inl (K 1 z.toNat))) (xS n, R, D) := by
  refine XC_of (Nat.le_of_ble_eq_true rfl) (Nat.le_of_ble_eq_true rfl) (loc := [_, _]) rfl ?_
  refine xx_aload_n (q := 1) rfl rfl rfl ?_
  refine xx_getR (q := 4) rfl rfl rfl xS_479 (Nat.le_of_ble_eq_true rfl) rfl (hR.1 479 1 rfl) ?_
  refine xx_iconst (q := 5) rfl rfl (by decide) ?_
  refine xx_iload_n (q := 6) rfl rfl rfl ?_
  refine xx_iaddR (q := 7) rfl rfl (by omega) (by omega) ?_
  refine xx_iaz (v := K 1 (z).toNat - 100) (q := 8) rfl rfl xS_480 (by omega) (by omega) (rv_1 hV (p := z) (by omega) (by omega)) ?_
  have hb1 : 0 ≤ K 1 (z).toNat ∧ K 1 (z).toNat ≤ 999 := by have h := ki_1 hI (z).toNat; exact h
  refine xx_bipush (q := 10) rfl rfl (by decide) ?_
  refine xx_iaddR (q := 11) rfl rfl (by omega) (by omega) ?_
  exact xx_iret rfl trivial ⟨congrArg (fun z => some (Sum.inl z)) (by omega), rfl⟩
set_option maxHeartbeats 1000000 in
theorem r_likingOf {n : Nat} {R : Nat → Nat → Option Nat} {t : Int} {K D0 D : KK} {b : Int} {B : Nat → Int} {U : UU} (hR : RF R) (hV : RV t K b B U D0 D) (hI : KI K) (l c : Int) (h0 : 0 ≤ l) (h1 : l < 9) (h2 : 0 ≤ c) (h3 : c < 6) : XC 1 179 [.inr (some 479), .inl l, .inl c] (xS n, R, D) (some (.inl (K 12 (l * 6 + c).toNat))) (xS n, R, D) := by
  refine XC_of (Nat.le_of_ble_eq_true rfl) (Nat.le_of_ble_eq_true rfl) (loc := [_, _, _]) rfl ?_
  refine xx_aload_n (q := 1) rfl rfl rfl ?_
  refine xx_getR (q := 4) rfl rfl rfl xS_479 (Nat.le_of_ble_eq_true rfl) rfl (hR.1 479 1 rfl) ?_
  refine xx_bipush (q := 6) rfl rfl (by decide) ?_
  refine xx_bipush (q := 8) rfl rfl (by decide) ?_
  refine xx_iload_n (q := 9) rfl rfl rfl ?_
  refine xx_imulR (q := 10) rfl rfl (by omega) (by omega) ?_
  refine xx_iaddR (q := 11) rfl rfl (by omega) (by omega) ?_
  refine xx_iload_n (q := 12) rfl rfl rfl ?_
  refine xx_iaddR (q := 13) rfl rfl (by omega) (by omega) ?_
  refine xx_iaz (v := K 12 (l * 6 + c).toNat) (q := 14) rfl rfl xS_480 (by omega) (by omega) (rv_12 hV (l := l) (c := c) (by omega) (by omega) (by omega) (by omega)) ?_
  have hb1 : -99 ≤ K 12 (l * 6 + c).toNat ∧ K 12 (l * 6 + c).toNat ≤ 99 := by have h := ki_12 hI (l * 6 + c).toNat; exact h
  exact xx_iret rfl trivial ⟨congrArg (fun z => some (Sum.inl z)) (by rfl), rfl⟩
set_option maxHeartbeats 1000000 in
theorem r_cargoOf {n : Nat} {R : Nat → Nat → Option Nat} {t : Int} {K D0 D : KK} {b : Int} {B : Nat → Int} {U : UU} (hR : RF R) (hV : RV t K b B U D0 D) (hI : KI K) (l c : Int) (h0 : 0 ≤ l) (h1 : l < 6) (h2 : 0 ≤ c) (h3 : c < 4) : XC 1 180 [.inr (some 479), .inl l, .inl c] (xS n, R, D) (some (.inl (K 17 (l * 4 + c).toNat))) (xS n, R, D) := by
  refine XC_of (Nat.le_of_ble_eq_true rfl) (Nat.le_of_ble_eq_true rfl) (loc := [_, _, _]) rfl ?_
  refine xx_aload_n (q := 1) rfl rfl rfl ?_
  refine xx_getR (q := 4) rfl rfl rfl xS_479 (Nat.le_of_ble_eq_true rfl) rfl (hR.1 479 1 rfl) ?_
  refine xx_bipush (q := 6) rfl rfl (by decide) ?_
  refine xx_iconst (q := 7) rfl rfl (by decide) ?_
  refine xx_iload_n (q := 8) rfl rfl rfl ?_
  refine xx_imulR (q := 9) rfl rfl (by omega) (by omega) ?_
  refine xx_iaddR (q := 10) rfl rfl (by omega) (by omega) ?_
  refine xx_iload_n (q := 11) rfl rfl rfl ?_
  refine xx_iaddR (q := 12) rfl rfl (by omega) (by omega) ?_
  refine xx_iaz (v := K 17 (l * 4 + c).toNat) (q := 13) rfl rfl xS_480 (by omega) (by omega) (rv_17 hV (l := l) (c := c) (by omega) (by omega) (by omega) (by omega)) ?_
  have hb1 : 0 ≤ K 17 (l * 4 + c).toNat ∧ K 17 (l * 4 + c).toNat ≤ 99 := by have h := ki_17 hI (l * 4 + c).toNat; exact h
  exact xx_iret rfl trivial ⟨congrArg (fun z => some (Sum.inl z)) (by rfl), rfl⟩
set_option maxHeartbeats 1000000 in
theorem r_lockFrom {n : Nat} {R : Nat → Nat → Option Nat} {t : Int} {K D0 D : KK} {b : Int} {B : Nat → Int} {U : UU} (hR : RF R) (hV : RV t K b B U D0 D) (hI : KI K) (z up : Int) (h0 : -1 ≤ z) (h1 : z ≤ 9) : XC 2 233 [.inr (some 479), .inl z, .inl up] (xS n, R, D) (some (.inl (lckF K z up))) (xS n, R, D) := by
  refine XC_of (Nat.le_of_ble_eq_true rfl) (Nat.le_of_ble_eq_true rfl) (loc := [_, _, _, _]) rfl ?_
  refine xx_iload_n (q := 1) rfl rfl rfl ?_
  refine xx_if_eq (q := 10) (q2 := 4) rfl rfl rfl (fun h1 => ?_) (fun h1 => ?_)
  · refine xx_iload_n (q := 11) rfl rfl rfl ?_
    refine xx_istore_n (q := 12) (loc2 := [_, _, _, _]) rfl rfl (Nat.le_of_ble_eq_true rfl) rfl ?_
    refine xx_aload_n (q := 13) rfl rfl rfl ?_
    refine xx_iload_n (q := 14) rfl rfl rfl ?_
    refine xx_callV (q := 17) (As := [_]) (rest := []) rfl rfl rfl (Or.inl rfl) rfl rfl (Nat.le_of_ble_eq_true rfl) xS_479 (XCm (r_isLock hR hV hI z) rfl) rfl ?_
    refine xx_ifb_eq (q := 24) (q2 := 20) rfl rfl rfl (fun h17 => ?_) (fun h17 => ?_)
    · refine xx_iconst (q := 25) rfl rfl (by decide) ?_
      exact xx_iret rfl trivial ⟨congrArg (fun z => some (Sum.inl z)) (by grind [lckF]), rfl⟩
    · refine xx_iload_n (q := 21) rfl rfl rfl ?_
      refine xx_goto (q := 25) rfl rfl ?_
      exact xx_iret rfl trivial ⟨congrArg (fun z => some (Sum.inl z)) (by grind [lckF]), rfl⟩
  · refine xx_iload_n (q := 5) rfl rfl rfl ?_
    refine xx_iconst (q := 6) rfl rfl (by decide) ?_
    refine xx_isubR (q := 7) rfl rfl (by omega) (by omega) ?_
    refine xx_goto (q := 11) rfl rfl ?_
    refine xx_istore_n (q := 12) (loc2 := [_, _, _, _]) rfl rfl (Nat.le_of_ble_eq_true rfl) rfl ?_
    refine xx_aload_n (q := 13) rfl rfl rfl ?_
    refine xx_iload_n (q := 14) rfl rfl rfl ?_
    refine xx_callV (q := 17) (As := [_]) (rest := []) rfl rfl rfl (Or.inl rfl) rfl rfl (Nat.le_of_ble_eq_true rfl) xS_479 (XCm (r_isLock hR hV hI (z - 1)) rfl) rfl ?_
    refine xx_ifb_eq (q := 24) (q2 := 20) rfl rfl rfl (fun h17 => ?_) (fun h17 => ?_)
    · refine xx_iconst (q := 25) rfl rfl (by decide) ?_
      exact xx_iret rfl trivial ⟨congrArg (fun z => some (Sum.inl z)) (by grind [lckF]), rfl⟩
    · refine xx_iload_n (q := 21) rfl rfl rfl ?_
      refine xx_goto (q := 25) rfl rfl ?_
      exact xx_iret rfl trivial ⟨congrArg (fun z => some (Sum.inl z)) (by grind [lckF]), rfl⟩
theorem comeL_0 : ∀ (k : Nat) (K : KK) (pool : Int), KI K → comeL k K pool 0 = xui K 0 2 (nrm (K 0 2 + 0))
  | 0, K, pool, h => rfl
  | k + 1, K, pool, h => by
    have h1 := ki_1 h pool.toNat
    have h2 := mnF_sp (K 1 pool.toNat + 0) 999
    have e1 : mnF (K 1 pool.toNat + 0) 999 = K 1 pool.toNat := by omega
    have e2 : K 1 pool.toNat + 0 - K 1 pool.toNat = 0 := by omega
    show comeL k (xui K 1 pool.toNat (mnF (K 1 pool.toNat + 0) 999)) (pool + 1) (K 1 pool.toNat + 0 - mnF (K 1 pool.toNat + 0) 999) = _
    rw [e1, e2, xui_id]
    exact comeL_0 k K (pool + 1) h
set_option maxHeartbeats 1000000 in
theorem r_pour_L {n : Nat} {R : Nat → Nat → Option Nat} {t : Int} {D0 : KK} {b : Int} {B : Nat → Int} {U : UU} (hR : RF R) (f a : Int) : ∀ (k : Nat) (K D : KK) (pool on : Int) (x : Option XV), RV t K b B U D0 D → KI K → 0 ≤ pool → 0 ≤ on → on ≤ 3000 → pool + k = K 0 0 + 1 → XX (XC 1) 228 (XP none (xS n) R (fun D' => RV t (comeL k K pool on) b B U D0 D')) 5 [some (.inr (some 479)), some (.inl f), some (.inl a), some (.inl on), some (.inl pool), x] [] (xS n, R, D) := by
  intro k
  induction k using Nat.strongRecOn with
  | ind k ih =>
  intro K D pool on x hV hI h1 h2 h3 hk
  refine xx_iload (q := 7) rfl rfl rfl ?_
  refine xx_aload_n (q := 8) rfl rfl rfl ?_
  refine xx_gez (q := 11) rfl rfl rfl xS_479 (Nat.le_of_ble_eq_true rfl) rfl (rv_L hV) ?_
  have hb1 : 1 ≤ K 0 0 ∧ K 0 0 ≤ 9 := by have h := ki_L hI; exact h
  refine xx_icmp_gt (q := 72) (q2 := 14) rfl rfl rfl (fun h11 => ?_) (fun h11 => ?_)
  · refine xx_aload_n (q := 73) rfl rfl rfl ?_
    refine xx_getR (q := 76) rfl rfl rfl xS_479 (Nat.le_of_ble_eq_true rfl) rfl (hR.1 479 1 rfl) ?_
    refine xx_iconst (q := 77) rfl rfl (by decide) ?_
    refine xx_aload_n (q := 78) rfl rfl rfl ?_
    refine xx_getR (q := 81) rfl rfl rfl xS_479 (Nat.le_of_ble_eq_true rfl) rfl (hR.1 479 1 rfl) ?_
    refine xx_iconst (q := 82) rfl rfl (by decide) ?_
    refine xx_iaz (v := K 0 2) (q := 83) rfl rfl xS_480 (by omega) (by omega) (rv_s hV) ?_
    refine xx_iload_n (q := 84) rfl rfl rfl ?_
    refine xx_iadd (q := 85) rfl rfl ?_
    refine xr_isz (RV t (xui K 0 2 (nrm ((K 0 2) + on))) b B U D0) (q := 86) rfl rfl xS_480 (by omega) (by omega) (rs_s hV) (fun D3 hV3 => ?_)
    have hs3 : (xui K 0 2 (nrm ((K 0 2) + on))) 0 2 = (nrm ((K 0 2) + on)) := xui_s
    have hI3 : KI (xui K 0 2 (nrm ((K 0 2) + on))) := KI_up hI (nrm_lo _) (nrm_hi _)
    obtain rfl : k = 0 := by omega
    exact xx_vret rfl rfl ⟨rfl, _, rfl, hV3⟩
  · refine xx_iload_n (q := 15) rfl rfl rfl ?_
    refine xx_if_le (q := 72) (q2 := 18) rfl rfl rfl (fun h15 => ?_) (fun h15 => ?_)
    · refine xx_aload_n (q := 73) rfl rfl rfl ?_
      refine xx_getR (q := 76) rfl rfl rfl xS_479 (Nat.le_of_ble_eq_true rfl) rfl (hR.1 479 1 rfl) ?_
      refine xx_iconst (q := 77) rfl rfl (by decide) ?_
      refine xx_aload_n (q := 78) rfl rfl rfl ?_
      refine xx_getR (q := 81) rfl rfl rfl xS_479 (Nat.le_of_ble_eq_true rfl) rfl (hR.1 479 1 rfl) ?_
      refine xx_iconst (q := 82) rfl rfl (by decide) ?_
      refine xx_iaz (v := K 0 2) (q := 83) rfl rfl xS_480 (by omega) (by omega) (rv_s hV) ?_
      refine xx_iload_n (q := 84) rfl rfl rfl ?_
      refine xx_iadd (q := 85) rfl rfl ?_
      refine xr_isz (RV t (xui K 0 2 (nrm ((K 0 2) + on))) b B U D0) (q := 86) rfl rfl xS_480 (by omega) (by omega) (rs_s hV) (fun D5 hV5 => ?_)
      have hs5 : (xui K 0 2 (nrm ((K 0 2) + on))) 0 2 = (nrm ((K 0 2) + on)) := xui_s
      have hI5 : KI (xui K 0 2 (nrm ((K 0 2) + on))) := KI_up hI (nrm_lo _) (nrm_hi _)
      obtain rfl : on = 0 := by omega
      rw [comeL_0 k K pool hI]
      exact xx_vret rfl rfl ⟨rfl, _, rfl, hV5⟩
    · obtain ⟨k, rfl⟩ : ∃ k2, k = k2 + 1 := ⟨k - 1, by omega⟩
      have hmn := mnF_sp (K 1 pool.toNat + on) 999
      refine xx_aload_n (q := 19) rfl rfl rfl ?_
      refine xx_iload (q := 21) rfl rfl rfl ?_
      refine xx_callV (q := 24) (As := [_]) (rest := []) rfl rfl rfl (Or.inl rfl) rfl rfl (Nat.le_of_ble_eq_true rfl) xS_479 (XCm (r_depthOf hR hV hI pool (by omega) (by omega)) rfl) rfl ?_
      have hb6 := ki_1 hI (pool).toNat
      refine xx_iload_n (q := 25) rfl rfl rfl ?_
      refine xx_iaddR (q := 26) rfl rfl (by omega) (by omega) ?_
      refine xx_istore (q := 28) (loc2 := [_, _, _, _, _, _]) rfl rfl (Nat.le_of_ble_eq_true rfl) rfl ?_
      refine xx_iload (q := 30) rfl rfl rfl ?_
      refine xx_sipush (q := 33) rfl rfl (by decide) ?_
      refine xx_icmp_le (q := 45) (q2 := 36) rfl rfl rfl (fun h33 => ?_) (fun h33 => ?_)
      · refine xx_iconst (q := 46) rfl rfl (by decide) ?_
        refine xx_istore_n (q := 47) (loc2 := [_, _, _, _, _, _]) rfl rfl (Nat.le_of_ble_eq_true rfl) rfl ?_
        refine xx_aload_n (q := 48) rfl rfl rfl ?_
        refine xx_getR (q := 51) rfl rfl rfl xS_479 (Nat.le_of_ble_eq_true rfl) rfl (hR.1 479 1 rfl) ?_
        refine xx_iconst (q := 52) rfl rfl (by decide) ?_
        refine xx_iload (q := 54) rfl rfl rfl ?_
        refine xx_iaddR (q := 55) rfl rfl (by omega) (by omega) ?_
        refine xx_iload (q := 57) rfl rfl rfl ?_
        refine xx_iload_n (q := 58) rfl rfl rfl ?_
        refine xx_isubR (q := 59) rfl rfl (by omega) (by omega) ?_
        refine xx_bipush (q := 61) rfl rfl (by decide) ?_
        refine xx_isubR (q := 62) rfl rfl (by omega) (by omega) ?_
        refine xr_isz (RV t (xui K 1 (pool).toNat (mnF (K 1 pool.toNat + on) 999)) b B U D0) (q := 63) rfl rfl xS_480 (by omega) (by omega) (rs_1 (v := mnF (K 1 pool.toNat + on) 999) (p := pool) hV hI (by omega) (by omega) (by omega)) (fun D8 hV8 => ?_)
        have hs8 : (xui K 1 (pool).toNat (mnF (K 1 pool.toNat + on) 999)) 1 (pool).toNat = (mnF (K 1 pool.toNat + on) 999) := xui_s
        have hI8 : KI (xui K 1 (pool).toNat (mnF (K 1 pool.toNat + on) 999)) := KI_up hI (show (0 : Int) ≤ _ by omega) (show _ ≤ (999 : Int) by omega)
        refine xx_iload (q := 65) rfl rfl rfl ?_
        refine xx_iconst (q := 66) rfl rfl (by decide) ?_
        refine xx_iaddR (q := 67) rfl rfl (by omega) (by omega) ?_
        refine xx_istore (q := 69) (loc2 := [_, _, _, _, _, _]) rfl rfl (Nat.le_of_ble_eq_true rfl) rfl ?_
        refine xx_goto (q := 5) rfl rfl ?_
        have e : comeL (k + 1) K pool on = comeL k (xui K 1 (pool).toNat (mnF (K 1 pool.toNat + on) 999)) (pool + 1) 0 := by rw [show 0 = K 1 pool.toNat + on - mnF (K 1 pool.toNat + on) 999 by omega]; rfl
        rw [e]
        exact ih k (by omega) _ _ _ _ _ hV8 hI8 (by omega) (by omega) (by omega) (show _ + _ = K 0 0 + 1 by omega)
      · refine xx_iload (q := 38) rfl rfl rfl ?_
        refine xx_sipush (q := 41) rfl rfl (by decide) ?_
        refine xx_isubR (q := 42) rfl rfl (by omega) (by omega) ?_
        refine xx_goto (q := 46) rfl rfl ?_
        refine xx_istore_n (q := 47) (loc2 := [_, _, _, _, _, _]) rfl rfl (Nat.le_of_ble_eq_true rfl) rfl ?_
        refine xx_aload_n (q := 48) rfl rfl rfl ?_
        refine xx_getR (q := 51) rfl rfl rfl xS_479 (Nat.le_of_ble_eq_true rfl) rfl (hR.1 479 1 rfl) ?_
        refine xx_iconst (q := 52) rfl rfl (by decide) ?_
        refine xx_iload (q := 54) rfl rfl rfl ?_
        refine xx_iaddR (q := 55) rfl rfl (by omega) (by omega) ?_
        refine xx_iload (q := 57) rfl rfl rfl ?_
        refine xx_iload_n (q := 58) rfl rfl rfl ?_
        refine xx_isubR (q := 59) rfl rfl (by omega) (by omega) ?_
        refine xx_bipush (q := 61) rfl rfl (by decide) ?_
        refine xx_isubR (q := 62) rfl rfl (by omega) (by omega) ?_
        refine xr_isz (RV t (xui K 1 (pool).toNat (mnF (K 1 pool.toNat + on) 999)) b B U D0) (q := 63) rfl rfl xS_480 (by omega) (by omega) (rs_1 (v := mnF (K 1 pool.toNat + on) 999) (p := pool) hV hI (by omega) (by omega) (by omega)) (fun D10 hV10 => ?_)
        have hs10 : (xui K 1 (pool).toNat (mnF (K 1 pool.toNat + on) 999)) 1 (pool).toNat = (mnF (K 1 pool.toNat + on) 999) := xui_s
        have hI10 : KI (xui K 1 (pool).toNat (mnF (K 1 pool.toNat + on) 999)) := KI_up hI (show (0 : Int) ≤ _ by omega) (show _ ≤ (999 : Int) by omega)
        refine xx_iload (q := 65) rfl rfl rfl ?_
        refine xx_iconst (q := 66) rfl rfl (by decide) ?_
        refine xx_iaddR (q := 67) rfl rfl (by omega) (by omega) ?_
        refine xx_istore (q := 69) (loc2 := [_, _, _, _, _, _]) rfl rfl (Nat.le_of_ble_eq_true rfl) rfl ?_
        refine xx_goto (q := 5) rfl rfl ?_
        have e : comeL (k + 1) K pool on = comeL k (xui K 1 (pool).toNat (mnF (K 1 pool.toNat + on) 999)) (pool + 1) (((K 1 (pool).toNat) + on) - 999) := by rw [show (((K 1 (pool).toNat) + on) - 999) = K 1 pool.toNat + on - mnF (K 1 pool.toNat + on) 999 by omega]; rfl
        rw [e]
        exact ih k (by omega) _ _ _ _ _ hV10 hI10 (by omega) (by omega) (by omega) (show _ + _ = K 0 0 + 1 by omega)
set_option maxHeartbeats 1000000 in
theorem r_pours {n : Nat} {R : Nat → Nat → Option Nat} {t : Int} {K D0 D : KK} {b : Int} {B : Nat → Int} {U : UU} (hR : RF R) (hV : RV t K b B U D0 D) (hI : KI K) (f a : Int) (h0 : 0 ≤ f) (h1 : f ≤ K 0 0 + 1) (h2 : 0 ≤ a) (h3 : a ≤ 3000) : ∃ D', XC 2 228 [.inr (some 479), .inl f, .inl a] (xS n, R, D) none (xS n, R, D') ∧ RV t (comeF K f a) b B U D0 D' := by
  refine XE_of (Nat.le_of_ble_eq_true rfl) (Nat.le_of_ble_eq_true rfl) (loc := [_, _, _, _, _, _]) rfl ?_
  refine xx_iload_n (q := 1) rfl rfl rfl ?_
  refine xx_istore_n (q := 2) (loc2 := [_, _, _, _, _, _]) rfl rfl (Nat.le_of_ble_eq_true rfl) rfl ?_
  refine xx_iload_n (q := 3) rfl rfl rfl ?_
  refine xx_istore (q := 5) (loc2 := [_, _, _, _, _, _]) rfl rfl (Nat.le_of_ble_eq_true rfl) rfl ?_
  exact r_pour_L hR f a _ K D f a _ hV hI h0 h2 h3 (by omega)
set_option maxHeartbeats 1000000 in
theorem r_flows {n : Nat} {R : Nat → Nat → Option Nat} {t : Int} {K D0 D : KK} {b : Int} {B : Nat → Int} {U : UU} (hR : RF R) (hV : RV t K b B U D0 D) (hI : KI K) (lock a : Int) (h0 : 0 ≤ lock) (h1 : lock < K 0 0) (h2 : 0 ≤ a) (h3 : a ≤ K 1 lock.toNat) (h4 : a ≤ 3000) : ∃ D', XC 3 229 [.inr (some 479), .inl lock, .inl a] (xS n, R, D) none (xS n, R, D') ∧ RV t (flowF K lock a) b B U D0 D' := by
  have hbL := ki_L hI
  have hbD := ki_1 hI lock.toNat
  refine XE_of (Nat.le_of_ble_eq_true rfl) (Nat.le_of_ble_eq_true rfl) (loc := [_, _, _]) rfl ?_
  refine xx_aload_n (q := 1) rfl rfl rfl ?_
  refine xx_getR (q := 4) rfl rfl rfl xS_479 (Nat.le_of_ble_eq_true rfl) rfl (hR.1 479 1 rfl) ?_
  refine xx_iconst (q := 5) rfl rfl (by decide) ?_
  refine xx_iload_n (q := 6) rfl rfl rfl ?_
  refine xx_iaddR (q := 7) rfl rfl (by omega) (by omega) ?_
  refine xx_aload_n (q := 8) rfl rfl rfl ?_
  refine xx_getR (q := 11) rfl rfl rfl xS_479 (Nat.le_of_ble_eq_true rfl) rfl (hR.1 479 1 rfl) ?_
  refine xx_iconst (q := 12) rfl rfl (by decide) ?_
  refine xx_iload_n (q := 13) rfl rfl rfl ?_
  refine xx_iaddR (q := 14) rfl rfl (by omega) (by omega) ?_
  refine xx_iaz (v := K 1 (lock).toNat - 100) (q := 15) rfl rfl xS_480 (by omega) (by omega) (rv_1 hV (p := lock) (by omega) (by omega)) ?_
  have hb1 : 0 ≤ K 1 (lock).toNat ∧ K 1 (lock).toNat ≤ 999 := by have h := ki_1 hI (lock).toNat; exact h
  refine xx_iload_n (q := 16) rfl rfl rfl ?_
  refine xx_isubR (q := 17) rfl rfl (by omega) (by omega) ?_
  refine xr_isz (RV t (xui K 1 (lock).toNat (K 1 lock.toNat - a)) b B U D0) (q := 18) rfl rfl xS_480 (by omega) (by omega) (rs_1 (v := K 1 lock.toNat - a) (p := lock) hV hI (by omega) (by omega) (by omega)) (fun D3 hV3 => ?_)
  have hs3 : (xui K 1 (lock).toNat (K 1 lock.toNat - a)) 1 (lock).toNat = (K 1 lock.toNat - a) := xui_s
  have hI3 : KI (xui K 1 (lock).toNat (K 1 lock.toNat - a)) := KI_up hI (show (0 : Int) ≤ _ by omega) (show _ ≤ (999 : Int) by omega)
  refine xx_aload_n (q := 19) rfl rfl rfl ?_
  refine xx_iload_n (q := 20) rfl rfl rfl ?_
  refine xx_iconst (q := 21) rfl rfl (by decide) ?_
  refine xx_iaddR (q := 22) rfl rfl (by omega) (by omega) ?_
  refine xx_iload_n (q := 23) rfl rfl rfl ?_
  have hL4 : (xui K 1 (lock).toNat (K 1 lock.toNat - a)) 0 0 = K 0 0 := rfl
  have hL5 : (xui K 1 (lock).toNat (K 1 lock.toNat - a)) 13 0 = K 13 0 := rfl
  obtain ⟨D6, hx6, hV6⟩ := r_pours (n := n) hR hV3 hI3 (lock + 1) a (by omega) (by omega) (by omega) (by omega)
  have hI6 : KI (comeF (xui K 1 (lock).toNat (K 1 lock.toNat - a)) (lock + 1) a) := comeF_I hI3 (by omega)
  refine xx_callV (q := 26) (As := [_, _]) (rest := []) rfl rfl rfl (Or.inl rfl) rfl rfl (Nat.le_of_ble_eq_true rfl) xS_479 (XCm hx6 rfl) rfl ?_
  refine xx_vret rfl rfl ⟨rfl, _, rfl, ?_⟩
  exact hV6
set_option maxHeartbeats 1000000 in
theorem r_likes {n : Nat} {R : Nat → Nat → Option Nat} {t : Int} {K D0 D : KK} {b : Int} {B : Nat → Int} {U : UU} (hR : RF R) (hV : RV t K b B U D0 D) (hI : KI K) (lock boat more : Int) (h0 : 0 ≤ lock) (h1 : lock < 9) (h2 : 0 ≤ boat) (h3 : boat < 6) (h4 : -1000 ≤ more) (h5 : more ≤ 1000) : ∃ D', XC 2 241 [.inr (some 479), .inl lock, .inl boat, .inl more] (xS n, R, D) none (xS n, R, D') ∧ RV t (lkmF K lock boat more) b B U D0 D' := by
  have hbK := ki_12 hI (lock * 6 + boat).toNat
  refine XE_of (Nat.le_of_ble_eq_true rfl) (Nat.le_of_ble_eq_true rfl) (loc := [_, _, _, _]) rfl ?_
  refine xx_aload_n (q := 1) rfl rfl rfl ?_
  refine xx_getR (q := 4) rfl rfl rfl xS_479 (Nat.le_of_ble_eq_true rfl) rfl (hR.1 479 1 rfl) ?_
  refine xx_bipush (q := 6) rfl rfl (by decide) ?_
  refine xx_bipush (q := 8) rfl rfl (by decide) ?_
  refine xx_iload_n (q := 9) rfl rfl rfl ?_
  refine xx_imulR (q := 10) rfl rfl (by omega) (by omega) ?_
  refine xx_iaddR (q := 11) rfl rfl (by omega) (by omega) ?_
  refine xx_iload_n (q := 12) rfl rfl rfl ?_
  refine xx_iaddR (q := 13) rfl rfl (by omega) (by omega) ?_
  refine xx_aload_n (q := 14) rfl rfl rfl ?_
  refine xx_aload_n (q := 15) rfl rfl rfl ?_
  refine xx_iload_n (q := 16) rfl rfl rfl ?_
  refine xx_iload_n (q := 17) rfl rfl rfl ?_
  refine xx_callV (q := 20) (As := [_, _]) (rest := [_, _, _]) rfl rfl rfl (Or.inl rfl) rfl rfl (Nat.le_of_ble_eq_true rfl) xS_479 (XCm (r_likingOf (n := n) hR hV hI lock boat (by omega) (by omega) (by omega) (by omega)) rfl) rfl ?_
  have hb1 := ki_12 hI (lock * 6 + boat).toNat
  refine xx_iload_n (q := 21) rfl rfl rfl ?_
  refine xx_iaddR (q := 22) rfl rfl (by omega) (by omega) ?_
  refine xx_bipush (q := 24) rfl rfl (by decide) ?_
  refine xx_bipush (q := 26) rfl rfl (by decide) ?_
  refine xx_callV (q := 29) (As := [_, _, _]) (rest := [_, _]) rfl rfl rfl (Or.inl rfl) rfl rfl (Nat.le_of_ble_eq_true rfl) xS_479 (XCm (r_held ((K 12 (lock * 6 + boat).toNat) + more)) rfl) rfl ?_
  have hb2 := hld_b ((K 12 (lock * 6 + boat).toNat) + more)
  refine xr_isz (RV t (xui K 12 (lock * 6 + boat).toNat (hld ((K 12 (lock * 6 + boat).toNat) + more))) b B U D0) (q := 30) rfl rfl xS_480 (by omega) (by omega) (rs_12 (v := hld ((K 12 (lock * 6 + boat).toNat) + more)) (l := lock) (c := boat) hV hI (by omega) (by omega) (by omega) (by omega) (by rfl)) (fun D4 hV4 => ?_)
  have hs4 : (xui K 12 (lock * 6 + boat).toNat (hld ((K 12 (lock * 6 + boat).toNat) + more))) 12 (lock * 6 + boat).toNat = (hld ((K 12 (lock * 6 + boat).toNat) + more)) := xui_s
  have hI4 : KI (xui K 12 (lock * 6 + boat).toNat (hld ((K 12 (lock * 6 + boat).toNat) + more))) := KI_up hI (show (-99 : Int) ≤ _ by omega) (show _ ≤ (99 : Int) by omega)
  refine xx_vret rfl rfl ⟨rfl, _, rfl, ?_⟩
  exact hV4
