/-! Hearsay by its names; a boat more: the class. -/
def YH18 (D E : KK) : Prop := ∀ x k, (x < 18 ∨ 22 ≤ x) → E x k = D x k
def addY (Y : YY) (p h v : Int) : YY := (Y.1 + 1, fset Y.2.1 Y.1.toNat p, fset Y.2.2.1 Y.1.toNat h, fset Y.2.2.2 Y.1.toNat v)
def sadP (K : KK) (Y : YY) (p h v : Int) : Prop := ((0 ≤ p ∧ p ≤ K 0 0) ∧ (0 ≤ h ∧ h ≤ 1) ∧ (0 ≤ v ∧ v ≤ 999)) ∧ Y.1 < 12
set_option maxHeartbeats 1000000 in
theorem c_yadd {n : Nat} {R : Nat → Nat → Option Nat} {D : KK} {Y : YY} (hR : RF R) (hC : YC Y D) (hY : YI Y) (p h v : Int) : ∃ D', XC 1 44 [.inr (some 18), .inl p, .inl h, .inl v] (xS n, R, D) (some (.inl (if Y.1 < 12 then Y.1 + 1 else -1))) (xS n, R, D') ∧ YC (if Y.1 < 12 then addY Y p h v else Y) D' ∧ YH18 D D' := by
  have hy1 := hY.1
  refine XE_of (Nat.le_of_ble_eq_true rfl) (Nat.le_of_ble_eq_true rfl) (loc := [_, _, _, _]) rfl ?_
  refine xx_aload_n (q := 1) rfl rfl rfl ?_
  refine xx_gez (q := 4) rfl rfl rfl xS_18 (Nat.le_of_ble_eq_true rfl) rfl hC.1 ?_
  refine xx_bipush (q := 6) rfl rfl (by decide) ?_
  refine xx_icmp_lt (q := 11) (q2 := 9) rfl rfl rfl (fun h6 => ?_) (fun h6 => ?_)
  · refine xx_aload_n (q := 12) rfl rfl rfl ?_
    refine xx_getR (q := 15) rfl rfl rfl xS_18 (Nat.le_of_ble_eq_true rfl) rfl (hR.1 18 1 rfl) ?_
    refine xx_aload_n (q := 16) rfl rfl rfl ?_
    refine xx_gez (q := 19) rfl rfl rfl xS_18 (Nat.le_of_ble_eq_true rfl) rfl hC.1 ?_
    refine xx_iload_n (q := 20) rfl rfl rfl ?_
    refine xx_isz (q := 21) rfl rfl xS_19 (by omega) (by omega) rfl ?_
    refine xx_aload_n (q := 22) rfl rfl rfl ?_
    refine xx_getR (q := 25) rfl rfl rfl xS_18 (Nat.le_of_ble_eq_true rfl) rfl (hR.1 18 2 rfl) ?_
    refine xx_aload_n (q := 26) rfl rfl rfl ?_
    refine xx_gez (q := 29) rfl rfl rfl xS_18 (Nat.le_of_ble_eq_true rfl) rfl hC.1 ?_
    refine xx_iload_n (q := 30) rfl rfl rfl ?_
    refine xx_isz (q := 31) rfl rfl xS_20 (by omega) (by omega) rfl ?_
    refine xx_aload_n (q := 32) rfl rfl rfl ?_
    refine xx_getR (q := 35) rfl rfl rfl xS_18 (Nat.le_of_ble_eq_true rfl) rfl (hR.1 18 3 rfl) ?_
    refine xx_aload_n (q := 36) rfl rfl rfl ?_
    refine xx_gez (q := 39) rfl rfl rfl xS_18 (Nat.le_of_ble_eq_true rfl) rfl hC.1 ?_
    refine xx_iload_n (q := 40) rfl rfl rfl ?_
    refine xx_isz (q := 41) rfl rfl xS_21 (by omega) (by omega) rfl ?_
    refine xx_aload_n (q := 42) rfl rfl rfl ?_
    refine xx_dup (q := 43) rfl rfl ?_
    refine xx_gez (q := 46) rfl rfl rfl xS_18 (Nat.le_of_ble_eq_true rfl) rfl hC.1 ?_
    refine xx_iconst (q := 47) rfl rfl (by decide) ?_
    refine xx_iaddR (q := 48) rfl rfl (by omega) (by omega) ?_
    refine xx_puz (q := 51) rfl rfl rfl xS_18 (Nat.le_of_ble_eq_true rfl) (Nat.le_of_ble_eq_true rfl) (fun h => by cases h) (Or.inl rfl) rfl ?_
    refine xx_aload_n (q := 52) rfl rfl rfl ?_
    refine xx_gez (q := 55) rfl rfl rfl xS_18 (Nat.le_of_ble_eq_true rfl) rfl xui_s ?_
    refine xx_iret rfl trivial ⟨congrArg (fun z => some (Sum.inl z)) (by rw [if_pos (by omega)]), _, rfl, ?_⟩
    rw [if_pos (by omega)]
    refine ⟨⟨xui_s, fun i hi => ?_⟩, fun x k hx => (xui_a (by omega)).trans ((xui_a (by omega)).trans ((xui_a (by omega)).trans (xui_a (by omega))))⟩
    have hi2 : (i : Int) < Y.1 + 1 := hi
    rcases Classical.em ((i : Int) = Y.1) with e | e
    · have e2 : Y.1.toNat = i := by omega
      refine ⟨?_, ?_, ?_⟩
      · show (xui D 19 Y.1.toNat p) 19 i = fset _ _ _ _
        rw [e2, xui_s, fset_s]
      · show (xui (xui D 19 Y.1.toNat p) 20 Y.1.toNat h) 20 i = fset _ _ _ _
        rw [e2, xui_s, fset_s]
      · show (xui (xui (xui D 19 Y.1.toNat p) 20 Y.1.toNat h) 21 Y.1.toNat v) 21 i = fset _ _ _ _
        rw [e2, xui_s, fset_s]
    · have hy := hC.2 i (by omega)
      have e2 : ¬ i = Y.1.toNat := by omega
      refine ⟨?_, ?_, ?_⟩
      · show (xui D 19 Y.1.toNat p) 19 i = fset _ _ _ _
        rw [xui_j e2, fset_n e2]; exact hy.1
      · show (xui (xui D 19 Y.1.toNat p) 20 Y.1.toNat h) 20 i = fset _ _ _ _
        rw [xui_j e2, fset_n e2]; exact hy.2.1
      · show (xui (xui (xui D 19 Y.1.toNat p) 20 Y.1.toNat h) 21 Y.1.toNat v) 21 i = fset _ _ _ _
        rw [xui_j e2, fset_n e2]; exact hy.2.2
  · refine xx_iconst (q := 10) rfl rfl (by decide) ?_
    refine xx_iret rfl trivial ⟨congrArg (fun z => some (Sum.inl z)) (by rw [if_neg (by omega)]), _, rfl, ?_⟩
    rw [if_neg (by omega)]
    exact ⟨hC, fun _ _ _ => rfl⟩
def sadF (K : KK) (Y : YY) (p h v : Int) : Int := if p = -1 then 0 else if ¬ ((0 ≤ p ∧ p ≤ K 0 0) ∧ (0 ≤ h ∧ h ≤ 1) ∧ (0 ≤ v ∧ v ≤ 999)) then -1 else if Y.1 < 12 then Y.1 + 1 else -1
def sadY (K : KK) (Y : YY) (p h v : Int) : YY := if p = -1 then (0, Y.2) else if ¬ ((0 ≤ p ∧ p ≤ K 0 0) ∧ (0 ≤ h ∧ h ≤ 1) ∧ (0 ≤ v ∧ v ≤ 999)) then Y else if Y.1 < 12 then addY Y p h v else Y
theorem sadY_I {K : KK} {Y : YY} {p h v : Int} (hY : YI Y) : YI (sadY K Y p h v) := by
  unfold sadY
  split
  · exact ⟨⟨Int.le_refl _, by show (0 : Int) ≤ 12; omega⟩, hY.2⟩
  · split
    · exact hY
    · next q =>
      have q2 := Classical.not_not.mp q
      split
      · refine ⟨⟨by show 0 ≤ Y.1 + 1; have := hY.1; omega, by show Y.1 + 1 ≤ 12; omega⟩, fun i => ?_⟩
        show 0 ≤ fset Y.2.2.2 Y.1.toNat v i ∧ fset Y.2.2.2 Y.1.toNat v i ≤ 999
        unfold fset
        split
        · exact q2.2.2
        · exact hY.2 i
      · exact hY
set_option maxHeartbeats 2000000 in
theorem c_said {n : Nat} {R : Nat → Nat → Option Nat} {D K : KK} (hR : RF R) (hK : CK 27 K D) (hI : KI K) {Y : YY} (hC : YC Y D) (hY : YI Y) (p h v : Int) : ∃ D', XC 2 139 [.inr (some 5), .inl p, .inl h, .inl v] (xS n, R, D) (some (.inl (sadF K Y p h v))) (xS n, R, D') ∧ YC (sadY K Y p h v) D' ∧ YH18 D D' := by
  refine XE_of (Nat.le_of_ble_eq_true rfl) (Nat.le_of_ble_eq_true rfl) (loc := [_, _, _, _, _, _]) rfl ?_
  refine xx_aload_n (q := 1) rfl rfl rfl ?_
  refine xx_getR (q := 4) rfl rfl rfl xS_5 (Nat.le_of_ble_eq_true rfl) rfl (hR.1 5 0 rfl) ?_
  refine xx_getR (q := 7) rfl rfl rfl xS_6 (Nat.le_of_ble_eq_true rfl) rfl (hR.1 6 3 rfl) ?_
  refine xx_astore (q := 9) (loc2 := [_, _, _, _, _, _]) rfl rfl (Nat.le_of_ble_eq_true rfl) rfl ?_
  refine xx_iload_n (q := 10) rfl rfl rfl ?_
  refine xx_iconst (q := 11) rfl rfl (by decide) ?_
  refine xx_icmp_ne (q := 22) (q2 := 14) rfl rfl rfl (fun h11 => ?_) (fun h11 => ?_)
  · refine xx_aload_n (q := 23) rfl rfl rfl ?_
    refine xx_getR (q := 26) rfl rfl rfl xS_5 (Nat.le_of_ble_eq_true rfl) rfl (hR.1 5 0 rfl) ?_
    refine xx_getR (q := 29) rfl rfl rfl xS_6 (Nat.le_of_ble_eq_true rfl) rfl (hR.1 6 5 rfl) ?_
    refine xx_iload_n (q := 30) rfl rfl rfl ?_
    refine xx_callV (q := 33) (As := [_]) (rest := []) rfl rfl rfl (Or.inl rfl) rfl rfl (Nat.le_of_ble_eq_true rfl) (xSc_0 isC_27) (XCm (c_hasPool hR isC_27 hK hI p) rfl) rfl ?_
    refine xx_ifb_eq (q := 60) (q2 := 36) rfl rfl rfl (fun h33 => ?_) (fun h33 => ?_)
    · refine xx_iconst (q := 61) rfl rfl (by decide) ?_
      refine xx_istore (q := 63) (loc2 := [_, _, _, _, _, _]) rfl rfl (Nat.le_of_ble_eq_true rfl) rfl ?_
      refine xx_iload (q := 65) rfl rfl rfl ?_
      refine xx_if_eq (q := 79) (q2 := 68) rfl rfl rfl (fun _ => ?_) (fun h65 => (by exfalso; omega))
      refine xx_iconst (q := 80) rfl rfl (by decide) ?_
      refine xx_iret rfl trivial ⟨congrArg (fun z => some (Sum.inl z)) (by unfold sadF; rw [if_neg h11, if_pos (by omega)]), _, rfl, ?_⟩
      unfold sadY
      rw [if_neg h11, if_pos (by omega)]
      exact ⟨hC, fun _ _ _ => rfl⟩
    · refine xx_iload_n (q := 37) rfl rfl rfl ?_
      refine xx_iconst (q := 38) rfl rfl (by decide) ?_
      refine xx_iconst (q := 39) rfl rfl (by decide) ?_
      refine xx_callS (q := 42) (As := [_, _, _]) (rest := []) rfl rfl rfl (Or.inl rfl) rfl rfl (Nat.le_of_ble_eq_true rfl) (XCm (c_within h 0 1) rfl) rfl ?_
      refine xx_ifb_eq (q := 60) (q2 := 45) rfl rfl rfl (fun h42 => ?_) (fun h42 => ?_)
      · refine xx_iconst (q := 61) rfl rfl (by decide) ?_
        refine xx_istore (q := 63) (loc2 := [_, _, _, _, _, _]) rfl rfl (Nat.le_of_ble_eq_true rfl) rfl ?_
        refine xx_iload (q := 65) rfl rfl rfl ?_
        refine xx_if_eq (q := 79) (q2 := 68) rfl rfl rfl (fun _ => ?_) (fun h65 => (by exfalso; omega))
        refine xx_iconst (q := 80) rfl rfl (by decide) ?_
        refine xx_iret rfl trivial ⟨congrArg (fun z => some (Sum.inl z)) (by unfold sadF; rw [if_neg h11, if_pos (by omega)]), _, rfl, ?_⟩
        unfold sadY
        rw [if_neg h11, if_pos (by omega)]
        exact ⟨hC, fun _ _ _ => rfl⟩
      · refine xx_iload_n (q := 46) rfl rfl rfl ?_
        refine xx_iconst (q := 47) rfl rfl (by decide) ?_
        refine xx_sipush (q := 50) rfl rfl (by decide) ?_
        refine xx_callS (q := 53) (As := [_, _, _]) (rest := []) rfl rfl rfl (Or.inl rfl) rfl rfl (Nat.le_of_ble_eq_true rfl) (XCm (c_within v 0 999) rfl) rfl ?_
        refine xx_ifb_eq (q := 60) (q2 := 56) rfl rfl rfl (fun h53 => ?_) (fun h53 => ?_)
        · refine xx_iconst (q := 61) rfl rfl (by decide) ?_
          refine xx_istore (q := 63) (loc2 := [_, _, _, _, _, _]) rfl rfl (Nat.le_of_ble_eq_true rfl) rfl ?_
          refine xx_iload (q := 65) rfl rfl rfl ?_
          refine xx_if_eq (q := 79) (q2 := 68) rfl rfl rfl (fun _ => ?_) (fun h65 => (by exfalso; omega))
          refine xx_iconst (q := 80) rfl rfl (by decide) ?_
          refine xx_iret rfl trivial ⟨congrArg (fun z => some (Sum.inl z)) (by unfold sadF; rw [if_neg h11, if_pos (by omega)]), _, rfl, ?_⟩
          unfold sadY
          rw [if_neg h11, if_pos (by omega)]
          exact ⟨hC, fun _ _ _ => rfl⟩
        · refine xx_iconst (q := 57) rfl rfl (by decide) ?_
          refine xx_goto (q := 61) rfl rfl ?_
          refine xx_istore (q := 63) (loc2 := [_, _, _, _, _, _]) rfl rfl (Nat.le_of_ble_eq_true rfl) rfl ?_
          refine xx_iload (q := 65) rfl rfl rfl ?_
          refine xx_if_eq (q := 79) (q2 := 68) rfl rfl rfl (fun h65 => (by exfalso; omega)) (fun _ => ?_)
          refine xx_aload (q := 70) rfl rfl rfl ?_
          refine xx_iload_n (q := 71) rfl rfl rfl ?_
          refine xx_iload_n (q := 72) rfl rfl rfl ?_
          refine xx_iload_n (q := 73) rfl rfl rfl ?_
          obtain ⟨D1, hx1, hY1, hF1⟩ := c_yadd (n := n) hR hC hY p h v
          refine xx_callV (q := 76) (As := [_, _, _]) (rest := []) rfl rfl rfl (Or.inl rfl) rfl rfl (Nat.le_of_ble_eq_true rfl) xS_18 (XCm hx1 rfl) rfl ?_
          refine xx_goto (q := 80) rfl rfl ?_
          refine xx_iret rfl trivial ⟨congrArg (fun z => some (Sum.inl z)) (by rw [show sadF K Y p h v = (if Y.1 < 12 then Y.1 + 1 else -1) from by unfold sadF; rw [if_neg h11, if_neg (fun q => q ⟨h33, h42, h53⟩)]]), _, rfl, ?_⟩
          unfold sadY
          rw [if_neg h11, if_neg (by omega)]
          exact ⟨hY1, hF1⟩
  · refine xx_aload (q := 16) rfl rfl rfl ?_
    refine xx_iconst (q := 17) rfl rfl (by decide) ?_
    refine xx_puz (q := 20) rfl rfl rfl xS_18 (Nat.le_of_ble_eq_true rfl) (Nat.le_of_ble_eq_true rfl) (fun h => by cases h) (Or.inl rfl) rfl ?_
    refine xx_iconst (q := 21) rfl rfl (by decide) ?_
    refine xx_iret rfl trivial ⟨congrArg (fun z => some (Sum.inl z)) (by exact (if_pos h11).symm), _, rfl, ?_⟩
    unfold sadY
    rw [if_pos h11]
    exact ⟨⟨xui_s, fun i hi => by exfalso; have : (i : Int) < 0 := hi; omega⟩, fun x k hx => xui_a (by omega)⟩
def rngA (K : KK) (Y : YY) (p w : Int) : Int := if ¬ ((0 ≤ p ∧ p ≤ K 0 0) ∧ (0 ≤ w ∧ w ≤ 1)) then -1 else rngE Y p (watF K) (w = 0) (rngL Y (K 0 0 + 1).toNat 0 0 0)
theorem rngE_c {Y : YY} {p all : Int} {a c : Prop} [Decidable a] [Decidable c] {o : Option (Int × Int)} (h : a ↔ c) : rngE Y p all a o = rngE Y p all c o := by
  unfold rngE
  cases o with
  | none => rfl
  | some r => simp only [h]
set_option maxHeartbeats 1000000 in
theorem c_range {n : Nat} {R : Nat → Nat → Option Nat} {D K : KK} (hR : RF R) (hK : CK 27 K D) (hI : KI K) {Y : YY} (hC : YC Y D) (hY : YI Y) (p w : Int) : XC 4 140 [.inr (some 5), .inl p, .inl w] (xS n, R, D) (some (.inl (rngA K Y p w))) (xS n, R, D) := by
  refine XC_of (Nat.le_of_ble_eq_true rfl) (Nat.le_of_ble_eq_true rfl) (loc := [_, _, _]) rfl ?_
  refine xx_aload_n (q := 1) rfl rfl rfl ?_
  refine xx_getR (q := 4) rfl rfl rfl xS_5 (Nat.le_of_ble_eq_true rfl) rfl (hR.1 5 0 rfl) ?_
  refine xx_getR (q := 7) rfl rfl rfl xS_6 (Nat.le_of_ble_eq_true rfl) rfl (hR.1 6 5 rfl) ?_
  refine xx_iload_n (q := 8) rfl rfl rfl ?_
  refine xx_callV (q := 11) (As := [_]) (rest := []) rfl rfl rfl (Or.inl rfl) rfl rfl (Nat.le_of_ble_eq_true rfl) (xSc_0 isC_27) (XCm (c_hasPool hR isC_27 hK hI p) rfl) rfl ?_
  refine xx_ifb_eq (q := 23) (q2 := 14) rfl rfl rfl (fun h11 => ?_) (fun h11 => ?_)
  · refine xx_iconst (q := 24) rfl rfl (by decide) ?_
    exact xx_iret rfl trivial ⟨congrArg (fun z => some (Sum.inl z)) (by unfold rngA; rw [if_pos (by omega)]), rfl⟩
  · refine xx_iload_n (q := 15) rfl rfl rfl ?_
    refine xx_iconst (q := 16) rfl rfl (by decide) ?_
    refine xx_iconst (q := 17) rfl rfl (by decide) ?_
    refine xx_callS (q := 20) (As := [_, _, _]) (rest := []) rfl rfl rfl (Or.inl rfl) rfl rfl (Nat.le_of_ble_eq_true rfl) (XCm (c_within w 0 1) rfl) rfl ?_
    refine xx_ifb_ne (q := 25) (q2 := 23) rfl rfl rfl (fun h20 => ?_) (fun h20 => ?_)
    · refine xx_aload_n (q := 26) rfl rfl rfl ?_
      refine xx_getR (q := 29) rfl rfl rfl xS_5 (Nat.le_of_ble_eq_true rfl) rfl (hR.1 5 0 rfl) ?_
      refine xx_getR (q := 32) rfl rfl rfl xS_6 (Nat.le_of_ble_eq_true rfl) rfl (hR.1 6 3 rfl) ?_
      refine xx_aload_n (q := 33) rfl rfl rfl ?_
      refine xx_getR (q := 36) rfl rfl rfl xS_5 (Nat.le_of_ble_eq_true rfl) rfl (hR.1 5 0 rfl) ?_
      refine xx_getR (q := 39) rfl rfl rfl xS_6 (Nat.le_of_ble_eq_true rfl) rfl (hR.1 6 5 rfl) ?_
      refine xx_iload_n (q := 40) rfl rfl rfl ?_
      refine xx_iload_n (q := 41) rfl rfl rfl ?_
      refine xx_if_ne (q := 48) (q2 := 44) rfl rfl rfl (fun h41 => ?_) (fun h41 => ?_)
      · refine xx_iconst (q := 49) rfl rfl (by decide) ?_
        refine xx_callV (q := 52) (As := [_, _, _]) (rest := []) rfl rfl rfl (Or.inl rfl) rfl rfl (Nat.le_of_ble_eq_true rfl) xS_18 (XCm (c_bound (n := n) hR hC hY hK hI p 0 (by omega)) rfl) rfl ?_
        exact xx_iret rfl trivial ⟨congrArg (fun z => some (Sum.inl z)) (by unfold rngA; rw [if_neg (by omega)]; exact rngE_c (by omega)), rfl⟩
      · refine xx_iconst (q := 45) rfl rfl (by decide) ?_
        refine xx_goto (q := 49) rfl rfl ?_
        refine xx_callV (q := 52) (As := [_, _, _]) (rest := []) rfl rfl rfl (Or.inl rfl) rfl rfl (Nat.le_of_ble_eq_true rfl) xS_18 (XCm (c_bound (n := n) hR hC hY hK hI p 1 (by omega)) rfl) rfl ?_
        exact xx_iret rfl trivial ⟨congrArg (fun z => some (Sum.inl z)) (by unfold rngA; rw [if_neg (by omega)]; exact rngE_c (by omega)), rfl⟩
    · refine xx_iconst (q := 24) rfl rfl (by decide) ?_
      exact xx_iret rfl trivial ⟨congrArg (fun z => some (Sum.inl z)) (by unfold rngA; rw [if_pos (by omega)]), rfl⟩
def telP (K : KK) (w p v : Int) : Prop := ((0 ≤ w ∧ w ≤ 1) ∧ (0 ≤ p ∧ p ≤ K 0 0)) ∧ (0 ≤ v ∧ v ≤ 999)
set_option maxHeartbeats 1000000 in
theorem c_putR {n N aa : Nat} {M : Int} {R : Nat → Nat → Option Nat} {D : KK} (hR : RF R) (hs : (xS n)[aa]? = some (0, N)) (hM : (N : Int) = M) (hN : N ≤ 1000) (idx v lo hi : Int) : ∃ D', XC 2 159 [.inr (some aa), .inl idx, .inl v, .inl lo, .inl hi] (xS n, R, D) (some (.inl (bi (putP M idx v lo hi)))) (xS n, R, D') ∧ D' = (if putP M idx v lo hi then xui D aa idx.toNat v else D) := by
  subst hM
  refine XE_of (Nat.le_of_ble_eq_true rfl) (Nat.le_of_ble_eq_true rfl) (loc := [_, _, _, _, _]) rfl ?_
  refine xx_iload_n (q := 1) rfl rfl rfl ?_
  refine xx_iconst (q := 2) rfl rfl (by decide) ?_
  refine xx_aload_n (q := 3) rfl rfl rfl ?_
  refine xx_alen (q := 4) rfl rfl hs (by decide) (by omega) ?_
  refine xx_iconst (q := 5) rfl rfl (by decide) ?_
  refine xx_isubR (q := 6) rfl rfl (by omega) (by omega) ?_
  refine xx_callS (q := 9) (As := [_, _, _]) (rest := []) rfl rfl rfl (Or.inl rfl) rfl rfl (Nat.le_of_ble_eq_true rfl) (XCm (c_within idx 0 (N - 1)) rfl) rfl ?_
  refine xx_ifb_eq (q := 22) (q2 := 12) rfl rfl rfl (fun h9 => ?_) (fun h9 => ?_)
  · refine xx_iconst (q := 23) rfl rfl (by decide) ?_
    exact xx_iret rfl (Or.inl rfl) ⟨congrArg (fun z => some (Sum.inl z)) (bi_f (fun q => h9 q.1)).symm, _, rfl, by rw [if_neg (fun q => h9 q.1)]⟩
  · refine xx_iload_n (q := 13) rfl rfl rfl ?_
    refine xx_iload_n (q := 14) rfl rfl rfl ?_
    refine xx_iload (q := 16) rfl rfl rfl ?_
    refine xx_callS (q := 19) (As := [_, _, _]) (rest := []) rfl rfl rfl (Or.inl rfl) rfl rfl (Nat.le_of_ble_eq_true rfl) (XCm (c_within v lo hi) rfl) rfl ?_
    refine xx_ifb_ne (q := 24) (q2 := 22) rfl rfl rfl (fun h19 => ?_) (fun h19 => ?_)
    · refine xx_aload_n (q := 25) rfl rfl rfl ?_
      refine xx_iload_n (q := 26) rfl rfl rfl ?_
      refine xx_iload_n (q := 27) rfl rfl rfl ?_
      refine xx_isz (q := 28) rfl rfl hs (by omega) (by omega) rfl ?_
      refine xx_iconst (q := 29) rfl rfl (by decide) ?_
      exact xx_iret rfl (Or.inr rfl) ⟨congrArg (fun z => some (Sum.inl z)) (bi_t ⟨h9, h19⟩).symm, _, rfl, by rw [if_pos ⟨h9, h19⟩]⟩
    · refine xx_iconst (q := 23) rfl rfl (by decide) ?_
      exact xx_iret rfl (Or.inl rfl) ⟨congrArg (fun z => some (Sum.inl z)) (bi_f (fun q => h19 q.2)).symm, _, rfl, by rw [if_neg (fun q => h19 q.2)]⟩
abbrev telQ (K : KK) (w p v : Int) : Prop := ((0 ≤ p ∧ p ≤ K 0 0) ∧ (0 ≤ w ∧ w ≤ 1)) ∧ (0 ≤ v ∧ v ≤ 999)
theorem putP_t {K : KK} {p v w : Int} (hI : KI K) (h : (0 ≤ p ∧ p ≤ K 0 0) ∧ (0 ≤ w ∧ w ≤ 1)) : putP 10 p v 0 999 ↔ telQ K w p v := by
  have := ki_L hI
  exact ⟨fun q => ⟨h, q.2⟩, fun q => ⟨⟨q.1.1.1, by omega⟩, q.2⟩⟩
theorem bi_c {a c : Prop} [Decidable a] [Decidable c] (h : a ↔ c) : bi a = bi c := by
  unfold bi
  simp only [h]
set_option maxHeartbeats 1000000 in
theorem c_tell {n : Nat} {R : Nat → Nat → Option Nat} {D K : KK} (hR : RF R) (hK : CK 27 K D) (hI : KI K) (w p v : Int) : ∃ D', XC 3 141 [.inr (some 5), .inl w, .inl p, .inl v] (xS n, R, D) (some (.inl (bi (telQ K w p v)))) (xS n, R, D') ∧ D' = (if telQ K w p v then xui D (if w = 0 then 22 else 23) p.toNat v else D) := by
  refine XE_of (Nat.le_of_ble_eq_true rfl) (Nat.le_of_ble_eq_true rfl) (loc := [_, _, _, _]) rfl ?_
  refine xx_aload_n (q := 1) rfl rfl rfl ?_
  refine xx_getR (q := 4) rfl rfl rfl xS_5 (Nat.le_of_ble_eq_true rfl) rfl (hR.1 5 0 rfl) ?_
  refine xx_getR (q := 7) rfl rfl rfl xS_6 (Nat.le_of_ble_eq_true rfl) rfl (hR.1 6 5 rfl) ?_
  refine xx_iload_n (q := 8) rfl rfl rfl ?_
  refine xx_callV (q := 11) (As := [_]) (rest := []) rfl rfl rfl (Or.inl rfl) rfl rfl (Nat.le_of_ble_eq_true rfl) (xSc_0 isC_27) (XCm (c_hasPool hR isC_27 hK hI p) rfl) rfl ?_
  refine xx_ifb_eq (q := 23) (q2 := 14) rfl rfl rfl (fun h11 => ?_) (fun h11 => ?_)
  · refine xx_iconst (q := 24) rfl rfl (by decide) ?_
    refine xx_iret rfl (Or.inl rfl) ⟨congrArg (fun z => some (Sum.inl z)) (by exact (bi_f (by omega)).symm), _, rfl, ?_⟩
    rw [if_neg (by omega)]
  · refine xx_iload_n (q := 15) rfl rfl rfl ?_
    refine xx_iconst (q := 16) rfl rfl (by decide) ?_
    refine xx_iconst (q := 17) rfl rfl (by decide) ?_
    refine xx_callS (q := 20) (As := [_, _, _]) (rest := []) rfl rfl rfl (Or.inl rfl) rfl rfl (Nat.le_of_ble_eq_true rfl) (XCm (c_within w 0 1) rfl) rfl ?_
    refine xx_ifb_ne (q := 25) (q2 := 23) rfl rfl rfl (fun h20 => ?_) (fun h20 => ?_)
    · refine xx_iload_n (q := 26) rfl rfl rfl ?_
      refine xx_if_ne (q := 42) (q2 := 29) rfl rfl rfl (fun h26 => ?_) (fun h26 => ?_)
      · refine xx_aload_n (q := 43) rfl rfl rfl ?_
        refine xx_getR (q := 46) rfl rfl rfl xS_5 (Nat.le_of_ble_eq_true rfl) rfl (hR.1 5 0 rfl) ?_
        refine xx_getR (q := 49) rfl rfl rfl xS_6 (Nat.le_of_ble_eq_true rfl) rfl (hR.1 6 3 rfl) ?_
        refine xx_getR (q := 52) rfl rfl rfl xS_18 (Nat.le_of_ble_eq_true rfl) rfl (hR.1 18 5 rfl) ?_
        refine xx_iload_n (q := 53) rfl rfl rfl ?_
        refine xx_iload_n (q := 54) rfl rfl rfl ?_
        refine xx_iconst (q := 55) rfl rfl (by decide) ?_
        refine xx_sipush (q := 58) rfl rfl (by decide) ?_
        obtain ⟨D1, hx1, hD1⟩ := c_putR (n := n) (D := D) (M := 10) hR xS_23 rfl (by decide) p v 0 999
        refine xx_callS (q := 61) (As := [_, _, _, _, _]) (rest := []) rfl rfl rfl (Or.inl rfl) rfl rfl (Nat.le_of_ble_eq_true rfl) (XCm hx1 rfl) rfl ?_
        refine xx_iret rfl (bi_01 _) ⟨congrArg (fun z => some (Sum.inl z)) (by exact bi_c (putP_t (w := w) (p := p) (v := v) hI ⟨h11, h20⟩)), _, rfl, ?_⟩
        rw [hD1]
        have hq := putP_t (w := w) (p := p) (v := v) hI ⟨h11, h20⟩
        rcases Classical.em (telQ K w p v) with q | q
        · rw [if_pos (hq.mpr q), if_pos q, if_neg h26]
        · rw [if_neg (fun r => q (hq.mp r)), if_neg q]
      · refine xx_aload_n (q := 30) rfl rfl rfl ?_
        refine xx_getR (q := 33) rfl rfl rfl xS_5 (Nat.le_of_ble_eq_true rfl) rfl (hR.1 5 0 rfl) ?_
        refine xx_getR (q := 36) rfl rfl rfl xS_6 (Nat.le_of_ble_eq_true rfl) rfl (hR.1 6 3 rfl) ?_
        refine xx_getR (q := 39) rfl rfl rfl xS_18 (Nat.le_of_ble_eq_true rfl) rfl (hR.1 18 4 rfl) ?_
        refine xx_goto (q := 52) rfl rfl ?_
        refine xx_iload_n (q := 53) rfl rfl rfl ?_
        refine xx_iload_n (q := 54) rfl rfl rfl ?_
        refine xx_iconst (q := 55) rfl rfl (by decide) ?_
        refine xx_sipush (q := 58) rfl rfl (by decide) ?_
        obtain ⟨D2, hx2, hD2⟩ := c_putR (n := n) (D := D) (M := 10) hR xS_22 rfl (by decide) p v 0 999
        refine xx_callS (q := 61) (As := [_, _, _, _, _]) (rest := []) rfl rfl rfl (Or.inl rfl) rfl rfl (Nat.le_of_ble_eq_true rfl) (XCm hx2 rfl) rfl ?_
        refine xx_iret rfl (bi_01 _) ⟨congrArg (fun z => some (Sum.inl z)) (by exact bi_c (putP_t (w := w) (p := p) (v := v) hI ⟨h11, h20⟩)), _, rfl, ?_⟩
        rw [hD2]
        have hq := putP_t (w := w) (p := p) (v := v) hI ⟨h11, h20⟩
        rcases Classical.em (telQ K w p v) with q | q
        · rw [if_pos (hq.mpr q), if_pos q, if_pos h26]
        · rw [if_neg (fun r => q (hq.mp r)), if_neg q]
    · refine xx_iconst (q := 24) rfl rfl (by decide) ?_
      refine xx_iret rfl (Or.inl rfl) ⟨congrArg (fun z => some (Sum.inl z)) (by exact (bi_f (by omega)).symm), _, rfl, ?_⟩
      rw [if_neg (by omega)]
abbrev botP (K : KK) (p d c : Int) : Prop := ((0 ≤ p ∧ p ≤ K 0 0) ∧ (1 ≤ d ∧ d ≤ 99) ∧ (1 ≤ c ∧ c ≤ 9)) ∧ K 13 0 < 6
def botW (K : KK) (p d c : Int) : KK := xui (xui (xui (xui K 14 (K 13 0).toNat p) 15 (K 13 0).toNat d) 16 (K 13 0).toNat c) 13 0 (K 13 0 + 1)
def botK (K : KK) (p d c : Int) : KK := if botP K p d c then botW K p d c else K
theorem botW_I {K : KK} {p d c : Int} (h : KI K) (hp : botP K p d c) : KI (botW K p d c) := by
  have hL := ki_L h
  have hB := ki_B h
  exact KI_up (KI_up (KI_up (KI_up h (show (0 : Int) ≤ p by omega) (show p ≤ (9 : Int) by omega)) (show (0 : Int) ≤ d by omega) (show d ≤ (99 : Int) by omega)) (show (0 : Int) ≤ c by omega) (show c ≤ (9 : Int) by omega)) (show (0 : Int) ≤ _ by omega) (show _ ≤ (6 : Int) by omega)
theorem CK_bot {K D : KK} {p d c : Int} (h : CK 27 K D) (h0 : 0 ≤ K 13 0) : CK 27 (botW K p d c) (xui (xui (xui (xui D (27 + 14) (K 13 0).toNat p) (27 + 15) (K 13 0).toNat d) (27 + 16) (K 13 0).toNat c) (27 + 13) 0 (K 13 0 + 1)) := by
  intro o k hk
  have e13 : (botW K p d c) 13 0 = K 13 0 + 1 := xui_s
  rcases Classical.em (o = 14) with rfl | q
  · have hk2 : k < (K 13 0 + 1).toNat := by
      have : k < ((botW K p d c) 13 0).toNat := hk
      rw [e13] at this
      exact this
    show xui (xui (xui (xui D 41 (K 13 0).toNat p) 42 (K 13 0).toNat d) 43 (K 13 0).toNat c) 40 0 (K 13 0 + 1) 41 k = _
    refine ((xui_a (by omega)).trans ((xui_a (by omega)).trans (xui_a (by omega)))).trans ?_
    show _ = xui (xui (xui (xui K 14 (K 13 0).toNat p) 15 (K 13 0).toNat d) 16 (K 13 0).toNat c) 13 0 (K 13 0 + 1) 14 k
    refine Eq.trans ?_ ((xui_a (by omega)).trans ((xui_a (by omega)).trans (xui_a (by omega)))).symm
    rcases Classical.em (k = (K 13 0).toNat) with rfl | r
    · rw [xui_s, xui_s]
    · rw [xui_j r, xui_j r]
      exact h 14 k (show k < (K 13 0).toNat by omega)
  · have hk2 : k < cln K o := by
      have e : cln (botW K p d c) o = cln K o := by
        unfold cln
        split <;> first | rfl | (exact absurd rfl q)
      rw [e] at hk
      exact hk
    have hh := h o k hk2
    unfold botW xui
    simp only [hh]
    rcases Classical.em (o = 13) with r1 | r1
    · subst r1; simp; try (split <;> rfl)
    · rcases Classical.em (o = 15) with r2 | r2
      · subst r2; simp
      · rcases Classical.em (o = 16) with r3 | r3
        · subst r3; simp
        · have a1 : ¬ 27 + o = 27 + 13 := by omega
          have a2 : ¬ 27 + o = 27 + 16 := by omega
          have a3 : ¬ 27 + o = 27 + 15 := by omega
          have a4 : ¬ 27 + o = 27 + 14 := by omega
          simp [a1, a2, a3, a4, r1, r2, r3, q]
set_option maxHeartbeats 1000000 in
theorem c_badd {n : Nat} {R : Nat → Nat → Option Nat} {D K : KK} (hR : RF R) (hK : CK 27 K D) (hI : KI K) (p d c : Int) (h6 : K 13 0 < 6) : ∃ D', XC 1 32 [.inr (some (27 + 13)), .inl p, .inl d, .inl c] (xS n, R, D) (some (.inl (K 13 0))) (xS n, R, D') ∧ CK 27 (botW K p d c) D' ∧ Fr 27 D D' := by
  have hbB := ki_B hI
  refine XE_of (Nat.le_of_ble_eq_true rfl) (Nat.le_of_ble_eq_true rfl) (loc := [_, _, _, _, _]) rfl ?_
  refine xx_aload_n (q := 1) rfl rfl rfl ?_
  refine xx_gez (v := K 13 0) (q := 4) rfl rfl rfl (xSc_13 isC_27) (Nat.le_of_ble_eq_true rfl) rfl (hK 13 0 (Nat.le_of_ble_eq_true rfl)) ?_
  refine xx_istore (q := 6) (loc2 := [_, _, _, _, _]) rfl rfl (Nat.le_of_ble_eq_true rfl) rfl ?_
  refine xx_iload (q := 8) rfl rfl rfl ?_
  refine xx_bipush (q := 10) rfl rfl (by decide) ?_
  refine xx_icmp_lt (q := 15) (q2 := 13) rfl rfl rfl (fun _ => ?_) (fun h10 => (by exfalso; omega))
  refine xx_aload_n (q := 16) rfl rfl rfl ?_
  refine xx_getR (q := 19) rfl rfl rfl (xSc_13 isC_27) (Nat.le_of_ble_eq_true rfl) rfl (rc_where hR isC_27) ?_
  refine xx_iload (q := 21) rfl rfl rfl ?_
  refine xx_iload_n (q := 22) rfl rfl rfl ?_
  refine xx_isz (q := 23) rfl rfl (xSc_14 isC_27) (by omega) (by omega) rfl ?_
  refine xx_aload_n (q := 24) rfl rfl rfl ?_
  refine xx_getR (q := 27) rfl rfl rfl (xSc_13 isC_27) (Nat.le_of_ble_eq_true rfl) rfl (rc_draught hR isC_27) ?_
  refine xx_iload (q := 29) rfl rfl rfl ?_
  refine xx_iload_n (q := 30) rfl rfl rfl ?_
  refine xx_isz (q := 31) rfl rfl (xSc_15 isC_27) (by omega) (by omega) rfl ?_
  refine xx_aload_n (q := 32) rfl rfl rfl ?_
  refine xx_getR (q := 35) rfl rfl rfl (xSc_13 isC_27) (Nat.le_of_ble_eq_true rfl) rfl (rc_broad hR isC_27) ?_
  refine xx_iload (q := 37) rfl rfl rfl ?_
  refine xx_iload_n (q := 38) rfl rfl rfl ?_
  refine xx_isz (q := 39) rfl rfl (xSc_16 isC_27) (by omega) (by omega) rfl ?_
  refine xx_aload_n (q := 40) rfl rfl rfl ?_
  refine xx_dup (q := 41) rfl rfl ?_
  refine xx_gez (v := K 13 0) (q := 44) rfl rfl rfl (xSc_13 isC_27) (Nat.le_of_ble_eq_true rfl) rfl (hK 13 0 (Nat.le_of_ble_eq_true rfl)) ?_
  refine xx_iconst (q := 45) rfl rfl (by decide) ?_
  refine xx_iaddR (q := 46) rfl rfl (by omega) (by omega) ?_
  refine xx_puz (q := 49) rfl rfl rfl (xSc_13 isC_27) (Nat.le_of_ble_eq_true rfl) (Nat.le_of_ble_eq_true rfl) (fun h => by cases h) (Or.inl rfl) rfl ?_
  refine xx_iload (q := 51) rfl rfl rfl ?_
  refine xx_iret rfl trivial ⟨congrArg (fun z => some (Sum.inl z)) (by rfl), _, rfl, ?_⟩
  exact ⟨CK_bot hK (by omega), ((((Fr.rf.up (by decide)).up (by decide)).up (by decide)).up (by decide) : Fr 27 D _)⟩
set_option maxHeartbeats 1000000 in
theorem c_boat {n : Nat} {R : Nat → Nat → Option Nat} {D0 D K : KK} {b : Int} {B : Nat → Int} {U : UU} (hR : RF R) (hW : NWd K b B U D0 D) (hI : KI K) (p d c : Int) : ∃ D', XC 3 121 [.inr (some 5), .inl p, .inl d, .inl c] (xS n, R, D) (some (.inl (if botP K p d c then K 13 0 else -1))) (xS n, R, D') ∧ NWd (botK K p d c) b B (tldU (botP K p d c) U) D0 D' := by
  have hbB := ki_B hI
  have hbL := ki_L hI
  refine XE_of (Nat.le_of_ble_eq_true rfl) (Nat.le_of_ble_eq_true rfl) (loc := [_, _, _, _, _, _]) rfl ?_
  refine xx_aload_n (q := 1) rfl rfl rfl ?_
  refine xx_getR (q := 4) rfl rfl rfl xS_5 (Nat.le_of_ble_eq_true rfl) rfl (hR.1 5 0 rfl) ?_
  refine xx_getR (q := 7) rfl rfl rfl xS_6 (Nat.le_of_ble_eq_true rfl) rfl (hR.1 6 5 rfl) ?_
  refine xx_getR (q := 10) rfl rfl rfl (xSc_0 isC_27) (Nat.le_of_ble_eq_true rfl) rfl (rc_fleet hR isC_27) ?_
  refine xx_astore (q := 12) (loc2 := [_, _, _, _, _, _]) rfl rfl (Nat.le_of_ble_eq_true rfl) rfl ?_
  refine xx_aload_n (q := 13) rfl rfl rfl ?_
  refine xx_getR (q := 16) rfl rfl rfl xS_5 (Nat.le_of_ble_eq_true rfl) rfl (hR.1 5 0 rfl) ?_
  refine xx_getR (q := 19) rfl rfl rfl xS_6 (Nat.le_of_ble_eq_true rfl) rfl (hR.1 6 5 rfl) ?_
  refine xx_iload_n (q := 20) rfl rfl rfl ?_
  refine xx_callV (q := 23) (As := [_]) (rest := []) rfl rfl rfl (Or.inl rfl) rfl rfl (Nat.le_of_ble_eq_true rfl) (xSc_0 isC_27) (XCm (c_hasPool hR isC_27 hW.1 hI p) rfl) rfl ?_
  refine xx_ifb_eq (q := 50) (q2 := 26) rfl rfl rfl (fun h23 => ?_) (fun h23 => ?_)
  · refine xx_iconst (q := 51) rfl rfl (by decide) ?_
    refine xx_istore (q := 53) (loc2 := [_, _, _, _, _, _]) rfl rfl (Nat.le_of_ble_eq_true rfl) rfl ?_
    refine xx_aload_n (q := 54) rfl rfl rfl ?_
    refine xx_iload (q := 56) rfl rfl rfl ?_
    refine xx_if_eq (q := 73) (q2 := 59) rfl rfl rfl (fun _ => ?_) (fun h56 => (by exfalso; omega))
    refine xx_iconst (q := 74) rfl rfl (by decide) ?_
    obtain ⟨D1, hx1, hW1⟩ := c_forgetIf (n := n) hR hW hI 0 (by decide)
    refine xx_callV (q := 77) (As := [_]) (rest := []) rfl rfl rfl (Or.inl rfl) rfl rfl (Nat.le_of_ble_eq_true rfl) xS_5 (XCm hx1 rfl) rfl ?_
    refine xx_if_ne (q := 82) (q2 := 80) rfl rfl rfl (fun h77 => (by exfalso; omega)) (fun _ => ?_)
    refine xx_iconst (q := 81) rfl rfl (by decide) ?_
    refine xx_iret rfl trivial ⟨congrArg (fun z => some (Sum.inl z)) (by rw [if_neg (show ¬ botP K p d c by omega)]), _, rfl, ?_⟩
    have q : ¬ botP K p d c := by omega
    unfold botK tldU
    rw [if_neg q, if_neg q]
    exact hW1
  · refine xx_iload_n (q := 27) rfl rfl rfl ?_
    refine xx_iconst (q := 28) rfl rfl (by decide) ?_
    refine xx_bipush (q := 30) rfl rfl (by decide) ?_
    refine xx_callS (q := 33) (As := [_, _, _]) (rest := []) rfl rfl rfl (Or.inl rfl) rfl rfl (Nat.le_of_ble_eq_true rfl) (XCm (c_within d 1 99) rfl) rfl ?_
    refine xx_ifb_eq (q := 50) (q2 := 36) rfl rfl rfl (fun h33 => ?_) (fun h33 => ?_)
    · refine xx_iconst (q := 51) rfl rfl (by decide) ?_
      refine xx_istore (q := 53) (loc2 := [_, _, _, _, _, _]) rfl rfl (Nat.le_of_ble_eq_true rfl) rfl ?_
      refine xx_aload_n (q := 54) rfl rfl rfl ?_
      refine xx_iload (q := 56) rfl rfl rfl ?_
      refine xx_if_eq (q := 73) (q2 := 59) rfl rfl rfl (fun _ => ?_) (fun h56 => (by exfalso; omega))
      refine xx_iconst (q := 74) rfl rfl (by decide) ?_
      obtain ⟨D2, hx2, hW2⟩ := c_forgetIf (n := n) hR hW hI 0 (by decide)
      refine xx_callV (q := 77) (As := [_]) (rest := []) rfl rfl rfl (Or.inl rfl) rfl rfl (Nat.le_of_ble_eq_true rfl) xS_5 (XCm hx2 rfl) rfl ?_
      refine xx_if_ne (q := 82) (q2 := 80) rfl rfl rfl (fun h77 => (by exfalso; omega)) (fun _ => ?_)
      refine xx_iconst (q := 81) rfl rfl (by decide) ?_
      refine xx_iret rfl trivial ⟨congrArg (fun z => some (Sum.inl z)) (by rw [if_neg (show ¬ botP K p d c by omega)]), _, rfl, ?_⟩
      have q : ¬ botP K p d c := by omega
      unfold botK tldU
      rw [if_neg q, if_neg q]
      exact hW2
    · refine xx_iload_n (q := 37) rfl rfl rfl ?_
      refine xx_iconst (q := 38) rfl rfl (by decide) ?_
      refine xx_bipush (q := 40) rfl rfl (by decide) ?_
      refine xx_callS (q := 43) (As := [_, _, _]) (rest := []) rfl rfl rfl (Or.inl rfl) rfl rfl (Nat.le_of_ble_eq_true rfl) (XCm (c_within c 1 9) rfl) rfl ?_
      refine xx_ifb_eq (q := 50) (q2 := 46) rfl rfl rfl (fun h43 => ?_) (fun h43 => ?_)
      · refine xx_iconst (q := 51) rfl rfl (by decide) ?_
        refine xx_istore (q := 53) (loc2 := [_, _, _, _, _, _]) rfl rfl (Nat.le_of_ble_eq_true rfl) rfl ?_
        refine xx_aload_n (q := 54) rfl rfl rfl ?_
        refine xx_iload (q := 56) rfl rfl rfl ?_
        refine xx_if_eq (q := 73) (q2 := 59) rfl rfl rfl (fun _ => ?_) (fun h56 => (by exfalso; omega))
        refine xx_iconst (q := 74) rfl rfl (by decide) ?_
        obtain ⟨D3, hx3, hW3⟩ := c_forgetIf (n := n) hR hW hI 0 (by decide)
        refine xx_callV (q := 77) (As := [_]) (rest := []) rfl rfl rfl (Or.inl rfl) rfl rfl (Nat.le_of_ble_eq_true rfl) xS_5 (XCm hx3 rfl) rfl ?_
        refine xx_if_ne (q := 82) (q2 := 80) rfl rfl rfl (fun h77 => (by exfalso; omega)) (fun _ => ?_)
        refine xx_iconst (q := 81) rfl rfl (by decide) ?_
        refine xx_iret rfl trivial ⟨congrArg (fun z => some (Sum.inl z)) (by rw [if_neg (show ¬ botP K p d c by omega)]), _, rfl, ?_⟩
        have q : ¬ botP K p d c := by omega
        unfold botK tldU
        rw [if_neg q, if_neg q]
        exact hW3
      · refine xx_iconst (q := 47) rfl rfl (by decide) ?_
        refine xx_goto (q := 51) rfl rfl ?_
        refine xx_istore (q := 53) (loc2 := [_, _, _, _, _, _]) rfl rfl (Nat.le_of_ble_eq_true rfl) rfl ?_
        refine xx_aload_n (q := 54) rfl rfl rfl ?_
        refine xx_iload (q := 56) rfl rfl rfl ?_
        refine xx_if_eq (q := 73) (q2 := 59) rfl rfl rfl (fun h56 => (by exfalso; omega)) (fun _ => ?_)
        refine xx_aload (q := 61) rfl rfl rfl ?_
        refine xx_gez (v := K 13 0) (q := 64) rfl rfl rfl (xSc_13 isC_27) (Nat.le_of_ble_eq_true rfl) rfl (hW.1 13 0 (Nat.le_of_ble_eq_true rfl)) ?_
        have hb4 : 0 ≤ K 13 0 ∧ K 13 0 ≤ 6 := by have h := ki_B hI; exact h
        refine xx_bipush (q := 66) rfl rfl (by decide) ?_
        refine xx_icmp_ge (q := 73) (q2 := 69) rfl rfl rfl (fun h66 => ?_) (fun h66 => ?_)
        · refine xx_iconst (q := 74) rfl rfl (by decide) ?_
          obtain ⟨D5, hx5, hW5⟩ := c_forgetIf (n := n) hR hW hI 0 (by decide)
          refine xx_callV (q := 77) (As := [_]) (rest := []) rfl rfl rfl (Or.inl rfl) rfl rfl (Nat.le_of_ble_eq_true rfl) xS_5 (XCm hx5 rfl) rfl ?_
          refine xx_if_ne (q := 82) (q2 := 80) rfl rfl rfl (fun h77 => (by exfalso; omega)) (fun _ => ?_)
          refine xx_iconst (q := 81) rfl rfl (by decide) ?_
          refine xx_iret rfl trivial ⟨congrArg (fun z => some (Sum.inl z)) (by rw [if_neg (show ¬ botP K p d c by omega)]), _, rfl, ?_⟩
          have q : ¬ botP K p d c := by omega
          unfold botK tldU
          rw [if_neg q, if_neg q]
          exact hW5
        · refine xx_iconst (q := 70) rfl rfl (by decide) ?_
          refine xx_goto (q := 74) rfl rfl ?_
          obtain ⟨D6, hx6, hW6⟩ := c_forgetIf (n := n) hR hW hI 1 (by decide)
          refine xx_callV (q := 77) (As := [_]) (rest := []) rfl rfl rfl (Or.inl rfl) rfl rfl (Nat.le_of_ble_eq_true rfl) xS_5 (XCm hx6 rfl) rfl ?_
          refine xx_if_ne (q := 82) (q2 := 80) rfl rfl rfl (fun _ => ?_) (fun h77 => (by exfalso; omega))
          refine xx_aload (q := 84) rfl rfl rfl ?_
          refine xx_iload_n (q := 85) rfl rfl rfl ?_
          refine xx_iload_n (q := 86) rfl rfl rfl ?_
          refine xx_iload_n (q := 87) rfl rfl rfl ?_
          obtain ⟨D7, hx7, hK7, hG7⟩ := c_badd (n := n) hR hW6.1 hI p d c (by omega)
          have hW7 := NWd.fr hW6 hK7 hG7
          refine xx_callV (q := 90) (As := [_, _, _]) (rest := []) rfl rfl rfl (Or.inl rfl) rfl rfl (Nat.le_of_ble_eq_true rfl) (xSc_13 isC_27) (XCm hx7 rfl) rfl ?_
          refine xx_iret rfl trivial ⟨congrArg (fun z => some (Sum.inl z)) (by rw [if_pos (show botP K p d c from ⟨⟨h23, h33, h43⟩, by omega⟩)]), _, rfl, ?_⟩
          have q : botP K p d c := ⟨⟨h23, h33, h43⟩, by omega⟩
          unfold botK tldU
          rw [if_pos q, if_pos q]
          exact hW7
