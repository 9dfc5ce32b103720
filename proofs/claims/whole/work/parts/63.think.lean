/-! In thought, by their names: the class. -/
def farA (K : KK) (G : LwF) (boat up w : Int) : Int := if ¬ ((0 ≤ boat ∧ boat < K 13 0) ∧ (0 ≤ w ∧ w ≤ 1)) then -1000 else if w = 0 then (farF K G boat up).1 else (farF K G boat up).2.1
def FX (D E : KK) : Prop := ∀ x k, (x < 279 ∨ 474 ≤ x) → x ≠ 10 → x ≠ 14 → E x k = D x k
theorem FX.rf {D : KK} : FX D D := fun _ _ _ _ _ => rfl
set_option maxHeartbeats 1000000 in
theorem c_far {n : Nat} {R : Nat → Nat → Option Nat} {D K : KK} (hR : RF R) (hK : CK 27 K D) (hI : KI K) {G : LwF} (hG : LwG G n R D) (boat up w : Int) : ∃ D', XC 7 137 [.inr (some 5), .inl boat, .inl up, .inl w] (xS n, R, D) (some (.inl (farA K G boat up w))) (xS n, R, D') ∧ FX D D' := by
  have ht4 : isT 284 := isT_k (s := 0) (by omega)
  have hc4 := isT_C ht4
  have hn4 := isT_N ht4
  refine XE_of (Nat.le_of_ble_eq_true rfl) (Nat.le_of_ble_eq_true rfl) (loc := [_, _, _, _, _]) rfl ?_
  refine xx_aload_n (q := 1) rfl rfl rfl ?_
  refine xx_getR (q := 4) rfl rfl rfl xS_5 (Nat.le_of_ble_eq_true rfl) rfl (hR.1 5 0 rfl) ?_
  refine xx_getR (q := 7) rfl rfl rfl xS_6 (Nat.le_of_ble_eq_true rfl) rfl (hR.1 6 5 rfl) ?_
  refine xx_getR (q := 10) rfl rfl rfl (xSc_0 isC_27) (Nat.le_of_ble_eq_true rfl) rfl (rc_fleet hR isC_27) ?_
  refine xx_iload_n (q := 11) rfl rfl rfl ?_
  refine xx_callV (q := 14) (As := [_]) (rest := []) rfl rfl rfl (Or.inl rfl) rfl rfl (Nat.le_of_ble_eq_true rfl) (xSc_13 isC_27) (XCm (c_has hR isC_27 hK hI boat) rfl) rfl ?_
  refine xx_ifb_eq (q := 26) (q2 := 17) rfl rfl rfl (fun h14 => ?_) (fun h14 => ?_)
  · refine xx_sipush (q := 29) rfl rfl (by decide) ?_
    refine xx_iret rfl trivial ⟨congrArg (fun z => some (Sum.inl z)) (by exact (if_pos (fun q => h14 q.1)).symm), _, rfl, ?_⟩
    exact FX.rf
  · refine xx_iload_n (q := 18) rfl rfl rfl ?_
    refine xx_iconst (q := 19) rfl rfl (by decide) ?_
    refine xx_iconst (q := 20) rfl rfl (by decide) ?_
    refine xx_callS (q := 23) (As := [_, _, _]) (rest := []) rfl rfl rfl (Or.inl rfl) rfl rfl (Nat.le_of_ble_eq_true rfl) (XCm (c_within w 0 1) rfl) rfl ?_
    refine xx_ifb_ne (q := 30) (q2 := 26) rfl rfl rfl (fun h23 => ?_) (fun h23 => ?_)
    · refine xx_aload_n (q := 31) rfl rfl rfl ?_
      refine xx_getR (q := 34) rfl rfl rfl xS_5 (Nat.le_of_ble_eq_true rfl) rfl (hR.1 5 3 rfl) ?_
      refine xx_aload_n (q := 35) rfl rfl rfl ?_
      refine xx_getR (q := 38) rfl rfl rfl xS_5 (Nat.le_of_ble_eq_true rfl) rfl (hR.1 5 3 rfl) ?_
      refine xx_aload_n (q := 39) rfl rfl rfl ?_
      refine xx_getR (q := 42) rfl rfl rfl xS_5 (Nat.le_of_ble_eq_true rfl) rfl (hR.1 5 0 rfl) ?_
      refine xx_getR (q := 45) rfl rfl rfl xS_6 (Nat.le_of_ble_eq_true rfl) rfl (hR.1 6 5 rfl) ?_
      obtain ⟨D1, hx1, hK1, hG1⟩ := c_start (n := n) hR isC_27 (by decide) hK hI
      refine xx_callV (q := 48) (As := [_]) (rest := [_]) rfl rfl rfl (Or.inl rfl) rfl rfl (Nat.le_of_ble_eq_true rfl) xS_279 (XCm hx1 rfl) rfl ?_
      refine xx_iload_n (q := 49) rfl rfl rfl ?_
      refine xx_iload_n (q := 50) rfl rfl rfl ?_
      have hfs : ∀ x k, (x < 284 ∨ 303 ≤ x) → x ≠ 10 → x ≠ 14 → D1 x k = D x k := fun x k q1 q2 q3 => hG1 x k (by omega) q2 q3
      obtain ⟨D2, hx2, hKf2, hF2, hw2⟩ := c_goFar (n := n) hR ht4 hK1 hI (LawS.fr hG (fun x k q1 q2 => hfs x k (by omega) (by omega) (by omega))) boat up
      refine xx_callV (q := 53) (As := [_, _, _]) (rest := []) rfl rfl rfl (Or.inl rfl) rfl rfl (Nat.le_of_ble_eq_true rfl) xS_279 (XCm hx2 rfl) rfl ?_
      refine xx_istore (q := 55) (loc2 := [_, _, _, _, _]) rfl rfl (Nat.le_of_ble_eq_true rfl) rfl ?_
      refine xx_iload_n (q := 56) rfl rfl rfl ?_
      refine xx_if_ne (q := 64) (q2 := 59) rfl rfl rfl (fun h56 => ?_) (fun h56 => ?_)
      · refine xx_aload_n (q := 65) rfl rfl rfl ?_
        refine xx_getR (q := 68) rfl rfl rfl xS_5 (Nat.le_of_ble_eq_true rfl) rfl (hR.1 5 3 rfl) ?_
        refine xx_gez (q := 71) rfl rfl rfl xS_279 (Nat.le_of_ble_eq_true rfl) rfl hw2 ?_
        refine xx_iret rfl trivial ⟨congrArg (fun z => some (Sum.inl z)) (by unfold farA; rw [if_neg (fun q => q ⟨h14, h23⟩), if_neg h56]), _, rfl, ?_⟩
        exact fun x k h1 h2 h3 => (hF2 x k (by omega) h2 h3 (by omega)).trans (hfs x k (by omega) h2 h3)
      · refine xx_iload (q := 61) rfl rfl rfl ?_
        refine xx_goto (q := 71) rfl rfl ?_
        refine xx_iret rfl trivial ⟨congrArg (fun z => some (Sum.inl z)) (by unfold farA; rw [if_neg (fun q => q ⟨h14, h23⟩), if_pos h56]), _, rfl, ?_⟩
        exact fun x k h1 h2 h3 => (hF2 x k (by omega) h2 h3 (by omega)).trans (hfs x k (by omega) h2 h3)
    · refine xx_sipush (q := 29) rfl rfl (by decide) ?_
      refine xx_iret rfl trivial ⟨congrArg (fun z => some (Sum.inl z)) (by exact (if_pos (fun q => h23 q.2)).symm), _, rfl, ?_⟩
      exact FX.rf
def ltrP (K : KK) (m w a c : Int) : Prop := (0 ≤ m ∧ m ≤ 200) ∧ ((w = 0 ∧ 0 ≤ a ∧ a ≤ K 0 0) ∨ (w = 1 ∧ 0 ≤ a ∧ a < K 0 0) ∨ (w = 2 ∧ (0 ≤ a ∧ a < K 0 0) ∧ 0 ≤ c ∧ c < K 13 0))
def ltrV (L : KK) (w a c : Int) : Int := if w = 0 then L 1 a.toNat else if w = 1 then L 8 a.toNat else L 12 (a * 6 + c).toNat
set_option maxHeartbeats 1000000 in
theorem c_ltr_L {n : Nat} {R : Nat → Nat → Option Nat} {D0 : KK} {Q : XQ} (hR : RF R) (m : Int) (hm : m ≤ 200) (l2 l3 l4 l6 l7 l8 : Int) : ∀ (k : Nat) (L D : KK) (i : Int), CK 284 L D → KI L → Fr 284 D0 D → 0 ≤ i → i + k = m → (∀ D2 i2, CK 284 (hrsT k L) D2 → KI (hrsT k L) → Fr 284 D0 D2 → XX (XC 6) 146 Q 146 [some (.inr (some 5)), some (.inl m), some (.inl l2), some (.inl l3), some (.inl l4), some (.inr (some 27)), some (.inl l6), some (.inl l7), some (.inl l8), some (.inr (some 284)), some (.inl i2)] [] (xS n, R, D2)) → XX (XC 6) 146 (Q) 128 [some (.inr (some 5)), some (.inl m), some (.inl l2), some (.inl l3), some (.inl l4), some (.inr (some 27)), some (.inl l6), some (.inl l7), some (.inl l8), some (.inr (some 284)), some (.inl i)] [] (xS n, R, D) := by
  intro k
  induction k using Nat.strongRecOn with
  | ind k ih =>
  intro L D i hL hI hF h1 hk kx
  have ht4 : isT 284 := isT_k (s := 0) (by omega)
  have hc4 := isT_C ht4
  have hn4 := isT_N ht4
  refine xx_iload (q := 130) rfl rfl rfl ?_
  refine xx_iload_n (q := 131) rfl rfl rfl ?_
  refine xx_icmp_ge (q := 146) (q2 := 134) rfl rfl rfl (fun h131 => ?_) (fun h131 => ?_)
  · obtain rfl : k = 0 := by omega
    exact kx _ _ hL hI hF
  · obtain ⟨k, rfl⟩ : ∃ k2, k = k2 + 1 := ⟨k - 1, by omega⟩
    refine xx_aload (q := 136) rfl rfl rfl ?_
    obtain ⟨D1, hx1, hK1, hG1⟩ := c_hourT (n := n) hR ht4 hL hI
    have hF1 := hF.trans hG1
    have hI1 : KI (hrT L) := hrT_I hI
    refine xx_callV (q := 139) (As := []) (rest := []) rfl rfl rfl (Or.inl rfl) rfl rfl (Nat.le_of_ble_eq_true rfl) (xSc_0 hc4) (XCm hx1 rfl) rfl ?_
    refine xx_pop (q := 140) rfl rfl ?_
    refine xx_incz (q := 143) (loc2 := [_, _, _, _, _, _, _, _, _, _, _]) rfl rfl rfl (by omega) (by omega) rfl rfl ?_
    refine xx_goto (q := 128) rfl rfl ?_
    exact ih k (by omega) _ _ _ hK1 hI1 hF1 (by omega) (by omega) kx
theorem c_ltr_E0 {n : Nat} {R : Nat → Nat → Option Nat} {L D : KK} {P : KK → Prop} (hR : RF R) (hL : CK 284 L D) (hI : KI L) (m w a c i : Int) (ha : 0 ≤ a) (ha1 : a ≤ 9) (hP : P D) : XX (XC 6) 146 (XP (some (.inl (L 1 a.toNat))) (xS n) R P) 146 [some (.inr (some 5)), some (.inl m), some (.inl w), some (.inl a), some (.inl c), some (.inr (some 27)), some (.inl 1), some (.inl 0), some (.inl 0), some (.inr (some 284)), some (.inl i)] [] (xS n, R, D) := by
  have hc4 : isC 284 := isT_C (isT_k (s := 0) (by omega))
  refine xx_iload (q := 148) rfl rfl rfl ?_
  refine xx_if_eq (q := 159) (q2 := 151) rfl rfl rfl (fun h148 => (by exfalso; omega)) (fun _ => ?_)
  refine xx_aload (q := 153) rfl rfl rfl ?_
  refine xx_getR (q := 156) rfl rfl rfl (xSc_0 hc4) (Nat.le_of_ble_eq_true rfl) rfl (rc_depth hR hc4) ?_
  refine xx_iload_n (q := 157) rfl rfl rfl ?_
  refine xx_iaz (v := L 1 (a).toNat) (q := 158) rfl rfl (xSc_1 hc4) (by omega) (by omega) (ck_a hL (o := 1) (N := 10) rfl (by omega) (by omega)) ?_
  have hb1 : 0 ≤ L 1 (a).toNat ∧ L 1 (a).toNat ≤ 999 := by have h := ki_1 hI (a).toNat; exact h
  exact xx_iret rfl trivial ⟨rfl, _, rfl, hP⟩
theorem c_ltr_E1 {n : Nat} {R : Nat → Nat → Option Nat} {L D : KK} {P : KK → Prop} (hR : RF R) (hL : CK 284 L D) (hI : KI L) (m w a c i : Int) (ha : 0 ≤ a) (ha1 : a < 9) (hP : P D) : XX (XC 6) 146 (XP (some (.inl (L 8 a.toNat))) (xS n) R P) 146 [some (.inr (some 5)), some (.inl m), some (.inl w), some (.inl a), some (.inl c), some (.inr (some 27)), some (.inl 0), some (.inl 1), some (.inl 0), some (.inr (some 284)), some (.inl i)] [] (xS n, R, D) := by
  have hc4 : isC 284 := isT_C (isT_k (s := 0) (by omega))
  refine xx_iload (q := 148) rfl rfl rfl ?_
  refine xx_if_eq (q := 159) (q2 := 151) rfl rfl rfl (fun _ => ?_) (fun h148 => (by exfalso; omega))
  refine xx_iload (q := 161) rfl rfl rfl ?_
  refine xx_if_eq (q := 177) (q2 := 164) rfl rfl rfl (fun h161 => (by exfalso; omega)) (fun _ => ?_)
  refine xx_aload (q := 166) rfl rfl rfl ?_
  refine xx_getR (q := 169) rfl rfl rfl (xSc_0 hc4) (Nat.le_of_ble_eq_true rfl) rfl (rc_keepers hR hc4) ?_
  refine xx_getR (q := 172) rfl rfl rfl (xSc_7 hc4) (Nat.le_of_ble_eq_true rfl) rfl (rc_mood hR hc4) ?_
  refine xx_iload_n (q := 173) rfl rfl rfl ?_
  refine xx_iaz (v := L 8 (a).toNat) (q := 174) rfl rfl (xSc_8 hc4) (by omega) (by omega) (ck_a hL (o := 8) (N := 9) rfl (by omega) (by omega)) ?_
  have hb1 : -99 ≤ L 8 (a).toNat ∧ L 8 (a).toNat ≤ 99 := by have h := ki_8 hI (a).toNat; exact h
  refine xx_goto (q := 188) rfl rfl ?_
  exact xx_iret rfl trivial ⟨rfl, _, rfl, hP⟩
theorem c_ltr_E2 {n : Nat} {R : Nat → Nat → Option Nat} {L D : KK} {P : KK → Prop} (hR : RF R) (hL : CK 284 L D) (hI : KI L) (m w a c i : Int) (ha : 0 ≤ a) (ha1 : a < 9) (hc0 : 0 ≤ c) (hc1 : c < 6) (hP : P D) : XX (XC 6) 146 (XP (some (.inl (L 12 (a * 6 + c).toNat))) (xS n) R P) 146 [some (.inr (some 5)), some (.inl m), some (.inl w), some (.inl a), some (.inl c), some (.inr (some 27)), some (.inl 0), some (.inl 0), some (.inl 1), some (.inr (some 284)), some (.inl i)] [] (xS n, R, D) := by
  have hc4 : isC 284 := isT_C (isT_k (s := 0) (by omega))
  refine xx_iload (q := 148) rfl rfl rfl ?_
  refine xx_if_eq (q := 159) (q2 := 151) rfl rfl rfl (fun _ => ?_) (fun h148 => (by exfalso; omega))
  refine xx_iload (q := 161) rfl rfl rfl ?_
  refine xx_if_eq (q := 177) (q2 := 164) rfl rfl rfl (fun _ => ?_) (fun h161 => (by exfalso; omega))
  refine xx_aload (q := 179) rfl rfl rfl ?_
  refine xx_getR (q := 182) rfl rfl rfl (xSc_0 hc4) (Nat.le_of_ble_eq_true rfl) rfl (rc_keepers hR hc4) ?_
  refine xx_iload_n (q := 183) rfl rfl rfl ?_
  refine xx_iload (q := 185) rfl rfl rfl ?_
  refine xx_callV (q := 188) (As := [_, _]) (rest := []) rfl rfl rfl (Or.inl rfl) rfl rfl (Nat.le_of_ble_eq_true rfl) (xSc_7 hc4) (XCm (c_likingOf hR hc4 hL hI a c (by omega) (by omega) (by omega) (by omega)) rfl) rfl ?_
  exact xx_iret rfl trivial ⟨rfl, _, rfl, hP⟩
def ltrF (K : KK) (m w a c : Int) : Int := if (0 ≤ m ∧ m ≤ 200) ∧ ((w = 0 ∧ 0 ≤ a ∧ a ≤ K 0 0) ∨ (w = 1 ∧ 0 ≤ a ∧ a < K 0 0) ∨ (w = 2 ∧ (0 ≤ a ∧ a < K 0 0) ∧ 0 ≤ c ∧ c < K 13 0)) then ltrV (hrsT m.toNat K) w a c else -1000
set_option maxHeartbeats 4000000 in
theorem c_later {n : Nat} {R : Nat → Nat → Option Nat} {D K : KK} (hR : RF R) (hK : CK 27 K D) (hI : KI K) (m w a c : Int) : ∃ D', XC 7 146 [.inr (some 5), .inl m, .inl w, .inl a, .inl c] (xS n, R, D) (some (.inl (ltrF K m w a c))) (xS n, R, D') ∧ FX D D' := by
  have ht4 : isT 284 := isT_k (s := 0) (by omega)
  have hc4 := isT_C ht4
  have hn4 := isT_N ht4
  have hbL := ki_L hI
  have hbB := ki_B hI
  refine XE_of (Nat.le_of_ble_eq_true rfl) (Nat.le_of_ble_eq_true rfl) (loc := [_, _, _, _, _, _, _, _, _, _, _]) rfl ?_
  refine xx_aload_n (q := 1) rfl rfl rfl ?_
  refine xx_getR (q := 4) rfl rfl rfl xS_5 (Nat.le_of_ble_eq_true rfl) rfl (hR.1 5 0 rfl) ?_
  refine xx_getR (q := 7) rfl rfl rfl xS_6 (Nat.le_of_ble_eq_true rfl) rfl (hR.1 6 5 rfl) ?_
  refine xx_astore (q := 9) (loc2 := [_, _, _, _, _, _, _, _, _, _, _]) rfl rfl (Nat.le_of_ble_eq_true rfl) rfl ?_
  refine xx_iload_n (q := 10) rfl rfl rfl ?_
  refine xx_if_ne (q := 26) (q2 := 13) rfl rfl rfl (fun h10 => ?_) (fun h10 => ?_)
  · refine xx_iconst (q := 27) rfl rfl (by decide) ?_
    refine xx_istore (q := 29) (loc2 := [_, _, _, _, _, _, _, _, _, _, _]) rfl rfl (Nat.le_of_ble_eq_true rfl) rfl ?_
    refine xx_iload_n (q := 30) rfl rfl rfl ?_
    refine xx_iconst (q := 31) rfl rfl (by decide) ?_
    refine xx_icmp_ne (q := 47) (q2 := 34) rfl rfl rfl (fun h31 => ?_) (fun h31 => ?_)
    · refine xx_iconst (q := 48) rfl rfl (by decide) ?_
      refine xx_istore (q := 50) (loc2 := [_, _, _, _, _, _, _, _, _, _, _]) rfl rfl (Nat.le_of_ble_eq_true rfl) rfl ?_
      refine xx_iload_n (q := 51) rfl rfl rfl ?_
      refine xx_iconst (q := 52) rfl rfl (by decide) ?_
      refine xx_icmp_ne (q := 81) (q2 := 55) rfl rfl rfl (fun h52 => ?_) (fun h52 => ?_)
      · refine xx_iconst (q := 82) rfl rfl (by decide) ?_
        refine xx_istore (q := 84) (loc2 := [_, _, _, _, _, _, _, _, _, _, _]) rfl rfl (Nat.le_of_ble_eq_true rfl) rfl ?_
        refine xx_iload_n (q := 85) rfl rfl rfl ?_
        refine xx_iconst (q := 86) rfl rfl (by decide) ?_
        refine xx_sipush (q := 89) rfl rfl (by decide) ?_
        refine xx_callS (q := 92) (As := [_, _, _]) (rest := []) rfl rfl rfl (Or.inl rfl) rfl rfl (Nat.le_of_ble_eq_true rfl) (XCm (c_within m 0 200) rfl) rfl ?_
        refine xx_ifb_eq (q := 110) (q2 := 95) rfl rfl rfl (fun h92 => ?_) (fun h92 => ?_)
        · refine xx_sipush (q := 113) rfl rfl (by decide) ?_
          refine xx_iret rfl trivial ⟨congrArg (fun z => some (Sum.inl z)) (by unfold ltrF; rw [if_neg (by omega)]), _, rfl, ?_⟩
          exact FX.rf
        · refine xx_iload (q := 97) rfl rfl rfl ?_
          refine xx_if_ne (q := 114) (q2 := 100) rfl rfl rfl (fun h97 => (by exfalso; omega)) (fun _ => ?_)
          refine xx_iload (q := 102) rfl rfl rfl ?_
          refine xx_if_ne (q := 114) (q2 := 105) rfl rfl rfl (fun h102 => (by exfalso; omega)) (fun _ => ?_)
          refine xx_iload (q := 107) rfl rfl rfl ?_
          refine xx_if_ne (q := 114) (q2 := 110) rfl rfl rfl (fun h107 => (by exfalso; omega)) (fun _ => ?_)
          refine xx_sipush (q := 113) rfl rfl (by decide) ?_
          refine xx_iret rfl trivial ⟨congrArg (fun z => some (Sum.inl z)) (by unfold ltrF; rw [if_neg (by omega)]), _, rfl, ?_⟩
          exact FX.rf
      · refine xx_aload (q := 57) rfl rfl rfl ?_
        refine xx_iload_n (q := 58) rfl rfl rfl ?_
        refine xx_callV (q := 61) (As := [_]) (rest := []) rfl rfl rfl (Or.inl rfl) rfl rfl (Nat.le_of_ble_eq_true rfl) (xSc_0 isC_27) (XCm (c_hasLock hR isC_27 hK hI a) rfl) rfl ?_
        refine xx_ifb_eq (q := 81) (q2 := 64) rfl rfl rfl (fun h61 => ?_) (fun h61 => ?_)
        · refine xx_iconst (q := 82) rfl rfl (by decide) ?_
          refine xx_istore (q := 84) (loc2 := [_, _, _, _, _, _, _, _, _, _, _]) rfl rfl (Nat.le_of_ble_eq_true rfl) rfl ?_
          refine xx_iload_n (q := 85) rfl rfl rfl ?_
          refine xx_iconst (q := 86) rfl rfl (by decide) ?_
          refine xx_sipush (q := 89) rfl rfl (by decide) ?_
          refine xx_callS (q := 92) (As := [_, _, _]) (rest := []) rfl rfl rfl (Or.inl rfl) rfl rfl (Nat.le_of_ble_eq_true rfl) (XCm (c_within m 0 200) rfl) rfl ?_
          refine xx_ifb_eq (q := 110) (q2 := 95) rfl rfl rfl (fun h92 => ?_) (fun h92 => ?_)
          · refine xx_sipush (q := 113) rfl rfl (by decide) ?_
            refine xx_iret rfl trivial ⟨congrArg (fun z => some (Sum.inl z)) (by unfold ltrF; rw [if_neg (by omega)]), _, rfl, ?_⟩
            exact FX.rf
          · refine xx_iload (q := 97) rfl rfl rfl ?_
            refine xx_if_ne (q := 114) (q2 := 100) rfl rfl rfl (fun h97 => (by exfalso; omega)) (fun _ => ?_)
            refine xx_iload (q := 102) rfl rfl rfl ?_
            refine xx_if_ne (q := 114) (q2 := 105) rfl rfl rfl (fun h102 => (by exfalso; omega)) (fun _ => ?_)
            refine xx_iload (q := 107) rfl rfl rfl ?_
            refine xx_if_ne (q := 114) (q2 := 110) rfl rfl rfl (fun h107 => (by exfalso; omega)) (fun _ => ?_)
            refine xx_sipush (q := 113) rfl rfl (by decide) ?_
            refine xx_iret rfl trivial ⟨congrArg (fun z => some (Sum.inl z)) (by unfold ltrF; rw [if_neg (by omega)]), _, rfl, ?_⟩
            exact FX.rf
        · refine xx_aload (q := 66) rfl rfl rfl ?_
          refine xx_getR (q := 69) rfl rfl rfl (xSc_0 isC_27) (Nat.le_of_ble_eq_true rfl) rfl (rc_fleet hR isC_27) ?_
          refine xx_iload (q := 71) rfl rfl rfl ?_
          refine xx_callV (q := 74) (As := [_]) (rest := []) rfl rfl rfl (Or.inl rfl) rfl rfl (Nat.le_of_ble_eq_true rfl) (xSc_13 isC_27) (XCm (c_has hR isC_27 hK hI c) rfl) rfl ?_
          refine xx_ifb_eq (q := 81) (q2 := 77) rfl rfl rfl (fun h74 => ?_) (fun h74 => ?_)
          · refine xx_iconst (q := 82) rfl rfl (by decide) ?_
            refine xx_istore (q := 84) (loc2 := [_, _, _, _, _, _, _, _, _, _, _]) rfl rfl (Nat.le_of_ble_eq_true rfl) rfl ?_
            refine xx_iload_n (q := 85) rfl rfl rfl ?_
            refine xx_iconst (q := 86) rfl rfl (by decide) ?_
            refine xx_sipush (q := 89) rfl rfl (by decide) ?_
            refine xx_callS (q := 92) (As := [_, _, _]) (rest := []) rfl rfl rfl (Or.inl rfl) rfl rfl (Nat.le_of_ble_eq_true rfl) (XCm (c_within m 0 200) rfl) rfl ?_
            refine xx_ifb_eq (q := 110) (q2 := 95) rfl rfl rfl (fun h92 => ?_) (fun h92 => ?_)
            · refine xx_sipush (q := 113) rfl rfl (by decide) ?_
              refine xx_iret rfl trivial ⟨congrArg (fun z => some (Sum.inl z)) (by unfold ltrF; rw [if_neg (by omega)]), _, rfl, ?_⟩
              exact FX.rf
            · refine xx_iload (q := 97) rfl rfl rfl ?_
              refine xx_if_ne (q := 114) (q2 := 100) rfl rfl rfl (fun h97 => (by exfalso; omega)) (fun _ => ?_)
              refine xx_iload (q := 102) rfl rfl rfl ?_
              refine xx_if_ne (q := 114) (q2 := 105) rfl rfl rfl (fun h102 => (by exfalso; omega)) (fun _ => ?_)
              refine xx_iload (q := 107) rfl rfl rfl ?_
              refine xx_if_ne (q := 114) (q2 := 110) rfl rfl rfl (fun h107 => (by exfalso; omega)) (fun _ => ?_)
              refine xx_sipush (q := 113) rfl rfl (by decide) ?_
              refine xx_iret rfl trivial ⟨congrArg (fun z => some (Sum.inl z)) (by unfold ltrF; rw [if_neg (by omega)]), _, rfl, ?_⟩
              exact FX.rf
          · refine xx_iconst (q := 78) rfl rfl (by decide) ?_
            refine xx_goto (q := 82) rfl rfl ?_
            refine xx_istore (q := 84) (loc2 := [_, _, _, _, _, _, _, _, _, _, _]) rfl rfl (Nat.le_of_ble_eq_true rfl) rfl ?_
            refine xx_iload_n (q := 85) rfl rfl rfl ?_
            refine xx_iconst (q := 86) rfl rfl (by decide) ?_
            refine xx_sipush (q := 89) rfl rfl (by decide) ?_
            refine xx_callS (q := 92) (As := [_, _, _]) (rest := []) rfl rfl rfl (Or.inl rfl) rfl rfl (Nat.le_of_ble_eq_true rfl) (XCm (c_within m 0 200) rfl) rfl ?_
            refine xx_ifb_eq (q := 110) (q2 := 95) rfl rfl rfl (fun h92 => ?_) (fun h92 => ?_)
            · refine xx_sipush (q := 113) rfl rfl (by decide) ?_
              refine xx_iret rfl trivial ⟨congrArg (fun z => some (Sum.inl z)) (by unfold ltrF; rw [if_neg (by omega)]), _, rfl, ?_⟩
              exact FX.rf
            · refine xx_iload (q := 97) rfl rfl rfl ?_
              refine xx_if_ne (q := 114) (q2 := 100) rfl rfl rfl (fun h97 => (by exfalso; omega)) (fun _ => ?_)
              refine xx_iload (q := 102) rfl rfl rfl ?_
              refine xx_if_ne (q := 114) (q2 := 105) rfl rfl rfl (fun h102 => (by exfalso; omega)) (fun _ => ?_)
              refine xx_iload (q := 107) rfl rfl rfl ?_
              refine xx_if_ne (q := 114) (q2 := 110) rfl rfl rfl (fun _ => ?_) (fun h107 => (by exfalso; omega))
              refine xx_aload_n (q := 115) rfl rfl rfl ?_
              refine xx_getR (q := 118) rfl rfl rfl xS_5 (Nat.le_of_ble_eq_true rfl) rfl (hR.1 5 3 rfl) ?_
              refine xx_aload (q := 120) rfl rfl rfl ?_
              obtain ⟨D1, hx1, hK1, hG1⟩ := c_start (n := n) hR isC_27 (by decide) hK hI
              refine xx_callV (q := 123) (As := [_]) (rest := []) rfl rfl rfl (Or.inl rfl) rfl rfl (Nat.le_of_ble_eq_true rfl) xS_279 (XCm hx1 rfl) rfl ?_
              refine xx_astore (q := 125) (loc2 := [_, _, _, _, _, _, _, _, _, _, _]) rfl rfl (Nat.le_of_ble_eq_true rfl) rfl ?_
              refine xx_iconst (q := 126) rfl rfl (by decide) ?_
              refine xx_istore (q := 128) (loc2 := [_, _, _, _, _, _, _, _, _, _, _]) rfl rfl (Nat.le_of_ble_eq_true rfl) rfl ?_
              have e : ltrF K m w a c = ltrV (hrsT m.toNat K) w a c := if_pos ⟨h92, Or.inr (Or.inr ⟨h52, h61, h74⟩)⟩
              rw [e]
              unfold ltrV
              rw [if_neg (by omega), if_neg (by omega)]
              exact c_ltr_L hR m (by omega) w a c _ _ _ m.toNat K _ 0 hK1 hI Fr.rf (by omega) (by omega) (fun D2 i2 hL2 hI2 hF2 => c_ltr_E2 hR hL2 hI2 m w a c i2 (by omega) (by omega) (by omega) (by omega) (fun x k h1 h2 h3 => (hF2 x k (by omega) h2 h3).trans (hG1 x k (by omega) h2 h3)))
    · refine xx_aload (q := 36) rfl rfl rfl ?_
      refine xx_iload_n (q := 37) rfl rfl rfl ?_
      refine xx_callV (q := 40) (As := [_]) (rest := []) rfl rfl rfl (Or.inl rfl) rfl rfl (Nat.le_of_ble_eq_true rfl) (xSc_0 isC_27) (XCm (c_hasLock hR isC_27 hK hI a) rfl) rfl ?_
      refine xx_ifb_eq (q := 47) (q2 := 43) rfl rfl rfl (fun h40 => ?_) (fun h40 => ?_)
      · refine xx_iconst (q := 48) rfl rfl (by decide) ?_
        refine xx_istore (q := 50) (loc2 := [_, _, _, _, _, _, _, _, _, _, _]) rfl rfl (Nat.le_of_ble_eq_true rfl) rfl ?_
        refine xx_iload_n (q := 51) rfl rfl rfl ?_
        refine xx_iconst (q := 52) rfl rfl (by decide) ?_
        refine xx_icmp_ne (q := 81) (q2 := 55) rfl rfl rfl (fun _ => ?_) (fun h52 => (by exfalso; omega))
        refine xx_iconst (q := 82) rfl rfl (by decide) ?_
        refine xx_istore (q := 84) (loc2 := [_, _, _, _, _, _, _, _, _, _, _]) rfl rfl (Nat.le_of_ble_eq_true rfl) rfl ?_
        refine xx_iload_n (q := 85) rfl rfl rfl ?_
        refine xx_iconst (q := 86) rfl rfl (by decide) ?_
        refine xx_sipush (q := 89) rfl rfl (by decide) ?_
        refine xx_callS (q := 92) (As := [_, _, _]) (rest := []) rfl rfl rfl (Or.inl rfl) rfl rfl (Nat.le_of_ble_eq_true rfl) (XCm (c_within m 0 200) rfl) rfl ?_
        refine xx_ifb_eq (q := 110) (q2 := 95) rfl rfl rfl (fun h92 => ?_) (fun h92 => ?_)
        · refine xx_sipush (q := 113) rfl rfl (by decide) ?_
          refine xx_iret rfl trivial ⟨congrArg (fun z => some (Sum.inl z)) (by unfold ltrF; rw [if_neg (by omega)]), _, rfl, ?_⟩
          exact FX.rf
        · refine xx_iload (q := 97) rfl rfl rfl ?_
          refine xx_if_ne (q := 114) (q2 := 100) rfl rfl rfl (fun h97 => (by exfalso; omega)) (fun _ => ?_)
          refine xx_iload (q := 102) rfl rfl rfl ?_
          refine xx_if_ne (q := 114) (q2 := 105) rfl rfl rfl (fun h102 => (by exfalso; omega)) (fun _ => ?_)
          refine xx_iload (q := 107) rfl rfl rfl ?_
          refine xx_if_ne (q := 114) (q2 := 110) rfl rfl rfl (fun h107 => (by exfalso; omega)) (fun _ => ?_)
          refine xx_sipush (q := 113) rfl rfl (by decide) ?_
          refine xx_iret rfl trivial ⟨congrArg (fun z => some (Sum.inl z)) (by unfold ltrF; rw [if_neg (by omega)]), _, rfl, ?_⟩
          exact FX.rf
      · refine xx_iconst (q := 44) rfl rfl (by decide) ?_
        refine xx_goto (q := 48) rfl rfl ?_
        refine xx_istore (q := 50) (loc2 := [_, _, _, _, _, _, _, _, _, _, _]) rfl rfl (Nat.le_of_ble_eq_true rfl) rfl ?_
        refine xx_iload_n (q := 51) rfl rfl rfl ?_
        refine xx_iconst (q := 52) rfl rfl (by decide) ?_
        refine xx_icmp_ne (q := 81) (q2 := 55) rfl rfl rfl (fun _ => ?_) (fun h52 => (by exfalso; omega))
        refine xx_iconst (q := 82) rfl rfl (by decide) ?_
        refine xx_istore (q := 84) (loc2 := [_, _, _, _, _, _, _, _, _, _, _]) rfl rfl (Nat.le_of_ble_eq_true rfl) rfl ?_
        refine xx_iload_n (q := 85) rfl rfl rfl ?_
        refine xx_iconst (q := 86) rfl rfl (by decide) ?_
        refine xx_sipush (q := 89) rfl rfl (by decide) ?_
        refine xx_callS (q := 92) (As := [_, _, _]) (rest := []) rfl rfl rfl (Or.inl rfl) rfl rfl (Nat.le_of_ble_eq_true rfl) (XCm (c_within m 0 200) rfl) rfl ?_
        refine xx_ifb_eq (q := 110) (q2 := 95) rfl rfl rfl (fun h92 => ?_) (fun h92 => ?_)
        · refine xx_sipush (q := 113) rfl rfl (by decide) ?_
          refine xx_iret rfl trivial ⟨congrArg (fun z => some (Sum.inl z)) (by unfold ltrF; rw [if_neg (by omega)]), _, rfl, ?_⟩
          exact FX.rf
        · refine xx_iload (q := 97) rfl rfl rfl ?_
          refine xx_if_ne (q := 114) (q2 := 100) rfl rfl rfl (fun h97 => (by exfalso; omega)) (fun _ => ?_)
          refine xx_iload (q := 102) rfl rfl rfl ?_
          refine xx_if_ne (q := 114) (q2 := 105) rfl rfl rfl (fun _ => ?_) (fun h102 => (by exfalso; omega))
          refine xx_aload_n (q := 115) rfl rfl rfl ?_
          refine xx_getR (q := 118) rfl rfl rfl xS_5 (Nat.le_of_ble_eq_true rfl) rfl (hR.1 5 3 rfl) ?_
          refine xx_aload (q := 120) rfl rfl rfl ?_
          obtain ⟨D2, hx2, hK2, hG2⟩ := c_start (n := n) hR isC_27 (by decide) hK hI
          refine xx_callV (q := 123) (As := [_]) (rest := []) rfl rfl rfl (Or.inl rfl) rfl rfl (Nat.le_of_ble_eq_true rfl) xS_279 (XCm hx2 rfl) rfl ?_
          refine xx_astore (q := 125) (loc2 := [_, _, _, _, _, _, _, _, _, _, _]) rfl rfl (Nat.le_of_ble_eq_true rfl) rfl ?_
          refine xx_iconst (q := 126) rfl rfl (by decide) ?_
          refine xx_istore (q := 128) (loc2 := [_, _, _, _, _, _, _, _, _, _, _]) rfl rfl (Nat.le_of_ble_eq_true rfl) rfl ?_
          have e : ltrF K m w a c = ltrV (hrsT m.toNat K) w a c := if_pos ⟨h92, Or.inr (Or.inl ⟨h31, h40⟩)⟩
          rw [e]
          unfold ltrV
          rw [if_neg (by omega), if_pos h31]
          exact c_ltr_L hR m (by omega) w a c _ _ _ m.toNat K _ 0 hK2 hI Fr.rf (by omega) (by omega) (fun D2 i2 hL2 hI2 hF2 => c_ltr_E1 hR hL2 hI2 m w a c i2 (by omega) (by omega) (fun x k h1 h2 h3 => (hF2 x k (by omega) h2 h3).trans (hG2 x k (by omega) h2 h3)))
  · refine xx_aload (q := 15) rfl rfl rfl ?_
    refine xx_iload_n (q := 16) rfl rfl rfl ?_
    refine xx_callV (q := 19) (As := [_]) (rest := []) rfl rfl rfl (Or.inl rfl) rfl rfl (Nat.le_of_ble_eq_true rfl) (xSc_0 isC_27) (XCm (c_hasPool hR isC_27 hK hI a) rfl) rfl ?_
    refine xx_ifb_eq (q := 26) (q2 := 22) rfl rfl rfl (fun h19 => ?_) (fun h19 => ?_)
    · refine xx_iconst (q := 27) rfl rfl (by decide) ?_
      refine xx_istore (q := 29) (loc2 := [_, _, _, _, _, _, _, _, _, _, _]) rfl rfl (Nat.le_of_ble_eq_true rfl) rfl ?_
      refine xx_iload_n (q := 30) rfl rfl rfl ?_
      refine xx_iconst (q := 31) rfl rfl (by decide) ?_
      refine xx_icmp_ne (q := 47) (q2 := 34) rfl rfl rfl (fun _ => ?_) (fun h31 => (by exfalso; omega))
      refine xx_iconst (q := 48) rfl rfl (by decide) ?_
      refine xx_istore (q := 50) (loc2 := [_, _, _, _, _, _, _, _, _, _, _]) rfl rfl (Nat.le_of_ble_eq_true rfl) rfl ?_
      refine xx_iload_n (q := 51) rfl rfl rfl ?_
      refine xx_iconst (q := 52) rfl rfl (by decide) ?_
      refine xx_icmp_ne (q := 81) (q2 := 55) rfl rfl rfl (fun _ => ?_) (fun h52 => (by exfalso; omega))
      refine xx_iconst (q := 82) rfl rfl (by decide) ?_
      refine xx_istore (q := 84) (loc2 := [_, _, _, _, _, _, _, _, _, _, _]) rfl rfl (Nat.le_of_ble_eq_true rfl) rfl ?_
      refine xx_iload_n (q := 85) rfl rfl rfl ?_
      refine xx_iconst (q := 86) rfl rfl (by decide) ?_
      refine xx_sipush (q := 89) rfl rfl (by decide) ?_
      refine xx_callS (q := 92) (As := [_, _, _]) (rest := []) rfl rfl rfl (Or.inl rfl) rfl rfl (Nat.le_of_ble_eq_true rfl) (XCm (c_within m 0 200) rfl) rfl ?_
      refine xx_ifb_eq (q := 110) (q2 := 95) rfl rfl rfl (fun h92 => ?_) (fun h92 => ?_)
      · refine xx_sipush (q := 113) rfl rfl (by decide) ?_
        refine xx_iret rfl trivial ⟨congrArg (fun z => some (Sum.inl z)) (by unfold ltrF; rw [if_neg (by omega)]), _, rfl, ?_⟩
        exact FX.rf
      · refine xx_iload (q := 97) rfl rfl rfl ?_
        refine xx_if_ne (q := 114) (q2 := 100) rfl rfl rfl (fun h97 => (by exfalso; omega)) (fun _ => ?_)
        refine xx_iload (q := 102) rfl rfl rfl ?_
        refine xx_if_ne (q := 114) (q2 := 105) rfl rfl rfl (fun h102 => (by exfalso; omega)) (fun _ => ?_)
        refine xx_iload (q := 107) rfl rfl rfl ?_
        refine xx_if_ne (q := 114) (q2 := 110) rfl rfl rfl (fun h107 => (by exfalso; omega)) (fun _ => ?_)
        refine xx_sipush (q := 113) rfl rfl (by decide) ?_
        refine xx_iret rfl trivial ⟨congrArg (fun z => some (Sum.inl z)) (by unfold ltrF; rw [if_neg (by omega)]), _, rfl, ?_⟩
        exact FX.rf
    · refine xx_iconst (q := 23) rfl rfl (by decide) ?_
      refine xx_goto (q := 27) rfl rfl ?_
      refine xx_istore (q := 29) (loc2 := [_, _, _, _, _, _, _, _, _, _, _]) rfl rfl (Nat.le_of_ble_eq_true rfl) rfl ?_
      refine xx_iload_n (q := 30) rfl rfl rfl ?_
      refine xx_iconst (q := 31) rfl rfl (by decide) ?_
      refine xx_icmp_ne (q := 47) (q2 := 34) rfl rfl rfl (fun _ => ?_) (fun h31 => (by exfalso; omega))
      refine xx_iconst (q := 48) rfl rfl (by decide) ?_
      refine xx_istore (q := 50) (loc2 := [_, _, _, _, _, _, _, _, _, _, _]) rfl rfl (Nat.le_of_ble_eq_true rfl) rfl ?_
      refine xx_iload_n (q := 51) rfl rfl rfl ?_
      refine xx_iconst (q := 52) rfl rfl (by decide) ?_
      refine xx_icmp_ne (q := 81) (q2 := 55) rfl rfl rfl (fun _ => ?_) (fun h52 => (by exfalso; omega))
      refine xx_iconst (q := 82) rfl rfl (by decide) ?_
      refine xx_istore (q := 84) (loc2 := [_, _, _, _, _, _, _, _, _, _, _]) rfl rfl (Nat.le_of_ble_eq_true rfl) rfl ?_
      refine xx_iload_n (q := 85) rfl rfl rfl ?_
      refine xx_iconst (q := 86) rfl rfl (by decide) ?_
      refine xx_sipush (q := 89) rfl rfl (by decide) ?_
      refine xx_callS (q := 92) (As := [_, _, _]) (rest := []) rfl rfl rfl (Or.inl rfl) rfl rfl (Nat.le_of_ble_eq_true rfl) (XCm (c_within m 0 200) rfl) rfl ?_
      refine xx_ifb_eq (q := 110) (q2 := 95) rfl rfl rfl (fun h92 => ?_) (fun h92 => ?_)
      · refine xx_sipush (q := 113) rfl rfl (by decide) ?_
        refine xx_iret rfl trivial ⟨congrArg (fun z => some (Sum.inl z)) (by unfold ltrF; rw [if_neg (by omega)]), _, rfl, ?_⟩
        exact FX.rf
      · refine xx_iload (q := 97) rfl rfl rfl ?_
        refine xx_if_ne (q := 114) (q2 := 100) rfl rfl rfl (fun _ => ?_) (fun h97 => (by exfalso; omega))
        refine xx_aload_n (q := 115) rfl rfl rfl ?_
        refine xx_getR (q := 118) rfl rfl rfl xS_5 (Nat.le_of_ble_eq_true rfl) rfl (hR.1 5 3 rfl) ?_
        refine xx_aload (q := 120) rfl rfl rfl ?_
        obtain ⟨D3, hx3, hK3, hG3⟩ := c_start (n := n) hR isC_27 (by decide) hK hI
        refine xx_callV (q := 123) (As := [_]) (rest := []) rfl rfl rfl (Or.inl rfl) rfl rfl (Nat.le_of_ble_eq_true rfl) xS_279 (XCm hx3 rfl) rfl ?_
        refine xx_astore (q := 125) (loc2 := [_, _, _, _, _, _, _, _, _, _, _]) rfl rfl (Nat.le_of_ble_eq_true rfl) rfl ?_
        refine xx_iconst (q := 126) rfl rfl (by decide) ?_
        refine xx_istore (q := 128) (loc2 := [_, _, _, _, _, _, _, _, _, _, _]) rfl rfl (Nat.le_of_ble_eq_true rfl) rfl ?_
        have e : ltrF K m w a c = ltrV (hrsT m.toNat K) w a c := if_pos ⟨h92, Or.inl ⟨h10, h19⟩⟩
        rw [e]
        unfold ltrV
        rw [if_pos h10]
        exact c_ltr_L hR m (by omega) w a c _ _ _ m.toNat K _ 0 hK3 hI Fr.rf (by omega) (by omega) (fun D2 i2 hL2 hI2 hF2 => c_ltr_E0 hR hL2 hI2 m w a c i2 (by omega) (by omega) (fun x k h1 h2 h3 => (hF2 x k (by omega) h2 h3).trans (hG3 x k (by omega) h2 h3)))
