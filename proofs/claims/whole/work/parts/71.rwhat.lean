/-! What is: the reference. -/
set_option maxHeartbeats 2000000 in
theorem r_depth {n : Nat} {R : Nat → Nat → Option Nat} {K D : KK} {b : Int} {B : Nat → Int} {U : UU} (hR : RF R) (hV : RV 0 K b B U D D) (hI : KI K) (p : Int) : ∃ D', XC 2 258 [.inr (some 479), .inl p] (xS n, R, D) (some (.inl (depF K p))) (xS n, R, D') ∧ PV (K) (b) (B) (U) D D' := by
  have hbB := ki_B hI
  have hbL := ki_L hI
  refine XE_of (Nat.le_of_ble_eq_true rfl) (Nat.le_of_ble_eq_true rfl) (loc := [_, _]) rfl ?_
  refine xx_aload_n (q := 1) rfl rfl rfl ?_
  refine xx_iconst (q := 2) rfl rfl (by decide) ?_
  refine xr_puz (PV K b B U D) (q := 5) rfl rfl rfl xS_479 (Nat.le_of_ble_eq_true rfl) (Nat.le_of_ble_eq_true rfl) (fun h => by cases h) (Or.inl rfl) ⟨hV.u (by decide), FQ.rf.up (by unfold restQ; omega)⟩ (fun D1 hP0 => ?_)
  refine xx_aload_n (q := 6) rfl rfl rfl ?_
  refine xx_iload_n (q := 7) rfl rfl rfl ?_
  refine xx_callV (q := 10) (As := [_]) (rest := []) rfl rfl rfl (Or.inl rfl) rfl rfl (Nat.le_of_ble_eq_true rfl) xS_479 (XCm (r_isPool hR hP0.1 hI p) rfl) rfl ?_
  refine xx_ifb_eq (q := 21) (q2 := 13) rfl rfl rfl (fun h10 => ?_) (fun h10 => ?_)
  · refine xx_iconst (q := 22) rfl rfl (by decide) ?_
    refine xx_iret rfl trivial ⟨congrArg (fun z => some (Sum.inl z)) (by grind [depF]), _, rfl, ?_⟩
    exact hP0
  · refine xx_aload_n (q := 14) rfl rfl rfl ?_
    refine xx_iload_n (q := 15) rfl rfl rfl ?_
    refine xx_callV (q := 18) (As := [_]) (rest := []) rfl rfl rfl (Or.inl rfl) rfl rfl (Nat.le_of_ble_eq_true rfl) xS_479 (XCm (r_depthOf hR hP0.1 hI p (by omega) (by omega)) rfl) rfl ?_
    have hb1 := ki_1 hI (p).toNat
    refine xx_goto (q := 22) rfl rfl ?_
    refine xx_iret rfl trivial ⟨congrArg (fun z => some (Sum.inl z)) (by grind [depF]), _, rfl, ?_⟩
    exact hP0
set_option maxHeartbeats 1000000 in
theorem r_fav_L {n : Nat} {R : Nat → Nat → Option Nat} {t : Int} {K D0 D : KK} {b : Int} {B : Nat → Int} {U : UU} (hR : RF R) (hV : RV t K b B U D0 D) (hI : KI K) (l : Int) (h0 : 0 ≤ l) (h1 : l < 9) : ∀ (k : Nat) (best c : Int), -1 ≤ best → best < c → c + k = K 13 0 → XX (XC 1) 259 (fun r2 m2 => r2 = some (.inl (favL k K l best c)) ∧ m2 = (xS n, R, D)) 4 [some (.inr (some 479)), some (.inl l), some (.inl best), some (.inl c)] [] (xS n, R, D) := by
  intro k
  induction k using Nat.strongRecOn with
  | ind k ih =>
  intro best c h2 h3 hk
  have hbB := ki_B hI
  refine xx_iload_n (q := 5) rfl rfl rfl ?_
  refine xx_aload_n (q := 6) rfl rfl rfl ?_
  refine xx_gez (q := 9) rfl rfl rfl xS_479 (Nat.le_of_ble_eq_true rfl) rfl (rv_B hV) ?_
  have hb1 : 0 ≤ K 13 0 ∧ K 13 0 ≤ 6 := by have h := ki_B hI; exact h
  refine xx_icmp_ge (q := 40) (q2 := 12) rfl rfl rfl (fun h9 => ?_) (fun h9 => ?_)
  · refine xx_iload_n (q := 41) rfl rfl rfl ?_
    obtain rfl : k = 0 := by omega
    exact xx_iret rfl trivial ⟨rfl, rfl⟩
  · obtain ⟨k, rfl⟩ : ∃ k2, k = k2 + 1 := ⟨k - 1, by omega⟩
    refine xx_iload_n (q := 13) rfl rfl rfl ?_
    refine xx_iconst (q := 14) rfl rfl (by decide) ?_
    refine xx_icmp_eq (q := 32) (q2 := 17) rfl rfl rfl (fun h14 => ?_) (fun h14 => ?_)
    · refine xx_iload_n (q := 33) rfl rfl rfl ?_
      refine xx_istore_n (q := 34) (loc2 := [_, _, _, _]) rfl rfl (Nat.le_of_ble_eq_true rfl) rfl ?_
      refine xx_incz (q := 37) (loc2 := [_, _, _, _]) rfl rfl rfl (by omega) (by omega) rfl rfl ?_
      refine xx_goto (q := 4) rfl rfl ?_
      have e2 : favL (k + 1) K l best c = favL k K l c (c + 1) := by simp only [favL]; congr 1; grind
      rw [e2]
      exact ih k (by omega) c (c + 1) (by omega) (by omega) (by omega)
    · refine xx_aload_n (q := 18) rfl rfl rfl ?_
      refine xx_iload_n (q := 19) rfl rfl rfl ?_
      refine xx_iload_n (q := 20) rfl rfl rfl ?_
      refine xx_callV (q := 23) (As := [_, _]) (rest := []) rfl rfl rfl (Or.inl rfl) rfl rfl (Nat.le_of_ble_eq_true rfl) xS_479 (XCm (r_likingOf (n := n) hR hV hI l c (by omega) (by omega) (by omega) (by omega)) rfl) rfl ?_
      have hb2 := ki_12 hI (l * 6 + c).toNat
      refine xx_aload_n (q := 24) rfl rfl rfl ?_
      refine xx_iload_n (q := 25) rfl rfl rfl ?_
      refine xx_iload_n (q := 26) rfl rfl rfl ?_
      refine xx_callV (q := 29) (As := [_, _]) (rest := [_]) rfl rfl rfl (Or.inl rfl) rfl rfl (Nat.le_of_ble_eq_true rfl) xS_479 (XCm (r_likingOf (n := n) hR hV hI l best (by omega) (by omega) (by omega) (by omega)) rfl) rfl ?_
      have hb3 := ki_12 hI (l * 6 + best).toNat
      refine xx_icmp_le (q := 34) (q2 := 32) rfl rfl rfl (fun h29 => ?_) (fun h29 => ?_)
      · refine xx_incz (q := 37) (loc2 := [_, _, _, _]) rfl rfl rfl (by omega) (by omega) rfl rfl ?_
        refine xx_goto (q := 4) rfl rfl ?_
        have e2 : favL (k + 1) K l best c = favL k K l best (c + 1) := by simp only [favL]; congr 1; grind
        rw [e2]
        exact ih k (by omega) best (c + 1) (by omega) (by omega) (by omega)
      · refine xx_iload_n (q := 33) rfl rfl rfl ?_
        refine xx_istore_n (q := 34) (loc2 := [_, _, _, _]) rfl rfl (Nat.le_of_ble_eq_true rfl) rfl ?_
        refine xx_incz (q := 37) (loc2 := [_, _, _, _]) rfl rfl rfl (by omega) (by omega) rfl rfl ?_
        refine xx_goto (q := 4) rfl rfl ?_
        have e2 : favL (k + 1) K l best c = favL k K l c (c + 1) := by simp only [favL]; congr 1; grind
        rw [e2]
        exact ih k (by omega) c (c + 1) (by omega) (by omega) (by omega)
set_option maxHeartbeats 1000000 in
theorem r_favouriteOf {n : Nat} {R : Nat → Nat → Option Nat} {t : Int} {K D0 D : KK} {b : Int} {B : Nat → Int} {U : UU} (hR : RF R) (hV : RV t K b B U D0 D) (hI : KI K) (l : Int) (h0 : 0 ≤ l) (h1 : l < 9) : XC 2 259 [.inr (some 479), .inl l] (xS n, R, D) (some (.inl (favF K l))) (xS n, R, D) := by
  have hbB := ki_B hI
  refine XC_of (Nat.le_of_ble_eq_true rfl) (Nat.le_of_ble_eq_true rfl) (loc := [_, _, _, _]) rfl ?_
  refine xx_iconst (q := 1) rfl rfl (by decide) ?_
  refine xx_istore_n (q := 2) (loc2 := [_, _, _, _]) rfl rfl (Nat.le_of_ble_eq_true rfl) rfl ?_
  refine xx_iconst (q := 3) rfl rfl (by decide) ?_
  refine xx_istore_n (q := 4) (loc2 := [_, _, _, _]) rfl rfl (Nat.le_of_ble_eq_true rfl) rfl ?_
  exact r_fav_L hR hV hI l h0 h1 (K 13 0).toNat (-1) 0 (by omega) (by omega) (by omega)
set_option maxHeartbeats 10000000 in
theorem r_at {n : Nat} {R : Nat → Nat → Option Nat} {K D : KK} {b : Int} {B : Nat → Int} {U : UU} (hR : RF R) (hV : RV 0 K b B U D D) (hI : KI K) (l w : Int) : ∃ D', XC 3 260 [.inr (some 479), .inl l, .inl w] (xS n, R, D) (some (.inl (atF K l w))) (xS n, R, D') ∧ PV (K) (b) (B) (U) D D' := by
  have hbB := ki_B hI
  have hbL := ki_L hI
  refine XE_of (Nat.le_of_ble_eq_true rfl) (Nat.le_of_ble_eq_true rfl) (loc := [_, _, _]) rfl ?_
  refine xx_aload_n (q := 1) rfl rfl rfl ?_
  refine xx_iconst (q := 2) rfl rfl (by decide) ?_
  refine xr_puz (PV K b B U D) (q := 5) rfl rfl rfl xS_479 (Nat.le_of_ble_eq_true rfl) (Nat.le_of_ble_eq_true rfl) (fun h => by cases h) (Or.inl rfl) ⟨hV.u (by decide), FQ.rf.up (by unfold restQ; omega)⟩ (fun D1 hP0 => ?_)
  refine xx_aload_n (q := 6) rfl rfl rfl ?_
  refine xx_iload_n (q := 7) rfl rfl rfl ?_
  refine xx_callV (q := 10) (As := [_]) (rest := []) rfl rfl rfl (Or.inl rfl) rfl rfl (Nat.le_of_ble_eq_true rfl) xS_479 (XCm (r_isLock hR hP0.1 hI l) rfl) rfl ?_
  refine xx_ifb_ne (q := 17) (q2 := 13) rfl rfl rfl (fun h10 => ?_) (fun h10 => ?_)
  · refine xx_iload_n (q := 18) rfl rfl rfl ?_
    refine xx_if_ne (q := 27) (q2 := 21) rfl rfl rfl (fun h18 => ?_) (fun h18 => ?_)
    · refine xx_iload_n (q := 28) rfl rfl rfl ?_
      refine xx_iconst (q := 29) rfl rfl (by decide) ?_
      refine xx_icmp_ne (q := 39) (q2 := 32) rfl rfl rfl (fun h29 => ?_) (fun h29 => ?_)
      · refine xx_iload_n (q := 40) rfl rfl rfl ?_
        refine xx_iconst (q := 41) rfl rfl (by decide) ?_
        refine xx_icmp_ne (q := 50) (q2 := 44) rfl rfl rfl (fun h41 => ?_) (fun h41 => ?_)
        · refine xx_iload_n (q := 51) rfl rfl rfl ?_
          refine xx_iconst (q := 52) rfl rfl (by decide) ?_
          refine xx_icmp_ne (q := 65) (q2 := 55) rfl rfl rfl (fun h52 => ?_) (fun h52 => ?_)
          · refine xx_iload_n (q := 66) rfl rfl rfl ?_
            refine xx_iconst (q := 67) rfl rfl (by decide) ?_
            refine xx_icmp_ne (q := 76) (q2 := 70) rfl rfl rfl (fun h67 => ?_) (fun h67 => ?_)
            · refine xx_iload_n (q := 77) rfl rfl rfl ?_
              refine xx_iconst (q := 78) rfl rfl (by decide) ?_
              refine xx_icmp_ne (q := 91) (q2 := 81) rfl rfl rfl (fun h78 => ?_) (fun h78 => ?_)
              · refine xx_iload_n (q := 92) rfl rfl rfl ?_
                refine xx_bipush (q := 94) rfl rfl (by decide) ?_
                refine xx_icmp_ne (q := 107) (q2 := 97) rfl rfl rfl (fun h94 => ?_) (fun h94 => ?_)
                · refine xx_iload_n (q := 108) rfl rfl rfl ?_
                  refine xx_bipush (q := 110) rfl rfl (by decide) ?_
                  refine xx_icmp_ne (q := 119) (q2 := 113) rfl rfl rfl (fun h110 => ?_) (fun h110 => ?_)
                  · refine xx_aload_n (q := 120) rfl rfl rfl ?_
                    refine xx_iload_n (q := 121) rfl rfl rfl ?_
                    refine xx_bipush (q := 123) rfl rfl (by decide) ?_
                    refine xx_bipush (q := 125) rfl rfl (by decide) ?_
                    refine xx_callV (q := 128) (As := [_, _, _]) (rest := []) rfl rfl rfl (Or.inl rfl) rfl rfl (Nat.le_of_ble_eq_true rfl) xS_479 (XCm (r_isIn w 10 13) rfl) rfl ?_
                    refine xx_ifb_eq (q := 145) (q2 := 131) rfl rfl rfl (fun h128 => ?_) (fun h128 => ?_)
                    · refine xx_aload_n (q := 146) rfl rfl rfl ?_
                      refine xx_iload_n (q := 147) rfl rfl rfl ?_
                      refine xx_bipush (q := 149) rfl rfl (by decide) ?_
                      refine xx_bipush (q := 151) rfl rfl (by decide) ?_
                      refine xx_aload_n (q := 152) rfl rfl rfl ?_
                      refine xx_gez (q := 155) rfl rfl rfl xS_479 (Nat.le_of_ble_eq_true rfl) rfl (rv_B hP0.1) ?_
                      have hb1 : 0 ≤ K 13 0 ∧ K 13 0 ≤ 6 := by have h := ki_B hI; exact h
                      refine xx_iaddR (q := 156) rfl rfl (by omega) (by omega) ?_
                      refine xx_callV (q := 159) (As := [_, _, _]) (rest := []) rfl rfl rfl (Or.inl rfl) rfl rfl (Nat.le_of_ble_eq_true rfl) xS_479 (XCm (r_isIn w 20 (19 + (K 13 0))) rfl) rfl ?_
                      refine xx_ifb_eq (q := 174) (q2 := 162) rfl rfl rfl (fun h159 => ?_) (fun h159 => ?_)
                      · refine xx_sipush (q := 177) rfl rfl (by decide) ?_
                        refine xx_iret rfl trivial ⟨congrArg (fun z => some (Sum.inl z)) (by grind [atF]), _, rfl, ?_⟩
                        exact hP0
                      · refine xx_aload_n (q := 163) rfl rfl rfl ?_
                        refine xx_iload_n (q := 164) rfl rfl rfl ?_
                        refine xx_iload_n (q := 165) rfl rfl rfl ?_
                        refine xx_bipush (q := 167) rfl rfl (by decide) ?_
                        refine xx_isubR (q := 168) rfl rfl (by omega) (by omega) ?_
                        refine xx_callV (q := 171) (As := [_, _]) (rest := []) rfl rfl rfl (Or.inl rfl) rfl rfl (Nat.le_of_ble_eq_true rfl) xS_479 (XCm (r_likingOf (n := n) hR hP0.1 hI l (w - 20) (by omega) (by omega) (by omega) (by omega)) rfl) rfl ?_
                        have hb2 := ki_12 hI (l * 6 + (w - 20)).toNat
                        refine xx_goto (q := 177) rfl rfl ?_
                        refine xx_iret rfl trivial ⟨congrArg (fun z => some (Sum.inl z)) (by grind [atF]), _, rfl, ?_⟩
                        exact hP0
                    · refine xx_aload_n (q := 132) rfl rfl rfl ?_
                      refine xx_getR (q := 135) rfl rfl rfl xS_479 (Nat.le_of_ble_eq_true rfl) rfl (hR.1 479 12 rfl) ?_
                      refine xx_iconst (q := 136) rfl rfl (by decide) ?_
                      refine xx_iload_n (q := 137) rfl rfl rfl ?_
                      refine xx_imulR (q := 138) rfl rfl (by omega) (by omega) ?_
                      refine xx_iload_n (q := 139) rfl rfl rfl ?_
                      refine xx_iaddR (q := 140) rfl rfl (by omega) (by omega) ?_
                      refine xx_bipush (q := 142) rfl rfl (by decide) ?_
                      refine xx_isubR (q := 143) rfl rfl (by omega) (by omega) ?_
                      refine xx_iaz (v := K 11 (l * 4 + (w - 10)).toNat) (q := 144) rfl rfl xS_487 (by omega) (by omega) (by rw [show ((4 * l) + w) - 10 = l * 4 + (w - 10) by omega]; exact rv_487 hP0.1 (by omega) (by omega)) ?_
                      refine xx_iret rfl trivial ⟨congrArg (fun z => some (Sum.inl z)) (by grind [atF]), _, rfl, ?_⟩
                      exact hP0
                  · refine xx_aload_n (q := 114) rfl rfl rfl ?_
                    refine xx_iload_n (q := 115) rfl rfl rfl ?_
                    refine xx_callV (q := 118) (As := [_]) (rest := []) rfl rfl rfl (Or.inl rfl) rfl rfl (Nat.le_of_ble_eq_true rfl) xS_479 (XCm (r_favouriteOf hR hP0.1 hI l (by omega) (by omega)) rfl) rfl ?_
                    have hb3 := favF_b hI l
                    refine xx_iret rfl trivial ⟨congrArg (fun z => some (Sum.inl z)) (by grind [atF]), _, rfl, ?_⟩
                    exact hP0
                · refine xx_aload_n (q := 98) rfl rfl rfl ?_
                  refine xx_getR (q := 101) rfl rfl rfl xS_479 (Nat.le_of_ble_eq_true rfl) rfl (hR.1 479 1 rfl) ?_
                  refine xx_bipush (q := 103) rfl rfl (by decide) ?_
                  refine xx_iload_n (q := 104) rfl rfl rfl ?_
                  refine xx_iaddR (q := 105) rfl rfl (by omega) (by omega) ?_
                  refine xx_iaz (v := K 10 (l).toNat) (q := 106) rfl rfl xS_480 (by omega) (by omega) (rv_10 hP0.1 (p := l) (by omega) (by omega)) ?_
                  have hb4 : -2147483648 ≤ K 10 (l).toNat ∧ K 10 (l).toNat ≤ 2147483647 := by have h := ki_10 hI (l).toNat; exact h
                  refine xx_iret rfl trivial ⟨congrArg (fun z => some (Sum.inl z)) (by grind [atF]), _, rfl, ?_⟩
                  exact hP0
              · refine xx_aload_n (q := 82) rfl rfl rfl ?_
                refine xx_getR (q := 85) rfl rfl rfl xS_479 (Nat.le_of_ble_eq_true rfl) rfl (hR.1 479 1 rfl) ?_
                refine xx_bipush (q := 87) rfl rfl (by decide) ?_
                refine xx_iload_n (q := 88) rfl rfl rfl ?_
                refine xx_iaddR (q := 89) rfl rfl (by omega) (by omega) ?_
                refine xx_iaz (v := K 5 (l).toNat) (q := 90) rfl rfl xS_480 (by omega) (by omega) (rv_5 hP0.1 (p := l) (by omega) (by omega)) ?_
                have hb5 : -2147483648 ≤ K 5 (l).toNat ∧ K 5 (l).toNat ≤ 2147483647 := by have h := ki_5 hI (l).toNat; exact h
                refine xx_iret rfl trivial ⟨congrArg (fun z => some (Sum.inl z)) (by grind [atF]), _, rfl, ?_⟩
                exact hP0
            · refine xx_aload_n (q := 71) rfl rfl rfl ?_
              refine xx_iload_n (q := 72) rfl rfl rfl ?_
              refine xx_callV (q := 75) (As := [_]) (rest := []) rfl rfl rfl (Or.inl rfl) rfl rfl (Nat.le_of_ble_eq_true rfl) xS_479 (XCm (r_rivalOf hR hP0.1 hI l (by omega) (by omega)) rfl) rfl ?_
              have hb6 := ki_9 hI (l).toNat
              refine xx_iret rfl trivial ⟨congrArg (fun z => some (Sum.inl z)) (by grind [atF]), _, rfl, ?_⟩
              exact hP0
          · refine xx_aload_n (q := 56) rfl rfl rfl ?_
            refine xx_getR (q := 59) rfl rfl rfl xS_479 (Nat.le_of_ble_eq_true rfl) rfl (hR.1 479 1 rfl) ?_
            refine xx_bipush (q := 61) rfl rfl (by decide) ?_
            refine xx_iload_n (q := 62) rfl rfl rfl ?_
            refine xx_iaddR (q := 63) rfl rfl (by omega) (by omega) ?_
            refine xx_iaz (v := K 8 (l).toNat) (q := 64) rfl rfl xS_480 (by omega) (by omega) (rv_8 hP0.1 (p := l) (by omega) (by omega)) ?_
            have hb7 : -99 ≤ K 8 (l).toNat ∧ K 8 (l).toNat ≤ 99 := by have h := ki_8 hI (l).toNat; exact h
            refine xx_iret rfl trivial ⟨congrArg (fun z => some (Sum.inl z)) (by grind [atF]), _, rfl, ?_⟩
            exact hP0
        · refine xx_aload_n (q := 45) rfl rfl rfl ?_
          refine xx_iload_n (q := 46) rfl rfl rfl ?_
          refine xx_callV (q := 49) (As := [_]) (rest := []) rfl rfl rfl (Or.inl rfl) rfl rfl (Nat.le_of_ble_eq_true rfl) xS_479 (XCm (r_wideOf hR hP0.1 hI l (by omega) (by omega)) rfl) rfl ?_
          have hb8 := ki_4 hI (l).toNat
          refine xx_iret rfl trivial ⟨congrArg (fun z => some (Sum.inl z)) (by grind [atF]), _, rfl, ?_⟩
          exact hP0
      · refine xx_aload_n (q := 33) rfl rfl rfl ?_
        refine xx_getR (q := 36) rfl rfl rfl xS_479 (Nat.le_of_ble_eq_true rfl) rfl (hR.1 479 9 rfl) ?_
        refine xx_iload_n (q := 37) rfl rfl rfl ?_
        refine xx_iaz (v := K 3 (l).toNat) (q := 38) rfl rfl xS_484 (by omega) (by omega) (rv_484 hP0.1 (p := l) (by omega) (by omega)) ?_
        have hb9 : 0 ≤ K 3 (l).toNat ∧ K 3 (l).toNat ≤ 9 := by have h := ki_3 hI (l).toNat; exact h
        refine xx_iret rfl trivial ⟨congrArg (fun z => some (Sum.inl z)) (by grind [atF]), _, rfl, ?_⟩
        exact hP0
    · refine xx_aload_n (q := 22) rfl rfl rfl ?_
      refine xx_iload_n (q := 23) rfl rfl rfl ?_
      refine xx_callV (q := 26) (As := [_]) (rest := []) rfl rfl rfl (Or.inl rfl) rfl rfl (Nat.le_of_ble_eq_true rfl) xS_479 (XCm (r_fillOf hR hP0.1 hI l (by omega) (by omega)) rfl) rfl ?_
      have hb10 := ki_2 hI (l).toNat
      refine xx_iret rfl trivial ⟨congrArg (fun z => some (Sum.inl z)) (by grind [atF]), _, rfl, ?_⟩
      exact hP0
  · refine xx_sipush (q := 16) rfl rfl (by decide) ?_
    refine xx_iret rfl trivial ⟨congrArg (fun z => some (Sum.inl z)) (by grind [atF]), _, rfl, ?_⟩
    exact hP0
set_option maxHeartbeats 4000000 in
theorem r_of {n : Nat} {R : Nat → Nat → Option Nat} {K D : KK} {b : Int} {B : Nat → Int} {U : UU} (hR : RF R) (hV : RV 0 K b B U D D) (hI : KI K) (c w : Int) : ∃ D', XC 2 261 [.inr (some 479), .inl c, .inl w] (xS n, R, D) (some (.inl (ofF K c w))) (xS n, R, D') ∧ PV (K) (b) (B) (U) D D' := by
  have hbB := ki_B hI
  have hbL := ki_L hI
  refine XE_of (Nat.le_of_ble_eq_true rfl) (Nat.le_of_ble_eq_true rfl) (loc := [_, _, _]) rfl ?_
  refine xx_aload_n (q := 1) rfl rfl rfl ?_
  refine xx_iconst (q := 2) rfl rfl (by decide) ?_
  refine xr_puz (PV K b B U D) (q := 5) rfl rfl rfl xS_479 (Nat.le_of_ble_eq_true rfl) (Nat.le_of_ble_eq_true rfl) (fun h => by cases h) (Or.inl rfl) ⟨hV.u (by decide), FQ.rf.up (by unfold restQ; omega)⟩ (fun D1 hP0 => ?_)
  refine xx_aload_n (q := 6) rfl rfl rfl ?_
  refine xx_iload_n (q := 7) rfl rfl rfl ?_
  refine xx_callV (q := 10) (As := [_]) (rest := []) rfl rfl rfl (Or.inl rfl) rfl rfl (Nat.le_of_ble_eq_true rfl) xS_479 (XCm (r_isBoat hR hP0.1 hI c) rfl) rfl ?_
  refine xx_ifb_ne (q := 15) (q2 := 13) rfl rfl rfl (fun h10 => ?_) (fun h10 => ?_)
  · refine xx_iload_n (q := 16) rfl rfl rfl ?_
    refine xx_if_ne (q := 29) (q2 := 19) rfl rfl rfl (fun h16 => ?_) (fun h16 => ?_)
    · refine xx_iload_n (q := 30) rfl rfl rfl ?_
      refine xx_iconst (q := 31) rfl rfl (by decide) ?_
      refine xx_icmp_ne (q := 41) (q2 := 34) rfl rfl rfl (fun h31 => ?_) (fun h31 => ?_)
      · refine xx_iload_n (q := 42) rfl rfl rfl ?_
        refine xx_iconst (q := 43) rfl rfl (by decide) ?_
        refine xx_icmp_ne (q := 53) (q2 := 46) rfl rfl rfl (fun h43 => ?_) (fun h43 => ?_)
        · refine xx_aload_n (q := 54) rfl rfl rfl ?_
          refine xx_iload_n (q := 55) rfl rfl rfl ?_
          refine xx_bipush (q := 57) rfl rfl (by decide) ?_
          refine xx_bipush (q := 59) rfl rfl (by decide) ?_
          refine xx_callV (q := 62) (As := [_, _, _]) (rest := []) rfl rfl rfl (Or.inl rfl) rfl rfl (Nat.le_of_ble_eq_true rfl) xS_479 (XCm (r_isIn w 10 13) rfl) rfl ?_
          refine xx_ifb_eq (q := 77) (q2 := 65) rfl rfl rfl (fun h62 => ?_) (fun h62 => ?_)
          · refine xx_iconst (q := 78) rfl rfl (by decide) ?_
            refine xx_iret rfl trivial ⟨congrArg (fun z => some (Sum.inl z)) (by grind [ofF]), _, rfl, ?_⟩
            exact hP0
          · refine xx_aload_n (q := 66) rfl rfl rfl ?_
            refine xx_iload_n (q := 67) rfl rfl rfl ?_
            refine xx_iload_n (q := 68) rfl rfl rfl ?_
            refine xx_bipush (q := 70) rfl rfl (by decide) ?_
            refine xx_isubR (q := 71) rfl rfl (by omega) (by omega) ?_
            refine xx_callV (q := 74) (As := [_, _]) (rest := []) rfl rfl rfl (Or.inl rfl) rfl rfl (Nat.le_of_ble_eq_true rfl) xS_479 (XCm (r_cargoOf (n := n) hR hP0.1 hI c (w - 10) (by omega) (by omega) (by omega) (by omega)) rfl) rfl ?_
            have hb1 := ki_17 hI (c * 4 + (w - 10)).toNat
            refine xx_goto (q := 78) rfl rfl ?_
            refine xx_iret rfl trivial ⟨congrArg (fun z => some (Sum.inl z)) (by grind [ofF]), _, rfl, ?_⟩
            exact hP0
        · refine xx_aload_n (q := 47) rfl rfl rfl ?_
          refine xx_getR (q := 50) rfl rfl rfl xS_479 (Nat.le_of_ble_eq_true rfl) rfl (hR.1 479 14 rfl) ?_
          refine xx_iload_n (q := 51) rfl rfl rfl ?_
          refine xx_iaz (v := K 16 (c).toNat) (q := 52) rfl rfl xS_489 (by omega) (by omega) (rv_489 hP0.1 (p := c) (by omega) (by omega)) ?_
          have hb2 : 0 ≤ K 16 (c).toNat ∧ K 16 (c).toNat ≤ 9 := by have h := ki_16 hI (c).toNat; exact h
          refine xx_iret rfl trivial ⟨congrArg (fun z => some (Sum.inl z)) (by grind [ofF]), _, rfl, ?_⟩
          exact hP0
      · refine xx_aload_n (q := 35) rfl rfl rfl ?_
        refine xx_getR (q := 38) rfl rfl rfl xS_479 (Nat.le_of_ble_eq_true rfl) rfl (hR.1 479 13 rfl) ?_
        refine xx_iload_n (q := 39) rfl rfl rfl ?_
        refine xx_iaz (v := K 15 (c).toNat) (q := 40) rfl rfl xS_488 (by omega) (by omega) (rv_488 hP0.1 (p := c) (by omega) (by omega)) ?_
        have hb3 : 0 ≤ K 15 (c).toNat ∧ K 15 (c).toNat ≤ 99 := by have h := ki_15 hI (c).toNat; exact h
        refine xx_iret rfl trivial ⟨congrArg (fun z => some (Sum.inl z)) (by grind [ofF]), _, rfl, ?_⟩
        exact hP0
    · refine xx_aload_n (q := 20) rfl rfl rfl ?_
      refine xx_getR (q := 23) rfl rfl rfl xS_479 (Nat.le_of_ble_eq_true rfl) rfl (hR.1 479 1 rfl) ?_
      refine xx_bipush (q := 25) rfl rfl (by decide) ?_
      refine xx_iload_n (q := 26) rfl rfl rfl ?_
      refine xx_iaddR (q := 27) rfl rfl (by omega) (by omega) ?_
      refine xx_iaz (v := K 14 (c).toNat) (q := 28) rfl rfl xS_480 (by omega) (by omega) (rv_14 hP0.1 (p := c) (by omega) (by omega)) ?_
      have hb4 : 0 ≤ K 14 (c).toNat ∧ K 14 (c).toNat ≤ 9 := by have h := ki_14 hI (c).toNat; exact h
      refine xx_iret rfl trivial ⟨congrArg (fun z => some (Sum.inl z)) (by grind [ofF]), _, rfl, ?_⟩
      exact hP0
  · refine xx_iconst (q := 14) rfl rfl (by decide) ?_
    refine xx_iret rfl trivial ⟨congrArg (fun z => some (Sum.inl z)) (by grind [ofF]), _, rfl, ?_⟩
    exact hP0
set_option maxHeartbeats 2000000 in
theorem r_book {n : Nat} {R : Nat → Nat → Option Nat} {K D : KK} {b : Int} {B : Nat → Int} {U : UU} (hR : RF R) (hV : RV 0 K b B U D D) (hI : KI K) (i w : Int) : ∃ D', XC 2 262 [.inr (some 479), .inl i, .inl w] (xS n, R, D) (some (.inl (bokF b B i w))) (xS n, R, D') ∧ PV (K) (b) (B) (U) D D' := by
  have hb0 := hV.2.2.2.1
  refine XE_of (Nat.le_of_ble_eq_true rfl) (Nat.le_of_ble_eq_true rfl) (loc := [_, _, _]) rfl ?_
  refine xx_aload_n (q := 1) rfl rfl rfl ?_
  refine xx_iconst (q := 2) rfl rfl (by decide) ?_
  refine xr_puz (PV K b B U D) (q := 5) rfl rfl rfl xS_479 (Nat.le_of_ble_eq_true rfl) (Nat.le_of_ble_eq_true rfl) (fun h => by cases h) (Or.inl rfl) ⟨hV.u (by decide), FQ.rf.up (by unfold restQ; omega)⟩ (fun D1 hP0 => ?_)
  refine xx_aload_n (q := 6) rfl rfl rfl ?_
  refine xx_iload_n (q := 7) rfl rfl rfl ?_
  refine xx_iconst (q := 8) rfl rfl (by decide) ?_
  refine xx_aload_n (q := 9) rfl rfl rfl ?_
  refine xx_getR (q := 12) rfl rfl rfl xS_479 (Nat.le_of_ble_eq_true rfl) rfl (hR.1 479 1 rfl) ?_
  refine xx_iconst (q := 13) rfl rfl (by decide) ?_
  refine xx_iaz (v := b) (q := 14) rfl rfl xS_480 (by omega) (by omega) (rv_b hP0.1) ?_
  have hb1 := hP0.1.2.2.2.1
  refine xx_iconst (q := 15) rfl rfl (by decide) ?_
  refine xx_isubR (q := 16) rfl rfl (by omega) (by omega) ?_
  refine xx_callV (q := 19) (As := [_, _, _]) (rest := []) rfl rfl rfl (Or.inl rfl) rfl rfl (Nat.le_of_ble_eq_true rfl) xS_479 (XCm (r_isIn i 0 (b - 1)) rfl) rfl ?_
  refine xx_ifb_eq (q := 45) (q2 := 22) rfl rfl rfl (fun h19 => ?_) (fun h19 => ?_)
  · refine xx_iconst (q := 46) rfl rfl (by decide) ?_
    refine xx_iret rfl trivial ⟨congrArg (fun z => some (Sum.inl z)) (by grind [bokF]), _, rfl, ?_⟩
    exact hP0
  · refine xx_aload_n (q := 23) rfl rfl rfl ?_
    refine xx_iload_n (q := 24) rfl rfl rfl ?_
    refine xx_iconst (q := 25) rfl rfl (by decide) ?_
    refine xx_iconst (q := 26) rfl rfl (by decide) ?_
    refine xx_callV (q := 29) (As := [_, _, _]) (rest := []) rfl rfl rfl (Or.inl rfl) rfl rfl (Nat.le_of_ble_eq_true rfl) xS_479 (XCm (r_isIn w 0 4) rfl) rfl ?_
    refine xx_ifb_eq (q := 45) (q2 := 32) rfl rfl rfl (fun h29 => ?_) (fun h29 => ?_)
    · refine xx_iconst (q := 46) rfl rfl (by decide) ?_
      refine xx_iret rfl trivial ⟨congrArg (fun z => some (Sum.inl z)) (by grind [bokF]), _, rfl, ?_⟩
      exact hP0
    · refine xx_aload_n (q := 33) rfl rfl rfl ?_
      refine xx_getR (q := 36) rfl rfl rfl xS_479 (Nat.le_of_ble_eq_true rfl) rfl (hR.1 479 22 rfl) ?_
      refine xx_iconst (q := 37) rfl rfl (by decide) ?_
      refine xx_iload_n (q := 38) rfl rfl rfl ?_
      refine xx_imulR (q := 39) rfl rfl (by omega) (by omega) ?_
      refine xx_iload_n (q := 40) rfl rfl rfl ?_
      refine xx_iaddR (q := 41) rfl rfl (by omega) (by omega) ?_
      refine xx_iaz (v := B (i * 5 + w).toNat) (q := 42) rfl rfl xS_496 (by omega) (by omega) (by rw [show (5 * i) + w = i * 5 + w by omega]; exact hP0.1.2.2.2.2.1 _ (by omega)) ?_
      refine xx_goto (q := 46) rfl rfl ?_
      refine xx_iret rfl trivial ⟨congrArg (fun z => some (Sum.inl z)) (by grind [bokF]), _, rfl, ?_⟩
      exact hP0
set_option maxHeartbeats 4000000 in
theorem r_didPour {n : Nat} {R : Nat → Nat → Option Nat} {t : Int} {K D0 D : KK} {b : Int} {B : Nat → Int} {U : UU} (hR : RF R) (hV : RV t K b B U D0 D) (hI : KI K) (i p : Int) (h0 : 0 ≤ i) (h1 : i < 150) : XC 1 293 [.inr (some 479), .inl i, .inl p] (xS n, R, D) (some (.inl (bi (didP B i p (K 0 0) = true)))) (xS n, R, D) := by
  refine XC_of (Nat.le_of_ble_eq_true rfl) (Nat.le_of_ble_eq_true rfl) (loc := [_, _, _, _]) rfl ?_
  refine xx_aload_n (q := 1) rfl rfl rfl ?_
  refine xx_getR (q := 4) rfl rfl rfl xS_479 (Nat.le_of_ble_eq_true rfl) rfl (hR.1 479 22 rfl) ?_
  refine xx_iconst (q := 5) rfl rfl (by decide) ?_
  refine xx_iload_n (q := 6) rfl rfl rfl ?_
  refine xx_imulR (q := 7) rfl rfl (by omega) (by omega) ?_
  refine xx_iconst (q := 8) rfl rfl (by decide) ?_
  refine xx_iaddR (q := 9) rfl rfl (by omega) (by omega) ?_
  refine xx_iaz (v := B (i * 5 + 1).toNat) (q := 10) rfl rfl xS_496 (by omega) (by omega) (by rw [show (5 * i) + 1 = i * 5 + 1 by omega]; exact hV.2.2.2.2.1 _ (by omega)) ?_
  refine xx_istore_n (q := 11) (loc2 := [_, _, _, _]) rfl rfl (Nat.le_of_ble_eq_true rfl) rfl ?_
  refine xx_iload_n (q := 12) rfl rfl rfl ?_
  refine xx_if_eq (q := 20) (q2 := 15) rfl rfl rfl (fun h12 => ?_) (fun h12 => ?_)
  · refine xx_aload_n (q := 21) rfl rfl rfl ?_
    refine xx_getR (q := 24) rfl rfl rfl xS_479 (Nat.le_of_ble_eq_true rfl) rfl (hR.1 479 22 rfl) ?_
    refine xx_iconst (q := 25) rfl rfl (by decide) ?_
    refine xx_iload_n (q := 26) rfl rfl rfl ?_
    refine xx_imulR (q := 27) rfl rfl (by omega) (by omega) ?_
    refine xx_iconst (q := 28) rfl rfl (by decide) ?_
    refine xx_iaddR (q := 29) rfl rfl (by omega) (by omega) ?_
    refine xx_iaz (v := B (i * 5 + 2).toNat) (q := 30) rfl rfl xS_496 (by omega) (by omega) (by rw [show (5 * i) + 2 = i * 5 + 2 by omega]; exact hV.2.2.2.2.1 _ (by omega)) ?_
    refine xx_iconst (q := 31) rfl rfl (by decide) ?_
    refine xx_iadd (q := 32) rfl rfl ?_
    refine xx_iload_n (q := 33) rfl rfl rfl ?_
    refine xx_icmp_ne (q := 40) (q2 := 36) rfl rfl rfl (fun h33 => ?_) (fun h33 => ?_)
    · refine xx_iconst (q := 41) rfl rfl (by decide) ?_
      exact xx_iret rfl (Or.inl rfl) ⟨congrArg (fun z => some (Sum.inl z)) (by simp only [didP]; grind [bi]), rfl⟩
    · refine xx_iconst (q := 37) rfl rfl (by decide) ?_
      refine xx_goto (q := 41) rfl rfl ?_
      exact xx_iret rfl (Or.inr rfl) ⟨congrArg (fun z => some (Sum.inl z)) (by simp only [didP]; grind [bi]), rfl⟩
  · refine xx_iload_n (q := 16) rfl rfl rfl ?_
    refine xx_iconst (q := 17) rfl rfl (by decide) ?_
    refine xx_icmp_ne (q := 42) (q2 := 20) rfl rfl rfl (fun h17 => ?_) (fun h17 => ?_)
    · refine xx_iload_n (q := 43) rfl rfl rfl ?_
      refine xx_iconst (q := 44) rfl rfl (by decide) ?_
      refine xx_icmp_ne (q := 59) (q2 := 47) rfl rfl rfl (fun h44 => ?_) (fun h44 => ?_)
      · refine xx_iload_n (q := 60) rfl rfl rfl ?_
        refine xx_iconst (q := 61) rfl rfl (by decide) ?_
        refine xx_icmp_ne (q := 76) (q2 := 64) rfl rfl rfl (fun h61 => ?_) (fun h61 => ?_)
        · refine xx_iconst (q := 77) rfl rfl (by decide) ?_
          exact xx_iret rfl (Or.inl rfl) ⟨congrArg (fun z => some (Sum.inl z)) (by simp only [didP]; grind [bi]), rfl⟩
        · refine xx_iload_n (q := 65) rfl rfl rfl ?_
          refine xx_aload_n (q := 66) rfl rfl rfl ?_
          refine xx_gez (q := 69) rfl rfl rfl xS_479 (Nat.le_of_ble_eq_true rfl) rfl (rv_L hV) ?_
          have hb1 : 1 ≤ K 0 0 ∧ K 0 0 ≤ 9 := by have h := ki_L hI; exact h
          refine xx_icmp_ne (q := 76) (q2 := 72) rfl rfl rfl (fun h69 => ?_) (fun h69 => ?_)
          · refine xx_iconst (q := 77) rfl rfl (by decide) ?_
            exact xx_iret rfl (Or.inl rfl) ⟨congrArg (fun z => some (Sum.inl z)) (by simp only [didP]; grind [bi]), rfl⟩
          · refine xx_iconst (q := 73) rfl rfl (by decide) ?_
            refine xx_goto (q := 77) rfl rfl ?_
            exact xx_iret rfl (Or.inr rfl) ⟨congrArg (fun z => some (Sum.inl z)) (by simp only [didP]; grind [bi]), rfl⟩
      · refine xx_iload_n (q := 48) rfl rfl rfl ?_
        refine xx_if_ne (q := 55) (q2 := 51) rfl rfl rfl (fun h48 => ?_) (fun h48 => ?_)
        · refine xx_iconst (q := 56) rfl rfl (by decide) ?_
          refine xx_goto (q := 77) rfl rfl ?_
          exact xx_iret rfl (Or.inl rfl) ⟨congrArg (fun z => some (Sum.inl z)) (by simp only [didP]; grind [bi]), rfl⟩
        · refine xx_iconst (q := 52) rfl rfl (by decide) ?_
          refine xx_goto (q := 77) rfl rfl ?_
          exact xx_iret rfl (Or.inr rfl) ⟨congrArg (fun z => some (Sum.inl z)) (by simp only [didP]; grind [bi]), rfl⟩
    · refine xx_aload_n (q := 21) rfl rfl rfl ?_
      refine xx_getR (q := 24) rfl rfl rfl xS_479 (Nat.le_of_ble_eq_true rfl) rfl (hR.1 479 22 rfl) ?_
      refine xx_iconst (q := 25) rfl rfl (by decide) ?_
      refine xx_iload_n (q := 26) rfl rfl rfl ?_
      refine xx_imulR (q := 27) rfl rfl (by omega) (by omega) ?_
      refine xx_iconst (q := 28) rfl rfl (by decide) ?_
      refine xx_iaddR (q := 29) rfl rfl (by omega) (by omega) ?_
      refine xx_iaz (v := B (i * 5 + 2).toNat) (q := 30) rfl rfl xS_496 (by omega) (by omega) (by rw [show (5 * i) + 2 = i * 5 + 2 by omega]; exact hV.2.2.2.2.1 _ (by omega)) ?_
      refine xx_iconst (q := 31) rfl rfl (by decide) ?_
      refine xx_iadd (q := 32) rfl rfl ?_
      refine xx_iload_n (q := 33) rfl rfl rfl ?_
      refine xx_icmp_ne (q := 40) (q2 := 36) rfl rfl rfl (fun h33 => ?_) (fun h33 => ?_)
      · refine xx_iconst (q := 41) rfl rfl (by decide) ?_
        exact xx_iret rfl (Or.inl rfl) ⟨congrArg (fun z => some (Sum.inl z)) (by simp only [didP]; grind [bi]), rfl⟩
      · refine xx_iconst (q := 37) rfl rfl (by decide) ?_
        refine xx_goto (q := 41) rfl rfl ?_
        exact xx_iret rfl (Or.inr rfl) ⟨congrArg (fun z => some (Sum.inl z)) (by simp only [didP]; grind [bi]), rfl⟩
