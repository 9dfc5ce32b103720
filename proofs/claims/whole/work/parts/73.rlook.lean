/-! Looks, undo, thoughts by their names: the reference. -/
theorem restQ_479 {k : Nat} (h : k = 16 ∨ k = 24 ∨ k = 44 ∨ k = 45 ∨ k = 47 ∨ k = 63) : restQ 479 k := by unfold restQ; omega
set_option maxHeartbeats 20000000 in
theorem r_look {n : Nat} {R : Nat → Nat → Option Nat} {K D : KK} {b : Int} {B : Nat → Int} {U : UU} (hR : RF R) (hV : RV 0 K b B U D D) (hI : KI K) {lg lh pc yc : Int} {sn nd : Nat → Int} (hlg : D 499 0 = lg) (hlh : D 499 1 = lh) (hpc : D 479 47 = pc) (hyc : D 479 16 = yc) (hsn : ∀ k, k < 10 → D 494 k = sn k) (hnd : ∀ k, k < 10 → D 495 k = nd k) (w : Int) : ∃ D', XC 3 300 [.inr (some 479), .inl w] (xS n, R, D) (some (.inl (lkkF K b lg lh pc (U.length : Int) yc sn nd w))) (xS n, R, D') ∧ PV (K) (b) (B) (U) D D' := by
  have hbL := ki_L hI
  refine XE_of (Nat.le_of_ble_eq_true rfl) (Nat.le_of_ble_eq_true rfl) (loc := [_, _]) rfl ?_
  refine xx_aload_n (q := 1) rfl rfl rfl ?_
  refine xx_iconst (q := 2) rfl rfl (by decide) ?_
  refine xr_puz (PV K b B U D) (q := 5) rfl rfl rfl xS_479 (Nat.le_of_ble_eq_true rfl) (Nat.le_of_ble_eq_true rfl) (fun h => by cases h) (Or.inl rfl) ⟨hV.u (by decide), FQ.rf.up (by unfold restQ; omega)⟩ (fun D1 hP0 => ?_)
  refine xx_iload_n (q := 6) rfl rfl rfl ?_
  refine xx_if_ne (q := 14) (q2 := 9) rfl rfl rfl (fun h6 => ?_) (fun h6 => ?_)
  · refine xx_iload_n (q := 15) rfl rfl rfl ?_
    refine xx_iconst (q := 16) rfl rfl (by decide) ?_
    refine xx_icmp_ne (q := 24) (q2 := 19) rfl rfl rfl (fun h16 => ?_) (fun h16 => ?_)
    · refine xx_iload_n (q := 25) rfl rfl rfl ?_
      refine xx_iconst (q := 26) rfl rfl (by decide) ?_
      refine xx_icmp_ne (q := 36) (q2 := 29) rfl rfl rfl (fun h26 => ?_) (fun h26 => ?_)
      · refine xx_iload_n (q := 37) rfl rfl rfl ?_
        refine xx_iconst (q := 38) rfl rfl (by decide) ?_
        refine xx_icmp_ne (q := 48) (q2 := 41) rfl rfl rfl (fun h38 => ?_) (fun h38 => ?_)
        · refine xx_iload_n (q := 49) rfl rfl rfl ?_
          refine xx_iconst (q := 50) rfl rfl (by decide) ?_
          refine xx_icmp_ne (q := 60) (q2 := 53) rfl rfl rfl (fun h50 => ?_) (fun h50 => ?_)
          · refine xx_iload_n (q := 61) rfl rfl rfl ?_
            refine xx_iconst (q := 62) rfl rfl (by decide) ?_
            refine xx_icmp_ne (q := 72) (q2 := 65) rfl rfl rfl (fun h62 => ?_) (fun h62 => ?_)
            · refine xx_iload_n (q := 73) rfl rfl rfl ?_
              refine xx_bipush (q := 75) rfl rfl (by decide) ?_
              refine xx_icmp_ne (q := 85) (q2 := 78) rfl rfl rfl (fun h75 => ?_) (fun h75 => ?_)
              · refine xx_iload_n (q := 86) rfl rfl rfl ?_
                refine xx_bipush (q := 88) rfl rfl (by decide) ?_
                refine xx_icmp_ne (q := 98) (q2 := 91) rfl rfl rfl (fun h88 => ?_) (fun h88 => ?_)
                · refine xx_iload_n (q := 99) rfl rfl rfl ?_
                  refine xx_bipush (q := 101) rfl rfl (by decide) ?_
                  refine xx_icmp_ne (q := 109) (q2 := 104) rfl rfl rfl (fun h101 => ?_) (fun h101 => ?_)
                  · refine xx_iload_n (q := 110) rfl rfl rfl ?_
                    refine xx_bipush (q := 112) rfl rfl (by decide) ?_
                    refine xx_icmp_ne (q := 120) (q2 := 115) rfl rfl rfl (fun h112 => ?_) (fun h112 => ?_)
                    · refine xx_iload_n (q := 121) rfl rfl rfl ?_
                      refine xx_bipush (q := 123) rfl rfl (by decide) ?_
                      refine xx_icmp_ne (q := 131) (q2 := 126) rfl rfl rfl (fun h123 => ?_) (fun h123 => ?_)
                      · refine xx_iload_n (q := 132) rfl rfl rfl ?_
                        refine xx_bipush (q := 134) rfl rfl (by decide) ?_
                        refine xx_icmp_ne (q := 142) (q2 := 137) rfl rfl rfl (fun h134 => ?_) (fun h134 => ?_)
                        · refine xx_aload_n (q := 143) rfl rfl rfl ?_
                          refine xx_iload_n (q := 144) rfl rfl rfl ?_
                          refine xx_bipush (q := 146) rfl rfl (by decide) ?_
                          refine xx_bipush (q := 148) rfl rfl (by decide) ?_
                          refine xx_callV (q := 151) (As := [_, _, _]) (rest := []) rfl rfl rfl (Or.inl rfl) rfl rfl (Nat.le_of_ble_eq_true rfl) xS_479 (XCm (r_isIn w 20 24) rfl) rfl ?_
                          refine xx_ifb_eq (q := 164) (q2 := 154) rfl rfl rfl (fun h151 => ?_) (fun h151 => ?_)
                          · refine xx_aload_n (q := 165) rfl rfl rfl ?_
                            refine xx_iload_n (q := 166) rfl rfl rfl ?_
                            refine xx_bipush (q := 168) rfl rfl (by decide) ?_
                            refine xx_bipush (q := 170) rfl rfl (by decide) ?_
                            refine xx_aload_n (q := 171) rfl rfl rfl ?_
                            refine xx_gez (q := 174) rfl rfl rfl xS_479 (Nat.le_of_ble_eq_true rfl) rfl (rv_L hP0.1) ?_
                            have hb1 : 1 ≤ K 0 0 ∧ K 0 0 ≤ 9 := by have h := ki_L hI; exact h
                            refine xx_iaddR (q := 175) rfl rfl (by omega) (by omega) ?_
                            refine xx_callV (q := 178) (As := [_, _, _]) (rest := []) rfl rfl rfl (Or.inl rfl) rfl rfl (Nat.le_of_ble_eq_true rfl) xS_479 (XCm (r_isIn w 30 (30 + (K 0 0))) rfl) rfl ?_
                            refine xx_ifb_eq (q := 191) (q2 := 181) rfl rfl rfl (fun h178 => ?_) (fun h178 => ?_)
                            · refine xx_aload_n (q := 192) rfl rfl rfl ?_
                              refine xx_iload_n (q := 193) rfl rfl rfl ?_
                              refine xx_bipush (q := 195) rfl rfl (by decide) ?_
                              refine xx_bipush (q := 197) rfl rfl (by decide) ?_
                              refine xx_aload_n (q := 198) rfl rfl rfl ?_
                              refine xx_gez (q := 201) rfl rfl rfl xS_479 (Nat.le_of_ble_eq_true rfl) rfl (rv_L hP0.1) ?_
                              have hb2 : 1 ≤ K 0 0 ∧ K 0 0 ≤ 9 := by have h := ki_L hI; exact h
                              refine xx_iaddR (q := 202) rfl rfl (by omega) (by omega) ?_
                              refine xx_callV (q := 205) (As := [_, _, _]) (rest := []) rfl rfl rfl (Or.inl rfl) rfl rfl (Nat.le_of_ble_eq_true rfl) xS_479 (XCm (r_isIn w 40 (40 + (K 0 0))) rfl) rfl ?_
                              refine xx_ifb_eq (q := 220) (q2 := 208) rfl rfl rfl (fun h205 => ?_) (fun h205 => ?_)
                              · refine xx_ldcw (q := 223) rfl rfl rfl ?_
                                refine xx_iret rfl trivial ⟨congrArg (fun z => some (Sum.inl z)) (by grind [lkkF]), _, rfl, ?_⟩
                                exact hP0
                              · refine xx_aload_n (q := 209) rfl rfl rfl ?_
                                refine xx_getR (q := 212) rfl rfl rfl xS_479 (Nat.le_of_ble_eq_true rfl) rfl (hR.1 479 21 rfl) ?_
                                refine xx_iload_n (q := 213) rfl rfl rfl ?_
                                refine xx_bipush (q := 215) rfl rfl (by decide) ?_
                                refine xx_isubR (q := 216) rfl rfl (by omega) (by omega) ?_
                                refine xx_iaz (v := nd (w - 40).toNat) (q := 217) rfl rfl xS_495 (by omega) (by omega) ((hP0.2 495 _ (by unfold restQ; omega)).trans (hnd _ (by omega))) ?_
                                refine xx_goto (q := 223) rfl rfl ?_
                                refine xx_iret rfl trivial ⟨congrArg (fun z => some (Sum.inl z)) (by grind [lkkF]), _, rfl, ?_⟩
                                exact hP0
                            · refine xx_aload_n (q := 182) rfl rfl rfl ?_
                              refine xx_getR (q := 185) rfl rfl rfl xS_479 (Nat.le_of_ble_eq_true rfl) rfl (hR.1 479 20 rfl) ?_
                              refine xx_iload_n (q := 186) rfl rfl rfl ?_
                              refine xx_bipush (q := 188) rfl rfl (by decide) ?_
                              refine xx_isubR (q := 189) rfl rfl (by omega) (by omega) ?_
                              refine xx_iaz (v := sn (w - 30).toNat) (q := 190) rfl rfl xS_494 (by omega) (by omega) ((hP0.2 494 _ (by unfold restQ; omega)).trans (hsn _ (by omega))) ?_
                              refine xx_iret rfl trivial ⟨congrArg (fun z => some (Sum.inl z)) (by grind [lkkF]), _, rfl, ?_⟩
                              exact hP0
                          · refine xx_aload_n (q := 155) rfl rfl rfl ?_
                            refine xx_getR (q := 158) rfl rfl rfl xS_479 (Nat.le_of_ble_eq_true rfl) rfl (hR.1 479 15 rfl) ?_
                            refine xx_iload_n (q := 159) rfl rfl rfl ?_
                            refine xx_bipush (q := 161) rfl rfl (by decide) ?_
                            refine xx_isubR (q := 162) rfl rfl (by omega) (by omega) ?_
                            refine xx_iaz (v := K 6 (w - 20).toNat) (q := 163) rfl rfl xS_490 (by omega) (by omega) (rv_490 hP0.1 (p := w - 20) (by omega) (by omega)) ?_
                            have hb3 : 0 ≤ K 6 (w - 20).toNat ∧ K 6 (w - 20).toNat ≤ 1000 := by have h := ki_6 hI (w - 20).toNat; exact h
                            refine xx_iret rfl trivial ⟨congrArg (fun z => some (Sum.inl z)) (by grind [lkkF]), _, rfl, ?_⟩
                            exact hP0
                        · refine xx_aload_n (q := 138) rfl rfl rfl ?_
                          refine xx_callV (q := 141) (As := []) (rest := []) rfl rfl rfl (Or.inl rfl) rfl rfl (Nat.le_of_ble_eq_true rfl) xS_479 (XCm (r_allDepths hR hP0.1 hI) rfl) rfl ?_
                          have hb4 := watF_b hI
                          refine xx_iret rfl trivial ⟨congrArg (fun z => some (Sum.inl z)) (by grind [lkkF]), _, rfl, ?_⟩
                          exact hP0
                      · refine xx_aload_n (q := 127) rfl rfl rfl ?_
                        refine xx_gez (q := 130) rfl rfl rfl xS_479 (Nat.le_of_ble_eq_true rfl) rfl ((hP0.2 479 16 (by unfold restQ; omega)).trans (hyc)) ?_
                        refine xx_iret rfl trivial ⟨congrArg (fun z => some (Sum.inl z)) (by grind [lkkF]), _, rfl, ?_⟩
                        exact hP0
                    · refine xx_aload_n (q := 116) rfl rfl rfl ?_
                      refine xx_gez (q := 119) rfl rfl rfl xS_479 (Nat.le_of_ble_eq_true rfl) rfl hP0.1.2.2.2.2.2.1.2.1 ?_
                      refine xx_iret rfl trivial ⟨congrArg (fun z => some (Sum.inl z)) (by grind [lkkF]), _, rfl, ?_⟩
                      exact hP0
                  · refine xx_aload_n (q := 105) rfl rfl rfl ?_
                    refine xx_gez (q := 108) rfl rfl rfl xS_479 (Nat.le_of_ble_eq_true rfl) rfl ((hP0.2 479 47 (by unfold restQ; omega)).trans (hpc)) ?_
                    refine xx_iret rfl trivial ⟨congrArg (fun z => some (Sum.inl z)) (by grind [lkkF]), _, rfl, ?_⟩
                    exact hP0
                · refine xx_aload_n (q := 92) rfl rfl rfl ?_
                  refine xx_getR (q := 95) rfl rfl rfl xS_479 (Nat.le_of_ble_eq_true rfl) rfl (hR.1 479 30 rfl) ?_
                  refine xx_iconst (q := 96) rfl rfl (by decide) ?_
                  refine xx_iaz (q := 97) rfl rfl xS_499 (by omega) (by omega) ((hP0.2 499 1 (by unfold restQ; omega)).trans (hlh)) ?_
                  refine xx_iret rfl trivial ⟨congrArg (fun z => some (Sum.inl z)) (by grind [lkkF]), _, rfl, ?_⟩
                  exact hP0
              · refine xx_aload_n (q := 79) rfl rfl rfl ?_
                refine xx_getR (q := 82) rfl rfl rfl xS_479 (Nat.le_of_ble_eq_true rfl) rfl (hR.1 479 30 rfl) ?_
                refine xx_iconst (q := 83) rfl rfl (by decide) ?_
                refine xx_iaz (q := 84) rfl rfl xS_499 (by omega) (by omega) ((hP0.2 499 0 (by unfold restQ; omega)).trans (hlg)) ?_
                refine xx_iret rfl trivial ⟨congrArg (fun z => some (Sum.inl z)) (by grind [lkkF]), _, rfl, ?_⟩
                exact hP0
            · refine xx_aload_n (q := 66) rfl rfl rfl ?_
              refine xx_getR (q := 69) rfl rfl rfl xS_479 (Nat.le_of_ble_eq_true rfl) rfl (hR.1 479 1 rfl) ?_
              refine xx_iconst (q := 70) rfl rfl (by decide) ?_
              refine xx_iaz (v := K 0 3) (q := 71) rfl rfl xS_480 (by omega) (by omega) (rv_d hP0.1) ?_
              refine xx_iret rfl trivial ⟨congrArg (fun z => some (Sum.inl z)) (by grind [lkkF]), _, rfl, ?_⟩
              exact hP0
          · refine xx_aload_n (q := 54) rfl rfl rfl ?_
            refine xx_getR (q := 57) rfl rfl rfl xS_479 (Nat.le_of_ble_eq_true rfl) rfl (hR.1 479 1 rfl) ?_
            refine xx_iconst (q := 58) rfl rfl (by decide) ?_
            refine xx_iaz (v := b) (q := 59) rfl rfl xS_480 (by omega) (by omega) (rv_b hP0.1) ?_
            have hb5 := hP0.1.2.2.2.1
            refine xx_iret rfl trivial ⟨congrArg (fun z => some (Sum.inl z)) (by grind [lkkF]), _, rfl, ?_⟩
            exact hP0
        · refine xx_aload_n (q := 42) rfl rfl rfl ?_
          refine xx_getR (q := 45) rfl rfl rfl xS_479 (Nat.le_of_ble_eq_true rfl) rfl (hR.1 479 1 rfl) ?_
          refine xx_iconst (q := 46) rfl rfl (by decide) ?_
          refine xx_iaz (v := K 0 2) (q := 47) rfl rfl xS_480 (by omega) (by omega) (rv_s hP0.1) ?_
          refine xx_iret rfl trivial ⟨congrArg (fun z => some (Sum.inl z)) (by grind [lkkF]), _, rfl, ?_⟩
          exact hP0
      · refine xx_aload_n (q := 30) rfl rfl rfl ?_
        refine xx_getR (q := 33) rfl rfl rfl xS_479 (Nat.le_of_ble_eq_true rfl) rfl (hR.1 479 1 rfl) ?_
        refine xx_iconst (q := 34) rfl rfl (by decide) ?_
        refine xx_iaz (v := K 0 1) (q := 35) rfl rfl xS_480 (by omega) (by omega) (rv_h hP0.1) ?_
        refine xx_iret rfl trivial ⟨congrArg (fun z => some (Sum.inl z)) (by grind [lkkF]), _, rfl, ?_⟩
        exact hP0
    · refine xx_aload_n (q := 20) rfl rfl rfl ?_
      refine xx_gez (q := 23) rfl rfl rfl xS_479 (Nat.le_of_ble_eq_true rfl) rfl (rv_B hP0.1) ?_
      have hb6 : 0 ≤ K 13 0 ∧ K 13 0 ≤ 6 := by have h := ki_B hI; exact h
      refine xx_iret rfl trivial ⟨congrArg (fun z => some (Sum.inl z)) (by grind [lkkF]), _, rfl, ?_⟩
      exact hP0
  · refine xx_aload_n (q := 10) rfl rfl rfl ?_
    refine xx_gez (q := 13) rfl rfl rfl xS_479 (Nat.le_of_ble_eq_true rfl) rfl (rv_L hP0.1) ?_
    have hb7 : 1 ≤ K 0 0 ∧ K 0 0 ≤ 9 := by have h := ki_L hI; exact h
    refine xx_iret rfl trivial ⟨congrArg (fun z => some (Sum.inl z)) (by grind [lkkF]), _, rfl, ?_⟩
    exact hP0
set_option maxHeartbeats 1000000 in
theorem r_und_L {n : Nat} {R : Nat → Nat → Option Nat} {Q : XQ} (hR : RF R) (u : Nat) (hu9 : u ≤ 9) : ∀ (k : Nat) (D : KK) (l : Int), 0 ≤ l → l + k = 125 → D 479 3 = (u : Int) → (∀ E l2, (∀ x : Nat, x < 125 → l ≤ (x : Int) → E 480 x = D 481 (125 * u + x)) → (∀ x : Nat, (x : Int) < l → E 480 x = D 480 x) → (∀ a x, a ≠ 480 → E a x = D a x) → XX (XC 0) 165 Q 58 [some (.inr (some 479)), some (.inl l2)] [] (xS n, R, E)) → XX (XC 0) 165 (Q) 26 [some (.inr (some 479)), some (.inl l)] [] (xS n, R, D) := by
  intro k
  induction k using Nat.strongRecOn with
  | ind k ih =>
  intro D l h1 hk h3 kx
  refine xx_iload_n (q := 27) rfl rfl rfl ?_
  refine xx_bipush (q := 29) rfl rfl (by decide) ?_
  refine xx_icmp_ge (q := 58) (q2 := 32) rfl rfl rfl (fun h29 => ?_) (fun h29 => ?_)
  · obtain rfl : k = 0 := by omega
    exact kx D _ (fun x q1 q2 => by omega) (fun x q => rfl) (fun a x q => rfl)
  · obtain ⟨k, rfl⟩ : ∃ k2, k = k2 + 1 := ⟨k - 1, by omega⟩
    refine xx_aload_n (q := 33) rfl rfl rfl ?_
    refine xx_getR (q := 36) rfl rfl rfl xS_479 (Nat.le_of_ble_eq_true rfl) rfl (hR.1 479 1 rfl) ?_
    refine xx_iload_n (q := 37) rfl rfl rfl ?_
    refine xx_aload_n (q := 38) rfl rfl rfl ?_
    refine xx_getR (q := 41) rfl rfl rfl xS_479 (Nat.le_of_ble_eq_true rfl) rfl (hR.1 479 2 rfl) ?_
    refine xx_bipush (q := 43) rfl rfl (by decide) ?_
    refine xx_aload_n (q := 44) rfl rfl rfl ?_
    refine xx_gez (q := 47) rfl rfl rfl xS_479 (Nat.le_of_ble_eq_true rfl) rfl h3 ?_
    refine xx_imulR (q := 48) rfl rfl (by omega) (by omega) ?_
    refine xx_iload_n (q := 49) rfl rfl rfl ?_
    refine xx_iaddR (q := 50) rfl rfl (by omega) (by omega) ?_
    refine xx_iaz (q := 51) rfl rfl xS_481 (by omega) (by omega) rfl ?_
    refine xx_isz (q := 52) rfl rfl xS_480 (by omega) (by omega) rfl ?_
    refine xx_incz (q := 55) (loc2 := [_, _]) rfl rfl rfl (by omega) (by omega) rfl rfl ?_
    refine xx_goto (q := 26) rfl rfl ?_
    refine ih k (by omega) _ _ (by omega) (by omega) h3 (fun E l2 g1 g2 g3 => kx E l2 (fun x q1 q2 => ?_) (fun x q => ?_) (fun a x q => (g3 a x q).trans (xui_a q)))
    · rcases Classical.em ((x : Int) = l) with e | e
      · rw [g2 x (by omega), show l.toNat = x by omega, xui_s, show (125 * (u : Int) + l).toNat = 125 * u + x by omega]
      · rw [g1 x q1 (by omega), xui_a (by omega)]
    · rw [g2 x (by omega), xui_j (by omega)]
theorem PV.back {K L : KK} {b c : Int} {B : Nat → Int} {U : UU} {D d E : KK} (h : PV K b B ((L, c) :: U) D d) (hcf : RCf L d) (g1 : ∀ x : Nat, x < 125 → E 480 x = d 481 (125 * U.length + x)) (g3 : ∀ a x, a ≠ 480 → (a = 479 → x ≠ 3) → E a x = d a x) (g4 : E 479 3 = (U.length : Int)) : PV L c B U D E ∧ KI L := by
  obtain ⟨hr, hq⟩ := h
  obtain ⟨u1, u2, u3⟩ := hr.2.2.2.2.2.1
  have hlen : ((L, c) :: U).length = U.length + 1 := rfl
  obtain ⟨q1, q2, q3⟩ := u3 0 (L, c) rfl
  refine ⟨⟨⟨?_, hcf.fz (fun b k q => by unfold restR at q; exact g3 b k (by omega) (by omega)), (g3 _ _ (by omega) (by omega)).trans hr.2.2.1, q2, fun k hk => (g3 _ _ (by omega) (by omega)).trans (hr.2.2.2.2.1 k hk), ⟨by rw [hlen] at u1; omega, g4, fun i u hu => ?_⟩, FV.rf⟩, hq.trans (fun b k q => g3 b k (by unfold restQ at q; omega) (by unfold restQ at q; omega))⟩, q1⟩
  · refine RW_eq q3 (fun j hj => ?_) (ki_B q1).2
    rw [g1 j hj]
    show _ = d 481 (125 * (((L, c) :: U).length - 1 - 0) + j)
    rw [hlen]
    congr 1
  · obtain ⟨r1, r2, r3⟩ := u3 (i + 1) u hu
    refine ⟨r1, r2, RW_eq r3 (fun j hj => ?_) (ki_B r1).2⟩
    rw [g3 481 _ (by omega) (by omega)]
    show _ = d 481 (125 * (((L, c) :: U).length - 1 - (i + 1)) + j)
    rw [hlen]
    congr 1
    omega
theorem r_undo {n : Nat} {R : Nat → Nat → Option Nat} {K D : KK} {b : Int} {B : Nat → Int} {U : UU} (hR : RF R) (hV : RV 0 K b B U D D) (hI : KI K) (hCf : ∀ L c V, U = (L, c) :: V → RCf L D) : ∃ D', XC 1 165 [.inr (some 479)] (xS n, R, D) (some (.inl (if U = [] then 0 else 1))) (xS n, R, D') ∧ (match U with | [] => PV K b B [] D D' ∧ KI K | (L, c) :: V => PV L c B V D D' ∧ KI L) := by
  refine XE_of (Nat.le_of_ble_eq_true rfl) (Nat.le_of_ble_eq_true rfl) (loc := [_, _]) rfl ?_
  refine xx_aload_n (q := 1) rfl rfl rfl ?_
  refine xx_iconst (q := 2) rfl rfl (by decide) ?_
  refine xr_puz (fun d => PV K b B U D d ∧ FZ D d) (q := 5) rfl rfl rfl xS_479 (Nat.le_of_ble_eq_true rfl) (Nat.le_of_ble_eq_true rfl) (fun h => by cases h) (Or.inl rfl) ⟨⟨hV.u (by decide), FQ.rf.up (by unfold restQ; omega)⟩, fun b k q => if_neg (fun r => by unfold restR at q; omega)⟩ (fun D1 hPf => ?_)
  obtain ⟨hP0, hP0f⟩ := hPf
  cases U with
  | nil =>
    refine xx_aload_n (q := 6) rfl rfl rfl ?_
    refine xx_gez (q := 9) rfl rfl rfl xS_479 (Nat.le_of_ble_eq_true rfl) rfl hP0.1.2.2.2.2.2.1.2.1 ?_
    refine xx_if_ne (q := 14) (q2 := 12) rfl rfl rfl (fun h9 => (by exfalso; (simp at h9))) (fun _ => ?_)
    refine xx_iconst (q := 13) rfl rfl (by decide) ?_
    refine xx_iret rfl (Or.inl rfl) ⟨rfl, _, rfl, ?_⟩
    exact ⟨hP0, hI⟩
  | cons u V =>
    obtain ⟨L, c⟩ := u
    have hcf := hCf L c V rfl
    have hU10 := hP0.1.2.2.2.2.2.1.1
    have hU11 : ((((L, c) :: V).length : Nat) : Int) = (V.length : Int) + 1 := by rw [List.length_cons]; omega
    rw [if_neg (show ¬ ((L, c) :: V) = [] by intro q; cases q)]
    refine xx_aload_n (q := 6) rfl rfl rfl ?_
    refine xx_gez (q := 9) rfl rfl rfl xS_479 (Nat.le_of_ble_eq_true rfl) rfl hP0.1.2.2.2.2.2.1.2.1 ?_
    refine xx_if_ne (q := 14) (q2 := 12) rfl rfl rfl (fun _ => ?_) (fun h9 => (by exfalso; (have h8 := h9; rw [List.length_cons] at h8; omega)))
    refine xx_aload_n (q := 15) rfl rfl rfl ?_
    refine xx_aload_n (q := 16) rfl rfl rfl ?_
    refine xx_gez (q := 19) rfl rfl rfl xS_479 (Nat.le_of_ble_eq_true rfl) rfl hP0.1.2.2.2.2.2.1.2.1 ?_
    refine xx_iconst (q := 20) rfl rfl (by decide) ?_
    refine xx_isubR (q := 21) rfl rfl (by omega) (by omega) ?_
    refine xx_puz (q := 24) rfl rfl rfl xS_479 (Nat.le_of_ble_eq_true rfl) (Nat.le_of_ble_eq_true rfl) (fun h => by cases h) (Or.inl rfl) rfl ?_
    rw [show ((((L, c) :: V).length : Nat) : Int) - 1 = (V.length : Int) by rw [List.length_cons]; omega]
    refine xx_iconst (q := 25) rfl rfl (by decide) ?_
    refine xx_istore_n (q := 26) (loc2 := [_, _]) rfl rfl (Nat.le_of_ble_eq_true rfl) rfl ?_
    have hu9 : V.length ≤ 9 := by have := hP0.1.2.2.2.2.2.1.1; rw [List.length_cons] at this; omega
    refine r_und_L hR V.length hu9 125 _ 0 (by omega) (by omega) xui_s (fun E l2 g1 g2 g3 => ?_)
    refine xx_iconst (q := 59) rfl rfl (by decide) ?_
    refine xx_iret rfl (Or.inr rfl) ⟨rfl, _, rfl, ?_⟩
    exact hP0.back (hcf.fz (fun b k q => hP0f b k q)) (fun x hx => (g1 x hx (by omega)).trans (xui_a (by omega))) (fun a x q1 q2 => (g3 a x q1).trans (if_neg (fun r => q2 r.1 r.2))) ((g3 479 3 (by omega)).trans xui_s)
