/-! A plan's steps are read: the reference. -/
def RpE (bs : List Int) (Lk B : Int) (D0 : KK) (s : Pg) (z : Int) (D : KK) : Prop := ∃ sp, RpQ bs Lk B D0 s sp z D
def RpY (bs : List Int) (Lk B : Int) (D0 : KK) (s : Pg) (n : Nat) (R : Nat → Nat → Option Nat) : XQ := fun r m2 => ∃ z D', r = some (.inl z) ∧ m2 = (xS n, R, D') ∧ RpE bs Lk B D0 s z D'
theorem XPe_of {d i : Nat} {args : List XV} {m : XM} {bs : List Int} {Lk B : Int} {D0 : KK} {s : Pg} {n : Nat} {R : Nat → Nat → Option Nat} (hi : i < 316) (ha : args.length ≤ xml i) {loc : XLc} (hl : xent i args = loc) (h : XX (XC d) i (RpY bs Lk B D0 s n R) 0 loc [] m) : ∃ z D', XC (d + 1) i args m (some (.inl z)) (xS n, R, D') ∧ RpE bs Lk B D0 s z D' := by
  obtain ⟨r, m2, h1, z, D', rfl, rfl, h2⟩ := XR_of hi ha hl h
  exact ⟨z, D', h1, h2⟩
theorem psQ_d {a B : Int} {s : Pg} (h : (nwP 0 (B - 1) (a + 1) s).1.1 ≠ 0) : DeP (nwP 0 (B - 1) (a + 1) s) (psQ a B s) := by
  have g1 := upQ_d h
  have d1 := g1.dd h
  have g2 : DeP (upQ (nwP 0 (B - 1) (a + 1) s)) (ptP (a + 2) (if kdP (nwP 0 (B - 1) (a + 1) s) = 315 then 1 else 0) (upQ (nwP 0 (B - 1) (a + 1) s))) := ⟨rfl, rfl⟩
  have d2 := g2.dd d1
  exact g1.trans (g2.trans (wiP_d d2))
set_option maxHeartbeats 4000000 in
theorem r_rdpass {n : Nat} {R : Nat → Nat → Option Nat} {D0 D : KK} {bs : List Int} {Lk B a : Int} {s : Pg} (hR : RF R) (hl4 : bs.length ≤ 400) (hby : ∀ j, 0 ≤ bs.getD j 0 ∧ bs.getD j 0 ≤ 255) (hS : RpS bs Lk B D0 s (150 + a + 1) D) (ha0 : 0 ≤ a) (ha1 : a ≤ 145) (hB0 : 0 ≤ B) (hB1 : B ≤ 6) (hL0 : 0 ≤ Lk) (hL1 : Lk ≤ 9) : ∃ z D', XC 5 217 [.inr (some 479)] (xS n, R, D) (some (.inl z)) (xS n, R, D') ∧ RpE bs Lk B D0 (psQ a B s) z D' := by
  refine XPe_of (Nat.le_of_ble_eq_true rfl) (Nat.le_of_ble_eq_true rfl) (loc := [_]) rfl ?_
  refine xx_aload_n (q := 1) rfl rfl rfl ?_
  refine xx_iconst (q := 2) rfl rfl (by decide) ?_
  refine xx_aload_n (q := 3) rfl rfl rfl ?_
  refine xx_gez (q := 6) rfl rfl rfl xS_479 (Nat.le_of_ble_eq_true rfl) rfl hS.2.2.2.2.1 ?_
  refine xx_iconst (q := 7) rfl rfl (by decide) ?_
  refine xx_isubR (q := 8) rfl rfl (by omega) (by omega) ?_
  obtain ⟨z1, D1, hx1, hq1⟩ := r_rdn (n := n) hR hl4 hby hS 0 (B - 1) (a + 1) (150 + a + 2) (by omega) (by omega) (by omega) (by omega)
  refine xx_callV (q := 11) (As := [_, _]) (rest := []) rfl rfl rfl (Or.inl rfl) rfl rfl (Nat.le_of_ble_eq_true rfl) xS_479 (XCm hx1 rfl) rfl ?_
  refine xx_iconst (q := 12) rfl rfl (by decide) ?_
  refine xx_icmp_ne (q := 17) (q2 := 15) rfl rfl rfl (fun h12 => ?_) (fun h12 => ?_)
  · replace hq1 := hq1.resolve_right (fun q => h12 q.2.1)
    refine xx_aload_n (q := 18) rfl rfl rfl ?_
    refine xx_bipush (q := 20) rfl rfl (by decide) ?_
    refine xx_callV (q := 23) (As := [_]) (rest := []) rfl rfl rfl (Or.inl rfl) rfl rfl (Nat.le_of_ble_eq_true rfl) xS_479 (XCm (r_isWord (n := n) hR hq1.2.2.1 315 14 (by decide) (by decide) (by decide +kernel)) rfl) rfl ?_
    refine xx_ifb_ne (q := 41) (q2 := 26) rfl rfl rfl (fun h23 => ?_) (fun h23 => ?_)
    · obtain ⟨hK, hw, hkd, hl1⟩ := hq1.2.2.1.hd
      have hkn : kdT (nwP 0 (B - 1) (a + 1) s).1 = 315 := h23
      have hvw : D1 479 28 = 14 := by
        have h9 := (hK.2.2.2.2.2 (by rw [← hkd]; show 300 ≤ kdT (nwP 0 (B - 1) (a + 1) s).1; omega)).2
        rw [← hkd, show kdS ((nwP 0 (B - 1) (a + 1) s).1, []) = 315 from hkn] at h9
        rw [h9]; decide +kernel
      have hup : upQ (nwP 0 (B - 1) (a + 1) s) = (stT (nwP 0 (B - 1) (a + 1) s).1, (nwP 0 (B - 1) (a + 1) s).2) := if_pos h23
      refine xx_aload_n (q := 42) rfl rfl rfl ?_
      refine xx_getR (q := 45) rfl rfl rfl xS_479 (Nat.le_of_ble_eq_true rfl) rfl (hR.1 479 46 rfl) ?_
      refine xx_aload_n (q := 46) rfl rfl rfl ?_
      refine xx_gez (q := 49) rfl rfl rfl xS_479 (Nat.le_of_ble_eq_true rfl) rfl hq1.2.2.2.2.2.2.2.1 ?_
      refine xx_aload_n (q := 50) rfl rfl rfl ?_
      refine xx_gez (q := 53) rfl rfl rfl xS_479 (Nat.le_of_ble_eq_true rfl) rfl hvw ?_
      refine xx_bipush (q := 55) rfl rfl (by decide) ?_
      refine xx_icmp_ne (q := 62) (q2 := 58) rfl rfl rfl (fun h55 => (by exfalso; omega)) (fun _ => ?_)
      refine xx_iconst (q := 59) rfl rfl (by decide) ?_
      refine xx_goto (q := 63) rfl rfl ?_
      refine xr_isz (RpS bs Lk B D0 (((nwP 0 (B - 1) (a + 1) s).1), fset (nwP 0 (B - 1) (a + 1) s).2 (a + 2).toNat 1) (150 + a + 2)) (q := 64) rfl rfl xS_507 (by omega) (by omega) (by rw [show (150 + a + 2).toNat = 150 + (a + 2).toNat by omega]; exact hq1.2.2.put (a + 2).toNat _) (fun D3 hS3 => ?_)
      refine xx_aload_n (q := 65) rfl rfl rfl ?_
      refine xx_getR (q := 68) rfl rfl rfl xS_479 (Nat.le_of_ble_eq_true rfl) rfl (hR.1 479 46 rfl) ?_
      refine xx_aload_n (q := 69) rfl rfl rfl ?_
      refine xx_gez (q := 72) rfl rfl rfl xS_479 (Nat.le_of_ble_eq_true rfl) rfl hS3.2.2.2.2.2.1 ?_
      refine xx_iconst (q := 73) rfl rfl (by decide) ?_
      refine xx_iaddR (q := 74) rfl rfl (by omega) (by omega) ?_
      refine xx_iconst (q := 75) rfl rfl (by decide) ?_
      refine xr_isz (RpS bs Lk B D0 (((((nwP 0 (B - 1) (a + 1) s).1, fset (nwP 0 (B - 1) (a + 1) s).2 (a + 2).toNat 1)).1), fset (((nwP 0 (B - 1) (a + 1) s).1, fset (nwP 0 (B - 1) (a + 1) s).2 (a + 2).toNat 1)).2 (a + 3).toNat (-1)) (150 + a + 2)) (q := 76) rfl rfl xS_507 (by omega) (by omega) (by rw [show ((150 + a + 2) + 1).toNat = 150 + (a + 3).toNat by omega]; exact hS3.put (a + 3).toNat _) (fun D5 hS5 => ?_)
      refine xx_aload_n (q := 77) rfl rfl rfl ?_
      refine xx_aload_n (q := 78) rfl rfl rfl ?_
      refine xx_gez (q := 81) rfl rfl rfl xS_479 (Nat.le_of_ble_eq_true rfl) rfl hS5.2.2.2.2.2.1 ?_
      refine xx_iconst (q := 82) rfl rfl (by decide) ?_
      refine xx_iaddR (q := 83) rfl rfl (by omega) (by omega) ?_
      refine xr_puz (RpS bs Lk B D0 ((((nwP 0 (B - 1) (a + 1) s).1, fset (nwP 0 (B - 1) (a + 1) s).2 (a + 2).toNat 1)).1, fset (((nwP 0 (B - 1) (a + 1) s).1, fset (nwP 0 (B - 1) (a + 1) s).2 (a + 2).toNat 1)).2 (a + 3).toNat (-1)) ((150 + a + 2) + 1)) (q := 86) rfl rfl rfl xS_479 (Nat.le_of_ble_eq_true rfl) (Nat.le_of_ble_eq_true rfl) (fun h => by cases h) (Or.inl rfl) (hS5.spo _) (fun D7 hS7 => ?_)
      refine xx_aload_n (q := 87) rfl rfl rfl ?_
      obtain ⟨D8, hx8, hO8, hs8⟩ := r_nexT (n := n) hR hS7.2.1 hl4 hby hS7.2.2.1 hS7.1 (by show kdT (nwP 0 (B - 1) (a + 1) s).1 ≠ 258; have : kdT (nwP 0 (B - 1) (a + 1) s).1 = 315 := h23; omega)
      have hS8 := hS7.step (t := stT ((((((nwP 0 (B - 1) (a + 1) s).1, fset (nwP 0 (B - 1) (a + 1) s).2 (a + 2).toNat 1)).1, fset (((nwP 0 (B - 1) (a + 1) s).1, fset (nwP 0 (B - 1) (a + 1) s).2 (a + 2).toNat 1)).2 (a + 3).toNat (-1))).1)) hO8
      refine xx_callV (q := 90) (As := []) (rest := []) rfl rfl rfl (Or.inl rfl) rfl rfl (Nat.le_of_ble_eq_true rfl) xS_479 (XCm hx8 rfl) rfl ?_
      refine xx_aload_n (q := 91) rfl rfl rfl ?_
      refine xx_bipush (q := 93) rfl rfl (by decide) ?_
      refine xx_callV (q := 96) (As := [_]) (rest := []) rfl rfl rfl (Or.inl rfl) rfl rfl (Nat.le_of_ble_eq_true rfl) xS_479 (XCm (r_isWord (n := n) hR hS8.1 327 24 (by decide) (by decide) (by decide +kernel)) rfl) rfl ?_
      refine xx_ifb_ne (q := 101) (q2 := 99) rfl rfl rfl (fun h96 => ?_) (fun h96 => ?_)
      · skip
        refine xx_aload_n (q := 102) rfl rfl rfl ?_
        obtain ⟨D9, hx9, hO9, hs9⟩ := r_nexT (n := n) hR hS8.2.1 hl4 hby hS8.2.2.1 hS8.1 (by show kdT (stT (nwP 0 (B - 1) (a + 1) s).1) ≠ 258; have : kdT (stT (nwP 0 (B - 1) (a + 1) s).1) = 327 := h96; omega)
        have hS9 := hS8.step (t := stT (((stT ((((((nwP 0 (B - 1) (a + 1) s).1, fset (nwP 0 (B - 1) (a + 1) s).2 (a + 2).toNat 1)).1, fset (((nwP 0 (B - 1) (a + 1) s).1, fset (nwP 0 (B - 1) (a + 1) s).2 (a + 2).toNat 1)).2 (a + 3).toNat (-1))).1), (((((nwP 0 (B - 1) (a + 1) s).1, fset (nwP 0 (B - 1) (a + 1) s).2 (a + 2).toNat 1)).1, fset (((nwP 0 (B - 1) (a + 1) s).1, fset (nwP 0 (B - 1) (a + 1) s).2 (a + 2).toNat 1)).2 (a + 3).toNat (-1))).2)).1)) hO9
        refine xx_callV (q := 105) (As := []) (rest := []) rfl rfl rfl (Or.inl rfl) rfl rfl (Nat.le_of_ble_eq_true rfl) xS_479 (XCm hx9 rfl) rfl ?_
        refine xx_aload_n (q := 106) rfl rfl rfl ?_
        refine xx_iconst (q := 107) rfl rfl (by decide) ?_
        refine xx_aload_n (q := 108) rfl rfl rfl ?_
        refine xx_gez (q := 111) rfl rfl rfl xS_479 (Nat.le_of_ble_eq_true rfl) rfl hS9.2.2.2.2.1 ?_
        refine xx_iconst (q := 112) rfl rfl (by decide) ?_
        refine xx_isubR (q := 113) rfl rfl (by omega) (by omega) ?_
        obtain ⟨z10, D10, hx10, hq10⟩ := r_rdn (n := n) hR hl4 hby hS9 0 (B - 1) (a + 3) (150 + a + 4) (by omega) (by omega) (by omega) (by omega)
        refine xx_callV (q := 116) (As := [_, _]) (rest := []) rfl rfl rfl (Or.inl rfl) rfl rfl (Nat.le_of_ble_eq_true rfl) xS_479 (XCm hx10 rfl) rfl ?_
        have e : psQ a B s = nwP 0 (B - 1) (a + 3) (stT (((stT ((((((nwP 0 (B - 1) (a + 1) s).1, fset (nwP 0 (B - 1) (a + 1) s).2 (a + 2).toNat 1)).1, fset (((nwP 0 (B - 1) (a + 1) s).1, fset (nwP 0 (B - 1) (a + 1) s).2 (a + 2).toNat 1)).2 (a + 3).toNat (-1))).1), (((((nwP 0 (B - 1) (a + 1) s).1, fset (nwP 0 (B - 1) (a + 1) s).2 (a + 2).toNat 1)).1, fset (((nwP 0 (B - 1) (a + 1) s).1, fset (nwP 0 (B - 1) (a + 1) s).2 (a + 2).toNat 1)).2 (a + 3).toNat (-1))).2)).1), ((stT ((((((nwP 0 (B - 1) (a + 1) s).1, fset (nwP 0 (B - 1) (a + 1) s).2 (a + 2).toNat 1)).1, fset (((nwP 0 (B - 1) (a + 1) s).1, fset (nwP 0 (B - 1) (a + 1) s).2 (a + 2).toNat 1)).2 (a + 3).toNat (-1))).1), (((((nwP 0 (B - 1) (a + 1) s).1, fset (nwP 0 (B - 1) (a + 1) s).2 (a + 2).toNat 1)).1, fset (((nwP 0 (B - 1) (a + 1) s).1, fset (nwP 0 (B - 1) (a + 1) s).2 (a + 2).toNat 1)).2 (a + 3).toNat (-1))).2)).2) := by
          unfold psQ wiP
          rw [hup, (show (if kdP (nwP 0 (B - 1) (a + 1) s) = 315 then (1 : Int) else 0) = 1 from if_pos h23), if_pos (by exact h96)]
          unfold nwP
          exact congrArg (fun d => (nwT 0 (B - 1) (stT (stT (nwP 0 (B - 1) (a + 1) s).1)), d)) fset2.symm
        rw [e]
        exact xx_iret rfl trivial ⟨_, _, rfl, rfl, _, hq10⟩
      · refine xx_iconst (q := 100) rfl rfl (by decide) ?_
        have e : psQ a B s = (stT ((((((nwP 0 (B - 1) (a + 1) s).1, fset (nwP 0 (B - 1) (a + 1) s).2 (a + 2).toNat 1)).1, fset (((nwP 0 (B - 1) (a + 1) s).1, fset (nwP 0 (B - 1) (a + 1) s).2 (a + 2).toNat 1)).2 (a + 3).toNat (-1))).1), (((((nwP 0 (B - 1) (a + 1) s).1, fset (nwP 0 (B - 1) (a + 1) s).2 (a + 2).toNat 1)).1, fset (((nwP 0 (B - 1) (a + 1) s).1, fset (nwP 0 (B - 1) (a + 1) s).2 (a + 2).toNat 1)).2 (a + 3).toNat (-1))).2) := by
          unfold psQ wiP
          rw [hup, (show (if kdP (nwP 0 (B - 1) (a + 1) s) = 315 then (1 : Int) else 0) = 1 from if_pos h23), if_neg (by exact h96)]
          rfl
        refine xx_iret rfl trivial ⟨_, _, rfl, rfl, (150 + a + 2) + 1, Or.inl ?_⟩
        rw [e]
        exact ⟨hS8.1.2.2.1, rfl, hS8⟩
    · refine xx_aload_n (q := 27) rfl rfl rfl ?_
      refine xx_bipush (q := 29) rfl rfl (by decide) ?_
      refine xx_callV (q := 32) (As := [_]) (rest := []) rfl rfl rfl (Or.inl rfl) rfl rfl (Nat.le_of_ble_eq_true rfl) xS_479 (XCm (r_isWord (n := n) hR hq1.2.2.1 326 23 (by decide) (by decide) (by decide +kernel)) rfl) rfl ?_
      refine xx_ifb_ne (q := 41) (q2 := 35) rfl rfl rfl (fun h32 => ?_) (fun h32 => ?_)
      · obtain ⟨hK, hw, hkd, hl1⟩ := hq1.2.2.1.hd
        have hkn : kdT (nwP 0 (B - 1) (a + 1) s).1 = 326 := h32
        have hvw : D1 479 28 = 23 := by
          have h9 := (hK.2.2.2.2.2 (by rw [← hkd]; show 300 ≤ kdT (nwP 0 (B - 1) (a + 1) s).1; omega)).2
          rw [← hkd, show kdS ((nwP 0 (B - 1) (a + 1) s).1, []) = 326 from hkn] at h9
          rw [h9]; decide +kernel
        have hup : upQ (nwP 0 (B - 1) (a + 1) s) = (stT (nwP 0 (B - 1) (a + 1) s).1, (nwP 0 (B - 1) (a + 1) s).2) := (if_neg h23).trans (congrArg (fun t => (t, _)) (if_pos h32))
        refine xx_aload_n (q := 42) rfl rfl rfl ?_
        refine xx_getR (q := 45) rfl rfl rfl xS_479 (Nat.le_of_ble_eq_true rfl) rfl (hR.1 479 46 rfl) ?_
        refine xx_aload_n (q := 46) rfl rfl rfl ?_
        refine xx_gez (q := 49) rfl rfl rfl xS_479 (Nat.le_of_ble_eq_true rfl) rfl hq1.2.2.2.2.2.2.2.1 ?_
        refine xx_aload_n (q := 50) rfl rfl rfl ?_
        refine xx_gez (q := 53) rfl rfl rfl xS_479 (Nat.le_of_ble_eq_true rfl) rfl hvw ?_
        refine xx_bipush (q := 55) rfl rfl (by decide) ?_
        refine xx_icmp_ne (q := 62) (q2 := 58) rfl rfl rfl (fun _ => ?_) (fun h55 => (by exfalso; omega))
        refine xx_iconst (q := 63) rfl rfl (by decide) ?_
        refine xr_isz (RpS bs Lk B D0 (((nwP 0 (B - 1) (a + 1) s).1), fset (nwP 0 (B - 1) (a + 1) s).2 (a + 2).toNat 0) (150 + a + 2)) (q := 64) rfl rfl xS_507 (by omega) (by omega) (by rw [show (150 + a + 2).toNat = 150 + (a + 2).toNat by omega]; exact hq1.2.2.put (a + 2).toNat _) (fun D12 hS12 => ?_)
        refine xx_aload_n (q := 65) rfl rfl rfl ?_
        refine xx_getR (q := 68) rfl rfl rfl xS_479 (Nat.le_of_ble_eq_true rfl) rfl (hR.1 479 46 rfl) ?_
        refine xx_aload_n (q := 69) rfl rfl rfl ?_
        refine xx_gez (q := 72) rfl rfl rfl xS_479 (Nat.le_of_ble_eq_true rfl) rfl hS12.2.2.2.2.2.1 ?_
        refine xx_iconst (q := 73) rfl rfl (by decide) ?_
        refine xx_iaddR (q := 74) rfl rfl (by omega) (by omega) ?_
        refine xx_iconst (q := 75) rfl rfl (by decide) ?_
        refine xr_isz (RpS bs Lk B D0 (((((nwP 0 (B - 1) (a + 1) s).1, fset (nwP 0 (B - 1) (a + 1) s).2 (a + 2).toNat 0)).1), fset (((nwP 0 (B - 1) (a + 1) s).1, fset (nwP 0 (B - 1) (a + 1) s).2 (a + 2).toNat 0)).2 (a + 3).toNat (-1)) (150 + a + 2)) (q := 76) rfl rfl xS_507 (by omega) (by omega) (by rw [show ((150 + a + 2) + 1).toNat = 150 + (a + 3).toNat by omega]; exact hS12.put (a + 3).toNat _) (fun D14 hS14 => ?_)
        refine xx_aload_n (q := 77) rfl rfl rfl ?_
        refine xx_aload_n (q := 78) rfl rfl rfl ?_
        refine xx_gez (q := 81) rfl rfl rfl xS_479 (Nat.le_of_ble_eq_true rfl) rfl hS14.2.2.2.2.2.1 ?_
        refine xx_iconst (q := 82) rfl rfl (by decide) ?_
        refine xx_iaddR (q := 83) rfl rfl (by omega) (by omega) ?_
        refine xr_puz (RpS bs Lk B D0 ((((nwP 0 (B - 1) (a + 1) s).1, fset (nwP 0 (B - 1) (a + 1) s).2 (a + 2).toNat 0)).1, fset (((nwP 0 (B - 1) (a + 1) s).1, fset (nwP 0 (B - 1) (a + 1) s).2 (a + 2).toNat 0)).2 (a + 3).toNat (-1)) ((150 + a + 2) + 1)) (q := 86) rfl rfl rfl xS_479 (Nat.le_of_ble_eq_true rfl) (Nat.le_of_ble_eq_true rfl) (fun h => by cases h) (Or.inl rfl) (hS14.spo _) (fun D16 hS16 => ?_)
        refine xx_aload_n (q := 87) rfl rfl rfl ?_
        obtain ⟨D17, hx17, hO17, hs17⟩ := r_nexT (n := n) hR hS16.2.1 hl4 hby hS16.2.2.1 hS16.1 (by show kdT (nwP 0 (B - 1) (a + 1) s).1 ≠ 258; have : kdT (nwP 0 (B - 1) (a + 1) s).1 = 326 := h32; omega)
        have hS17 := hS16.step (t := stT ((((((nwP 0 (B - 1) (a + 1) s).1, fset (nwP 0 (B - 1) (a + 1) s).2 (a + 2).toNat 0)).1, fset (((nwP 0 (B - 1) (a + 1) s).1, fset (nwP 0 (B - 1) (a + 1) s).2 (a + 2).toNat 0)).2 (a + 3).toNat (-1))).1)) hO17
        refine xx_callV (q := 90) (As := []) (rest := []) rfl rfl rfl (Or.inl rfl) rfl rfl (Nat.le_of_ble_eq_true rfl) xS_479 (XCm hx17 rfl) rfl ?_
        refine xx_aload_n (q := 91) rfl rfl rfl ?_
        refine xx_bipush (q := 93) rfl rfl (by decide) ?_
        refine xx_callV (q := 96) (As := [_]) (rest := []) rfl rfl rfl (Or.inl rfl) rfl rfl (Nat.le_of_ble_eq_true rfl) xS_479 (XCm (r_isWord (n := n) hR hS17.1 327 24 (by decide) (by decide) (by decide +kernel)) rfl) rfl ?_
        refine xx_ifb_ne (q := 101) (q2 := 99) rfl rfl rfl (fun h96 => ?_) (fun h96 => ?_)
        · skip
          refine xx_aload_n (q := 102) rfl rfl rfl ?_
          obtain ⟨D18, hx18, hO18, hs18⟩ := r_nexT (n := n) hR hS17.2.1 hl4 hby hS17.2.2.1 hS17.1 (by show kdT (stT (nwP 0 (B - 1) (a + 1) s).1) ≠ 258; have : kdT (stT (nwP 0 (B - 1) (a + 1) s).1) = 327 := h96; omega)
          have hS18 := hS17.step (t := stT (((stT ((((((nwP 0 (B - 1) (a + 1) s).1, fset (nwP 0 (B - 1) (a + 1) s).2 (a + 2).toNat 0)).1, fset (((nwP 0 (B - 1) (a + 1) s).1, fset (nwP 0 (B - 1) (a + 1) s).2 (a + 2).toNat 0)).2 (a + 3).toNat (-1))).1), (((((nwP 0 (B - 1) (a + 1) s).1, fset (nwP 0 (B - 1) (a + 1) s).2 (a + 2).toNat 0)).1, fset (((nwP 0 (B - 1) (a + 1) s).1, fset (nwP 0 (B - 1) (a + 1) s).2 (a + 2).toNat 0)).2 (a + 3).toNat (-1))).2)).1)) hO18
          refine xx_callV (q := 105) (As := []) (rest := []) rfl rfl rfl (Or.inl rfl) rfl rfl (Nat.le_of_ble_eq_true rfl) xS_479 (XCm hx18 rfl) rfl ?_
          refine xx_aload_n (q := 106) rfl rfl rfl ?_
          refine xx_iconst (q := 107) rfl rfl (by decide) ?_
          refine xx_aload_n (q := 108) rfl rfl rfl ?_
          refine xx_gez (q := 111) rfl rfl rfl xS_479 (Nat.le_of_ble_eq_true rfl) rfl hS18.2.2.2.2.1 ?_
          refine xx_iconst (q := 112) rfl rfl (by decide) ?_
          refine xx_isubR (q := 113) rfl rfl (by omega) (by omega) ?_
          obtain ⟨z19, D19, hx19, hq19⟩ := r_rdn (n := n) hR hl4 hby hS18 0 (B - 1) (a + 3) (150 + a + 4) (by omega) (by omega) (by omega) (by omega)
          refine xx_callV (q := 116) (As := [_, _]) (rest := []) rfl rfl rfl (Or.inl rfl) rfl rfl (Nat.le_of_ble_eq_true rfl) xS_479 (XCm hx19 rfl) rfl ?_
          have e : psQ a B s = nwP 0 (B - 1) (a + 3) (stT (((stT ((((((nwP 0 (B - 1) (a + 1) s).1, fset (nwP 0 (B - 1) (a + 1) s).2 (a + 2).toNat 0)).1, fset (((nwP 0 (B - 1) (a + 1) s).1, fset (nwP 0 (B - 1) (a + 1) s).2 (a + 2).toNat 0)).2 (a + 3).toNat (-1))).1), (((((nwP 0 (B - 1) (a + 1) s).1, fset (nwP 0 (B - 1) (a + 1) s).2 (a + 2).toNat 0)).1, fset (((nwP 0 (B - 1) (a + 1) s).1, fset (nwP 0 (B - 1) (a + 1) s).2 (a + 2).toNat 0)).2 (a + 3).toNat (-1))).2)).1), ((stT ((((((nwP 0 (B - 1) (a + 1) s).1, fset (nwP 0 (B - 1) (a + 1) s).2 (a + 2).toNat 0)).1, fset (((nwP 0 (B - 1) (a + 1) s).1, fset (nwP 0 (B - 1) (a + 1) s).2 (a + 2).toNat 0)).2 (a + 3).toNat (-1))).1), (((((nwP 0 (B - 1) (a + 1) s).1, fset (nwP 0 (B - 1) (a + 1) s).2 (a + 2).toNat 0)).1, fset (((nwP 0 (B - 1) (a + 1) s).1, fset (nwP 0 (B - 1) (a + 1) s).2 (a + 2).toNat 0)).2 (a + 3).toNat (-1))).2)).2) := by
            unfold psQ wiP
            rw [hup, (show (if kdP (nwP 0 (B - 1) (a + 1) s) = 315 then (1 : Int) else 0) = 0 from if_neg h23), if_pos (by exact h96)]
            unfold nwP
            exact congrArg (fun d => (nwT 0 (B - 1) (stT (stT (nwP 0 (B - 1) (a + 1) s).1)), d)) fset2.symm
          rw [e]
          exact xx_iret rfl trivial ⟨_, _, rfl, rfl, _, hq19⟩
        · refine xx_iconst (q := 100) rfl rfl (by decide) ?_
          have e : psQ a B s = (stT ((((((nwP 0 (B - 1) (a + 1) s).1, fset (nwP 0 (B - 1) (a + 1) s).2 (a + 2).toNat 0)).1, fset (((nwP 0 (B - 1) (a + 1) s).1, fset (nwP 0 (B - 1) (a + 1) s).2 (a + 2).toNat 0)).2 (a + 3).toNat (-1))).1), (((((nwP 0 (B - 1) (a + 1) s).1, fset (nwP 0 (B - 1) (a + 1) s).2 (a + 2).toNat 0)).1, fset (((nwP 0 (B - 1) (a + 1) s).1, fset (nwP 0 (B - 1) (a + 1) s).2 (a + 2).toNat 0)).2 (a + 3).toNat (-1))).2) := by
            unfold psQ wiP
            rw [hup, (show (if kdP (nwP 0 (B - 1) (a + 1) s) = 315 then (1 : Int) else 0) = 0 from if_neg h23), if_neg (by exact h96)]
            rfl
          refine xx_iret rfl trivial ⟨_, _, rfl, rfl, (150 + a + 2) + 1, Or.inl ?_⟩
          rw [e]
          exact ⟨hS17.1.2.2.1, rfl, hS17⟩
      · refine xx_aload_n (q := 36) rfl rfl rfl ?_
        refine xx_iconst (q := 37) rfl rfl (by decide) ?_
        obtain ⟨D20, hx20, hF20⟩ := r_errs (n := n) hR hq1.2.2.1 1
        refine xx_callV (q := 40) (As := [_]) (rest := []) rfl rfl rfl (Or.inl rfl) rfl rfl (Nat.le_of_ble_eq_true rfl) xS_479 (XCm hx20 rfl) rfl ?_
        have eu : upQ (nwP 0 (B - 1) (a + 1) s) = wrP 1 (nwP 0 (B - 1) (a + 1) s) := (if_neg h23).trans (congrArg (fun t => (t, _)) (if_neg h32))
        have hd9 : (wrP 1 (nwP 0 (B - 1) (a + 1) s)).1.1 ≠ 0 := wrT_0 hq1.2.2.1.2.2.1 (by decide)
        have g2 : DeP (wrP 1 (nwP 0 (B - 1) (a + 1) s)) (psQ a B s) := by
          unfold psQ
          rw [eu]
          have g3 : DeP (wrP 1 (nwP 0 (B - 1) (a + 1) s)) (ptP (a + 2) (if kdP (nwP 0 (B - 1) (a + 1) s) = 315 then 1 else 0) (wrP 1 (nwP 0 (B - 1) (a + 1) s))) := ⟨rfl, rfl⟩
          exact g3.trans (wiP_d (g3.dd hd9))
        exact xx_iret rfl trivial ⟨_, _, rfl, rfl, 0, RpQ.dd (t := wrT 1 (nwP 0 (B - 1) (a + 1) s).1) hd9 (hq1.2.2.fl hF20).1 (hq1.2.2.fl hF20).2.1 (hq1.2.2.fl hF20).2.2 g2.1 g2.2⟩
  · refine xx_iconst (q := 16) rfl rfl (by decide) ?_
    replace hq1 := hq1.resolve_left (fun q => by have := q.2.1; omega)
    have g2 := psQ_d (a := a) (B := B) (s := s) hq1.1
    exact xx_iret rfl trivial ⟨_, _, rfl, rfl, 0, RpQ.dd (t := (nwP 0 (B - 1) (a + 1) s).1) hq1.1 hq1.2.2.1 hq1.2.2.2.1 hq1.2.2.2.2 g2.1 g2.2⟩
theorem r_rddeed0 {n : Nat} {R : Nat → Nat → Option Nat} {D0 D : KK} {bs : List Int} {Lk B a : Int} {s : Pg} (hR : RF R) (hl4 : bs.length ≤ 400) (hby : ∀ j, 0 ≤ bs.getD j 0 ∧ bs.getD j 0 ≤ 255) (hS : RpS bs Lk B D0 s (150 + a + 1) D) (ha0 : 0 ≤ a) (ha1 : a ≤ 145) (hB0 : 0 ≤ B) (hB1 : B ≤ 6) (hL0 : 0 ≤ Lk) (hL1 : Lk ≤ 9) : ∃ z D', XC 6 219 [.inr (some 479), .inl 0] (xS n, R, D) (some (.inl z)) (xS n, R, D') ∧ RpE bs Lk B D0 (doQ 322 a Lk B s) z D' := by
  refine XPe_of (d := 5) (Nat.le_of_ble_eq_true rfl) (Nat.le_of_ble_eq_true rfl) (loc := [_, _]) rfl ?_
  refine xx_iload_n (q := 1) rfl rfl rfl ?_
  refine xx_if_ne (q := 9) (q2 := 4) rfl rfl rfl (fun h1 => (by exfalso; omega)) (fun _ => ?_)
  refine xx_aload_n (q := 5) rfl rfl rfl ?_
  obtain ⟨z1, D1, hx1, hq1⟩ := r_rdpass (n := n) hR hl4 hby hS ha0 ha1 hB0 hB1 hL0 hL1
  refine xx_callV (q := 8) (As := []) (rest := []) rfl rfl rfl (Or.inl rfl) rfl rfl (Nat.le_of_ble_eq_true rfl) xS_479 (XCm hx1 rfl) rfl ?_
  exact xx_iret rfl trivial ⟨_, _, rfl, rfl, hq1⟩
theorem r_rddeed1 {n : Nat} {R : Nat → Nat → Option Nat} {D0 D : KK} {bs : List Int} {Lk B a : Int} {s : Pg} (hR : RF R) (hl4 : bs.length ≤ 400) (hby : ∀ j, 0 ≤ bs.getD j 0 ∧ bs.getD j 0 ≤ 255) (hS : RpS bs Lk B D0 s (150 + a + 1) D) (ha0 : 0 ≤ a) (ha1 : a ≤ 145) (hB0 : 0 ≤ B) (hB1 : B ≤ 6) (hL0 : 0 ≤ Lk) (hL1 : Lk ≤ 9) : ∃ z D', XC 6 219 [.inr (some 479), .inl 1] (xS n, R, D) (some (.inl z)) (xS n, R, D') ∧ RpE bs Lk B D0 (doQ 323 a Lk B s) z D' := by
  refine XPe_of (d := 5) (Nat.le_of_ble_eq_true rfl) (Nat.le_of_ble_eq_true rfl) (loc := [_, _]) rfl ?_
  refine xx_iload_n (q := 1) rfl rfl rfl ?_
  refine xx_if_ne (q := 9) (q2 := 4) rfl rfl rfl (fun _ => ?_) (fun h1 => (by exfalso; omega))
  refine xx_iload_n (q := 10) rfl rfl rfl ?_
  refine xx_iconst (q := 11) rfl rfl (by decide) ?_
  refine xx_icmp_ne (q := 19) (q2 := 14) rfl rfl rfl (fun h11 => (by exfalso; omega)) (fun _ => ?_)
  refine xx_aload_n (q := 15) rfl rfl rfl ?_
  obtain ⟨z1, D1, hx1, hq1⟩ := r_rdgive (n := n) hR hl4 hby hS ha0 ha1 hB0 hB1 hL0 hL1
  refine xx_callV (q := 18) (As := []) (rest := []) rfl rfl rfl (Or.inl rfl) rfl rfl (Nat.le_of_ble_eq_true rfl) xS_479 (XCm hx1 rfl) rfl ?_
  exact xx_iret rfl trivial ⟨_, _, rfl, rfl, _, hq1⟩
theorem r_rddeed2 {n : Nat} {R : Nat → Nat → Option Nat} {D0 D : KK} {bs : List Int} {Lk B a : Int} {s : Pg} (hR : RF R) (hl4 : bs.length ≤ 400) (hby : ∀ j, 0 ≤ bs.getD j 0 ∧ bs.getD j 0 ≤ 255) (hS : RpS bs Lk B D0 s (150 + a + 1) D) (ha0 : 0 ≤ a) (ha1 : a ≤ 145) (hB0 : 0 ≤ B) (hB1 : B ≤ 6) (hL0 : 0 ≤ Lk) (hL1 : Lk ≤ 9) : ∃ z D', XC 6 219 [.inr (some 479), .inl 2] (xS n, R, D) (some (.inl z)) (xS n, R, D') ∧ RpE bs Lk B D0 (doQ 324 a Lk B s) z D' := by
  refine XPe_of (d := 5) (Nat.le_of_ble_eq_true rfl) (Nat.le_of_ble_eq_true rfl) (loc := [_, _]) rfl ?_
  refine xx_iload_n (q := 1) rfl rfl rfl ?_
  refine xx_if_ne (q := 9) (q2 := 4) rfl rfl rfl (fun _ => ?_) (fun h1 => (by exfalso; omega))
  refine xx_iload_n (q := 10) rfl rfl rfl ?_
  refine xx_iconst (q := 11) rfl rfl (by decide) ?_
  refine xx_icmp_ne (q := 19) (q2 := 14) rfl rfl rfl (fun _ => ?_) (fun h11 => (by exfalso; omega))
  refine xx_iload_n (q := 20) rfl rfl rfl ?_
  refine xx_iconst (q := 21) rfl rfl (by decide) ?_
  refine xx_icmp_ne (q := 32) (q2 := 24) rfl rfl rfl (fun _ => ?_) (fun h21 => (by exfalso; omega))
  refine xx_aload_n (q := 33) rfl rfl rfl ?_
  refine xx_iconst (q := 34) rfl rfl (by decide) ?_
  refine xx_aload_n (q := 35) rfl rfl rfl ?_
  refine xx_gez (q := 38) rfl rfl rfl xS_479 (Nat.le_of_ble_eq_true rfl) rfl hS.2.2.2.1 ?_
  refine xx_iconst (q := 39) rfl rfl (by decide) ?_
  refine xx_isubR (q := 40) rfl rfl (by omega) (by omega) ?_
  obtain ⟨z1, D1, hx1, hq1⟩ := r_rdn (n := n) hR hl4 hby hS 0 (Lk - 1) (a + 1) (150 + a + 2) (by omega) (by omega) (by omega) (by omega)
  refine xx_callV (q := 43) (As := [_, _]) (rest := []) rfl rfl rfl (Or.inl rfl) rfl rfl (Nat.le_of_ble_eq_true rfl) xS_479 (XCm hx1 rfl) rfl ?_
  refine xx_iconst (q := 44) rfl rfl (by decide) ?_
  refine xx_icmp_ne (q := 51) (q2 := 47) rfl rfl rfl (fun h44 => ?_) (fun h44 => ?_)
  · replace hq1 := hq1.resolve_right (fun q => h44 q.2.1)
    refine xx_aload_n (q := 52) rfl rfl rfl ?_
    refine xx_iconst (q := 53) rfl rfl (by decide) ?_
    refine xx_bipush (q := 55) rfl rfl (by decide) ?_
    obtain ⟨z2, D2, hx2, hq2⟩ := r_rdn (n := n) hR hl4 hby hq1.2.2 1 9 (a + 2) (150 + a + 3) (by omega) (by omega) (by omega) (by omega)
    refine xx_callV (q := 58) (As := [_, _]) (rest := []) rfl rfl rfl (Or.inl rfl) rfl rfl (Nat.le_of_ble_eq_true rfl) xS_479 (XCm hx2 rfl) rfl ?_
    exact xx_iret rfl trivial ⟨_, _, rfl, rfl, _, hq2⟩
  · refine xx_iconst (q := 48) rfl rfl (by decide) ?_
    refine xx_goto (q := 58) rfl rfl ?_
    replace hq1 := hq1.resolve_left (fun q => by have := q.2.1; omega)
    have g0 := nwP_d (lo := 1) (hi := 9) (j := a + 2) hq1.1
    exact xx_iret rfl trivial ⟨_, _, rfl, rfl, 0, RpQ.dd (t := (nwP 0 (Lk - 1) (a + 1) s).1) hq1.1 hq1.2.2.1 hq1.2.2.2.1 hq1.2.2.2.2 g0.1 g0.2⟩
theorem r_rddeed3 {n : Nat} {R : Nat → Nat → Option Nat} {D0 D : KK} {bs : List Int} {Lk B a : Int} {s : Pg} (hR : RF R) (hl4 : bs.length ≤ 400) (hby : ∀ j, 0 ≤ bs.getD j 0 ∧ bs.getD j 0 ≤ 255) (hS : RpS bs Lk B D0 s (150 + a + 1) D) (ha0 : 0 ≤ a) (ha1 : a ≤ 145) (hB0 : 0 ≤ B) (hB1 : B ≤ 6) (hL0 : 0 ≤ Lk) (hL1 : Lk ≤ 9) : ∃ z D', XC 6 219 [.inr (some 479), .inl 3] (xS n, R, D) (some (.inl z)) (xS n, R, D') ∧ RpE bs Lk B D0 (doQ 325 a Lk B s) z D' := by
  refine XPe_of (d := 5) (Nat.le_of_ble_eq_true rfl) (Nat.le_of_ble_eq_true rfl) (loc := [_, _]) rfl ?_
  refine xx_iload_n (q := 1) rfl rfl rfl ?_
  refine xx_if_ne (q := 9) (q2 := 4) rfl rfl rfl (fun _ => ?_) (fun h1 => (by exfalso; omega))
  refine xx_iload_n (q := 10) rfl rfl rfl ?_
  refine xx_iconst (q := 11) rfl rfl (by decide) ?_
  refine xx_icmp_ne (q := 19) (q2 := 14) rfl rfl rfl (fun _ => ?_) (fun h11 => (by exfalso; omega))
  refine xx_iload_n (q := 20) rfl rfl rfl ?_
  refine xx_iconst (q := 21) rfl rfl (by decide) ?_
  refine xx_icmp_ne (q := 32) (q2 := 24) rfl rfl rfl (fun h21 => (by exfalso; omega)) (fun _ => ?_)
  refine xx_aload_n (q := 25) rfl rfl rfl ?_
  refine xx_iconst (q := 26) rfl rfl (by decide) ?_
  refine xx_bipush (q := 28) rfl rfl (by decide) ?_
  obtain ⟨z1, D1, hx1, hq1⟩ := r_rdn (n := n) hR hl4 hby hS 1 99 (a + 1) (150 + a + 2) (by omega) (by omega) (by omega) (by omega)
  refine xx_callV (q := 31) (As := [_, _]) (rest := []) rfl rfl rfl (Or.inl rfl) rfl rfl (Nat.le_of_ble_eq_true rfl) xS_479 (XCm hx1 rfl) rfl ?_
  exact xx_iret rfl trivial ⟨_, _, rfl, rfl, _, hq1⟩
def ddF (k : Int) : Int := if k = 322 then 0 else if k = 323 then 1 else if k = 324 then 2 else if k = 325 then 3 else -1
theorem r_deedOf {n : Nat} {R : Nat → Nat → Option Nat} {D0 D : KK} {bs : List Int} {Lk B sp : Int} {s : Pg} (hR : RF R) (hl4 : bs.length ≤ 400) (hby : ∀ j, 0 ≤ bs.getD j 0 ∧ bs.getD j 0 ≤ 255) (hS : RpS bs Lk B D0 s sp D) : XC 2 220 [.inr (some 479)] (xS n, R, D) (some (.inl (ddF (kdP s)))) (xS n, R, D) := by
  refine XC_of (Nat.le_of_ble_eq_true rfl) (Nat.le_of_ble_eq_true rfl) (loc := [_]) rfl ?_
  refine xx_aload_n (q := 1) rfl rfl rfl ?_
  refine xx_bipush (q := 3) rfl rfl (by decide) ?_
  refine xx_callV (q := 6) (As := [_]) (rest := []) rfl rfl rfl (Or.inl rfl) rfl rfl (Nat.le_of_ble_eq_true rfl) xS_479 (XCm (r_isWord (n := n) hR hS.1 322 22 (by decide) (by decide) (by decide +kernel)) rfl) rfl ?_
  refine xx_ifb_eq (q := 11) (q2 := 9) rfl rfl rfl (fun h6 => ?_) (fun h6 => ?_)
  · refine xx_aload_n (q := 12) rfl rfl rfl ?_
    refine xx_bipush (q := 14) rfl rfl (by decide) ?_
    refine xx_callV (q := 17) (As := [_]) (rest := []) rfl rfl rfl (Or.inl rfl) rfl rfl (Nat.le_of_ble_eq_true rfl) xS_479 (XCm (r_isWord (n := n) hR hS.1 323 25 (by decide) (by decide) (by decide +kernel)) rfl) rfl ?_
    refine xx_ifb_eq (q := 22) (q2 := 20) rfl rfl rfl (fun h17 => ?_) (fun h17 => ?_)
    · refine xx_aload_n (q := 23) rfl rfl rfl ?_
      refine xx_bipush (q := 25) rfl rfl (by decide) ?_
      refine xx_callV (q := 28) (As := [_]) (rest := []) rfl rfl rfl (Or.inl rfl) rfl rfl (Nat.le_of_ble_eq_true rfl) xS_479 (XCm (r_isWord (n := n) hR hS.1 324 29 (by decide) (by decide) (by decide +kernel)) rfl) rfl ?_
      refine xx_ifb_eq (q := 35) (q2 := 31) rfl rfl rfl (fun h28 => ?_) (fun h28 => ?_)
      · refine xx_aload_n (q := 36) rfl rfl rfl ?_
        refine xx_bipush (q := 38) rfl rfl (by decide) ?_
        refine xx_callV (q := 41) (As := [_]) (rest := []) rfl rfl rfl (Or.inl rfl) rfl rfl (Nat.le_of_ble_eq_true rfl) xS_479 (XCm (r_isWord (n := n) hR hS.1 325 30 (by decide) (by decide) (by decide +kernel)) rfl) rfl ?_
        refine xx_ifb_eq (q := 48) (q2 := 44) rfl rfl rfl (fun h41 => ?_) (fun h41 => ?_)
        · refine xx_iconst (q := 49) rfl rfl (by decide) ?_
          exact xx_iret rfl trivial ⟨congrArg (fun z => some (Sum.inl z)) (by show _ = ddF (kdS (s.1, [])); unfold ddF; rw [if_neg h6, if_neg h17, if_neg h28, if_neg h41]), rfl⟩
        · refine xx_iconst (q := 45) rfl rfl (by decide) ?_
          refine xx_goto (q := 49) rfl rfl ?_
          exact xx_iret rfl trivial ⟨congrArg (fun z => some (Sum.inl z)) (by show _ = ddF (kdS (s.1, [])); unfold ddF; rw [if_neg h6, if_neg h17, if_neg h28, if_pos h41]), rfl⟩
      · refine xx_iconst (q := 32) rfl rfl (by decide) ?_
        refine xx_goto (q := 49) rfl rfl ?_
        exact xx_iret rfl trivial ⟨congrArg (fun z => some (Sum.inl z)) (by show _ = ddF (kdS (s.1, [])); unfold ddF; rw [if_neg h6, if_neg h17, if_pos h28]), rfl⟩
    · refine xx_iconst (q := 21) rfl rfl (by decide) ?_
      exact xx_iret rfl trivial ⟨congrArg (fun z => some (Sum.inl z)) (by show _ = ddF (kdS (s.1, [])); unfold ddF; rw [if_neg h6, if_pos h17]), rfl⟩
  · refine xx_iconst (q := 10) rfl rfl (by decide) ?_
    exact xx_iret rfl trivial ⟨congrArg (fun z => some (Sum.inl z)) (by show _ = ddF (kdS (s.1, [])); unfold ddF; rw [if_pos h6]), rfl⟩
