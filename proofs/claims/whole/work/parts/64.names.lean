/-! Presents, pulls, sets, hearsay by their names: the class. -/
def pleV (o : OL) (w : Int) : Int := match o with
  | none => 0
  | some l => gvn l (fun _ => 0) (w - 10).toNat
def pleF (K : KK) (G Hh : LwF) (boat good pool w : Int) : Int := if ¬ (((0 ≤ boat ∧ boat < K 13 0) ∧ (0 ≤ good ∧ good ≤ 3) ∧ (0 ≤ pool ∧ pool ≤ K 0 0)) ∧ (w = 0 ∨ (10 ≤ w ∧ w ≤ 9 + K 0 0))) then -1 else if (fewF G Hh boat good pool K).1 = -1 ∨ w = 0 then (fewF G Hh boat good pool K).1 else pleV (fewF G Hh boat good pool K).2 w
theorem fewL_s {G Hh : LwF} {boat good pool : Int} {K : KK} : ∀ (k : Nat) (a : Int), 0 ≤ a → ((fewL G Hh boat good pool K k a).1 = -1 ∧ (fewL G Hh boat good pool K k a).2 = none) ∨ (0 ≤ (fewL G Hh boat good pool K k a).1 ∧ ∃ l, (fewL G Hh boat good pool K k a).2 = some l)
  | 0, _, _ => Or.inl ⟨rfl, rfl⟩
  | k + 1, a, h => by
    unfold fewL
    cases plsF G Hh boat good pool 9 K a with
    | some l => exact Or.inr ⟨h, l, rfl⟩
    | none => exact fewL_s k (a + 1) (by omega)
theorem ple_e {D : KK} {o : OL} {w v : Int} (h : ∀ l, o = some l → ∀ k, k < 9 → D 280 k = gvn l (fun _ => 0) k) (h2 : 0 ≤ v ∧ ∃ l, o = some l) (hw : (w - 10).toNat < 9) : D 280 (w - 10).toNat = pleV o w := by
  obtain ⟨_, l, rfl⟩ := h2
  exact h l rfl _ hw
set_option maxHeartbeats 4000000 in
theorem c_please {n : Nat} {R : Nat → Nat → Option Nat} {D K : KK} (hR : RF R) (hK : CK 27 K D) (hI : KI K) {G Hh : LwF} (hG : LwG G n R D) (hH : LwH Hh n R D) (boat good pool w : Int) : ∃ D', XC 17 138 [.inr (some 5), .inl boat, .inl good, .inl pool, .inl w] (xS n, R, D) (some (.inl (pleF K G Hh boat good pool w))) (xS n, R, D') ∧ FX D D' := by
  have hbL := ki_L hI
  have hbB := ki_B hI
  refine XE_of (Nat.le_of_ble_eq_true rfl) (Nat.le_of_ble_eq_true rfl) (loc := [_, _, _, _, _, _, _, _, _]) rfl ?_
  refine xx_aload_n (q := 1) rfl rfl rfl ?_
  refine xx_getR (q := 4) rfl rfl rfl xS_5 (Nat.le_of_ble_eq_true rfl) rfl (hR.1 5 0 rfl) ?_
  refine xx_getR (q := 7) rfl rfl rfl xS_6 (Nat.le_of_ble_eq_true rfl) rfl (hR.1 6 5 rfl) ?_
  refine xx_astore (q := 9) (loc2 := [_, _, _, _, _, _, _, _, _]) rfl rfl (Nat.le_of_ble_eq_true rfl) rfl ?_
  refine xx_aload (q := 11) rfl rfl rfl ?_
  refine xx_getR (q := 14) rfl rfl rfl (xSc_0 isC_27) (Nat.le_of_ble_eq_true rfl) rfl (rc_fleet hR isC_27) ?_
  refine xx_iload_n (q := 15) rfl rfl rfl ?_
  refine xx_callV (q := 18) (As := [_]) (rest := []) rfl rfl rfl (Or.inl rfl) rfl rfl (Nat.le_of_ble_eq_true rfl) (xSc_13 isC_27) (XCm (c_has hR isC_27 hK hI boat) rfl) rfl ?_
  refine xx_ifb_eq (q := 43) (q2 := 21) rfl rfl rfl (fun h18 => ?_) (fun h18 => ?_)
  · refine xx_iconst (q := 44) rfl rfl (by decide) ?_
    refine xx_istore (q := 46) (loc2 := [_, _, _, _, _, _, _, _, _]) rfl rfl (Nat.le_of_ble_eq_true rfl) rfl ?_
    refine xx_iload (q := 48) rfl rfl rfl ?_
    refine xx_bipush (q := 50) rfl rfl (by decide) ?_
    refine xx_bipush (q := 52) rfl rfl (by decide) ?_
    refine xx_aload (q := 54) rfl rfl rfl ?_
    refine xx_gez (v := K 0 0) (q := 57) rfl rfl rfl (xSc_0 isC_27) (Nat.le_of_ble_eq_true rfl) rfl (hK 0 0 (Nat.le_of_ble_eq_true rfl)) ?_
    have hb1 : 1 ≤ K 0 0 ∧ K 0 0 ≤ 9 := by have h := ki_L hI; exact h
    refine xx_iaddR (q := 58) rfl rfl (by omega) (by omega) ?_
    refine xx_callS (q := 61) (As := [_, _, _]) (rest := []) rfl rfl rfl (Or.inl rfl) rfl rfl (Nat.le_of_ble_eq_true rfl) (XCm (c_within w 10 (9 + (K 0 0))) rfl) rfl ?_
    refine xx_istore (q := 63) (loc2 := [_, _, _, _, _, _, _, _, _]) rfl rfl (Nat.le_of_ble_eq_true rfl) rfl ?_
    refine xx_iload (q := 65) rfl rfl rfl ?_
    refine xx_if_eq (q := 78) (q2 := 68) rfl rfl rfl (fun h65 => ?_) (fun h65 => ?_)
    · refine xx_iconst (q := 79) rfl rfl (by decide) ?_
      refine xx_iret rfl trivial ⟨congrArg (fun z => some (Sum.inl z)) (by unfold pleF; rw [if_pos (fun q => by omega)]), _, rfl, ?_⟩
      exact FX.rf
    · refine xx_iload (q := 70) rfl rfl rfl ?_
      refine xx_if_eq (q := 80) (q2 := 73) rfl rfl rfl (fun h70 => ?_) (fun h70 => ?_)
      · refine xx_aload_n (q := 81) rfl rfl rfl ?_
        refine xx_getR (q := 84) rfl rfl rfl xS_5 (Nat.le_of_ble_eq_true rfl) rfl (hR.1 5 3 rfl) ?_
        refine xx_aload (q := 86) rfl rfl rfl ?_
        refine xx_iload_n (q := 87) rfl rfl rfl ?_
        refine xx_iload_n (q := 88) rfl rfl rfl ?_
        refine xx_iload_n (q := 89) rfl rfl rfl ?_
        obtain ⟨D2, hx2, hFA, hgv⟩ := c_few (n := n) hR boat good pool (by omega) (by omega) (by omega) (by omega) hI hK hG hH
        have hfs := fewL_s (G := G) (Hh := Hh) (boat := boat) (good := good) (pool := pool) (K := K) (mnF 6 (K 17 (boat * 4 + good).toNat) + 1).toNat 0 (by omega)
        refine xx_callV (q := 92) (As := [_, _, _, _]) (rest := []) rfl rfl rfl (Or.inl rfl) rfl rfl (Nat.le_of_ble_eq_true rfl) xS_279 (XCm hx2 rfl) rfl ?_
        refine xx_istore (q := 94) (loc2 := [_, _, _, _, _, _, _, _, _]) rfl rfl (Nat.le_of_ble_eq_true rfl) rfl ?_
        refine xx_iload (q := 96) rfl rfl rfl ?_
        refine xx_iconst (q := 97) rfl rfl (by decide) ?_
        refine xx_icmp_eq (q := 105) (q2 := 100) rfl rfl rfl (fun h97 => ?_) (fun h97 => ?_)
        · refine xx_iload (q := 107) rfl rfl rfl ?_
          refine xx_goto (q := 123) rfl rfl ?_
          refine xx_iret rfl trivial ⟨congrArg (fun z => some (Sum.inl z)) (by unfold pleF; rw [if_neg (fun q => q ⟨⟨by omega, by omega, by omega⟩, by omega⟩), if_pos (Or.inl h97)]), _, rfl, ?_⟩
          exact fun x k h1 h2 h3 => hFA x k (by omega) h2 h3
        · refine xx_iload (q := 102) rfl rfl rfl ?_
          refine xx_ifb_ne (q := 110) (q2 := 105) rfl rfl rfl (fun h102 => ?_) (fun h102 => ?_)
          · refine xx_aload_n (q := 111) rfl rfl rfl ?_
            refine xx_getR (q := 114) rfl rfl rfl xS_5 (Nat.le_of_ble_eq_true rfl) rfl (hR.1 5 3 rfl) ?_
            refine xx_getR (q := 117) rfl rfl rfl xS_279 (Nat.le_of_ble_eq_true rfl) rfl (hR.1 279 4 rfl) ?_
            refine xx_iload (q := 119) rfl rfl rfl ?_
            refine xx_bipush (q := 121) rfl rfl (by decide) ?_
            refine xx_isubR (q := 122) rfl rfl (by omega) (by omega) ?_
            refine xx_iaz (v := pleV (fewF G Hh boat good pool K).2 w) (q := 123) rfl rfl xS_280 (by omega) (by omega) (ple_e hgv (hfs.resolve_left (fun q => h97 q.1)) (by omega)) ?_
            refine xx_iret rfl trivial ⟨congrArg (fun z => some (Sum.inl z)) (by unfold pleF; rw [if_neg (fun q => q ⟨⟨by omega, by omega, by omega⟩, by omega⟩), if_neg (fun q => by omega)]), _, rfl, ?_⟩
            exact fun x k h1 h2 h3 => hFA x k (by omega) h2 h3
          · refine xx_iload (q := 107) rfl rfl rfl ?_
            refine xx_goto (q := 123) rfl rfl ?_
            refine xx_iret rfl trivial ⟨congrArg (fun z => some (Sum.inl z)) (by unfold pleF; rw [if_neg (fun q => q ⟨⟨by omega, by omega, by omega⟩, by omega⟩), if_pos (Or.inr (by omega))]), _, rfl, ?_⟩
            exact fun x k h1 h2 h3 => hFA x k (by omega) h2 h3
      · refine xx_iload (q := 75) rfl rfl rfl ?_
        refine xx_ifb_ne (q := 80) (q2 := 78) rfl rfl rfl (fun h75 => ?_) (fun h75 => ?_)
        · refine xx_aload_n (q := 81) rfl rfl rfl ?_
          refine xx_getR (q := 84) rfl rfl rfl xS_5 (Nat.le_of_ble_eq_true rfl) rfl (hR.1 5 3 rfl) ?_
          refine xx_aload (q := 86) rfl rfl rfl ?_
          refine xx_iload_n (q := 87) rfl rfl rfl ?_
          refine xx_iload_n (q := 88) rfl rfl rfl ?_
          refine xx_iload_n (q := 89) rfl rfl rfl ?_
          obtain ⟨D3, hx3, hFA, hgv⟩ := c_few (n := n) hR boat good pool (by omega) (by omega) (by omega) (by omega) hI hK hG hH
          have hfs := fewL_s (G := G) (Hh := Hh) (boat := boat) (good := good) (pool := pool) (K := K) (mnF 6 (K 17 (boat * 4 + good).toNat) + 1).toNat 0 (by omega)
          refine xx_callV (q := 92) (As := [_, _, _, _]) (rest := []) rfl rfl rfl (Or.inl rfl) rfl rfl (Nat.le_of_ble_eq_true rfl) xS_279 (XCm hx3 rfl) rfl ?_
          refine xx_istore (q := 94) (loc2 := [_, _, _, _, _, _, _, _, _]) rfl rfl (Nat.le_of_ble_eq_true rfl) rfl ?_
          refine xx_iload (q := 96) rfl rfl rfl ?_
          refine xx_iconst (q := 97) rfl rfl (by decide) ?_
          refine xx_icmp_eq (q := 105) (q2 := 100) rfl rfl rfl (fun h97 => ?_) (fun h97 => ?_)
          · refine xx_iload (q := 107) rfl rfl rfl ?_
            refine xx_goto (q := 123) rfl rfl ?_
            refine xx_iret rfl trivial ⟨congrArg (fun z => some (Sum.inl z)) (by unfold pleF; rw [if_neg (fun q => q ⟨⟨by omega, by omega, by omega⟩, by omega⟩), if_pos (Or.inl h97)]), _, rfl, ?_⟩
            exact fun x k h1 h2 h3 => hFA x k (by omega) h2 h3
          · refine xx_iload (q := 102) rfl rfl rfl ?_
            refine xx_ifb_ne (q := 110) (q2 := 105) rfl rfl rfl (fun h102 => ?_) (fun h102 => ?_)
            · refine xx_aload_n (q := 111) rfl rfl rfl ?_
              refine xx_getR (q := 114) rfl rfl rfl xS_5 (Nat.le_of_ble_eq_true rfl) rfl (hR.1 5 3 rfl) ?_
              refine xx_getR (q := 117) rfl rfl rfl xS_279 (Nat.le_of_ble_eq_true rfl) rfl (hR.1 279 4 rfl) ?_
              refine xx_iload (q := 119) rfl rfl rfl ?_
              refine xx_bipush (q := 121) rfl rfl (by decide) ?_
              refine xx_isubR (q := 122) rfl rfl (by omega) (by omega) ?_
              refine xx_iaz (v := pleV (fewF G Hh boat good pool K).2 w) (q := 123) rfl rfl xS_280 (by omega) (by omega) (ple_e hgv (hfs.resolve_left (fun q => h97 q.1)) (by omega)) ?_
              refine xx_iret rfl trivial ⟨congrArg (fun z => some (Sum.inl z)) (by unfold pleF; rw [if_neg (fun q => q ⟨⟨by omega, by omega, by omega⟩, by omega⟩), if_neg (fun q => by omega)]), _, rfl, ?_⟩
              exact fun x k h1 h2 h3 => hFA x k (by omega) h2 h3
            · refine xx_iload (q := 107) rfl rfl rfl ?_
              refine xx_goto (q := 123) rfl rfl ?_
              refine xx_iret rfl trivial ⟨congrArg (fun z => some (Sum.inl z)) (by unfold pleF; rw [if_neg (fun q => q ⟨⟨by omega, by omega, by omega⟩, by omega⟩), if_pos (Or.inr (by omega))]), _, rfl, ?_⟩
              exact fun x k h1 h2 h3 => hFA x k (by omega) h2 h3
        · refine xx_iconst (q := 79) rfl rfl (by decide) ?_
          refine xx_iret rfl trivial ⟨congrArg (fun z => some (Sum.inl z)) (by unfold pleF; rw [if_pos (fun q => by omega)]), _, rfl, ?_⟩
          exact FX.rf
  · refine xx_iload_n (q := 22) rfl rfl rfl ?_
    refine xx_iconst (q := 23) rfl rfl (by decide) ?_
    refine xx_iconst (q := 24) rfl rfl (by decide) ?_
    refine xx_callS (q := 27) (As := [_, _, _]) (rest := []) rfl rfl rfl (Or.inl rfl) rfl rfl (Nat.le_of_ble_eq_true rfl) (XCm (c_within good 0 3) rfl) rfl ?_
    refine xx_ifb_eq (q := 43) (q2 := 30) rfl rfl rfl (fun h27 => ?_) (fun h27 => ?_)
    · refine xx_iconst (q := 44) rfl rfl (by decide) ?_
      refine xx_istore (q := 46) (loc2 := [_, _, _, _, _, _, _, _, _]) rfl rfl (Nat.le_of_ble_eq_true rfl) rfl ?_
      refine xx_iload (q := 48) rfl rfl rfl ?_
      refine xx_bipush (q := 50) rfl rfl (by decide) ?_
      refine xx_bipush (q := 52) rfl rfl (by decide) ?_
      refine xx_aload (q := 54) rfl rfl rfl ?_
      refine xx_gez (v := K 0 0) (q := 57) rfl rfl rfl (xSc_0 isC_27) (Nat.le_of_ble_eq_true rfl) rfl (hK 0 0 (Nat.le_of_ble_eq_true rfl)) ?_
      have hb4 : 1 ≤ K 0 0 ∧ K 0 0 ≤ 9 := by have h := ki_L hI; exact h
      refine xx_iaddR (q := 58) rfl rfl (by omega) (by omega) ?_
      refine xx_callS (q := 61) (As := [_, _, _]) (rest := []) rfl rfl rfl (Or.inl rfl) rfl rfl (Nat.le_of_ble_eq_true rfl) (XCm (c_within w 10 (9 + (K 0 0))) rfl) rfl ?_
      refine xx_istore (q := 63) (loc2 := [_, _, _, _, _, _, _, _, _]) rfl rfl (Nat.le_of_ble_eq_true rfl) rfl ?_
      refine xx_iload (q := 65) rfl rfl rfl ?_
      refine xx_if_eq (q := 78) (q2 := 68) rfl rfl rfl (fun h65 => ?_) (fun h65 => ?_)
      · refine xx_iconst (q := 79) rfl rfl (by decide) ?_
        refine xx_iret rfl trivial ⟨congrArg (fun z => some (Sum.inl z)) (by unfold pleF; rw [if_pos (fun q => by omega)]), _, rfl, ?_⟩
        exact FX.rf
      · refine xx_iload (q := 70) rfl rfl rfl ?_
        refine xx_if_eq (q := 80) (q2 := 73) rfl rfl rfl (fun h70 => ?_) (fun h70 => ?_)
        · refine xx_aload_n (q := 81) rfl rfl rfl ?_
          refine xx_getR (q := 84) rfl rfl rfl xS_5 (Nat.le_of_ble_eq_true rfl) rfl (hR.1 5 3 rfl) ?_
          refine xx_aload (q := 86) rfl rfl rfl ?_
          refine xx_iload_n (q := 87) rfl rfl rfl ?_
          refine xx_iload_n (q := 88) rfl rfl rfl ?_
          refine xx_iload_n (q := 89) rfl rfl rfl ?_
          obtain ⟨D5, hx5, hFA, hgv⟩ := c_few (n := n) hR boat good pool (by omega) (by omega) (by omega) (by omega) hI hK hG hH
          have hfs := fewL_s (G := G) (Hh := Hh) (boat := boat) (good := good) (pool := pool) (K := K) (mnF 6 (K 17 (boat * 4 + good).toNat) + 1).toNat 0 (by omega)
          refine xx_callV (q := 92) (As := [_, _, _, _]) (rest := []) rfl rfl rfl (Or.inl rfl) rfl rfl (Nat.le_of_ble_eq_true rfl) xS_279 (XCm hx5 rfl) rfl ?_
          refine xx_istore (q := 94) (loc2 := [_, _, _, _, _, _, _, _, _]) rfl rfl (Nat.le_of_ble_eq_true rfl) rfl ?_
          refine xx_iload (q := 96) rfl rfl rfl ?_
          refine xx_iconst (q := 97) rfl rfl (by decide) ?_
          refine xx_icmp_eq (q := 105) (q2 := 100) rfl rfl rfl (fun h97 => ?_) (fun h97 => ?_)
          · refine xx_iload (q := 107) rfl rfl rfl ?_
            refine xx_goto (q := 123) rfl rfl ?_
            refine xx_iret rfl trivial ⟨congrArg (fun z => some (Sum.inl z)) (by unfold pleF; rw [if_neg (fun q => q ⟨⟨by omega, by omega, by omega⟩, by omega⟩), if_pos (Or.inl h97)]), _, rfl, ?_⟩
            exact fun x k h1 h2 h3 => hFA x k (by omega) h2 h3
          · refine xx_iload (q := 102) rfl rfl rfl ?_
            refine xx_ifb_ne (q := 110) (q2 := 105) rfl rfl rfl (fun h102 => ?_) (fun h102 => ?_)
            · refine xx_aload_n (q := 111) rfl rfl rfl ?_
              refine xx_getR (q := 114) rfl rfl rfl xS_5 (Nat.le_of_ble_eq_true rfl) rfl (hR.1 5 3 rfl) ?_
              refine xx_getR (q := 117) rfl rfl rfl xS_279 (Nat.le_of_ble_eq_true rfl) rfl (hR.1 279 4 rfl) ?_
              refine xx_iload (q := 119) rfl rfl rfl ?_
              refine xx_bipush (q := 121) rfl rfl (by decide) ?_
              refine xx_isubR (q := 122) rfl rfl (by omega) (by omega) ?_
              refine xx_iaz (v := pleV (fewF G Hh boat good pool K).2 w) (q := 123) rfl rfl xS_280 (by omega) (by omega) (ple_e hgv (hfs.resolve_left (fun q => h97 q.1)) (by omega)) ?_
              refine xx_iret rfl trivial ⟨congrArg (fun z => some (Sum.inl z)) (by unfold pleF; rw [if_neg (fun q => q ⟨⟨by omega, by omega, by omega⟩, by omega⟩), if_neg (fun q => by omega)]), _, rfl, ?_⟩
              exact fun x k h1 h2 h3 => hFA x k (by omega) h2 h3
            · refine xx_iload (q := 107) rfl rfl rfl ?_
              refine xx_goto (q := 123) rfl rfl ?_
              refine xx_iret rfl trivial ⟨congrArg (fun z => some (Sum.inl z)) (by unfold pleF; rw [if_neg (fun q => q ⟨⟨by omega, by omega, by omega⟩, by omega⟩), if_pos (Or.inr (by omega))]), _, rfl, ?_⟩
              exact fun x k h1 h2 h3 => hFA x k (by omega) h2 h3
        · refine xx_iload (q := 75) rfl rfl rfl ?_
          refine xx_ifb_ne (q := 80) (q2 := 78) rfl rfl rfl (fun h75 => ?_) (fun h75 => ?_)
          · refine xx_aload_n (q := 81) rfl rfl rfl ?_
            refine xx_getR (q := 84) rfl rfl rfl xS_5 (Nat.le_of_ble_eq_true rfl) rfl (hR.1 5 3 rfl) ?_
            refine xx_aload (q := 86) rfl rfl rfl ?_
            refine xx_iload_n (q := 87) rfl rfl rfl ?_
            refine xx_iload_n (q := 88) rfl rfl rfl ?_
            refine xx_iload_n (q := 89) rfl rfl rfl ?_
            obtain ⟨D6, hx6, hFA, hgv⟩ := c_few (n := n) hR boat good pool (by omega) (by omega) (by omega) (by omega) hI hK hG hH
            have hfs := fewL_s (G := G) (Hh := Hh) (boat := boat) (good := good) (pool := pool) (K := K) (mnF 6 (K 17 (boat * 4 + good).toNat) + 1).toNat 0 (by omega)
            refine xx_callV (q := 92) (As := [_, _, _, _]) (rest := []) rfl rfl rfl (Or.inl rfl) rfl rfl (Nat.le_of_ble_eq_true rfl) xS_279 (XCm hx6 rfl) rfl ?_
            refine xx_istore (q := 94) (loc2 := [_, _, _, _, _, _, _, _, _]) rfl rfl (Nat.le_of_ble_eq_true rfl) rfl ?_
            refine xx_iload (q := 96) rfl rfl rfl ?_
            refine xx_iconst (q := 97) rfl rfl (by decide) ?_
            refine xx_icmp_eq (q := 105) (q2 := 100) rfl rfl rfl (fun h97 => ?_) (fun h97 => ?_)
            · refine xx_iload (q := 107) rfl rfl rfl ?_
              refine xx_goto (q := 123) rfl rfl ?_
              refine xx_iret rfl trivial ⟨congrArg (fun z => some (Sum.inl z)) (by unfold pleF; rw [if_neg (fun q => q ⟨⟨by omega, by omega, by omega⟩, by omega⟩), if_pos (Or.inl h97)]), _, rfl, ?_⟩
              exact fun x k h1 h2 h3 => hFA x k (by omega) h2 h3
            · refine xx_iload (q := 102) rfl rfl rfl ?_
              refine xx_ifb_ne (q := 110) (q2 := 105) rfl rfl rfl (fun h102 => ?_) (fun h102 => ?_)
              · refine xx_aload_n (q := 111) rfl rfl rfl ?_
                refine xx_getR (q := 114) rfl rfl rfl xS_5 (Nat.le_of_ble_eq_true rfl) rfl (hR.1 5 3 rfl) ?_
                refine xx_getR (q := 117) rfl rfl rfl xS_279 (Nat.le_of_ble_eq_true rfl) rfl (hR.1 279 4 rfl) ?_
                refine xx_iload (q := 119) rfl rfl rfl ?_
                refine xx_bipush (q := 121) rfl rfl (by decide) ?_
                refine xx_isubR (q := 122) rfl rfl (by omega) (by omega) ?_
                refine xx_iaz (v := pleV (fewF G Hh boat good pool K).2 w) (q := 123) rfl rfl xS_280 (by omega) (by omega) (ple_e hgv (hfs.resolve_left (fun q => h97 q.1)) (by omega)) ?_
                refine xx_iret rfl trivial ⟨congrArg (fun z => some (Sum.inl z)) (by unfold pleF; rw [if_neg (fun q => q ⟨⟨by omega, by omega, by omega⟩, by omega⟩), if_neg (fun q => by omega)]), _, rfl, ?_⟩
                exact fun x k h1 h2 h3 => hFA x k (by omega) h2 h3
              · refine xx_iload (q := 107) rfl rfl rfl ?_
                refine xx_goto (q := 123) rfl rfl ?_
                refine xx_iret rfl trivial ⟨congrArg (fun z => some (Sum.inl z)) (by unfold pleF; rw [if_neg (fun q => q ⟨⟨by omega, by omega, by omega⟩, by omega⟩), if_pos (Or.inr (by omega))]), _, rfl, ?_⟩
                exact fun x k h1 h2 h3 => hFA x k (by omega) h2 h3
          · refine xx_iconst (q := 79) rfl rfl (by decide) ?_
            refine xx_iret rfl trivial ⟨congrArg (fun z => some (Sum.inl z)) (by unfold pleF; rw [if_pos (fun q => by omega)]), _, rfl, ?_⟩
            exact FX.rf
    · refine xx_aload (q := 32) rfl rfl rfl ?_
      refine xx_iload_n (q := 33) rfl rfl rfl ?_
      refine xx_callV (q := 36) (As := [_]) (rest := []) rfl rfl rfl (Or.inl rfl) rfl rfl (Nat.le_of_ble_eq_true rfl) (xSc_0 isC_27) (XCm (c_hasPool hR isC_27 hK hI pool) rfl) rfl ?_
      refine xx_ifb_eq (q := 43) (q2 := 39) rfl rfl rfl (fun h36 => ?_) (fun h36 => ?_)
      · refine xx_iconst (q := 44) rfl rfl (by decide) ?_
        refine xx_istore (q := 46) (loc2 := [_, _, _, _, _, _, _, _, _]) rfl rfl (Nat.le_of_ble_eq_true rfl) rfl ?_
        refine xx_iload (q := 48) rfl rfl rfl ?_
        refine xx_bipush (q := 50) rfl rfl (by decide) ?_
        refine xx_bipush (q := 52) rfl rfl (by decide) ?_
        refine xx_aload (q := 54) rfl rfl rfl ?_
        refine xx_gez (v := K 0 0) (q := 57) rfl rfl rfl (xSc_0 isC_27) (Nat.le_of_ble_eq_true rfl) rfl (hK 0 0 (Nat.le_of_ble_eq_true rfl)) ?_
        have hb7 : 1 ≤ K 0 0 ∧ K 0 0 ≤ 9 := by have h := ki_L hI; exact h
        refine xx_iaddR (q := 58) rfl rfl (by omega) (by omega) ?_
        refine xx_callS (q := 61) (As := [_, _, _]) (rest := []) rfl rfl rfl (Or.inl rfl) rfl rfl (Nat.le_of_ble_eq_true rfl) (XCm (c_within w 10 (9 + (K 0 0))) rfl) rfl ?_
        refine xx_istore (q := 63) (loc2 := [_, _, _, _, _, _, _, _, _]) rfl rfl (Nat.le_of_ble_eq_true rfl) rfl ?_
        refine xx_iload (q := 65) rfl rfl rfl ?_
        refine xx_if_eq (q := 78) (q2 := 68) rfl rfl rfl (fun h65 => ?_) (fun h65 => ?_)
        · refine xx_iconst (q := 79) rfl rfl (by decide) ?_
          refine xx_iret rfl trivial ⟨congrArg (fun z => some (Sum.inl z)) (by unfold pleF; rw [if_pos (fun q => by omega)]), _, rfl, ?_⟩
          exact FX.rf
        · refine xx_iload (q := 70) rfl rfl rfl ?_
          refine xx_if_eq (q := 80) (q2 := 73) rfl rfl rfl (fun h70 => ?_) (fun h70 => ?_)
          · refine xx_aload_n (q := 81) rfl rfl rfl ?_
            refine xx_getR (q := 84) rfl rfl rfl xS_5 (Nat.le_of_ble_eq_true rfl) rfl (hR.1 5 3 rfl) ?_
            refine xx_aload (q := 86) rfl rfl rfl ?_
            refine xx_iload_n (q := 87) rfl rfl rfl ?_
            refine xx_iload_n (q := 88) rfl rfl rfl ?_
            refine xx_iload_n (q := 89) rfl rfl rfl ?_
            obtain ⟨D8, hx8, hFA, hgv⟩ := c_few (n := n) hR boat good pool (by omega) (by omega) (by omega) (by omega) hI hK hG hH
            have hfs := fewL_s (G := G) (Hh := Hh) (boat := boat) (good := good) (pool := pool) (K := K) (mnF 6 (K 17 (boat * 4 + good).toNat) + 1).toNat 0 (by omega)
            refine xx_callV (q := 92) (As := [_, _, _, _]) (rest := []) rfl rfl rfl (Or.inl rfl) rfl rfl (Nat.le_of_ble_eq_true rfl) xS_279 (XCm hx8 rfl) rfl ?_
            refine xx_istore (q := 94) (loc2 := [_, _, _, _, _, _, _, _, _]) rfl rfl (Nat.le_of_ble_eq_true rfl) rfl ?_
            refine xx_iload (q := 96) rfl rfl rfl ?_
            refine xx_iconst (q := 97) rfl rfl (by decide) ?_
            refine xx_icmp_eq (q := 105) (q2 := 100) rfl rfl rfl (fun h97 => ?_) (fun h97 => ?_)
            · refine xx_iload (q := 107) rfl rfl rfl ?_
              refine xx_goto (q := 123) rfl rfl ?_
              refine xx_iret rfl trivial ⟨congrArg (fun z => some (Sum.inl z)) (by unfold pleF; rw [if_neg (fun q => q ⟨⟨by omega, by omega, by omega⟩, by omega⟩), if_pos (Or.inl h97)]), _, rfl, ?_⟩
              exact fun x k h1 h2 h3 => hFA x k (by omega) h2 h3
            · refine xx_iload (q := 102) rfl rfl rfl ?_
              refine xx_ifb_ne (q := 110) (q2 := 105) rfl rfl rfl (fun h102 => ?_) (fun h102 => ?_)
              · refine xx_aload_n (q := 111) rfl rfl rfl ?_
                refine xx_getR (q := 114) rfl rfl rfl xS_5 (Nat.le_of_ble_eq_true rfl) rfl (hR.1 5 3 rfl) ?_
                refine xx_getR (q := 117) rfl rfl rfl xS_279 (Nat.le_of_ble_eq_true rfl) rfl (hR.1 279 4 rfl) ?_
                refine xx_iload (q := 119) rfl rfl rfl ?_
                refine xx_bipush (q := 121) rfl rfl (by decide) ?_
                refine xx_isubR (q := 122) rfl rfl (by omega) (by omega) ?_
                refine xx_iaz (v := pleV (fewF G Hh boat good pool K).2 w) (q := 123) rfl rfl xS_280 (by omega) (by omega) (ple_e hgv (hfs.resolve_left (fun q => h97 q.1)) (by omega)) ?_
                refine xx_iret rfl trivial ⟨congrArg (fun z => some (Sum.inl z)) (by unfold pleF; rw [if_neg (fun q => q ⟨⟨by omega, by omega, by omega⟩, by omega⟩), if_neg (fun q => by omega)]), _, rfl, ?_⟩
                exact fun x k h1 h2 h3 => hFA x k (by omega) h2 h3
              · refine xx_iload (q := 107) rfl rfl rfl ?_
                refine xx_goto (q := 123) rfl rfl ?_
                refine xx_iret rfl trivial ⟨congrArg (fun z => some (Sum.inl z)) (by unfold pleF; rw [if_neg (fun q => q ⟨⟨by omega, by omega, by omega⟩, by omega⟩), if_pos (Or.inr (by omega))]), _, rfl, ?_⟩
                exact fun x k h1 h2 h3 => hFA x k (by omega) h2 h3
          · refine xx_iload (q := 75) rfl rfl rfl ?_
            refine xx_ifb_ne (q := 80) (q2 := 78) rfl rfl rfl (fun h75 => ?_) (fun h75 => ?_)
            · refine xx_aload_n (q := 81) rfl rfl rfl ?_
              refine xx_getR (q := 84) rfl rfl rfl xS_5 (Nat.le_of_ble_eq_true rfl) rfl (hR.1 5 3 rfl) ?_
              refine xx_aload (q := 86) rfl rfl rfl ?_
              refine xx_iload_n (q := 87) rfl rfl rfl ?_
              refine xx_iload_n (q := 88) rfl rfl rfl ?_
              refine xx_iload_n (q := 89) rfl rfl rfl ?_
              obtain ⟨D9, hx9, hFA, hgv⟩ := c_few (n := n) hR boat good pool (by omega) (by omega) (by omega) (by omega) hI hK hG hH
              have hfs := fewL_s (G := G) (Hh := Hh) (boat := boat) (good := good) (pool := pool) (K := K) (mnF 6 (K 17 (boat * 4 + good).toNat) + 1).toNat 0 (by omega)
              refine xx_callV (q := 92) (As := [_, _, _, _]) (rest := []) rfl rfl rfl (Or.inl rfl) rfl rfl (Nat.le_of_ble_eq_true rfl) xS_279 (XCm hx9 rfl) rfl ?_
              refine xx_istore (q := 94) (loc2 := [_, _, _, _, _, _, _, _, _]) rfl rfl (Nat.le_of_ble_eq_true rfl) rfl ?_
              refine xx_iload (q := 96) rfl rfl rfl ?_
              refine xx_iconst (q := 97) rfl rfl (by decide) ?_
              refine xx_icmp_eq (q := 105) (q2 := 100) rfl rfl rfl (fun h97 => ?_) (fun h97 => ?_)
              · refine xx_iload (q := 107) rfl rfl rfl ?_
                refine xx_goto (q := 123) rfl rfl ?_
                refine xx_iret rfl trivial ⟨congrArg (fun z => some (Sum.inl z)) (by unfold pleF; rw [if_neg (fun q => q ⟨⟨by omega, by omega, by omega⟩, by omega⟩), if_pos (Or.inl h97)]), _, rfl, ?_⟩
                exact fun x k h1 h2 h3 => hFA x k (by omega) h2 h3
              · refine xx_iload (q := 102) rfl rfl rfl ?_
                refine xx_ifb_ne (q := 110) (q2 := 105) rfl rfl rfl (fun h102 => ?_) (fun h102 => ?_)
                · refine xx_aload_n (q := 111) rfl rfl rfl ?_
                  refine xx_getR (q := 114) rfl rfl rfl xS_5 (Nat.le_of_ble_eq_true rfl) rfl (hR.1 5 3 rfl) ?_
                  refine xx_getR (q := 117) rfl rfl rfl xS_279 (Nat.le_of_ble_eq_true rfl) rfl (hR.1 279 4 rfl) ?_
                  refine xx_iload (q := 119) rfl rfl rfl ?_
                  refine xx_bipush (q := 121) rfl rfl (by decide) ?_
                  refine xx_isubR (q := 122) rfl rfl (by omega) (by omega) ?_
                  refine xx_iaz (v := pleV (fewF G Hh boat good pool K).2 w) (q := 123) rfl rfl xS_280 (by omega) (by omega) (ple_e hgv (hfs.resolve_left (fun q => h97 q.1)) (by omega)) ?_
                  refine xx_iret rfl trivial ⟨congrArg (fun z => some (Sum.inl z)) (by unfold pleF; rw [if_neg (fun q => q ⟨⟨by omega, by omega, by omega⟩, by omega⟩), if_neg (fun q => by omega)]), _, rfl, ?_⟩
                  exact fun x k h1 h2 h3 => hFA x k (by omega) h2 h3
                · refine xx_iload (q := 107) rfl rfl rfl ?_
                  refine xx_goto (q := 123) rfl rfl ?_
                  refine xx_iret rfl trivial ⟨congrArg (fun z => some (Sum.inl z)) (by unfold pleF; rw [if_neg (fun q => q ⟨⟨by omega, by omega, by omega⟩, by omega⟩), if_pos (Or.inr (by omega))]), _, rfl, ?_⟩
                  exact fun x k h1 h2 h3 => hFA x k (by omega) h2 h3
            · refine xx_iconst (q := 79) rfl rfl (by decide) ?_
              refine xx_iret rfl trivial ⟨congrArg (fun z => some (Sum.inl z)) (by unfold pleF; rw [if_pos (fun q => by omega)]), _, rfl, ?_⟩
              exact FX.rf
      · refine xx_iconst (q := 40) rfl rfl (by decide) ?_
        refine xx_goto (q := 44) rfl rfl ?_
        refine xx_istore (q := 46) (loc2 := [_, _, _, _, _, _, _, _, _]) rfl rfl (Nat.le_of_ble_eq_true rfl) rfl ?_
        refine xx_iload (q := 48) rfl rfl rfl ?_
        refine xx_bipush (q := 50) rfl rfl (by decide) ?_
        refine xx_bipush (q := 52) rfl rfl (by decide) ?_
        refine xx_aload (q := 54) rfl rfl rfl ?_
        refine xx_gez (v := K 0 0) (q := 57) rfl rfl rfl (xSc_0 isC_27) (Nat.le_of_ble_eq_true rfl) rfl (hK 0 0 (Nat.le_of_ble_eq_true rfl)) ?_
        have hb10 : 1 ≤ K 0 0 ∧ K 0 0 ≤ 9 := by have h := ki_L hI; exact h
        refine xx_iaddR (q := 58) rfl rfl (by omega) (by omega) ?_
        refine xx_callS (q := 61) (As := [_, _, _]) (rest := []) rfl rfl rfl (Or.inl rfl) rfl rfl (Nat.le_of_ble_eq_true rfl) (XCm (c_within w 10 (9 + (K 0 0))) rfl) rfl ?_
        refine xx_istore (q := 63) (loc2 := [_, _, _, _, _, _, _, _, _]) rfl rfl (Nat.le_of_ble_eq_true rfl) rfl ?_
        refine xx_iload (q := 65) rfl rfl rfl ?_
        refine xx_if_eq (q := 78) (q2 := 68) rfl rfl rfl (fun h65 => ?_) (fun h65 => ?_)
        · refine xx_iconst (q := 79) rfl rfl (by decide) ?_
          refine xx_iret rfl trivial ⟨congrArg (fun z => some (Sum.inl z)) (by unfold pleF; rw [if_pos (fun q => by omega)]), _, rfl, ?_⟩
          exact FX.rf
        · refine xx_iload (q := 70) rfl rfl rfl ?_
          refine xx_if_eq (q := 80) (q2 := 73) rfl rfl rfl (fun h70 => ?_) (fun h70 => ?_)
          · refine xx_aload_n (q := 81) rfl rfl rfl ?_
            refine xx_getR (q := 84) rfl rfl rfl xS_5 (Nat.le_of_ble_eq_true rfl) rfl (hR.1 5 3 rfl) ?_
            refine xx_aload (q := 86) rfl rfl rfl ?_
            refine xx_iload_n (q := 87) rfl rfl rfl ?_
            refine xx_iload_n (q := 88) rfl rfl rfl ?_
            refine xx_iload_n (q := 89) rfl rfl rfl ?_
            obtain ⟨D11, hx11, hFA, hgv⟩ := c_few (n := n) hR boat good pool (by omega) (by omega) (by omega) (by omega) hI hK hG hH
            have hfs := fewL_s (G := G) (Hh := Hh) (boat := boat) (good := good) (pool := pool) (K := K) (mnF 6 (K 17 (boat * 4 + good).toNat) + 1).toNat 0 (by omega)
            refine xx_callV (q := 92) (As := [_, _, _, _]) (rest := []) rfl rfl rfl (Or.inl rfl) rfl rfl (Nat.le_of_ble_eq_true rfl) xS_279 (XCm hx11 rfl) rfl ?_
            refine xx_istore (q := 94) (loc2 := [_, _, _, _, _, _, _, _, _]) rfl rfl (Nat.le_of_ble_eq_true rfl) rfl ?_
            refine xx_iload (q := 96) rfl rfl rfl ?_
            refine xx_iconst (q := 97) rfl rfl (by decide) ?_
            refine xx_icmp_eq (q := 105) (q2 := 100) rfl rfl rfl (fun h97 => ?_) (fun h97 => ?_)
            · refine xx_iload (q := 107) rfl rfl rfl ?_
              refine xx_goto (q := 123) rfl rfl ?_
              refine xx_iret rfl trivial ⟨congrArg (fun z => some (Sum.inl z)) (by unfold pleF; rw [if_neg (fun q => q ⟨⟨by omega, by omega, by omega⟩, by omega⟩), if_pos (Or.inl h97)]), _, rfl, ?_⟩
              exact fun x k h1 h2 h3 => hFA x k (by omega) h2 h3
            · refine xx_iload (q := 102) rfl rfl rfl ?_
              refine xx_ifb_ne (q := 110) (q2 := 105) rfl rfl rfl (fun h102 => ?_) (fun h102 => ?_)
              · refine xx_aload_n (q := 111) rfl rfl rfl ?_
                refine xx_getR (q := 114) rfl rfl rfl xS_5 (Nat.le_of_ble_eq_true rfl) rfl (hR.1 5 3 rfl) ?_
                refine xx_getR (q := 117) rfl rfl rfl xS_279 (Nat.le_of_ble_eq_true rfl) rfl (hR.1 279 4 rfl) ?_
                refine xx_iload (q := 119) rfl rfl rfl ?_
                refine xx_bipush (q := 121) rfl rfl (by decide) ?_
                refine xx_isubR (q := 122) rfl rfl (by omega) (by omega) ?_
                refine xx_iaz (v := pleV (fewF G Hh boat good pool K).2 w) (q := 123) rfl rfl xS_280 (by omega) (by omega) (ple_e hgv (hfs.resolve_left (fun q => h97 q.1)) (by omega)) ?_
                refine xx_iret rfl trivial ⟨congrArg (fun z => some (Sum.inl z)) (by unfold pleF; rw [if_neg (fun q => q ⟨⟨by omega, by omega, by omega⟩, by omega⟩), if_neg (fun q => by omega)]), _, rfl, ?_⟩
                exact fun x k h1 h2 h3 => hFA x k (by omega) h2 h3
              · refine xx_iload (q := 107) rfl rfl rfl ?_
                refine xx_goto (q := 123) rfl rfl ?_
                refine xx_iret rfl trivial ⟨congrArg (fun z => some (Sum.inl z)) (by unfold pleF; rw [if_neg (fun q => q ⟨⟨by omega, by omega, by omega⟩, by omega⟩), if_pos (Or.inr (by omega))]), _, rfl, ?_⟩
                exact fun x k h1 h2 h3 => hFA x k (by omega) h2 h3
          · refine xx_iload (q := 75) rfl rfl rfl ?_
            refine xx_ifb_ne (q := 80) (q2 := 78) rfl rfl rfl (fun h75 => ?_) (fun h75 => ?_)
            · refine xx_aload_n (q := 81) rfl rfl rfl ?_
              refine xx_getR (q := 84) rfl rfl rfl xS_5 (Nat.le_of_ble_eq_true rfl) rfl (hR.1 5 3 rfl) ?_
              refine xx_aload (q := 86) rfl rfl rfl ?_
              refine xx_iload_n (q := 87) rfl rfl rfl ?_
              refine xx_iload_n (q := 88) rfl rfl rfl ?_
              refine xx_iload_n (q := 89) rfl rfl rfl ?_
              obtain ⟨D12, hx12, hFA, hgv⟩ := c_few (n := n) hR boat good pool (by omega) (by omega) (by omega) (by omega) hI hK hG hH
              have hfs := fewL_s (G := G) (Hh := Hh) (boat := boat) (good := good) (pool := pool) (K := K) (mnF 6 (K 17 (boat * 4 + good).toNat) + 1).toNat 0 (by omega)
              refine xx_callV (q := 92) (As := [_, _, _, _]) (rest := []) rfl rfl rfl (Or.inl rfl) rfl rfl (Nat.le_of_ble_eq_true rfl) xS_279 (XCm hx12 rfl) rfl ?_
              refine xx_istore (q := 94) (loc2 := [_, _, _, _, _, _, _, _, _]) rfl rfl (Nat.le_of_ble_eq_true rfl) rfl ?_
              refine xx_iload (q := 96) rfl rfl rfl ?_
              refine xx_iconst (q := 97) rfl rfl (by decide) ?_
              refine xx_icmp_eq (q := 105) (q2 := 100) rfl rfl rfl (fun h97 => ?_) (fun h97 => ?_)
              · refine xx_iload (q := 107) rfl rfl rfl ?_
                refine xx_goto (q := 123) rfl rfl ?_
                refine xx_iret rfl trivial ⟨congrArg (fun z => some (Sum.inl z)) (by unfold pleF; rw [if_neg (fun q => q ⟨⟨by omega, by omega, by omega⟩, by omega⟩), if_pos (Or.inl h97)]), _, rfl, ?_⟩
                exact fun x k h1 h2 h3 => hFA x k (by omega) h2 h3
              · refine xx_iload (q := 102) rfl rfl rfl ?_
                refine xx_ifb_ne (q := 110) (q2 := 105) rfl rfl rfl (fun h102 => ?_) (fun h102 => ?_)
                · refine xx_aload_n (q := 111) rfl rfl rfl ?_
                  refine xx_getR (q := 114) rfl rfl rfl xS_5 (Nat.le_of_ble_eq_true rfl) rfl (hR.1 5 3 rfl) ?_
                  refine xx_getR (q := 117) rfl rfl rfl xS_279 (Nat.le_of_ble_eq_true rfl) rfl (hR.1 279 4 rfl) ?_
                  refine xx_iload (q := 119) rfl rfl rfl ?_
                  refine xx_bipush (q := 121) rfl rfl (by decide) ?_
                  refine xx_isubR (q := 122) rfl rfl (by omega) (by omega) ?_
                  refine xx_iaz (v := pleV (fewF G Hh boat good pool K).2 w) (q := 123) rfl rfl xS_280 (by omega) (by omega) (ple_e hgv (hfs.resolve_left (fun q => h97 q.1)) (by omega)) ?_
                  refine xx_iret rfl trivial ⟨congrArg (fun z => some (Sum.inl z)) (by unfold pleF; rw [if_neg (fun q => q ⟨⟨by omega, by omega, by omega⟩, by omega⟩), if_neg (fun q => by omega)]), _, rfl, ?_⟩
                  exact fun x k h1 h2 h3 => hFA x k (by omega) h2 h3
                · refine xx_iload (q := 107) rfl rfl rfl ?_
                  refine xx_goto (q := 123) rfl rfl ?_
                  refine xx_iret rfl trivial ⟨congrArg (fun z => some (Sum.inl z)) (by unfold pleF; rw [if_neg (fun q => q ⟨⟨by omega, by omega, by omega⟩, by omega⟩), if_pos (Or.inr (by omega))]), _, rfl, ?_⟩
                  exact fun x k h1 h2 h3 => hFA x k (by omega) h2 h3
            · refine xx_iconst (q := 79) rfl rfl (by decide) ?_
              refine xx_iret rfl trivial ⟨congrArg (fun z => some (Sum.inl z)) (by unfold pleF; rw [if_pos (fun q => by omega)]), _, rfl, ?_⟩
              exact FX.rf
def puldF (K : KK) (sn : Nat → Int) (w : Int) : Int := if ¬ (0 ≤ w ∧ w ≤ 2) then -1 else if w = 0 then (fndF K sn).1 else if w = 1 then (fndF K sn).2.1 else (fndF K sn).2.2
set_option maxHeartbeats 1000000 in
theorem c_pulled {n : Nat} {R : Nat → Nat → Option Nat} {D K : KK} (hR : RF R) (hK : CK 27 K D) (hI : KI K) (sn : Nat → Int) (hsnI : ∀ k, 0 ≤ sn k ∧ sn k ≤ 999) (hsn : ∀ k, k < 10 → D 22 k = sn k) (w : Int) : ∃ D', XC 5 142 [.inr (some 5), .inl w] (xS n, R, D) (some (.inl (puldF K sn w))) (xS n, R, D') ∧ FX D D' := by
  refine XE_of (Nat.le_of_ble_eq_true rfl) (Nat.le_of_ble_eq_true rfl) (loc := [_, _, _]) rfl ?_
  refine xx_iload_n (q := 1) rfl rfl rfl ?_
  refine xx_iconst (q := 2) rfl rfl (by decide) ?_
  refine xx_iconst (q := 3) rfl rfl (by decide) ?_
  refine xx_callS (q := 6) (As := [_, _, _]) (rest := []) rfl rfl rfl (Or.inl rfl) rfl rfl (Nat.le_of_ble_eq_true rfl) (XCm (c_within w 0 2) rfl) rfl ?_
  refine xx_ifb_ne (q := 11) (q2 := 9) rfl rfl rfl (fun h6 => ?_) (fun h6 => ?_)
  · refine xx_aload_n (q := 12) rfl rfl rfl ?_
    refine xx_getR (q := 15) rfl rfl rfl xS_5 (Nat.le_of_ble_eq_true rfl) rfl (hR.1 5 3 rfl) ?_
    refine xx_aload_n (q := 16) rfl rfl rfl ?_
    refine xx_getR (q := 19) rfl rfl rfl xS_5 (Nat.le_of_ble_eq_true rfl) rfl (hR.1 5 0 rfl) ?_
    refine xx_getR (q := 22) rfl rfl rfl xS_6 (Nat.le_of_ble_eq_true rfl) rfl (hR.1 6 5 rfl) ?_
    refine xx_aload_n (q := 23) rfl rfl rfl ?_
    refine xx_getR (q := 26) rfl rfl rfl xS_5 (Nat.le_of_ble_eq_true rfl) rfl (hR.1 5 0 rfl) ?_
    refine xx_getR (q := 29) rfl rfl rfl xS_6 (Nat.le_of_ble_eq_true rfl) rfl (hR.1 6 3 rfl) ?_
    refine xx_getR (q := 32) rfl rfl rfl xS_18 (Nat.le_of_ble_eq_true rfl) rfl (hR.1 18 4 rfl) ?_
    obtain ⟨D1, hx1, hFA, hp2, hp3⟩ := c_findPulls (n := n) hR hI sn hsnI hsn hK
    refine xx_callV (q := 35) (As := [_, _]) (rest := []) rfl rfl rfl (Or.inl rfl) rfl rfl (Nat.le_of_ble_eq_true rfl) xS_279 (XCm hx1 rfl) rfl ?_
    refine xx_istore_n (q := 36) (loc2 := [_, _, _]) rfl rfl (Nat.le_of_ble_eq_true rfl) rfl ?_
    refine xx_iload_n (q := 37) rfl rfl rfl ?_
    refine xx_if_ne (q := 42) (q2 := 40) rfl rfl rfl (fun h37 => ?_) (fun h37 => ?_)
    · refine xx_iload_n (q := 43) rfl rfl rfl ?_
      refine xx_iconst (q := 44) rfl rfl (by decide) ?_
      refine xx_icmp_ne (q := 57) (q2 := 47) rfl rfl rfl (fun h44 => ?_) (fun h44 => ?_)
      · refine xx_aload_n (q := 58) rfl rfl rfl ?_
        refine xx_getR (q := 61) rfl rfl rfl xS_5 (Nat.le_of_ble_eq_true rfl) rfl (hR.1 5 3 rfl) ?_
        refine xx_gez (q := 64) rfl rfl rfl xS_279 (Nat.le_of_ble_eq_true rfl) rfl hp3 ?_
        refine xx_iret rfl trivial ⟨congrArg (fun z => some (Sum.inl z)) (by grind [puldF]), _, rfl, ?_⟩
        exact fun x k h1 h2 h3 => hFA x k (by omega) h2 h3
      · refine xx_aload_n (q := 48) rfl rfl rfl ?_
        refine xx_getR (q := 51) rfl rfl rfl xS_5 (Nat.le_of_ble_eq_true rfl) rfl (hR.1 5 3 rfl) ?_
        refine xx_gez (q := 54) rfl rfl rfl xS_279 (Nat.le_of_ble_eq_true rfl) rfl hp2 ?_
        refine xx_goto (q := 64) rfl rfl ?_
        refine xx_iret rfl trivial ⟨congrArg (fun z => some (Sum.inl z)) (by grind [puldF]), _, rfl, ?_⟩
        exact fun x k h1 h2 h3 => hFA x k (by omega) h2 h3
    · refine xx_iload_n (q := 41) rfl rfl rfl ?_
      refine xx_iret rfl trivial ⟨congrArg (fun z => some (Sum.inl z)) (by grind [puldF]), _, rfl, ?_⟩
      exact fun x k h1 h2 h3 => hFA x k (by omega) h2 h3
  · refine xx_iconst (q := 10) rfl rfl (by decide) ?_
    refine xx_iret rfl trivial ⟨congrArg (fun z => some (Sum.inl z)) (by grind [puldF]), _, rfl, ?_⟩
    exact FX.rf
def mndF (K : KK) (nd : Nat → Int) (f : Nat → Int) (w : Int) : Int := if ¬ (w = 0 ∨ (10 ≤ w ∧ w ≤ 9 + K 0 0)) then -1 else if K 1 0 - (mndL K nd (K 0 0).toNat (K 0 0 - 1) 0 0 f).1 < nd 0 then -1 else if w = 0 then (mndL K nd (K 0 0).toNat (K 0 0 - 1) 0 0 f).2.1 else (mndL K nd (K 0 0).toNat (K 0 0 - 1) 0 0 f).2.2 (w - 10).toNat
theorem mndL_n {K : KK} {nd : Nat → Int} (hI : KI K) (hn : ∀ k, 0 ≤ nd k ∧ nd k ≤ 999) : ∀ (k : Nat) (l taken all : Int) (f : Nat → Int), 0 ≤ taken → taken + 1100 * (k : Int) ≤ 20000 → 0 ≤ all → 0 ≤ (mndL K nd k l taken all f).2.1
  | 0, _, _, _, _, _, _, h => h
  | k + 1, l, taken, all, f, h1, h2, h3 => by
    have hp := mndP_b hI hn l taken h1 (by omega)
    exact mndL_n hI hn k _ _ _ _ hp.2.2.1 (by omega) (by omega)
set_option maxHeartbeats 1000000 in
theorem c_mend {n : Nat} {R : Nat → Nat → Option Nat} {D K : KK} (hR : RF R) (hK : CK 27 K D) (hI : KI K) (nd : Nat → Int) (hndI : ∀ k, 0 ≤ nd k ∧ nd k ≤ 999) (hnd : ∀ k, k < 10 → D 23 k = nd k) (w : Int) : ∃ D', XC 2 143 [.inr (some 5), .inl w] (xS n, R, D) (some (.inl (mndF K nd (D 24) w))) (xS n, R, D') ∧ ∀ x k, x ≠ 24 → D' x k = D x k := by
  have hbL := ki_L hI
  refine XE_of (Nat.le_of_ble_eq_true rfl) (Nat.le_of_ble_eq_true rfl) (loc := [_, _, _, _]) rfl ?_
  refine xx_iload_n (q := 1) rfl rfl rfl ?_
  refine xx_bipush (q := 3) rfl rfl (by decide) ?_
  refine xx_bipush (q := 5) rfl rfl (by decide) ?_
  refine xx_aload_n (q := 6) rfl rfl rfl ?_
  refine xx_getR (q := 9) rfl rfl rfl xS_5 (Nat.le_of_ble_eq_true rfl) rfl (hR.1 5 0 rfl) ?_
  refine xx_getR (q := 12) rfl rfl rfl xS_6 (Nat.le_of_ble_eq_true rfl) rfl (hR.1 6 5 rfl) ?_
  refine xx_gez (v := K 0 0) (q := 15) rfl rfl rfl (xSc_0 isC_27) (Nat.le_of_ble_eq_true rfl) rfl (hK 0 0 (Nat.le_of_ble_eq_true rfl)) ?_
  have hb1 : 1 ≤ K 0 0 ∧ K 0 0 ≤ 9 := by have h := ki_L hI; exact h
  refine xx_iaddR (q := 16) rfl rfl (by omega) (by omega) ?_
  refine xx_callS (q := 19) (As := [_, _, _]) (rest := []) rfl rfl rfl (Or.inl rfl) rfl rfl (Nat.le_of_ble_eq_true rfl) (XCm (c_within w 10 (9 + (K 0 0))) rfl) rfl ?_
  refine xx_istore_n (q := 20) (loc2 := [_, _, _, _]) rfl rfl (Nat.le_of_ble_eq_true rfl) rfl ?_
  refine xx_iload_n (q := 21) rfl rfl rfl ?_
  refine xx_if_eq (q := 30) (q2 := 24) rfl rfl rfl (fun h21 => ?_) (fun h21 => ?_)
  · refine xx_aload_n (q := 31) rfl rfl rfl ?_
    refine xx_getR (q := 34) rfl rfl rfl xS_5 (Nat.le_of_ble_eq_true rfl) rfl (hR.1 5 0 rfl) ?_
    refine xx_getR (q := 37) rfl rfl rfl xS_6 (Nat.le_of_ble_eq_true rfl) rfl (hR.1 6 3 rfl) ?_
    refine xx_aload_n (q := 38) rfl rfl rfl ?_
    refine xx_getR (q := 41) rfl rfl rfl xS_5 (Nat.le_of_ble_eq_true rfl) rfl (hR.1 5 0 rfl) ?_
    refine xx_getR (q := 44) rfl rfl rfl xS_6 (Nat.le_of_ble_eq_true rfl) rfl (hR.1 6 5 rfl) ?_
    obtain ⟨D2, hx2, hp24, hF24⟩ := c_fewestPulls (n := n) hR hI nd hndI hK hnd
    have hmn := mndL_n hI hndI (K 0 0).toNat (K 0 0 - 1) 0 0 (D 24) (by omega) (by omega) (by omega)
    obtain ⟨rv, hrv⟩ : ∃ rv, rv = (if K 1 0 - (mndL K nd (K 0 0).toNat (K 0 0 - 1) 0 0 (D 24)).1 < nd 0 then -1 else (mndL K nd (K 0 0).toNat (K 0 0 - 1) 0 0 (D 24)).2.1) := ⟨_, rfl⟩
    rw [← hrv] at hx2
    refine xx_callV (q := 47) (As := [_]) (rest := []) rfl rfl rfl (Or.inl rfl) rfl rfl (Nat.le_of_ble_eq_true rfl) xS_18 (XCm hx2 rfl) rfl ?_
    refine xx_istore_n (q := 48) (loc2 := [_, _, _, _]) rfl rfl (Nat.le_of_ble_eq_true rfl) rfl ?_
    refine xx_iload_n (q := 49) rfl rfl rfl ?_
    refine xx_iconst (q := 50) rfl rfl (by decide) ?_
    refine xx_icmp_eq (q := 57) (q2 := 53) rfl rfl rfl (fun h50 => ?_) (fun h50 => ?_)
    · refine xx_iload_n (q := 58) rfl rfl rfl ?_
      refine xx_goto (q := 76) rfl rfl ?_
      refine xx_iret rfl trivial ⟨congrArg (fun z => some (Sum.inl z)) (by unfold mndF; rw [if_neg (by omega)]; split at hrv <;> grind), _, rfl, ?_⟩
      exact hF24
    · refine xx_iload_n (q := 54) rfl rfl rfl ?_
      refine xx_ifb_ne (q := 61) (q2 := 57) rfl rfl rfl (fun h54 => ?_) (fun h54 => ?_)
      · refine xx_aload_n (q := 62) rfl rfl rfl ?_
        refine xx_getR (q := 65) rfl rfl rfl xS_5 (Nat.le_of_ble_eq_true rfl) rfl (hR.1 5 0 rfl) ?_
        refine xx_getR (q := 68) rfl rfl rfl xS_6 (Nat.le_of_ble_eq_true rfl) rfl (hR.1 6 3 rfl) ?_
        refine xx_getR (q := 71) rfl rfl rfl xS_18 (Nat.le_of_ble_eq_true rfl) rfl (hR.1 18 6 rfl) ?_
        refine xx_iload_n (q := 72) rfl rfl rfl ?_
        refine xx_bipush (q := 74) rfl rfl (by decide) ?_
        refine xx_isubR (q := 75) rfl rfl (by omega) (by omega) ?_
        refine xx_iaz (v := (mndL K nd (K 0 0).toNat (K 0 0 - 1) 0 0 (D 24)).2.2 (w - 10).toNat) (q := 76) rfl rfl xS_24 (by omega) (by omega) (hp24 _ (by omega)) ?_
        refine xx_iret rfl trivial ⟨congrArg (fun z => some (Sum.inl z)) (by unfold mndF; rw [if_neg (by omega)]; split at hrv <;> grind), _, rfl, ?_⟩
        exact hF24
      · refine xx_iload_n (q := 58) rfl rfl rfl ?_
        refine xx_goto (q := 76) rfl rfl ?_
        refine xx_iret rfl trivial ⟨congrArg (fun z => some (Sum.inl z)) (by unfold mndF; rw [if_neg (by omega)]; split at hrv <;> grind), _, rfl, ?_⟩
        exact hF24
  · refine xx_iload_n (q := 25) rfl rfl rfl ?_
    refine xx_ifb_ne (q := 30) (q2 := 28) rfl rfl rfl (fun h25 => ?_) (fun h25 => ?_)
    · refine xx_aload_n (q := 31) rfl rfl rfl ?_
      refine xx_getR (q := 34) rfl rfl rfl xS_5 (Nat.le_of_ble_eq_true rfl) rfl (hR.1 5 0 rfl) ?_
      refine xx_getR (q := 37) rfl rfl rfl xS_6 (Nat.le_of_ble_eq_true rfl) rfl (hR.1 6 3 rfl) ?_
      refine xx_aload_n (q := 38) rfl rfl rfl ?_
      refine xx_getR (q := 41) rfl rfl rfl xS_5 (Nat.le_of_ble_eq_true rfl) rfl (hR.1 5 0 rfl) ?_
      refine xx_getR (q := 44) rfl rfl rfl xS_6 (Nat.le_of_ble_eq_true rfl) rfl (hR.1 6 5 rfl) ?_
      obtain ⟨D3, hx3, hp24, hF24⟩ := c_fewestPulls (n := n) hR hI nd hndI hK hnd
      have hmn := mndL_n hI hndI (K 0 0).toNat (K 0 0 - 1) 0 0 (D 24) (by omega) (by omega) (by omega)
      obtain ⟨rv, hrv⟩ : ∃ rv, rv = (if K 1 0 - (mndL K nd (K 0 0).toNat (K 0 0 - 1) 0 0 (D 24)).1 < nd 0 then -1 else (mndL K nd (K 0 0).toNat (K 0 0 - 1) 0 0 (D 24)).2.1) := ⟨_, rfl⟩
      rw [← hrv] at hx3
      refine xx_callV (q := 47) (As := [_]) (rest := []) rfl rfl rfl (Or.inl rfl) rfl rfl (Nat.le_of_ble_eq_true rfl) xS_18 (XCm hx3 rfl) rfl ?_
      refine xx_istore_n (q := 48) (loc2 := [_, _, _, _]) rfl rfl (Nat.le_of_ble_eq_true rfl) rfl ?_
      refine xx_iload_n (q := 49) rfl rfl rfl ?_
      refine xx_iconst (q := 50) rfl rfl (by decide) ?_
      refine xx_icmp_eq (q := 57) (q2 := 53) rfl rfl rfl (fun h50 => ?_) (fun h50 => ?_)
      · refine xx_iload_n (q := 58) rfl rfl rfl ?_
        refine xx_goto (q := 76) rfl rfl ?_
        refine xx_iret rfl trivial ⟨congrArg (fun z => some (Sum.inl z)) (by unfold mndF; rw [if_neg (by omega)]; split at hrv <;> grind), _, rfl, ?_⟩
        exact hF24
      · refine xx_iload_n (q := 54) rfl rfl rfl ?_
        refine xx_ifb_ne (q := 61) (q2 := 57) rfl rfl rfl (fun h54 => ?_) (fun h54 => ?_)
        · refine xx_aload_n (q := 62) rfl rfl rfl ?_
          refine xx_getR (q := 65) rfl rfl rfl xS_5 (Nat.le_of_ble_eq_true rfl) rfl (hR.1 5 0 rfl) ?_
          refine xx_getR (q := 68) rfl rfl rfl xS_6 (Nat.le_of_ble_eq_true rfl) rfl (hR.1 6 3 rfl) ?_
          refine xx_getR (q := 71) rfl rfl rfl xS_18 (Nat.le_of_ble_eq_true rfl) rfl (hR.1 18 6 rfl) ?_
          refine xx_iload_n (q := 72) rfl rfl rfl ?_
          refine xx_bipush (q := 74) rfl rfl (by decide) ?_
          refine xx_isubR (q := 75) rfl rfl (by omega) (by omega) ?_
          refine xx_iaz (v := (mndL K nd (K 0 0).toNat (K 0 0 - 1) 0 0 (D 24)).2.2 (w - 10).toNat) (q := 76) rfl rfl xS_24 (by omega) (by omega) (hp24 _ (by omega)) ?_
          refine xx_iret rfl trivial ⟨congrArg (fun z => some (Sum.inl z)) (by unfold mndF; rw [if_neg (by omega)]; split at hrv <;> grind), _, rfl, ?_⟩
          exact hF24
        · refine xx_iload_n (q := 58) rfl rfl rfl ?_
          refine xx_goto (q := 76) rfl rfl ?_
          refine xx_iret rfl trivial ⟨congrArg (fun z => some (Sum.inl z)) (by unfold mndF; rw [if_neg (by omega)]; split at hrv <;> grind), _, rfl, ?_⟩
          exact hF24
    · refine xx_iconst (q := 29) rfl rfl (by decide) ?_
      refine xx_iret rfl trivial ⟨congrArg (fun z => some (Sum.inl z)) (by unfold mndF; rw [if_pos (by omega)]), _, rfl, ?_⟩
      exact fun _ _ _ => rfl
abbrev alP (K : KK) (s : Int) : Prop := 0 < s ∧ xshr s (K 13 0) = 0
def shrF (K : KK) (s up : Int) : Int := if ¬ (alP K s ∧ togB K s = true) then -1 else if lckF K (pofF K s) up = -1 ∨ K 4 (lckF K (pofF K s) up).toNat < brdF K s then -1 else fpsF K (K 4 (lckF K (pofF K s) up).toNat) (K 13 0).toNat s 0
theorem pofF_b {K : KK} (h : KI K) (s : Int) : -1 ≤ pofF K s ∧ pofF K s ≤ 9 := pofL_b h s _ _
set_option maxHeartbeats 1000000 in
theorem c_share {n : Nat} {R : Nat → Nat → Option Nat} {D K : KK} (hR : RF R) (hK : CK 27 K D) (hI : KI K) (s up : Int) : XC 10 145 [.inr (some 5), .inl s, .inl up] (xS n, R, D) (some (.inl (shrF K s up))) (xS n, R, D) := by
  have hbB := ki_B hI
  have hbL := ki_L hI
  have hpf := pofF_b hI s
  refine XC_of (Nat.le_of_ble_eq_true rfl) (Nat.le_of_ble_eq_true rfl) (loc := [_, _, _, _, _]) rfl ?_
  refine xx_aload_n (q := 1) rfl rfl rfl ?_
  refine xx_getR (q := 4) rfl rfl rfl xS_5 (Nat.le_of_ble_eq_true rfl) rfl (hR.1 5 0 rfl) ?_
  refine xx_getR (q := 7) rfl rfl rfl xS_6 (Nat.le_of_ble_eq_true rfl) rfl (hR.1 6 5 rfl) ?_
  refine xx_astore_n (q := 8) (loc2 := [_, _, _, _, _]) rfl rfl (Nat.le_of_ble_eq_true rfl) rfl ?_
  refine xx_aload_n (q := 9) rfl rfl rfl ?_
  refine xx_getR (q := 12) rfl rfl rfl (xSc_0 isC_27) (Nat.le_of_ble_eq_true rfl) rfl (rc_fleet hR isC_27) ?_
  refine xx_iload_n (q := 13) rfl rfl rfl ?_
  refine xx_callV (q := 16) (As := [_]) (rest := []) rfl rfl rfl (Or.inl rfl) rfl rfl (Nat.le_of_ble_eq_true rfl) (xSc_13 isC_27) (XC_le (by omega) (c_hasAll hR isC_27 hK hI s)) rfl ?_
  refine xx_ifb_eq (q := 30) (q2 := 19) rfl rfl rfl (fun h16 => ?_) (fun h16 => ?_)
  · refine xx_iconst (q := 31) rfl rfl (by decide) ?_
    exact xx_iret rfl trivial ⟨congrArg (fun z => some (Sum.inl z)) (by grind [shrF]), rfl⟩
  · refine xx_aload_n (q := 20) rfl rfl rfl ?_
    refine xx_getR (q := 23) rfl rfl rfl (xSc_0 isC_27) (Nat.le_of_ble_eq_true rfl) rfl (rc_fleet hR isC_27) ?_
    refine xx_iload_n (q := 24) rfl rfl rfl ?_
    refine xx_callV (q := 27) (As := [_]) (rest := []) rfl rfl rfl (Or.inl rfl) rfl rfl (Nat.le_of_ble_eq_true rfl) (xSc_13 isC_27) (XC_le (by omega) (c_areTogether hR isC_27 hK hI s)) rfl ?_
    refine xx_ifb_ne (q := 32) (q2 := 30) rfl rfl rfl (fun h27 => ?_) (fun h27 => ?_)
    · refine xx_aload_n (q := 33) rfl rfl rfl ?_
      refine xx_aload_n (q := 34) rfl rfl rfl ?_
      refine xx_getR (q := 37) rfl rfl rfl (xSc_0 isC_27) (Nat.le_of_ble_eq_true rfl) rfl (rc_fleet hR isC_27) ?_
      refine xx_iload_n (q := 38) rfl rfl rfl ?_
      refine xx_callV (q := 41) (As := [_]) (rest := [_]) rfl rfl rfl (Or.inl rfl) rfl rfl (Nat.le_of_ble_eq_true rfl) (xSc_13 isC_27) (XC_le (by omega) (c_poolOfFirst hR isC_27 hK hI s)) rfl ?_
      have hb1 := pofL_b hI s (K 13 0).toNat 0
      refine xx_iload_n (q := 42) rfl rfl rfl ?_
      refine xx_callV (q := 45) (As := [_, _]) (rest := []) rfl rfl rfl (Or.inl rfl) rfl rfl (Nat.le_of_ble_eq_true rfl) (xSc_0 isC_27) (XC_le (by omega) (c_lockOnWay hR isC_27 hK hI (pofF K s) up (by omega) (by omega))) rfl ?_
      have hb2 := lckF_b K (pofF K s) up
      refine xx_istore (q := 47) (loc2 := [_, _, _, _, _]) rfl rfl (Nat.le_of_ble_eq_true rfl) rfl ?_
      refine xx_iload (q := 49) rfl rfl rfl ?_
      refine xx_iconst (q := 50) rfl rfl (by decide) ?_
      refine xx_icmp_eq (q := 71) (q2 := 53) rfl rfl rfl (fun h50 => ?_) (fun h50 => ?_)
      · refine xx_iconst (q := 72) rfl rfl (by decide) ?_
        exact xx_iret rfl trivial ⟨congrArg (fun z => some (Sum.inl z)) (by grind [shrF]), rfl⟩
      · refine xx_aload_n (q := 54) rfl rfl rfl ?_
        refine xx_getR (q := 57) rfl rfl rfl (xSc_0 isC_27) (Nat.le_of_ble_eq_true rfl) rfl (rc_fleet hR isC_27) ?_
        refine xx_iload_n (q := 58) rfl rfl rfl ?_
        refine xx_callV (q := 61) (As := [_]) (rest := []) rfl rfl rfl (Or.inl rfl) rfl rfl (Nat.le_of_ble_eq_true rfl) (xSc_13 isC_27) (XC_le (by omega) (c_broadest hR isC_27 hK hI s)) rfl ?_
        refine xx_aload_n (q := 62) rfl rfl rfl ?_
        refine xx_getR (q := 65) rfl rfl rfl (xSc_0 isC_27) (Nat.le_of_ble_eq_true rfl) rfl (rc_wide hR isC_27) ?_
        refine xx_iload (q := 67) rfl rfl rfl ?_
        refine xx_iaz (v := K 4 (lckF K (pofF K s) up).toNat) (q := 68) rfl rfl (xSc_4 isC_27) (by omega) (by omega) (ck_a hK (o := 4) (N := 9) rfl (by omega) (by omega)) ?_
        have hb3 : 1 ≤ K 4 (lckF K (pofF K s) up).toNat ∧ K 4 (lckF K (pofF K s) up).toNat ≤ 9 := by have h := ki_4 hI (lckF K (pofF K s) up).toNat; exact h
        refine xx_icmp_le (q := 73) (q2 := 71) rfl rfl rfl (fun h68 => ?_) (fun h68 => ?_)
        · refine xx_aload_n (q := 74) rfl rfl rfl ?_
          refine xx_getR (q := 77) rfl rfl rfl (xSc_0 isC_27) (Nat.le_of_ble_eq_true rfl) rfl (rc_fleet hR isC_27) ?_
          refine xx_iload_n (q := 78) rfl rfl rfl ?_
          refine xx_iconst (q := 79) rfl rfl (by decide) ?_
          refine xx_aload_n (q := 80) rfl rfl rfl ?_
          refine xx_getR (q := 83) rfl rfl rfl (xSc_0 isC_27) (Nat.le_of_ble_eq_true rfl) rfl (rc_wide hR isC_27) ?_
          refine xx_iload (q := 85) rfl rfl rfl ?_
          refine xx_iaz (v := K 4 (lckF K (pofF K s) up).toNat) (q := 86) rfl rfl (xSc_4 isC_27) (by omega) (by omega) (ck_a hK (o := 4) (N := 9) rfl (by omega) (by omega)) ?_
          have hb4 : 1 ≤ K 4 (lckF K (pofF K s) up).toNat ∧ K 4 (lckF K (pofF K s) up).toNat ≤ 9 := by have h := ki_4 hI (lckF K (pofF K s) up).toNat; exact h
          refine xx_callV (q := 89) (As := [_, _, _]) (rest := []) rfl rfl rfl (Or.inr rfl) rfl rfl (Nat.le_of_ble_eq_true rfl) (xSc_13 isC_27) (XC_le (by omega) (c_fps (n := n) hR isC_27 hK hI (K 4 (lckF K (pofF K s) up).toNat) (K 13 0).toNat s 0 (by omega) (by omega))) rfl ?_
          exact xx_iret rfl trivial ⟨congrArg (fun z => some (Sum.inl z)) (by grind [shrF]), rfl⟩
        · refine xx_iconst (q := 72) rfl rfl (by decide) ?_
          exact xx_iret rfl trivial ⟨congrArg (fun z => some (Sum.inl z)) (by grind [shrF]), rfl⟩
    · refine xx_iconst (q := 31) rfl rfl (by decide) ?_
      exact xx_iret rfl trivial ⟨congrArg (fun z => some (Sum.inl z)) (by grind [shrF]), rfl⟩
def bc1 (s : Int) : Int := nrm (s - xand (xushr s 1) 1431655765)
def bc2 (s : Int) : Int := nrm (xand s 858993459 + xand (xushr s 2) 858993459)
def bc3 (s : Int) : Int := xand (nrm (s + xushr s 4)) 252645135
def bc4 (s : Int) : Int := nrm (s + xushr s 8)
def bc5 (s : Int) : Int := nrm (s + xushr s 16)
def bcF (s : Int) : Int := xand (bc5 (bc4 (bc3 (bc2 (bc1 s))))) 63
set_option maxHeartbeats 1000000 in
theorem j_bitCount {m : XM} (s : Int) : XC 1 302 [.inl s] m (some (.inl (bcF s))) m := by
  refine XC_of (Nat.le_of_ble_eq_true rfl) (Nat.le_of_ble_eq_true rfl) (loc := [_]) rfl ?_
  refine xx_iload_n (q := 1) rfl rfl rfl ?_
  refine xx_iload_n (q := 2) rfl rfl rfl ?_
  refine xx_iconst (q := 3) rfl rfl (by decide) ?_
  refine xx_iushr (q := 4) rfl rfl ?_
  refine xx_ldcw (q := 7) rfl rfl rfl ?_
  refine xx_iand (q := 8) rfl rfl ?_
  refine xx_isub (q := 9) rfl rfl ?_
  refine xx_istore_n (q := 10) (loc2 := [_]) rfl rfl (Nat.le_of_ble_eq_true rfl) rfl ?_
  refine xx_iload_n (q := 11) rfl rfl rfl ?_
  refine xx_ldcw (q := 14) rfl rfl rfl ?_
  refine xx_iand (q := 15) rfl rfl ?_
  refine xx_iload_n (q := 16) rfl rfl rfl ?_
  refine xx_iconst (q := 17) rfl rfl (by decide) ?_
  refine xx_iushr (q := 18) rfl rfl ?_
  refine xx_ldcw (q := 21) rfl rfl rfl ?_
  refine xx_iand (q := 22) rfl rfl ?_
  refine xx_iadd (q := 23) rfl rfl ?_
  refine xx_istore_n (q := 24) (loc2 := [_]) rfl rfl (Nat.le_of_ble_eq_true rfl) rfl ?_
  refine xx_iload_n (q := 25) rfl rfl rfl ?_
  refine xx_iload_n (q := 26) rfl rfl rfl ?_
  refine xx_iconst (q := 27) rfl rfl (by decide) ?_
  refine xx_iushr (q := 28) rfl rfl ?_
  refine xx_iadd (q := 29) rfl rfl ?_
  refine xx_ldcw (q := 32) rfl rfl rfl ?_
  refine xx_iand (q := 33) rfl rfl ?_
  refine xx_istore_n (q := 34) (loc2 := [_]) rfl rfl (Nat.le_of_ble_eq_true rfl) rfl ?_
  refine xx_iload_n (q := 35) rfl rfl rfl ?_
  refine xx_iload_n (q := 36) rfl rfl rfl ?_
  refine xx_bipush (q := 38) rfl rfl (by decide) ?_
  refine xx_iushr (q := 39) rfl rfl ?_
  refine xx_iadd (q := 40) rfl rfl ?_
  refine xx_istore_n (q := 41) (loc2 := [_]) rfl rfl (Nat.le_of_ble_eq_true rfl) rfl ?_
  refine xx_iload_n (q := 42) rfl rfl rfl ?_
  refine xx_iload_n (q := 43) rfl rfl rfl ?_
  refine xx_bipush (q := 45) rfl rfl (by decide) ?_
  refine xx_iushr (q := 46) rfl rfl ?_
  refine xx_iadd (q := 47) rfl rfl ?_
  refine xx_istore_n (q := 48) (loc2 := [_]) rfl rfl (Nat.le_of_ble_eq_true rfl) rfl ?_
  refine xx_iload_n (q := 49) rfl rfl rfl ?_
  refine xx_bipush (q := 51) rfl rfl (by decide) ?_
  refine xx_iand (q := 52) rfl rfl ?_
  exact xx_iret rfl trivial ⟨congrArg (fun z => some (Sum.inl z)) (by rfl), rfl⟩
def ordA (K : KK) (G : LwF) (s up : Int) (a : OS) : OS := ordF G up 6 0 K s 0 (-1, a.2.1, a.2.2)
def ordR (K : KK) (G : LwF) (s up w : Int) (a : OS) : Int := if ¬ ((alP K s ∧ bcF s < 6) ∧ (w = 0 ∨ (10 ≤ w ∧ w ≤ nrm (9 + bcF s)))) then -1 else if 10 ≤ w ∧ w ≤ nrm (9 + bcF s) then (ordA K G s up a).2.1 (w - 10).toNat else (ordA K G s up a).1
set_option maxHeartbeats 4000000 in
theorem c_order {n : Nat} {R : Nat → Nat → Option Nat} {D K : KK} (hR : RF R) (hK : CK 27 K D) (hI : KI K) {G : LwF} (hG : LwG G n R D) (s up w : Int) (hw6 : alP K s → bcF s < 6 → nrm (9 + bcF s) ≤ 15) : ∃ D', XC 14 144 [.inr (some 5), .inl s, .inl up, .inl w] (xS n, R, D) (some (.inl (ordR K G s up w (-1, D 281, D 282)))) (xS n, R, D') ∧ FX D D' := by
  have ht4 : isT 284 := isT_k (s := 0) (by omega)
  have hc4 := isT_C ht4
  have hn4 := isT_N ht4
  refine XE_of (Nat.le_of_ble_eq_true rfl) (Nat.le_of_ble_eq_true rfl) (loc := [_, _, _, _, _, _, _]) rfl ?_
  refine xx_iload_n (q := 1) rfl rfl rfl ?_
  refine xx_callS (q := 4) (As := [_]) (rest := []) rfl rfl rfl (Or.inl rfl) rfl rfl (Nat.le_of_ble_eq_true rfl) (XCm (j_bitCount s) rfl) rfl ?_
  refine xx_istore (q := 6) (loc2 := [_, _, _, _, _, _, _]) rfl rfl (Nat.le_of_ble_eq_true rfl) rfl ?_
  refine xx_iload_n (q := 7) rfl rfl rfl ?_
  refine xx_bipush (q := 9) rfl rfl (by decide) ?_
  refine xx_bipush (q := 11) rfl rfl (by decide) ?_
  refine xx_iload (q := 13) rfl rfl rfl ?_
  refine xx_iadd (q := 14) rfl rfl ?_
  refine xx_callS (q := 17) (As := [_, _, _]) (rest := []) rfl rfl rfl (Or.inl rfl) rfl rfl (Nat.le_of_ble_eq_true rfl) (XCm (c_within w 10 (nrm (9 + (bcF s)))) rfl) rfl ?_
  refine xx_istore (q := 19) (loc2 := [_, _, _, _, _, _, _]) rfl rfl (Nat.le_of_ble_eq_true rfl) rfl ?_
  refine xx_aload_n (q := 20) rfl rfl rfl ?_
  refine xx_getR (q := 23) rfl rfl rfl xS_5 (Nat.le_of_ble_eq_true rfl) rfl (hR.1 5 0 rfl) ?_
  refine xx_getR (q := 26) rfl rfl rfl xS_6 (Nat.le_of_ble_eq_true rfl) rfl (hR.1 6 5 rfl) ?_
  refine xx_getR (q := 29) rfl rfl rfl (xSc_0 isC_27) (Nat.le_of_ble_eq_true rfl) rfl (rc_fleet hR isC_27) ?_
  refine xx_iload_n (q := 30) rfl rfl rfl ?_
  refine xx_callV (q := 33) (As := [_]) (rest := []) rfl rfl rfl (Or.inl rfl) rfl rfl (Nat.le_of_ble_eq_true rfl) (xSc_13 isC_27) (XCm (c_hasAll hR isC_27 hK hI s) rfl) rfl ?_
  refine xx_ifb_eq (q := 47) (q2 := 36) rfl rfl rfl (fun h33 => ?_) (fun h33 => ?_)
  · refine xx_iconst (q := 48) rfl rfl (by decide) ?_
    refine xx_istore (q := 50) (loc2 := [_, _, _, _, _, _, _]) rfl rfl (Nat.le_of_ble_eq_true rfl) rfl ?_
    refine xx_iload (q := 52) rfl rfl rfl ?_
    refine xx_if_eq (q := 64) (q2 := 55) rfl rfl rfl (fun _ => ?_) (fun h52 => (by exfalso; omega))
    refine xx_iconst (q := 65) rfl rfl (by decide) ?_
    refine xx_iret rfl trivial ⟨congrArg (fun z => some (Sum.inl z)) (by unfold ordR; rw [if_pos (fun q => by grind)]), _, rfl, ?_⟩
    exact FX.rf
  · refine xx_iload (q := 38) rfl rfl rfl ?_
    refine xx_bipush (q := 40) rfl rfl (by decide) ?_
    refine xx_icmp_ge (q := 47) (q2 := 43) rfl rfl rfl (fun h40 => ?_) (fun h40 => ?_)
    · refine xx_iconst (q := 48) rfl rfl (by decide) ?_
      refine xx_istore (q := 50) (loc2 := [_, _, _, _, _, _, _]) rfl rfl (Nat.le_of_ble_eq_true rfl) rfl ?_
      refine xx_iload (q := 52) rfl rfl rfl ?_
      refine xx_if_eq (q := 64) (q2 := 55) rfl rfl rfl (fun _ => ?_) (fun h52 => (by exfalso; omega))
      refine xx_iconst (q := 65) rfl rfl (by decide) ?_
      refine xx_iret rfl trivial ⟨congrArg (fun z => some (Sum.inl z)) (by unfold ordR; rw [if_pos (fun q => by grind)]), _, rfl, ?_⟩
      exact FX.rf
    · refine xx_iconst (q := 44) rfl rfl (by decide) ?_
      refine xx_goto (q := 48) rfl rfl ?_
      refine xx_istore (q := 50) (loc2 := [_, _, _, _, _, _, _]) rfl rfl (Nat.le_of_ble_eq_true rfl) rfl ?_
      refine xx_iload (q := 52) rfl rfl rfl ?_
      refine xx_if_eq (q := 64) (q2 := 55) rfl rfl rfl (fun h52 => (by exfalso; omega)) (fun _ => ?_)
      refine xx_iload_n (q := 56) rfl rfl rfl ?_
      refine xx_if_eq (q := 66) (q2 := 59) rfl rfl rfl (fun h56 => ?_) (fun h56 => ?_)
      · refine xx_aload_n (q := 67) rfl rfl rfl ?_
        refine xx_getR (q := 70) rfl rfl rfl xS_5 (Nat.le_of_ble_eq_true rfl) rfl (hR.1 5 3 rfl) ?_
        refine xx_aload_n (q := 71) rfl rfl rfl ?_
        refine xx_getR (q := 74) rfl rfl rfl xS_5 (Nat.le_of_ble_eq_true rfl) rfl (hR.1 5 0 rfl) ?_
        refine xx_getR (q := 77) rfl rfl rfl xS_6 (Nat.le_of_ble_eq_true rfl) rfl (hR.1 6 5 rfl) ?_
        obtain ⟨D1, hx1, hK1, hG1⟩ := c_start (n := n) hR isC_27 (by decide) hK hI
        refine xx_callV (q := 80) (As := [_]) (rest := []) rfl rfl rfl (Or.inl rfl) rfl rfl (Nat.le_of_ble_eq_true rfl) xS_279 (XCm hx1 rfl) rfl ?_
        refine xx_pop (q := 81) rfl rfl ?_
        refine xx_aload_n (q := 82) rfl rfl rfl ?_
        refine xx_getR (q := 85) rfl rfl rfl xS_5 (Nat.le_of_ble_eq_true rfl) rfl (hR.1 5 3 rfl) ?_
        refine xx_iconst (q := 86) rfl rfl (by decide) ?_
        refine xx_puz (q := 89) rfl rfl rfl xS_279 (Nat.le_of_ble_eq_true rfl) (Nat.le_of_ble_eq_true rfl) (fun h => by cases h) (Or.inl rfl) rfl ?_
        refine xx_aload_n (q := 90) rfl rfl rfl ?_
        refine xx_getR (q := 93) rfl rfl rfl xS_5 (Nat.le_of_ble_eq_true rfl) rfl (hR.1 5 3 rfl) ?_
        refine xx_iconst (q := 94) rfl rfl (by decide) ?_
        refine xx_iload_n (q := 95) rfl rfl rfl ?_
        refine xx_iload_n (q := 96) rfl rfl rfl ?_
        refine xx_iconst (q := 97) rfl rfl (by decide) ?_
        have hfs : ∀ x k, (x < 284 ∨ 303 ≤ x) → x ≠ 10 → x ≠ 14 → D1 x k = D x k := fun x k q1 q2 q3 => hG1 x k (by omega) q2 q3
        obtain ⟨D3, hx3, hFO, hO⟩ := c_ord (n := n) hR up 6 0 s 0 K (xui D1 279 1 (-1)) (-1, D 281, D 282) (by omega) (by omega) (by omega) hI (CK_fr hK1 (fun o k ho => xui_a (by omega))) (LawS.fr hG (fun x k q1 q2 => (xui_a (by omega)).trans (hfs x k (by omega) (by omega) (by omega)))) ⟨xui_s, fun k hk => ⟨(xui_a (by omega)).trans (hfs 281 k (by omega) (by omega) (by omega)), (xui_a (by omega)).trans (hfs 282 k (by omega) (by omega) (by omega))⟩⟩
        refine xx_callV (q := 100) (As := [_, _, _, _]) (rest := []) rfl rfl rfl (Or.inr rfl) rfl rfl (Nat.le_of_ble_eq_true rfl) xS_279 (XCm hx3 rfl) rfl ?_
        refine xx_iload (q := 102) rfl rfl rfl ?_
        refine xx_ifb_eq (q := 120) (q2 := 105) rfl rfl rfl (fun h102 => ?_) (fun h102 => ?_)
        · refine xx_aload_n (q := 121) rfl rfl rfl ?_
          refine xx_getR (q := 124) rfl rfl rfl xS_5 (Nat.le_of_ble_eq_true rfl) rfl (hR.1 5 3 rfl) ?_
          refine xx_gez (q := 127) rfl rfl rfl xS_279 (Nat.le_of_ble_eq_true rfl) rfl hO.1 ?_
          refine xx_iret rfl trivial ⟨congrArg (fun z => some (Sum.inl z)) (by unfold ordR; rw [if_neg (fun q => q (by grind)), if_neg h102] <;> rfl), _, rfl, ?_⟩
          exact fun x k h1 h2 h3 => (hFO x k (by omega) h2 h3).trans ((xui_a (by omega)).trans (hfs x k (by omega) h2 h3))
        · have hw7 := hw6 (by assumption) (by omega)
          refine xx_aload_n (q := 106) rfl rfl rfl ?_
          refine xx_getR (q := 109) rfl rfl rfl xS_5 (Nat.le_of_ble_eq_true rfl) rfl (hR.1 5 3 rfl) ?_
          refine xx_getR (q := 112) rfl rfl rfl xS_279 (Nat.le_of_ble_eq_true rfl) rfl (hR.1 279 5 rfl) ?_
          refine xx_iload_n (q := 113) rfl rfl rfl ?_
          refine xx_bipush (q := 115) rfl rfl (by decide) ?_
          refine xx_isubR (q := 116) rfl rfl (by omega) (by omega) ?_
          refine xx_iaz (v := (ordA K G s up (-1, D 281, D 282)).2.1 (w - 10).toNat) (q := 117) rfl rfl xS_281 (by omega) (by omega) ((hO.2 _ (by have := hw6 (by assumption) (by omega); omega)).1) ?_
          refine xx_goto (q := 127) rfl rfl ?_
          refine xx_iret rfl trivial ⟨congrArg (fun z => some (Sum.inl z)) (by unfold ordR; rw [if_neg (fun q => q (by grind)), if_pos h102] <;> rfl), _, rfl, ?_⟩
          exact fun x k h1 h2 h3 => (hFO x k (by omega) h2 h3).trans ((xui_a (by omega)).trans (hfs x k (by omega) h2 h3))
      · refine xx_iload (q := 61) rfl rfl rfl ?_
        refine xx_ifb_ne (q := 66) (q2 := 64) rfl rfl rfl (fun h61 => ?_) (fun h61 => ?_)
        · refine xx_aload_n (q := 67) rfl rfl rfl ?_
          refine xx_getR (q := 70) rfl rfl rfl xS_5 (Nat.le_of_ble_eq_true rfl) rfl (hR.1 5 3 rfl) ?_
          refine xx_aload_n (q := 71) rfl rfl rfl ?_
          refine xx_getR (q := 74) rfl rfl rfl xS_5 (Nat.le_of_ble_eq_true rfl) rfl (hR.1 5 0 rfl) ?_
          refine xx_getR (q := 77) rfl rfl rfl xS_6 (Nat.le_of_ble_eq_true rfl) rfl (hR.1 6 5 rfl) ?_
          obtain ⟨D4, hx4, hK4, hG4⟩ := c_start (n := n) hR isC_27 (by decide) hK hI
          refine xx_callV (q := 80) (As := [_]) (rest := []) rfl rfl rfl (Or.inl rfl) rfl rfl (Nat.le_of_ble_eq_true rfl) xS_279 (XCm hx4 rfl) rfl ?_
          refine xx_pop (q := 81) rfl rfl ?_
          refine xx_aload_n (q := 82) rfl rfl rfl ?_
          refine xx_getR (q := 85) rfl rfl rfl xS_5 (Nat.le_of_ble_eq_true rfl) rfl (hR.1 5 3 rfl) ?_
          refine xx_iconst (q := 86) rfl rfl (by decide) ?_
          refine xx_puz (q := 89) rfl rfl rfl xS_279 (Nat.le_of_ble_eq_true rfl) (Nat.le_of_ble_eq_true rfl) (fun h => by cases h) (Or.inl rfl) rfl ?_
          refine xx_aload_n (q := 90) rfl rfl rfl ?_
          refine xx_getR (q := 93) rfl rfl rfl xS_5 (Nat.le_of_ble_eq_true rfl) rfl (hR.1 5 3 rfl) ?_
          refine xx_iconst (q := 94) rfl rfl (by decide) ?_
          refine xx_iload_n (q := 95) rfl rfl rfl ?_
          refine xx_iload_n (q := 96) rfl rfl rfl ?_
          refine xx_iconst (q := 97) rfl rfl (by decide) ?_
          have hfs : ∀ x k, (x < 284 ∨ 303 ≤ x) → x ≠ 10 → x ≠ 14 → D4 x k = D x k := fun x k q1 q2 q3 => hG4 x k (by omega) q2 q3
          obtain ⟨D6, hx6, hFO, hO⟩ := c_ord (n := n) hR up 6 0 s 0 K (xui D4 279 1 (-1)) (-1, D 281, D 282) (by omega) (by omega) (by omega) hI (CK_fr hK4 (fun o k ho => xui_a (by omega))) (LawS.fr hG (fun x k q1 q2 => (xui_a (by omega)).trans (hfs x k (by omega) (by omega) (by omega)))) ⟨xui_s, fun k hk => ⟨(xui_a (by omega)).trans (hfs 281 k (by omega) (by omega) (by omega)), (xui_a (by omega)).trans (hfs 282 k (by omega) (by omega) (by omega))⟩⟩
          refine xx_callV (q := 100) (As := [_, _, _, _]) (rest := []) rfl rfl rfl (Or.inr rfl) rfl rfl (Nat.le_of_ble_eq_true rfl) xS_279 (XCm hx6 rfl) rfl ?_
          refine xx_iload (q := 102) rfl rfl rfl ?_
          refine xx_ifb_eq (q := 120) (q2 := 105) rfl rfl rfl (fun h102 => ?_) (fun h102 => ?_)
          · refine xx_aload_n (q := 121) rfl rfl rfl ?_
            refine xx_getR (q := 124) rfl rfl rfl xS_5 (Nat.le_of_ble_eq_true rfl) rfl (hR.1 5 3 rfl) ?_
            refine xx_gez (q := 127) rfl rfl rfl xS_279 (Nat.le_of_ble_eq_true rfl) rfl hO.1 ?_
            refine xx_iret rfl trivial ⟨congrArg (fun z => some (Sum.inl z)) (by unfold ordR; rw [if_neg (fun q => q (by grind)), if_neg h102] <;> rfl), _, rfl, ?_⟩
            exact fun x k h1 h2 h3 => (hFO x k (by omega) h2 h3).trans ((xui_a (by omega)).trans (hfs x k (by omega) h2 h3))
          · have hw7 := hw6 (by assumption) (by omega)
            refine xx_aload_n (q := 106) rfl rfl rfl ?_
            refine xx_getR (q := 109) rfl rfl rfl xS_5 (Nat.le_of_ble_eq_true rfl) rfl (hR.1 5 3 rfl) ?_
            refine xx_getR (q := 112) rfl rfl rfl xS_279 (Nat.le_of_ble_eq_true rfl) rfl (hR.1 279 5 rfl) ?_
            refine xx_iload_n (q := 113) rfl rfl rfl ?_
            refine xx_bipush (q := 115) rfl rfl (by decide) ?_
            refine xx_isubR (q := 116) rfl rfl (by omega) (by omega) ?_
            refine xx_iaz (v := (ordA K G s up (-1, D 281, D 282)).2.1 (w - 10).toNat) (q := 117) rfl rfl xS_281 (by omega) (by omega) ((hO.2 _ (by have := hw6 (by assumption) (by omega); omega)).1) ?_
            refine xx_goto (q := 127) rfl rfl ?_
            refine xx_iret rfl trivial ⟨congrArg (fun z => some (Sum.inl z)) (by unfold ordR; rw [if_neg (fun q => q (by grind)), if_pos h102] <;> rfl), _, rfl, ?_⟩
            exact fun x k h1 h2 h3 => (hFO x k (by omega) h2 h3).trans ((xui_a (by omega)).trans (hfs x k (by omega) h2 h3))
        · refine xx_iconst (q := 65) rfl rfl (by decide) ?_
          refine xx_iret rfl trivial ⟨congrArg (fun z => some (Sum.inl z)) (by unfold ordR; rw [if_pos (fun q => by grind)]), _, rfl, ?_⟩
          exact FX.rf
