/-! A law answers: the class. -/
def jnF (op x y : Int) : Int := if op = -20 then nrm (x + y) else if op = -21 then nrm (x - y) else if op = -22 then nrm (x * y) else if op = -23 then (if y = 0 then 0 else xdiv x y) else if op = -24 then (if x < y then 1 else 0) else if op = -25 then (if x = y then 1 else 0) else if op = -26 then (if y < x then 1 else 0) else if op = -27 then xand x y else xor_ x y
def ansL (f c : Nat → Int) (oth : Int) : Nat → Int → Int → (Nat → Int) → Int
  | 0, _, _, _ => oth
  | k + 1, i, top, s => if ¬ top < 64 then oth else if 0 ≤ c i.toNat then ansL f c oth k (i + 1) (top + 1) (fset s top.toNat (c i.toNat)) else if -15 ≤ c i.toNat then ansL f c oth k (i + 1) (top + 1) (fset s top.toNat (f (-1 - c i.toNat).toNat)) else if c i.toNat = -30 ∧ 1 ≤ top then s (top - 1).toNat else if c i.toNat = -29 ∧ 1 ≤ top then ansL f c oth k (i + 1) top (fset s (top - 1).toNat (nrm (1 - s (top - 1).toNat))) else if c i.toNat = -31 ∧ 2 ≤ top then (if s (top - 1).toNat = 0 then ansL f c oth k (i + 1) 0 s else s (top - 2).toNat) else if 2 ≤ top then ansL f c oth k (i + 1) (top - 1) (fset s (top - 1 - 1).toNat (jnF (c i.toNat) (s (top - 1 - 1).toNat) (s (top - 1).toNat))) else ansL f c oth k (i + 1) top s
set_option maxHeartbeats 1000000 in
theorem c_joined {m : XM} (op x y : Int) : XC 1 65 [.inl op, .inl x, .inl y] m (some (.inl (jnF op x y))) m := by
  refine XC_of (Nat.le_of_ble_eq_true rfl) (Nat.le_of_ble_eq_true rfl) (loc := [_, _, _]) rfl ?_
  refine xx_iload_n (q := 1) rfl rfl rfl ?_
  by_cases h1_m27 : op = (-27)
  · refine xx_swK (q := 105) (zl := (-27)) (off := 104) rfl h1_m27 (by decide) (by decide) rfl rfl ?_
    refine xx_iload_n (q := 106) rfl rfl rfl ?_
    refine xx_iload_n (q := 107) rfl rfl rfl ?_
    refine xx_iand (q := 108) rfl rfl ?_
    exact xx_iret rfl trivial ⟨congrArg (fun z => some (Sum.inl z)) (by grind [jnF]), rfl⟩
  by_cases h1_m26 : op = (-26)
  · refine xx_swK (q := 94) (zl := (-26)) (off := 93) rfl h1_m26 (by decide) (by decide) rfl rfl ?_
    refine xx_iload_n (q := 95) rfl rfl rfl ?_
    refine xx_iload_n (q := 96) rfl rfl rfl ?_
    refine xx_icmp_le (q := 103) (q2 := 99) rfl rfl rfl (fun h96 => ?_) (fun h96 => ?_)
    · refine xx_iconst (q := 104) rfl rfl (by decide) ?_
      exact xx_iret rfl trivial ⟨congrArg (fun z => some (Sum.inl z)) (by grind [jnF]), rfl⟩
    · refine xx_iconst (q := 100) rfl rfl (by decide) ?_
      refine xx_goto (q := 104) rfl rfl ?_
      exact xx_iret rfl trivial ⟨congrArg (fun z => some (Sum.inl z)) (by grind [jnF]), rfl⟩
  by_cases h1_m25 : op = (-25)
  · refine xx_swK (q := 83) (zl := (-25)) (off := 82) rfl h1_m25 (by decide) (by decide) rfl rfl ?_
    refine xx_iload_n (q := 84) rfl rfl rfl ?_
    refine xx_iload_n (q := 85) rfl rfl rfl ?_
    refine xx_icmp_ne (q := 92) (q2 := 88) rfl rfl rfl (fun h85 => ?_) (fun h85 => ?_)
    · refine xx_iconst (q := 93) rfl rfl (by decide) ?_
      exact xx_iret rfl trivial ⟨congrArg (fun z => some (Sum.inl z)) (by grind [jnF]), rfl⟩
    · refine xx_iconst (q := 89) rfl rfl (by decide) ?_
      refine xx_goto (q := 93) rfl rfl ?_
      exact xx_iret rfl trivial ⟨congrArg (fun z => some (Sum.inl z)) (by grind [jnF]), rfl⟩
  by_cases h1_m24 : op = (-24)
  · refine xx_swK (q := 72) (zl := (-24)) (off := 71) rfl h1_m24 (by decide) (by decide) rfl rfl ?_
    refine xx_iload_n (q := 73) rfl rfl rfl ?_
    refine xx_iload_n (q := 74) rfl rfl rfl ?_
    refine xx_icmp_ge (q := 81) (q2 := 77) rfl rfl rfl (fun h74 => ?_) (fun h74 => ?_)
    · refine xx_iconst (q := 82) rfl rfl (by decide) ?_
      exact xx_iret rfl trivial ⟨congrArg (fun z => some (Sum.inl z)) (by grind [jnF]), rfl⟩
    · refine xx_iconst (q := 78) rfl rfl (by decide) ?_
      refine xx_goto (q := 82) rfl rfl ?_
      exact xx_iret rfl trivial ⟨congrArg (fun z => some (Sum.inl z)) (by grind [jnF]), rfl⟩
  by_cases h1_m23 : op = (-23)
  · refine xx_swK (q := 60) (zl := (-23)) (off := 59) rfl h1_m23 (by decide) (by decide) rfl rfl ?_
    refine xx_iload_n (q := 61) rfl rfl rfl ?_
    refine xx_if_ne (q := 68) (q2 := 64) rfl rfl rfl (fun h61 => ?_) (fun h61 => ?_)
    · refine xx_iload_n (q := 69) rfl rfl rfl ?_
      refine xx_iload_n (q := 70) rfl rfl rfl ?_
      refine xx_idiv (q := 71) rfl rfl (by omega) ?_
      exact xx_iret rfl trivial ⟨congrArg (fun z => some (Sum.inl z)) (by grind [jnF]), rfl⟩
    · refine xx_iconst (q := 65) rfl rfl (by decide) ?_
      refine xx_goto (q := 71) rfl rfl ?_
      exact xx_iret rfl trivial ⟨congrArg (fun z => some (Sum.inl z)) (by grind [jnF]), rfl⟩
  by_cases h1_m22 : op = (-22)
  · refine xx_swK (q := 56) (zl := (-22)) (off := 55) rfl h1_m22 (by decide) (by decide) rfl rfl ?_
    refine xx_iload_n (q := 57) rfl rfl rfl ?_
    refine xx_iload_n (q := 58) rfl rfl rfl ?_
    refine xx_imul (q := 59) rfl rfl ?_
    exact xx_iret rfl trivial ⟨congrArg (fun z => some (Sum.inl z)) (by grind [jnF]), rfl⟩
  by_cases h1_m21 : op = (-21)
  · refine xx_swK (q := 52) (zl := (-21)) (off := 51) rfl h1_m21 (by decide) (by decide) rfl rfl ?_
    refine xx_iload_n (q := 53) rfl rfl rfl ?_
    refine xx_iload_n (q := 54) rfl rfl rfl ?_
    refine xx_isub (q := 55) rfl rfl ?_
    exact xx_iret rfl trivial ⟨congrArg (fun z => some (Sum.inl z)) (by grind [jnF]), rfl⟩
  by_cases h1_m20 : op = (-20)
  · refine xx_swK (q := 48) (zl := (-20)) (off := 47) rfl h1_m20 (by decide) (by decide) rfl rfl ?_
    refine xx_iload_n (q := 49) rfl rfl rfl ?_
    refine xx_iload_n (q := 50) rfl rfl rfl ?_
    refine xx_iadd (q := 51) rfl rfl ?_
    exact xx_iret rfl trivial ⟨congrArg (fun z => some (Sum.inl z)) (by grind [jnF]), rfl⟩
  refine xx_swOut (q := 109) rfl (by omega) rfl ?_
  refine xx_iload_n (q := 110) rfl rfl rfl ?_
  refine xx_iload_n (q := 111) rfl rfl rfl ?_
  refine xx_ior (q := 112) rfl rfl ?_
  exact xx_iret rfl trivial ⟨congrArg (fun z => some (Sum.inl z)) (by grind [jnF]), rfl⟩
set_option maxHeartbeats 4000000 in
theorem c_ans_LG {n c cc : Nat} {R : Nat → Nat → Option Nat} {D0 : KK} (hR : RF R) (hc : isC c) (hcc : R 7 3 = some cc) (hcc2 : cc = 8 ∨ cc = 9) (f cd : Nat → Int) (oth len : Int) (hl1 : len ≤ 400) (hlen : D0 7 2 = len) (hcd : ∀ i : Nat, (i : Int) < len → D0 cc i = cd i) (hrl : ∀ i : Nat, (i : Int) < len → -15 ≤ cd i → cd i < 0 → rlG (-1 - cd i).toNat) (hf : ∀ k, rlG k → D0 (c + 18) k = f k) : ∀ (k : Nat) (D : KK) (i top : Int) (s : Nat → Int) (x : Option XV), (∀ k, D 10 k = s k) → (∀ b k, b ≠ 10 → D b k = D0 b k) → 0 ≤ i → i + k = len → 0 ≤ top → top ≤ 64 → XX (XC 1) 64 (XP (some (.inl (ansL f cd oth k i top s))) (xS n) R (fun D' => ∀ b k, b ≠ 10 → D' b k = D0 b k)) 5 [some (.inr (some 7)), some (.inr (some (c + 18))), some (.inl oth), some (.inl top), some (.inl i), x] [] (xS n, R, D) := by
  intro k
  induction k using Nat.strongRecOn with
  | ind k ih =>
  intro D i top s x hS hF h1 hk ht0 ht1
  have hshc : (xS n)[cc]? = some (0, 400) := by rcases hcc2 with rfl | rfl; exact xS_8; exact xS_9
  have hcc3 : cc ≠ 10 := by omega
  have hcg := isC_gt hc
  refine xx_iload (q := 7) rfl rfl rfl ?_
  refine xx_aload_n (q := 8) rfl rfl rfl ?_
  refine xx_gez (q := 11) rfl rfl rfl xS_7 (Nat.le_of_ble_eq_true rfl) rfl ((hF _ _ (by omega)).trans hlen) ?_
  refine xx_icmp_ge (q := 205) (q2 := 14) rfl rfl rfl (fun h11 => ?_) (fun h11 => ?_)
  · refine xx_iload_n (q := 206) rfl rfl rfl ?_
    obtain rfl : k = 0 := by omega
    exact xx_iret rfl trivial ⟨rfl, _, rfl, hF⟩
  · refine xx_iload_n (q := 15) rfl rfl rfl ?_
    refine xx_bipush (q := 17) rfl rfl (by decide) ?_
    refine xx_icmp_ge (q := 205) (q2 := 20) rfl rfl rfl (fun h17 => ?_) (fun h17 => ?_)
    · refine xx_iload_n (q := 206) rfl rfl rfl ?_
      obtain ⟨k, rfl⟩ : ∃ k2, k = k2 + 1 := ⟨k - 1, by omega⟩
      rw [ansL.eq_2, if_pos (by omega)]
      exact xx_iret rfl trivial ⟨rfl, _, rfl, hF⟩
    · obtain ⟨k, rfl⟩ : ∃ k2, k = k2 + 1 := ⟨k - 1, by omega⟩
      refine xx_aload_n (q := 21) rfl rfl rfl ?_
      refine xx_getR (q := 24) rfl rfl rfl xS_7 (Nat.le_of_ble_eq_true rfl) rfl (hcc) ?_
      refine xx_iload (q := 26) rfl rfl rfl ?_
      refine xx_iaz (v := cd (i).toNat) (q := 27) rfl rfl hshc (by omega) (by omega) ((hF _ _ (by omega)).trans (hcd _ (by omega))) ?_
      have hrl1 := hrl (i).toNat (by omega)
      refine xx_istore (q := 29) (loc2 := [_, _, _, _, _, _]) rfl rfl (Nat.le_of_ble_eq_true rfl) rfl ?_
      refine xx_iload (q := 31) rfl rfl rfl ?_
      refine xx_if_lt (q := 48) (q2 := 34) rfl rfl rfl (fun h31 => ?_) (fun h31 => ?_)
      · refine xx_iload (q := 50) rfl rfl rfl ?_
        refine xx_bipush (q := 52) rfl rfl (by decide) ?_
        refine xx_icmp_lt (q := 73) (q2 := 55) rfl rfl rfl (fun h52 => ?_) (fun h52 => ?_)
        · refine xx_iload (q := 75) rfl rfl rfl ?_
          refine xx_bipush (q := 77) rfl rfl (by decide) ?_
          refine xx_icmp_ne (q := 94) (q2 := 80) rfl rfl rfl (fun h77 => ?_) (fun h77 => ?_)
          · refine xx_iload (q := 96) rfl rfl rfl ?_
            refine xx_bipush (q := 98) rfl rfl (by decide) ?_
            refine xx_icmp_ne (q := 127) (q2 := 101) rfl rfl rfl (fun h98 => ?_) (fun h98 => ?_)
            · refine xx_iload (q := 129) rfl rfl rfl ?_
              refine xx_bipush (q := 131) rfl rfl (by decide) ?_
              refine xx_icmp_ne (q := 164) (q2 := 134) rfl rfl rfl (fun h131 => ?_) (fun h131 => ?_)
              · refine xx_iload_n (q := 165) rfl rfl rfl ?_
                refine xx_iconst (q := 166) rfl rfl (by decide) ?_
                refine xx_icmp_lt (q := 199) (q2 := 169) rfl rfl rfl (fun h166 => ?_) (fun h166 => ?_)
                · refine xx_incz (q := 202) (loc2 := [_, _, _, _, _, _]) rfl rfl rfl (by omega) (by omega) rfl rfl ?_
                  refine xx_goto (q := 5) rfl rfl ?_
                  rw [ansL.eq_2, if_neg (fun q => q (by omega)), if_neg (by omega), if_neg (by omega), if_neg (fun q => by exact h77 q.1), if_neg (fun q => by exact h98 q.1), if_neg (fun q => by exact h131 q.1), if_neg (by omega)]
                  exact ih k (by omega) _ _ _ _ _ (hS) (hF) (by omega) (by omega) (by omega) (by omega)
                · refine xx_incz (q := 172) (loc2 := [_, _, _, _, _, _]) rfl rfl rfl (by omega) (by omega) rfl rfl ?_
                  refine xx_aload_n (q := 173) rfl rfl rfl ?_
                  refine xx_getR (q := 176) rfl rfl rfl xS_7 (Nat.le_of_ble_eq_true rfl) rfl (hR.1 7 6 rfl) ?_
                  refine xx_iload_n (q := 177) rfl rfl rfl ?_
                  refine xx_iconst (q := 178) rfl rfl (by decide) ?_
                  refine xx_isubR (q := 179) rfl rfl (by omega) (by omega) ?_
                  refine xx_iload (q := 181) rfl rfl rfl ?_
                  refine xx_aload_n (q := 182) rfl rfl rfl ?_
                  refine xx_getR (q := 185) rfl rfl rfl xS_7 (Nat.le_of_ble_eq_true rfl) rfl (hR.1 7 6 rfl) ?_
                  refine xx_iload_n (q := 186) rfl rfl rfl ?_
                  refine xx_iconst (q := 187) rfl rfl (by decide) ?_
                  refine xx_isubR (q := 188) rfl rfl (by omega) (by omega) ?_
                  refine xx_iaz (v := s ((top + (-1)) - 1).toNat) (q := 189) rfl rfl xS_10 (by omega) (by omega) (hS _) ?_
                  refine xx_aload_n (q := 190) rfl rfl rfl ?_
                  refine xx_getR (q := 193) rfl rfl rfl xS_7 (Nat.le_of_ble_eq_true rfl) rfl (hR.1 7 6 rfl) ?_
                  refine xx_iload_n (q := 194) rfl rfl rfl ?_
                  refine xx_iaz (v := s (top + (-1)).toNat) (q := 195) rfl rfl xS_10 (by omega) (by omega) (hS _) ?_
                  refine xx_callS (q := 198) (As := [_, _, _]) (rest := [_, _]) rfl rfl rfl (Or.inl rfl) rfl rfl (Nat.le_of_ble_eq_true rfl) (XCm (c_joined (cd (i).toNat) (s ((top + (-1)) - 1).toNat) (s (top + (-1)).toNat)) rfl) rfl ?_
                  refine xr_isz (fun d => (∀ k, d 10 k = (fset s ((top + (-1)) - 1).toNat (jnF (cd (i).toNat) (s ((top + (-1)) - 1).toNat) (s (top + (-1)).toNat))) k) ∧ ∀ b k, b ≠ 10 → d b k = D0 b k) (q := 199) rfl rfl xS_10 (by omega) (by omega) ⟨fun k => by rw [xui_f]; unfold fset; rw [hS k], fun b k hb => (xui_a hb).trans (hF b k hb)⟩ (fun D2 hD2 => ?_)
                  refine xx_incz (q := 202) (loc2 := [_, _, _, _, _, _]) rfl rfl rfl (by omega) (by omega) rfl rfl ?_
                  refine xx_goto (q := 5) rfl rfl ?_
                  rw [ansL.eq_2, if_neg (fun q => q (by omega)), if_neg (by omega), if_neg (by omega), if_neg (fun q => by exact h77 q.1), if_neg (fun q => by exact h98 q.1), if_neg (fun q => by exact h131 q.1), if_pos (by omega)]
                  exact ih k (by omega) _ _ _ _ _ (hD2.1) (hD2.2) (by omega) (by omega) (by omega) (by omega)
              · refine xx_iload_n (q := 135) rfl rfl rfl ?_
                refine xx_iconst (q := 136) rfl rfl (by decide) ?_
                refine xx_icmp_lt (q := 164) (q2 := 139) rfl rfl rfl (fun h136 => ?_) (fun h136 => ?_)
                · refine xx_iload_n (q := 165) rfl rfl rfl ?_
                  refine xx_iconst (q := 166) rfl rfl (by decide) ?_
                  refine xx_icmp_lt (q := 199) (q2 := 169) rfl rfl rfl (fun h166 => ?_) (fun h166 => ?_)
                  · refine xx_incz (q := 202) (loc2 := [_, _, _, _, _, _]) rfl rfl rfl (by omega) (by omega) rfl rfl ?_
                    refine xx_goto (q := 5) rfl rfl ?_
                    rw [ansL.eq_2, if_neg (fun q => q (by omega)), if_neg (by omega), if_neg (by omega), if_neg (fun q => by exact h77 q.1), if_neg (fun q => by exact h98 q.1), if_neg (fun q => by omega), if_neg (by omega)]
                    exact ih k (by omega) _ _ _ _ _ (hS) (hF) (by omega) (by omega) (by omega) (by omega)
                  · refine xx_incz (q := 172) (loc2 := [_, _, _, _, _, _]) rfl rfl rfl (by omega) (by omega) rfl rfl ?_
                    refine xx_aload_n (q := 173) rfl rfl rfl ?_
                    refine xx_getR (q := 176) rfl rfl rfl xS_7 (Nat.le_of_ble_eq_true rfl) rfl (hR.1 7 6 rfl) ?_
                    refine xx_iload_n (q := 177) rfl rfl rfl ?_
                    refine xx_iconst (q := 178) rfl rfl (by decide) ?_
                    refine xx_isubR (q := 179) rfl rfl (by omega) (by omega) ?_
                    refine xx_iload (q := 181) rfl rfl rfl ?_
                    refine xx_aload_n (q := 182) rfl rfl rfl ?_
                    refine xx_getR (q := 185) rfl rfl rfl xS_7 (Nat.le_of_ble_eq_true rfl) rfl (hR.1 7 6 rfl) ?_
                    refine xx_iload_n (q := 186) rfl rfl rfl ?_
                    refine xx_iconst (q := 187) rfl rfl (by decide) ?_
                    refine xx_isubR (q := 188) rfl rfl (by omega) (by omega) ?_
                    refine xx_iaz (v := s ((top + (-1)) - 1).toNat) (q := 189) rfl rfl xS_10 (by omega) (by omega) (hS _) ?_
                    refine xx_aload_n (q := 190) rfl rfl rfl ?_
                    refine xx_getR (q := 193) rfl rfl rfl xS_7 (Nat.le_of_ble_eq_true rfl) rfl (hR.1 7 6 rfl) ?_
                    refine xx_iload_n (q := 194) rfl rfl rfl ?_
                    refine xx_iaz (v := s (top + (-1)).toNat) (q := 195) rfl rfl xS_10 (by omega) (by omega) (hS _) ?_
                    refine xx_callS (q := 198) (As := [_, _, _]) (rest := [_, _]) rfl rfl rfl (Or.inl rfl) rfl rfl (Nat.le_of_ble_eq_true rfl) (XCm (c_joined (cd (i).toNat) (s ((top + (-1)) - 1).toNat) (s (top + (-1)).toNat)) rfl) rfl ?_
                    refine xr_isz (fun d => (∀ k, d 10 k = (fset s ((top + (-1)) - 1).toNat (jnF (cd (i).toNat) (s ((top + (-1)) - 1).toNat) (s (top + (-1)).toNat))) k) ∧ ∀ b k, b ≠ 10 → d b k = D0 b k) (q := 199) rfl rfl xS_10 (by omega) (by omega) ⟨fun k => by rw [xui_f]; unfold fset; rw [hS k], fun b k hb => (xui_a hb).trans (hF b k hb)⟩ (fun D4 hD4 => ?_)
                    refine xx_incz (q := 202) (loc2 := [_, _, _, _, _, _]) rfl rfl rfl (by omega) (by omega) rfl rfl ?_
                    refine xx_goto (q := 5) rfl rfl ?_
                    rw [ansL.eq_2, if_neg (fun q => q (by omega)), if_neg (by omega), if_neg (by omega), if_neg (fun q => by exact h77 q.1), if_neg (fun q => by exact h98 q.1), if_neg (fun q => by omega), if_pos (by omega)]
                    exact ih k (by omega) _ _ _ _ _ (hD4.1) (hD4.2) (by omega) (by omega) (by omega) (by omega)
                · refine xx_aload_n (q := 140) rfl rfl rfl ?_
                  refine xx_getR (q := 143) rfl rfl rfl xS_7 (Nat.le_of_ble_eq_true rfl) rfl (hR.1 7 6 rfl) ?_
                  refine xx_iload_n (q := 144) rfl rfl rfl ?_
                  refine xx_iconst (q := 145) rfl rfl (by decide) ?_
                  refine xx_isubR (q := 146) rfl rfl (by omega) (by omega) ?_
                  refine xx_iaz (v := s (top - 1).toNat) (q := 147) rfl rfl xS_10 (by omega) (by omega) (hS _) ?_
                  refine xx_if_eq (q := 159) (q2 := 150) rfl rfl rfl (fun h147 => ?_) (fun h147 => ?_)
                  · refine xx_iconst (q := 160) rfl rfl (by decide) ?_
                    refine xx_istore_n (q := 161) (loc2 := [_, _, _, _, _, _]) rfl rfl (Nat.le_of_ble_eq_true rfl) rfl ?_
                    refine xx_goto (q := 199) rfl rfl ?_
                    refine xx_incz (q := 202) (loc2 := [_, _, _, _, _, _]) rfl rfl rfl (by omega) (by omega) rfl rfl ?_
                    refine xx_goto (q := 5) rfl rfl ?_
                    rw [ansL.eq_2, if_neg (fun q => q (by omega)), if_neg (by omega), if_neg (by omega), if_neg (fun q => by exact h77 q.1), if_neg (fun q => by exact h98 q.1), if_pos ⟨h131, by omega⟩, if_pos h147]
                    exact ih k (by omega) _ _ _ _ _ (hS) (hF) (by omega) (by omega) (by omega) (by omega)
                  · refine xx_aload_n (q := 151) rfl rfl rfl ?_
                    refine xx_getR (q := 154) rfl rfl rfl xS_7 (Nat.le_of_ble_eq_true rfl) rfl (hR.1 7 6 rfl) ?_
                    refine xx_iload_n (q := 155) rfl rfl rfl ?_
                    refine xx_iconst (q := 156) rfl rfl (by decide) ?_
                    refine xx_isubR (q := 157) rfl rfl (by omega) (by omega) ?_
                    refine xx_iaz (v := s (top - 2).toNat) (q := 158) rfl rfl xS_10 (by omega) (by omega) (hS _) ?_
                    rw [ansL.eq_2, if_neg (fun q => q (by omega)), if_neg (by omega), if_neg (by omega), if_neg (fun q => by exact h77 q.1), if_neg (fun q => by exact h98 q.1), if_pos ⟨h131, by omega⟩, if_neg h147]
                    exact xx_iret rfl trivial ⟨rfl, _, rfl, hF⟩
            · refine xx_iload_n (q := 102) rfl rfl rfl ?_
              refine xx_iconst (q := 103) rfl rfl (by decide) ?_
              refine xx_icmp_lt (q := 127) (q2 := 106) rfl rfl rfl (fun h103 => ?_) (fun h103 => ?_)
              · refine xx_iload (q := 129) rfl rfl rfl ?_
                refine xx_bipush (q := 131) rfl rfl (by decide) ?_
                refine xx_icmp_ne (q := 164) (q2 := 134) rfl rfl rfl (fun h131 => ?_) (fun h131 => ?_)
                · refine xx_iload_n (q := 165) rfl rfl rfl ?_
                  refine xx_iconst (q := 166) rfl rfl (by decide) ?_
                  refine xx_icmp_lt (q := 199) (q2 := 169) rfl rfl rfl (fun h166 => ?_) (fun h166 => ?_)
                  · refine xx_incz (q := 202) (loc2 := [_, _, _, _, _, _]) rfl rfl rfl (by omega) (by omega) rfl rfl ?_
                    refine xx_goto (q := 5) rfl rfl ?_
                    rw [ansL.eq_2, if_neg (fun q => q (by omega)), if_neg (by omega), if_neg (by omega), if_neg (fun q => by exact h77 q.1), if_neg (fun q => by omega), if_neg (fun q => by exact h131 q.1), if_neg (by omega)]
                    exact ih k (by omega) _ _ _ _ _ (hS) (hF) (by omega) (by omega) (by omega) (by omega)
                  · refine xx_incz (q := 172) (loc2 := [_, _, _, _, _, _]) rfl rfl rfl (by omega) (by omega) rfl rfl ?_
                    refine xx_aload_n (q := 173) rfl rfl rfl ?_
                    refine xx_getR (q := 176) rfl rfl rfl xS_7 (Nat.le_of_ble_eq_true rfl) rfl (hR.1 7 6 rfl) ?_
                    refine xx_iload_n (q := 177) rfl rfl rfl ?_
                    refine xx_iconst (q := 178) rfl rfl (by decide) ?_
                    refine xx_isubR (q := 179) rfl rfl (by omega) (by omega) ?_
                    refine xx_iload (q := 181) rfl rfl rfl ?_
                    refine xx_aload_n (q := 182) rfl rfl rfl ?_
                    refine xx_getR (q := 185) rfl rfl rfl xS_7 (Nat.le_of_ble_eq_true rfl) rfl (hR.1 7 6 rfl) ?_
                    refine xx_iload_n (q := 186) rfl rfl rfl ?_
                    refine xx_iconst (q := 187) rfl rfl (by decide) ?_
                    refine xx_isubR (q := 188) rfl rfl (by omega) (by omega) ?_
                    refine xx_iaz (v := s ((top + (-1)) - 1).toNat) (q := 189) rfl rfl xS_10 (by omega) (by omega) (hS _) ?_
                    refine xx_aload_n (q := 190) rfl rfl rfl ?_
                    refine xx_getR (q := 193) rfl rfl rfl xS_7 (Nat.le_of_ble_eq_true rfl) rfl (hR.1 7 6 rfl) ?_
                    refine xx_iload_n (q := 194) rfl rfl rfl ?_
                    refine xx_iaz (v := s (top + (-1)).toNat) (q := 195) rfl rfl xS_10 (by omega) (by omega) (hS _) ?_
                    refine xx_callS (q := 198) (As := [_, _, _]) (rest := [_, _]) rfl rfl rfl (Or.inl rfl) rfl rfl (Nat.le_of_ble_eq_true rfl) (XCm (c_joined (cd (i).toNat) (s ((top + (-1)) - 1).toNat) (s (top + (-1)).toNat)) rfl) rfl ?_
                    refine xr_isz (fun d => (∀ k, d 10 k = (fset s ((top + (-1)) - 1).toNat (jnF (cd (i).toNat) (s ((top + (-1)) - 1).toNat) (s (top + (-1)).toNat))) k) ∧ ∀ b k, b ≠ 10 → d b k = D0 b k) (q := 199) rfl rfl xS_10 (by omega) (by omega) ⟨fun k => by rw [xui_f]; unfold fset; rw [hS k], fun b k hb => (xui_a hb).trans (hF b k hb)⟩ (fun D6 hD6 => ?_)
                    refine xx_incz (q := 202) (loc2 := [_, _, _, _, _, _]) rfl rfl rfl (by omega) (by omega) rfl rfl ?_
                    refine xx_goto (q := 5) rfl rfl ?_
                    rw [ansL.eq_2, if_neg (fun q => q (by omega)), if_neg (by omega), if_neg (by omega), if_neg (fun q => by exact h77 q.1), if_neg (fun q => by omega), if_neg (fun q => by exact h131 q.1), if_pos (by omega)]
                    exact ih k (by omega) _ _ _ _ _ (hD6.1) (hD6.2) (by omega) (by omega) (by omega) (by omega)
                · refine xx_iload_n (q := 135) rfl rfl rfl ?_
                  refine xx_iconst (q := 136) rfl rfl (by decide) ?_
                  refine xx_icmp_lt (q := 164) (q2 := 139) rfl rfl rfl (fun h136 => ?_) (fun h136 => ?_)
                  · refine xx_iload_n (q := 165) rfl rfl rfl ?_
                    refine xx_iconst (q := 166) rfl rfl (by decide) ?_
                    refine xx_icmp_lt (q := 199) (q2 := 169) rfl rfl rfl (fun h166 => ?_) (fun h166 => ?_)
                    · refine xx_incz (q := 202) (loc2 := [_, _, _, _, _, _]) rfl rfl rfl (by omega) (by omega) rfl rfl ?_
                      refine xx_goto (q := 5) rfl rfl ?_
                      rw [ansL.eq_2, if_neg (fun q => q (by omega)), if_neg (by omega), if_neg (by omega), if_neg (fun q => by exact h77 q.1), if_neg (fun q => by omega), if_neg (fun q => by omega), if_neg (by omega)]
                      exact ih k (by omega) _ _ _ _ _ (hS) (hF) (by omega) (by omega) (by omega) (by omega)
                    · refine xx_incz (q := 172) (loc2 := [_, _, _, _, _, _]) rfl rfl rfl (by omega) (by omega) rfl rfl ?_
                      refine xx_aload_n (q := 173) rfl rfl rfl ?_
                      refine xx_getR (q := 176) rfl rfl rfl xS_7 (Nat.le_of_ble_eq_true rfl) rfl (hR.1 7 6 rfl) ?_
                      refine xx_iload_n (q := 177) rfl rfl rfl ?_
                      refine xx_iconst (q := 178) rfl rfl (by decide) ?_
                      refine xx_isubR (q := 179) rfl rfl (by omega) (by omega) ?_
                      refine xx_iload (q := 181) rfl rfl rfl ?_
                      refine xx_aload_n (q := 182) rfl rfl rfl ?_
                      refine xx_getR (q := 185) rfl rfl rfl xS_7 (Nat.le_of_ble_eq_true rfl) rfl (hR.1 7 6 rfl) ?_
                      refine xx_iload_n (q := 186) rfl rfl rfl ?_
                      refine xx_iconst (q := 187) rfl rfl (by decide) ?_
                      refine xx_isubR (q := 188) rfl rfl (by omega) (by omega) ?_
                      refine xx_iaz (v := s ((top + (-1)) - 1).toNat) (q := 189) rfl rfl xS_10 (by omega) (by omega) (hS _) ?_
                      refine xx_aload_n (q := 190) rfl rfl rfl ?_
                      refine xx_getR (q := 193) rfl rfl rfl xS_7 (Nat.le_of_ble_eq_true rfl) rfl (hR.1 7 6 rfl) ?_
                      refine xx_iload_n (q := 194) rfl rfl rfl ?_
                      refine xx_iaz (v := s (top + (-1)).toNat) (q := 195) rfl rfl xS_10 (by omega) (by omega) (hS _) ?_
                      refine xx_callS (q := 198) (As := [_, _, _]) (rest := [_, _]) rfl rfl rfl (Or.inl rfl) rfl rfl (Nat.le_of_ble_eq_true rfl) (XCm (c_joined (cd (i).toNat) (s ((top + (-1)) - 1).toNat) (s (top + (-1)).toNat)) rfl) rfl ?_
                      refine xr_isz (fun d => (∀ k, d 10 k = (fset s ((top + (-1)) - 1).toNat (jnF (cd (i).toNat) (s ((top + (-1)) - 1).toNat) (s (top + (-1)).toNat))) k) ∧ ∀ b k, b ≠ 10 → d b k = D0 b k) (q := 199) rfl rfl xS_10 (by omega) (by omega) ⟨fun k => by rw [xui_f]; unfold fset; rw [hS k], fun b k hb => (xui_a hb).trans (hF b k hb)⟩ (fun D8 hD8 => ?_)
                      refine xx_incz (q := 202) (loc2 := [_, _, _, _, _, _]) rfl rfl rfl (by omega) (by omega) rfl rfl ?_
                      refine xx_goto (q := 5) rfl rfl ?_
                      rw [ansL.eq_2, if_neg (fun q => q (by omega)), if_neg (by omega), if_neg (by omega), if_neg (fun q => by exact h77 q.1), if_neg (fun q => by omega), if_neg (fun q => by omega), if_pos (by omega)]
                      exact ih k (by omega) _ _ _ _ _ (hD8.1) (hD8.2) (by omega) (by omega) (by omega) (by omega)
                  · refine xx_aload_n (q := 140) rfl rfl rfl ?_
                    refine xx_getR (q := 143) rfl rfl rfl xS_7 (Nat.le_of_ble_eq_true rfl) rfl (hR.1 7 6 rfl) ?_
                    refine xx_iload_n (q := 144) rfl rfl rfl ?_
                    refine xx_iconst (q := 145) rfl rfl (by decide) ?_
                    refine xx_isubR (q := 146) rfl rfl (by omega) (by omega) ?_
                    refine xx_iaz (v := s (top - 1).toNat) (q := 147) rfl rfl xS_10 (by omega) (by omega) (hS _) ?_
                    refine xx_if_eq (q := 159) (q2 := 150) rfl rfl rfl (fun h147 => ?_) (fun h147 => ?_)
                    · refine xx_iconst (q := 160) rfl rfl (by decide) ?_
                      refine xx_istore_n (q := 161) (loc2 := [_, _, _, _, _, _]) rfl rfl (Nat.le_of_ble_eq_true rfl) rfl ?_
                      refine xx_goto (q := 199) rfl rfl ?_
                      refine xx_incz (q := 202) (loc2 := [_, _, _, _, _, _]) rfl rfl rfl (by omega) (by omega) rfl rfl ?_
                      refine xx_goto (q := 5) rfl rfl ?_
                      rw [ansL.eq_2, if_neg (fun q => q (by omega)), if_neg (by omega), if_neg (by omega), if_neg (fun q => by exact h77 q.1), if_neg (fun q => by omega), if_pos ⟨h131, by omega⟩, if_pos h147]
                      exact ih k (by omega) _ _ _ _ _ (hS) (hF) (by omega) (by omega) (by omega) (by omega)
                    · refine xx_aload_n (q := 151) rfl rfl rfl ?_
                      refine xx_getR (q := 154) rfl rfl rfl xS_7 (Nat.le_of_ble_eq_true rfl) rfl (hR.1 7 6 rfl) ?_
                      refine xx_iload_n (q := 155) rfl rfl rfl ?_
                      refine xx_iconst (q := 156) rfl rfl (by decide) ?_
                      refine xx_isubR (q := 157) rfl rfl (by omega) (by omega) ?_
                      refine xx_iaz (v := s (top - 2).toNat) (q := 158) rfl rfl xS_10 (by omega) (by omega) (hS _) ?_
                      rw [ansL.eq_2, if_neg (fun q => q (by omega)), if_neg (by omega), if_neg (by omega), if_neg (fun q => by exact h77 q.1), if_neg (fun q => by omega), if_pos ⟨h131, by omega⟩, if_neg h147]
                      exact xx_iret rfl trivial ⟨rfl, _, rfl, hF⟩
              · refine xx_aload_n (q := 107) rfl rfl rfl ?_
                refine xx_getR (q := 110) rfl rfl rfl xS_7 (Nat.le_of_ble_eq_true rfl) rfl (hR.1 7 6 rfl) ?_
                refine xx_iload_n (q := 111) rfl rfl rfl ?_
                refine xx_iconst (q := 112) rfl rfl (by decide) ?_
                refine xx_isubR (q := 113) rfl rfl (by omega) (by omega) ?_
                refine xx_iconst (q := 114) rfl rfl (by decide) ?_
                refine xx_aload_n (q := 115) rfl rfl rfl ?_
                refine xx_getR (q := 118) rfl rfl rfl xS_7 (Nat.le_of_ble_eq_true rfl) rfl (hR.1 7 6 rfl) ?_
                refine xx_iload_n (q := 119) rfl rfl rfl ?_
                refine xx_iconst (q := 120) rfl rfl (by decide) ?_
                refine xx_isubR (q := 121) rfl rfl (by omega) (by omega) ?_
                refine xx_iaz (v := s (top - 1).toNat) (q := 122) rfl rfl xS_10 (by omega) (by omega) (hS _) ?_
                refine xx_isub (q := 123) rfl rfl ?_
                refine xr_isz (fun d => (∀ k, d 10 k = (fset s (top - 1).toNat (nrm (1 - (s (top - 1).toNat)))) k) ∧ ∀ b k, b ≠ 10 → d b k = D0 b k) (q := 124) rfl rfl xS_10 (by omega) (by omega) ⟨fun k => by rw [xui_f]; unfold fset; rw [hS k], fun b k hb => (xui_a hb).trans (hF b k hb)⟩ (fun D10 hD10 => ?_)
                refine xx_goto (q := 199) rfl rfl ?_
                refine xx_incz (q := 202) (loc2 := [_, _, _, _, _, _]) rfl rfl rfl (by omega) (by omega) rfl rfl ?_
                refine xx_goto (q := 5) rfl rfl ?_
                rw [ansL.eq_2, if_neg (fun q => q (by omega)), if_neg (by omega), if_neg (by omega), if_neg (fun q => by exact h77 q.1), if_pos ⟨h98, by omega⟩]
                exact ih k (by omega) _ _ _ _ _ (hD10.1) (hD10.2) (by omega) (by omega) (by omega) (by omega)
          · refine xx_iload_n (q := 81) rfl rfl rfl ?_
            refine xx_iconst (q := 82) rfl rfl (by decide) ?_
            refine xx_icmp_lt (q := 94) (q2 := 85) rfl rfl rfl (fun h82 => ?_) (fun h82 => ?_)
            · refine xx_iload (q := 96) rfl rfl rfl ?_
              refine xx_bipush (q := 98) rfl rfl (by decide) ?_
              refine xx_icmp_ne (q := 127) (q2 := 101) rfl rfl rfl (fun h98 => ?_) (fun h98 => ?_)
              · refine xx_iload (q := 129) rfl rfl rfl ?_
                refine xx_bipush (q := 131) rfl rfl (by decide) ?_
                refine xx_icmp_ne (q := 164) (q2 := 134) rfl rfl rfl (fun h131 => ?_) (fun h131 => ?_)
                · refine xx_iload_n (q := 165) rfl rfl rfl ?_
                  refine xx_iconst (q := 166) rfl rfl (by decide) ?_
                  refine xx_icmp_lt (q := 199) (q2 := 169) rfl rfl rfl (fun h166 => ?_) (fun h166 => ?_)
                  · refine xx_incz (q := 202) (loc2 := [_, _, _, _, _, _]) rfl rfl rfl (by omega) (by omega) rfl rfl ?_
                    refine xx_goto (q := 5) rfl rfl ?_
                    rw [ansL.eq_2, if_neg (fun q => q (by omega)), if_neg (by omega), if_neg (by omega), if_neg (fun q => by omega), if_neg (fun q => by exact h98 q.1), if_neg (fun q => by exact h131 q.1), if_neg (by omega)]
                    exact ih k (by omega) _ _ _ _ _ (hS) (hF) (by omega) (by omega) (by omega) (by omega)
                  · refine xx_incz (q := 172) (loc2 := [_, _, _, _, _, _]) rfl rfl rfl (by omega) (by omega) rfl rfl ?_
                    refine xx_aload_n (q := 173) rfl rfl rfl ?_
                    refine xx_getR (q := 176) rfl rfl rfl xS_7 (Nat.le_of_ble_eq_true rfl) rfl (hR.1 7 6 rfl) ?_
                    refine xx_iload_n (q := 177) rfl rfl rfl ?_
                    refine xx_iconst (q := 178) rfl rfl (by decide) ?_
                    refine xx_isubR (q := 179) rfl rfl (by omega) (by omega) ?_
                    refine xx_iload (q := 181) rfl rfl rfl ?_
                    refine xx_aload_n (q := 182) rfl rfl rfl ?_
                    refine xx_getR (q := 185) rfl rfl rfl xS_7 (Nat.le_of_ble_eq_true rfl) rfl (hR.1 7 6 rfl) ?_
                    refine xx_iload_n (q := 186) rfl rfl rfl ?_
                    refine xx_iconst (q := 187) rfl rfl (by decide) ?_
                    refine xx_isubR (q := 188) rfl rfl (by omega) (by omega) ?_
                    refine xx_iaz (v := s ((top + (-1)) - 1).toNat) (q := 189) rfl rfl xS_10 (by omega) (by omega) (hS _) ?_
                    refine xx_aload_n (q := 190) rfl rfl rfl ?_
                    refine xx_getR (q := 193) rfl rfl rfl xS_7 (Nat.le_of_ble_eq_true rfl) rfl (hR.1 7 6 rfl) ?_
                    refine xx_iload_n (q := 194) rfl rfl rfl ?_
                    refine xx_iaz (v := s (top + (-1)).toNat) (q := 195) rfl rfl xS_10 (by omega) (by omega) (hS _) ?_
                    refine xx_callS (q := 198) (As := [_, _, _]) (rest := [_, _]) rfl rfl rfl (Or.inl rfl) rfl rfl (Nat.le_of_ble_eq_true rfl) (XCm (c_joined (cd (i).toNat) (s ((top + (-1)) - 1).toNat) (s (top + (-1)).toNat)) rfl) rfl ?_
                    refine xr_isz (fun d => (∀ k, d 10 k = (fset s ((top + (-1)) - 1).toNat (jnF (cd (i).toNat) (s ((top + (-1)) - 1).toNat) (s (top + (-1)).toNat))) k) ∧ ∀ b k, b ≠ 10 → d b k = D0 b k) (q := 199) rfl rfl xS_10 (by omega) (by omega) ⟨fun k => by rw [xui_f]; unfold fset; rw [hS k], fun b k hb => (xui_a hb).trans (hF b k hb)⟩ (fun D12 hD12 => ?_)
                    refine xx_incz (q := 202) (loc2 := [_, _, _, _, _, _]) rfl rfl rfl (by omega) (by omega) rfl rfl ?_
                    refine xx_goto (q := 5) rfl rfl ?_
                    rw [ansL.eq_2, if_neg (fun q => q (by omega)), if_neg (by omega), if_neg (by omega), if_neg (fun q => by omega), if_neg (fun q => by exact h98 q.1), if_neg (fun q => by exact h131 q.1), if_pos (by omega)]
                    exact ih k (by omega) _ _ _ _ _ (hD12.1) (hD12.2) (by omega) (by omega) (by omega) (by omega)
                · refine xx_iload_n (q := 135) rfl rfl rfl ?_
                  refine xx_iconst (q := 136) rfl rfl (by decide) ?_
                  refine xx_icmp_lt (q := 164) (q2 := 139) rfl rfl rfl (fun h136 => ?_) (fun h136 => ?_)
                  · refine xx_iload_n (q := 165) rfl rfl rfl ?_
                    refine xx_iconst (q := 166) rfl rfl (by decide) ?_
                    refine xx_icmp_lt (q := 199) (q2 := 169) rfl rfl rfl (fun h166 => ?_) (fun h166 => ?_)
                    · refine xx_incz (q := 202) (loc2 := [_, _, _, _, _, _]) rfl rfl rfl (by omega) (by omega) rfl rfl ?_
                      refine xx_goto (q := 5) rfl rfl ?_
                      rw [ansL.eq_2, if_neg (fun q => q (by omega)), if_neg (by omega), if_neg (by omega), if_neg (fun q => by omega), if_neg (fun q => by exact h98 q.1), if_neg (fun q => by omega), if_neg (by omega)]
                      exact ih k (by omega) _ _ _ _ _ (hS) (hF) (by omega) (by omega) (by omega) (by omega)
                    · refine xx_incz (q := 172) (loc2 := [_, _, _, _, _, _]) rfl rfl rfl (by omega) (by omega) rfl rfl ?_
                      refine xx_aload_n (q := 173) rfl rfl rfl ?_
                      refine xx_getR (q := 176) rfl rfl rfl xS_7 (Nat.le_of_ble_eq_true rfl) rfl (hR.1 7 6 rfl) ?_
                      refine xx_iload_n (q := 177) rfl rfl rfl ?_
                      refine xx_iconst (q := 178) rfl rfl (by decide) ?_
                      refine xx_isubR (q := 179) rfl rfl (by omega) (by omega) ?_
                      refine xx_iload (q := 181) rfl rfl rfl ?_
                      refine xx_aload_n (q := 182) rfl rfl rfl ?_
                      refine xx_getR (q := 185) rfl rfl rfl xS_7 (Nat.le_of_ble_eq_true rfl) rfl (hR.1 7 6 rfl) ?_
                      refine xx_iload_n (q := 186) rfl rfl rfl ?_
                      refine xx_iconst (q := 187) rfl rfl (by decide) ?_
                      refine xx_isubR (q := 188) rfl rfl (by omega) (by omega) ?_
                      refine xx_iaz (v := s ((top + (-1)) - 1).toNat) (q := 189) rfl rfl xS_10 (by omega) (by omega) (hS _) ?_
                      refine xx_aload_n (q := 190) rfl rfl rfl ?_
                      refine xx_getR (q := 193) rfl rfl rfl xS_7 (Nat.le_of_ble_eq_true rfl) rfl (hR.1 7 6 rfl) ?_
                      refine xx_iload_n (q := 194) rfl rfl rfl ?_
                      refine xx_iaz (v := s (top + (-1)).toNat) (q := 195) rfl rfl xS_10 (by omega) (by omega) (hS _) ?_
                      refine xx_callS (q := 198) (As := [_, _, _]) (rest := [_, _]) rfl rfl rfl (Or.inl rfl) rfl rfl (Nat.le_of_ble_eq_true rfl) (XCm (c_joined (cd (i).toNat) (s ((top + (-1)) - 1).toNat) (s (top + (-1)).toNat)) rfl) rfl ?_
                      refine xr_isz (fun d => (∀ k, d 10 k = (fset s ((top + (-1)) - 1).toNat (jnF (cd (i).toNat) (s ((top + (-1)) - 1).toNat) (s (top + (-1)).toNat))) k) ∧ ∀ b k, b ≠ 10 → d b k = D0 b k) (q := 199) rfl rfl xS_10 (by omega) (by omega) ⟨fun k => by rw [xui_f]; unfold fset; rw [hS k], fun b k hb => (xui_a hb).trans (hF b k hb)⟩ (fun D14 hD14 => ?_)
                      refine xx_incz (q := 202) (loc2 := [_, _, _, _, _, _]) rfl rfl rfl (by omega) (by omega) rfl rfl ?_
                      refine xx_goto (q := 5) rfl rfl ?_
                      rw [ansL.eq_2, if_neg (fun q => q (by omega)), if_neg (by omega), if_neg (by omega), if_neg (fun q => by omega), if_neg (fun q => by exact h98 q.1), if_neg (fun q => by omega), if_pos (by omega)]
                      exact ih k (by omega) _ _ _ _ _ (hD14.1) (hD14.2) (by omega) (by omega) (by omega) (by omega)
                  · refine xx_aload_n (q := 140) rfl rfl rfl ?_
                    refine xx_getR (q := 143) rfl rfl rfl xS_7 (Nat.le_of_ble_eq_true rfl) rfl (hR.1 7 6 rfl) ?_
                    refine xx_iload_n (q := 144) rfl rfl rfl ?_
                    refine xx_iconst (q := 145) rfl rfl (by decide) ?_
                    refine xx_isubR (q := 146) rfl rfl (by omega) (by omega) ?_
                    refine xx_iaz (v := s (top - 1).toNat) (q := 147) rfl rfl xS_10 (by omega) (by omega) (hS _) ?_
                    refine xx_if_eq (q := 159) (q2 := 150) rfl rfl rfl (fun h147 => ?_) (fun h147 => ?_)
                    · refine xx_iconst (q := 160) rfl rfl (by decide) ?_
                      refine xx_istore_n (q := 161) (loc2 := [_, _, _, _, _, _]) rfl rfl (Nat.le_of_ble_eq_true rfl) rfl ?_
                      refine xx_goto (q := 199) rfl rfl ?_
                      refine xx_incz (q := 202) (loc2 := [_, _, _, _, _, _]) rfl rfl rfl (by omega) (by omega) rfl rfl ?_
                      refine xx_goto (q := 5) rfl rfl ?_
                      rw [ansL.eq_2, if_neg (fun q => q (by omega)), if_neg (by omega), if_neg (by omega), if_neg (fun q => by omega), if_neg (fun q => by exact h98 q.1), if_pos ⟨h131, by omega⟩, if_pos h147]
                      exact ih k (by omega) _ _ _ _ _ (hS) (hF) (by omega) (by omega) (by omega) (by omega)
                    · refine xx_aload_n (q := 151) rfl rfl rfl ?_
                      refine xx_getR (q := 154) rfl rfl rfl xS_7 (Nat.le_of_ble_eq_true rfl) rfl (hR.1 7 6 rfl) ?_
                      refine xx_iload_n (q := 155) rfl rfl rfl ?_
                      refine xx_iconst (q := 156) rfl rfl (by decide) ?_
                      refine xx_isubR (q := 157) rfl rfl (by omega) (by omega) ?_
                      refine xx_iaz (v := s (top - 2).toNat) (q := 158) rfl rfl xS_10 (by omega) (by omega) (hS _) ?_
                      rw [ansL.eq_2, if_neg (fun q => q (by omega)), if_neg (by omega), if_neg (by omega), if_neg (fun q => by omega), if_neg (fun q => by exact h98 q.1), if_pos ⟨h131, by omega⟩, if_neg h147]
                      exact xx_iret rfl trivial ⟨rfl, _, rfl, hF⟩
              · refine xx_iload_n (q := 102) rfl rfl rfl ?_
                refine xx_iconst (q := 103) rfl rfl (by decide) ?_
                refine xx_icmp_lt (q := 127) (q2 := 106) rfl rfl rfl (fun h103 => ?_) (fun h103 => ?_)
                · refine xx_iload (q := 129) rfl rfl rfl ?_
                  refine xx_bipush (q := 131) rfl rfl (by decide) ?_
                  refine xx_icmp_ne (q := 164) (q2 := 134) rfl rfl rfl (fun h131 => ?_) (fun h131 => ?_)
                  · refine xx_iload_n (q := 165) rfl rfl rfl ?_
                    refine xx_iconst (q := 166) rfl rfl (by decide) ?_
                    refine xx_icmp_lt (q := 199) (q2 := 169) rfl rfl rfl (fun h166 => ?_) (fun h166 => ?_)
                    · refine xx_incz (q := 202) (loc2 := [_, _, _, _, _, _]) rfl rfl rfl (by omega) (by omega) rfl rfl ?_
                      refine xx_goto (q := 5) rfl rfl ?_
                      rw [ansL.eq_2, if_neg (fun q => q (by omega)), if_neg (by omega), if_neg (by omega), if_neg (fun q => by omega), if_neg (fun q => by omega), if_neg (fun q => by exact h131 q.1), if_neg (by omega)]
                      exact ih k (by omega) _ _ _ _ _ (hS) (hF) (by omega) (by omega) (by omega) (by omega)
                    · refine xx_incz (q := 172) (loc2 := [_, _, _, _, _, _]) rfl rfl rfl (by omega) (by omega) rfl rfl ?_
                      refine xx_aload_n (q := 173) rfl rfl rfl ?_
                      refine xx_getR (q := 176) rfl rfl rfl xS_7 (Nat.le_of_ble_eq_true rfl) rfl (hR.1 7 6 rfl) ?_
                      refine xx_iload_n (q := 177) rfl rfl rfl ?_
                      refine xx_iconst (q := 178) rfl rfl (by decide) ?_
                      refine xx_isubR (q := 179) rfl rfl (by omega) (by omega) ?_
                      refine xx_iload (q := 181) rfl rfl rfl ?_
                      refine xx_aload_n (q := 182) rfl rfl rfl ?_
                      refine xx_getR (q := 185) rfl rfl rfl xS_7 (Nat.le_of_ble_eq_true rfl) rfl (hR.1 7 6 rfl) ?_
                      refine xx_iload_n (q := 186) rfl rfl rfl ?_
                      refine xx_iconst (q := 187) rfl rfl (by decide) ?_
                      refine xx_isubR (q := 188) rfl rfl (by omega) (by omega) ?_
                      refine xx_iaz (v := s ((top + (-1)) - 1).toNat) (q := 189) rfl rfl xS_10 (by omega) (by omega) (hS _) ?_
                      refine xx_aload_n (q := 190) rfl rfl rfl ?_
                      refine xx_getR (q := 193) rfl rfl rfl xS_7 (Nat.le_of_ble_eq_true rfl) rfl (hR.1 7 6 rfl) ?_
                      refine xx_iload_n (q := 194) rfl rfl rfl ?_
                      refine xx_iaz (v := s (top + (-1)).toNat) (q := 195) rfl rfl xS_10 (by omega) (by omega) (hS _) ?_
                      refine xx_callS (q := 198) (As := [_, _, _]) (rest := [_, _]) rfl rfl rfl (Or.inl rfl) rfl rfl (Nat.le_of_ble_eq_true rfl) (XCm (c_joined (cd (i).toNat) (s ((top + (-1)) - 1).toNat) (s (top + (-1)).toNat)) rfl) rfl ?_
                      refine xr_isz (fun d => (∀ k, d 10 k = (fset s ((top + (-1)) - 1).toNat (jnF (cd (i).toNat) (s ((top + (-1)) - 1).toNat) (s (top + (-1)).toNat))) k) ∧ ∀ b k, b ≠ 10 → d b k = D0 b k) (q := 199) rfl rfl xS_10 (by omega) (by omega) ⟨fun k => by rw [xui_f]; unfold fset; rw [hS k], fun b k hb => (xui_a hb).trans (hF b k hb)⟩ (fun D16 hD16 => ?_)
                      refine xx_incz (q := 202) (loc2 := [_, _, _, _, _, _]) rfl rfl rfl (by omega) (by omega) rfl rfl ?_
                      refine xx_goto (q := 5) rfl rfl ?_
                      rw [ansL.eq_2, if_neg (fun q => q (by omega)), if_neg (by omega), if_neg (by omega), if_neg (fun q => by omega), if_neg (fun q => by omega), if_neg (fun q => by exact h131 q.1), if_pos (by omega)]
                      exact ih k (by omega) _ _ _ _ _ (hD16.1) (hD16.2) (by omega) (by omega) (by omega) (by omega)
                  · refine xx_iload_n (q := 135) rfl rfl rfl ?_
                    refine xx_iconst (q := 136) rfl rfl (by decide) ?_
                    refine xx_icmp_lt (q := 164) (q2 := 139) rfl rfl rfl (fun h136 => ?_) (fun h136 => ?_)
                    · refine xx_iload_n (q := 165) rfl rfl rfl ?_
                      refine xx_iconst (q := 166) rfl rfl (by decide) ?_
                      refine xx_icmp_lt (q := 199) (q2 := 169) rfl rfl rfl (fun h166 => ?_) (fun h166 => ?_)
                      · refine xx_incz (q := 202) (loc2 := [_, _, _, _, _, _]) rfl rfl rfl (by omega) (by omega) rfl rfl ?_
                        refine xx_goto (q := 5) rfl rfl ?_
                        rw [ansL.eq_2, if_neg (fun q => q (by omega)), if_neg (by omega), if_neg (by omega), if_neg (fun q => by omega), if_neg (fun q => by omega), if_neg (fun q => by omega), if_neg (by omega)]
                        exact ih k (by omega) _ _ _ _ _ (hS) (hF) (by omega) (by omega) (by omega) (by omega)
                      · refine xx_incz (q := 172) (loc2 := [_, _, _, _, _, _]) rfl rfl rfl (by omega) (by omega) rfl rfl ?_
                        refine xx_aload_n (q := 173) rfl rfl rfl ?_
                        refine xx_getR (q := 176) rfl rfl rfl xS_7 (Nat.le_of_ble_eq_true rfl) rfl (hR.1 7 6 rfl) ?_
                        refine xx_iload_n (q := 177) rfl rfl rfl ?_
                        refine xx_iconst (q := 178) rfl rfl (by decide) ?_
                        refine xx_isubR (q := 179) rfl rfl (by omega) (by omega) ?_
                        refine xx_iload (q := 181) rfl rfl rfl ?_
                        refine xx_aload_n (q := 182) rfl rfl rfl ?_
                        refine xx_getR (q := 185) rfl rfl rfl xS_7 (Nat.le_of_ble_eq_true rfl) rfl (hR.1 7 6 rfl) ?_
                        refine xx_iload_n (q := 186) rfl rfl rfl ?_
                        refine xx_iconst (q := 187) rfl rfl (by decide) ?_
                        refine xx_isubR (q := 188) rfl rfl (by omega) (by omega) ?_
                        refine xx_iaz (v := s ((top + (-1)) - 1).toNat) (q := 189) rfl rfl xS_10 (by omega) (by omega) (hS _) ?_
                        refine xx_aload_n (q := 190) rfl rfl rfl ?_
                        refine xx_getR (q := 193) rfl rfl rfl xS_7 (Nat.le_of_ble_eq_true rfl) rfl (hR.1 7 6 rfl) ?_
                        refine xx_iload_n (q := 194) rfl rfl rfl ?_
                        refine xx_iaz (v := s (top + (-1)).toNat) (q := 195) rfl rfl xS_10 (by omega) (by omega) (hS _) ?_
                        refine xx_callS (q := 198) (As := [_, _, _]) (rest := [_, _]) rfl rfl rfl (Or.inl rfl) rfl rfl (Nat.le_of_ble_eq_true rfl) (XCm (c_joined (cd (i).toNat) (s ((top + (-1)) - 1).toNat) (s (top + (-1)).toNat)) rfl) rfl ?_
                        refine xr_isz (fun d => (∀ k, d 10 k = (fset s ((top + (-1)) - 1).toNat (jnF (cd (i).toNat) (s ((top + (-1)) - 1).toNat) (s (top + (-1)).toNat))) k) ∧ ∀ b k, b ≠ 10 → d b k = D0 b k) (q := 199) rfl rfl xS_10 (by omega) (by omega) ⟨fun k => by rw [xui_f]; unfold fset; rw [hS k], fun b k hb => (xui_a hb).trans (hF b k hb)⟩ (fun D18 hD18 => ?_)
                        refine xx_incz (q := 202) (loc2 := [_, _, _, _, _, _]) rfl rfl rfl (by omega) (by omega) rfl rfl ?_
                        refine xx_goto (q := 5) rfl rfl ?_
                        rw [ansL.eq_2, if_neg (fun q => q (by omega)), if_neg (by omega), if_neg (by omega), if_neg (fun q => by omega), if_neg (fun q => by omega), if_neg (fun q => by omega), if_pos (by omega)]
                        exact ih k (by omega) _ _ _ _ _ (hD18.1) (hD18.2) (by omega) (by omega) (by omega) (by omega)
                    · refine xx_aload_n (q := 140) rfl rfl rfl ?_
                      refine xx_getR (q := 143) rfl rfl rfl xS_7 (Nat.le_of_ble_eq_true rfl) rfl (hR.1 7 6 rfl) ?_
                      refine xx_iload_n (q := 144) rfl rfl rfl ?_
                      refine xx_iconst (q := 145) rfl rfl (by decide) ?_
                      refine xx_isubR (q := 146) rfl rfl (by omega) (by omega) ?_
                      refine xx_iaz (v := s (top - 1).toNat) (q := 147) rfl rfl xS_10 (by omega) (by omega) (hS _) ?_
                      refine xx_if_eq (q := 159) (q2 := 150) rfl rfl rfl (fun h147 => ?_) (fun h147 => ?_)
                      · refine xx_iconst (q := 160) rfl rfl (by decide) ?_
                        refine xx_istore_n (q := 161) (loc2 := [_, _, _, _, _, _]) rfl rfl (Nat.le_of_ble_eq_true rfl) rfl ?_
                        refine xx_goto (q := 199) rfl rfl ?_
                        refine xx_incz (q := 202) (loc2 := [_, _, _, _, _, _]) rfl rfl rfl (by omega) (by omega) rfl rfl ?_
                        refine xx_goto (q := 5) rfl rfl ?_
                        rw [ansL.eq_2, if_neg (fun q => q (by omega)), if_neg (by omega), if_neg (by omega), if_neg (fun q => by omega), if_neg (fun q => by omega), if_pos ⟨h131, by omega⟩, if_pos h147]
                        exact ih k (by omega) _ _ _ _ _ (hS) (hF) (by omega) (by omega) (by omega) (by omega)
                      · refine xx_aload_n (q := 151) rfl rfl rfl ?_
                        refine xx_getR (q := 154) rfl rfl rfl xS_7 (Nat.le_of_ble_eq_true rfl) rfl (hR.1 7 6 rfl) ?_
                        refine xx_iload_n (q := 155) rfl rfl rfl ?_
                        refine xx_iconst (q := 156) rfl rfl (by decide) ?_
                        refine xx_isubR (q := 157) rfl rfl (by omega) (by omega) ?_
                        refine xx_iaz (v := s (top - 2).toNat) (q := 158) rfl rfl xS_10 (by omega) (by omega) (hS _) ?_
                        rw [ansL.eq_2, if_neg (fun q => q (by omega)), if_neg (by omega), if_neg (by omega), if_neg (fun q => by omega), if_neg (fun q => by omega), if_pos ⟨h131, by omega⟩, if_neg h147]
                        exact xx_iret rfl trivial ⟨rfl, _, rfl, hF⟩
                · refine xx_aload_n (q := 107) rfl rfl rfl ?_
                  refine xx_getR (q := 110) rfl rfl rfl xS_7 (Nat.le_of_ble_eq_true rfl) rfl (hR.1 7 6 rfl) ?_
                  refine xx_iload_n (q := 111) rfl rfl rfl ?_
                  refine xx_iconst (q := 112) rfl rfl (by decide) ?_
                  refine xx_isubR (q := 113) rfl rfl (by omega) (by omega) ?_
                  refine xx_iconst (q := 114) rfl rfl (by decide) ?_
                  refine xx_aload_n (q := 115) rfl rfl rfl ?_
                  refine xx_getR (q := 118) rfl rfl rfl xS_7 (Nat.le_of_ble_eq_true rfl) rfl (hR.1 7 6 rfl) ?_
                  refine xx_iload_n (q := 119) rfl rfl rfl ?_
                  refine xx_iconst (q := 120) rfl rfl (by decide) ?_
                  refine xx_isubR (q := 121) rfl rfl (by omega) (by omega) ?_
                  refine xx_iaz (v := s (top - 1).toNat) (q := 122) rfl rfl xS_10 (by omega) (by omega) (hS _) ?_
                  refine xx_isub (q := 123) rfl rfl ?_
                  refine xr_isz (fun d => (∀ k, d 10 k = (fset s (top - 1).toNat (nrm (1 - (s (top - 1).toNat)))) k) ∧ ∀ b k, b ≠ 10 → d b k = D0 b k) (q := 124) rfl rfl xS_10 (by omega) (by omega) ⟨fun k => by rw [xui_f]; unfold fset; rw [hS k], fun b k hb => (xui_a hb).trans (hF b k hb)⟩ (fun D20 hD20 => ?_)
                  refine xx_goto (q := 199) rfl rfl ?_
                  refine xx_incz (q := 202) (loc2 := [_, _, _, _, _, _]) rfl rfl rfl (by omega) (by omega) rfl rfl ?_
                  refine xx_goto (q := 5) rfl rfl ?_
                  rw [ansL.eq_2, if_neg (fun q => q (by omega)), if_neg (by omega), if_neg (by omega), if_neg (fun q => by omega), if_pos ⟨h98, by omega⟩]
                  exact ih k (by omega) _ _ _ _ _ (hD20.1) (hD20.2) (by omega) (by omega) (by omega) (by omega)
            · refine xx_aload_n (q := 86) rfl rfl rfl ?_
              refine xx_getR (q := 89) rfl rfl rfl xS_7 (Nat.le_of_ble_eq_true rfl) rfl (hR.1 7 6 rfl) ?_
              refine xx_iload_n (q := 90) rfl rfl rfl ?_
              refine xx_iconst (q := 91) rfl rfl (by decide) ?_
              refine xx_isubR (q := 92) rfl rfl (by omega) (by omega) ?_
              refine xx_iaz (v := s (top - 1).toNat) (q := 93) rfl rfl xS_10 (by omega) (by omega) (hS _) ?_
              rw [ansL.eq_2, if_neg (fun q => q (by omega)), if_neg (by omega), if_neg (by omega), if_pos ⟨h77, by omega⟩]
              exact xx_iret rfl trivial ⟨rfl, _, rfl, hF⟩
        · refine xx_aload_n (q := 56) rfl rfl rfl ?_
          refine xx_getR (q := 59) rfl rfl rfl xS_7 (Nat.le_of_ble_eq_true rfl) rfl (hR.1 7 6 rfl) ?_
          refine xx_iload_n (q := 60) rfl rfl rfl ?_
          refine xx_incz (q := 63) (loc2 := [_, _, _, _, _, _]) rfl rfl rfl (by omega) (by omega) rfl rfl ?_
          refine xx_aload_n (q := 64) rfl rfl rfl ?_
          refine xx_iconst (q := 65) rfl rfl (by decide) ?_
          refine xx_iload (q := 67) rfl rfl rfl ?_
          refine xx_isubR (q := 68) rfl rfl (by omega) (by omega) ?_
          refine xx_iaz (v := f ((-1) - (cd (i).toNat)).toNat) (q := 69) rfl rfl (xSc_18 hc) (by omega) (by omega) ((hF _ _ (by have := isC_gt hc; omega)).trans (hf _ (hrl1 (by omega) (by omega)))) ?_
          refine xr_isz (fun d => (∀ k, d 10 k = (fset s (top).toNat (f ((-1) - (cd (i).toNat)).toNat)) k) ∧ ∀ b k, b ≠ 10 → d b k = D0 b k) (q := 70) rfl rfl xS_10 (by omega) (by omega) ⟨fun k => by rw [xui_f]; unfold fset; rw [hS k], fun b k hb => (xui_a hb).trans (hF b k hb)⟩ (fun D22 hD22 => ?_)
          refine xx_goto (q := 199) rfl rfl ?_
          refine xx_incz (q := 202) (loc2 := [_, _, _, _, _, _]) rfl rfl rfl (by omega) (by omega) rfl rfl ?_
          refine xx_goto (q := 5) rfl rfl ?_
          rw [ansL.eq_2, if_neg (fun q => q (by omega)), if_neg (by omega), if_pos (by omega)]
          exact ih k (by omega) _ _ _ _ _ (hD22.1) (hD22.2) (by omega) (by omega) (by omega) (by omega)
      · refine xx_aload_n (q := 35) rfl rfl rfl ?_
        refine xx_getR (q := 38) rfl rfl rfl xS_7 (Nat.le_of_ble_eq_true rfl) rfl (hR.1 7 6 rfl) ?_
        refine xx_iload_n (q := 39) rfl rfl rfl ?_
        refine xx_incz (q := 42) (loc2 := [_, _, _, _, _, _]) rfl rfl rfl (by omega) (by omega) rfl rfl ?_
        refine xx_iload (q := 44) rfl rfl rfl ?_
        refine xr_isz (fun d => (∀ k, d 10 k = (fset s (top).toNat (cd (i).toNat)) k) ∧ ∀ b k, b ≠ 10 → d b k = D0 b k) (q := 45) rfl rfl xS_10 (by omega) (by omega) ⟨fun k => by rw [xui_f]; unfold fset; rw [hS k], fun b k hb => (xui_a hb).trans (hF b k hb)⟩ (fun D24 hD24 => ?_)
        refine xx_goto (q := 199) rfl rfl ?_
        refine xx_incz (q := 202) (loc2 := [_, _, _, _, _, _]) rfl rfl rfl (by omega) (by omega) rfl rfl ?_
        refine xx_goto (q := 5) rfl rfl ?_
        rw [ansL.eq_2, if_neg (fun q => q (by omega)), if_pos (by omega)]
        exact ih k (by omega) _ _ _ _ _ (hD24.1) (hD24.2) (by omega) (by omega) (by omega) (by omega)
theorem c_answerG {n c cc : Nat} {R : Nat → Nat → Option Nat} {D0 : KK} (hR : RF R) (hc : isC c) (hcc : R 7 3 = some cc) (hcc2 : cc = 8 ∨ cc = 9) (f cd : Nat → Int) (oth len : Int) (hl1 : len ≤ 400) (hlen : D0 7 2 = len) (hcd : ∀ i : Nat, (i : Int) < len → D0 cc i = cd i) (hrl : ∀ i : Nat, (i : Int) < len → -15 ≤ cd i → cd i < 0 → rlG (-1 - cd i).toNat) (hf : ∀ k, rlG k → D0 (c + 18) k = f k) (hl0 : 0 ≤ len) : ∃ D', XC 2 64 [.inr (some 7), .inr (some (c + 18)), .inl oth] (xS n, R, D0) (some (.inl (ansL f cd oth len.toNat 0 0 (D0 10)))) (xS n, R, D') ∧ ∀ b k, b ≠ 10 → D' b k = D0 b k := by
  refine XE_of (Nat.le_of_ble_eq_true rfl) (Nat.le_of_ble_eq_true rfl) (loc := [_, _, _, _, _, _]) rfl ?_
  refine xx_iconst (q := 1) rfl rfl (by decide) ?_
  refine xx_istore_n (q := 2) (loc2 := [_, _, _, _, _, _]) rfl rfl (Nat.le_of_ble_eq_true rfl) rfl ?_
  refine xx_iconst (q := 3) rfl rfl (by decide) ?_
  refine xx_istore (q := 5) (loc2 := [_, _, _, _, _, _]) rfl rfl (Nat.le_of_ble_eq_true rfl) rfl ?_
  exact c_ans_LG hR hc hcc hcc2 f cd oth len hl1 hlen hcd hrl hf len.toNat D0 0 0 (D0 10) _ (fun _ => rfl) (fun _ _ _ => rfl) (by omega) (by omega) (by omega) (by omega)
set_option maxHeartbeats 4000000 in
theorem c_ans_LH {n c cc : Nat} {R : Nat → Nat → Option Nat} {D0 : KK} (hR : RF R) (hc : isC c) (hcc : R 11 3 = some cc) (hcc2 : cc = 12 ∨ cc = 13) (f cd : Nat → Int) (oth len : Int) (hl1 : len ≤ 400) (hlen : D0 11 2 = len) (hcd : ∀ i : Nat, (i : Int) < len → D0 cc i = cd i) (hrl : ∀ i : Nat, (i : Int) < len → -15 ≤ cd i → cd i < 0 → rlH (-1 - cd i).toNat) (hf : ∀ k, rlH k → D0 (c + 18) k = f k) : ∀ (k : Nat) (D : KK) (i top : Int) (s : Nat → Int) (x : Option XV), (∀ k, D 14 k = s k) → (∀ b k, b ≠ 14 → D b k = D0 b k) → 0 ≤ i → i + k = len → 0 ≤ top → top ≤ 64 → XX (XC 1) 64 (XP (some (.inl (ansL f cd oth k i top s))) (xS n) R (fun D' => ∀ b k, b ≠ 14 → D' b k = D0 b k)) 5 [some (.inr (some 11)), some (.inr (some (c + 18))), some (.inl oth), some (.inl top), some (.inl i), x] [] (xS n, R, D) := by
  intro k
  induction k using Nat.strongRecOn with
  | ind k ih =>
  intro D i top s x hS hF h1 hk ht0 ht1
  have hshc : (xS n)[cc]? = some (0, 400) := by rcases hcc2 with rfl | rfl; exact xS_12; exact xS_13
  have hcc3 : cc ≠ 14 := by omega
  have hcg := isC_gt hc
  refine xx_iload (q := 7) rfl rfl rfl ?_
  refine xx_aload_n (q := 8) rfl rfl rfl ?_
  refine xx_gez (q := 11) rfl rfl rfl xS_11 (Nat.le_of_ble_eq_true rfl) rfl ((hF _ _ (by omega)).trans hlen) ?_
  refine xx_icmp_ge (q := 205) (q2 := 14) rfl rfl rfl (fun h11 => ?_) (fun h11 => ?_)
  · refine xx_iload_n (q := 206) rfl rfl rfl ?_
    obtain rfl : k = 0 := by omega
    exact xx_iret rfl trivial ⟨rfl, _, rfl, hF⟩
  · refine xx_iload_n (q := 15) rfl rfl rfl ?_
    refine xx_bipush (q := 17) rfl rfl (by decide) ?_
    refine xx_icmp_ge (q := 205) (q2 := 20) rfl rfl rfl (fun h17 => ?_) (fun h17 => ?_)
    · refine xx_iload_n (q := 206) rfl rfl rfl ?_
      obtain ⟨k, rfl⟩ : ∃ k2, k = k2 + 1 := ⟨k - 1, by omega⟩
      rw [ansL.eq_2, if_pos (by omega)]
      exact xx_iret rfl trivial ⟨rfl, _, rfl, hF⟩
    · obtain ⟨k, rfl⟩ : ∃ k2, k = k2 + 1 := ⟨k - 1, by omega⟩
      refine xx_aload_n (q := 21) rfl rfl rfl ?_
      refine xx_getR (q := 24) rfl rfl rfl xS_11 (Nat.le_of_ble_eq_true rfl) rfl (hcc) ?_
      refine xx_iload (q := 26) rfl rfl rfl ?_
      refine xx_iaz (v := cd (i).toNat) (q := 27) rfl rfl hshc (by omega) (by omega) ((hF _ _ (by omega)).trans (hcd _ (by omega))) ?_
      have hrl1 := hrl (i).toNat (by omega)
      refine xx_istore (q := 29) (loc2 := [_, _, _, _, _, _]) rfl rfl (Nat.le_of_ble_eq_true rfl) rfl ?_
      refine xx_iload (q := 31) rfl rfl rfl ?_
      refine xx_if_lt (q := 48) (q2 := 34) rfl rfl rfl (fun h31 => ?_) (fun h31 => ?_)
      · refine xx_iload (q := 50) rfl rfl rfl ?_
        refine xx_bipush (q := 52) rfl rfl (by decide) ?_
        refine xx_icmp_lt (q := 73) (q2 := 55) rfl rfl rfl (fun h52 => ?_) (fun h52 => ?_)
        · refine xx_iload (q := 75) rfl rfl rfl ?_
          refine xx_bipush (q := 77) rfl rfl (by decide) ?_
          refine xx_icmp_ne (q := 94) (q2 := 80) rfl rfl rfl (fun h77 => ?_) (fun h77 => ?_)
          · refine xx_iload (q := 96) rfl rfl rfl ?_
            refine xx_bipush (q := 98) rfl rfl (by decide) ?_
            refine xx_icmp_ne (q := 127) (q2 := 101) rfl rfl rfl (fun h98 => ?_) (fun h98 => ?_)
            · refine xx_iload (q := 129) rfl rfl rfl ?_
              refine xx_bipush (q := 131) rfl rfl (by decide) ?_
              refine xx_icmp_ne (q := 164) (q2 := 134) rfl rfl rfl (fun h131 => ?_) (fun h131 => ?_)
              · refine xx_iload_n (q := 165) rfl rfl rfl ?_
                refine xx_iconst (q := 166) rfl rfl (by decide) ?_
                refine xx_icmp_lt (q := 199) (q2 := 169) rfl rfl rfl (fun h166 => ?_) (fun h166 => ?_)
                · refine xx_incz (q := 202) (loc2 := [_, _, _, _, _, _]) rfl rfl rfl (by omega) (by omega) rfl rfl ?_
                  refine xx_goto (q := 5) rfl rfl ?_
                  rw [ansL.eq_2, if_neg (fun q => q (by omega)), if_neg (by omega), if_neg (by omega), if_neg (fun q => by exact h77 q.1), if_neg (fun q => by exact h98 q.1), if_neg (fun q => by exact h131 q.1), if_neg (by omega)]
                  exact ih k (by omega) _ _ _ _ _ (hS) (hF) (by omega) (by omega) (by omega) (by omega)
                · refine xx_incz (q := 172) (loc2 := [_, _, _, _, _, _]) rfl rfl rfl (by omega) (by omega) rfl rfl ?_
                  refine xx_aload_n (q := 173) rfl rfl rfl ?_
                  refine xx_getR (q := 176) rfl rfl rfl xS_11 (Nat.le_of_ble_eq_true rfl) rfl (hR.1 11 6 rfl) ?_
                  refine xx_iload_n (q := 177) rfl rfl rfl ?_
                  refine xx_iconst (q := 178) rfl rfl (by decide) ?_
                  refine xx_isubR (q := 179) rfl rfl (by omega) (by omega) ?_
                  refine xx_iload (q := 181) rfl rfl rfl ?_
                  refine xx_aload_n (q := 182) rfl rfl rfl ?_
                  refine xx_getR (q := 185) rfl rfl rfl xS_11 (Nat.le_of_ble_eq_true rfl) rfl (hR.1 11 6 rfl) ?_
                  refine xx_iload_n (q := 186) rfl rfl rfl ?_
                  refine xx_iconst (q := 187) rfl rfl (by decide) ?_
                  refine xx_isubR (q := 188) rfl rfl (by omega) (by omega) ?_
                  refine xx_iaz (v := s ((top + (-1)) - 1).toNat) (q := 189) rfl rfl xS_14 (by omega) (by omega) (hS _) ?_
                  refine xx_aload_n (q := 190) rfl rfl rfl ?_
                  refine xx_getR (q := 193) rfl rfl rfl xS_11 (Nat.le_of_ble_eq_true rfl) rfl (hR.1 11 6 rfl) ?_
                  refine xx_iload_n (q := 194) rfl rfl rfl ?_
                  refine xx_iaz (v := s (top + (-1)).toNat) (q := 195) rfl rfl xS_14 (by omega) (by omega) (hS _) ?_
                  refine xx_callS (q := 198) (As := [_, _, _]) (rest := [_, _]) rfl rfl rfl (Or.inl rfl) rfl rfl (Nat.le_of_ble_eq_true rfl) (XCm (c_joined (cd (i).toNat) (s ((top + (-1)) - 1).toNat) (s (top + (-1)).toNat)) rfl) rfl ?_
                  refine xr_isz (fun d => (∀ k, d 14 k = (fset s ((top + (-1)) - 1).toNat (jnF (cd (i).toNat) (s ((top + (-1)) - 1).toNat) (s (top + (-1)).toNat))) k) ∧ ∀ b k, b ≠ 14 → d b k = D0 b k) (q := 199) rfl rfl xS_14 (by omega) (by omega) ⟨fun k => by rw [xui_f]; unfold fset; rw [hS k], fun b k hb => (xui_a hb).trans (hF b k hb)⟩ (fun D2 hD2 => ?_)
                  refine xx_incz (q := 202) (loc2 := [_, _, _, _, _, _]) rfl rfl rfl (by omega) (by omega) rfl rfl ?_
                  refine xx_goto (q := 5) rfl rfl ?_
                  rw [ansL.eq_2, if_neg (fun q => q (by omega)), if_neg (by omega), if_neg (by omega), if_neg (fun q => by exact h77 q.1), if_neg (fun q => by exact h98 q.1), if_neg (fun q => by exact h131 q.1), if_pos (by omega)]
                  exact ih k (by omega) _ _ _ _ _ (hD2.1) (hD2.2) (by omega) (by omega) (by omega) (by omega)
              · refine xx_iload_n (q := 135) rfl rfl rfl ?_
                refine xx_iconst (q := 136) rfl rfl (by decide) ?_
                refine xx_icmp_lt (q := 164) (q2 := 139) rfl rfl rfl (fun h136 => ?_) (fun h136 => ?_)
                · refine xx_iload_n (q := 165) rfl rfl rfl ?_
                  refine xx_iconst (q := 166) rfl rfl (by decide) ?_
                  refine xx_icmp_lt (q := 199) (q2 := 169) rfl rfl rfl (fun h166 => ?_) (fun h166 => ?_)
                  · refine xx_incz (q := 202) (loc2 := [_, _, _, _, _, _]) rfl rfl rfl (by omega) (by omega) rfl rfl ?_
                    refine xx_goto (q := 5) rfl rfl ?_
                    rw [ansL.eq_2, if_neg (fun q => q (by omega)), if_neg (by omega), if_neg (by omega), if_neg (fun q => by exact h77 q.1), if_neg (fun q => by exact h98 q.1), if_neg (fun q => by omega), if_neg (by omega)]
                    exact ih k (by omega) _ _ _ _ _ (hS) (hF) (by omega) (by omega) (by omega) (by omega)
                  · refine xx_incz (q := 172) (loc2 := [_, _, _, _, _, _]) rfl rfl rfl (by omega) (by omega) rfl rfl ?_
                    refine xx_aload_n (q := 173) rfl rfl rfl ?_
                    refine xx_getR (q := 176) rfl rfl rfl xS_11 (Nat.le_of_ble_eq_true rfl) rfl (hR.1 11 6 rfl) ?_
                    refine xx_iload_n (q := 177) rfl rfl rfl ?_
                    refine xx_iconst (q := 178) rfl rfl (by decide) ?_
                    refine xx_isubR (q := 179) rfl rfl (by omega) (by omega) ?_
                    refine xx_iload (q := 181) rfl rfl rfl ?_
                    refine xx_aload_n (q := 182) rfl rfl rfl ?_
                    refine xx_getR (q := 185) rfl rfl rfl xS_11 (Nat.le_of_ble_eq_true rfl) rfl (hR.1 11 6 rfl) ?_
                    refine xx_iload_n (q := 186) rfl rfl rfl ?_
                    refine xx_iconst (q := 187) rfl rfl (by decide) ?_
                    refine xx_isubR (q := 188) rfl rfl (by omega) (by omega) ?_
                    refine xx_iaz (v := s ((top + (-1)) - 1).toNat) (q := 189) rfl rfl xS_14 (by omega) (by omega) (hS _) ?_
                    refine xx_aload_n (q := 190) rfl rfl rfl ?_
                    refine xx_getR (q := 193) rfl rfl rfl xS_11 (Nat.le_of_ble_eq_true rfl) rfl (hR.1 11 6 rfl) ?_
                    refine xx_iload_n (q := 194) rfl rfl rfl ?_
                    refine xx_iaz (v := s (top + (-1)).toNat) (q := 195) rfl rfl xS_14 (by omega) (by omega) (hS _) ?_
                    refine xx_callS (q := 198) (As := [_, _, _]) (rest := [_, _]) rfl rfl rfl (Or.inl rfl) rfl rfl (Nat.le_of_ble_eq_true rfl) (XCm (c_joined (cd (i).toNat) (s ((top + (-1)) - 1).toNat) (s (top + (-1)).toNat)) rfl) rfl ?_
                    refine xr_isz (fun d => (∀ k, d 14 k = (fset s ((top + (-1)) - 1).toNat (jnF (cd (i).toNat) (s ((top + (-1)) - 1).toNat) (s (top + (-1)).toNat))) k) ∧ ∀ b k, b ≠ 14 → d b k = D0 b k) (q := 199) rfl rfl xS_14 (by omega) (by omega) ⟨fun k => by rw [xui_f]; unfold fset; rw [hS k], fun b k hb => (xui_a hb).trans (hF b k hb)⟩ (fun D4 hD4 => ?_)
                    refine xx_incz (q := 202) (loc2 := [_, _, _, _, _, _]) rfl rfl rfl (by omega) (by omega) rfl rfl ?_
                    refine xx_goto (q := 5) rfl rfl ?_
                    rw [ansL.eq_2, if_neg (fun q => q (by omega)), if_neg (by omega), if_neg (by omega), if_neg (fun q => by exact h77 q.1), if_neg (fun q => by exact h98 q.1), if_neg (fun q => by omega), if_pos (by omega)]
                    exact ih k (by omega) _ _ _ _ _ (hD4.1) (hD4.2) (by omega) (by omega) (by omega) (by omega)
                · refine xx_aload_n (q := 140) rfl rfl rfl ?_
                  refine xx_getR (q := 143) rfl rfl rfl xS_11 (Nat.le_of_ble_eq_true rfl) rfl (hR.1 11 6 rfl) ?_
                  refine xx_iload_n (q := 144) rfl rfl rfl ?_
                  refine xx_iconst (q := 145) rfl rfl (by decide) ?_
                  refine xx_isubR (q := 146) rfl rfl (by omega) (by omega) ?_
                  refine xx_iaz (v := s (top - 1).toNat) (q := 147) rfl rfl xS_14 (by omega) (by omega) (hS _) ?_
                  refine xx_if_eq (q := 159) (q2 := 150) rfl rfl rfl (fun h147 => ?_) (fun h147 => ?_)
                  · refine xx_iconst (q := 160) rfl rfl (by decide) ?_
                    refine xx_istore_n (q := 161) (loc2 := [_, _, _, _, _, _]) rfl rfl (Nat.le_of_ble_eq_true rfl) rfl ?_
                    refine xx_goto (q := 199) rfl rfl ?_
                    refine xx_incz (q := 202) (loc2 := [_, _, _, _, _, _]) rfl rfl rfl (by omega) (by omega) rfl rfl ?_
                    refine xx_goto (q := 5) rfl rfl ?_
                    rw [ansL.eq_2, if_neg (fun q => q (by omega)), if_neg (by omega), if_neg (by omega), if_neg (fun q => by exact h77 q.1), if_neg (fun q => by exact h98 q.1), if_pos ⟨h131, by omega⟩, if_pos h147]
                    exact ih k (by omega) _ _ _ _ _ (hS) (hF) (by omega) (by omega) (by omega) (by omega)
                  · refine xx_aload_n (q := 151) rfl rfl rfl ?_
                    refine xx_getR (q := 154) rfl rfl rfl xS_11 (Nat.le_of_ble_eq_true rfl) rfl (hR.1 11 6 rfl) ?_
                    refine xx_iload_n (q := 155) rfl rfl rfl ?_
                    refine xx_iconst (q := 156) rfl rfl (by decide) ?_
                    refine xx_isubR (q := 157) rfl rfl (by omega) (by omega) ?_
                    refine xx_iaz (v := s (top - 2).toNat) (q := 158) rfl rfl xS_14 (by omega) (by omega) (hS _) ?_
                    rw [ansL.eq_2, if_neg (fun q => q (by omega)), if_neg (by omega), if_neg (by omega), if_neg (fun q => by exact h77 q.1), if_neg (fun q => by exact h98 q.1), if_pos ⟨h131, by omega⟩, if_neg h147]
                    exact xx_iret rfl trivial ⟨rfl, _, rfl, hF⟩
            · refine xx_iload_n (q := 102) rfl rfl rfl ?_
              refine xx_iconst (q := 103) rfl rfl (by decide) ?_
              refine xx_icmp_lt (q := 127) (q2 := 106) rfl rfl rfl (fun h103 => ?_) (fun h103 => ?_)
              · refine xx_iload (q := 129) rfl rfl rfl ?_
                refine xx_bipush (q := 131) rfl rfl (by decide) ?_
                refine xx_icmp_ne (q := 164) (q2 := 134) rfl rfl rfl (fun h131 => ?_) (fun h131 => ?_)
                · refine xx_iload_n (q := 165) rfl rfl rfl ?_
                  refine xx_iconst (q := 166) rfl rfl (by decide) ?_
                  refine xx_icmp_lt (q := 199) (q2 := 169) rfl rfl rfl (fun h166 => ?_) (fun h166 => ?_)
                  · refine xx_incz (q := 202) (loc2 := [_, _, _, _, _, _]) rfl rfl rfl (by omega) (by omega) rfl rfl ?_
                    refine xx_goto (q := 5) rfl rfl ?_
                    rw [ansL.eq_2, if_neg (fun q => q (by omega)), if_neg (by omega), if_neg (by omega), if_neg (fun q => by exact h77 q.1), if_neg (fun q => by omega), if_neg (fun q => by exact h131 q.1), if_neg (by omega)]
                    exact ih k (by omega) _ _ _ _ _ (hS) (hF) (by omega) (by omega) (by omega) (by omega)
                  · refine xx_incz (q := 172) (loc2 := [_, _, _, _, _, _]) rfl rfl rfl (by omega) (by omega) rfl rfl ?_
                    refine xx_aload_n (q := 173) rfl rfl rfl ?_
                    refine xx_getR (q := 176) rfl rfl rfl xS_11 (Nat.le_of_ble_eq_true rfl) rfl (hR.1 11 6 rfl) ?_
                    refine xx_iload_n (q := 177) rfl rfl rfl ?_
                    refine xx_iconst (q := 178) rfl rfl (by decide) ?_
                    refine xx_isubR (q := 179) rfl rfl (by omega) (by omega) ?_
                    refine xx_iload (q := 181) rfl rfl rfl ?_
                    refine xx_aload_n (q := 182) rfl rfl rfl ?_
                    refine xx_getR (q := 185) rfl rfl rfl xS_11 (Nat.le_of_ble_eq_true rfl) rfl (hR.1 11 6 rfl) ?_
                    refine xx_iload_n (q := 186) rfl rfl rfl ?_
                    refine xx_iconst (q := 187) rfl rfl (by decide) ?_
                    refine xx_isubR (q := 188) rfl rfl (by omega) (by omega) ?_
                    refine xx_iaz (v := s ((top + (-1)) - 1).toNat) (q := 189) rfl rfl xS_14 (by omega) (by omega) (hS _) ?_
                    refine xx_aload_n (q := 190) rfl rfl rfl ?_
                    refine xx_getR (q := 193) rfl rfl rfl xS_11 (Nat.le_of_ble_eq_true rfl) rfl (hR.1 11 6 rfl) ?_
                    refine xx_iload_n (q := 194) rfl rfl rfl ?_
                    refine xx_iaz (v := s (top + (-1)).toNat) (q := 195) rfl rfl xS_14 (by omega) (by omega) (hS _) ?_
                    refine xx_callS (q := 198) (As := [_, _, _]) (rest := [_, _]) rfl rfl rfl (Or.inl rfl) rfl rfl (Nat.le_of_ble_eq_true rfl) (XCm (c_joined (cd (i).toNat) (s ((top + (-1)) - 1).toNat) (s (top + (-1)).toNat)) rfl) rfl ?_
                    refine xr_isz (fun d => (∀ k, d 14 k = (fset s ((top + (-1)) - 1).toNat (jnF (cd (i).toNat) (s ((top + (-1)) - 1).toNat) (s (top + (-1)).toNat))) k) ∧ ∀ b k, b ≠ 14 → d b k = D0 b k) (q := 199) rfl rfl xS_14 (by omega) (by omega) ⟨fun k => by rw [xui_f]; unfold fset; rw [hS k], fun b k hb => (xui_a hb).trans (hF b k hb)⟩ (fun D6 hD6 => ?_)
                    refine xx_incz (q := 202) (loc2 := [_, _, _, _, _, _]) rfl rfl rfl (by omega) (by omega) rfl rfl ?_
                    refine xx_goto (q := 5) rfl rfl ?_
                    rw [ansL.eq_2, if_neg (fun q => q (by omega)), if_neg (by omega), if_neg (by omega), if_neg (fun q => by exact h77 q.1), if_neg (fun q => by omega), if_neg (fun q => by exact h131 q.1), if_pos (by omega)]
                    exact ih k (by omega) _ _ _ _ _ (hD6.1) (hD6.2) (by omega) (by omega) (by omega) (by omega)
                · refine xx_iload_n (q := 135) rfl rfl rfl ?_
                  refine xx_iconst (q := 136) rfl rfl (by decide) ?_
                  refine xx_icmp_lt (q := 164) (q2 := 139) rfl rfl rfl (fun h136 => ?_) (fun h136 => ?_)
                  · refine xx_iload_n (q := 165) rfl rfl rfl ?_
                    refine xx_iconst (q := 166) rfl rfl (by decide) ?_
                    refine xx_icmp_lt (q := 199) (q2 := 169) rfl rfl rfl (fun h166 => ?_) (fun h166 => ?_)
                    · refine xx_incz (q := 202) (loc2 := [_, _, _, _, _, _]) rfl rfl rfl (by omega) (by omega) rfl rfl ?_
                      refine xx_goto (q := 5) rfl rfl ?_
                      rw [ansL.eq_2, if_neg (fun q => q (by omega)), if_neg (by omega), if_neg (by omega), if_neg (fun q => by exact h77 q.1), if_neg (fun q => by omega), if_neg (fun q => by omega), if_neg (by omega)]
                      exact ih k (by omega) _ _ _ _ _ (hS) (hF) (by omega) (by omega) (by omega) (by omega)
                    · refine xx_incz (q := 172) (loc2 := [_, _, _, _, _, _]) rfl rfl rfl (by omega) (by omega) rfl rfl ?_
                      refine xx_aload_n (q := 173) rfl rfl rfl ?_
                      refine xx_getR (q := 176) rfl rfl rfl xS_11 (Nat.le_of_ble_eq_true rfl) rfl (hR.1 11 6 rfl) ?_
                      refine xx_iload_n (q := 177) rfl rfl rfl ?_
                      refine xx_iconst (q := 178) rfl rfl (by decide) ?_
                      refine xx_isubR (q := 179) rfl rfl (by omega) (by omega) ?_
                      refine xx_iload (q := 181) rfl rfl rfl ?_
                      refine xx_aload_n (q := 182) rfl rfl rfl ?_
                      refine xx_getR (q := 185) rfl rfl rfl xS_11 (Nat.le_of_ble_eq_true rfl) rfl (hR.1 11 6 rfl) ?_
                      refine xx_iload_n (q := 186) rfl rfl rfl ?_
                      refine xx_iconst (q := 187) rfl rfl (by decide) ?_
                      refine xx_isubR (q := 188) rfl rfl (by omega) (by omega) ?_
                      refine xx_iaz (v := s ((top + (-1)) - 1).toNat) (q := 189) rfl rfl xS_14 (by omega) (by omega) (hS _) ?_
                      refine xx_aload_n (q := 190) rfl rfl rfl ?_
                      refine xx_getR (q := 193) rfl rfl rfl xS_11 (Nat.le_of_ble_eq_true rfl) rfl (hR.1 11 6 rfl) ?_
                      refine xx_iload_n (q := 194) rfl rfl rfl ?_
                      refine xx_iaz (v := s (top + (-1)).toNat) (q := 195) rfl rfl xS_14 (by omega) (by omega) (hS _) ?_
                      refine xx_callS (q := 198) (As := [_, _, _]) (rest := [_, _]) rfl rfl rfl (Or.inl rfl) rfl rfl (Nat.le_of_ble_eq_true rfl) (XCm (c_joined (cd (i).toNat) (s ((top + (-1)) - 1).toNat) (s (top + (-1)).toNat)) rfl) rfl ?_
                      refine xr_isz (fun d => (∀ k, d 14 k = (fset s ((top + (-1)) - 1).toNat (jnF (cd (i).toNat) (s ((top + (-1)) - 1).toNat) (s (top + (-1)).toNat))) k) ∧ ∀ b k, b ≠ 14 → d b k = D0 b k) (q := 199) rfl rfl xS_14 (by omega) (by omega) ⟨fun k => by rw [xui_f]; unfold fset; rw [hS k], fun b k hb => (xui_a hb).trans (hF b k hb)⟩ (fun D8 hD8 => ?_)
                      refine xx_incz (q := 202) (loc2 := [_, _, _, _, _, _]) rfl rfl rfl (by omega) (by omega) rfl rfl ?_
                      refine xx_goto (q := 5) rfl rfl ?_
                      rw [ansL.eq_2, if_neg (fun q => q (by omega)), if_neg (by omega), if_neg (by omega), if_neg (fun q => by exact h77 q.1), if_neg (fun q => by omega), if_neg (fun q => by omega), if_pos (by omega)]
                      exact ih k (by omega) _ _ _ _ _ (hD8.1) (hD8.2) (by omega) (by omega) (by omega) (by omega)
                  · refine xx_aload_n (q := 140) rfl rfl rfl ?_
                    refine xx_getR (q := 143) rfl rfl rfl xS_11 (Nat.le_of_ble_eq_true rfl) rfl (hR.1 11 6 rfl) ?_
                    refine xx_iload_n (q := 144) rfl rfl rfl ?_
                    refine xx_iconst (q := 145) rfl rfl (by decide) ?_
                    refine xx_isubR (q := 146) rfl rfl (by omega) (by omega) ?_
                    refine xx_iaz (v := s (top - 1).toNat) (q := 147) rfl rfl xS_14 (by omega) (by omega) (hS _) ?_
                    refine xx_if_eq (q := 159) (q2 := 150) rfl rfl rfl (fun h147 => ?_) (fun h147 => ?_)
                    · refine xx_iconst (q := 160) rfl rfl (by decide) ?_
                      refine xx_istore_n (q := 161) (loc2 := [_, _, _, _, _, _]) rfl rfl (Nat.le_of_ble_eq_true rfl) rfl ?_
                      refine xx_goto (q := 199) rfl rfl ?_
                      refine xx_incz (q := 202) (loc2 := [_, _, _, _, _, _]) rfl rfl rfl (by omega) (by omega) rfl rfl ?_
                      refine xx_goto (q := 5) rfl rfl ?_
                      rw [ansL.eq_2, if_neg (fun q => q (by omega)), if_neg (by omega), if_neg (by omega), if_neg (fun q => by exact h77 q.1), if_neg (fun q => by omega), if_pos ⟨h131, by omega⟩, if_pos h147]
                      exact ih k (by omega) _ _ _ _ _ (hS) (hF) (by omega) (by omega) (by omega) (by omega)
                    · refine xx_aload_n (q := 151) rfl rfl rfl ?_
                      refine xx_getR (q := 154) rfl rfl rfl xS_11 (Nat.le_of_ble_eq_true rfl) rfl (hR.1 11 6 rfl) ?_
                      refine xx_iload_n (q := 155) rfl rfl rfl ?_
                      refine xx_iconst (q := 156) rfl rfl (by decide) ?_
                      refine xx_isubR (q := 157) rfl rfl (by omega) (by omega) ?_
                      refine xx_iaz (v := s (top - 2).toNat) (q := 158) rfl rfl xS_14 (by omega) (by omega) (hS _) ?_
                      rw [ansL.eq_2, if_neg (fun q => q (by omega)), if_neg (by omega), if_neg (by omega), if_neg (fun q => by exact h77 q.1), if_neg (fun q => by omega), if_pos ⟨h131, by omega⟩, if_neg h147]
                      exact xx_iret rfl trivial ⟨rfl, _, rfl, hF⟩
              · refine xx_aload_n (q := 107) rfl rfl rfl ?_
                refine xx_getR (q := 110) rfl rfl rfl xS_11 (Nat.le_of_ble_eq_true rfl) rfl (hR.1 11 6 rfl) ?_
                refine xx_iload_n (q := 111) rfl rfl rfl ?_
                refine xx_iconst (q := 112) rfl rfl (by decide) ?_
                refine xx_isubR (q := 113) rfl rfl (by omega) (by omega) ?_
                refine xx_iconst (q := 114) rfl rfl (by decide) ?_
                refine xx_aload_n (q := 115) rfl rfl rfl ?_
                refine xx_getR (q := 118) rfl rfl rfl xS_11 (Nat.le_of_ble_eq_true rfl) rfl (hR.1 11 6 rfl) ?_
                refine xx_iload_n (q := 119) rfl rfl rfl ?_
                refine xx_iconst (q := 120) rfl rfl (by decide) ?_
                refine xx_isubR (q := 121) rfl rfl (by omega) (by omega) ?_
                refine xx_iaz (v := s (top - 1).toNat) (q := 122) rfl rfl xS_14 (by omega) (by omega) (hS _) ?_
                refine xx_isub (q := 123) rfl rfl ?_
                refine xr_isz (fun d => (∀ k, d 14 k = (fset s (top - 1).toNat (nrm (1 - (s (top - 1).toNat)))) k) ∧ ∀ b k, b ≠ 14 → d b k = D0 b k) (q := 124) rfl rfl xS_14 (by omega) (by omega) ⟨fun k => by rw [xui_f]; unfold fset; rw [hS k], fun b k hb => (xui_a hb).trans (hF b k hb)⟩ (fun D10 hD10 => ?_)
                refine xx_goto (q := 199) rfl rfl ?_
                refine xx_incz (q := 202) (loc2 := [_, _, _, _, _, _]) rfl rfl rfl (by omega) (by omega) rfl rfl ?_
                refine xx_goto (q := 5) rfl rfl ?_
                rw [ansL.eq_2, if_neg (fun q => q (by omega)), if_neg (by omega), if_neg (by omega), if_neg (fun q => by exact h77 q.1), if_pos ⟨h98, by omega⟩]
                exact ih k (by omega) _ _ _ _ _ (hD10.1) (hD10.2) (by omega) (by omega) (by omega) (by omega)
          · refine xx_iload_n (q := 81) rfl rfl rfl ?_
            refine xx_iconst (q := 82) rfl rfl (by decide) ?_
            refine xx_icmp_lt (q := 94) (q2 := 85) rfl rfl rfl (fun h82 => ?_) (fun h82 => ?_)
            · refine xx_iload (q := 96) rfl rfl rfl ?_
              refine xx_bipush (q := 98) rfl rfl (by decide) ?_
              refine xx_icmp_ne (q := 127) (q2 := 101) rfl rfl rfl (fun h98 => ?_) (fun h98 => ?_)
              · refine xx_iload (q := 129) rfl rfl rfl ?_
                refine xx_bipush (q := 131) rfl rfl (by decide) ?_
                refine xx_icmp_ne (q := 164) (q2 := 134) rfl rfl rfl (fun h131 => ?_) (fun h131 => ?_)
                · refine xx_iload_n (q := 165) rfl rfl rfl ?_
                  refine xx_iconst (q := 166) rfl rfl (by decide) ?_
                  refine xx_icmp_lt (q := 199) (q2 := 169) rfl rfl rfl (fun h166 => ?_) (fun h166 => ?_)
                  · refine xx_incz (q := 202) (loc2 := [_, _, _, _, _, _]) rfl rfl rfl (by omega) (by omega) rfl rfl ?_
                    refine xx_goto (q := 5) rfl rfl ?_
                    rw [ansL.eq_2, if_neg (fun q => q (by omega)), if_neg (by omega), if_neg (by omega), if_neg (fun q => by omega), if_neg (fun q => by exact h98 q.1), if_neg (fun q => by exact h131 q.1), if_neg (by omega)]
                    exact ih k (by omega) _ _ _ _ _ (hS) (hF) (by omega) (by omega) (by omega) (by omega)
                  · refine xx_incz (q := 172) (loc2 := [_, _, _, _, _, _]) rfl rfl rfl (by omega) (by omega) rfl rfl ?_
                    refine xx_aload_n (q := 173) rfl rfl rfl ?_
                    refine xx_getR (q := 176) rfl rfl rfl xS_11 (Nat.le_of_ble_eq_true rfl) rfl (hR.1 11 6 rfl) ?_
                    refine xx_iload_n (q := 177) rfl rfl rfl ?_
                    refine xx_iconst (q := 178) rfl rfl (by decide) ?_
                    refine xx_isubR (q := 179) rfl rfl (by omega) (by omega) ?_
                    refine xx_iload (q := 181) rfl rfl rfl ?_
                    refine xx_aload_n (q := 182) rfl rfl rfl ?_
                    refine xx_getR (q := 185) rfl rfl rfl xS_11 (Nat.le_of_ble_eq_true rfl) rfl (hR.1 11 6 rfl) ?_
                    refine xx_iload_n (q := 186) rfl rfl rfl ?_
                    refine xx_iconst (q := 187) rfl rfl (by decide) ?_
                    refine xx_isubR (q := 188) rfl rfl (by omega) (by omega) ?_
                    refine xx_iaz (v := s ((top + (-1)) - 1).toNat) (q := 189) rfl rfl xS_14 (by omega) (by omega) (hS _) ?_
                    refine xx_aload_n (q := 190) rfl rfl rfl ?_
                    refine xx_getR (q := 193) rfl rfl rfl xS_11 (Nat.le_of_ble_eq_true rfl) rfl (hR.1 11 6 rfl) ?_
                    refine xx_iload_n (q := 194) rfl rfl rfl ?_
                    refine xx_iaz (v := s (top + (-1)).toNat) (q := 195) rfl rfl xS_14 (by omega) (by omega) (hS _) ?_
                    refine xx_callS (q := 198) (As := [_, _, _]) (rest := [_, _]) rfl rfl rfl (Or.inl rfl) rfl rfl (Nat.le_of_ble_eq_true rfl) (XCm (c_joined (cd (i).toNat) (s ((top + (-1)) - 1).toNat) (s (top + (-1)).toNat)) rfl) rfl ?_
                    refine xr_isz (fun d => (∀ k, d 14 k = (fset s ((top + (-1)) - 1).toNat (jnF (cd (i).toNat) (s ((top + (-1)) - 1).toNat) (s (top + (-1)).toNat))) k) ∧ ∀ b k, b ≠ 14 → d b k = D0 b k) (q := 199) rfl rfl xS_14 (by omega) (by omega) ⟨fun k => by rw [xui_f]; unfold fset; rw [hS k], fun b k hb => (xui_a hb).trans (hF b k hb)⟩ (fun D12 hD12 => ?_)
                    refine xx_incz (q := 202) (loc2 := [_, _, _, _, _, _]) rfl rfl rfl (by omega) (by omega) rfl rfl ?_
                    refine xx_goto (q := 5) rfl rfl ?_
                    rw [ansL.eq_2, if_neg (fun q => q (by omega)), if_neg (by omega), if_neg (by omega), if_neg (fun q => by omega), if_neg (fun q => by exact h98 q.1), if_neg (fun q => by exact h131 q.1), if_pos (by omega)]
                    exact ih k (by omega) _ _ _ _ _ (hD12.1) (hD12.2) (by omega) (by omega) (by omega) (by omega)
                · refine xx_iload_n (q := 135) rfl rfl rfl ?_
                  refine xx_iconst (q := 136) rfl rfl (by decide) ?_
                  refine xx_icmp_lt (q := 164) (q2 := 139) rfl rfl rfl (fun h136 => ?_) (fun h136 => ?_)
                  · refine xx_iload_n (q := 165) rfl rfl rfl ?_
                    refine xx_iconst (q := 166) rfl rfl (by decide) ?_
                    refine xx_icmp_lt (q := 199) (q2 := 169) rfl rfl rfl (fun h166 => ?_) (fun h166 => ?_)
                    · refine xx_incz (q := 202) (loc2 := [_, _, _, _, _, _]) rfl rfl rfl (by omega) (by omega) rfl rfl ?_
                      refine xx_goto (q := 5) rfl rfl ?_
                      rw [ansL.eq_2, if_neg (fun q => q (by omega)), if_neg (by omega), if_neg (by omega), if_neg (fun q => by omega), if_neg (fun q => by exact h98 q.1), if_neg (fun q => by omega), if_neg (by omega)]
                      exact ih k (by omega) _ _ _ _ _ (hS) (hF) (by omega) (by omega) (by omega) (by omega)
                    · refine xx_incz (q := 172) (loc2 := [_, _, _, _, _, _]) rfl rfl rfl (by omega) (by omega) rfl rfl ?_
                      refine xx_aload_n (q := 173) rfl rfl rfl ?_
                      refine xx_getR (q := 176) rfl rfl rfl xS_11 (Nat.le_of_ble_eq_true rfl) rfl (hR.1 11 6 rfl) ?_
                      refine xx_iload_n (q := 177) rfl rfl rfl ?_
                      refine xx_iconst (q := 178) rfl rfl (by decide) ?_
                      refine xx_isubR (q := 179) rfl rfl (by omega) (by omega) ?_
                      refine xx_iload (q := 181) rfl rfl rfl ?_
                      refine xx_aload_n (q := 182) rfl rfl rfl ?_
                      refine xx_getR (q := 185) rfl rfl rfl xS_11 (Nat.le_of_ble_eq_true rfl) rfl (hR.1 11 6 rfl) ?_
                      refine xx_iload_n (q := 186) rfl rfl rfl ?_
                      refine xx_iconst (q := 187) rfl rfl (by decide) ?_
                      refine xx_isubR (q := 188) rfl rfl (by omega) (by omega) ?_
                      refine xx_iaz (v := s ((top + (-1)) - 1).toNat) (q := 189) rfl rfl xS_14 (by omega) (by omega) (hS _) ?_
                      refine xx_aload_n (q := 190) rfl rfl rfl ?_
                      refine xx_getR (q := 193) rfl rfl rfl xS_11 (Nat.le_of_ble_eq_true rfl) rfl (hR.1 11 6 rfl) ?_
                      refine xx_iload_n (q := 194) rfl rfl rfl ?_
                      refine xx_iaz (v := s (top + (-1)).toNat) (q := 195) rfl rfl xS_14 (by omega) (by omega) (hS _) ?_
                      refine xx_callS (q := 198) (As := [_, _, _]) (rest := [_, _]) rfl rfl rfl (Or.inl rfl) rfl rfl (Nat.le_of_ble_eq_true rfl) (XCm (c_joined (cd (i).toNat) (s ((top + (-1)) - 1).toNat) (s (top + (-1)).toNat)) rfl) rfl ?_
                      refine xr_isz (fun d => (∀ k, d 14 k = (fset s ((top + (-1)) - 1).toNat (jnF (cd (i).toNat) (s ((top + (-1)) - 1).toNat) (s (top + (-1)).toNat))) k) ∧ ∀ b k, b ≠ 14 → d b k = D0 b k) (q := 199) rfl rfl xS_14 (by omega) (by omega) ⟨fun k => by rw [xui_f]; unfold fset; rw [hS k], fun b k hb => (xui_a hb).trans (hF b k hb)⟩ (fun D14 hD14 => ?_)
                      refine xx_incz (q := 202) (loc2 := [_, _, _, _, _, _]) rfl rfl rfl (by omega) (by omega) rfl rfl ?_
                      refine xx_goto (q := 5) rfl rfl ?_
                      rw [ansL.eq_2, if_neg (fun q => q (by omega)), if_neg (by omega), if_neg (by omega), if_neg (fun q => by omega), if_neg (fun q => by exact h98 q.1), if_neg (fun q => by omega), if_pos (by omega)]
                      exact ih k (by omega) _ _ _ _ _ (hD14.1) (hD14.2) (by omega) (by omega) (by omega) (by omega)
                  · refine xx_aload_n (q := 140) rfl rfl rfl ?_
                    refine xx_getR (q := 143) rfl rfl rfl xS_11 (Nat.le_of_ble_eq_true rfl) rfl (hR.1 11 6 rfl) ?_
                    refine xx_iload_n (q := 144) rfl rfl rfl ?_
                    refine xx_iconst (q := 145) rfl rfl (by decide) ?_
                    refine xx_isubR (q := 146) rfl rfl (by omega) (by omega) ?_
                    refine xx_iaz (v := s (top - 1).toNat) (q := 147) rfl rfl xS_14 (by omega) (by omega) (hS _) ?_
                    refine xx_if_eq (q := 159) (q2 := 150) rfl rfl rfl (fun h147 => ?_) (fun h147 => ?_)
                    · refine xx_iconst (q := 160) rfl rfl (by decide) ?_
                      refine xx_istore_n (q := 161) (loc2 := [_, _, _, _, _, _]) rfl rfl (Nat.le_of_ble_eq_true rfl) rfl ?_
                      refine xx_goto (q := 199) rfl rfl ?_
                      refine xx_incz (q := 202) (loc2 := [_, _, _, _, _, _]) rfl rfl rfl (by omega) (by omega) rfl rfl ?_
                      refine xx_goto (q := 5) rfl rfl ?_
                      rw [ansL.eq_2, if_neg (fun q => q (by omega)), if_neg (by omega), if_neg (by omega), if_neg (fun q => by omega), if_neg (fun q => by exact h98 q.1), if_pos ⟨h131, by omega⟩, if_pos h147]
                      exact ih k (by omega) _ _ _ _ _ (hS) (hF) (by omega) (by omega) (by omega) (by omega)
                    · refine xx_aload_n (q := 151) rfl rfl rfl ?_
                      refine xx_getR (q := 154) rfl rfl rfl xS_11 (Nat.le_of_ble_eq_true rfl) rfl (hR.1 11 6 rfl) ?_
                      refine xx_iload_n (q := 155) rfl rfl rfl ?_
                      refine xx_iconst (q := 156) rfl rfl (by decide) ?_
                      refine xx_isubR (q := 157) rfl rfl (by omega) (by omega) ?_
                      refine xx_iaz (v := s (top - 2).toNat) (q := 158) rfl rfl xS_14 (by omega) (by omega) (hS _) ?_
                      rw [ansL.eq_2, if_neg (fun q => q (by omega)), if_neg (by omega), if_neg (by omega), if_neg (fun q => by omega), if_neg (fun q => by exact h98 q.1), if_pos ⟨h131, by omega⟩, if_neg h147]
                      exact xx_iret rfl trivial ⟨rfl, _, rfl, hF⟩
              · refine xx_iload_n (q := 102) rfl rfl rfl ?_
                refine xx_iconst (q := 103) rfl rfl (by decide) ?_
                refine xx_icmp_lt (q := 127) (q2 := 106) rfl rfl rfl (fun h103 => ?_) (fun h103 => ?_)
                · refine xx_iload (q := 129) rfl rfl rfl ?_
                  refine xx_bipush (q := 131) rfl rfl (by decide) ?_
                  refine xx_icmp_ne (q := 164) (q2 := 134) rfl rfl rfl (fun h131 => ?_) (fun h131 => ?_)
                  · refine xx_iload_n (q := 165) rfl rfl rfl ?_
                    refine xx_iconst (q := 166) rfl rfl (by decide) ?_
                    refine xx_icmp_lt (q := 199) (q2 := 169) rfl rfl rfl (fun h166 => ?_) (fun h166 => ?_)
                    · refine xx_incz (q := 202) (loc2 := [_, _, _, _, _, _]) rfl rfl rfl (by omega) (by omega) rfl rfl ?_
                      refine xx_goto (q := 5) rfl rfl ?_
                      rw [ansL.eq_2, if_neg (fun q => q (by omega)), if_neg (by omega), if_neg (by omega), if_neg (fun q => by omega), if_neg (fun q => by omega), if_neg (fun q => by exact h131 q.1), if_neg (by omega)]
                      exact ih k (by omega) _ _ _ _ _ (hS) (hF) (by omega) (by omega) (by omega) (by omega)
                    · refine xx_incz (q := 172) (loc2 := [_, _, _, _, _, _]) rfl rfl rfl (by omega) (by omega) rfl rfl ?_
                      refine xx_aload_n (q := 173) rfl rfl rfl ?_
                      refine xx_getR (q := 176) rfl rfl rfl xS_11 (Nat.le_of_ble_eq_true rfl) rfl (hR.1 11 6 rfl) ?_
                      refine xx_iload_n (q := 177) rfl rfl rfl ?_
                      refine xx_iconst (q := 178) rfl rfl (by decide) ?_
                      refine xx_isubR (q := 179) rfl rfl (by omega) (by omega) ?_
                      refine xx_iload (q := 181) rfl rfl rfl ?_
                      refine xx_aload_n (q := 182) rfl rfl rfl ?_
                      refine xx_getR (q := 185) rfl rfl rfl xS_11 (Nat.le_of_ble_eq_true rfl) rfl (hR.1 11 6 rfl) ?_
                      refine xx_iload_n (q := 186) rfl rfl rfl ?_
                      refine xx_iconst (q := 187) rfl rfl (by decide) ?_
                      refine xx_isubR (q := 188) rfl rfl (by omega) (by omega) ?_
                      refine xx_iaz (v := s ((top + (-1)) - 1).toNat) (q := 189) rfl rfl xS_14 (by omega) (by omega) (hS _) ?_
                      refine xx_aload_n (q := 190) rfl rfl rfl ?_
                      refine xx_getR (q := 193) rfl rfl rfl xS_11 (Nat.le_of_ble_eq_true rfl) rfl (hR.1 11 6 rfl) ?_
                      refine xx_iload_n (q := 194) rfl rfl rfl ?_
                      refine xx_iaz (v := s (top + (-1)).toNat) (q := 195) rfl rfl xS_14 (by omega) (by omega) (hS _) ?_
                      refine xx_callS (q := 198) (As := [_, _, _]) (rest := [_, _]) rfl rfl rfl (Or.inl rfl) rfl rfl (Nat.le_of_ble_eq_true rfl) (XCm (c_joined (cd (i).toNat) (s ((top + (-1)) - 1).toNat) (s (top + (-1)).toNat)) rfl) rfl ?_
                      refine xr_isz (fun d => (∀ k, d 14 k = (fset s ((top + (-1)) - 1).toNat (jnF (cd (i).toNat) (s ((top + (-1)) - 1).toNat) (s (top + (-1)).toNat))) k) ∧ ∀ b k, b ≠ 14 → d b k = D0 b k) (q := 199) rfl rfl xS_14 (by omega) (by omega) ⟨fun k => by rw [xui_f]; unfold fset; rw [hS k], fun b k hb => (xui_a hb).trans (hF b k hb)⟩ (fun D16 hD16 => ?_)
                      refine xx_incz (q := 202) (loc2 := [_, _, _, _, _, _]) rfl rfl rfl (by omega) (by omega) rfl rfl ?_
                      refine xx_goto (q := 5) rfl rfl ?_
                      rw [ansL.eq_2, if_neg (fun q => q (by omega)), if_neg (by omega), if_neg (by omega), if_neg (fun q => by omega), if_neg (fun q => by omega), if_neg (fun q => by exact h131 q.1), if_pos (by omega)]
                      exact ih k (by omega) _ _ _ _ _ (hD16.1) (hD16.2) (by omega) (by omega) (by omega) (by omega)
                  · refine xx_iload_n (q := 135) rfl rfl rfl ?_
                    refine xx_iconst (q := 136) rfl rfl (by decide) ?_
                    refine xx_icmp_lt (q := 164) (q2 := 139) rfl rfl rfl (fun h136 => ?_) (fun h136 => ?_)
                    · refine xx_iload_n (q := 165) rfl rfl rfl ?_
                      refine xx_iconst (q := 166) rfl rfl (by decide) ?_
                      refine xx_icmp_lt (q := 199) (q2 := 169) rfl rfl rfl (fun h166 => ?_) (fun h166 => ?_)
                      · refine xx_incz (q := 202) (loc2 := [_, _, _, _, _, _]) rfl rfl rfl (by omega) (by omega) rfl rfl ?_
                        refine xx_goto (q := 5) rfl rfl ?_
                        rw [ansL.eq_2, if_neg (fun q => q (by omega)), if_neg (by omega), if_neg (by omega), if_neg (fun q => by omega), if_neg (fun q => by omega), if_neg (fun q => by omega), if_neg (by omega)]
                        exact ih k (by omega) _ _ _ _ _ (hS) (hF) (by omega) (by omega) (by omega) (by omega)
                      · refine xx_incz (q := 172) (loc2 := [_, _, _, _, _, _]) rfl rfl rfl (by omega) (by omega) rfl rfl ?_
                        refine xx_aload_n (q := 173) rfl rfl rfl ?_
                        refine xx_getR (q := 176) rfl rfl rfl xS_11 (Nat.le_of_ble_eq_true rfl) rfl (hR.1 11 6 rfl) ?_
                        refine xx_iload_n (q := 177) rfl rfl rfl ?_
                        refine xx_iconst (q := 178) rfl rfl (by decide) ?_
                        refine xx_isubR (q := 179) rfl rfl (by omega) (by omega) ?_
                        refine xx_iload (q := 181) rfl rfl rfl ?_
                        refine xx_aload_n (q := 182) rfl rfl rfl ?_
                        refine xx_getR (q := 185) rfl rfl rfl xS_11 (Nat.le_of_ble_eq_true rfl) rfl (hR.1 11 6 rfl) ?_
                        refine xx_iload_n (q := 186) rfl rfl rfl ?_
                        refine xx_iconst (q := 187) rfl rfl (by decide) ?_
                        refine xx_isubR (q := 188) rfl rfl (by omega) (by omega) ?_
                        refine xx_iaz (v := s ((top + (-1)) - 1).toNat) (q := 189) rfl rfl xS_14 (by omega) (by omega) (hS _) ?_
                        refine xx_aload_n (q := 190) rfl rfl rfl ?_
                        refine xx_getR (q := 193) rfl rfl rfl xS_11 (Nat.le_of_ble_eq_true rfl) rfl (hR.1 11 6 rfl) ?_
                        refine xx_iload_n (q := 194) rfl rfl rfl ?_
                        refine xx_iaz (v := s (top + (-1)).toNat) (q := 195) rfl rfl xS_14 (by omega) (by omega) (hS _) ?_
                        refine xx_callS (q := 198) (As := [_, _, _]) (rest := [_, _]) rfl rfl rfl (Or.inl rfl) rfl rfl (Nat.le_of_ble_eq_true rfl) (XCm (c_joined (cd (i).toNat) (s ((top + (-1)) - 1).toNat) (s (top + (-1)).toNat)) rfl) rfl ?_
                        refine xr_isz (fun d => (∀ k, d 14 k = (fset s ((top + (-1)) - 1).toNat (jnF (cd (i).toNat) (s ((top + (-1)) - 1).toNat) (s (top + (-1)).toNat))) k) ∧ ∀ b k, b ≠ 14 → d b k = D0 b k) (q := 199) rfl rfl xS_14 (by omega) (by omega) ⟨fun k => by rw [xui_f]; unfold fset; rw [hS k], fun b k hb => (xui_a hb).trans (hF b k hb)⟩ (fun D18 hD18 => ?_)
                        refine xx_incz (q := 202) (loc2 := [_, _, _, _, _, _]) rfl rfl rfl (by omega) (by omega) rfl rfl ?_
                        refine xx_goto (q := 5) rfl rfl ?_
                        rw [ansL.eq_2, if_neg (fun q => q (by omega)), if_neg (by omega), if_neg (by omega), if_neg (fun q => by omega), if_neg (fun q => by omega), if_neg (fun q => by omega), if_pos (by omega)]
                        exact ih k (by omega) _ _ _ _ _ (hD18.1) (hD18.2) (by omega) (by omega) (by omega) (by omega)
                    · refine xx_aload_n (q := 140) rfl rfl rfl ?_
                      refine xx_getR (q := 143) rfl rfl rfl xS_11 (Nat.le_of_ble_eq_true rfl) rfl (hR.1 11 6 rfl) ?_
                      refine xx_iload_n (q := 144) rfl rfl rfl ?_
                      refine xx_iconst (q := 145) rfl rfl (by decide) ?_
                      refine xx_isubR (q := 146) rfl rfl (by omega) (by omega) ?_
                      refine xx_iaz (v := s (top - 1).toNat) (q := 147) rfl rfl xS_14 (by omega) (by omega) (hS _) ?_
                      refine xx_if_eq (q := 159) (q2 := 150) rfl rfl rfl (fun h147 => ?_) (fun h147 => ?_)
                      · refine xx_iconst (q := 160) rfl rfl (by decide) ?_
                        refine xx_istore_n (q := 161) (loc2 := [_, _, _, _, _, _]) rfl rfl (Nat.le_of_ble_eq_true rfl) rfl ?_
                        refine xx_goto (q := 199) rfl rfl ?_
                        refine xx_incz (q := 202) (loc2 := [_, _, _, _, _, _]) rfl rfl rfl (by omega) (by omega) rfl rfl ?_
                        refine xx_goto (q := 5) rfl rfl ?_
                        rw [ansL.eq_2, if_neg (fun q => q (by omega)), if_neg (by omega), if_neg (by omega), if_neg (fun q => by omega), if_neg (fun q => by omega), if_pos ⟨h131, by omega⟩, if_pos h147]
                        exact ih k (by omega) _ _ _ _ _ (hS) (hF) (by omega) (by omega) (by omega) (by omega)
                      · refine xx_aload_n (q := 151) rfl rfl rfl ?_
                        refine xx_getR (q := 154) rfl rfl rfl xS_11 (Nat.le_of_ble_eq_true rfl) rfl (hR.1 11 6 rfl) ?_
                        refine xx_iload_n (q := 155) rfl rfl rfl ?_
                        refine xx_iconst (q := 156) rfl rfl (by decide) ?_
                        refine xx_isubR (q := 157) rfl rfl (by omega) (by omega) ?_
                        refine xx_iaz (v := s (top - 2).toNat) (q := 158) rfl rfl xS_14 (by omega) (by omega) (hS _) ?_
                        rw [ansL.eq_2, if_neg (fun q => q (by omega)), if_neg (by omega), if_neg (by omega), if_neg (fun q => by omega), if_neg (fun q => by omega), if_pos ⟨h131, by omega⟩, if_neg h147]
                        exact xx_iret rfl trivial ⟨rfl, _, rfl, hF⟩
                · refine xx_aload_n (q := 107) rfl rfl rfl ?_
                  refine xx_getR (q := 110) rfl rfl rfl xS_11 (Nat.le_of_ble_eq_true rfl) rfl (hR.1 11 6 rfl) ?_
                  refine xx_iload_n (q := 111) rfl rfl rfl ?_
                  refine xx_iconst (q := 112) rfl rfl (by decide) ?_
                  refine xx_isubR (q := 113) rfl rfl (by omega) (by omega) ?_
                  refine xx_iconst (q := 114) rfl rfl (by decide) ?_
                  refine xx_aload_n (q := 115) rfl rfl rfl ?_
                  refine xx_getR (q := 118) rfl rfl rfl xS_11 (Nat.le_of_ble_eq_true rfl) rfl (hR.1 11 6 rfl) ?_
                  refine xx_iload_n (q := 119) rfl rfl rfl ?_
                  refine xx_iconst (q := 120) rfl rfl (by decide) ?_
                  refine xx_isubR (q := 121) rfl rfl (by omega) (by omega) ?_
                  refine xx_iaz (v := s (top - 1).toNat) (q := 122) rfl rfl xS_14 (by omega) (by omega) (hS _) ?_
                  refine xx_isub (q := 123) rfl rfl ?_
                  refine xr_isz (fun d => (∀ k, d 14 k = (fset s (top - 1).toNat (nrm (1 - (s (top - 1).toNat)))) k) ∧ ∀ b k, b ≠ 14 → d b k = D0 b k) (q := 124) rfl rfl xS_14 (by omega) (by omega) ⟨fun k => by rw [xui_f]; unfold fset; rw [hS k], fun b k hb => (xui_a hb).trans (hF b k hb)⟩ (fun D20 hD20 => ?_)
                  refine xx_goto (q := 199) rfl rfl ?_
                  refine xx_incz (q := 202) (loc2 := [_, _, _, _, _, _]) rfl rfl rfl (by omega) (by omega) rfl rfl ?_
                  refine xx_goto (q := 5) rfl rfl ?_
                  rw [ansL.eq_2, if_neg (fun q => q (by omega)), if_neg (by omega), if_neg (by omega), if_neg (fun q => by omega), if_pos ⟨h98, by omega⟩]
                  exact ih k (by omega) _ _ _ _ _ (hD20.1) (hD20.2) (by omega) (by omega) (by omega) (by omega)
            · refine xx_aload_n (q := 86) rfl rfl rfl ?_
              refine xx_getR (q := 89) rfl rfl rfl xS_11 (Nat.le_of_ble_eq_true rfl) rfl (hR.1 11 6 rfl) ?_
              refine xx_iload_n (q := 90) rfl rfl rfl ?_
              refine xx_iconst (q := 91) rfl rfl (by decide) ?_
              refine xx_isubR (q := 92) rfl rfl (by omega) (by omega) ?_
              refine xx_iaz (v := s (top - 1).toNat) (q := 93) rfl rfl xS_14 (by omega) (by omega) (hS _) ?_
              rw [ansL.eq_2, if_neg (fun q => q (by omega)), if_neg (by omega), if_neg (by omega), if_pos ⟨h77, by omega⟩]
              exact xx_iret rfl trivial ⟨rfl, _, rfl, hF⟩
        · refine xx_aload_n (q := 56) rfl rfl rfl ?_
          refine xx_getR (q := 59) rfl rfl rfl xS_11 (Nat.le_of_ble_eq_true rfl) rfl (hR.1 11 6 rfl) ?_
          refine xx_iload_n (q := 60) rfl rfl rfl ?_
          refine xx_incz (q := 63) (loc2 := [_, _, _, _, _, _]) rfl rfl rfl (by omega) (by omega) rfl rfl ?_
          refine xx_aload_n (q := 64) rfl rfl rfl ?_
          refine xx_iconst (q := 65) rfl rfl (by decide) ?_
          refine xx_iload (q := 67) rfl rfl rfl ?_
          refine xx_isubR (q := 68) rfl rfl (by omega) (by omega) ?_
          refine xx_iaz (v := f ((-1) - (cd (i).toNat)).toNat) (q := 69) rfl rfl (xSc_18 hc) (by omega) (by omega) ((hF _ _ (by have := isC_gt hc; omega)).trans (hf _ (hrl1 (by omega) (by omega)))) ?_
          refine xr_isz (fun d => (∀ k, d 14 k = (fset s (top).toNat (f ((-1) - (cd (i).toNat)).toNat)) k) ∧ ∀ b k, b ≠ 14 → d b k = D0 b k) (q := 70) rfl rfl xS_14 (by omega) (by omega) ⟨fun k => by rw [xui_f]; unfold fset; rw [hS k], fun b k hb => (xui_a hb).trans (hF b k hb)⟩ (fun D22 hD22 => ?_)
          refine xx_goto (q := 199) rfl rfl ?_
          refine xx_incz (q := 202) (loc2 := [_, _, _, _, _, _]) rfl rfl rfl (by omega) (by omega) rfl rfl ?_
          refine xx_goto (q := 5) rfl rfl ?_
          rw [ansL.eq_2, if_neg (fun q => q (by omega)), if_neg (by omega), if_pos (by omega)]
          exact ih k (by omega) _ _ _ _ _ (hD22.1) (hD22.2) (by omega) (by omega) (by omega) (by omega)
      · refine xx_aload_n (q := 35) rfl rfl rfl ?_
        refine xx_getR (q := 38) rfl rfl rfl xS_11 (Nat.le_of_ble_eq_true rfl) rfl (hR.1 11 6 rfl) ?_
        refine xx_iload_n (q := 39) rfl rfl rfl ?_
        refine xx_incz (q := 42) (loc2 := [_, _, _, _, _, _]) rfl rfl rfl (by omega) (by omega) rfl rfl ?_
        refine xx_iload (q := 44) rfl rfl rfl ?_
        refine xr_isz (fun d => (∀ k, d 14 k = (fset s (top).toNat (cd (i).toNat)) k) ∧ ∀ b k, b ≠ 14 → d b k = D0 b k) (q := 45) rfl rfl xS_14 (by omega) (by omega) ⟨fun k => by rw [xui_f]; unfold fset; rw [hS k], fun b k hb => (xui_a hb).trans (hF b k hb)⟩ (fun D24 hD24 => ?_)
        refine xx_goto (q := 199) rfl rfl ?_
        refine xx_incz (q := 202) (loc2 := [_, _, _, _, _, _]) rfl rfl rfl (by omega) (by omega) rfl rfl ?_
        refine xx_goto (q := 5) rfl rfl ?_
        rw [ansL.eq_2, if_neg (fun q => q (by omega)), if_pos (by omega)]
        exact ih k (by omega) _ _ _ _ _ (hD24.1) (hD24.2) (by omega) (by omega) (by omega) (by omega)
theorem c_answerH {n c cc : Nat} {R : Nat → Nat → Option Nat} {D0 : KK} (hR : RF R) (hc : isC c) (hcc : R 11 3 = some cc) (hcc2 : cc = 12 ∨ cc = 13) (f cd : Nat → Int) (oth len : Int) (hl1 : len ≤ 400) (hlen : D0 11 2 = len) (hcd : ∀ i : Nat, (i : Int) < len → D0 cc i = cd i) (hrl : ∀ i : Nat, (i : Int) < len → -15 ≤ cd i → cd i < 0 → rlH (-1 - cd i).toNat) (hf : ∀ k, rlH k → D0 (c + 18) k = f k) (hl0 : 0 ≤ len) : ∃ D', XC 2 64 [.inr (some 11), .inr (some (c + 18)), .inl oth] (xS n, R, D0) (some (.inl (ansL f cd oth len.toNat 0 0 (D0 14)))) (xS n, R, D') ∧ ∀ b k, b ≠ 14 → D' b k = D0 b k := by
  refine XE_of (Nat.le_of_ble_eq_true rfl) (Nat.le_of_ble_eq_true rfl) (loc := [_, _, _, _, _, _]) rfl ?_
  refine xx_iconst (q := 1) rfl rfl (by decide) ?_
  refine xx_istore_n (q := 2) (loc2 := [_, _, _, _, _, _]) rfl rfl (Nat.le_of_ble_eq_true rfl) rfl ?_
  refine xx_iconst (q := 3) rfl rfl (by decide) ?_
  refine xx_istore (q := 5) (loc2 := [_, _, _, _, _, _]) rfl rfl (Nat.le_of_ble_eq_true rfl) rfl ?_
  exact c_ans_LH hR hc hcc hcc2 f cd oth len hl1 hlen hcd hrl hf len.toNat D0 0 0 (D0 14) _ (fun _ => rfl) (fun _ _ _ => rfl) (by omega) (by omega) (by omega) (by omega)
theorem ansL_s {f c : Nat → Int} {oth : Int} : ∀ (k : Nat) (i top : Int) (s s2 : Nat → Int), 0 ≤ top → (∀ j : Nat, (j : Int) < top → s j = s2 j) → ansL f c oth k i top s = ansL f c oth k i top s2
  | 0, _, _, _, _, _, _ => rfl
  | k + 1, i, top, s, s2, h0, h => by
    have hp : ∀ (v : Int) (j : Nat), (j : Int) < top + 1 → fset s top.toNat v j = fset s2 top.toNat v j := fun v j hj => by
      unfold fset
      split
      · rfl
      · exact h j (by omega)
    unfold ansL
    split
    · rfl
    · split
      · exact ansL_s k _ _ _ _ (by omega) (hp _)
      · split
        · exact ansL_s k _ _ _ _ (by omega) (hp _)
        · split
          · exact h _ (by omega)
          · split
            · next q =>
              rw [h (top - 1).toNat (by omega)]
              exact ansL_s k _ _ _ _ (by omega) (fun j hj => by unfold fset; split; rfl; exact h j hj)
            · split
              · next q =>
                rw [h (top - 1).toNat (by omega), h (top - 2).toNat (by omega)]
                split
                · exact ansL_s k _ _ _ _ (by omega) (fun j hj => by omega)
                · rfl
              · split
                · rw [h (top - 1).toNat (by omega), h (top - 1 - 1).toNat (by omega)]
                  exact ansL_s k _ _ _ _ (by omega) (fun j hj => by unfold fset; split; rfl; exact h j (by omega))
                · exact ansL_s k _ _ _ _ (by omega) h
/-- the law in the cells: its code cd of length len -/
def LawC (l cc : Nat) (rl : Nat → Prop) (cd : Nat → Int) (len : Int) (D : KK) : Prop := (0 ≤ len ∧ len ≤ 400) ∧ D l 2 = len ∧ (∀ i : Nat, (i : Int) < len → D cc i = cd i) ∧ ∀ i : Nat, (i : Int) < len → -15 ≤ cd i → cd i < 0 → rl (-1 - cd i).toNat
def ansF (cd : Nat → Int) (len : Int) : LwF := fun f oth => ansL f cd oth len.toNat 0 0 (fun _ => 0)
theorem LawC_G {n cc : Nat} {R : Nat → Nat → Option Nat} {D : KK} {cd : Nat → Int} {len : Int} (hR : RF R) (hcc : R 7 3 = some cc) (hcc2 : cc = 8 ∨ cc = 9) (h : LawC 7 cc rlG cd len D) : LwG (ansF cd len) n R D := fun E c f oth hc h1 h2 => by
  obtain ⟨a1, a2, a3, a4⟩ := h
  obtain ⟨D2, q1, q2⟩ := c_answerG (n := n) hR hc hcc hcc2 f cd oth len a1.2 ((h1 7 2 (by omega) (by omega)).trans a2) (fun i hi => (h1 cc i (by omega) (by omega)).trans (a3 i hi)) a4 h2 a1.1
  rw [ansL_s len.toNat 0 0 (E 10) (fun _ => 0) (by omega) (fun j hj => by omega)] at q1
  exact ⟨D2, q1, q2⟩
theorem LawC_H {n cc : Nat} {R : Nat → Nat → Option Nat} {D : KK} {cd : Nat → Int} {len : Int} (hR : RF R) (hcc : R 11 3 = some cc) (hcc2 : cc = 12 ∨ cc = 13) (h : LawC 11 cc rlH cd len D) : LwH (ansF cd len) n R D := fun E c f oth hc h1 h2 => by
  obtain ⟨a1, a2, a3, a4⟩ := h
  obtain ⟨D2, q1, q2⟩ := c_answerH (n := n) hR hc hcc hcc2 f cd oth len a1.2 ((h1 11 2 (by omega) (by omega)).trans a2) (fun i hi => (h1 cc i (by omega) (by omega)).trans (a3 i hi)) a4 h2 a1.1
  rw [ansL_s len.toNat 0 0 (E 14) (fun _ => 0) (by omega) (fun j hj => by omega)] at q1
  exact ⟨D2, q1, q2⟩
