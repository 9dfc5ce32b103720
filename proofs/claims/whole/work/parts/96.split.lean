/-! The tape is split: the class. -/
theorem tk_in {ts : List Tk} {D E : KK} {t : Tk} (h : TkC ts D) (e7 : E 474 7 = (ts.length : Int) + 1) (e6 : E 476 = (xui D 476 ts.length t.1) 476) (e5 : E 477 = (xui D 477 ts.length t.2.1) 477) (e4 : E 478 = (xui D 478 ts.length t.2.2) 478) : TkC (ts ++ [t]) E := by
  refine ⟨e7.trans (by rw [List.length_append]; rfl), fun j hj => ?_⟩
  rw [e6, e5, e4, tkg_app hj]
  rw [List.length_append] at hj
  have hj2 : j < ts.length + 1 := hj
  rcases Nat.lt_or_ge j ts.length with q | q
  · rw [if_pos q, xui_j (by omega), xui_j (by omega), xui_j (by omega)]
    exact h.2 j q
  · rw [if_neg (by omega), show j = ts.length by omega, xui_s, xui_s, xui_s]
    exact ⟨rfl, rfl, rfl⟩
def FT (D E : KK) : Prop := ∀ x k, x ≠ 476 → x ≠ 477 → x ≠ 478 → (x = 474 → k ≠ 7 ∧ k ≠ 8) → E x k = D x k
theorem FT.rf {D : KK} : FT D D := fun _ _ _ _ _ _ => rfl
theorem FT.trans {D E F : KK} (h : FT D E) (g : FT E F) : FT D F := fun x k a b c d => (g x k a b c d).trans (h x k a b c d)
theorem FT.tp {bs : List Int} {D E : KK} (h : FT D E) (q : TpC bs D) : TpC bs E := q.fr (fun x k r => h x k (by omega) (by omega) (by omega) (by omega))
theorem FT.st {D E : KK} (h : FT D E) (q : StrD D) : StrD E := q.fr (fun x k r1 r2 => h x k (by omega) (by omega) (by omega) (by omega))
set_option maxHeartbeats 1000000 in
theorem c_addToken {n : Nat} {R : Nat → Nat → Option Nat} {D : KK} (hR : RF R) (ts : List Tk) (hK : TkC ts D) (hl : ts.length ≤ 400) (a b c : Int) : ∃ D', XC 1 100 [.inr (some 474), .inl a, .inl b, .inl c] (xS n, R, D) none (xS n, R, D') ∧ TkC (ts ++ [(a, b, c)]) D' ∧ D' 474 8 = D 474 8 ∧ FT D D' := by
  refine XE_of (Nat.le_of_ble_eq_true rfl) (Nat.le_of_ble_eq_true rfl) (loc := [_, _, _, _]) rfl ?_
  refine xx_aload_n (q := 1) rfl rfl rfl ?_
  refine xx_gez (q := 4) rfl rfl rfl xS_474 (Nat.le_of_ble_eq_true rfl) rfl (hK.1) ?_
  refine xx_aload_n (q := 5) rfl rfl rfl ?_
  refine xx_getR (q := 8) rfl rfl rfl xS_474 (Nat.le_of_ble_eq_true rfl) rfl (hR.1 474 4 rfl) ?_
  refine xx_alen (q := 9) rfl rfl xS_476 (by decide) (Nat.le_of_ble_eq_true rfl) ?_
  refine xx_icmp_ge (q := 52) (q2 := 12) rfl rfl rfl (fun h9 => (by exfalso; omega)) (fun _ => ?_)
  refine xx_aload_n (q := 13) rfl rfl rfl ?_
  refine xx_getR (q := 16) rfl rfl rfl xS_474 (Nat.le_of_ble_eq_true rfl) rfl (hR.1 474 4 rfl) ?_
  refine xx_aload_n (q := 17) rfl rfl rfl ?_
  refine xx_gez (q := 20) rfl rfl rfl xS_474 (Nat.le_of_ble_eq_true rfl) rfl (hK.1) ?_
  refine xx_iload_n (q := 21) rfl rfl rfl ?_
  refine xx_isz (q := 22) rfl rfl xS_476 (by omega) (by omega) rfl ?_
  refine xx_aload_n (q := 23) rfl rfl rfl ?_
  refine xx_getR (q := 26) rfl rfl rfl xS_474 (Nat.le_of_ble_eq_true rfl) rfl (hR.1 474 5 rfl) ?_
  refine xx_aload_n (q := 27) rfl rfl rfl ?_
  refine xx_gez (q := 30) rfl rfl rfl xS_474 (Nat.le_of_ble_eq_true rfl) rfl ((xui_a (by omega)).trans (hK.1)) ?_
  refine xx_iload_n (q := 31) rfl rfl rfl ?_
  refine xx_isz (q := 32) rfl rfl xS_477 (by omega) (by omega) rfl ?_
  refine xx_aload_n (q := 33) rfl rfl rfl ?_
  refine xx_getR (q := 36) rfl rfl rfl xS_474 (Nat.le_of_ble_eq_true rfl) rfl (hR.1 474 6 rfl) ?_
  refine xx_aload_n (q := 37) rfl rfl rfl ?_
  refine xx_gez (q := 40) rfl rfl rfl xS_474 (Nat.le_of_ble_eq_true rfl) rfl ((xui_a (by omega)).trans ((xui_a (by omega)).trans (hK.1))) ?_
  refine xx_iload_n (q := 41) rfl rfl rfl ?_
  refine xx_isz (q := 42) rfl rfl xS_478 (by omega) (by omega) rfl ?_
  refine xx_aload_n (q := 43) rfl rfl rfl ?_
  refine xx_dup (q := 44) rfl rfl ?_
  refine xx_gez (q := 47) rfl rfl rfl xS_474 (Nat.le_of_ble_eq_true rfl) rfl ((xui_a (by omega)).trans ((xui_a (by omega)).trans ((xui_a (by omega)).trans (hK.1)))) ?_
  refine xx_iconst (q := 48) rfl rfl (by decide) ?_
  refine xx_iaddR (q := 49) rfl rfl (by omega) (by omega) ?_
  refine xx_puz (q := 52) rfl rfl rfl xS_474 (Nat.le_of_ble_eq_true rfl) (Nat.le_of_ble_eq_true rfl) (fun h => by cases h) (Or.inl rfl) rfl ?_
  refine xx_vret rfl rfl ⟨rfl, _, rfl, ?_⟩
  have et : ((ts.length : Nat) : Int).toNat = ts.length := by omega
  rw [et]
  refine ⟨tk_in hK xui_s ?_ ?_ ?_, ?_, ?_⟩
  · funext k; rw [xui_a (by omega), xui_a (by omega), xui_a (by omega)]
  · funext k; rw [xui_a (by omega), xui_a (by omega), xui_f, xui_f]; congr 1
  · funext k; rw [xui_a (by omega), xui_f, xui_f]; congr 1
  · rw [xui_j (by omega), xui_a (by omega), xui_a (by omega), xui_a (by omega)]
  · intro x k q1 q2 q3 q4
    rw [show ∀ E : KK, xui E 474 7 ((ts.length : Int) + 1) x k = E x k from fun E => if_neg (fun r => (q4 r.1).1 r.2), xui_a q3, xui_a q2, xui_a q1]
set_option maxHeartbeats 1000000 in
theorem c_sp_A {n : Nat} {R : Nat → Nat → Option Nat} {D : KK} {Q : XQ} (hR : RF R) (bs : List Int) (hT : TpC bs D) (hl4 : bs.length ≤ 400) (hby : ∀ j, 0 ≤ bs.getD j 0 ∧ bs.getD j 0 ≤ 255) (r cc f : Int) : ∀ (k : Nat) (i : Nat), i + k = bs.length → XX (XC 4) 92 Q 75 [some (.inr (some 474)), some (.inl ((rnL bs k i : Nat) : Int)), some (.inl r), some (.inl cc), some (.inl f)] [] (xS n, R, D) → XX (XC 4) 92 (Q) 49 [some (.inr (some 474)), some (.inl (i : Int)), some (.inl r), some (.inl cc), some (.inl f)] [] (xS n, R, D) := by
  intro k
  induction k using Nat.strongRecOn with
  | ind k ih =>
  intro i hk kx
  refine xx_iload_n (q := 50) rfl rfl rfl ?_
  refine xx_aload_n (q := 51) rfl rfl rfl ?_
  refine xx_gez (q := 54) rfl rfl rfl xS_474 (Nat.le_of_ble_eq_true rfl) rfl hT.1 ?_
  refine xx_icmp_ge (q := 75) (q2 := 57) rfl rfl rfl (fun h54 => ?_) (fun h54 => ?_)
  · obtain rfl : k = 0 := by omega
    exact kx
  · refine xx_aload_n (q := 58) rfl rfl rfl ?_
    refine xx_getR (q := 61) rfl rfl rfl xS_474 (Nat.le_of_ble_eq_true rfl) rfl (hR.1 474 3 rfl) ?_
    refine xx_iload_n (q := 62) rfl rfl rfl ?_
    refine xx_iaz (v := bs.getD ((i : Int)).toNat 0) (q := 63) rfl rfl xS_475 (by omega) (by omega) (hT.2 _ (by omega)) ?_
    have hyb1 := hby ((i : Int)).toNat
    refine xx_callS (q := 66) (As := [_]) (rest := []) rfl rfl rfl (Or.inl rfl) rfl rfl (Nat.le_of_ble_eq_true rfl) (XCm (c_isLetter (bs.getD ((i : Int)).toNat 0)) rfl) rfl ?_
    refine xx_ifb_eq (q := 75) (q2 := 69) rfl rfl rfl (fun h66 => ?_) (fun h66 => ?_)
    · obtain ⟨k, rfl⟩ : ∃ k2, k = k2 + 1 := ⟨k - 1, by omega⟩
      rw [show (i : Int).toNat = i by omega] at h66
      rw [show rnL bs (k + 1) i = i from if_neg (fun q => h66 q.2)] at kx
      exact kx
    · refine xx_incz (q := 72) (loc2 := [_, _, _, _, _]) rfl rfl rfl (by omega) (by omega) rfl rfl ?_
      refine xx_goto (q := 49) rfl rfl ?_
      obtain ⟨k, rfl⟩ : ∃ k2, k = k2 + 1 := ⟨k - 1, by omega⟩
      rw [show (i : Int).toNat = i by omega] at h66
      rw [show rnL bs (k + 1) i = rnL bs k (i + 1) from if_pos ⟨by omega, h66⟩] at kx
      rw [show (i : Int) + 1 = ((i + 1 : Nat) : Int) by omega]
      exact ih k (by omega) (i + 1) (by omega) kx
set_option maxHeartbeats 1000000 in
theorem c_sp_B {n : Nat} {R : Nat → Nat → Option Nat} {D : KK} {Q : XQ} (hR : RF R) (bs : List Int) (hT : TpC bs D) (hl4 : bs.length ≤ 400) (hby : ∀ j, 0 ≤ bs.getD j 0 ∧ bs.getD j 0 ≤ 255) (r cc f : Int) : ∀ (k : Nat) (i : Nat), i + k = bs.length → XX (XC 4) 92 Q 125 [some (.inr (some 474)), some (.inl ((rnD bs k i : Nat) : Int)), some (.inl r), some (.inl cc), some (.inl f)] [] (xS n, R, D) → XX (XC 4) 92 (Q) 99 [some (.inr (some 474)), some (.inl (i : Int)), some (.inl r), some (.inl cc), some (.inl f)] [] (xS n, R, D) := by
  intro k
  induction k using Nat.strongRecOn with
  | ind k ih =>
  intro i hk kx
  refine xx_iload_n (q := 100) rfl rfl rfl ?_
  refine xx_aload_n (q := 101) rfl rfl rfl ?_
  refine xx_gez (q := 104) rfl rfl rfl xS_474 (Nat.le_of_ble_eq_true rfl) rfl hT.1 ?_
  refine xx_icmp_ge (q := 125) (q2 := 107) rfl rfl rfl (fun h104 => ?_) (fun h104 => ?_)
  · obtain rfl : k = 0 := by omega
    exact kx
  · refine xx_aload_n (q := 108) rfl rfl rfl ?_
    refine xx_getR (q := 111) rfl rfl rfl xS_474 (Nat.le_of_ble_eq_true rfl) rfl (hR.1 474 3 rfl) ?_
    refine xx_iload_n (q := 112) rfl rfl rfl ?_
    refine xx_iaz (v := bs.getD ((i : Int)).toNat 0) (q := 113) rfl rfl xS_475 (by omega) (by omega) (hT.2 _ (by omega)) ?_
    have hyb1 := hby ((i : Int)).toNat
    refine xx_callS (q := 116) (As := [_]) (rest := []) rfl rfl rfl (Or.inl rfl) rfl rfl (Nat.le_of_ble_eq_true rfl) (XCm (c_isDigit (bs.getD ((i : Int)).toNat 0)) rfl) rfl ?_
    refine xx_ifb_eq (q := 125) (q2 := 119) rfl rfl rfl (fun h116 => ?_) (fun h116 => ?_)
    · obtain ⟨k, rfl⟩ : ∃ k2, k = k2 + 1 := ⟨k - 1, by omega⟩
      rw [show (i : Int).toNat = i by omega] at h116
      rw [show rnD bs (k + 1) i = i from if_neg (fun q => h116 q.2)] at kx
      exact kx
    · refine xx_incz (q := 122) (loc2 := [_, _, _, _, _]) rfl rfl rfl (by omega) (by omega) rfl rfl ?_
      refine xx_goto (q := 99) rfl rfl ?_
      obtain ⟨k, rfl⟩ : ∃ k2, k = k2 + 1 := ⟨k - 1, by omega⟩
      rw [show (i : Int).toNat = i by omega] at h116
      rw [show rnD bs (k + 1) i = rnD bs k (i + 1) from if_pos ⟨by omega, h116⟩] at kx
      rw [show (i : Int) + 1 = ((i + 1 : Nat) : Int) by omega]
      exact ih k (by omega) (i + 1) (by omega) kx
set_option maxHeartbeats 1000000 in
theorem c_sp_1 {n : Nat} {R : Nat → Nat → Option Nat} {D : KK} {Q : XQ} (hR : RF R) (bs : List Int) (hT : TpC bs D) (hl4 : bs.length ≤ 400) (hby : ∀ j, 0 ≤ bs.getD j 0 ∧ bs.getD j 0 ≤ 255) (hs : StrD D) (ts : List Tk) (hK : TkC ts D) (hts : ts.length ≤ 400) (r cc : Int) (hr0 : 0 ≤ r) (hr : r < 400) (i j : Nat) (hij : i ≤ j) (hj : j ≤ bs.length) (kx : ∀ (D2 : KK) (x y : Option XV), TkC (ts ++ [(kwF bs i j, (i : Int), 0)]) D2 → D2 474 8 = D 474 8 → FT D D2 → XX (XC 4) 92 Q 14 [some (.inr (some 474)), some (.inl (j : Int)), some (.inl (r + 1)), x, y] [] (xS n, R, D2)) : XX (XC 4) 92 Q 75 [some (.inr (some 474)), some (.inl (j : Int)), some (.inl r), some (.inl cc), some (.inl (i : Int))] [] (xS n, R, D) := by
  refine xx_aload_n (q := 76) rfl rfl rfl ?_
  refine xx_aload_n (q := 77) rfl rfl rfl ?_
  refine xx_iload (q := 79) rfl rfl rfl ?_
  refine xx_iload_n (q := 80) rfl rfl rfl ?_
  refine xx_callV (q := 83) (As := [_, _]) (rest := [_]) rfl rfl rfl (Or.inl rfl) rfl rfl (Nat.le_of_ble_eq_true rfl) xS_474 (XCm (c_keyword (n := n) hR bs hT hl4 hby hs (i : Int) (j : Int) (by omega) (by omega) (by omega)) rfl) rfl ?_
  rw [show (i : Int).toNat = i by omega, show (j : Int).toNat = j by omega]
  refine xx_iload (q := 85) rfl rfl rfl ?_
  refine xx_iconst (q := 86) rfl rfl (by decide) ?_
  obtain ⟨D1, hx1, hK1, h81, hF1⟩ := c_addToken (n := n) hR ts hK (by omega) (kwF bs i j) (i : Int) 0
  refine xx_callV (q := 89) (As := [_, _, _]) (rest := []) rfl rfl rfl (Or.inl rfl) rfl rfl (Nat.le_of_ble_eq_true rfl) xS_474 (XCm hx1 rfl) rfl ?_
  refine xx_goto (q := 194) rfl rfl ?_
  refine xx_incz (q := 197) (loc2 := [_, _, _, _, _]) rfl rfl rfl (by omega) (by omega) rfl rfl ?_
  refine xx_goto (q := 14) rfl rfl ?_
  exact kx _ _ _ hK1 h81 hF1
set_option maxHeartbeats 1000000 in
theorem c_sp_2 {n : Nat} {R : Nat → Nat → Option Nat} {D : KK} {Q : XQ} (hR : RF R) (bs : List Int) (hT : TpC bs D) (hl4 : bs.length ≤ 400) (hby : ∀ j, 0 ≤ bs.getD j 0 ∧ bs.getD j 0 ≤ 255) (hs : StrD D) (ts : List Tk) (hK : TkC ts D) (hts : ts.length ≤ 400) (r cc : Int) (hr0 : 0 ≤ r) (hr : r < 400) (i j : Nat) (hij : i ≤ j) (hj : j ≤ bs.length) (kx : ∀ (D2 : KK) (x y : Option XV), TkC (ts ++ [((if (j : Int) - (i : Int) ≤ 4 then 256 else 257), (i : Int), nuF bs i j)]) D2 → D2 474 8 = D 474 8 → FT D D2 → XX (XC 4) 92 Q 14 [some (.inr (some 474)), some (.inl (j : Int)), some (.inl (r + 1)), x, y] [] (xS n, R, D2)) : XX (XC 4) 92 Q 125 [some (.inr (some 474)), some (.inl (j : Int)), some (.inl r), some (.inl cc), some (.inl (i : Int))] [] (xS n, R, D) := by
  refine xx_aload_n (q := 126) rfl rfl rfl ?_
  refine xx_iload_n (q := 127) rfl rfl rfl ?_
  refine xx_iload (q := 129) rfl rfl rfl ?_
  refine xx_isubR (q := 130) rfl rfl (by omega) (by omega) ?_
  refine xx_iconst (q := 131) rfl rfl (by decide) ?_
  refine xx_icmp_gt (q := 140) (q2 := 134) rfl rfl rfl (fun h131 => ?_) (fun h131 => ?_)
  · refine xx_sipush (q := 143) rfl rfl (by decide) ?_
    refine xx_iload (q := 145) rfl rfl rfl ?_
    refine xx_aload_n (q := 146) rfl rfl rfl ?_
    refine xx_iload (q := 148) rfl rfl rfl ?_
    refine xx_iload_n (q := 149) rfl rfl rfl ?_
    refine xx_callV (q := 152) (As := [_, _]) (rest := [_, _, _]) rfl rfl rfl (Or.inl rfl) rfl rfl (Nat.le_of_ble_eq_true rfl) xS_474 (XCm (c_number (n := n) hR bs hT hl4 hby (i : Int) (j : Int) (by omega) (by omega) (by omega)) rfl) rfl ?_
    rw [show (i : Int).toNat = i by omega, show (j : Int).toNat = j by omega]
    obtain ⟨D1, hx1, hK1, h81, hF1⟩ := c_addToken (n := n) hR ts hK (by omega) 257 (i : Int) (nuF bs i j)
    refine xx_callV (q := 155) (As := [_, _, _]) (rest := []) rfl rfl rfl (Or.inl rfl) rfl rfl (Nat.le_of_ble_eq_true rfl) xS_474 (XCm hx1 rfl) rfl ?_
    refine xx_goto (q := 194) rfl rfl ?_
    refine xx_incz (q := 197) (loc2 := [_, _, _, _, _]) rfl rfl rfl (by omega) (by omega) rfl rfl ?_
    refine xx_goto (q := 14) rfl rfl ?_
    rw [show (if (j : Int) - (i : Int) ≤ 4 then (256 : Int) else 257) = 257 from if_neg (by omega)] at kx
    exact kx _ _ _ hK1 h81 hF1
  · refine xx_sipush (q := 137) rfl rfl (by decide) ?_
    refine xx_goto (q := 143) rfl rfl ?_
    refine xx_iload (q := 145) rfl rfl rfl ?_
    refine xx_aload_n (q := 146) rfl rfl rfl ?_
    refine xx_iload (q := 148) rfl rfl rfl ?_
    refine xx_iload_n (q := 149) rfl rfl rfl ?_
    refine xx_callV (q := 152) (As := [_, _]) (rest := [_, _, _]) rfl rfl rfl (Or.inl rfl) rfl rfl (Nat.le_of_ble_eq_true rfl) xS_474 (XCm (c_number (n := n) hR bs hT hl4 hby (i : Int) (j : Int) (by omega) (by omega) (by omega)) rfl) rfl ?_
    rw [show (i : Int).toNat = i by omega, show (j : Int).toNat = j by omega]
    obtain ⟨D2, hx2, hK2, h82, hF2⟩ := c_addToken (n := n) hR ts hK (by omega) 256 (i : Int) (nuF bs i j)
    refine xx_callV (q := 155) (As := [_, _, _]) (rest := []) rfl rfl rfl (Or.inl rfl) rfl rfl (Nat.le_of_ble_eq_true rfl) xS_474 (XCm hx2 rfl) rfl ?_
    refine xx_goto (q := 194) rfl rfl ?_
    refine xx_incz (q := 197) (loc2 := [_, _, _, _, _]) rfl rfl rfl (by omega) (by omega) rfl rfl ?_
    refine xx_goto (q := 14) rfl rfl ?_
    rw [show (if (j : Int) - (i : Int) ≤ 4 then (256 : Int) else 257) = 256 from if_pos (by omega)] at kx
    exact kx _ _ _ hK2 h82 hF2
set_option maxHeartbeats 1000000 in
theorem c_sp_3 {n : Nat} {R : Nat → Nat → Option Nat} {D : KK} {Q : XQ} (hR : RF R) (bs : List Int) (hT : TpC bs D) (hl4 : bs.length ≤ 400) (hby : ∀ j, 0 ≤ bs.getD j 0 ∧ bs.getD j 0 ≤ 255) (hs : StrD D) (ts : List Tk) (hK : TkC ts D) (hts : ts.length ≤ 400) (r cc : Int) (hr0 : 0 ≤ r) (hr : r < 400) (i : Nat) (hi : i < bs.length) (hc0 : 0 ≤ cc) (hc1 : cc ≤ 255) (kx0 : (cc = 32 ∨ cc = 10) → ∀ (D2 : KK) (x y : Option XV), TkC (ts) D2 → D2 474 8 = D 474 8 → FT D D2 → XX (XC 4) 92 Q 14 [some (.inr (some 474)), some (.inl ((i : Int) + 1)), some (.inl (r + 1)), x, y] [] (xS n, R, D2)) (kx1 : ¬ (cc = 32 ∨ cc = 10) → ∀ (D2 : KK) (x y : Option XV), TkC (ts ++ [((if sgP cc then cc else 257), (i : Int), 0)]) D2 → D2 474 8 = D 474 8 → FT D D2 → XX (XC 4) 92 Q 14 [some (.inr (some 474)), some (.inl ((i : Int) + 1)), some (.inl (r + 1)), x, y] [] (xS n, R, D2)) : XX (XC 4) 92 Q 158 [some (.inr (some 474)), some (.inl ((i : Int) + 1)), some (.inl r), some (.inl cc), some (.inl (i : Int))] [] (xS n, R, D) := by
  have hic : xi2c cc = cc := by have := (i2_b cc.toNat (by omega)).1; rw [show ((cc.toNat : Nat) : Int) = cc by omega] at this; exact this
  have hix : 0 ≤ ixL (xi2b (xi2c cc)) 10 0 ↔ sgP cc := by rw [hic]; have := ixL_s cc.toNat (by omega); rw [show ((cc.toNat : Nat) : Int) = cc by omega] at this; exact this
  refine xx_iload_n (q := 159) rfl rfl rfl ?_
  refine xx_bipush (q := 161) rfl rfl (by decide) ?_
  refine xx_icmp_eq (q := 194) (q2 := 164) rfl rfl rfl (fun h161 => ?_) (fun h161 => ?_)
  · refine xx_incz (q := 197) (loc2 := [_, _, _, _, _]) rfl rfl rfl (by omega) (by omega) rfl rfl ?_
    refine xx_goto (q := 14) rfl rfl ?_
    exact kx0 (Or.inl h161) _ _ _ hK rfl FT.rf
  · refine xx_iload_n (q := 165) rfl rfl rfl ?_
    refine xx_bipush (q := 167) rfl rfl (by decide) ?_
    refine xx_icmp_eq (q := 194) (q2 := 170) rfl rfl rfl (fun h167 => ?_) (fun h167 => ?_)
    · refine xx_incz (q := 197) (loc2 := [_, _, _, _, _]) rfl rfl rfl (by omega) (by omega) rfl rfl ?_
      refine xx_goto (q := 14) rfl rfl ?_
      exact kx0 (Or.inr h167) _ _ _ hK rfl FT.rf
    · refine xx_aload_n (q := 171) rfl rfl rfl ?_
      refine xx_ldcS (q := 173) rfl rfl rfl ?_
      refine xx_iload_n (q := 174) rfl rfl rfl ?_
      refine xx_i2c (q := 175) rfl rfl ?_
      refine xx_callV (q := 178) (As := [_]) (rest := [_]) rfl rfl rfl (Or.inl rfl) rfl rfl (Nat.le_of_ble_eq_true rfl) xS_2 (XCm (j_ix1 (n := n) hR hs (xi2c cc) (by omega) (by omega)) rfl) rfl ?_
      refine xx_if_lt (q := 185) (q2 := 181) rfl rfl rfl (fun h178 => ?_) (fun h178 => ?_)
      · refine xx_sipush (q := 188) rfl rfl (by decide) ?_
        refine xx_iload (q := 190) rfl rfl rfl ?_
        refine xx_iconst (q := 191) rfl rfl (by decide) ?_
        obtain ⟨D1, hx1, hK1, h81, hF1⟩ := c_addToken (n := n) hR ts hK (by omega) 257 (i : Int) 0
        refine xx_callV (q := 194) (As := [_, _, _]) (rest := []) rfl rfl rfl (Or.inl rfl) rfl rfl (Nat.le_of_ble_eq_true rfl) xS_474 (XCm hx1 rfl) rfl ?_
        refine xx_incz (q := 197) (loc2 := [_, _, _, _, _]) rfl rfl rfl (by omega) (by omega) rfl rfl ?_
        refine xx_goto (q := 14) rfl rfl ?_
        rw [show (if sgP cc then cc else 257) = 257 from if_neg (fun q => by have := hix.mpr q; omega)] at kx1
        exact kx1 (fun q => q.elim h161 h167) _ _ _ hK1 h81 hF1
      · refine xx_iload_n (q := 182) rfl rfl rfl ?_
        refine xx_goto (q := 188) rfl rfl ?_
        refine xx_iload (q := 190) rfl rfl rfl ?_
        refine xx_iconst (q := 191) rfl rfl (by decide) ?_
        obtain ⟨D2, hx2, hK2, h82, hF2⟩ := c_addToken (n := n) hR ts hK (by omega) cc (i : Int) 0
        refine xx_callV (q := 194) (As := [_, _, _]) (rest := []) rfl rfl rfl (Or.inl rfl) rfl rfl (Nat.le_of_ble_eq_true rfl) xS_474 (XCm hx2 rfl) rfl ?_
        refine xx_incz (q := 197) (loc2 := [_, _, _, _, _]) rfl rfl rfl (by omega) (by omega) rfl rfl ?_
        refine xx_goto (q := 14) rfl rfl ?_
        rw [show (if sgP cc then cc else 257) = cc from if_pos (hix.mp (by omega))] at kx1
        exact kx1 (fun q => q.elim h161 h167) _ _ _ hK2 h82 hF2
set_option maxHeartbeats 4000000 in
theorem c_sp_L {n : Nat} {R : Nat → Nat → Option Nat} {D0 : KK} (hR : RF R) (bs : List Int) (hl4 : bs.length ≤ 400) (hby : ∀ j, 0 ≤ bs.getD j 0 ∧ bs.getD j 0 ≤ 255) : ∀ (k : Nat) (ts : List Tk) (D : KK) (i : Nat) (r : Int) (x y : Option XV), TpC bs D → StrD D → TkC ts D → D 474 8 = D0 474 8 → FT D0 D → i ≤ bs.length → bs.length ≤ i + k → 0 ≤ r → r ≤ (i : Int) → ts.length ≤ i → XX (XC 4) 92 (XP none (xS n) R (fun D' => TkC (ts ++ lexL bs k i) D' ∧ D' 474 8 = D0 474 8 ∧ FT D0 D')) 14 [some (.inr (some 474)), some (.inl (i : Int)), some (.inl r), x, y] [] (xS n, R, D) := by
  intro k
  induction k using Nat.strongRecOn with
  | ind k ih =>
  intro ts D i r x y hT hs hK h8 hF hi hk h0 hri hts
  refine xx_iload_n (q := 15) rfl rfl rfl ?_
  refine xx_sipush (q := 18) rfl rfl (by decide) ?_
  refine xx_icmp_ge (q := 200) (q2 := 21) rfl rfl rfl (fun h18 => ?_) (fun h18 => ?_)
  · refine xx_aload_n (q := 201) rfl rfl rfl ?_
    refine xx_sipush (q := 204) rfl rfl (by decide) ?_
    refine xx_aload_n (q := 205) rfl rfl rfl ?_
    refine xx_gez (q := 208) rfl rfl rfl xS_474 (Nat.le_of_ble_eq_true rfl) rfl hT.1 ?_
    refine xx_iconst (q := 209) rfl rfl (by decide) ?_
    obtain ⟨D1, hx1, hK1, h81, hF1⟩ := c_addToken (n := n) hR ts hK (by omega) 258 (bs.length : Int) 0
    refine xx_callV (q := 212) (As := [_, _, _]) (rest := []) rfl rfl rfl (Or.inl rfl) rfl rfl (Nat.le_of_ble_eq_true rfl) xS_474 (XCm hx1 rfl) rfl ?_
    have hlx : lexL bs k i = [(258, (bs.length : Int), 0)] := by
      cases k with
      | zero => rfl
      | succ k => exact if_pos (by omega)
    rw [hlx]
    exact xx_vret rfl rfl ⟨rfl, _, rfl, hK1, h81.trans h8, hF.trans hF1⟩
  · refine xx_iload_n (q := 22) rfl rfl rfl ?_
    refine xx_aload_n (q := 23) rfl rfl rfl ?_
    refine xx_gez (q := 26) rfl rfl rfl xS_474 (Nat.le_of_ble_eq_true rfl) rfl hT.1 ?_
    refine xx_icmp_ge (q := 200) (q2 := 29) rfl rfl rfl (fun h26 => ?_) (fun h26 => ?_)
    · refine xx_aload_n (q := 201) rfl rfl rfl ?_
      refine xx_sipush (q := 204) rfl rfl (by decide) ?_
      refine xx_aload_n (q := 205) rfl rfl rfl ?_
      refine xx_gez (q := 208) rfl rfl rfl xS_474 (Nat.le_of_ble_eq_true rfl) rfl hT.1 ?_
      refine xx_iconst (q := 209) rfl rfl (by decide) ?_
      obtain ⟨D2, hx2, hK2, h82, hF2⟩ := c_addToken (n := n) hR ts hK (by omega) 258 (bs.length : Int) 0
      refine xx_callV (q := 212) (As := [_, _, _]) (rest := []) rfl rfl rfl (Or.inl rfl) rfl rfl (Nat.le_of_ble_eq_true rfl) xS_474 (XCm hx2 rfl) rfl ?_
      have hlx : lexL bs k i = [(258, (bs.length : Int), 0)] := by
        cases k with
        | zero => rfl
        | succ k => exact if_pos (by omega)
      rw [hlx]
      exact xx_vret rfl rfl ⟨rfl, _, rfl, hK2, h82.trans h8, hF.trans hF2⟩
    · refine xx_aload_n (q := 30) rfl rfl rfl ?_
      refine xx_getR (q := 33) rfl rfl rfl xS_474 (Nat.le_of_ble_eq_true rfl) rfl (hR.1 474 3 rfl) ?_
      refine xx_iload_n (q := 34) rfl rfl rfl ?_
      refine xx_iaz (v := bs.getD ((i : Int)).toNat 0) (q := 35) rfl rfl xS_475 (by omega) (by omega) (hT.2 _ (by omega)) ?_
      have hyb3 := hby ((i : Int)).toNat
      refine xx_istore_n (q := 36) (loc2 := [_, _, _, _, _]) rfl rfl (Nat.le_of_ble_eq_true rfl) rfl ?_
      refine xx_iload_n (q := 37) rfl rfl rfl ?_
      refine xx_istore (q := 39) (loc2 := [_, _, _, _, _]) rfl rfl (Nat.le_of_ble_eq_true rfl) rfl ?_
      refine xx_incz (q := 42) (loc2 := [_, _, _, _, _]) rfl rfl rfl (by omega) (by omega) rfl rfl ?_
      refine xx_iload_n (q := 43) rfl rfl rfl ?_
      refine xx_callS (q := 46) (As := [_]) (rest := []) rfl rfl rfl (Or.inl rfl) rfl rfl (Nat.le_of_ble_eq_true rfl) (XCm (c_isLetter (bs.getD ((i : Int)).toNat 0)) rfl) rfl ?_
      refine xx_ifb_eq (q := 92) (q2 := 49) rfl rfl rfl (fun h46 => ?_) (fun h46 => ?_)
      · refine xx_iload_n (q := 93) rfl rfl rfl ?_
        refine xx_callS (q := 96) (As := [_]) (rest := []) rfl rfl rfl (Or.inl rfl) rfl rfl (Nat.le_of_ble_eq_true rfl) (XCm (c_isDigit (bs.getD ((i : Int)).toNat 0)) rfl) rfl ?_
        refine xx_ifb_eq (q := 158) (q2 := 99) rfl rfl rfl (fun h96 => ?_) (fun h96 => ?_)
        · obtain ⟨k, rfl⟩ : ∃ k2, k = k2 + 1 := ⟨k - 1, by omega⟩
          rw [show (i : Int).toNat = i by omega]
          rw [show (i : Int).toNat = i by omega] at h46 h96
          have hyy := hby i
          refine c_sp_3 hR bs hT hl4 hby hs ts hK (by omega) r _ h0 (by omega) i (by omega) hyy.1 hyy.2 (fun qc D2 x2 y2 hK2 h82 hF2 => ?_) (fun qc D2 x2 y2 hK2 h82 hF2 => ?_)
          · rw [show lexL bs (k + 1) i = lexL bs k (i + 1) from (if_neg (by omega)).trans ((if_neg h46).trans ((if_neg h96).trans (if_pos qc))), show (i : Int) + 1 = ((i + 1 : Nat) : Int) by omega]
            exact ih k (by omega) _ D2 (i + 1) (r + 1) x2 y2 (hF2.tp hT) (hF2.st hs) hK2 (h82.trans h8) (hF.trans hF2) (by omega) (by omega) (by omega) (by omega) (by omega)
          · have hlx : ts ++ lexL bs (k + 1) i = (ts ++ [((if sgP (bs.getD i 0) then bs.getD i 0 else 257), (i : Int), 0)]) ++ lexL bs k (i + 1) := by rw [List.append_assoc]; exact congrArg (ts ++ ·) ((if_neg (by omega)).trans ((if_neg h46).trans ((if_neg h96).trans (if_neg qc))))
            rw [hlx, show (i : Int) + 1 = ((i + 1 : Nat) : Int) by omega]
            exact ih k (by omega) _ D2 (i + 1) (r + 1) x2 y2 (hF2.tp hT) (hF2.st hs) hK2 (h82.trans h8) (hF.trans hF2) (by omega) (by omega) (by omega) (by omega) (by rw [List.length_append]; show ts.length + 1 ≤ _; omega)
        · obtain ⟨k, rfl⟩ : ∃ k2, k = k2 + 1 := ⟨k - 1, by omega⟩
          rw [show (i : Int).toNat = i by omega]
          rw [show (i : Int).toNat = i by omega] at h46 h96
          have hb := rD_b (bs := bs) (j := i + 1) (by omega)
          have hlx : ts ++ lexL bs (k + 1) i = (ts ++ [((if (rD bs (i + 1) : Int) - (i : Int) ≤ 4 then 256 else 257), (i : Int), nuF bs i (rD bs (i + 1)))]) ++ lexL bs k (rD bs (i + 1)) := by rw [List.append_assoc]; exact congrArg (ts ++ ·) ((if_neg (by omega)).trans ((if_neg h46).trans (if_pos h96)))
          rw [show (i : Int) + 1 = ((i + 1 : Nat) : Int) by omega]
          refine c_sp_B hR bs hT hl4 hby r _ _ (bs.length - (i + 1)) (i + 1) (by omega) ?_
          refine c_sp_2 hR bs hT hl4 hby hs ts hK (by omega) r _ h0 (by omega) i (rD bs (i + 1)) (by omega) hb.2 (fun D2 x2 y2 hK2 h82 hF2 => ?_)
          rw [hlx]
          exact ih k (by omega) _ D2 (rD bs (i + 1)) (r + 1) x2 y2 (hF2.tp hT) (hF2.st hs) hK2 (h82.trans h8) (hF.trans hF2) (by omega) (by omega) (by omega) (by omega) (by rw [List.length_append]; show ts.length + 1 ≤ _; omega)
      · obtain ⟨k, rfl⟩ : ∃ k2, k = k2 + 1 := ⟨k - 1, by omega⟩
        rw [show (i : Int).toNat = i by omega]
        rw [show (i : Int).toNat = i by omega] at h46
        have hb := rL_b (bs := bs) (j := i + 1) (by omega)
        have hlx : ts ++ lexL bs (k + 1) i = (ts ++ [(kwF bs i (rL bs (i + 1)), (i : Int), 0)]) ++ lexL bs k (rL bs (i + 1)) := by rw [List.append_assoc]; exact congrArg (ts ++ ·) ((if_neg (by omega)).trans (if_pos h46))
        rw [show (i : Int) + 1 = ((i + 1 : Nat) : Int) by omega]
        refine c_sp_A hR bs hT hl4 hby r _ _ (bs.length - (i + 1)) (i + 1) (by omega) ?_
        refine c_sp_1 hR bs hT hl4 hby hs ts hK (by omega) r _ h0 (by omega) i (rL bs (i + 1)) (by omega) hb.2 (fun D2 x2 y2 hK2 h82 hF2 => ?_)
        rw [hlx]
        exact ih k (by omega) _ D2 (rL bs (i + 1)) (r + 1) x2 y2 (hF2.tp hT) (hF2.st hs) hK2 (h82.trans h8) (hF.trans hF2) (by omega) (by omega) (by omega) (by omega) (by rw [List.length_append]; show ts.length + 1 ≤ _; omega)
set_option maxHeartbeats 1000000 in
theorem c_split {n : Nat} {R : Nat → Nat → Option Nat} {D : KK} (hR : RF R) (bs : List Int) (hT : TpC bs D) (hl4 : bs.length ≤ 400) (hby : ∀ j, 0 ≤ bs.getD j 0 ∧ bs.getD j 0 ≤ 255) (hs : StrD D) : ∃ D', XC 5 92 [.inr (some 474)] (xS n, R, D) none (xS n, R, D') ∧ TkC (lexL bs bs.length 0) D' ∧ D' 474 8 = 0 ∧ FT D D' := by
  refine XE_of (Nat.le_of_ble_eq_true rfl) (Nat.le_of_ble_eq_true rfl) (loc := [_, _, _, _, _]) rfl ?_
  refine xx_aload_n (q := 1) rfl rfl rfl ?_
  refine xx_iconst (q := 2) rfl rfl (by decide) ?_
  refine xx_puz (q := 5) rfl rfl rfl xS_474 (Nat.le_of_ble_eq_true rfl) (Nat.le_of_ble_eq_true rfl) (fun h => by cases h) (Or.inl rfl) rfl ?_
  refine xx_aload_n (q := 6) rfl rfl rfl ?_
  refine xx_iconst (q := 7) rfl rfl (by decide) ?_
  refine xx_puz (q := 10) rfl rfl rfl xS_474 (Nat.le_of_ble_eq_true rfl) (Nat.le_of_ble_eq_true rfl) (fun h => by cases h) (Or.inl rfl) rfl ?_
  refine xx_iconst (q := 11) rfl rfl (by decide) ?_
  refine xx_istore_n (q := 12) (loc2 := [_, _, _, _, _]) rfl rfl (Nat.le_of_ble_eq_true rfl) rfl ?_
  refine xx_iconst (q := 13) rfl rfl (by decide) ?_
  refine xx_istore_n (q := 14) (loc2 := [_, _, _, _, _]) rfl rfl (Nat.le_of_ble_eq_true rfl) rfl ?_
  have hf : FT D (xui (xui D 474 7 0) 474 8 0) := fun x k q1 q2 q3 q4 => (if_neg (fun r => (q4 r.1).2 r.2)).trans (if_neg (fun r => (q4 r.1).1 r.2))
  refine XP_mono (fun D3 h => ⟨h.1, h.2.1.trans xui_s, hf.trans h.2.2⟩) (c_sp_L hR bs hl4 hby bs.length [] _ 0 0 _ _ (hf.tp hT) (hf.st hs) ⟨(xui_j (by omega)).trans xui_s, fun j hj => absurd hj (Nat.not_lt_zero _)⟩ rfl FT.rf (Nat.zero_le _) (by omega) (by omega) (by omega) (Nat.zero_le _))
