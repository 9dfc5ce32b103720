/-! A text is read: the class, all of it. -/
theorem c_clf {n : Nat} {R : Nat → Nat → Option Nat} {D : KK} : XC 1 91 [.inr (some 474)] (xS n, R, D) none (xS n, R, xui (xui D 474 1 0) 474 2 (-1)) := by
  refine XC_of (Nat.le_of_ble_eq_true rfl) (Nat.le_of_ble_eq_true rfl) (loc := [_]) rfl ?_
  refine xx_aload_n (q := 1) rfl rfl rfl ?_
  refine xx_iconst (q := 2) rfl rfl (by decide) ?_
  refine xx_puz (q := 5) rfl rfl rfl xS_474 (Nat.le_of_ble_eq_true rfl) (Nat.le_of_ble_eq_true rfl) (fun h => by cases h) (Or.inl rfl) rfl ?_
  refine xx_aload_n (q := 6) rfl rfl rfl ?_
  refine xx_iconst (q := 7) rfl rfl (by decide) ?_
  refine xx_puz (q := 10) rfl rfl rfl xS_474 (Nat.le_of_ble_eq_true rfl) (Nat.le_of_ble_eq_true rfl) (fun h => by cases h) (Or.inl rfl) rfl ?_
  exact xx_vret rfl rfl ⟨rfl, rfl⟩
/-- as c_rdG says it, with the tape emptied -/
def CxL (lw dr cd : Nat) (R : Nat → Nat → Option Nat) (D0 : KK) (c : Int × Sg) (z : Int) (R2 : Nat → Nat → Option Nat) (D2 : KK) : Prop := z = (if c.2.1.1 = 0 then c.1 else -1) ∧ D2 474 0 = 0 ∧ D2 474 1 = c.2.1.1 ∧ D2 474 2 = c.2.1.2.1 ∧ (∀ x k, x ≠ 476 → x ≠ 477 → x ≠ 478 → (x = 474 → k ≠ 0 ∧ k ≠ 1 ∧ k ≠ 2 ∧ k ≠ 7 ∧ k ≠ 8) → (x = lw → k ≠ 0 ∧ k ≠ 2 ∧ k ≠ 4) → x ≠ dr → D2 x k = D0 x k) ∧ (if c.2.1.1 = 0 then (R2 = xur (xur R lw 3 (some dr)) lw 5 (some cd) ∧ D2 lw 0 = c.1 ∧ D2 lw 2 = (c.2.2.length : Int) ∧ ∀ j, j < c.2.2.length → D2 dr j = c.2.2.getD j 0) else (R2 = R ∧ D2 lw 0 = D0 lw 0 ∧ D2 lw 2 = D0 lw 2))
def CxP (dr cd : Nat) (R : Nat → Nat → Option Nat) (D0 : KK) (c : Int × Pg) (z : Int) (R2 : Nat → Nat → Option Nat) (D2 : KK) : Prop := z = (if c.2.1.1 = 0 then c.1 else -1) ∧ D2 474 0 = 0 ∧ D2 474 1 = c.2.1.1 ∧ D2 474 2 = c.2.1.2.1 ∧ (∀ x k, x ≠ 476 → x ≠ 477 → x ≠ 478 → (x = 474 → k ≠ 0 ∧ k ≠ 1 ∧ k ≠ 2 ∧ k ≠ 7 ∧ k ≠ 8) → (x = 15 → k ≠ 0) → x ≠ dr → D2 x k = D0 x k) ∧ (if c.2.1.1 = 0 then (R2 = xur (xur R 15 4 (some dr)) 15 5 (some cd) ∧ D2 15 0 = c.1 ∧ ∀ j, j < 150 → D2 dr j = c.2.2 j) else (R2 = R ∧ D2 15 0 = D0 15 0))
def CxN (D0 D2 : KK) : Prop := D2 474 0 = 0 ∧ D2 474 1 = 0 ∧ D2 474 2 = -1 ∧ ∀ x k, x ≠ 476 → x ≠ 477 → x ≠ 478 → (x = 474 → k ≠ 0 ∧ k ≠ 1 ∧ k ≠ 2 ∧ k ≠ 7 ∧ k ≠ 8) → D2 x k = D0 x k
theorem XU_of {d i : Nat} {args : List XV} {m : XM} {P : Int → (Nat → Nat → Option Nat) → KK → Prop} {n : Nat} (hi : i < 316) (ha : args.length ≤ xml i) {loc : XLc} (hl : xent i args = loc) (h : XX (XC d) i (fun r m2 => ∃ z R2 D', r = some (.inl z) ∧ m2 = (xS n, R2, D') ∧ P z R2 D') 0 loc [] m) : ∃ z R2 D', XC (d + 1) i args m (some (.inl z)) (xS n, R2, D') ∧ P z R2 D' := by
  obtain ⟨r, m2, h1, z, R2, D', rfl, rfl, h2⟩ := XR_of hi ha hl h
  exact ⟨z, R2, D', h1, h2⟩
set_option maxHeartbeats 4000000 in
theorem c_textG {n : Nat} {R : Nat → Nat → Option Nat} {D : KK} {bs : List Int} (hR : RF R) (hT : TpC bs D) (hl4 : bs.length ≤ 400) (hby : ∀ j, 0 ≤ bs.getD j 0 ∧ bs.getD j 0 ≤ 255) (hs : StrD D) {dr cd : Nat} (hdr : R 7 5 = some dr) (hcd : R 7 3 = some cd) (hdr2 : dr = 8 ∨ dr = 9) (hh : D 7 1 = 0) : ∃ z R2 D', XC 35 126 [.inr (some 5), .inl 0] (xS n, R, D) (some (.inl z)) (xS n, R2, D') ∧ CxL 7 dr cd R D (lwF 0 (tp0 bs)) z R2 D' := by
  refine XU_of (d := 34) (P := fun z R2 E => CxL 7 dr cd R D (lwF 0 (tp0 bs)) z R2 E) (Nat.le_of_ble_eq_true rfl) (Nat.le_of_ble_eq_true rfl) (loc := [_, _, _]) rfl ?_
  refine xx_aload_n (q := 1) rfl rfl rfl ?_
  refine xx_getR (q := 4) rfl rfl rfl xS_5 (Nat.le_of_ble_eq_true rfl) rfl (hR.1 5 4 rfl) ?_
  refine xx_callV (q := 7) (As := []) (rest := []) rfl rfl rfl (Or.inl rfl) rfl rfl (Nat.le_of_ble_eq_true rfl) xS_474 (XCm (c_clf (n := n)) rfl) rfl ?_
  refine xx_aload_n (q := 8) rfl rfl rfl ?_
  refine xx_getR (q := 11) rfl rfl rfl xS_5 (Nat.le_of_ble_eq_true rfl) rfl (hR.1 5 4 rfl) ?_
  have hf0 : ∀ x k, (x = 474 → k ≠ 1 ∧ k ≠ 2) → (xui (xui D 474 1 0) 474 2 (-1)) x k = D x k := fun x k q => (if_neg (fun r => (q r.1).2 r.2)).trans (if_neg (fun r => (q r.1).1 r.2))
  obtain ⟨D1, hx1, hk1, ha1, hf1⟩ := c_split (n := n) (D := xui (xui D 474 1 0) 474 2 (-1)) hR bs ⟨(hf0 474 0 (by omega)).trans hT.1, fun k hk => (hf0 475 k (by omega)).trans (hT.2 k hk)⟩ hl4 hby (hs.fr (fun x k q1 q2 => hf0 x k (by omega)))
  have hf : ∀ x k, x ≠ 476 → x ≠ 477 → x ≠ 478 → (x = 474 → k ≠ 1 ∧ k ≠ 2 ∧ k ≠ 7 ∧ k ≠ 8) → D1 x k = D x k := fun x k q1 q2 q3 q4 => (hf1 x k q1 q2 q3 (fun e => by have := q4 e; omega)).trans (hf0 x k (fun e => by have := q4 e; omega))
  have e1 : D1 474 1 = 0 := (hf1 474 1 (by omega) (by omega) (by omega) (by omega)).trans rfl
  have e2 : D1 474 2 = -1 := (hf1 474 2 (by omega) (by omega) (by omega) (by omega)).trans rfl
  have hTS := TS_0 hl4 e1 e2 ha1 hk1
  refine xx_callV (q := 14) (As := []) (rest := []) rfl rfl rfl (Or.inl rfl) rfl rfl (Nat.le_of_ble_eq_true rfl) xS_474 (XCm hx1 rfl) rfl ?_
  refine xx_iconst (q := 15) rfl rfl (by decide) ?_
  refine xx_istore_n (q := 16) (loc2 := [_, _, _]) rfl rfl (Nat.le_of_ble_eq_true rfl) rfl ?_
  refine xx_iload_n (q := 17) rfl rfl rfl ?_
  refine xx_if_ne (q := 38) (q2 := 20) rfl rfl rfl (fun h17 => (by exfalso; omega)) (fun _ => ?_)
  refine xx_aload_n (q := 21) rfl rfl rfl ?_
  refine xx_getR (q := 24) rfl rfl rfl xS_5 (Nat.le_of_ble_eq_true rfl) rfl (hR.1 5 0 rfl) ?_
  refine xx_getR (q := 27) rfl rfl rfl xS_6 (Nat.le_of_ble_eq_true rfl) rfl (hR.1 6 0 rfl) ?_
  refine xx_aload_n (q := 28) rfl rfl rfl ?_
  refine xx_getR (q := 31) rfl rfl rfl xS_5 (Nat.le_of_ble_eq_true rfl) rfl (hR.1 5 4 rfl) ?_
  obtain ⟨r9, m9, hx2, z2, R2, D2, rfl, rfl, ez, hTS2, hf2, hR2⟩ := c_rdG (n := n) hR hdr hcd hdr2 ((hf 7 1 (by omega) (by omega) (by omega) (by omega)).trans hh) hTS
  have hR0 := hR
  have hRn : RF R2 := by
      split at hR2
      · rw [hR2.1]; exact RF_7 hR0 hdr hcd
      · rw [hR2.1]; exact hR0
  clear hR
  have hR := hRn
  refine xx_callV (q := 34) (As := [_]) (rest := []) rfl rfl rfl (Or.inl rfl) rfl rfl (Nat.le_of_ble_eq_true rfl) xS_7 (XCm hx2 rfl) rfl ?_
  refine xx_istore_n (q := 35) (loc2 := [_, _, _]) rfl rfl (Nat.le_of_ble_eq_true rfl) rfl ?_
  refine xx_goto (q := 104) rfl rfl ?_
  refine xx_aload_n (q := 105) rfl rfl rfl ?_
  refine xx_getR (q := 108) rfl rfl rfl xS_5 (Nat.le_of_ble_eq_true rfl) rfl (hR.1 5 4 rfl) ?_
  refine xx_iconst (q := 109) rfl rfl (by decide) ?_
  refine xx_puz (q := 112) rfl rfl rfl xS_474 (Nat.le_of_ble_eq_true rfl) (Nat.le_of_ble_eq_true rfl) (fun h => by cases h) (Or.inl rfl) rfl ?_
  refine xx_iload_n (q := 113) rfl rfl rfl ?_
  have hg : ∀ x k, (x = 474 → k ≠ 0) → (xui D2 474 0 0) x k = D2 x k := fun x k q => if_neg (fun r => q r.1 r.2)
  refine xx_iret rfl trivial ⟨_, _, _, rfl, rfl, ez, xui_s, (hg 474 1 (by omega)).trans hTS2.1, (hg 474 2 (by omega)).trans hTS2.2.1, fun x k q1 q2 q3 q4 q5 q6 => (hg x k (fun e => (q4 e).1)).trans ((hf2 x k (fun e => by have := q4 e; omega) q5 q6).trans (hf x k q1 q2 q3 (fun e => by have := q4 e; omega))), ?_⟩
  split
  · rename_i q
    rw [if_pos q] at hR2
    exact ⟨hR2.1, (hg 7 0 (by omega)).trans hR2.2.1, (hg 7 2 (by omega)).trans hR2.2.2.1, fun j hj => (hg dr j (by omega)).trans (hR2.2.2.2 j hj)⟩
  · rename_i q
    rw [if_neg q] at hR2
    exact ⟨hR2.1, (hg 7 0 (by omega)).trans (hR2.2.1.trans (hf 7 0 (by omega) (by omega) (by omega) (by omega))), (hg 7 2 (by omega)).trans (hR2.2.2.trans (hf 7 2 (by omega) (by omega) (by omega) (by omega)))⟩
set_option maxHeartbeats 4000000 in
theorem c_textH {n : Nat} {R : Nat → Nat → Option Nat} {D : KK} {bs : List Int} (hR : RF R) (hT : TpC bs D) (hl4 : bs.length ≤ 400) (hby : ∀ j, 0 ≤ bs.getD j 0 ∧ bs.getD j 0 ≤ 255) (hs : StrD D) {dr cd : Nat} (hdr : R 11 5 = some dr) (hcd : R 11 3 = some cd) (hdr2 : dr = 12 ∨ dr = 13) (hh : D 11 1 = 1) : ∃ z R2 D', XC 35 126 [.inr (some 5), .inl 1] (xS n, R, D) (some (.inl z)) (xS n, R2, D') ∧ CxL 11 dr cd R D (lwF 1 (tp0 bs)) z R2 D' := by
  refine XU_of (d := 34) (P := fun z R2 E => CxL 11 dr cd R D (lwF 1 (tp0 bs)) z R2 E) (Nat.le_of_ble_eq_true rfl) (Nat.le_of_ble_eq_true rfl) (loc := [_, _, _]) rfl ?_
  refine xx_aload_n (q := 1) rfl rfl rfl ?_
  refine xx_getR (q := 4) rfl rfl rfl xS_5 (Nat.le_of_ble_eq_true rfl) rfl (hR.1 5 4 rfl) ?_
  refine xx_callV (q := 7) (As := []) (rest := []) rfl rfl rfl (Or.inl rfl) rfl rfl (Nat.le_of_ble_eq_true rfl) xS_474 (XCm (c_clf (n := n)) rfl) rfl ?_
  refine xx_aload_n (q := 8) rfl rfl rfl ?_
  refine xx_getR (q := 11) rfl rfl rfl xS_5 (Nat.le_of_ble_eq_true rfl) rfl (hR.1 5 4 rfl) ?_
  have hf0 : ∀ x k, (x = 474 → k ≠ 1 ∧ k ≠ 2) → (xui (xui D 474 1 0) 474 2 (-1)) x k = D x k := fun x k q => (if_neg (fun r => (q r.1).2 r.2)).trans (if_neg (fun r => (q r.1).1 r.2))
  obtain ⟨D1, hx1, hk1, ha1, hf1⟩ := c_split (n := n) (D := xui (xui D 474 1 0) 474 2 (-1)) hR bs ⟨(hf0 474 0 (by omega)).trans hT.1, fun k hk => (hf0 475 k (by omega)).trans (hT.2 k hk)⟩ hl4 hby (hs.fr (fun x k q1 q2 => hf0 x k (by omega)))
  have hf : ∀ x k, x ≠ 476 → x ≠ 477 → x ≠ 478 → (x = 474 → k ≠ 1 ∧ k ≠ 2 ∧ k ≠ 7 ∧ k ≠ 8) → D1 x k = D x k := fun x k q1 q2 q3 q4 => (hf1 x k q1 q2 q3 (fun e => by have := q4 e; omega)).trans (hf0 x k (fun e => by have := q4 e; omega))
  have e1 : D1 474 1 = 0 := (hf1 474 1 (by omega) (by omega) (by omega) (by omega)).trans rfl
  have e2 : D1 474 2 = -1 := (hf1 474 2 (by omega) (by omega) (by omega) (by omega)).trans rfl
  have hTS := TS_0 hl4 e1 e2 ha1 hk1
  refine xx_callV (q := 14) (As := []) (rest := []) rfl rfl rfl (Or.inl rfl) rfl rfl (Nat.le_of_ble_eq_true rfl) xS_474 (XCm hx1 rfl) rfl ?_
  refine xx_iconst (q := 15) rfl rfl (by decide) ?_
  refine xx_istore_n (q := 16) (loc2 := [_, _, _]) rfl rfl (Nat.le_of_ble_eq_true rfl) rfl ?_
  refine xx_iload_n (q := 17) rfl rfl rfl ?_
  refine xx_if_ne (q := 38) (q2 := 20) rfl rfl rfl (fun _ => ?_) (fun h17 => (by exfalso; omega))
  refine xx_iload_n (q := 39) rfl rfl rfl ?_
  refine xx_iconst (q := 40) rfl rfl (by decide) ?_
  refine xx_icmp_ne (q := 61) (q2 := 43) rfl rfl rfl (fun h40 => (by exfalso; omega)) (fun _ => ?_)
  refine xx_aload_n (q := 44) rfl rfl rfl ?_
  refine xx_getR (q := 47) rfl rfl rfl xS_5 (Nat.le_of_ble_eq_true rfl) rfl (hR.1 5 0 rfl) ?_
  refine xx_getR (q := 50) rfl rfl rfl xS_6 (Nat.le_of_ble_eq_true rfl) rfl (hR.1 6 1 rfl) ?_
  refine xx_aload_n (q := 51) rfl rfl rfl ?_
  refine xx_getR (q := 54) rfl rfl rfl xS_5 (Nat.le_of_ble_eq_true rfl) rfl (hR.1 5 4 rfl) ?_
  obtain ⟨r9, m9, hx2, z2, R2, D2, rfl, rfl, ez, hTS2, hf2, hR2⟩ := c_rdH (n := n) hR hdr hcd hdr2 ((hf 11 1 (by omega) (by omega) (by omega) (by omega)).trans hh) hTS
  have hR0 := hR
  have hRn : RF R2 := by
      split at hR2
      · rw [hR2.1]; exact RF_11 hR0 hdr hcd
      · rw [hR2.1]; exact hR0
  clear hR
  have hR := hRn
  refine xx_callV (q := 57) (As := [_]) (rest := []) rfl rfl rfl (Or.inl rfl) rfl rfl (Nat.le_of_ble_eq_true rfl) xS_11 (XCm hx2 rfl) rfl ?_
  refine xx_istore_n (q := 58) (loc2 := [_, _, _]) rfl rfl (Nat.le_of_ble_eq_true rfl) rfl ?_
  refine xx_goto (q := 104) rfl rfl ?_
  refine xx_aload_n (q := 105) rfl rfl rfl ?_
  refine xx_getR (q := 108) rfl rfl rfl xS_5 (Nat.le_of_ble_eq_true rfl) rfl (hR.1 5 4 rfl) ?_
  refine xx_iconst (q := 109) rfl rfl (by decide) ?_
  refine xx_puz (q := 112) rfl rfl rfl xS_474 (Nat.le_of_ble_eq_true rfl) (Nat.le_of_ble_eq_true rfl) (fun h => by cases h) (Or.inl rfl) rfl ?_
  refine xx_iload_n (q := 113) rfl rfl rfl ?_
  have hg : ∀ x k, (x = 474 → k ≠ 0) → (xui D2 474 0 0) x k = D2 x k := fun x k q => if_neg (fun r => q r.1 r.2)
  refine xx_iret rfl trivial ⟨_, _, _, rfl, rfl, ez, xui_s, (hg 474 1 (by omega)).trans hTS2.1, (hg 474 2 (by omega)).trans hTS2.2.1, fun x k q1 q2 q3 q4 q5 q6 => (hg x k (fun e => (q4 e).1)).trans ((hf2 x k (fun e => by have := q4 e; omega) q5 q6).trans (hf x k q1 q2 q3 (fun e => by have := q4 e; omega))), ?_⟩
  split
  · rename_i q
    rw [if_pos q] at hR2
    exact ⟨hR2.1, (hg 11 0 (by omega)).trans hR2.2.1, (hg 11 2 (by omega)).trans hR2.2.2.1, fun j hj => (hg dr j (by omega)).trans (hR2.2.2.2 j hj)⟩
  · rename_i q
    rw [if_neg q] at hR2
    exact ⟨hR2.1, (hg 11 0 (by omega)).trans (hR2.2.1.trans (hf 11 0 (by omega) (by omega) (by omega) (by omega))), (hg 11 2 (by omega)).trans (hR2.2.2.trans (hf 11 2 (by omega) (by omega) (by omega) (by omega)))⟩
