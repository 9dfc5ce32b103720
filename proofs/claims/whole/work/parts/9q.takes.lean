/-! A law is read and taken: the reference. -/
def RlP (h : Int) (D0 : KK) (c : Int × Sg) (z : Int) (D' : KK) : Prop := FRl D0 D' ∧ ((c.2.1.1 = 0 ∧ ∃ L : List LN1, z = (L.length : Int) ∧ c.1 = (L.length : Int) ∧ L.length ≤ 16 ∧ c.2.2 = clC h L ∧ (∀ l ∈ L, ok1 h l) ∧ LnD 32 L D' ∧ D' 479 38 = ((rfC L).length : Int) ∧ (rfC L).length ≤ 400 ∧ ∀ j, j < (rfC L).length → D' 504 (800 + j) = (opR ((rfC L).getD j 0)).1 ∧ D' 505 (800 + j) = (opR ((rfC L).getD j 0)).2) ∨ (c.2.1.1 ≠ 0 ∧ z = -1 ∧ D' 479 42 = c.2.1.1 ∧ D' 479 43 = c.2.1.2.1))
theorem XL_of {d i : Nat} {args : List XV} {m : XM} {h : Int} {D0 : KK} {c : Int × Sg} {n : Nat} {R : Nat → Nat → Option Nat} (hi : i < 316) (ha : args.length ≤ xml i) {loc : XLc} (hl : xent i args = loc) (hq : XX (XC d) i (RlQ h D0 c n R) 0 loc [] m) : ∃ z D', XC (d + 1) i args m (some (.inl z)) (xS n, R, D') ∧ RlP h D0 c z D' := by
  obtain ⟨r, m2, hx, z, D', rfl, rfl, q⟩ := XR_of hi ha hl hq
  exact ⟨z, D', hx, q⟩
theorem r_readLawG {n : Nat} {R : Nat → Nat → Option Nat} {D0 D : KK} {bs : List Int} {t : Tt} {P : Option (List Int)} (hR : RF R) (hl4 : bs.length ≤ 400) (hby : ∀ j, 0 ≤ bs.getD j 0 ∧ bs.getD j 0 ≤ 255) (hS : RlS bs 0 D0 D (t, []) 0 P D) (hl : t.2.2.length ≤ 401) : ∃ z D', XC 9 213 [.inr (some 479)] (xS n, R, D) (some (.inl z)) (xS n, R, D') ∧ RlP 0 D0 (lwF 0 t) z D' := by
  refine XL_of (Nat.le_of_ble_eq_true rfl) (Nat.le_of_ble_eq_true rfl) (loc := [_, _, _]) rfl ?_
  refine xx_iconst (q := 1) rfl rfl (by decide) ?_
  refine xx_istore_n (q := 2) (loc2 := [_, _, _]) rfl rfl (Nat.le_of_ble_eq_true rfl) rfl ?_
  exact r_rlG_L (n := n) hR hl4 hby 16 [] t D D P none rfl hS (fun l q => by cases q) (fun i l q => by cases q) (by show 0 + _ ≤ 401; omega) (by show 0 + _ ≤ 401; omega)
theorem r_readLawH {n : Nat} {R : Nat → Nat → Option Nat} {D0 D : KK} {bs : List Int} {t : Tt} {P : Option (List Int)} (hR : RF R) (hl4 : bs.length ≤ 400) (hby : ∀ j, 0 ≤ bs.getD j 0 ∧ bs.getD j 0 ≤ 255) (hS : RlS bs 1 D0 D (t, []) 0 P D) (hl : t.2.2.length ≤ 401) : ∃ z D', XC 9 213 [.inr (some 479)] (xS n, R, D) (some (.inl z)) (xS n, R, D') ∧ RlP 1 D0 (lwF 1 t) z D' := by
  refine XL_of (Nat.le_of_ble_eq_true rfl) (Nat.le_of_ble_eq_true rfl) (loc := [_, _, _]) rfl ?_
  refine xx_iconst (q := 1) rfl rfl (by decide) ?_
  refine xx_istore_n (q := 2) (loc2 := [_, _, _]) rfl rfl (Nat.le_of_ble_eq_true rfl) rfl ?_
  exact r_rlH_L (n := n) hR hl4 hby 16 [] t D D P none rfl hS (fun l q => by cases q) (fun i l q => by cases q) (by show 0 + _ ≤ 401; omega) (by show 0 + _ ≤ 401; omega)
def TkL (w k : Nat) (D0 D : KK) : Prop := ∀ x j, D x j = if 500 ≤ x ∧ x ≤ 503 ∧ 16 * w ≤ j ∧ j < 16 * w + k then D0 x (32 + (j - 16 * w)) else D0 x j
def TkO (w k : Nat) (D0 D : KK) : Prop := ∀ x j, D x j = if 504 ≤ x ∧ x ≤ 505 ∧ 400 * w ≤ j ∧ j < 400 * w + k then D0 x (800 + (j - 400 * w)) else D0 x j
theorem TkL_s {w k : Nat} {D0 D : KK} (hw : w ≤ 1) (hk : k < 16) (h : TkL w k D0 D) : TkL w (k + 1) D0 (xui (xui (xui (xui D 500 (16 * w + k) (D0 500 (32 + k))) 501 (16 * w + k) (D0 501 (32 + k))) 502 (16 * w + k) (D0 502 (32 + k))) 503 (16 * w + k) (D0 503 (32 + k))) := by
  intro x j
  have e := h x j
  unfold xui
  rcases Nat.lt_or_ge x 500 with q | q
  · rw [if_neg (by omega), if_neg (by omega), if_neg (by omega), if_neg (by omega), e, if_neg (by omega), if_neg (by omega)]
  rcases Nat.lt_or_ge 503 x with q2 | q2
  · rw [if_neg (by omega), if_neg (by omega), if_neg (by omega), if_neg (by omega), e, if_neg (by omega), if_neg (by omega)]
  rcases Nat.lt_trichotomy j (16 * w + k) with q3 | q3 | q3
  · rw [if_neg (by omega), if_neg (by omega), if_neg (by omega), if_neg (by omega), e]
    rcases Nat.lt_or_ge j (16 * w) with q4 | q4
    · rw [if_neg (by omega), if_neg (by omega)]
    · rw [if_pos (by omega), if_pos (by omega)]
  · subst q3
    rw [if_pos (by omega : 500 ≤ x ∧ x ≤ 503 ∧ 16 * w ≤ 16 * w + k ∧ 16 * w + k < 16 * w + (k + 1)), show 16 * w + k - 16 * w = k by omega]
    have c : x = 500 ∨ x = 501 ∨ x = 502 ∨ x = 503 := by omega
    rcases c with c | c | c | c <;> subst c <;> simp
  · rw [if_neg (by omega), if_neg (by omega), if_neg (by omega), if_neg (by omega), e, if_neg (by omega), if_neg (by omega)]
theorem TkO_s {w k : Nat} {D0 D : KK} (hw : w ≤ 1) (hk : k < 400) (h : TkO w k D0 D) : TkO w (k + 1) D0 (xui (xui D 504 (400 * w + k) (D0 504 (800 + k))) 505 (400 * w + k) (D0 505 (800 + k))) := by
  intro x j
  have e := h x j
  unfold xui
  rcases Nat.lt_or_ge x 504 with q | q
  · rw [if_neg (by omega), if_neg (by omega), e, if_neg (by omega), if_neg (by omega)]
  rcases Nat.lt_or_ge 505 x with q2 | q2
  · rw [if_neg (by omega), if_neg (by omega), e, if_neg (by omega), if_neg (by omega)]
  rcases Nat.lt_trichotomy j (400 * w + k) with q3 | q3 | q3
  · rw [if_neg (by omega), if_neg (by omega), e]
    rcases Nat.lt_or_ge j (400 * w) with q4 | q4
    · rw [if_neg (by omega), if_neg (by omega)]
    · rw [if_pos (by omega), if_pos (by omega)]
  · subst q3
    rw [if_pos (by omega : 504 ≤ x ∧ x ≤ 505 ∧ 400 * w ≤ 400 * w + k ∧ 400 * w + k < 400 * w + (k + 1)), show 400 * w + k - 400 * w = k by omega]
    have c : x = 504 ∨ x = 505 := by omega
    rcases c with c | c <;> subst c <;> simp
  · rw [if_neg (by omega), if_neg (by omega), e, if_neg (by omega), if_neg (by omega)]
/-- a law that stands in the reference's cells -/
def LwR (w : Nat) (L : List LN1) (D : KK) : Prop := D 499 w = (L.length : Int) ∧ L.length ≤ 16 ∧ LnD (16 * w) L D ∧ (rfC L).length ≤ 400 ∧ ∀ j, j < (rfC L).length → D 504 (400 * w + j) = (opR ((rfC L).getD j 0)).1 ∧ D 505 (400 * w + j) = (opR ((rfC L).getD j 0)).2
def FTw (w : Nat) (D0 D : KK) : Prop := ∀ x k, (x = 499 → k ≠ w) → ((500 ≤ x ∧ x ≤ 503) → k < 16 * w ∨ 16 * w + 16 ≤ k) → ((x = 504 ∨ x = 505) → k < 400 * w ∨ 400 * w + 400 ≤ k) → D x k = D0 x k
set_option maxHeartbeats 2000000 in
theorem r_tkOG {n N M : Nat} {R : Nat → Nat → Option Nat} {D0 D1 : KK} (hR : RF R) (hTL : TkL 0 N D0 D1) (h37 : D1 479 37 = 0) (h38 : D1 479 38 = (M : Int)) (hM : M ≤ 400) (hN : N ≤ 16) : ∀ (k : Nat) (i : Nat) (D : KK), i + k = M → TkO 0 i D1 D → XX (XC 0) 214 (XP none (xS n) R (fun D' => ∃ D1 D2, TkL 0 N D0 D1 ∧ TkO 0 M D1 D2 ∧ D' = xui D2 499 0 (N : Int))) 107 [some (.inr (some 479)), some (.inl (N : Int)), some (.inl (i : Int))] [] (xS n, R, D) := by
  intro k
  induction k using Nat.strongRecOn with
  | ind k ih =>
  intro i D hik hT
  refine xx_iload_n (q := 108) rfl rfl rfl ?_
  refine xx_aload_n (q := 109) rfl rfl rfl ?_
  refine xx_gez (q := 112) rfl rfl rfl xS_479 (Nat.le_of_ble_eq_true rfl) rfl ((hT 479 38).trans ((if_neg (by omega)).trans h38)) ?_
  refine xx_icmp_ge (q := 171) (q2 := 115) rfl rfl rfl (fun h112 => ?_) (fun h112 => ?_)
  · refine xx_aload_n (q := 172) rfl rfl rfl ?_
    refine xx_getR (q := 175) rfl rfl rfl xS_479 (Nat.le_of_ble_eq_true rfl) rfl (hR.1 479 30 rfl) ?_
    refine xx_aload_n (q := 176) rfl rfl rfl ?_
    refine xx_gez (q := 179) rfl rfl rfl xS_479 (Nat.le_of_ble_eq_true rfl) rfl ((hT 479 37).trans ((if_neg (by omega)).trans h37)) ?_
    refine xx_iload_n (q := 180) rfl rfl rfl ?_
    refine xx_isz (q := 181) rfl rfl xS_499 (by omega) (by omega) rfl ?_
    exact xx_vret rfl rfl ⟨rfl, _, rfl, D1, D, hTL, by rw [show M = i by omega]; exact hT, rfl⟩
  · refine xx_aload_n (q := 116) rfl rfl rfl ?_
    refine xx_getR (q := 119) rfl rfl rfl xS_479 (Nat.le_of_ble_eq_true rfl) rfl (hR.1 479 35 rfl) ?_
    refine xx_sipush (q := 122) rfl rfl (by decide) ?_
    refine xx_aload_n (q := 123) rfl rfl rfl ?_
    refine xx_gez (q := 126) rfl rfl rfl xS_479 (Nat.le_of_ble_eq_true rfl) rfl ((hT 479 37).trans ((if_neg (by omega)).trans h37)) ?_
    refine xx_imulR (q := 127) rfl rfl (by omega) (by omega) ?_
    refine xx_iload_n (q := 128) rfl rfl rfl ?_
    refine xx_iaddR (q := 129) rfl rfl (by omega) (by omega) ?_
    refine xx_aload_n (q := 130) rfl rfl rfl ?_
    refine xx_getR (q := 133) rfl rfl rfl xS_479 (Nat.le_of_ble_eq_true rfl) rfl (hR.1 479 35 rfl) ?_
    refine xx_sipush (q := 136) rfl rfl (by decide) ?_
    refine xx_iload_n (q := 137) rfl rfl rfl ?_
    refine xx_iaddR (q := 138) rfl rfl (by omega) (by omega) ?_
    refine xx_iaz (v := D1 504 (800 + i)) (q := 139) rfl rfl xS_504 (by omega) (by omega) (by rw [show (800 + (i : Int)).toNat = 800 + i by omega]; exact ((hT 504 (800 + i)).trans (if_neg (by omega)))) ?_
    refine xr_isz (fun d => d = (xui D 504 (400 * 0 + i) (D1 504 (800 + i)))) (q := 140) rfl rfl xS_504 (by omega) (by omega) (by rw [show ((400 * 0) + (i : Int)).toNat = (400 * 0 + i) by omega]) (fun D3 hd3 => ?_)
    subst hd3
    refine xx_aload_n (q := 141) rfl rfl rfl ?_
    refine xx_getR (q := 144) rfl rfl rfl xS_479 (Nat.le_of_ble_eq_true rfl) rfl (hR.1 479 36 rfl) ?_
    refine xx_sipush (q := 147) rfl rfl (by decide) ?_
    refine xx_aload_n (q := 148) rfl rfl rfl ?_
    refine xx_gez (q := 151) rfl rfl rfl xS_479 (Nat.le_of_ble_eq_true rfl) rfl ((xui_a (by omega)).trans (((hT 479 37).trans ((if_neg (by omega)).trans h37)))) ?_
    refine xx_imulR (q := 152) rfl rfl (by omega) (by omega) ?_
    refine xx_iload_n (q := 153) rfl rfl rfl ?_
    refine xx_iaddR (q := 154) rfl rfl (by omega) (by omega) ?_
    refine xx_aload_n (q := 155) rfl rfl rfl ?_
    refine xx_getR (q := 158) rfl rfl rfl xS_479 (Nat.le_of_ble_eq_true rfl) rfl (hR.1 479 36 rfl) ?_
    refine xx_sipush (q := 161) rfl rfl (by decide) ?_
    refine xx_iload_n (q := 162) rfl rfl rfl ?_
    refine xx_iaddR (q := 163) rfl rfl (by omega) (by omega) ?_
    refine xx_iaz (v := D1 505 (800 + i)) (q := 164) rfl rfl xS_505 (by omega) (by omega) (by rw [show (800 + (i : Int)).toNat = 800 + i by omega]; exact (xui_a (by omega)).trans (((hT 505 (800 + i)).trans (if_neg (by omega))))) ?_
    refine xr_isz (fun d => d = (xui (xui D 504 (400 * 0 + i) (D1 504 (800 + i))) 505 (400 * 0 + i) (D1 505 (800 + i)))) (q := 165) rfl rfl xS_505 (by omega) (by omega) (by rw [show ((400 * 0) + (i : Int)).toNat = (400 * 0 + i) by omega]) (fun D5 hd5 => ?_)
    subst hd5
    refine xx_incz (q := 168) (loc2 := [_, _, _]) rfl rfl rfl (by omega) (by omega) rfl rfl ?_
    refine xx_goto (q := 107) rfl rfl ?_
    obtain ⟨k, rfl⟩ : ∃ k2, k = k2 + 1 := ⟨k - 1, by omega⟩
    exact ih k (by omega) (i + 1) _ (by omega) (TkO_s (w := 0) (by omega) (by omega) hT)
set_option maxHeartbeats 2000000 in
theorem r_tkLG {n N M : Nat} {R : Nat → Nat → Option Nat} {D0 : KK} (hR : RF R) (h37 : D0 479 37 = 0) (h38 : D0 479 38 = (M : Int)) (hM : M ≤ 400) (hN : N ≤ 16) : ∀ (k : Nat) (i : Nat) (D : KK), i + k = N → TkL 0 i D0 D → XX (XC 0) 214 (XP none (xS n) R (fun D' => ∃ D1 D2, TkL 0 N D0 D1 ∧ TkO 0 M D1 D2 ∧ D' = xui D2 499 0 (N : Int))) 2 [some (.inr (some 479)), some (.inl (N : Int)), some (.inl (i : Int))] [] (xS n, R, D) := by
  intro k
  induction k using Nat.strongRecOn with
  | ind k ih =>
  intro i D hik hT
  refine xx_iload_n (q := 3) rfl rfl rfl ?_
  refine xx_iload_n (q := 4) rfl rfl rfl ?_
  refine xx_icmp_ge (q := 105) (q2 := 7) rfl rfl rfl (fun h4 => ?_) (fun h4 => ?_)
  · refine xx_iconst (q := 106) rfl rfl (by decide) ?_
    refine xx_istore_n (q := 107) (loc2 := [_, _, _]) rfl rfl (Nat.le_of_ble_eq_true rfl) rfl ?_
    exact r_tkOG hR (by rw [show N = i by omega]; exact hT) ((hT 479 37).trans ((if_neg (by omega)).trans h37)) ((hT 479 38).trans ((if_neg (by omega)).trans h38)) hM hN M 0 D (by omega) (fun x j => (if_neg (by omega)).symm)
  · refine xx_aload_n (q := 8) rfl rfl rfl ?_
    refine xx_getR (q := 11) rfl rfl rfl xS_479 (Nat.le_of_ble_eq_true rfl) rfl (hR.1 479 31 rfl) ?_
    refine xx_bipush (q := 13) rfl rfl (by decide) ?_
    refine xx_aload_n (q := 14) rfl rfl rfl ?_
    refine xx_gez (q := 17) rfl rfl rfl xS_479 (Nat.le_of_ble_eq_true rfl) rfl ((hT 479 37).trans ((if_neg (by omega)).trans h37)) ?_
    refine xx_imulR (q := 18) rfl rfl (by omega) (by omega) ?_
    refine xx_iload_n (q := 19) rfl rfl rfl ?_
    refine xx_iaddR (q := 20) rfl rfl (by omega) (by omega) ?_
    refine xx_aload_n (q := 21) rfl rfl rfl ?_
    refine xx_getR (q := 24) rfl rfl rfl xS_479 (Nat.le_of_ble_eq_true rfl) rfl (hR.1 479 31 rfl) ?_
    refine xx_bipush (q := 26) rfl rfl (by decide) ?_
    refine xx_iload_n (q := 27) rfl rfl rfl ?_
    refine xx_iaddR (q := 28) rfl rfl (by omega) (by omega) ?_
    refine xx_iaz (v := D0 500 (32 + i)) (q := 29) rfl rfl xS_500 (by omega) (by omega) (by rw [show (32 + (i : Int)).toNat = 32 + i by omega]; exact ((hT 500 (32 + i)).trans (if_neg (by omega)))) ?_
    refine xr_isz (fun d => d = (xui D 500 (16 * 0 + i) (D0 500 (32 + i)))) (q := 30) rfl rfl xS_500 (by omega) (by omega) (by rw [show ((16 * 0) + (i : Int)).toNat = (16 * 0 + i) by omega]) (fun D2 hd2 => ?_)
    subst hd2
    refine xx_aload_n (q := 31) rfl rfl rfl ?_
    refine xx_getR (q := 34) rfl rfl rfl xS_479 (Nat.le_of_ble_eq_true rfl) rfl (hR.1 479 32 rfl) ?_
    refine xx_bipush (q := 36) rfl rfl (by decide) ?_
    refine xx_aload_n (q := 37) rfl rfl rfl ?_
    refine xx_gez (q := 40) rfl rfl rfl xS_479 (Nat.le_of_ble_eq_true rfl) rfl ((xui_a (by omega)).trans (((hT 479 37).trans ((if_neg (by omega)).trans h37)))) ?_
    refine xx_imulR (q := 41) rfl rfl (by omega) (by omega) ?_
    refine xx_iload_n (q := 42) rfl rfl rfl ?_
    refine xx_iaddR (q := 43) rfl rfl (by omega) (by omega) ?_
    refine xx_aload_n (q := 44) rfl rfl rfl ?_
    refine xx_getR (q := 47) rfl rfl rfl xS_479 (Nat.le_of_ble_eq_true rfl) rfl (hR.1 479 32 rfl) ?_
    refine xx_bipush (q := 49) rfl rfl (by decide) ?_
    refine xx_iload_n (q := 50) rfl rfl rfl ?_
    refine xx_iaddR (q := 51) rfl rfl (by omega) (by omega) ?_
    refine xx_iaz (v := D0 501 (32 + i)) (q := 52) rfl rfl xS_501 (by omega) (by omega) (by rw [show (32 + (i : Int)).toNat = 32 + i by omega]; exact (xui_a (by omega)).trans (((hT 501 (32 + i)).trans (if_neg (by omega))))) ?_
    refine xr_isz (fun d => d = (xui (xui D 500 (16 * 0 + i) (D0 500 (32 + i))) 501 (16 * 0 + i) (D0 501 (32 + i)))) (q := 53) rfl rfl xS_501 (by omega) (by omega) (by rw [show ((16 * 0) + (i : Int)).toNat = (16 * 0 + i) by omega]) (fun D4 hd4 => ?_)
    subst hd4
    refine xx_aload_n (q := 54) rfl rfl rfl ?_
    refine xx_getR (q := 57) rfl rfl rfl xS_479 (Nat.le_of_ble_eq_true rfl) rfl (hR.1 479 33 rfl) ?_
    refine xx_bipush (q := 59) rfl rfl (by decide) ?_
    refine xx_aload_n (q := 60) rfl rfl rfl ?_
    refine xx_gez (q := 63) rfl rfl rfl xS_479 (Nat.le_of_ble_eq_true rfl) rfl ((xui_a (by omega)).trans ((xui_a (by omega)).trans (((hT 479 37).trans ((if_neg (by omega)).trans h37))))) ?_
    refine xx_imulR (q := 64) rfl rfl (by omega) (by omega) ?_
    refine xx_iload_n (q := 65) rfl rfl rfl ?_
    refine xx_iaddR (q := 66) rfl rfl (by omega) (by omega) ?_
    refine xx_aload_n (q := 67) rfl rfl rfl ?_
    refine xx_getR (q := 70) rfl rfl rfl xS_479 (Nat.le_of_ble_eq_true rfl) rfl (hR.1 479 33 rfl) ?_
    refine xx_bipush (q := 72) rfl rfl (by decide) ?_
    refine xx_iload_n (q := 73) rfl rfl rfl ?_
    refine xx_iaddR (q := 74) rfl rfl (by omega) (by omega) ?_
    refine xx_iaz (v := D0 502 (32 + i)) (q := 75) rfl rfl xS_502 (by omega) (by omega) (by rw [show (32 + (i : Int)).toNat = 32 + i by omega]; exact (xui_a (by omega)).trans ((xui_a (by omega)).trans (((hT 502 (32 + i)).trans (if_neg (by omega)))))) ?_
    refine xr_isz (fun d => d = (xui (xui (xui D 500 (16 * 0 + i) (D0 500 (32 + i))) 501 (16 * 0 + i) (D0 501 (32 + i))) 502 (16 * 0 + i) (D0 502 (32 + i)))) (q := 76) rfl rfl xS_502 (by omega) (by omega) (by rw [show ((16 * 0) + (i : Int)).toNat = (16 * 0 + i) by omega]) (fun D6 hd6 => ?_)
    subst hd6
    refine xx_aload_n (q := 77) rfl rfl rfl ?_
    refine xx_getR (q := 80) rfl rfl rfl xS_479 (Nat.le_of_ble_eq_true rfl) rfl (hR.1 479 34 rfl) ?_
    refine xx_bipush (q := 82) rfl rfl (by decide) ?_
    refine xx_aload_n (q := 83) rfl rfl rfl ?_
    refine xx_gez (q := 86) rfl rfl rfl xS_479 (Nat.le_of_ble_eq_true rfl) rfl ((xui_a (by omega)).trans ((xui_a (by omega)).trans ((xui_a (by omega)).trans (((hT 479 37).trans ((if_neg (by omega)).trans h37)))))) ?_
    refine xx_imulR (q := 87) rfl rfl (by omega) (by omega) ?_
    refine xx_iload_n (q := 88) rfl rfl rfl ?_
    refine xx_iaddR (q := 89) rfl rfl (by omega) (by omega) ?_
    refine xx_aload_n (q := 90) rfl rfl rfl ?_
    refine xx_getR (q := 93) rfl rfl rfl xS_479 (Nat.le_of_ble_eq_true rfl) rfl (hR.1 479 34 rfl) ?_
    refine xx_bipush (q := 95) rfl rfl (by decide) ?_
    refine xx_iload_n (q := 96) rfl rfl rfl ?_
    refine xx_iaddR (q := 97) rfl rfl (by omega) (by omega) ?_
    refine xx_iaz (v := D0 503 (32 + i)) (q := 98) rfl rfl xS_503 (by omega) (by omega) (by rw [show (32 + (i : Int)).toNat = 32 + i by omega]; exact (xui_a (by omega)).trans ((xui_a (by omega)).trans ((xui_a (by omega)).trans (((hT 503 (32 + i)).trans (if_neg (by omega))))))) ?_
    refine xr_isz (fun d => d = (xui (xui (xui (xui D 500 (16 * 0 + i) (D0 500 (32 + i))) 501 (16 * 0 + i) (D0 501 (32 + i))) 502 (16 * 0 + i) (D0 502 (32 + i))) 503 (16 * 0 + i) (D0 503 (32 + i)))) (q := 99) rfl rfl xS_503 (by omega) (by omega) (by rw [show ((16 * 0) + (i : Int)).toNat = (16 * 0 + i) by omega]) (fun D8 hd8 => ?_)
    subst hd8
    refine xx_incz (q := 102) (loc2 := [_, _, _]) rfl rfl rfl (by omega) (by omega) rfl rfl ?_
    refine xx_goto (q := 2) rfl rfl ?_
    obtain ⟨k, rfl⟩ : ∃ k2, k = k2 + 1 := ⟨k - 1, by omega⟩
    exact ih k (by omega) (i + 1) _ (by omega) (TkL_s (w := 0) (by omega) (by omega) hT)
theorem r_takesLawG {n : Nat} {R : Nat → Nat → Option Nat} {D : KK} {L : List LN1} (hR : RF R) (h37 : D 479 37 = 0) (hl : L.length ≤ 16) (h1 : LnD 32 L D) (h2 : D 479 38 = ((rfC L).length : Int)) (h3 : (rfC L).length ≤ 400) (h4 : ∀ j, j < (rfC L).length → D 504 (800 + j) = (opR ((rfC L).getD j 0)).1 ∧ D 505 (800 + j) = (opR ((rfC L).getD j 0)).2) : ∃ D', XC 1 214 [.inr (some 479), .inl (L.length : Int)] (xS n, R, D) none (xS n, R, D') ∧ LwR 0 L D' ∧ FTw 0 D D' := by
  have hx : ∃ D', XC 1 214 [.inr (some 479), .inl (L.length : Int)] (xS n, R, D) none (xS n, R, D') ∧ (∃ D1 D2, TkL 0 L.length D D1 ∧ TkO 0 (rfC L).length D1 D2 ∧ D' = xui D2 499 0 (L.length : Int)) := by
    refine XE_of (Nat.le_of_ble_eq_true rfl) (Nat.le_of_ble_eq_true rfl) (loc := [_, _, _]) rfl ?_
    refine xx_iconst (q := 1) rfl rfl (by decide) ?_
    refine xx_istore_n (q := 2) (loc2 := [_, _, _]) rfl rfl (Nat.le_of_ble_eq_true rfl) rfl ?_
    exact r_tkLG hR h37 h2 h3 hl L.length 0 D (by omega) (fun x j => (if_neg (by omega)).symm)
  obtain ⟨D', hx, D1, D2, a1, a2, rfl⟩ := hx
  refine ⟨_, hx, ⟨xui_s, hl, ?_, h3, ?_⟩, ?_⟩
  · intro i l hi
    have hil : i < L.length := (List.getElem?_eq_some_iff.mp hi).1
    have e : ∀ x, 500 ≤ x → x ≤ 503 → xui D2 499 0 (L.length : Int) x (16 * 0 + i) = D x (32 + i) := fun x q1 q2 => by
      rw [show xui D2 499 0 (L.length : Int) x (16 * 0 + i) = D2 x (16 * 0 + i) from xui_a (by omega), a2, if_neg (by omega), a1, if_pos (by omega), show 16 * 0 + i - 16 * 0 = i by omega]
    rw [e _ (by omega) (by omega), e _ (by omega) (by omega), e _ (by omega) (by omega), e _ (by omega) (by omega)]
    exact h1 i l hi
  · intro j hj
    have e : ∀ x, 504 ≤ x → x ≤ 505 → xui D2 499 0 (L.length : Int) x (400 * 0 + j) = D x (800 + j) := fun x q1 q2 => by
      rw [show xui D2 499 0 (L.length : Int) x (400 * 0 + j) = D2 x (400 * 0 + j) from xui_a (by omega), a2, if_pos (by omega), show 400 * 0 + j - 400 * 0 = j by omega, a1, if_neg (by omega)]
    rw [e _ (by omega) (by omega), e _ (by omega) (by omega)]
    exact h4 j hj
  · intro x k q1 q2 q3
    show (if x = 499 ∧ k = 0 then (L.length : Int) else D2 x k) = D x k
    rw [if_neg (fun q => q1 q.1 q.2), a2, if_neg (fun q => by have := q3 (by omega); omega), a1, if_neg (fun q => by have := q2 (by omega); omega)]
set_option maxHeartbeats 2000000 in
theorem r_tkOH {n N M : Nat} {R : Nat → Nat → Option Nat} {D0 D1 : KK} (hR : RF R) (hTL : TkL 1 N D0 D1) (h37 : D1 479 37 = 1) (h38 : D1 479 38 = (M : Int)) (hM : M ≤ 400) (hN : N ≤ 16) : ∀ (k : Nat) (i : Nat) (D : KK), i + k = M → TkO 1 i D1 D → XX (XC 0) 214 (XP none (xS n) R (fun D' => ∃ D1 D2, TkL 1 N D0 D1 ∧ TkO 1 M D1 D2 ∧ D' = xui D2 499 1 (N : Int))) 107 [some (.inr (some 479)), some (.inl (N : Int)), some (.inl (i : Int))] [] (xS n, R, D) := by
  intro k
  induction k using Nat.strongRecOn with
  | ind k ih =>
  intro i D hik hT
  refine xx_iload_n (q := 108) rfl rfl rfl ?_
  refine xx_aload_n (q := 109) rfl rfl rfl ?_
  refine xx_gez (q := 112) rfl rfl rfl xS_479 (Nat.le_of_ble_eq_true rfl) rfl ((hT 479 38).trans ((if_neg (by omega)).trans h38)) ?_
  refine xx_icmp_ge (q := 171) (q2 := 115) rfl rfl rfl (fun h112 => ?_) (fun h112 => ?_)
  · refine xx_aload_n (q := 172) rfl rfl rfl ?_
    refine xx_getR (q := 175) rfl rfl rfl xS_479 (Nat.le_of_ble_eq_true rfl) rfl (hR.1 479 30 rfl) ?_
    refine xx_aload_n (q := 176) rfl rfl rfl ?_
    refine xx_gez (q := 179) rfl rfl rfl xS_479 (Nat.le_of_ble_eq_true rfl) rfl ((hT 479 37).trans ((if_neg (by omega)).trans h37)) ?_
    refine xx_iload_n (q := 180) rfl rfl rfl ?_
    refine xx_isz (q := 181) rfl rfl xS_499 (by omega) (by omega) rfl ?_
    exact xx_vret rfl rfl ⟨rfl, _, rfl, D1, D, hTL, by rw [show M = i by omega]; exact hT, rfl⟩
  · refine xx_aload_n (q := 116) rfl rfl rfl ?_
    refine xx_getR (q := 119) rfl rfl rfl xS_479 (Nat.le_of_ble_eq_true rfl) rfl (hR.1 479 35 rfl) ?_
    refine xx_sipush (q := 122) rfl rfl (by decide) ?_
    refine xx_aload_n (q := 123) rfl rfl rfl ?_
    refine xx_gez (q := 126) rfl rfl rfl xS_479 (Nat.le_of_ble_eq_true rfl) rfl ((hT 479 37).trans ((if_neg (by omega)).trans h37)) ?_
    refine xx_imulR (q := 127) rfl rfl (by omega) (by omega) ?_
    refine xx_iload_n (q := 128) rfl rfl rfl ?_
    refine xx_iaddR (q := 129) rfl rfl (by omega) (by omega) ?_
    refine xx_aload_n (q := 130) rfl rfl rfl ?_
    refine xx_getR (q := 133) rfl rfl rfl xS_479 (Nat.le_of_ble_eq_true rfl) rfl (hR.1 479 35 rfl) ?_
    refine xx_sipush (q := 136) rfl rfl (by decide) ?_
    refine xx_iload_n (q := 137) rfl rfl rfl ?_
    refine xx_iaddR (q := 138) rfl rfl (by omega) (by omega) ?_
    refine xx_iaz (v := D1 504 (800 + i)) (q := 139) rfl rfl xS_504 (by omega) (by omega) (by rw [show (800 + (i : Int)).toNat = 800 + i by omega]; exact ((hT 504 (800 + i)).trans (if_neg (by omega)))) ?_
    refine xr_isz (fun d => d = (xui D 504 (400 * 1 + i) (D1 504 (800 + i)))) (q := 140) rfl rfl xS_504 (by omega) (by omega) (by rw [show ((400 * 1) + (i : Int)).toNat = (400 * 1 + i) by omega]) (fun D3 hd3 => ?_)
    subst hd3
    refine xx_aload_n (q := 141) rfl rfl rfl ?_
    refine xx_getR (q := 144) rfl rfl rfl xS_479 (Nat.le_of_ble_eq_true rfl) rfl (hR.1 479 36 rfl) ?_
    refine xx_sipush (q := 147) rfl rfl (by decide) ?_
    refine xx_aload_n (q := 148) rfl rfl rfl ?_
    refine xx_gez (q := 151) rfl rfl rfl xS_479 (Nat.le_of_ble_eq_true rfl) rfl ((xui_a (by omega)).trans (((hT 479 37).trans ((if_neg (by omega)).trans h37)))) ?_
    refine xx_imulR (q := 152) rfl rfl (by omega) (by omega) ?_
    refine xx_iload_n (q := 153) rfl rfl rfl ?_
    refine xx_iaddR (q := 154) rfl rfl (by omega) (by omega) ?_
    refine xx_aload_n (q := 155) rfl rfl rfl ?_
    refine xx_getR (q := 158) rfl rfl rfl xS_479 (Nat.le_of_ble_eq_true rfl) rfl (hR.1 479 36 rfl) ?_
    refine xx_sipush (q := 161) rfl rfl (by decide) ?_
    refine xx_iload_n (q := 162) rfl rfl rfl ?_
    refine xx_iaddR (q := 163) rfl rfl (by omega) (by omega) ?_
    refine xx_iaz (v := D1 505 (800 + i)) (q := 164) rfl rfl xS_505 (by omega) (by omega) (by rw [show (800 + (i : Int)).toNat = 800 + i by omega]; exact (xui_a (by omega)).trans (((hT 505 (800 + i)).trans (if_neg (by omega))))) ?_
    refine xr_isz (fun d => d = (xui (xui D 504 (400 * 1 + i) (D1 504 (800 + i))) 505 (400 * 1 + i) (D1 505 (800 + i)))) (q := 165) rfl rfl xS_505 (by omega) (by omega) (by rw [show ((400 * 1) + (i : Int)).toNat = (400 * 1 + i) by omega]) (fun D5 hd5 => ?_)
    subst hd5
    refine xx_incz (q := 168) (loc2 := [_, _, _]) rfl rfl rfl (by omega) (by omega) rfl rfl ?_
    refine xx_goto (q := 107) rfl rfl ?_
    obtain ⟨k, rfl⟩ : ∃ k2, k = k2 + 1 := ⟨k - 1, by omega⟩
    exact ih k (by omega) (i + 1) _ (by omega) (TkO_s (w := 1) (by omega) (by omega) hT)
set_option maxHeartbeats 2000000 in
theorem r_tkLH {n N M : Nat} {R : Nat → Nat → Option Nat} {D0 : KK} (hR : RF R) (h37 : D0 479 37 = 1) (h38 : D0 479 38 = (M : Int)) (hM : M ≤ 400) (hN : N ≤ 16) : ∀ (k : Nat) (i : Nat) (D : KK), i + k = N → TkL 1 i D0 D → XX (XC 0) 214 (XP none (xS n) R (fun D' => ∃ D1 D2, TkL 1 N D0 D1 ∧ TkO 1 M D1 D2 ∧ D' = xui D2 499 1 (N : Int))) 2 [some (.inr (some 479)), some (.inl (N : Int)), some (.inl (i : Int))] [] (xS n, R, D) := by
  intro k
  induction k using Nat.strongRecOn with
  | ind k ih =>
  intro i D hik hT
  refine xx_iload_n (q := 3) rfl rfl rfl ?_
  refine xx_iload_n (q := 4) rfl rfl rfl ?_
  refine xx_icmp_ge (q := 105) (q2 := 7) rfl rfl rfl (fun h4 => ?_) (fun h4 => ?_)
  · refine xx_iconst (q := 106) rfl rfl (by decide) ?_
    refine xx_istore_n (q := 107) (loc2 := [_, _, _]) rfl rfl (Nat.le_of_ble_eq_true rfl) rfl ?_
    exact r_tkOH hR (by rw [show N = i by omega]; exact hT) ((hT 479 37).trans ((if_neg (by omega)).trans h37)) ((hT 479 38).trans ((if_neg (by omega)).trans h38)) hM hN M 0 D (by omega) (fun x j => (if_neg (by omega)).symm)
  · refine xx_aload_n (q := 8) rfl rfl rfl ?_
    refine xx_getR (q := 11) rfl rfl rfl xS_479 (Nat.le_of_ble_eq_true rfl) rfl (hR.1 479 31 rfl) ?_
    refine xx_bipush (q := 13) rfl rfl (by decide) ?_
    refine xx_aload_n (q := 14) rfl rfl rfl ?_
    refine xx_gez (q := 17) rfl rfl rfl xS_479 (Nat.le_of_ble_eq_true rfl) rfl ((hT 479 37).trans ((if_neg (by omega)).trans h37)) ?_
    refine xx_imulR (q := 18) rfl rfl (by omega) (by omega) ?_
    refine xx_iload_n (q := 19) rfl rfl rfl ?_
    refine xx_iaddR (q := 20) rfl rfl (by omega) (by omega) ?_
    refine xx_aload_n (q := 21) rfl rfl rfl ?_
    refine xx_getR (q := 24) rfl rfl rfl xS_479 (Nat.le_of_ble_eq_true rfl) rfl (hR.1 479 31 rfl) ?_
    refine xx_bipush (q := 26) rfl rfl (by decide) ?_
    refine xx_iload_n (q := 27) rfl rfl rfl ?_
    refine xx_iaddR (q := 28) rfl rfl (by omega) (by omega) ?_
    refine xx_iaz (v := D0 500 (32 + i)) (q := 29) rfl rfl xS_500 (by omega) (by omega) (by rw [show (32 + (i : Int)).toNat = 32 + i by omega]; exact ((hT 500 (32 + i)).trans (if_neg (by omega)))) ?_
    refine xr_isz (fun d => d = (xui D 500 (16 * 1 + i) (D0 500 (32 + i)))) (q := 30) rfl rfl xS_500 (by omega) (by omega) (by rw [show ((16 * 1) + (i : Int)).toNat = (16 * 1 + i) by omega]) (fun D2 hd2 => ?_)
    subst hd2
    refine xx_aload_n (q := 31) rfl rfl rfl ?_
    refine xx_getR (q := 34) rfl rfl rfl xS_479 (Nat.le_of_ble_eq_true rfl) rfl (hR.1 479 32 rfl) ?_
    refine xx_bipush (q := 36) rfl rfl (by decide) ?_
    refine xx_aload_n (q := 37) rfl rfl rfl ?_
    refine xx_gez (q := 40) rfl rfl rfl xS_479 (Nat.le_of_ble_eq_true rfl) rfl ((xui_a (by omega)).trans (((hT 479 37).trans ((if_neg (by omega)).trans h37)))) ?_
    refine xx_imulR (q := 41) rfl rfl (by omega) (by omega) ?_
    refine xx_iload_n (q := 42) rfl rfl rfl ?_
    refine xx_iaddR (q := 43) rfl rfl (by omega) (by omega) ?_
    refine xx_aload_n (q := 44) rfl rfl rfl ?_
    refine xx_getR (q := 47) rfl rfl rfl xS_479 (Nat.le_of_ble_eq_true rfl) rfl (hR.1 479 32 rfl) ?_
    refine xx_bipush (q := 49) rfl rfl (by decide) ?_
    refine xx_iload_n (q := 50) rfl rfl rfl ?_
    refine xx_iaddR (q := 51) rfl rfl (by omega) (by omega) ?_
    refine xx_iaz (v := D0 501 (32 + i)) (q := 52) rfl rfl xS_501 (by omega) (by omega) (by rw [show (32 + (i : Int)).toNat = 32 + i by omega]; exact (xui_a (by omega)).trans (((hT 501 (32 + i)).trans (if_neg (by omega))))) ?_
    refine xr_isz (fun d => d = (xui (xui D 500 (16 * 1 + i) (D0 500 (32 + i))) 501 (16 * 1 + i) (D0 501 (32 + i)))) (q := 53) rfl rfl xS_501 (by omega) (by omega) (by rw [show ((16 * 1) + (i : Int)).toNat = (16 * 1 + i) by omega]) (fun D4 hd4 => ?_)
    subst hd4
    refine xx_aload_n (q := 54) rfl rfl rfl ?_
    refine xx_getR (q := 57) rfl rfl rfl xS_479 (Nat.le_of_ble_eq_true rfl) rfl (hR.1 479 33 rfl) ?_
    refine xx_bipush (q := 59) rfl rfl (by decide) ?_
    refine xx_aload_n (q := 60) rfl rfl rfl ?_
    refine xx_gez (q := 63) rfl rfl rfl xS_479 (Nat.le_of_ble_eq_true rfl) rfl ((xui_a (by omega)).trans ((xui_a (by omega)).trans (((hT 479 37).trans ((if_neg (by omega)).trans h37))))) ?_
    refine xx_imulR (q := 64) rfl rfl (by omega) (by omega) ?_
    refine xx_iload_n (q := 65) rfl rfl rfl ?_
    refine xx_iaddR (q := 66) rfl rfl (by omega) (by omega) ?_
    refine xx_aload_n (q := 67) rfl rfl rfl ?_
    refine xx_getR (q := 70) rfl rfl rfl xS_479 (Nat.le_of_ble_eq_true rfl) rfl (hR.1 479 33 rfl) ?_
    refine xx_bipush (q := 72) rfl rfl (by decide) ?_
    refine xx_iload_n (q := 73) rfl rfl rfl ?_
    refine xx_iaddR (q := 74) rfl rfl (by omega) (by omega) ?_
    refine xx_iaz (v := D0 502 (32 + i)) (q := 75) rfl rfl xS_502 (by omega) (by omega) (by rw [show (32 + (i : Int)).toNat = 32 + i by omega]; exact (xui_a (by omega)).trans ((xui_a (by omega)).trans (((hT 502 (32 + i)).trans (if_neg (by omega)))))) ?_
    refine xr_isz (fun d => d = (xui (xui (xui D 500 (16 * 1 + i) (D0 500 (32 + i))) 501 (16 * 1 + i) (D0 501 (32 + i))) 502 (16 * 1 + i) (D0 502 (32 + i)))) (q := 76) rfl rfl xS_502 (by omega) (by omega) (by rw [show ((16 * 1) + (i : Int)).toNat = (16 * 1 + i) by omega]) (fun D6 hd6 => ?_)
    subst hd6
    refine xx_aload_n (q := 77) rfl rfl rfl ?_
    refine xx_getR (q := 80) rfl rfl rfl xS_479 (Nat.le_of_ble_eq_true rfl) rfl (hR.1 479 34 rfl) ?_
    refine xx_bipush (q := 82) rfl rfl (by decide) ?_
    refine xx_aload_n (q := 83) rfl rfl rfl ?_
    refine xx_gez (q := 86) rfl rfl rfl xS_479 (Nat.le_of_ble_eq_true rfl) rfl ((xui_a (by omega)).trans ((xui_a (by omega)).trans ((xui_a (by omega)).trans (((hT 479 37).trans ((if_neg (by omega)).trans h37)))))) ?_
    refine xx_imulR (q := 87) rfl rfl (by omega) (by omega) ?_
    refine xx_iload_n (q := 88) rfl rfl rfl ?_
    refine xx_iaddR (q := 89) rfl rfl (by omega) (by omega) ?_
    refine xx_aload_n (q := 90) rfl rfl rfl ?_
    refine xx_getR (q := 93) rfl rfl rfl xS_479 (Nat.le_of_ble_eq_true rfl) rfl (hR.1 479 34 rfl) ?_
    refine xx_bipush (q := 95) rfl rfl (by decide) ?_
    refine xx_iload_n (q := 96) rfl rfl rfl ?_
    refine xx_iaddR (q := 97) rfl rfl (by omega) (by omega) ?_
    refine xx_iaz (v := D0 503 (32 + i)) (q := 98) rfl rfl xS_503 (by omega) (by omega) (by rw [show (32 + (i : Int)).toNat = 32 + i by omega]; exact (xui_a (by omega)).trans ((xui_a (by omega)).trans ((xui_a (by omega)).trans (((hT 503 (32 + i)).trans (if_neg (by omega))))))) ?_
    refine xr_isz (fun d => d = (xui (xui (xui (xui D 500 (16 * 1 + i) (D0 500 (32 + i))) 501 (16 * 1 + i) (D0 501 (32 + i))) 502 (16 * 1 + i) (D0 502 (32 + i))) 503 (16 * 1 + i) (D0 503 (32 + i)))) (q := 99) rfl rfl xS_503 (by omega) (by omega) (by rw [show ((16 * 1) + (i : Int)).toNat = (16 * 1 + i) by omega]) (fun D8 hd8 => ?_)
    subst hd8
    refine xx_incz (q := 102) (loc2 := [_, _, _]) rfl rfl rfl (by omega) (by omega) rfl rfl ?_
    refine xx_goto (q := 2) rfl rfl ?_
    obtain ⟨k, rfl⟩ : ∃ k2, k = k2 + 1 := ⟨k - 1, by omega⟩
    exact ih k (by omega) (i + 1) _ (by omega) (TkL_s (w := 1) (by omega) (by omega) hT)
theorem r_takesLawH {n : Nat} {R : Nat → Nat → Option Nat} {D : KK} {L : List LN1} (hR : RF R) (h37 : D 479 37 = 1) (hl : L.length ≤ 16) (h1 : LnD 32 L D) (h2 : D 479 38 = ((rfC L).length : Int)) (h3 : (rfC L).length ≤ 400) (h4 : ∀ j, j < (rfC L).length → D 504 (800 + j) = (opR ((rfC L).getD j 0)).1 ∧ D 505 (800 + j) = (opR ((rfC L).getD j 0)).2) : ∃ D', XC 1 214 [.inr (some 479), .inl (L.length : Int)] (xS n, R, D) none (xS n, R, D') ∧ LwR 1 L D' ∧ FTw 1 D D' := by
  have hx : ∃ D', XC 1 214 [.inr (some 479), .inl (L.length : Int)] (xS n, R, D) none (xS n, R, D') ∧ (∃ D1 D2, TkL 1 L.length D D1 ∧ TkO 1 (rfC L).length D1 D2 ∧ D' = xui D2 499 1 (L.length : Int)) := by
    refine XE_of (Nat.le_of_ble_eq_true rfl) (Nat.le_of_ble_eq_true rfl) (loc := [_, _, _]) rfl ?_
    refine xx_iconst (q := 1) rfl rfl (by decide) ?_
    refine xx_istore_n (q := 2) (loc2 := [_, _, _]) rfl rfl (Nat.le_of_ble_eq_true rfl) rfl ?_
    exact r_tkLH hR h37 h2 h3 hl L.length 0 D (by omega) (fun x j => (if_neg (by omega)).symm)
  obtain ⟨D', hx, D1, D2, a1, a2, rfl⟩ := hx
  refine ⟨_, hx, ⟨xui_s, hl, ?_, h3, ?_⟩, ?_⟩
  · intro i l hi
    have hil : i < L.length := (List.getElem?_eq_some_iff.mp hi).1
    have e : ∀ x, 500 ≤ x → x ≤ 503 → xui D2 499 1 (L.length : Int) x (16 * 1 + i) = D x (32 + i) := fun x q1 q2 => by
      rw [show xui D2 499 1 (L.length : Int) x (16 * 1 + i) = D2 x (16 * 1 + i) from xui_a (by omega), a2, if_neg (by omega), a1, if_pos (by omega), show 16 * 1 + i - 16 * 1 = i by omega]
    rw [e _ (by omega) (by omega), e _ (by omega) (by omega), e _ (by omega) (by omega), e _ (by omega) (by omega)]
    exact h1 i l hi
  · intro j hj
    have e : ∀ x, 504 ≤ x → x ≤ 505 → xui D2 499 1 (L.length : Int) x (400 * 1 + j) = D x (800 + j) := fun x q1 q2 => by
      rw [show xui D2 499 1 (L.length : Int) x (400 * 1 + j) = D2 x (400 * 1 + j) from xui_a (by omega), a2, if_pos (by omega), show 400 * 1 + j - 400 * 1 = j by omega, a1, if_neg (by omega)]
    rw [e _ (by omega) (by omega), e _ (by omega) (by omega)]
    exact h4 j hj
  · intro x k q1 q2 q3
    show (if x = 499 ∧ k = 1 then (L.length : Int) else D2 x k) = D x k
    rw [if_neg (fun q => q1 q.1 q.2), a2, if_neg (fun q => by have := q3 (by omega); omega), a1, if_neg (fun q => by have := q2 (by omega); omega)]
