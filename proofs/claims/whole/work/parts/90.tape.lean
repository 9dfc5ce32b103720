/-! The tape: both. -/
def byF (v : Int) (k : Nat) : Int := xand (xshr v (8 * (k : Int))) 255
def fedL (v : Int) : Nat → List Int
  | 0 => []
  | k + 1 => byF v k :: fedL v k
theorem fedL_len (v : Int) : ∀ k : Nat, (fedL v k).length = k
  | 0 => rfl
  | k + 1 => by
    show (fedL v k).length + 1 = k + 1
    rw [fedL_len v k]
theorem xand_255 (a : Int) : 0 ≤ xand a 255 ∧ xand a 255 ≤ 255 := by
  unfold xand
  have e : (Int32.ofInt a &&& Int32.ofInt 255).toInt = ((Int32.ofInt a).toBitVec &&& 255#32).toInt := rfl
  have h1 : ((Int32.ofInt a).toBitVec &&& 255#32).toNat ≤ 255 := by
    rw [BitVec.toNat_and]
    exact Nat.and_le_right
  rw [e, BitVec.toInt_eq_toNat_of_lt (by omega)]
  omega
theorem by_u (v : Int) (k : Nat) (hk : k < 4) : xand (xushr v (8 * (k : Int))) 255 = byF v k := by
  unfold byF xand xushr xshr
  rw [Int32.ofInt_toInt, Int32.ofInt_toInt]
  congr 1
  have hs : ∀ k : Nat, k < 4 → ((Int32.ofInt (8 * (k : Int))).toUInt32 &&& Int32.toUInt32 31).toBitVec.toNat % 32 = 8 * k ∧ ((Int32.ofInt (8 * (k : Int)) &&& 31).toBitVec.smod 32).toNat = 8 * k := by decide +kernel
  obtain ⟨h1, h2⟩ := hs k hk
  generalize Int32.ofInt v = x
  have e1 : (x.toUInt32 >>> ((Int32.ofInt (8 * (k : Int))).toUInt32 &&& Int32.toUInt32 31)).toInt32.toBitVec = x.toBitVec >>> (8 * k) := by
    show x.toBitVec >>> (((Int32.ofInt (8 * (k : Int))).toUInt32 &&& Int32.toUInt32 31).toBitVec % 32) = _
    rw [BitVec.ushiftRight_eq', BitVec.toNat_umod]
    exact congrArg (fun t => x.toBitVec >>> t) h1
  have e2 : (x >>> (Int32.ofInt (8 * (k : Int)) &&& 31)).toBitVec = x.toBitVec.sshiftRight (8 * k) := by
    show x.toBitVec.sshiftRight ((Int32.ofInt (8 * (k : Int)) &&& 31).toBitVec.smod 32).toNat = _
    rw [h2]
  apply Int32.toBitVec_inj.mp
  rw [Int32.toBitVec_and, Int32.toBitVec_and, e1, e2]
  apply BitVec.eq_of_getLsbD_eq
  intro i hi
  rw [BitVec.getLsbD_and, BitVec.getLsbD_and, BitVec.getLsbD_ushiftRight, BitVec.getLsbD_sshiftRight]
  have h255 : ∀ i : Nat, i < 32 → 8 ≤ i → (Int32.ofInt 255).toBitVec.getLsbD i = false := by decide +kernel
  rcases Nat.lt_or_ge i 8 with q | q
  · have : 8 * k + i < 32 := by omega
    have h3 : ¬ 32 ≤ i := by omega
    simp only [this, h3, if_pos, decide_false, Bool.not_false, Bool.true_and]
  · rw [h255 i hi q, Bool.and_false, Bool.and_false]
def TpC (bs : List Int) (D : KK) : Prop := D 474 0 = (bs.length : Int) ∧ ∀ k, k < bs.length → D 475 k = bs.getD k 0
def TpR (bs : List Int) (D : KK) : Prop := D 479 24 = (bs.length : Int) ∧ ∀ k, k < bs.length → D 497 k = bs.getD k 0
theorem gd_ap {l : List Int} {v : Int} {D : KK} {a : Nat} (h : ∀ k, k < l.length → D a k = l.getD k 0) : ∀ k, k < (l ++ [v]).length → xui D a l.length v a k = (l ++ [v]).getD k 0 := by
  intro k hk
  rw [List.length_append] at hk
  rcases Classical.em (k = l.length) with q | q
  · rw [q, xui_s]; simp [List.getD]
  · have hk2 : k < l.length := by simp at hk; omega
    rw [xui_j q, h k hk2]; simp [List.getD, List.getElem?_append, hk2]
set_option maxHeartbeats 1000000 in
theorem c_tadd_L {n : Nat} {R : Nat → Nat → Option Nat} {D0 : KK} (hR : RF R) (v : Int) : ∀ (k : Nat) (l : List Int) (D : KK) (z : Int), TpC l D → (∀ x k, x ≠ 475 → (x = 474 → k ≠ 0) → D x k = D0 x k) → l.length + k ≤ 400 → k ≤ 4 → z = 8 * (k : Int) - 8 → XX (XC 0) 90 (XP none (xS n) R (fun D' => TpC (l ++ fedL v k) D' ∧ ∀ x k, x ≠ 475 → (x = 474 → k ≠ 0) → D' x k = D0 x k)) 3 [some (.inr (some 474)), some (.inl v), some (.inl z)] [] (xS n, R, D) := by
  intro k
  induction k using Nat.strongRecOn with
  | ind k ih =>
  intro l D z hT hF hl hk4 hz
  refine xx_iload_n (q := 4) rfl rfl rfl ?_
  refine xx_if_lt (q := 49) (q2 := 7) rfl rfl rfl (fun h4 => ?_) (fun h4 => ?_)
  · obtain rfl : k = 0 := by omega
    rw [show l ++ fedL v 0 = l from List.append_nil l]
    exact xx_vret rfl rfl ⟨rfl, _, rfl, hT, hF⟩
  · obtain ⟨k, rfl⟩ : ∃ k2, k = k2 + 1 := ⟨k - 1, by omega⟩
    replace hz : z = 8 * (k : Int) := by omega
    refine xx_aload_n (q := 8) rfl rfl rfl ?_
    refine xx_gez (q := 11) rfl rfl rfl xS_474 (Nat.le_of_ble_eq_true rfl) rfl hT.1 ?_
    refine xx_sipush (q := 14) rfl rfl (by decide) ?_
    refine xx_icmp_ge (q := 49) (q2 := 17) rfl rfl rfl (fun h14 => (by exfalso; omega)) (fun _ => ?_)
    refine xx_aload_n (q := 18) rfl rfl rfl ?_
    refine xx_getR (q := 21) rfl rfl rfl xS_474 (Nat.le_of_ble_eq_true rfl) rfl (hR.1 474 3 rfl) ?_
    refine xx_aload_n (q := 22) rfl rfl rfl ?_
    refine xx_gez (q := 25) rfl rfl rfl xS_474 (Nat.le_of_ble_eq_true rfl) rfl hT.1 ?_
    refine xx_iload_n (q := 26) rfl rfl rfl ?_
    refine xx_iload_n (q := 27) rfl rfl rfl ?_
    refine xx_iushr (q := 28) rfl rfl ?_
    refine xx_sipush (q := 31) rfl rfl (by decide) ?_
    refine xx_iand (q := 32) rfl rfl ?_
    refine xr_isz (fun d => d 474 0 = (l.length : Int) ∧ (∀ j, j < (l ++ [byF v k]).length → d 475 j = (l ++ [byF v k]).getD j 0) ∧ ∀ x k, x ≠ 475 → (x = 474 → k ≠ 0) → d x k = D0 x k) (q := 33) rfl rfl xS_475 (by omega) (by omega) ⟨(xui_a (by omega)).trans hT.1, ?_, fun x k q1 q2 => (xui_a q1).trans (hF x k q1 q2)⟩ (fun D2 hD2 => ?_)
    · (rw [show ((l.length : Nat) : Int).toNat = l.length by omega, show xand (xushr v z) 255 = byF v k by rw [hz]; exact by_u v k (by omega)]; exact gd_ap hT.2)
    refine xx_aload_n (q := 34) rfl rfl rfl ?_
    refine xx_dup (q := 35) rfl rfl ?_
    refine xx_gez (q := 38) rfl rfl rfl xS_474 (Nat.le_of_ble_eq_true rfl) rfl hD2.1 ?_
    refine xx_iconst (q := 39) rfl rfl (by decide) ?_
    refine xx_iaddR (q := 40) rfl rfl (by omega) (by omega) ?_
    refine xr_puz (fun d => TpC (l ++ [byF v k]) d ∧ ∀ x k, x ≠ 475 → (x = 474 → k ≠ 0) → d x k = D0 x k) (q := 43) rfl rfl rfl xS_474 (Nat.le_of_ble_eq_true rfl) (Nat.le_of_ble_eq_true rfl) (fun h => by cases h) (Or.inl rfl) ⟨⟨xui_s.trans (by rw [List.length_append]; rfl), fun j hj => (xui_a (by omega)).trans (hD2.2.1 j hj)⟩, fun x k q1 q2 => (if_neg (fun r => q2 r.1 r.2)).trans (hD2.2.2 x k q1 q2)⟩ (fun D3 hD3 => ?_)
    refine xx_incz (q := 46) (loc2 := [_, _, _]) rfl rfl rfl (by omega) (by omega) rfl rfl ?_
    refine xx_goto (q := 3) rfl rfl ?_
    rw [show l ++ fedL v (k + 1) = (l ++ [byF v k]) ++ fedL v k by rw [List.append_assoc]; rfl]
    exact ih k (by omega) _ _ _ hD3.1 hD3.2 (by rw [List.length_append]; show l.length + 1 + k ≤ 400; omega) (by omega) (by omega)
set_option maxHeartbeats 1000000 in
theorem c_tadd {n : Nat} {R : Nat → Nat → Option Nat} {D : KK} (hR : RF R) (v : Int) (l : List Int) (hT : TpC l D) (hl : l.length + 4 ≤ 400) : ∃ D', XC 1 90 [.inr (some 474), .inl v] (xS n, R, D) none (xS n, R, D') ∧ TpC (l ++ fedL v 4) D' ∧ ∀ x k, x ≠ 475 → (x = 474 → k ≠ 0) → D' x k = D x k := by
  refine XE_of (Nat.le_of_ble_eq_true rfl) (Nat.le_of_ble_eq_true rfl) (loc := [_, _, _]) rfl ?_
  refine xx_bipush (q := 2) rfl rfl (by decide) ?_
  refine xx_istore_n (q := 3) (loc2 := [_, _, _]) rfl rfl (Nat.le_of_ble_eq_true rfl) rfl ?_
  exact c_tadd_L hR v 4 l D _ hT (fun _ _ _ _ => rfl) hl (by omega) (by omega)
set_option maxHeartbeats 1000000 in
theorem r_types_L {n : Nat} {R : Nat → Nat → Option Nat} {D0 : KK} (hR : RF R) (v : Int) : ∀ (k : Nat) (l : List Int) (D : KK) (z : Int), TpR l D → (∀ x k, x ≠ 497 → (x = 479 → k ≠ 24) → D x k = D0 x k) → l.length + k ≤ 400 → k ≤ 4 → z = 8 * (k : Int) - 8 → XX (XC 0) 191 (XP none (xS n) R (fun D' => TpR (l ++ fedL v k) D' ∧ ∀ x k, x ≠ 497 → (x = 479 → k ≠ 24) → D' x k = D0 x k)) 3 [some (.inr (some 479)), some (.inl v), some (.inl z)] [] (xS n, R, D) := by
  intro k
  induction k using Nat.strongRecOn with
  | ind k ih =>
  intro l D z hT hF hl hk4 hz
  refine xx_iload_n (q := 4) rfl rfl rfl ?_
  refine xx_if_lt (q := 39) (q2 := 7) rfl rfl rfl (fun h4 => ?_) (fun h4 => ?_)
  · obtain rfl : k = 0 := by omega
    rw [show l ++ fedL v 0 = l from List.append_nil l]
    exact xx_vret rfl rfl ⟨rfl, _, rfl, hT, hF⟩
  · obtain ⟨k, rfl⟩ : ∃ k2, k = k2 + 1 := ⟨k - 1, by omega⟩
    replace hz : z = 8 * (k : Int) := by omega
    refine xx_aload_n (q := 8) rfl rfl rfl ?_
    refine xx_getR (q := 11) rfl rfl rfl xS_479 (Nat.le_of_ble_eq_true rfl) rfl (hR.1 479 23 rfl) ?_
    refine xx_aload_n (q := 12) rfl rfl rfl ?_
    refine xx_gez (q := 15) rfl rfl rfl xS_479 (Nat.le_of_ble_eq_true rfl) rfl hT.1 ?_
    refine xx_iload_n (q := 16) rfl rfl rfl ?_
    refine xx_iload_n (q := 17) rfl rfl rfl ?_
    refine xx_ishr (q := 18) rfl rfl ?_
    refine xx_sipush (q := 21) rfl rfl (by decide) ?_
    refine xx_iand (q := 22) rfl rfl ?_
    refine xr_isz (fun d => d 479 24 = (l.length : Int) ∧ (∀ j, j < (l ++ [byF v k]).length → d 497 j = (l ++ [byF v k]).getD j 0) ∧ ∀ x k, x ≠ 497 → (x = 479 → k ≠ 24) → d x k = D0 x k) (q := 23) rfl rfl xS_497 (by omega) (by omega) ⟨(xui_a (by omega)).trans hT.1, ?_, fun x k q1 q2 => (xui_a q1).trans (hF x k q1 q2)⟩ (fun D2 hD2 => ?_)
    · (rw [show ((l.length : Nat) : Int).toNat = l.length by omega, show xand (xshr v z) 255 = byF v k by rw [hz]; rfl]; exact gd_ap hT.2)
    refine xx_aload_n (q := 24) rfl rfl rfl ?_
    refine xx_aload_n (q := 25) rfl rfl rfl ?_
    refine xx_gez (q := 28) rfl rfl rfl xS_479 (Nat.le_of_ble_eq_true rfl) rfl hD2.1 ?_
    refine xx_iconst (q := 29) rfl rfl (by decide) ?_
    refine xx_iaddR (q := 30) rfl rfl (by omega) (by omega) ?_
    refine xr_puz (fun d => TpR (l ++ [byF v k]) d ∧ ∀ x k, x ≠ 497 → (x = 479 → k ≠ 24) → d x k = D0 x k) (q := 33) rfl rfl rfl xS_479 (Nat.le_of_ble_eq_true rfl) (Nat.le_of_ble_eq_true rfl) (fun h => by cases h) (Or.inl rfl) ⟨⟨xui_s.trans (by rw [List.length_append]; rfl), fun j hj => (xui_a (by omega)).trans (hD2.2.1 j hj)⟩, fun x k q1 q2 => (if_neg (fun r => q2 r.1 r.2)).trans (hD2.2.2 x k q1 q2)⟩ (fun D3 hD3 => ?_)
    refine xx_incz (q := 36) (loc2 := [_, _, _]) rfl rfl rfl (by omega) (by omega) rfl rfl ?_
    refine xx_goto (q := 3) rfl rfl ?_
    rw [show l ++ fedL v (k + 1) = (l ++ [byF v k]) ++ fedL v k by rw [List.append_assoc]; rfl]
    exact ih k (by omega) _ _ _ hD3.1 hD3.2 (by rw [List.length_append]; show l.length + 1 + k ≤ 400; omega) (by omega) (by omega)
set_option maxHeartbeats 1000000 in
theorem r_types {n : Nat} {R : Nat → Nat → Option Nat} {D : KK} (hR : RF R) (v : Int) (l : List Int) (hT : TpR l D) (hl : l.length + 4 ≤ 400) : ∃ D', XC 1 191 [.inr (some 479), .inl v] (xS n, R, D) none (xS n, R, D') ∧ TpR (l ++ fedL v 4) D' ∧ ∀ x k, x ≠ 497 → (x = 479 → k ≠ 24) → D' x k = D x k := by
  refine XE_of (Nat.le_of_ble_eq_true rfl) (Nat.le_of_ble_eq_true rfl) (loc := [_, _, _]) rfl ?_
  refine xx_bipush (q := 2) rfl rfl (by decide) ?_
  refine xx_istore_n (q := 3) (loc2 := [_, _, _]) rfl rfl (Nat.le_of_ble_eq_true rfl) rfl ?_
  exact r_types_L hR v 4 l D _ hT (fun _ _ _ _ => rfl) hl (by omega) (by omega)
def fedB (bs : List Int) (a b c d e : Int) : List Int := bs ++ fedL a 4 ++ fedL b 4 ++ fedL c 4 ++ fedL d 4 ++ fedL e 4
def fedF (bs : List Int) : Int := if (bs.length : Int) ≤ 380 then (bs.length : Int) + 20 else -1
def fedN (bs : List Int) (a b c d e : Int) : List Int := if (bs.length : Int) ≤ 380 then fedB bs a b c d e else bs
theorem fedB_len {bs : List Int} {a b c d e : Int} : (((fedB bs a b c d e).length : Nat) : Int) = (bs.length : Int) + 20 := by
  unfold fedB
  simp [fedL_len]
set_option maxHeartbeats 1000000 in
theorem c_feed {n : Nat} {R : Nat → Nat → Option Nat} {D : KK} (hR : RF R) (bs : List Int) (hT : TpC bs D) (hl4 : bs.length ≤ 400) (a b c d e : Int) : ∃ D', XC 2 124 [.inr (some 5), .inl a, .inl b, .inl c, .inl d, .inl e] (xS n, R, D) (some (.inl (fedF bs))) (xS n, R, D') ∧ TpC (fedN bs a b c d e) D' ∧ ∀ x k, x ≠ 475 → (x = 474 → k ≠ 0) → D' x k = D x k := by
  refine XE_of (Nat.le_of_ble_eq_true rfl) (Nat.le_of_ble_eq_true rfl) (loc := [_, _, _, _, _, _]) rfl ?_
  refine xx_aload_n (q := 1) rfl rfl rfl ?_
  refine xx_getR (q := 4) rfl rfl rfl xS_5 (Nat.le_of_ble_eq_true rfl) rfl (hR.1 5 4 rfl) ?_
  refine xx_gez (q := 7) rfl rfl rfl xS_474 (Nat.le_of_ble_eq_true rfl) rfl hT.1 ?_
  refine xx_bipush (q := 9) rfl rfl (by decide) ?_
  refine xx_iaddR (q := 10) rfl rfl (by omega) (by omega) ?_
  refine xx_sipush (q := 13) rfl rfl (by decide) ?_
  refine xx_icmp_le (q := 18) (q2 := 16) rfl rfl rfl (fun h13 => ?_) (fun h13 => ?_)
  · refine xx_aload_n (q := 19) rfl rfl rfl ?_
    refine xx_getR (q := 22) rfl rfl rfl xS_5 (Nat.le_of_ble_eq_true rfl) rfl (hR.1 5 4 rfl) ?_
    refine xx_iload_n (q := 23) rfl rfl rfl ?_
    obtain ⟨D1, hx1, hT1, hF1⟩ := c_tadd (n := n) hR a bs hT (by rw [show bs.length = bs.length + 0 by simp [fedL_len]]; omega)
    refine xx_callV (q := 26) (As := [_]) (rest := []) rfl rfl rfl (Or.inl rfl) rfl rfl (Nat.le_of_ble_eq_true rfl) xS_474 (XCm hx1 rfl) rfl ?_
    refine xx_aload_n (q := 27) rfl rfl rfl ?_
    refine xx_getR (q := 30) rfl rfl rfl xS_5 (Nat.le_of_ble_eq_true rfl) rfl (hR.1 5 4 rfl) ?_
    refine xx_iload_n (q := 31) rfl rfl rfl ?_
    obtain ⟨D2, hx2, hT2, hF2⟩ := c_tadd (n := n) hR b (bs ++ fedL a 4) hT1 (by rw [show (bs ++ fedL a 4).length = bs.length + 4 by simp [fedL_len]]; omega)
    refine xx_callV (q := 34) (As := [_]) (rest := []) rfl rfl rfl (Or.inl rfl) rfl rfl (Nat.le_of_ble_eq_true rfl) xS_474 (XCm hx2 rfl) rfl ?_
    refine xx_aload_n (q := 35) rfl rfl rfl ?_
    refine xx_getR (q := 38) rfl rfl rfl xS_5 (Nat.le_of_ble_eq_true rfl) rfl (hR.1 5 4 rfl) ?_
    refine xx_iload_n (q := 39) rfl rfl rfl ?_
    obtain ⟨D3, hx3, hT3, hF3⟩ := c_tadd (n := n) hR c (bs ++ fedL a 4 ++ fedL b 4) hT2 (by rw [show (bs ++ fedL a 4 ++ fedL b 4).length = bs.length + 8 by simp [fedL_len]]; omega)
    refine xx_callV (q := 42) (As := [_]) (rest := []) rfl rfl rfl (Or.inl rfl) rfl rfl (Nat.le_of_ble_eq_true rfl) xS_474 (XCm hx3 rfl) rfl ?_
    refine xx_aload_n (q := 43) rfl rfl rfl ?_
    refine xx_getR (q := 46) rfl rfl rfl xS_5 (Nat.le_of_ble_eq_true rfl) rfl (hR.1 5 4 rfl) ?_
    refine xx_iload (q := 48) rfl rfl rfl ?_
    obtain ⟨D4, hx4, hT4, hF4⟩ := c_tadd (n := n) hR d (bs ++ fedL a 4 ++ fedL b 4 ++ fedL c 4) hT3 (by rw [show (bs ++ fedL a 4 ++ fedL b 4 ++ fedL c 4).length = bs.length + 12 by simp [fedL_len]]; omega)
    refine xx_callV (q := 51) (As := [_]) (rest := []) rfl rfl rfl (Or.inl rfl) rfl rfl (Nat.le_of_ble_eq_true rfl) xS_474 (XCm hx4 rfl) rfl ?_
    refine xx_aload_n (q := 52) rfl rfl rfl ?_
    refine xx_getR (q := 55) rfl rfl rfl xS_5 (Nat.le_of_ble_eq_true rfl) rfl (hR.1 5 4 rfl) ?_
    refine xx_iload (q := 57) rfl rfl rfl ?_
    obtain ⟨D5, hx5, hT5, hF5⟩ := c_tadd (n := n) hR e (bs ++ fedL a 4 ++ fedL b 4 ++ fedL c 4 ++ fedL d 4) hT4 (by rw [show (bs ++ fedL a 4 ++ fedL b 4 ++ fedL c 4 ++ fedL d 4).length = bs.length + 16 by simp [fedL_len]]; omega)
    refine xx_callV (q := 60) (As := [_]) (rest := []) rfl rfl rfl (Or.inl rfl) rfl rfl (Nat.le_of_ble_eq_true rfl) xS_474 (XCm hx5 rfl) rfl ?_
    refine xx_aload_n (q := 61) rfl rfl rfl ?_
    refine xx_getR (q := 64) rfl rfl rfl xS_5 (Nat.le_of_ble_eq_true rfl) rfl (hR.1 5 4 rfl) ?_
    refine xx_gez (q := 67) rfl rfl rfl xS_474 (Nat.le_of_ble_eq_true rfl) rfl hT5.1 ?_
    refine xx_iret rfl trivial ⟨congrArg (fun z => some (Sum.inl z)) (by unfold fedF; rw [if_pos (by omega)]; exact fedB_len), _, rfl, ?_⟩
    unfold fedN
    rw [if_pos (by omega)]
    exact ⟨hT5, fun x k q1 q2 => (hF5 x k (by omega) (by omega)).trans ((hF4 x k (by omega) (by omega)).trans ((hF3 x k (by omega) (by omega)).trans ((hF2 x k (by omega) (by omega)).trans (hF1 x k (by omega) (by omega)))))⟩
  · refine xx_iconst (q := 17) rfl rfl (by decide) ?_
    refine xx_iret rfl trivial ⟨congrArg (fun z => some (Sum.inl z)) (by unfold fedF; rw [if_neg (by omega)]), _, rfl, ?_⟩
    unfold fedN
    rw [if_neg (by omega)]
    exact ⟨hT, fun _ _ _ _ => rfl⟩
theorem TpR.fr {bs : List Int} {D E : KK} (h : TpR bs D) (g : ∀ x k, (x = 479 ∧ k = 24) ∨ x = 497 → E x k = D x k) : TpR bs E := ⟨(g 479 24 (by omega)).trans h.1, fun k hk => (g 497 k (by omega)).trans (h.2 k hk)⟩
theorem TpC.fr {bs : List Int} {D E : KK} (h : TpC bs D) (g : ∀ x k, (x = 474 ∧ k = 0) ∨ x = 475 → E x k = D x k) : TpC bs E := ⟨(g 474 0 (by omega)).trans h.1, fun k hk => (g 475 k (by omega)).trans (h.2 k hk)⟩
theorem TpR.take {bs : List Int} {D : KK} {m : Nat} (h : TpR bs D) (hm : m ≤ bs.length) : TpR (bs.take m) (xui D 479 24 (m : Int)) := by
  have hl : (bs.take m).length = m := by rw [List.length_take]; omega
  refine ⟨xui_s.trans (by rw [hl]), fun k hk => ?_⟩
  rw [xui_a (by omega), h.2 k (by omega)]
  simp [List.getD, List.getElem?_take, show k < m by omega]
theorem TpC.take {bs : List Int} {D : KK} {m : Nat} (h : TpC bs D) (hm : m ≤ bs.length) : TpC (bs.take m) (xui D 474 0 (m : Int)) := by
  have hl : (bs.take m).length = m := by rw [List.length_take]; omega
  refine ⟨xui_s.trans (by rw [hl]), fun k hk => ?_⟩
  rw [xui_a (by omega), h.2 k (by omega)]
  simp [List.getD, List.getElem?_take, show k < m by omega]
set_option maxHeartbeats 2000000 in
theorem r_feed {n : Nat} {R : Nat → Nat → Option Nat} {D : KK} (hR : RF R) (bs : List Int) (hT : TpR bs D) (hl4 : bs.length ≤ 400) (a b c d e : Int) : ∃ D', XC 2 192 [.inr (some 479), .inl a, .inl b, .inl c, .inl d, .inl e] (xS n, R, D) (some (.inl (fedF bs))) (xS n, R, D') ∧ TpR (fedN bs a b c d e) D' ∧ ∀ x k, x ≠ 497 → (x = 479 → k ≠ 0 ∧ k ≠ 24) → D' x k = D x k := by
  refine XE_of (Nat.le_of_ble_eq_true rfl) (Nat.le_of_ble_eq_true rfl) (loc := [_, _, _, _, _, _]) rfl ?_
  refine xx_aload_n (q := 1) rfl rfl rfl ?_
  refine xx_iconst (q := 2) rfl rfl (by decide) ?_
  refine xr_puz (fun d => ∀ x k, (x = 479 → k ≠ 0) → d x k = D x k) (q := 5) rfl rfl rfl xS_479 (Nat.le_of_ble_eq_true rfl) (Nat.le_of_ble_eq_true rfl) (fun h => by cases h) (Or.inl rfl) (fun x k q => if_neg (fun r => q r.1 r.2)) (fun D1 h1 => ?_)
  have hT1 : TpR bs D1 := hT.fr (fun x k q => h1 x k (by omega))
  refine xx_aload_n (q := 6) rfl rfl rfl ?_
  refine xx_gez (q := 9) rfl rfl rfl xS_479 (Nat.le_of_ble_eq_true rfl) rfl hT1.1 ?_
  refine xx_sipush (q := 12) rfl rfl (by decide) ?_
  refine xx_icmp_le (q := 17) (q2 := 15) rfl rfl rfl (fun h12 => ?_) (fun h12 => ?_)
  · refine xx_aload_n (q := 18) rfl rfl rfl ?_
    refine xx_iload_n (q := 19) rfl rfl rfl ?_
    obtain ⟨D1, hx1, hT1, hF1⟩ := r_types (n := n) hR a bs hT1 (by rw [show bs.length = bs.length + 0 by simp [fedL_len]]; omega)
    refine xx_callV (q := 22) (As := [_]) (rest := []) rfl rfl rfl (Or.inl rfl) rfl rfl (Nat.le_of_ble_eq_true rfl) xS_479 (XCm hx1 rfl) rfl ?_
    refine xx_aload_n (q := 23) rfl rfl rfl ?_
    refine xx_iload_n (q := 24) rfl rfl rfl ?_
    obtain ⟨D2, hx2, hT2, hF2⟩ := r_types (n := n) hR b (bs ++ fedL a 4) hT1 (by rw [show (bs ++ fedL a 4).length = bs.length + 4 by simp [fedL_len]]; omega)
    refine xx_callV (q := 27) (As := [_]) (rest := []) rfl rfl rfl (Or.inl rfl) rfl rfl (Nat.le_of_ble_eq_true rfl) xS_479 (XCm hx2 rfl) rfl ?_
    refine xx_aload_n (q := 28) rfl rfl rfl ?_
    refine xx_iload_n (q := 29) rfl rfl rfl ?_
    obtain ⟨D3, hx3, hT3, hF3⟩ := r_types (n := n) hR c (bs ++ fedL a 4 ++ fedL b 4) hT2 (by rw [show (bs ++ fedL a 4 ++ fedL b 4).length = bs.length + 8 by simp [fedL_len]]; omega)
    refine xx_callV (q := 32) (As := [_]) (rest := []) rfl rfl rfl (Or.inl rfl) rfl rfl (Nat.le_of_ble_eq_true rfl) xS_479 (XCm hx3 rfl) rfl ?_
    refine xx_aload_n (q := 33) rfl rfl rfl ?_
    refine xx_iload (q := 35) rfl rfl rfl ?_
    obtain ⟨D4, hx4, hT4, hF4⟩ := r_types (n := n) hR d (bs ++ fedL a 4 ++ fedL b 4 ++ fedL c 4) hT3 (by rw [show (bs ++ fedL a 4 ++ fedL b 4 ++ fedL c 4).length = bs.length + 12 by simp [fedL_len]]; omega)
    refine xx_callV (q := 38) (As := [_]) (rest := []) rfl rfl rfl (Or.inl rfl) rfl rfl (Nat.le_of_ble_eq_true rfl) xS_479 (XCm hx4 rfl) rfl ?_
    refine xx_aload_n (q := 39) rfl rfl rfl ?_
    refine xx_iload (q := 41) rfl rfl rfl ?_
    obtain ⟨D5, hx5, hT5, hF5⟩ := r_types (n := n) hR e (bs ++ fedL a 4 ++ fedL b 4 ++ fedL c 4 ++ fedL d 4) hT4 (by rw [show (bs ++ fedL a 4 ++ fedL b 4 ++ fedL c 4 ++ fedL d 4).length = bs.length + 16 by simp [fedL_len]]; omega)
    refine xx_callV (q := 44) (As := [_]) (rest := []) rfl rfl rfl (Or.inl rfl) rfl rfl (Nat.le_of_ble_eq_true rfl) xS_479 (XCm hx5 rfl) rfl ?_
    refine xx_aload_n (q := 45) rfl rfl rfl ?_
    refine xx_gez (q := 48) rfl rfl rfl xS_479 (Nat.le_of_ble_eq_true rfl) rfl hT5.1 ?_
    refine xx_iret rfl trivial ⟨congrArg (fun z => some (Sum.inl z)) (by unfold fedF; rw [if_pos (by omega)]; exact fedB_len), _, rfl, ?_⟩
    unfold fedN
    rw [if_pos (by omega)]
    exact ⟨hT5, fun x k q1 q2 => ((hF5 x k (by omega) (by omega)).trans ((hF4 x k (by omega) (by omega)).trans ((hF3 x k (by omega) (by omega)).trans ((hF2 x k (by omega) (by omega)).trans (hF1 x k (by omega) (by omega)))))).trans (h1 x k (by omega))⟩
  · refine xx_iconst (q := 16) rfl rfl (by decide) ?_
    refine xx_iret rfl trivial ⟨congrArg (fun z => some (Sum.inl z)) (by unfold fedF; rw [if_neg (by omega)]), _, rfl, ?_⟩
    unfold fedN
    rw [if_neg (by omega)]
    exact ⟨hT1, fun x k _ q2 => h1 x k (by omega)⟩
def endN (bs : List Int) (m : Int) : List Int := if 0 ≤ m ∧ m ≤ (bs.length : Int) then bs.take m.toNat else bs
set_option maxHeartbeats 1000000 in
theorem c_end {n : Nat} {R : Nat → Nat → Option Nat} {D : KK} (hR : RF R) (bs : List Int) (hT : TpC bs D) (hl4 : bs.length ≤ 400) (m : Int) : ∃ D', XC 2 125 [.inr (some 5), .inl m] (xS n, R, D) (some (.inl (bi (0 ≤ m ∧ m ≤ (bs.length : Int))))) (xS n, R, D') ∧ TpC (endN bs m) D' ∧ ∀ x k, (x = 474 → k ≠ 0) → D' x k = D x k := by
  refine XE_of (Nat.le_of_ble_eq_true rfl) (Nat.le_of_ble_eq_true rfl) (loc := [_, _]) rfl ?_
  refine xx_iload_n (q := 1) rfl rfl rfl ?_
  refine xx_iconst (q := 2) rfl rfl (by decide) ?_
  refine xx_aload_n (q := 3) rfl rfl rfl ?_
  refine xx_getR (q := 6) rfl rfl rfl xS_5 (Nat.le_of_ble_eq_true rfl) rfl (hR.1 5 4 rfl) ?_
  refine xx_gez (q := 9) rfl rfl rfl xS_474 (Nat.le_of_ble_eq_true rfl) rfl hT.1 ?_
  refine xx_callS (q := 12) (As := [_, _, _]) (rest := []) rfl rfl rfl (Or.inl rfl) rfl rfl (Nat.le_of_ble_eq_true rfl) (XCm (c_within m 0 (bs.length : Int)) rfl) rfl ?_
  refine xx_ifb_ne (q := 17) (q2 := 15) rfl rfl rfl (fun h12 => ?_) (fun h12 => ?_)
  · refine xx_aload_n (q := 18) rfl rfl rfl ?_
    refine xx_getR (q := 21) rfl rfl rfl xS_5 (Nat.le_of_ble_eq_true rfl) rfl (hR.1 5 4 rfl) ?_
    refine xx_iload_n (q := 22) rfl rfl rfl ?_
    refine xx_puz (q := 25) rfl rfl rfl xS_474 (Nat.le_of_ble_eq_true rfl) (Nat.le_of_ble_eq_true rfl) (fun h => by cases h) (Or.inl rfl) rfl ?_
    refine xx_iconst (q := 26) rfl rfl (by decide) ?_
    refine xx_iret rfl (Or.inr rfl) ⟨congrArg (fun z => some (Sum.inl z)) (by exact (bi_t h12).symm), _, rfl, ?_⟩
    unfold endN
    rw [if_pos h12]
    refine ⟨?_, fun x k q => if_neg (fun r => q r.1 r.2)⟩
    have h := hT.take (m := m.toNat) (by omega)
    rw [show ((m.toNat : Nat) : Int) = m by omega] at h
    exact h
  · refine xx_iconst (q := 16) rfl rfl (by decide) ?_
    refine xx_iret rfl (Or.inl rfl) ⟨congrArg (fun z => some (Sum.inl z)) (by exact (bi_f h12).symm), _, rfl, ?_⟩
    unfold endN
    rw [if_neg h12]
    exact ⟨hT, fun _ _ _ => rfl⟩
set_option maxHeartbeats 2000000 in
theorem r_end {n : Nat} {R : Nat → Nat → Option Nat} {D : KK} (hR : RF R) (bs : List Int) (hT : TpR bs D) (hl4 : bs.length ≤ 400) (m : Int) : ∃ D', XC 2 193 [.inr (some 479), .inl m] (xS n, R, D) (some (.inl (bi (0 ≤ m ∧ m ≤ (bs.length : Int))))) (xS n, R, D') ∧ TpR (endN bs m) D' ∧ ∀ x k, (x = 479 → k ≠ 0 ∧ k ≠ 24) → D' x k = D x k := by
  refine XE_of (Nat.le_of_ble_eq_true rfl) (Nat.le_of_ble_eq_true rfl) (loc := [_, _]) rfl ?_
  refine xx_aload_n (q := 1) rfl rfl rfl ?_
  refine xx_iconst (q := 2) rfl rfl (by decide) ?_
  refine xr_puz (fun d => ∀ x k, (x = 479 → k ≠ 0) → d x k = D x k) (q := 5) rfl rfl rfl xS_479 (Nat.le_of_ble_eq_true rfl) (Nat.le_of_ble_eq_true rfl) (fun h => by cases h) (Or.inl rfl) (fun x k q => if_neg (fun r => q r.1 r.2)) (fun D1 h1 => ?_)
  have hT1 : TpR bs D1 := hT.fr (fun x k q => h1 x k (by omega))
  refine xx_aload_n (q := 6) rfl rfl rfl ?_
  refine xx_iload_n (q := 7) rfl rfl rfl ?_
  refine xx_iconst (q := 8) rfl rfl (by decide) ?_
  refine xx_aload_n (q := 9) rfl rfl rfl ?_
  refine xx_gez (q := 12) rfl rfl rfl xS_479 (Nat.le_of_ble_eq_true rfl) rfl hT1.1 ?_
  refine xx_callV (q := 15) (As := [_, _, _]) (rest := []) rfl rfl rfl (Or.inl rfl) rfl rfl (Nat.le_of_ble_eq_true rfl) xS_479 (XCm (r_isIn m 0 (bs.length : Int)) rfl) rfl ?_
  refine xx_ifb_ne (q := 20) (q2 := 18) rfl rfl rfl (fun h15 => ?_) (fun h15 => ?_)
  · refine xx_aload_n (q := 21) rfl rfl rfl ?_
    refine xx_iload_n (q := 22) rfl rfl rfl ?_
    refine xx_puz (q := 25) rfl rfl rfl xS_479 (Nat.le_of_ble_eq_true rfl) (Nat.le_of_ble_eq_true rfl) (fun h => by cases h) (Or.inl rfl) rfl ?_
    refine xx_iconst (q := 26) rfl rfl (by decide) ?_
    refine xx_iret rfl (Or.inr rfl) ⟨congrArg (fun z => some (Sum.inl z)) (by exact (bi_t h15).symm), _, rfl, ?_⟩
    unfold endN
    rw [if_pos h15]
    refine ⟨?_, fun x k q => (if_neg (fun r => (q r.1).2 r.2)).trans (h1 x k (by omega))⟩
    have h := hT1.take (m := m.toNat) (by omega)
    rw [show ((m.toNat : Nat) : Int) = m by omega] at h
    exact h
  · refine xx_iconst (q := 19) rfl rfl (by decide) ?_
    refine xx_iret rfl (Or.inl rfl) ⟨congrArg (fun z => some (Sum.inl z)) (by exact (bi_f h15).symm), _, rfl, ?_⟩
    unfold endN
    rw [if_neg h15]
    exact ⟨hT1, fun x k q => h1 x k (by omega)⟩
def fltF (f p w : Int) : Int := if w = 0 then f else if w = 1 then p else -1
set_option maxHeartbeats 1000000 in
theorem c_fault {n : Nat} {R : Nat → Nat → Option Nat} {D : KK} (hR : RF R) {f p : Int} (hf : D 474 1 = f) (hp : D 474 2 = p) (w : Int) : XC 1 127 [.inr (some 5), .inl w] (xS n, R, D) (some (.inl (fltF f p w))) (xS n, R, D) := by
  refine XC_of (Nat.le_of_ble_eq_true rfl) (Nat.le_of_ble_eq_true rfl) (loc := [_, _]) rfl ?_
  refine xx_iload_n (q := 1) rfl rfl rfl ?_
  refine xx_if_ne (q := 12) (q2 := 4) rfl rfl rfl (fun h1 => ?_) (fun h1 => ?_)
  · refine xx_iload_n (q := 13) rfl rfl rfl ?_
    refine xx_iconst (q := 14) rfl rfl (by decide) ?_
    refine xx_icmp_ne (q := 27) (q2 := 17) rfl rfl rfl (fun h14 => ?_) (fun h14 => ?_)
    · refine xx_iconst (q := 28) rfl rfl (by decide) ?_
      exact xx_iret rfl trivial ⟨congrArg (fun z => some (Sum.inl z)) (by grind [fltF]), rfl⟩
    · refine xx_aload_n (q := 18) rfl rfl rfl ?_
      refine xx_getR (q := 21) rfl rfl rfl xS_5 (Nat.le_of_ble_eq_true rfl) rfl (hR.1 5 4 rfl) ?_
      refine xx_gez (q := 24) rfl rfl rfl xS_474 (Nat.le_of_ble_eq_true rfl) rfl hp ?_
      refine xx_goto (q := 28) rfl rfl ?_
      exact xx_iret rfl trivial ⟨congrArg (fun z => some (Sum.inl z)) (by grind [fltF]), rfl⟩
  · refine xx_aload_n (q := 5) rfl rfl rfl ?_
    refine xx_getR (q := 8) rfl rfl rfl xS_5 (Nat.le_of_ble_eq_true rfl) rfl (hR.1 5 4 rfl) ?_
    refine xx_gez (q := 11) rfl rfl rfl xS_474 (Nat.le_of_ble_eq_true rfl) rfl hf ?_
    exact xx_iret rfl trivial ⟨congrArg (fun z => some (Sum.inl z)) (by grind [fltF]), rfl⟩
set_option maxHeartbeats 2000000 in
theorem r_fault {n : Nat} {R : Nat → Nat → Option Nat} {D : KK} (hR : RF R) {f p : Int} (hf : D 479 44 = f) (hp : D 479 45 = p) (w : Int) : ∃ D', XC 1 224 [.inr (some 479), .inl w] (xS n, R, D) (some (.inl (fltF f p w))) (xS n, R, D') ∧ ∀ x k, (x = 479 → k ≠ 0) → D' x k = D x k := by
  refine XE_of (Nat.le_of_ble_eq_true rfl) (Nat.le_of_ble_eq_true rfl) (loc := [_, _]) rfl ?_
  refine xx_aload_n (q := 1) rfl rfl rfl ?_
  refine xx_iconst (q := 2) rfl rfl (by decide) ?_
  refine xr_puz (fun d => ∀ x k, (x = 479 → k ≠ 0) → d x k = D x k) (q := 5) rfl rfl rfl xS_479 (Nat.le_of_ble_eq_true rfl) (Nat.le_of_ble_eq_true rfl) (fun h => by cases h) (Or.inl rfl) (fun x k q => if_neg (fun r => q r.1 r.2)) (fun D1 h1 => ?_)
  refine xx_iload_n (q := 6) rfl rfl rfl ?_
  refine xx_if_ne (q := 16) (q2 := 9) rfl rfl rfl (fun h6 => ?_) (fun h6 => ?_)
  · refine xx_iload_n (q := 17) rfl rfl rfl ?_
    refine xx_iconst (q := 18) rfl rfl (by decide) ?_
    refine xx_icmp_ne (q := 28) (q2 := 21) rfl rfl rfl (fun h18 => ?_) (fun h18 => ?_)
    · refine xx_iconst (q := 29) rfl rfl (by decide) ?_
      refine xx_iret rfl trivial ⟨congrArg (fun z => some (Sum.inl z)) (by grind [fltF]), _, rfl, ?_⟩
      exact h1
    · refine xx_aload_n (q := 22) rfl rfl rfl ?_
      refine xx_gez (q := 25) rfl rfl rfl xS_479 (Nat.le_of_ble_eq_true rfl) rfl ((h1 479 45 (by omega)).trans hp) ?_
      refine xx_goto (q := 29) rfl rfl ?_
      refine xx_iret rfl trivial ⟨congrArg (fun z => some (Sum.inl z)) (by grind [fltF]), _, rfl, ?_⟩
      exact h1
  · refine xx_aload_n (q := 10) rfl rfl rfl ?_
    refine xx_gez (q := 13) rfl rfl rfl xS_479 (Nat.le_of_ble_eq_true rfl) rfl ((h1 479 44 (by omega)).trans hf) ?_
    refine xx_goto (q := 29) rfl rfl ?_
    refine xx_iret rfl trivial ⟨congrArg (fun z => some (Sum.inl z)) (by grind [fltF]), _, rfl, ?_⟩
    exact h1
