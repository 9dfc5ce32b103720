/-! The class in thought: how far, presents, orders, pulls. -/
def farL (G : LwF) (boat up : Int) : Nat → KK → Int → Int → Int × Int × KK
  | 0, K, w, g => (g, w, K)
  | k + 1, K, w, g => if w < 0 then (g, w, K) else farL G boat up k (pasT K G boat up (-1)) (pasR K G boat up (-1)) (g + 1)
def farF (K : KK) (G : LwF) (boat up : Int) : Int × Int × KK := farL G boat up 9 (pasT K G boat up (-1)) (pasR K G boat up (-1)) 0
theorem farL_I {G : LwF} {boat up : Int} : ∀ (k : Nat) (K : KK) (w g : Int), KI K → KI (farL G boat up k K w g).2.2
  | 0, _, _, _, h => h
  | k + 1, K, w, g, h => by
    unfold farL
    split
    · exact h
    · exact farL_I k _ _ _ (pasT_I h)
theorem farL_g {G : LwF} {boat up : Int} : ∀ (k : Nat) (K : KK) (w g : Int), g ≤ (farL G boat up k K w g).1 ∧ (farL G boat up k K w g).1 ≤ g + k
  | 0, _, _, g => ⟨Int.le_refl _, by show g ≤ g + 0; omega⟩
  | k + 1, K, w, g => by
    unfold farL
    split
    · exact ⟨Int.le_refl _, by show g ≤ _; omega⟩
    · have := farL_g (G := G) (boat := boat) (up := up) k (pasT K G boat up (-1)) (pasR K G boat up (-1)) (g + 1)
      omega
theorem farF_g {K : KK} {G : LwF} {boat up : Int} : 0 ≤ (farF K G boat up).1 ∧ (farF K G boat up).1 ≤ 9 := by
  have := farL_g 9 (pasT K G boat up (-1)) (pasR K G boat up (-1)) 0 (G := G) (boat := boat) (up := up)
  unfold farF
  omega
def FG (c : Nat) (D E : KK) : Prop := ∀ b k, (b < c ∨ c + 19 ≤ b) → b ≠ 10 → b ≠ 14 → (b = 279 → k ≠ 0) → E b k = D b k
theorem FG.trans {c : Nat} {D E F : KK} (h : FG c D E) (g : FG c E F) : FG c D F := fun b k h1 h2 h3 h4 => (g b k h1 h2 h3 h4).trans (h b k h1 h2 h3 h4)
theorem Fr.fg {c : Nat} {D E : KK} (h : Fr c D E) : FG c D E := fun b k h1 h2 h3 _ => h b k h1 h2 h3
theorem FG.up {c : Nat} {D E : KK} (h : FG c D E) {v : Int} : FG c D (xui E 279 0 v) := fun b k h1 h2 h3 h4 => (show xui E 279 0 v b k = E b k from if_neg (fun q => h4 q.1 q.2)).trans (h b k h1 h2 h3 h4)
theorem LwG.fg {G : LwF} {n c : Nat} {R : Nat → Nat → Option Nat} {D E : KK} (h : LwG G n R D) (g : FG c D E) (hc : isC c) : LwG G n R E := LawS.fr h (fun b k q1 q2 => g b k (by have := isC_gt hc; omega) (by omega) (by omega) (by omega))
set_option maxHeartbeats 1000000 in
theorem c_far_L {n c : Nat} {R : Nat → Nat → Option Nat} {D0 : KK} (hR : RF R) (ht : isT c) {G : LwF} (boat up : Int) : ∀ (k : Nat) (K D : KK) (wy g : Int), CK c K D → KI K → LwG G n R D → FG c D0 D → D 279 0 = wy → 0 ≤ g → g + k = 9 → XX (XC 5) 107 (XP (some (.inl (farL G boat up k K wy g).1)) (xS n) R (fun D' => CK c (farL G boat up k K wy g).2.2 D' ∧ FG c D0 D' ∧ D' 279 0 = (farL G boat up k K wy g).2.1)) 14 [some (.inr (some 279)), some (.inr (some c)), some (.inl boat), some (.inl up), some (.inl g)] [] (xS n, R, D) := by
  intro k
  induction k using Nat.strongRecOn with
  | ind k ih =>
  intro K D wy g hK hI hG hF hwy h1 hk
  have hc := isT_C ht
  have hn := isT_N ht
  have hcg := isT_ge ht
  refine xx_aload_n (q := 15) rfl rfl rfl ?_
  refine xx_gez (q := 18) rfl rfl rfl xS_279 (Nat.le_of_ble_eq_true rfl) rfl hwy ?_
  refine xx_if_lt (q := 45) (q2 := 21) rfl rfl rfl (fun h18 => ?_) (fun h18 => ?_)
  · refine xx_iload (q := 47) rfl rfl rfl ?_
    have e : farL G boat up k K wy g = (g, wy, K) := by cases k with | zero => rfl | succ k => exact if_pos h18
    rw [e]
    exact xx_iret rfl trivial ⟨rfl, _, rfl, hK, hF, hwy⟩
  · refine xx_iload (q := 23) rfl rfl rfl ?_
    refine xx_bipush (q := 25) rfl rfl (by decide) ?_
    refine xx_icmp_ge (q := 45) (q2 := 28) rfl rfl rfl (fun h25 => ?_) (fun h25 => ?_)
    · refine xx_iload (q := 47) rfl rfl rfl ?_
      obtain rfl : k = 0 := by omega
      exact xx_iret rfl trivial ⟨rfl, _, rfl, hK, hF, hwy⟩
    · obtain ⟨k, rfl⟩ : ∃ k2, k = k2 + 1 := ⟨k - 1, by omega⟩
      refine xx_incz (q := 31) (loc2 := [_, _, _, _, _]) rfl rfl rfl (by omega) (by omega) rfl rfl ?_
      refine xx_aload_n (q := 32) rfl rfl rfl ?_
      refine xx_aload_n (q := 33) rfl rfl rfl ?_
      refine xx_iload_n (q := 34) rfl rfl rfl ?_
      refine xx_iload_n (q := 35) rfl rfl rfl ?_
      refine xx_iconst (q := 36) rfl rfl (by decide) ?_
      obtain ⟨D1, hx1, hK1, hG1⟩ := c_passT (n := n) hR ht hK hI (LwG.fr hG Fr.rf hc) boat up (-1)
      have hF1 := Fr.rf.trans hG1
      have hI1 : KI (pasT K G boat up (-1)) := pasT_I hI
      refine xx_callV (q := 39) (As := [_, _, _]) (rest := [_]) rfl rfl rfl (Or.inl rfl) rfl rfl (Nat.le_of_ble_eq_true rfl) (xSc_0 hc) (XCm hx1 rfl) rfl ?_
      refine xx_puz (q := 42) rfl rfl rfl xS_279 (Nat.le_of_ble_eq_true rfl) (Nat.le_of_ble_eq_true rfl) (fun h => by cases h) (Or.inl rfl) rfl ?_
      refine xx_goto (q := 14) rfl rfl ?_
      have e : farL G boat up (k + 1) K wy g = farL G boat up k (pasT K G boat up (-1)) (pasR K G boat up (-1)) (g + 1) := if_neg h18
      rw [e]
      exact ih k (by omega) _ _ _ _ (CK_fr hK1 (fun o k ho => xui_a (by omega))) hI1 (LwG.fg hG (hF1.fg.up) hc) (hF.trans hF1.fg.up) xui_s (by omega) (by omega)
set_option maxHeartbeats 1000000 in
theorem c_goFar {n c : Nat} {R : Nat → Nat → Option Nat} {D K : KK} (hR : RF R) (ht : isT c) (hK : CK c K D) (hI : KI K) {G : LwF} (hG : LwG G n R D) (boat up : Int) : ∃ D', XC 6 107 [.inr (some 279), .inr (some c), .inl boat, .inl up] (xS n, R, D) (some (.inl ((farF K G boat up).1))) (xS n, R, D') ∧ CK c (farF K G boat up).2.2 D' ∧ FG c D D' ∧ D' 279 0 = (farF K G boat up).2.1 := by
  have hc := isT_C ht
  have hn := isT_N ht
  have hcg := isT_ge ht
  refine XE_of (Nat.le_of_ble_eq_true rfl) (Nat.le_of_ble_eq_true rfl) (loc := [_, _, _, _, _]) rfl ?_
  refine xx_iconst (q := 1) rfl rfl (by decide) ?_
  refine xx_istore (q := 3) (loc2 := [_, _, _, _, _]) rfl rfl (Nat.le_of_ble_eq_true rfl) rfl ?_
  refine xx_aload_n (q := 4) rfl rfl rfl ?_
  refine xx_aload_n (q := 5) rfl rfl rfl ?_
  refine xx_iload_n (q := 6) rfl rfl rfl ?_
  refine xx_iload_n (q := 7) rfl rfl rfl ?_
  refine xx_iconst (q := 8) rfl rfl (by decide) ?_
  obtain ⟨D1, hx1, hK1, hG1⟩ := c_passT (n := n) hR ht hK hI (LwG.fr hG Fr.rf hc) boat up (-1)
  have hF1 := Fr.rf.trans hG1
  have hI1 : KI (pasT K G boat up (-1)) := pasT_I hI
  refine xx_callV (q := 11) (As := [_, _, _]) (rest := [_]) rfl rfl rfl (Or.inl rfl) rfl rfl (Nat.le_of_ble_eq_true rfl) (xSc_0 hc) (XCm hx1 rfl) rfl ?_
  refine xx_puz (q := 14) rfl rfl rfl xS_279 (Nat.le_of_ble_eq_true rfl) (Nat.le_of_ble_eq_true rfl) (fun h => by cases h) (Or.inl rfl) rfl ?_
  exact c_far_L hR ht boat up 9 _ _ _ 0 (CK_fr hK1 (fun o k ho => xui_a (by omega))) hI1 (LwG.fg hG (hF1.fg.up) hc) hF1.fg.up xui_s (by omega) (by omega)
def FS (D E : KK) : Prop := ∀ b k, (b < 284 ∨ 303 ≤ b) → b ≠ 10 → b ≠ 14 → E b k = D b k
set_option maxHeartbeats 1000000 in
theorem c_start {n c : Nat} {R : Nat → Nat → Option Nat} {D K : KK} (hR : RF R) (hc : isC c) (hne : c ≠ 284) (hK : CK c K D) (hI : KI K) : ∃ D', XC 3 106 [.inr (some 279), .inr (some c)] (xS n, R, D) (some (.inr (some 284))) (xS n, R, D') ∧ CK 284 K D' ∧ Fr 284 D D' := by
  have hc4 : isC 284 := isT_C (isT_k (s := 0) (by omega))
  have e283 : R 283 ((0 : Int)).toNat = some 284 := rk_283 hR (s := 0) (by omega)
  refine XE_of (Nat.le_of_ble_eq_true rfl) (Nat.le_of_ble_eq_true rfl) (loc := [_, _]) rfl ?_
  refine xx_aload_n (q := 1) rfl rfl rfl ?_
  refine xx_getR (q := 4) rfl rfl rfl xS_279 (Nat.le_of_ble_eq_true rfl) rfl (hR.1 279 7 rfl) ?_
  refine xx_iconst (q := 5) rfl rfl (by decide) ?_
  refine xx_aaz (q := 6) rfl rfl xS_283 (by omega) (by omega) e283 ?_
  refine xx_aload_n (q := 7) rfl rfl rfl ?_
  obtain ⟨D1, hx1, hK1, hG1⟩ := c_copy (n := n) hR hc4 hc (fun q => hne q.symm) hK hI
  refine xx_callV (q := 10) (As := [_]) (rest := []) rfl rfl rfl (Or.inl rfl) rfl rfl (Nat.le_of_ble_eq_true rfl) (xSc_0 hc4) (XCm hx1 rfl) rfl ?_
  refine xx_aload_n (q := 11) rfl rfl rfl ?_
  refine xx_getR (q := 14) rfl rfl rfl xS_279 (Nat.le_of_ble_eq_true rfl) rfl (hR.1 279 7 rfl) ?_
  refine xx_iconst (q := 15) rfl rfl (by decide) ?_
  refine xx_aaz (q := 16) rfl rfl xS_283 (by omega) (by omega) e283 ?_
  exact xx_aret rfl rfl ⟨rfl, _, rfl, hK1, hG1⟩
