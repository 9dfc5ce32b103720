/-! Orders of boats: the class. -/
abbrev OS : Type := Int × (Nat → Int) × (Nat → Int)
def ordU (s gone : Int) (a : OS) : OS := if s = 0 ∧ a.1 < gone then (gone, a.2.2, a.2.2) else a
def ordM (rec : KK → Int → Int → OS → OS) (G : LwF) (up : Int) (lv : Nat) (K : KK) (s gone : Int) : Nat → Int → OS → OS
  | 0, _, a => a
  | k + 1, b, a => ordM rec G up lv K s gone k (b + 1) (if inS s b then rec (farF K G b up).2.2 (rmS s b) (gone + (farF K G b up).1) (a.1, a.2.1, fset a.2.2 lv b) else a)
def ordF (G : LwF) (up : Int) : Nat → Nat → KK → Int → Int → OS → OS
  | 0, _, _, s, gone, a => ordU s gone a
  | d + 1, lv, K, s, gone, a => ordM (ordF G up d (lv + 1)) G up lv K s gone 6 0 (ordU s gone a)
def OSr (a : OS) (D : KK) : Prop := D 279 1 = a.1 ∧ ∀ k, k < 6 → D 281 k = a.2.1 k ∧ D 282 k = a.2.2 k
def FO (top : Nat) (D E : KK) : Prop := ∀ b k, (b < 279 ∨ b = 280 ∨ (283 ≤ b ∧ b < 284 + 19 * top) ∨ 474 ≤ b) → b ≠ 10 → b ≠ 14 → E b k = D b k
theorem FO.rf {a : Nat} {D : KK} : FO a D D := fun _ _ _ _ _ => rfl
theorem FO.trans {a : Nat} {D E F : KK} (h : FO a D E) (g : FO a E F) : FO a D F := fun b k h1 h2 h3 => (g b k h1 h2 h3).trans (h b k h1 h2 h3)
theorem FO.le {a c : Nat} {D E : KK} (h : FO a D E) (hac : c ≤ a) : FO c D E := fun b k h1 h2 h3 => h b k (by omega) h2 h3
theorem ordU_t {s gone : Int} {a : OS} : (ordU s gone a).2.2 = a.2.2 := by
  unfold ordU
  split <;> rfl
theorem tr_eq {D : KK} {f : Nat → Int} {lv : Nat} {b : Int} (h : ∀ k, k < 6 → D 282 k = f k) (k : Nat) (hk : k < 6) : xui D 282 ((lv : Int)).toNat b 282 k = fset f lv b k := by
  rw [xui_f]
  unfold fset
  rw [h k hk]
  rfl
set_option maxHeartbeats 1000000 in
theorem c_ord_M {n L lv c0 c1 : Nat} {R : Nat → Nat → Option Nat} {D0 : KK} (hR : RF R) (hL : 6 ≤ L) (hlv : lv < 6) (ec0 : c0 = 284 + 19 * lv) (ec1 : c1 = 284 + 19 * (lv + 1)) {G : LwF} (s up gone : Int) (hg0 : 0 ≤ gone) (hg1 : gone ≤ 9 * (lv : Int)) (K : KK) (hI : KI K) (rec : KK → Int → Int → OS → OS) (hrec : ∀ (K2 : KK) (s2 g2 : Int) (a2 : OS) (D2 : KK), CK c1 K2 D2 → KI K2 → LwG G n R D2 → OSr a2 D2 → 0 ≤ g2 → g2 ≤ 9 * ((lv : Int) + 1) → ∃ D', XC L 110 [.inr (some 279), .inl ((lv : Int) + 1), .inl s2, .inl up, .inl g2] (xS n, R, D2) none (xS n, R, D') ∧ FO (lv + 2) D2 D' ∧ OSr (rec K2 s2 g2 a2) D') : ∀ (k : Nat) (D : KK) (b : Int) (a : OS) (x : Option XV), CK c0 K D → LwG G n R D → OSr a D → FO (lv + 1) D0 D → 0 ≤ b → b + k = 6 → XX (XC L) 110 (XP none (xS n) R (fun D' => FO (lv + 1) D0 D' ∧ OSr (ordM rec G up lv K s gone k b a) D')) 58 [some (.inr (some 279)), some (.inl (lv : Int)), some (.inl s), some (.inl up), some (.inl gone), some (.inl b), x] [] (xS n, R, D) := by
  intro k
  induction k using Nat.strongRecOn with
  | ind k ih =>
  intro D b a x hK hG hO hF h1 hk
  have ht1 : isT c1 := ec1 ▸ isT_k (by omega)
  have hc1 := isT_C ht1
  have hn1 := isT_N ht1
  have hc0 : isC c0 := isT_C (ec0 ▸ isT_k (by omega))
  have e0 : R 283 ((lv : Int)).toNat = some c0 := ec0 ▸ rk_283 hR (by omega)
  have e1 : R 283 ((lv : Int) + 1).toNat = some c1 := by rw [show ((lv : Int) + 1).toNat = lv + 1 by omega]; exact ec1 ▸ rk_283 hR (by omega)
  refine xx_iload (q := 60) rfl rfl rfl ?_
  refine xx_bipush (q := 62) rfl rfl (by decide) ?_
  refine xx_icmp_ge (q := 140) (q2 := 65) rfl rfl rfl (fun h62 => ?_) (fun h62 => ?_)
  · obtain rfl : k = 0 := by omega
    exact xx_vret rfl rfl ⟨rfl, _, rfl, hF, hO⟩
  · obtain ⟨k, rfl⟩ : ∃ k2, k = k2 + 1 := ⟨k - 1, by omega⟩
    refine xx_iload_n (q := 66) rfl rfl rfl ?_
    refine xx_iload (q := 68) rfl rfl rfl ?_
    refine xx_callS (q := 71) (As := [_, _]) (rest := []) rfl rfl rfl (Or.inl rfl) rfl rfl (Nat.le_of_ble_eq_true rfl) (XC_le (by omega) (c_isIn s b)) rfl ?_
    refine xx_ifb_ne (q := 77) (q2 := 74) rfl rfl rfl (fun h71 => ?_) (fun h71 => ?_)
    · refine xx_aload_n (q := 78) rfl rfl rfl ?_
      refine xx_getR (q := 81) rfl rfl rfl xS_279 (Nat.le_of_ble_eq_true rfl) rfl (hR.1 279 7 rfl) ?_
      refine xx_iload_n (q := 82) rfl rfl rfl ?_
      refine xx_iconst (q := 83) rfl rfl (by decide) ?_
      refine xx_iaddR (q := 84) rfl rfl (by omega) (by omega) ?_
      refine xx_aaz (q := 85) rfl rfl xS_283 (by omega) (by omega) e1 ?_
      refine xx_astore (q := 87) (loc2 := [_, _, _, _, _, _, _]) rfl rfl (Nat.le_of_ble_eq_true rfl) rfl ?_
      refine xx_aload (q := 89) rfl rfl rfl ?_
      refine xx_aload_n (q := 90) rfl rfl rfl ?_
      refine xx_getR (q := 93) rfl rfl rfl xS_279 (Nat.le_of_ble_eq_true rfl) rfl (hR.1 279 7 rfl) ?_
      refine xx_iload_n (q := 94) rfl rfl rfl ?_
      refine xx_aaz (q := 95) rfl rfl xS_283 (by omega) (by omega) e0 ?_
      obtain ⟨D1, hx1, hK1, hG1⟩ := c_copy (n := n) hR hc1 hc0 (by omega) hK hI
      refine xx_callV (q := 98) (As := [_]) (rest := []) rfl rfl rfl (Or.inl rfl) rfl rfl (Nat.le_of_ble_eq_true rfl) (xSc_0 hc1) (XC_le (by omega) hx1) rfl ?_
      refine xx_aload_n (q := 99) rfl rfl rfl ?_
      refine xx_getR (q := 102) rfl rfl rfl xS_279 (Nat.le_of_ble_eq_true rfl) rfl (hR.1 279 6 rfl) ?_
      refine xx_iload_n (q := 103) rfl rfl rfl ?_
      refine xx_iload (q := 105) rfl rfl rfl ?_
      refine xx_isz (q := 106) rfl rfl xS_282 (by omega) (by omega) rfl ?_
      refine xx_aload_n (q := 107) rfl rfl rfl ?_
      refine xx_iload_n (q := 108) rfl rfl rfl ?_
      refine xx_iconst (q := 109) rfl rfl (by decide) ?_
      refine xx_iaddR (q := 110) rfl rfl (by omega) (by omega) ?_
      refine xx_iload_n (q := 111) rfl rfl rfl ?_
      refine xx_iconst (q := 112) rfl rfl (by decide) ?_
      refine xx_iload (q := 114) rfl rfl rfl ?_
      refine xx_ishl (q := 115) rfl rfl ?_
      refine xx_iconst (q := 116) rfl rfl (by decide) ?_
      refine xx_ixor (q := 117) rfl rfl ?_
      refine xx_iand (q := 118) rfl rfl ?_
      refine xx_iload_n (q := 119) rfl rfl rfl ?_
      refine xx_iload (q := 121) rfl rfl rfl ?_
      refine xx_aload_n (q := 122) rfl rfl rfl ?_
      refine xx_aload (q := 124) rfl rfl rfl ?_
      refine xx_iload (q := 126) rfl rfl rfl ?_
      refine xx_iload_n (q := 127) rfl rfl rfl ?_
      have hfy3 : ∀ x k, x ≠ 282 → (xui D1 282 ((lv : Int)).toNat b) x k = D1 x k := fun x k h => xui_a h
      obtain ⟨D3, hx3, hK3, hF3, hw3⟩ := c_goFar (n := n) hR ht1 (CK_fr hK1 (fun o k ho => hfy3 _ _ (by omega))) hI (LawS.fr hG (fun x k q1 q2 => (hfy3 x k (by omega)).trans (hG1 x k (by omega) (by omega) (by omega)))) b up
      refine xx_callV (q := 130) (As := [_, _, _]) (rest := [_, _, _, _, _]) rfl rfl rfl (Or.inl rfl) rfl rfl (Nat.le_of_ble_eq_true rfl) xS_279 (XC_le (by omega) hx3) rfl ?_
      have hb4 := farF_g (K := K) (G := G) (boat := b) (up := up)
      refine xx_iaddR (q := 131) rfl rfl (by omega) (by omega) ?_
      have hpre5 : FO (lv + 1) D D3 := fun x k h1 h2 h3 => (hF3 x k (by omega) h2 h3 (by omega)).trans ((hfy3 x k (by omega)).trans (hG1 x k (by omega) h2 h3))
      have hos5 : OSr (a.1, a.2.1, fset a.2.2 lv b) D3 := ⟨(hF3 279 1 (by omega) (by omega) (by omega) (by omega)).trans ((hfy3 279 1 (by omega)).trans ((hG1 279 1 (by omega) (by omega) (by omega)).trans hO.1)), fun k hk => ⟨(hF3 281 k (by omega) (by omega) (by omega) (by omega)).trans ((hfy3 281 k (by omega)).trans ((hG1 281 k (by omega) (by omega) (by omega)).trans (hO.2 k hk).1)), (hF3 282 k (by omega) (by omega) (by omega) (by omega)).trans (tr_eq (fun k hk => (hG1 282 k (by omega) (by omega) (by omega)).trans (hO.2 k hk).2) k hk)⟩⟩
      obtain ⟨D5, hx5, hF5, hO5⟩ := hrec (farF K G b up).2.2 (xand s (xxor (xshl 1 b) (-1))) (gone + ((farF K G b up).1)) (a.1, a.2.1, fset a.2.2 lv b) D3 hK3 (farL_I _ _ _ _ (pasT_I hI)) (LawS.fr hG (fun x k q1 q2 => hpre5 x k (by omega) (by omega) (by omega))) hos5 (by omega) (by omega)
      refine xx_callV (q := 134) (As := [_, _, _, _]) (rest := []) rfl rfl rfl (Or.inl rfl) rfl rfl (Nat.le_of_ble_eq_true rfl) xS_279 (XC_le (by omega) hx5) rfl ?_
      refine xx_incz (q := 137) (loc2 := [_, _, _, _, _, _, _]) rfl rfl rfl (by omega) (by omega) rfl rfl ?_
      refine xx_goto (q := 58) rfl rfl ?_
      rw [show ordM rec G up lv K s gone (k + 1) b a = ordM rec G up lv K s gone k (b + 1) (rec (farF K G b up).2.2 (rmS s b) (gone + (farF K G b up).1) (a.1, a.2.1, fset a.2.2 lv b)) from congrArg (ordM rec G up lv K s gone k (b + 1)) (if_pos h71)]
      have hfz : FO (lv + 1) D D5 := hpre5.trans (hF5.le (by omega))
      exact ih k (by omega) _ _ _ _ (CK_fr hK (fun o k ho => hfz _ _ (by omega) (by omega) (by omega))) (LawS.fr hG (fun x k q1 q2 => hfz x k (by omega) (by omega) (by omega))) hO5 (hF.trans hfz) (by omega) (by omega)
    · refine xx_goto (q := 134) rfl rfl ?_
      refine xx_incz (q := 137) (loc2 := [_, _, _, _, _, _, _]) rfl rfl rfl (by omega) (by omega) rfl rfl ?_
      refine xx_goto (q := 58) rfl rfl ?_
      rw [show ordM rec G up lv K s gone (k + 1) b a = ordM rec G up lv K s gone k (b + 1) a from congrArg (ordM rec G up lv K s gone k (b + 1)) (if_neg h71)]
      exact ih k (by omega) _ _ _ _ hK hG hO hF (by omega) (by omega)
set_option maxHeartbeats 1000000 in
theorem c_ord_W {n L lv c0 c1 : Nat} {R : Nat → Nat → Option Nat} (hR : RF R) (hL : 6 ≤ L) (hlv : lv < 6) (ec0 : c0 = 284 + 19 * lv) (ec1 : c1 = 284 + 19 * (lv + 1)) {G : LwF} (s up gone : Int) (hg0 : 0 ≤ gone) (hg1 : gone ≤ 9 * (lv : Int)) (K D : KK) (hI : KI K) (a : OS) (hK : CK c0 K D) (hG : LwG G n R D) (hO : OSr a D) (rec : KK → Int → Int → OS → OS) (hrec : ∀ (K2 : KK) (s2 g2 : Int) (a2 : OS) (D2 : KK), CK c1 K2 D2 → KI K2 → LwG G n R D2 → OSr a2 D2 → 0 ≤ g2 → g2 ≤ 9 * ((lv : Int) + 1) → ∃ D', XC L 110 [.inr (some 279), .inl ((lv : Int) + 1), .inl s2, .inl up, .inl g2] (xS n, R, D2) none (xS n, R, D') ∧ FO (lv + 2) D2 D' ∧ OSr (rec K2 s2 g2 a2) D') : ∃ D', XC (L + 1) 110 [.inr (some 279), .inl (lv : Int), .inl s, .inl up, .inl gone] (xS n, R, D) none (xS n, R, D') ∧ FO (lv + 1) D D' ∧ OSr (ordM rec G up lv K s gone 6 0 (ordU s gone a)) D' := by
  refine XE_of (Nat.le_of_ble_eq_true rfl) (Nat.le_of_ble_eq_true rfl) (loc := [_, _, _, _, _, _, _]) rfl ?_
  refine xx_iload_n (q := 1) rfl rfl rfl ?_
  refine xx_if_ne (q := 37) (q2 := 4) rfl rfl rfl (fun h1 => ?_) (fun h1 => ?_)
  · refine xx_iload_n (q := 38) rfl rfl rfl ?_
    refine xx_bipush (q := 40) rfl rfl (by decide) ?_
    refine xx_icmp_ge (q := 54) (q2 := 43) rfl rfl rfl (fun h40 => (by exfalso; omega)) (fun _ => ?_)
    refine xx_iload_n (q := 44) rfl rfl rfl ?_
    refine xx_iconst (q := 45) rfl rfl (by decide) ?_
    refine xx_iaddR (q := 46) rfl rfl (by omega) (by omega) ?_
    refine xx_aload_n (q := 47) rfl rfl rfl ?_
    refine xx_getR (q := 50) rfl rfl rfl xS_279 (Nat.le_of_ble_eq_true rfl) rfl (hR.1 279 7 rfl) ?_
    refine xx_alen (q := 51) rfl rfl xS_283 (by decide) (Nat.le_of_ble_eq_true rfl) ?_
    refine xx_icmp_lt (q := 55) (q2 := 54) rfl rfl rfl (fun _ => ?_) (fun h51 => (by exfalso; omega))
    refine xx_iconst (q := 56) rfl rfl (by decide) ?_
    refine xx_istore (q := 58) (loc2 := [_, _, _, _, _, _, _]) rfl rfl (Nat.le_of_ble_eq_true rfl) rfl ?_
    have eU : ordU s gone a = a := if_neg (fun q => h1 q.1)
    have hfa : FO (lv + 1) D D := FO.rf
    have hoa : OSr (ordU s gone a) D := by rw [eU]; exact hO
    exact c_ord_M hR hL hlv ec0 ec1 s up gone hg0 hg1 K hI rec hrec 6 _ 0 _ _ (CK_fr hK (fun o k ho => hfa _ _ (by omega) (by omega) (by omega))) (LawS.fr hG (fun x k q1 q2 => hfa x k (by omega) (by omega) (by omega))) hoa hfa (by omega) (by omega)
  · refine xx_iload (q := 6) rfl rfl rfl ?_
    refine xx_aload_n (q := 7) rfl rfl rfl ?_
    refine xx_gez (q := 10) rfl rfl rfl xS_279 (Nat.le_of_ble_eq_true rfl) rfl hO.1 ?_
    refine xx_icmp_le (q := 37) (q2 := 13) rfl rfl rfl (fun h10 => ?_) (fun h10 => ?_)
    · refine xx_iload_n (q := 38) rfl rfl rfl ?_
      refine xx_bipush (q := 40) rfl rfl (by decide) ?_
      refine xx_icmp_ge (q := 54) (q2 := 43) rfl rfl rfl (fun h40 => (by exfalso; omega)) (fun _ => ?_)
      refine xx_iload_n (q := 44) rfl rfl rfl ?_
      refine xx_iconst (q := 45) rfl rfl (by decide) ?_
      refine xx_iaddR (q := 46) rfl rfl (by omega) (by omega) ?_
      refine xx_aload_n (q := 47) rfl rfl rfl ?_
      refine xx_getR (q := 50) rfl rfl rfl xS_279 (Nat.le_of_ble_eq_true rfl) rfl (hR.1 279 7 rfl) ?_
      refine xx_alen (q := 51) rfl rfl xS_283 (by decide) (Nat.le_of_ble_eq_true rfl) ?_
      refine xx_icmp_lt (q := 55) (q2 := 54) rfl rfl rfl (fun _ => ?_) (fun h51 => (by exfalso; omega))
      refine xx_iconst (q := 56) rfl rfl (by decide) ?_
      refine xx_istore (q := 58) (loc2 := [_, _, _, _, _, _, _]) rfl rfl (Nat.le_of_ble_eq_true rfl) rfl ?_
      have eU : ordU s gone a = a := if_neg (fun q => by omega)
      have hfa : FO (lv + 1) D D := FO.rf
      have hoa : OSr (ordU s gone a) D := by rw [eU]; exact hO
      exact c_ord_M hR hL hlv ec0 ec1 s up gone hg0 hg1 K hI rec hrec 6 _ 0 _ _ (CK_fr hK (fun o k ho => hfa _ _ (by omega) (by omega) (by omega))) (LawS.fr hG (fun x k q1 q2 => hfa x k (by omega) (by omega) (by omega))) hoa hfa (by omega) (by omega)
    · refine xx_aload_n (q := 14) rfl rfl rfl ?_
      refine xx_iload (q := 16) rfl rfl rfl ?_
      refine xx_puz (q := 19) rfl rfl rfl xS_279 (Nat.le_of_ble_eq_true rfl) (Nat.le_of_ble_eq_true rfl) (fun h => by cases h) (Or.inl rfl) rfl ?_
      refine xx_aload_n (q := 20) rfl rfl rfl ?_
      refine xx_getR (q := 23) rfl rfl rfl xS_279 (Nat.le_of_ble_eq_true rfl) rfl (hR.1 279 6 rfl) ?_
      refine xx_iconst (q := 24) rfl rfl (by decide) ?_
      refine xx_aload_n (q := 25) rfl rfl rfl ?_
      refine xx_getR (q := 28) rfl rfl rfl xS_279 (Nat.le_of_ble_eq_true rfl) rfl (hR.1 279 5 rfl) ?_
      refine xx_iconst (q := 29) rfl rfl (by decide) ?_
      refine xx_aload_n (q := 30) rfl rfl rfl ?_
      refine xx_getR (q := 33) rfl rfl rfl xS_279 (Nat.le_of_ble_eq_true rfl) rfl (hR.1 279 5 rfl) ?_
      refine xx_alen (q := 34) rfl rfl xS_281 (by decide) (Nat.le_of_ble_eq_true rfl) ?_
      refine xx_copy (q := 37) (zn := 6) (dn := 0) (sn := 0) rfl rfl rfl xS_282 xS_281 rfl rfl rfl (by decide) (by decide) (Nat.le_of_ble_eq_true rfl) ?_
      refine xx_iload_n (q := 38) rfl rfl rfl ?_
      refine xx_bipush (q := 40) rfl rfl (by decide) ?_
      refine xx_icmp_ge (q := 54) (q2 := 43) rfl rfl rfl (fun h40 => (by exfalso; omega)) (fun _ => ?_)
      refine xx_iload_n (q := 44) rfl rfl rfl ?_
      refine xx_iconst (q := 45) rfl rfl (by decide) ?_
      refine xx_iaddR (q := 46) rfl rfl (by omega) (by omega) ?_
      refine xx_aload_n (q := 47) rfl rfl rfl ?_
      refine xx_getR (q := 50) rfl rfl rfl xS_279 (Nat.le_of_ble_eq_true rfl) rfl (hR.1 279 7 rfl) ?_
      refine xx_alen (q := 51) rfl rfl xS_283 (by decide) (Nat.le_of_ble_eq_true rfl) ?_
      refine xx_icmp_lt (q := 55) (q2 := 54) rfl rfl rfl (fun _ => ?_) (fun h51 => (by exfalso; omega))
      refine xx_iconst (q := 56) rfl rfl (by decide) ?_
      refine xx_istore (q := 58) (loc2 := [_, _, _, _, _, _, _]) rfl rfl (Nat.le_of_ble_eq_true rfl) rfl ?_
      have eU : ordU s gone a = (gone, a.2.2, a.2.2) := if_pos ⟨h1, by omega⟩
      have hfa : FO (lv + 1) D (xcp (xui D 279 1 gone) 282 0 281 0 6) := fun x k h1 h2 h3 => (show xcp _ 282 0 281 0 6 x k = _ from if_neg (fun r => by omega)).trans (xui_a (by omega))
      have hoa : OSr (ordU s gone a) (xcp (xui D 279 1 gone) 282 0 281 0 6) := by
        rw [eU]
        refine ⟨rfl, fun k hk => ⟨?_, ?_⟩⟩
        · show (if 281 = 281 ∧ 0 ≤ k ∧ k < 0 + 6 then xui D 279 1 gone 282 (0 + (k - 0)) else _) = a.2.2 k
          rw [if_pos ⟨rfl, by omega, by omega⟩, show 0 + (k - 0) = k by omega]
          exact (hO.2 k hk).2
        · exact (hO.2 k hk).2
      exact c_ord_M hR hL hlv ec0 ec1 s up gone hg0 hg1 K hI rec hrec 6 _ 0 _ _ (CK_fr hK (fun o k ho => hfa _ _ (by omega) (by omega) (by omega))) (LawS.fr hG (fun x k q1 q2 => hfa x k (by omega) (by omega) (by omega))) hoa hfa (by omega) (by omega)
set_option maxHeartbeats 1000000 in
theorem c_ord_0 {n L lv : Nat} {R : Nat → Nat → Option Nat} (hR : RF R) (hlv : lv = 6) (s up gone : Int) (D : KK) (a : OS) (hO : OSr a D) : ∃ D', XC (L + 1) 110 [.inr (some 279), .inl (lv : Int), .inl s, .inl up, .inl gone] (xS n, R, D) none (xS n, R, D') ∧ FO (lv + 1) D D' ∧ OSr (ordU s gone a) D' := by
  refine XE_of (Nat.le_of_ble_eq_true rfl) (Nat.le_of_ble_eq_true rfl) (loc := [_, _, _, _, _, _, _]) rfl ?_
  refine xx_iload_n (q := 1) rfl rfl rfl ?_
  refine xx_if_ne (q := 37) (q2 := 4) rfl rfl rfl (fun h1 => ?_) (fun h1 => ?_)
  · refine xx_iload_n (q := 38) rfl rfl rfl ?_
    refine xx_bipush (q := 40) rfl rfl (by decide) ?_
    refine xx_icmp_ge (q := 54) (q2 := 43) rfl rfl rfl (fun _ => ?_) (fun h40 => (by exfalso; omega))
    have eU : ordU s gone a = a := if_neg (fun q => h1 q.1)
    have hfa : FO (lv + 1) D D := FO.rf
    have hoa : OSr (ordU s gone a) D := by rw [eU]; exact hO
    exact xx_vret rfl rfl ⟨rfl, _, rfl, hfa, hoa⟩
  · refine xx_iload (q := 6) rfl rfl rfl ?_
    refine xx_aload_n (q := 7) rfl rfl rfl ?_
    refine xx_gez (q := 10) rfl rfl rfl xS_279 (Nat.le_of_ble_eq_true rfl) rfl hO.1 ?_
    refine xx_icmp_le (q := 37) (q2 := 13) rfl rfl rfl (fun h10 => ?_) (fun h10 => ?_)
    · refine xx_iload_n (q := 38) rfl rfl rfl ?_
      refine xx_bipush (q := 40) rfl rfl (by decide) ?_
      refine xx_icmp_ge (q := 54) (q2 := 43) rfl rfl rfl (fun _ => ?_) (fun h40 => (by exfalso; omega))
      have eU : ordU s gone a = a := if_neg (fun q => by omega)
      have hfa : FO (lv + 1) D D := FO.rf
      have hoa : OSr (ordU s gone a) D := by rw [eU]; exact hO
      exact xx_vret rfl rfl ⟨rfl, _, rfl, hfa, hoa⟩
    · refine xx_aload_n (q := 14) rfl rfl rfl ?_
      refine xx_iload (q := 16) rfl rfl rfl ?_
      refine xx_puz (q := 19) rfl rfl rfl xS_279 (Nat.le_of_ble_eq_true rfl) (Nat.le_of_ble_eq_true rfl) (fun h => by cases h) (Or.inl rfl) rfl ?_
      refine xx_aload_n (q := 20) rfl rfl rfl ?_
      refine xx_getR (q := 23) rfl rfl rfl xS_279 (Nat.le_of_ble_eq_true rfl) rfl (hR.1 279 6 rfl) ?_
      refine xx_iconst (q := 24) rfl rfl (by decide) ?_
      refine xx_aload_n (q := 25) rfl rfl rfl ?_
      refine xx_getR (q := 28) rfl rfl rfl xS_279 (Nat.le_of_ble_eq_true rfl) rfl (hR.1 279 5 rfl) ?_
      refine xx_iconst (q := 29) rfl rfl (by decide) ?_
      refine xx_aload_n (q := 30) rfl rfl rfl ?_
      refine xx_getR (q := 33) rfl rfl rfl xS_279 (Nat.le_of_ble_eq_true rfl) rfl (hR.1 279 5 rfl) ?_
      refine xx_alen (q := 34) rfl rfl xS_281 (by decide) (Nat.le_of_ble_eq_true rfl) ?_
      refine xx_copy (q := 37) (zn := 6) (dn := 0) (sn := 0) rfl rfl rfl xS_282 xS_281 rfl rfl rfl (by decide) (by decide) (Nat.le_of_ble_eq_true rfl) ?_
      refine xx_iload_n (q := 38) rfl rfl rfl ?_
      refine xx_bipush (q := 40) rfl rfl (by decide) ?_
      refine xx_icmp_ge (q := 54) (q2 := 43) rfl rfl rfl (fun _ => ?_) (fun h40 => (by exfalso; omega))
      have eU : ordU s gone a = (gone, a.2.2, a.2.2) := if_pos ⟨h1, by omega⟩
      have hfa : FO (lv + 1) D (xcp (xui D 279 1 gone) 282 0 281 0 6) := fun x k h1 h2 h3 => (show xcp _ 282 0 281 0 6 x k = _ from if_neg (fun r => by omega)).trans (xui_a (by omega))
      have hoa : OSr (ordU s gone a) (xcp (xui D 279 1 gone) 282 0 281 0 6) := by
        rw [eU]
        refine ⟨rfl, fun k hk => ⟨?_, ?_⟩⟩
        · show (if 281 = 281 ∧ 0 ≤ k ∧ k < 0 + 6 then xui D 279 1 gone 282 (0 + (k - 0)) else _) = a.2.2 k
          rw [if_pos ⟨rfl, by omega, by omega⟩, show 0 + (k - 0) = k by omega]
          exact (hO.2 k hk).2
        · exact (hO.2 k hk).2
      exact xx_vret rfl rfl ⟨rfl, _, rfl, hfa, hoa⟩
theorem c_ord {n : Nat} {R : Nat → Nat → Option Nat} (hR : RF R) {G : LwF} (up : Int) : ∀ (d lv : Nat) (s gone : Int) (K D : KK) (a : OS), lv + d = 6 → 0 ≤ gone → gone ≤ 9 * (lv : Int) → KI K → CK (284 + 19 * lv) K D → LwG G n R D → OSr a D → ∃ D', XC (6 + d + 1) 110 [.inr (some 279), .inl (lv : Int), .inl s, .inl up, .inl gone] (xS n, R, D) none (xS n, R, D') ∧ FO (lv + 1) D D' ∧ OSr (ordF G up d lv K s gone a) D'
  | 0, lv, s, gone, K, D, a, h1, h2, h3, hI, hK, hG, hO => c_ord_0 hR (by omega) s up gone D a hO
  | d + 1, lv, s, gone, K, D, a, h1, h2, h3, hI, hK, hG, hO => c_ord_W (c1 := 284 + 19 * (lv + 1)) hR (by omega) (by omega) rfl rfl s up gone h2 h3 K D hI a hK hG hO (ordF G up d (lv + 1)) (fun K2 s2 g2 a2 D2 q1 q2 q3 q4 q5 q6 => by
      have h := c_ord hR up d (lv + 1) s2 g2 K2 D2 a2 (by omega) q5 (by omega) q2 q1 q3 q4
      rw [show ((lv + 1 : Nat) : Int) = (lv : Int) + 1 by omega] at h
      exact h)
