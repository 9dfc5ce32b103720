/-! The reference's laws as they are asked; refusals, passings, presents. -/
def RLG (G : LwF) (n : Nat) (R : Nat → Nat → Option Nat) (D : KK) : Prop := ∀ (E : KK) (f : Nat → Int), (∀ b k, 499 ≤ b → b ≤ 505 → E b k = D b k) → (∀ k, k < 11 → E 508 k = f k) → ∃ E2 l, XC 5 227 [.inr (some 479), .inl 0] (xS n, R, E) (some (.inl l)) (xS n, R, E2) ∧ (∀ b k, b ≠ 509 → E2 b k = E b k) ∧ ((l = -1 ∧ ¬ G f 1 = 0) ∨ (0 ≤ l ∧ l < 48 ∧ (D 500 l.toNat = 0 ↔ ¬ G f 1 = 0)))
def RLH (G : LwF) (n : Nat) (R : Nat → Nat → Option Nat) (D : KK) : Prop := ∀ (E : KK) (f : Nat → Int), (∀ b k, 499 ≤ b → b ≤ 505 → E b k = D b k) → (∀ k, k < 5 → E 508 k = f k) → (∀ k, 10 < k → k < 15 → E 508 (k + 1) = f k) → ∃ E2 l, XC 5 227 [.inr (some 479), .inl 1] (xS n, R, E) (some (.inl l)) (xS n, R, E2) ∧ (∀ b k, b ≠ 509 → E2 b k = E b k) ∧ ((l = -1 ∧ ∀ o, G f o = o) ∨ (0 ≤ l ∧ l < 48 ∧ ∃ v, (∀ o, G f o = v) ∧ ∀ E3 : KK, (∀ b k, b ≠ 509 → E3 b k = E b k) → ∃ E4, XC 4 226 [.inr (some 479), .inl 1, .inl (D 501 l.toNat), .inl (D 502 l.toNat)] (xS n, R, E3) (some (.inl v)) (xS n, R, E4) ∧ ∀ b k, b ≠ 509 → E4 b k = E3 b k))
theorem RLG.fr {G : LwF} {n : Nat} {R : Nat → Nat → Option Nat} {D E : KK} (h : RLG G n R D) (g : ∀ b k, 499 ≤ b → b ≤ 505 → E b k = D b k) : RLG G n R E := fun E2 f h1 h2 => by
  obtain ⟨E3, l, q1, q2, q3⟩ := h E2 f (fun b k r1 r2 => (h1 b k r1 r2).trans (g b k r1 r2)) h2
  exact ⟨E3, l, q1, q2, by rw [g 500 _ (by omega) (by omega)]; exact q3⟩
theorem RLH.fr {G : LwF} {n : Nat} {R : Nat → Nat → Option Nat} {D E : KK} (h : RLH G n R D) (g : ∀ b k, 499 ≤ b → b ≤ 505 → E b k = D b k) : RLH G n R E := fun E2 f h1 h2 h3 => by
  obtain ⟨E3, l, q1, q2, q3⟩ := h E2 f (fun b k r1 r2 => (h1 b k r1 r2).trans (g b k r1 r2)) h2 h3
  exact ⟨E3, l, q1, q2, by rw [g 501 _ (by omega) (by omega), g 502 _ (by omega) (by omega)]; exact q3⟩
theorem RV.law {t : Int} {K : KK} {b : Int} {B : Nat → Int} {U : UU} {D0 D : KK} (h : RV t K b B U D0 D) : ∀ x k, 499 ≤ x → x ≤ 505 → D x k = D0 x k := fun x k h1 h2 => h.2.2.2.2.2.2 x k (by omega) (by omega) (by omega) (by omega) (by omega) (by omega)
set_option maxHeartbeats 1000000 in
theorem r_asksBoth {n : Nat} {R : Nat → Nat → Option Nat} {t : Int} {K D0 D : KK} {b : Int} {B : Nat → Int} {U : UU} (hR : RF R) (hV : RV t K b B U D0 D) (hI : KI K) (lock boat : Int) (h0 : 0 ≤ lock) (h1 : lock < 9) (h2 : 0 ≤ boat) (h3 : boat < 6) : ∃ D', XC 2 231 [.inr (some 479), .inl lock, .inl boat] (xS n, R, D) none (xS n, R, D') ∧ RV t K b B U D0 D' ∧ ∀ k, k < 5 → D' 508 k = fcK K lock boat k := by
  have hA0 : AF (D 508) D := fun _ => rfl
  refine XE_of (Nat.le_of_ble_eq_true rfl) (Nat.le_of_ble_eq_true rfl) (loc := [_, _, _]) rfl ?_
  refine xx_aload_n (q := 1) rfl rfl rfl ?_
  refine xx_getR (q := 4) rfl rfl rfl xS_479 (Nat.le_of_ble_eq_true rfl) rfl (hR.1 479 49 rfl) ?_
  refine xx_iconst (q := 5) rfl rfl (by decide) ?_
  refine xx_aload_n (q := 6) rfl rfl rfl ?_
  refine xx_iload_n (q := 7) rfl rfl rfl ?_
  refine xx_iload_n (q := 8) rfl rfl rfl ?_
  refine xx_callV (q := 11) (As := [_, _]) (rest := [_, _]) rfl rfl rfl (Or.inl rfl) rfl rfl (Nat.le_of_ble_eq_true rfl) xS_479 (XCm (r_likingOf (n := n) hR hV hI lock boat (by omega) (by omega) (by omega) (by omega)) rfl) rfl ?_
  have hb1 := ki_12 hI (lock * 6 + boat).toNat
  refine xr_isz (fun d => RV t K b B U D0 d ∧ AF (fset (D 508) 0 (K 12 (lock * 6 + boat).toNat)) d) (q := 12) rfl rfl xS_508 (by omega) (by omega) ⟨hV.scr (Or.inl rfl), AF_up hA0⟩ (fun D3 hV3 => ?_)
  refine xx_aload_n (q := 13) rfl rfl rfl ?_
  refine xx_getR (q := 16) rfl rfl rfl xS_479 (Nat.le_of_ble_eq_true rfl) rfl (hR.1 479 49 rfl) ?_
  refine xx_iconst (q := 17) rfl rfl (by decide) ?_
  refine xx_aload_n (q := 18) rfl rfl rfl ?_
  refine xx_getR (q := 21) rfl rfl rfl xS_479 (Nat.le_of_ble_eq_true rfl) rfl (hR.1 479 1 rfl) ?_
  refine xx_bipush (q := 23) rfl rfl (by decide) ?_
  refine xx_iload_n (q := 24) rfl rfl rfl ?_
  refine xx_iaddR (q := 25) rfl rfl (by omega) (by omega) ?_
  refine xx_iaz (v := K 8 (lock).toNat) (q := 26) rfl rfl xS_480 (by omega) (by omega) (rv_8 hV3.1 (p := lock) (by omega) (by omega)) ?_
  have hb4 : -99 ≤ K 8 (lock).toNat ∧ K 8 (lock).toNat ≤ 99 := by have h := ki_8 hI (lock).toNat; exact h
  refine xr_isz (fun d => RV t K b B U D0 d ∧ AF (fset (fset (D 508) 0 (K 12 (lock * 6 + boat).toNat)) 1 (K 8 (lock).toNat)) d) (q := 27) rfl rfl xS_508 (by omega) (by omega) ⟨hV3.1.scr (Or.inl rfl), AF_up hV3.2⟩ (fun D6 hV6 => ?_)
  refine xx_aload_n (q := 28) rfl rfl rfl ?_
  refine xx_getR (q := 31) rfl rfl rfl xS_479 (Nat.le_of_ble_eq_true rfl) rfl (hR.1 479 49 rfl) ?_
  refine xx_iconst (q := 32) rfl rfl (by decide) ?_
  refine xx_aload_n (q := 33) rfl rfl rfl ?_
  refine xx_iload_n (q := 34) rfl rfl rfl ?_
  refine xx_callV (q := 37) (As := [_]) (rest := [_, _]) rfl rfl rfl (Or.inl rfl) rfl rfl (Nat.le_of_ble_eq_true rfl) xS_479 (XCm (r_rivalOf hR hV6.1 hI lock (by omega) (by omega)) rfl) rfl ?_
  have hb7 := ki_9 hI (lock).toNat
  refine xx_iconst (q := 38) rfl rfl (by decide) ?_
  refine xx_icmp_ne (q := 45) (q2 := 41) rfl rfl rfl (fun h38 => ?_) (fun h38 => ?_)
  · refine xx_aload_n (q := 46) rfl rfl rfl ?_
    refine xx_aload_n (q := 47) rfl rfl rfl ?_
    refine xx_iload_n (q := 48) rfl rfl rfl ?_
    refine xx_callV (q := 51) (As := [_]) (rest := [_, _, _]) rfl rfl rfl (Or.inl rfl) rfl rfl (Nat.le_of_ble_eq_true rfl) xS_479 (XCm (r_rivalOf hR hV6.1 hI lock (by omega) (by omega)) rfl) rfl ?_
    have hb8 := ki_9 hI (lock).toNat
    refine xx_iload_n (q := 52) rfl rfl rfl ?_
    refine xx_callV (q := 55) (As := [_, _]) (rest := [_, _]) rfl rfl rfl (Or.inl rfl) rfl rfl (Nat.le_of_ble_eq_true rfl) xS_479 (XCm (r_likingOf (n := n) hR hV6.1 hI (K 9 (lock).toNat) boat (by omega) (by omega) (by omega) (by omega)) rfl) rfl ?_
    have hb9 := ki_12 hI ((K 9 (lock).toNat) * 6 + boat).toNat
    refine xr_isz (fun d => RV t K b B U D0 d ∧ AF (fset (fset (fset (D 508) 0 (K 12 (lock * 6 + boat).toNat)) 1 (K 8 (lock).toNat)) 2 (K 12 ((K 9 (lock).toNat) * 6 + boat).toNat)) d) (q := 56) rfl rfl xS_508 (by omega) (by omega) ⟨hV6.1.scr (Or.inl rfl), AF_up hV6.2⟩ (fun D11 hV11 => ?_)
    refine xx_aload_n (q := 57) rfl rfl rfl ?_
    refine xx_getR (q := 60) rfl rfl rfl xS_479 (Nat.le_of_ble_eq_true rfl) rfl (hR.1 479 49 rfl) ?_
    refine xx_iconst (q := 61) rfl rfl (by decide) ?_
    refine xx_iload_n (q := 62) rfl rfl rfl ?_
    refine xr_isz (fun d => RV t K b B U D0 d ∧ AF (fset (fset (fset (fset (D 508) 0 (K 12 (lock * 6 + boat).toNat)) 1 (K 8 (lock).toNat)) 2 (K 12 ((K 9 (lock).toNat) * 6 + boat).toNat)) 3 lock) d) (q := 63) rfl rfl xS_508 (by omega) (by omega) ⟨hV11.1.scr (Or.inl rfl), AF_up hV11.2⟩ (fun D13 hV13 => ?_)
    refine xx_aload_n (q := 64) rfl rfl rfl ?_
    refine xx_getR (q := 67) rfl rfl rfl xS_479 (Nat.le_of_ble_eq_true rfl) rfl (hR.1 479 49 rfl) ?_
    refine xx_iconst (q := 68) rfl rfl (by decide) ?_
    refine xx_aload_n (q := 69) rfl rfl rfl ?_
    refine xx_getR (q := 72) rfl rfl rfl xS_479 (Nat.le_of_ble_eq_true rfl) rfl (hR.1 479 1 rfl) ?_
    refine xx_iconst (q := 73) rfl rfl (by decide) ?_
    refine xx_iaz (v := K 0 1) (q := 74) rfl rfl xS_480 (by omega) (by omega) (rv_h hV13.1) ?_
    refine xr_isz (fun d => RV t K b B U D0 d ∧ AF (fset (fset (fset (fset (fset (D 508) 0 (K 12 (lock * 6 + boat).toNat)) 1 (K 8 (lock).toNat)) 2 (K 12 ((K 9 (lock).toNat) * 6 + boat).toNat)) 3 lock) 4 (K 0 1)) d) (q := 75) rfl rfl xS_508 (by omega) (by omega) ⟨hV13.1.scr (Or.inl rfl), AF_up hV13.2⟩ (fun D15 hV15 => ?_)
    refine xx_vret rfl rfl ⟨rfl, _, rfl, ?_⟩
    refine ⟨hV15.1, fun k hk => ?_⟩
    rw [hV15.2 k]
    have h5 : k = 0 ∨ k = 1 ∨ k = 2 ∨ k = 3 ∨ k = 4 := by omega
    have h38 : fcK K lock boat 2 = K 12 ((K 9 lock.toNat) * 6 + boat).toNat := if_neg h38
    rcases h5 with rfl | rfl | rfl | rfl | rfl
    · rfl
    · rfl
    · exact h38.symm
    · rfl
    · rfl
  · refine xx_iconst (q := 42) rfl rfl (by decide) ?_
    refine xx_goto (q := 55) rfl rfl ?_
    refine xr_isz (fun d => RV t K b B U D0 d ∧ AF (fset (fset (fset (D 508) 0 (K 12 (lock * 6 + boat).toNat)) 1 (K 8 (lock).toNat)) 2 0) d) (q := 56) rfl rfl xS_508 (by omega) (by omega) ⟨hV6.1.scr (Or.inl rfl), AF_up hV6.2⟩ (fun D17 hV17 => ?_)
    refine xx_aload_n (q := 57) rfl rfl rfl ?_
    refine xx_getR (q := 60) rfl rfl rfl xS_479 (Nat.le_of_ble_eq_true rfl) rfl (hR.1 479 49 rfl) ?_
    refine xx_iconst (q := 61) rfl rfl (by decide) ?_
    refine xx_iload_n (q := 62) rfl rfl rfl ?_
    refine xr_isz (fun d => RV t K b B U D0 d ∧ AF (fset (fset (fset (fset (D 508) 0 (K 12 (lock * 6 + boat).toNat)) 1 (K 8 (lock).toNat)) 2 0) 3 lock) d) (q := 63) rfl rfl xS_508 (by omega) (by omega) ⟨hV17.1.scr (Or.inl rfl), AF_up hV17.2⟩ (fun D19 hV19 => ?_)
    refine xx_aload_n (q := 64) rfl rfl rfl ?_
    refine xx_getR (q := 67) rfl rfl rfl xS_479 (Nat.le_of_ble_eq_true rfl) rfl (hR.1 479 49 rfl) ?_
    refine xx_iconst (q := 68) rfl rfl (by decide) ?_
    refine xx_aload_n (q := 69) rfl rfl rfl ?_
    refine xx_getR (q := 72) rfl rfl rfl xS_479 (Nat.le_of_ble_eq_true rfl) rfl (hR.1 479 1 rfl) ?_
    refine xx_iconst (q := 73) rfl rfl (by decide) ?_
    refine xx_iaz (v := K 0 1) (q := 74) rfl rfl xS_480 (by omega) (by omega) (rv_h hV19.1) ?_
    refine xr_isz (fun d => RV t K b B U D0 d ∧ AF (fset (fset (fset (fset (fset (D 508) 0 (K 12 (lock * 6 + boat).toNat)) 1 (K 8 (lock).toNat)) 2 0) 3 lock) 4 (K 0 1)) d) (q := 75) rfl rfl xS_508 (by omega) (by omega) ⟨hV19.1.scr (Or.inl rfl), AF_up hV19.2⟩ (fun D21 hV21 => ?_)
    refine xx_vret rfl rfl ⟨rfl, _, rfl, ?_⟩
    refine ⟨hV21.1, fun k hk => ?_⟩
    rw [hV21.2 k]
    have h5 : k = 0 ∨ k = 1 ∨ k = 2 ∨ k = 3 ∨ k = 4 := by omega
    have h38 : fcK K lock boat 2 = 0 := if_pos h38
    rcases h5 with rfl | rfl | rfl | rfl | rfl
    · rfl
    · rfl
    · exact h38.symm
    · rfl
    · rfl
set_option maxHeartbeats 1000000 in
theorem r_doesLet {n : Nat} {R : Nat → Nat → Option Nat} {t : Int} {K D0 D : KK} {b : Int} {B : Nat → Int} {U : UU} (hR : RF R) (hV : RV t K b B U D0 D) (hI : KI K) {G : LwF} (hG : RLG G n R D0) (lock boat up two : Int) (h0 : 0 ≤ lock) (h1 : lock < 9) (h2 : 0 ≤ boat) (h3 : boat < 6) : ∃ D', XC 6 232 [.inr (some 479), .inl lock, .inl boat, .inl up, .inl two] (xS n, R, D) (some (.inl (bi (¬ G (fcG K lock boat up two) 1 = 0)))) (xS n, R, D') ∧ RV t K b B U D0 D' := by
  refine XE_of (Nat.le_of_ble_eq_true rfl) (Nat.le_of_ble_eq_true rfl) (loc := [_, _, _, _, _, _]) rfl ?_
  refine xx_aload_n (q := 1) rfl rfl rfl ?_
  refine xx_iload_n (q := 2) rfl rfl rfl ?_
  refine xx_iload_n (q := 3) rfl rfl rfl ?_
  obtain ⟨D1, hx1, hV1, hA1⟩ := r_asksBoth (n := n) hR hV hI lock boat (by omega) (by omega) (by omega) (by omega)
  have hB1 : AF (D1 508) D1 := fun _ => rfl
  refine xx_callV (q := 6) (As := [_, _]) (rest := []) rfl rfl rfl (Or.inl rfl) rfl rfl (Nat.le_of_ble_eq_true rfl) xS_479 (XCm hx1 rfl) rfl ?_
  refine xx_aload_n (q := 7) rfl rfl rfl ?_
  refine xx_getR (q := 10) rfl rfl rfl xS_479 (Nat.le_of_ble_eq_true rfl) rfl (hR.1 479 49 rfl) ?_
  refine xx_iconst (q := 11) rfl rfl (by decide) ?_
  refine xx_aload_n (q := 12) rfl rfl rfl ?_
  refine xx_getR (q := 15) rfl rfl rfl xS_479 (Nat.le_of_ble_eq_true rfl) rfl (hR.1 479 13 rfl) ?_
  refine xx_iload_n (q := 16) rfl rfl rfl ?_
  refine xx_iaz (v := K 15 (boat).toNat) (q := 17) rfl rfl xS_488 (by omega) (by omega) (rv_488 hV1 (p := boat) (by omega) (by omega)) ?_
  have hb2 : 0 ≤ K 15 (boat).toNat ∧ K 15 (boat).toNat ≤ 99 := by have h := ki_15 hI (boat).toNat; exact h
  refine xr_isz (fun d => RV t K b B U D0 d ∧ AF (fset (D1 508) 5 (K 15 (boat).toNat)) d) (q := 18) rfl rfl xS_508 (by omega) (by omega) ⟨hV1.scr (Or.inl rfl), AF_up hB1⟩ (fun D4 hV4 => ?_)
  refine xx_aload_n (q := 19) rfl rfl rfl ?_
  refine xx_getR (q := 22) rfl rfl rfl xS_479 (Nat.le_of_ble_eq_true rfl) rfl (hR.1 479 49 rfl) ?_
  refine xx_bipush (q := 24) rfl rfl (by decide) ?_
  refine xx_aload_n (q := 25) rfl rfl rfl ?_
  refine xx_iload_n (q := 26) rfl rfl rfl ?_
  refine xx_callV (q := 29) (As := [_]) (rest := [_, _]) rfl rfl rfl (Or.inl rfl) rfl rfl (Nat.le_of_ble_eq_true rfl) xS_479 (XCm (r_depthOf hR hV4.1 hI lock (by omega) (by omega)) rfl) rfl ?_
  have hb5 := ki_1 hI (lock).toNat
  refine xr_isz (fun d => RV t K b B U D0 d ∧ AF (fset (fset (D1 508) 5 (K 15 (boat).toNat)) 6 (K 1 (lock).toNat)) d) (q := 30) rfl rfl xS_508 (by omega) (by omega) ⟨hV4.1.scr (Or.inl rfl), AF_up hV4.2⟩ (fun D7 hV7 => ?_)
  refine xx_aload_n (q := 31) rfl rfl rfl ?_
  refine xx_getR (q := 34) rfl rfl rfl xS_479 (Nat.le_of_ble_eq_true rfl) rfl (hR.1 479 49 rfl) ?_
  refine xx_bipush (q := 36) rfl rfl (by decide) ?_
  refine xx_aload_n (q := 37) rfl rfl rfl ?_
  refine xx_iload_n (q := 38) rfl rfl rfl ?_
  refine xx_iconst (q := 39) rfl rfl (by decide) ?_
  refine xx_iaddR (q := 40) rfl rfl (by omega) (by omega) ?_
  refine xx_callV (q := 43) (As := [_]) (rest := [_, _]) rfl rfl rfl (Or.inl rfl) rfl rfl (Nat.le_of_ble_eq_true rfl) xS_479 (XCm (r_depthOf hR hV7.1 hI (lock + 1) (by omega) (by omega)) rfl) rfl ?_
  have hb8 := ki_1 hI (lock + 1).toNat
  refine xr_isz (fun d => RV t K b B U D0 d ∧ AF (fset (fset (fset (D1 508) 5 (K 15 (boat).toNat)) 6 (K 1 (lock).toNat)) 7 (K 1 (lock + 1).toNat)) d) (q := 44) rfl rfl xS_508 (by omega) (by omega) ⟨hV7.1.scr (Or.inl rfl), AF_up hV7.2⟩ (fun D10 hV10 => ?_)
  refine xx_aload_n (q := 45) rfl rfl rfl ?_
  refine xx_getR (q := 48) rfl rfl rfl xS_479 (Nat.le_of_ble_eq_true rfl) rfl (hR.1 479 49 rfl) ?_
  refine xx_bipush (q := 50) rfl rfl (by decide) ?_
  refine xx_iload_n (q := 51) rfl rfl rfl ?_
  refine xx_if_eq (q := 58) (q2 := 54) rfl rfl rfl (fun h51 => ?_) (fun h51 => ?_)
  · refine xx_iconst (q := 59) rfl rfl (by decide) ?_
    refine xr_isz (fun d => RV t K b B U D0 d ∧ AF (fset (fset (fset (fset (D1 508) 5 (K 15 (boat).toNat)) 6 (K 1 (lock).toNat)) 7 (K 1 (lock + 1).toNat)) 8 0) d) (q := 60) rfl rfl xS_508 (by omega) (by omega) ⟨hV10.1.scr (Or.inl rfl), AF_up hV10.2⟩ (fun D12 hV12 => ?_)
    refine xx_aload_n (q := 61) rfl rfl rfl ?_
    refine xx_getR (q := 64) rfl rfl rfl xS_479 (Nat.le_of_ble_eq_true rfl) rfl (hR.1 479 49 rfl) ?_
    refine xx_bipush (q := 66) rfl rfl (by decide) ?_
    refine xx_aload_n (q := 67) rfl rfl rfl ?_
    refine xx_getR (q := 70) rfl rfl rfl xS_479 (Nat.le_of_ble_eq_true rfl) rfl (hR.1 479 1 rfl) ?_
    refine xx_bipush (q := 72) rfl rfl (by decide) ?_
    refine xx_iload_n (q := 73) rfl rfl rfl ?_
    refine xx_iaddR (q := 74) rfl rfl (by omega) (by omega) ?_
    refine xx_iaz (v := K 5 (lock).toNat) (q := 75) rfl rfl xS_480 (by omega) (by omega) (rv_5 hV12.1 (p := lock) (by omega) (by omega)) ?_
    have hb13 : -2147483648 ≤ K 5 (lock).toNat ∧ K 5 (lock).toNat ≤ 2147483647 := by have h := ki_5 hI (lock).toNat; exact h
    refine xr_isz (fun d => RV t K b B U D0 d ∧ AF (fset (fset (fset (fset (fset (D1 508) 5 (K 15 (boat).toNat)) 6 (K 1 (lock).toNat)) 7 (K 1 (lock + 1).toNat)) 8 0) 9 (K 5 (lock).toNat)) d) (q := 76) rfl rfl xS_508 (by omega) (by omega) ⟨hV12.1.scr (Or.inl rfl), AF_up hV12.2⟩ (fun D15 hV15 => ?_)
    refine xx_aload_n (q := 77) rfl rfl rfl ?_
    refine xx_getR (q := 80) rfl rfl rfl xS_479 (Nat.le_of_ble_eq_true rfl) rfl (hR.1 479 49 rfl) ?_
    refine xx_bipush (q := 82) rfl rfl (by decide) ?_
    refine xx_iload (q := 84) rfl rfl rfl ?_
    refine xx_if_eq (q := 91) (q2 := 87) rfl rfl rfl (fun h84 => ?_) (fun h84 => ?_)
    · refine xx_iconst (q := 92) rfl rfl (by decide) ?_
      refine xr_isz (fun d => RV t K b B U D0 d ∧ AF (fset (fset (fset (fset (fset (fset (D1 508) 5 (K 15 (boat).toNat)) 6 (K 1 (lock).toNat)) 7 (K 1 (lock + 1).toNat)) 8 0) 9 (K 5 (lock).toNat)) 10 0) d) (q := 93) rfl rfl xS_508 (by omega) (by omega) ⟨hV15.1.scr (Or.inl rfl), AF_up hV15.2⟩ (fun D17 hV17 => ?_)
      refine xx_aload_n (q := 94) rfl rfl rfl ?_
      refine xx_iconst (q := 95) rfl rfl (by decide) ?_
      have hf18 : ∀ k, k < 11 → D17 508 k = fcG K lock boat up two k := by
        intro k hk
        rw [hV17.2 k]
        have h5 : k < 5 ∨ k = 5 ∨ k = 6 ∨ k = 7 ∨ k = 8 ∨ k = 9 ∨ k = 10 := by omega
        rcases h5 with h5 | rfl | rfl | rfl | rfl | rfl | rfl
        · have h6 := hA1 k h5
          have h7 : k = 0 ∨ k = 1 ∨ k = 2 ∨ k = 3 ∨ k = 4 := by omega
          rcases h7 with rfl | rfl | rfl | rfl | rfl <;> exact h6
        · rfl
        · rfl
        · rfl
        · simp [fset, fcG, *]
        · rfl
        · simp [fset, fcG, *]
      obtain ⟨D18, l18, hx18, hg18, hl18⟩ := hG D17 (fcG K lock boat up two) (hV17.1.law) hf18
      have hV18 := RV.scrE hV17.1 (E := D18) (fun x k q1 q2 => hg18 x k q2)
      refine xx_callV (q := 98) (As := [_]) (rest := []) rfl rfl rfl (Or.inl rfl) rfl rfl (Nat.le_of_ble_eq_true rfl) xS_479 (XCm hx18 rfl) rfl ?_
      refine xx_istore (q := 100) (loc2 := [_, _, _, _, _, _]) rfl rfl (Nat.le_of_ble_eq_true rfl) rfl ?_
      refine xx_iload (q := 102) rfl rfl rfl ?_
      refine xx_iconst (q := 103) rfl rfl (by decide) ?_
      refine xx_icmp_eq (q := 116) (q2 := 106) rfl rfl rfl (fun h103 => ?_) (fun h103 => ?_)
      · refine xx_iconst (q := 117) rfl rfl (by decide) ?_
        refine xx_goto (q := 121) rfl rfl ?_
        refine xx_iret rfl (Or.inr rfl) ⟨congrArg (fun z => some (Sum.inl z)) (by have hl := hl18; grind [bi]), _, rfl, ?_⟩
        exact hV18
      · refine xx_aload_n (q := 107) rfl rfl rfl ?_
        refine xx_getR (q := 110) rfl rfl rfl xS_479 (Nat.le_of_ble_eq_true rfl) rfl (hR.1 479 31 rfl) ?_
        refine xx_iload (q := 112) rfl rfl rfl ?_
        refine xx_iaz (q := 113) rfl rfl xS_500 (by omega) (by omega) (hV18.law 500 _ (by omega) (by omega)) ?_
        refine xx_if_ne (q := 120) (q2 := 116) rfl rfl rfl (fun h113 => ?_) (fun h113 => ?_)
        · refine xx_iconst (q := 121) rfl rfl (by decide) ?_
          refine xx_iret rfl (Or.inl rfl) ⟨congrArg (fun z => some (Sum.inl z)) (by have hl := hl18; grind [bi]), _, rfl, ?_⟩
          exact hV18
        · refine xx_iconst (q := 117) rfl rfl (by decide) ?_
          refine xx_goto (q := 121) rfl rfl ?_
          refine xx_iret rfl (Or.inr rfl) ⟨congrArg (fun z => some (Sum.inl z)) (by have hl := hl18; grind [bi]), _, rfl, ?_⟩
          exact hV18
    · refine xx_iconst (q := 88) rfl rfl (by decide) ?_
      refine xx_goto (q := 92) rfl rfl ?_
      refine xr_isz (fun d => RV t K b B U D0 d ∧ AF (fset (fset (fset (fset (fset (fset (D1 508) 5 (K 15 (boat).toNat)) 6 (K 1 (lock).toNat)) 7 (K 1 (lock + 1).toNat)) 8 0) 9 (K 5 (lock).toNat)) 10 1) d) (q := 93) rfl rfl xS_508 (by omega) (by omega) ⟨hV15.1.scr (Or.inl rfl), AF_up hV15.2⟩ (fun D20 hV20 => ?_)
      refine xx_aload_n (q := 94) rfl rfl rfl ?_
      refine xx_iconst (q := 95) rfl rfl (by decide) ?_
      have hf21 : ∀ k, k < 11 → D20 508 k = fcG K lock boat up two k := by
        intro k hk
        rw [hV20.2 k]
        have h5 : k < 5 ∨ k = 5 ∨ k = 6 ∨ k = 7 ∨ k = 8 ∨ k = 9 ∨ k = 10 := by omega
        rcases h5 with h5 | rfl | rfl | rfl | rfl | rfl | rfl
        · have h6 := hA1 k h5
          have h7 : k = 0 ∨ k = 1 ∨ k = 2 ∨ k = 3 ∨ k = 4 := by omega
          rcases h7 with rfl | rfl | rfl | rfl | rfl <;> exact h6
        · rfl
        · rfl
        · rfl
        · simp [fset, fcG, *]
        · rfl
        · simp [fset, fcG, *]
      obtain ⟨D21, l21, hx21, hg21, hl21⟩ := hG D20 (fcG K lock boat up two) (hV20.1.law) hf21
      have hV21 := RV.scrE hV20.1 (E := D21) (fun x k q1 q2 => hg21 x k q2)
      refine xx_callV (q := 98) (As := [_]) (rest := []) rfl rfl rfl (Or.inl rfl) rfl rfl (Nat.le_of_ble_eq_true rfl) xS_479 (XCm hx21 rfl) rfl ?_
      refine xx_istore (q := 100) (loc2 := [_, _, _, _, _, _]) rfl rfl (Nat.le_of_ble_eq_true rfl) rfl ?_
      refine xx_iload (q := 102) rfl rfl rfl ?_
      refine xx_iconst (q := 103) rfl rfl (by decide) ?_
      refine xx_icmp_eq (q := 116) (q2 := 106) rfl rfl rfl (fun h103 => ?_) (fun h103 => ?_)
      · refine xx_iconst (q := 117) rfl rfl (by decide) ?_
        refine xx_goto (q := 121) rfl rfl ?_
        refine xx_iret rfl (Or.inr rfl) ⟨congrArg (fun z => some (Sum.inl z)) (by have hl := hl21; grind [bi]), _, rfl, ?_⟩
        exact hV21
      · refine xx_aload_n (q := 107) rfl rfl rfl ?_
        refine xx_getR (q := 110) rfl rfl rfl xS_479 (Nat.le_of_ble_eq_true rfl) rfl (hR.1 479 31 rfl) ?_
        refine xx_iload (q := 112) rfl rfl rfl ?_
        refine xx_iaz (q := 113) rfl rfl xS_500 (by omega) (by omega) (hV21.law 500 _ (by omega) (by omega)) ?_
        refine xx_if_ne (q := 120) (q2 := 116) rfl rfl rfl (fun h113 => ?_) (fun h113 => ?_)
        · refine xx_iconst (q := 121) rfl rfl (by decide) ?_
          refine xx_iret rfl (Or.inl rfl) ⟨congrArg (fun z => some (Sum.inl z)) (by have hl := hl21; grind [bi]), _, rfl, ?_⟩
          exact hV21
        · refine xx_iconst (q := 117) rfl rfl (by decide) ?_
          refine xx_goto (q := 121) rfl rfl ?_
          refine xx_iret rfl (Or.inr rfl) ⟨congrArg (fun z => some (Sum.inl z)) (by have hl := hl21; grind [bi]), _, rfl, ?_⟩
          exact hV21
  · refine xx_iconst (q := 55) rfl rfl (by decide) ?_
    refine xx_goto (q := 59) rfl rfl ?_
    refine xr_isz (fun d => RV t K b B U D0 d ∧ AF (fset (fset (fset (fset (D1 508) 5 (K 15 (boat).toNat)) 6 (K 1 (lock).toNat)) 7 (K 1 (lock + 1).toNat)) 8 1) d) (q := 60) rfl rfl xS_508 (by omega) (by omega) ⟨hV10.1.scr (Or.inl rfl), AF_up hV10.2⟩ (fun D23 hV23 => ?_)
    refine xx_aload_n (q := 61) rfl rfl rfl ?_
    refine xx_getR (q := 64) rfl rfl rfl xS_479 (Nat.le_of_ble_eq_true rfl) rfl (hR.1 479 49 rfl) ?_
    refine xx_bipush (q := 66) rfl rfl (by decide) ?_
    refine xx_aload_n (q := 67) rfl rfl rfl ?_
    refine xx_getR (q := 70) rfl rfl rfl xS_479 (Nat.le_of_ble_eq_true rfl) rfl (hR.1 479 1 rfl) ?_
    refine xx_bipush (q := 72) rfl rfl (by decide) ?_
    refine xx_iload_n (q := 73) rfl rfl rfl ?_
    refine xx_iaddR (q := 74) rfl rfl (by omega) (by omega) ?_
    refine xx_iaz (v := K 5 (lock).toNat) (q := 75) rfl rfl xS_480 (by omega) (by omega) (rv_5 hV23.1 (p := lock) (by omega) (by omega)) ?_
    have hb24 : -2147483648 ≤ K 5 (lock).toNat ∧ K 5 (lock).toNat ≤ 2147483647 := by have h := ki_5 hI (lock).toNat; exact h
    refine xr_isz (fun d => RV t K b B U D0 d ∧ AF (fset (fset (fset (fset (fset (D1 508) 5 (K 15 (boat).toNat)) 6 (K 1 (lock).toNat)) 7 (K 1 (lock + 1).toNat)) 8 1) 9 (K 5 (lock).toNat)) d) (q := 76) rfl rfl xS_508 (by omega) (by omega) ⟨hV23.1.scr (Or.inl rfl), AF_up hV23.2⟩ (fun D26 hV26 => ?_)
    refine xx_aload_n (q := 77) rfl rfl rfl ?_
    refine xx_getR (q := 80) rfl rfl rfl xS_479 (Nat.le_of_ble_eq_true rfl) rfl (hR.1 479 49 rfl) ?_
    refine xx_bipush (q := 82) rfl rfl (by decide) ?_
    refine xx_iload (q := 84) rfl rfl rfl ?_
    refine xx_if_eq (q := 91) (q2 := 87) rfl rfl rfl (fun h84 => ?_) (fun h84 => ?_)
    · refine xx_iconst (q := 92) rfl rfl (by decide) ?_
      refine xr_isz (fun d => RV t K b B U D0 d ∧ AF (fset (fset (fset (fset (fset (fset (D1 508) 5 (K 15 (boat).toNat)) 6 (K 1 (lock).toNat)) 7 (K 1 (lock + 1).toNat)) 8 1) 9 (K 5 (lock).toNat)) 10 0) d) (q := 93) rfl rfl xS_508 (by omega) (by omega) ⟨hV26.1.scr (Or.inl rfl), AF_up hV26.2⟩ (fun D28 hV28 => ?_)
      refine xx_aload_n (q := 94) rfl rfl rfl ?_
      refine xx_iconst (q := 95) rfl rfl (by decide) ?_
      have hf29 : ∀ k, k < 11 → D28 508 k = fcG K lock boat up two k := by
        intro k hk
        rw [hV28.2 k]
        have h5 : k < 5 ∨ k = 5 ∨ k = 6 ∨ k = 7 ∨ k = 8 ∨ k = 9 ∨ k = 10 := by omega
        rcases h5 with h5 | rfl | rfl | rfl | rfl | rfl | rfl
        · have h6 := hA1 k h5
          have h7 : k = 0 ∨ k = 1 ∨ k = 2 ∨ k = 3 ∨ k = 4 := by omega
          rcases h7 with rfl | rfl | rfl | rfl | rfl <;> exact h6
        · rfl
        · rfl
        · rfl
        · simp [fset, fcG, *]
        · rfl
        · simp [fset, fcG, *]
      obtain ⟨D29, l29, hx29, hg29, hl29⟩ := hG D28 (fcG K lock boat up two) (hV28.1.law) hf29
      have hV29 := RV.scrE hV28.1 (E := D29) (fun x k q1 q2 => hg29 x k q2)
      refine xx_callV (q := 98) (As := [_]) (rest := []) rfl rfl rfl (Or.inl rfl) rfl rfl (Nat.le_of_ble_eq_true rfl) xS_479 (XCm hx29 rfl) rfl ?_
      refine xx_istore (q := 100) (loc2 := [_, _, _, _, _, _]) rfl rfl (Nat.le_of_ble_eq_true rfl) rfl ?_
      refine xx_iload (q := 102) rfl rfl rfl ?_
      refine xx_iconst (q := 103) rfl rfl (by decide) ?_
      refine xx_icmp_eq (q := 116) (q2 := 106) rfl rfl rfl (fun h103 => ?_) (fun h103 => ?_)
      · refine xx_iconst (q := 117) rfl rfl (by decide) ?_
        refine xx_goto (q := 121) rfl rfl ?_
        refine xx_iret rfl (Or.inr rfl) ⟨congrArg (fun z => some (Sum.inl z)) (by have hl := hl29; grind [bi]), _, rfl, ?_⟩
        exact hV29
      · refine xx_aload_n (q := 107) rfl rfl rfl ?_
        refine xx_getR (q := 110) rfl rfl rfl xS_479 (Nat.le_of_ble_eq_true rfl) rfl (hR.1 479 31 rfl) ?_
        refine xx_iload (q := 112) rfl rfl rfl ?_
        refine xx_iaz (q := 113) rfl rfl xS_500 (by omega) (by omega) (hV29.law 500 _ (by omega) (by omega)) ?_
        refine xx_if_ne (q := 120) (q2 := 116) rfl rfl rfl (fun h113 => ?_) (fun h113 => ?_)
        · refine xx_iconst (q := 121) rfl rfl (by decide) ?_
          refine xx_iret rfl (Or.inl rfl) ⟨congrArg (fun z => some (Sum.inl z)) (by have hl := hl29; grind [bi]), _, rfl, ?_⟩
          exact hV29
        · refine xx_iconst (q := 117) rfl rfl (by decide) ?_
          refine xx_goto (q := 121) rfl rfl ?_
          refine xx_iret rfl (Or.inr rfl) ⟨congrArg (fun z => some (Sum.inl z)) (by have hl := hl29; grind [bi]), _, rfl, ?_⟩
          exact hV29
    · refine xx_iconst (q := 88) rfl rfl (by decide) ?_
      refine xx_goto (q := 92) rfl rfl ?_
      refine xr_isz (fun d => RV t K b B U D0 d ∧ AF (fset (fset (fset (fset (fset (fset (D1 508) 5 (K 15 (boat).toNat)) 6 (K 1 (lock).toNat)) 7 (K 1 (lock + 1).toNat)) 8 1) 9 (K 5 (lock).toNat)) 10 1) d) (q := 93) rfl rfl xS_508 (by omega) (by omega) ⟨hV26.1.scr (Or.inl rfl), AF_up hV26.2⟩ (fun D31 hV31 => ?_)
      refine xx_aload_n (q := 94) rfl rfl rfl ?_
      refine xx_iconst (q := 95) rfl rfl (by decide) ?_
      have hf32 : ∀ k, k < 11 → D31 508 k = fcG K lock boat up two k := by
        intro k hk
        rw [hV31.2 k]
        have h5 : k < 5 ∨ k = 5 ∨ k = 6 ∨ k = 7 ∨ k = 8 ∨ k = 9 ∨ k = 10 := by omega
        rcases h5 with h5 | rfl | rfl | rfl | rfl | rfl | rfl
        · have h6 := hA1 k h5
          have h7 : k = 0 ∨ k = 1 ∨ k = 2 ∨ k = 3 ∨ k = 4 := by omega
          rcases h7 with rfl | rfl | rfl | rfl | rfl <;> exact h6
        · rfl
        · rfl
        · rfl
        · simp [fset, fcG, *]
        · rfl
        · simp [fset, fcG, *]
      obtain ⟨D32, l32, hx32, hg32, hl32⟩ := hG D31 (fcG K lock boat up two) (hV31.1.law) hf32
      have hV32 := RV.scrE hV31.1 (E := D32) (fun x k q1 q2 => hg32 x k q2)
      refine xx_callV (q := 98) (As := [_]) (rest := []) rfl rfl rfl (Or.inl rfl) rfl rfl (Nat.le_of_ble_eq_true rfl) xS_479 (XCm hx32 rfl) rfl ?_
      refine xx_istore (q := 100) (loc2 := [_, _, _, _, _, _]) rfl rfl (Nat.le_of_ble_eq_true rfl) rfl ?_
      refine xx_iload (q := 102) rfl rfl rfl ?_
      refine xx_iconst (q := 103) rfl rfl (by decide) ?_
      refine xx_icmp_eq (q := 116) (q2 := 106) rfl rfl rfl (fun h103 => ?_) (fun h103 => ?_)
      · refine xx_iconst (q := 117) rfl rfl (by decide) ?_
        refine xx_goto (q := 121) rfl rfl ?_
        refine xx_iret rfl (Or.inr rfl) ⟨congrArg (fun z => some (Sum.inl z)) (by have hl := hl32; grind [bi]), _, rfl, ?_⟩
        exact hV32
      · refine xx_aload_n (q := 107) rfl rfl rfl ?_
        refine xx_getR (q := 110) rfl rfl rfl xS_479 (Nat.le_of_ble_eq_true rfl) rfl (hR.1 479 31 rfl) ?_
        refine xx_iload (q := 112) rfl rfl rfl ?_
        refine xx_iaz (q := 113) rfl rfl xS_500 (by omega) (by omega) (hV32.law 500 _ (by omega) (by omega)) ?_
        refine xx_if_ne (q := 120) (q2 := 116) rfl rfl rfl (fun h113 => ?_) (fun h113 => ?_)
        · refine xx_iconst (q := 121) rfl rfl (by decide) ?_
          refine xx_iret rfl (Or.inl rfl) ⟨congrArg (fun z => some (Sum.inl z)) (by have hl := hl32; grind [bi]), _, rfl, ?_⟩
          exact hV32
        · refine xx_iconst (q := 117) rfl rfl (by decide) ?_
          refine xx_goto (q := 121) rfl rfl ?_
          refine xx_iret rfl (Or.inr rfl) ⟨congrArg (fun z => some (Sum.inl z)) (by have hl := hl32; grind [bi]), _, rfl, ?_⟩
          exact hV32
theorem r_taste {t : Int} {K : KK} {b : Int} {B : Nat → Int} {U : UU} {D0 D : KK} (h : RV t K b B U D0 D) {l c : Int} (h0 : 0 ≤ l) (h1 : l < 9) (h2 : 0 ≤ c) (h3 : c < 4) : D 487 ((4 * l) + c).toNat = K 11 (l * 4 + c).toNat := by
  rw [show (4 * l) + c = l * 4 + c by omega]
  exact rv_487 h (by omega) (by omega)
set_option maxHeartbeats 1000000 in
theorem r_heartOf {n : Nat} {R : Nat → Nat → Option Nat} {t : Int} {K D0 D : KK} {b : Int} {B : Nat → Int} {U : UU} (hR : RF R) (hV : RV t K b B U D0 D) (hI : KI K) {Hh : LwF} (hH : RLH Hh n R D0) (boat good amount lock : Int) (h0 : 0 ≤ lock) (h1 : lock < 9) (h2 : 0 ≤ boat) (h3 : boat < 6) (h4 : 0 ≤ good) (h5 : good < 4) (h6 : 0 ≤ amount) (h7 : amount ≤ 99) : ∃ D', XC 6 240 [.inr (some 479), .inl boat, .inl good, .inl amount, .inl lock] (xS n, R, D) (some (.inl (dlgF K Hh boat good amount lock))) (xS n, R, D') ∧ RV t K b B U D0 D' := by
  have hbt := ki_11 hI (lock * 4 + good).toNat
  have hm := mul_b hbt h6 h7
  refine XE_of (Nat.le_of_ble_eq_true rfl) (Nat.le_of_ble_eq_true rfl) (loc := [_, _, _, _, _, _]) rfl ?_
  refine xx_aload_n (q := 1) rfl rfl rfl ?_
  refine xx_iload (q := 3) rfl rfl rfl ?_
  refine xx_iload_n (q := 4) rfl rfl rfl ?_
  obtain ⟨D1, hx1, hV1, hA1⟩ := r_asksBoth (n := n) hR hV hI lock boat (by omega) (by omega) (by omega) (by omega)
  have hB1 : AF (D1 508) D1 := fun _ => rfl
  refine xx_callV (q := 7) (As := [_, _]) (rest := []) rfl rfl rfl (Or.inl rfl) rfl rfl (Nat.le_of_ble_eq_true rfl) xS_479 (XCm hx1 rfl) rfl ?_
  refine xx_aload_n (q := 8) rfl rfl rfl ?_
  refine xx_getR (q := 11) rfl rfl rfl xS_479 (Nat.le_of_ble_eq_true rfl) rfl (hR.1 479 49 rfl) ?_
  refine xx_bipush (q := 13) rfl rfl (by decide) ?_
  refine xx_iload_n (q := 14) rfl rfl rfl ?_
  refine xr_isz (fun d => RV t K b B U D0 d ∧ AF (fset (D1 508) 12 good) d) (q := 15) rfl rfl xS_508 (by omega) (by omega) ⟨hV1.scr (Or.inl rfl), AF_up hB1⟩ (fun D3 hV3 => ?_)
  refine xx_aload_n (q := 16) rfl rfl rfl ?_
  refine xx_getR (q := 19) rfl rfl rfl xS_479 (Nat.le_of_ble_eq_true rfl) rfl (hR.1 479 49 rfl) ?_
  refine xx_bipush (q := 21) rfl rfl (by decide) ?_
  refine xx_iload_n (q := 22) rfl rfl rfl ?_
  refine xr_isz (fun d => RV t K b B U D0 d ∧ AF (fset (fset (D1 508) 12 good) 13 amount) d) (q := 23) rfl rfl xS_508 (by omega) (by omega) ⟨hV3.1.scr (Or.inl rfl), AF_up hV3.2⟩ (fun D5 hV5 => ?_)
  refine xx_aload_n (q := 24) rfl rfl rfl ?_
  refine xx_getR (q := 27) rfl rfl rfl xS_479 (Nat.le_of_ble_eq_true rfl) rfl (hR.1 479 49 rfl) ?_
  refine xx_bipush (q := 29) rfl rfl (by decide) ?_
  refine xx_aload_n (q := 30) rfl rfl rfl ?_
  refine xx_getR (q := 33) rfl rfl rfl xS_479 (Nat.le_of_ble_eq_true rfl) rfl (hR.1 479 12 rfl) ?_
  refine xx_iconst (q := 34) rfl rfl (by decide) ?_
  refine xx_iload (q := 36) rfl rfl rfl ?_
  refine xx_imulR (q := 37) rfl rfl (by omega) (by omega) ?_
  refine xx_iload_n (q := 38) rfl rfl rfl ?_
  refine xx_iaddR (q := 39) rfl rfl (by omega) (by omega) ?_
  refine xx_iaz (v := K 11 (lock * 4 + good).toNat) (q := 40) rfl rfl xS_487 (by omega) (by omega) (r_taste hV5.1 (by omega) (by omega) (by omega) (by omega)) ?_
  have hb6 := ki_11 hI (lock * 4 + good).toNat
  refine xr_isz (fun d => RV t K b B U D0 d ∧ AF (fset (fset (fset (D1 508) 12 good) 13 amount) 14 (K 11 (lock * 4 + good).toNat)) d) (q := 41) rfl rfl xS_508 (by omega) (by omega) ⟨hV5.1.scr (Or.inl rfl), AF_up hV5.2⟩ (fun D8 hV8 => ?_)
  refine xx_aload_n (q := 42) rfl rfl rfl ?_
  refine xx_getR (q := 45) rfl rfl rfl xS_479 (Nat.le_of_ble_eq_true rfl) rfl (hR.1 479 49 rfl) ?_
  refine xx_bipush (q := 47) rfl rfl (by decide) ?_
  refine xx_aload_n (q := 48) rfl rfl rfl ?_
  refine xx_getR (q := 51) rfl rfl rfl xS_479 (Nat.le_of_ble_eq_true rfl) rfl (hR.1 479 1 rfl) ?_
  refine xx_bipush (q := 53) rfl rfl (by decide) ?_
  refine xx_iload (q := 55) rfl rfl rfl ?_
  refine xx_iaddR (q := 56) rfl rfl (by omega) (by omega) ?_
  refine xx_iaz (v := K 10 (lock).toNat) (q := 57) rfl rfl xS_480 (by omega) (by omega) (rv_10 hV8.1 (p := lock) (by omega) (by omega)) ?_
  have hb9 : -2147483648 ≤ K 10 (lock).toNat ∧ K 10 (lock).toNat ≤ 2147483647 := by have h := ki_10 hI (lock).toNat; exact h
  refine xr_isz (fun d => RV t K b B U D0 d ∧ AF (fset (fset (fset (fset (D1 508) 12 good) 13 amount) 14 (K 11 (lock * 4 + good).toNat)) 15 (K 10 (lock).toNat)) d) (q := 58) rfl rfl xS_508 (by omega) (by omega) ⟨hV8.1.scr (Or.inl rfl), AF_up hV8.2⟩ (fun D11 hV11 => ?_)
  refine xx_aload_n (q := 59) rfl rfl rfl ?_
  refine xx_iconst (q := 60) rfl rfl (by decide) ?_
  have hf12 : ∀ k, k < 5 → D11 508 k = fcH K boat good amount lock k := by
    intro k hk
    rw [hV11.2 k]
    have h6 := hA1 k hk
    have h7 : k = 0 ∨ k = 1 ∨ k = 2 ∨ k = 3 ∨ k = 4 := by omega
    rcases h7 with rfl | rfl | rfl | rfl | rfl <;> exact h6
  have hh12 : ∀ k, 10 < k → k < 15 → D11 508 (k + 1) = fcH K boat good amount lock k := by
    intro k hk hk2
    rw [hV11.2 (k + 1)]
    have h7 : k = 11 ∨ k = 12 ∨ k = 13 ∨ k = 14 := by omega
    rcases h7 with rfl | rfl | rfl | rfl <;> rfl
  obtain ⟨D12, l12, hx12, hg12, hl12⟩ := hH D11 (fcH K boat good amount lock) (hV11.1.law) hf12 hh12
  have hV12 := RV.scrE hV11.1 (E := D12) (fun x k q1 q2 => hg12 x k q2)
  refine xx_callV (q := 63) (As := [_]) (rest := []) rfl rfl rfl (Or.inl rfl) rfl rfl (Nat.le_of_ble_eq_true rfl) xS_479 (XCm hx12 rfl) rfl ?_
  refine xx_istore (q := 65) (loc2 := [_, _, _, _, _, _]) rfl rfl (Nat.le_of_ble_eq_true rfl) rfl ?_
  refine xx_aload_n (q := 66) rfl rfl rfl ?_
  refine xx_iload (q := 68) rfl rfl rfl ?_
  refine xx_iconst (q := 69) rfl rfl (by decide) ?_
  refine xx_icmp_ne (q := 84) (q2 := 72) rfl rfl rfl (fun h69 => ?_) (fun h69 => ?_)
  · have hl0 := hl12.resolve_left (fun q => h69 q.1)
    have hl1 := hl0.1
    have hl2 := hl0.2.1
    refine xx_aload_n (q := 85) rfl rfl rfl ?_
    refine xx_iconst (q := 86) rfl rfl (by decide) ?_
    refine xx_aload_n (q := 87) rfl rfl rfl ?_
    refine xx_getR (q := 90) rfl rfl rfl xS_479 (Nat.le_of_ble_eq_true rfl) rfl (hR.1 479 32 rfl) ?_
    refine xx_iload (q := 92) rfl rfl rfl ?_
    refine xx_iaz (q := 93) rfl rfl xS_501 (by omega) (by omega) (hV12.law 501 _ (by omega) (by omega)) ?_
    refine xx_aload_n (q := 94) rfl rfl rfl ?_
    refine xx_getR (q := 97) rfl rfl rfl xS_479 (Nat.le_of_ble_eq_true rfl) rfl (hR.1 479 33 rfl) ?_
    refine xx_iload (q := 99) rfl rfl rfl ?_
    refine xx_iaz (q := 100) rfl rfl xS_502 (by omega) (by omega) (hV12.law 502 _ (by omega) (by omega)) ?_
    obtain ⟨_, _, v13, hv13, hr13⟩ := hl12.resolve_left (fun q => h69 q.1)
    obtain ⟨D13, hx13, hg13⟩ := hr13 D12 hg12
    have hV13 := RV.scrE hV12 (E := D13) (fun x k q1 q2 => hg13 x k q2)
    refine xx_callV (q := 103) (As := [_, _, _]) (rest := [_]) rfl rfl rfl (Or.inl rfl) rfl rfl (Nat.le_of_ble_eq_true rfl) xS_479 (XCm hx13 rfl) rfl ?_
    refine xx_bipush (q := 105) rfl rfl (by decide) ?_
    refine xx_bipush (q := 107) rfl rfl (by decide) ?_
    refine xx_callV (q := 110) (As := [_, _, _]) (rest := []) rfl rfl rfl (Or.inl rfl) rfl rfl (Nat.le_of_ble_eq_true rfl) xS_479 (XCm (r_held v13) rfl) rfl ?_
    have hb14 := hld_b v13
    refine xx_iret rfl trivial ⟨congrArg (fun z => some (Sum.inl z)) (by unfold dlgF; rw [hv13]), _, rfl, ?_⟩
    exact hV13
  · refine xx_aload_n (q := 73) rfl rfl rfl ?_
    refine xx_getR (q := 76) rfl rfl rfl xS_479 (Nat.le_of_ble_eq_true rfl) rfl (hR.1 479 49 rfl) ?_
    refine xx_bipush (q := 78) rfl rfl (by decide) ?_
    refine xx_iaz (v := K 11 (lock * 4 + good).toNat) (q := 79) rfl rfl xS_508 (by omega) (by omega) ((hg12 508 14 (by omega)).trans (hV11.2 14)) ?_
    refine xx_iload_n (q := 80) rfl rfl rfl ?_
    refine xx_imulR (q := 81) rfl rfl (by omega) (by omega) ?_
    refine xx_goto (q := 103) rfl rfl ?_
    refine xx_bipush (q := 105) rfl rfl (by decide) ?_
    refine xx_bipush (q := 107) rfl rfl (by decide) ?_
    refine xx_callV (q := 110) (As := [_, _, _]) (rest := []) rfl rfl rfl (Or.inl rfl) rfl rfl (Nat.le_of_ble_eq_true rfl) xS_479 (XCm (r_held ((K 11 (lock * 4 + good).toNat) * amount)) rfl) rfl ?_
    have hb15 := hld_b ((K 11 (lock * 4 + good).toNat) * amount)
    refine xx_iret rfl trivial ⟨congrArg (fun z => some (Sum.inl z)) (by unfold dlgF; rw [(hl12.resolve_right (fun q => by omega)).2]), _, rfl, ?_⟩
    exact hV12
set_option maxHeartbeats 1000000 in
theorem r_isTold {n : Nat} {R : Nat → Nat → Option Nat} {t : Int} {K D0 D : KK} {b : Int} {B : Nat → Int} {U : UU} (hR : RF R) (hV : RV t K b B U D0 D) (hI : KI K) (boat wth : Int) (h0 : 0 ≤ boat) (h1 : boat < K 13 0) : XC 2 235 [.inr (some 479), .inl boat, .inl wth] (xS n, R, D) (some (.inl (bi (mateF K boat wth)))) (xS n, R, D) := by
  have hbB := ki_B hI
  refine XC_of (Nat.le_of_ble_eq_true rfl) (Nat.le_of_ble_eq_true rfl) (loc := [_, _, _]) rfl ?_
  refine xx_iload_n (q := 1) rfl rfl rfl ?_
  refine xx_iconst (q := 2) rfl rfl (by decide) ?_
  refine xx_icmp_eq (q := 39) (q2 := 5) rfl rfl rfl (fun h2 => ?_) (fun h2 => ?_)
  · refine xx_iconst (q := 40) rfl rfl (by decide) ?_
    refine xx_goto (q := 44) rfl rfl ?_
    exact xx_iret rfl (Or.inr rfl) ⟨congrArg (fun z => some (Sum.inl z)) (by grind [bi]), rfl⟩
  · refine xx_aload_n (q := 6) rfl rfl rfl ?_
    refine xx_iload_n (q := 7) rfl rfl rfl ?_
    refine xx_callV (q := 10) (As := [_]) (rest := []) rfl rfl rfl (Or.inl rfl) rfl rfl (Nat.le_of_ble_eq_true rfl) xS_479 (XCm (r_isBoat hR hV hI wth) rfl) rfl ?_
    refine xx_ifb_eq (q := 43) (q2 := 13) rfl rfl rfl (fun h10 => ?_) (fun h10 => ?_)
    · refine xx_iconst (q := 44) rfl rfl (by decide) ?_
      exact xx_iret rfl (Or.inl rfl) ⟨congrArg (fun z => some (Sum.inl z)) (by grind [bi]), rfl⟩
    · refine xx_iload_n (q := 14) rfl rfl rfl ?_
      refine xx_iload_n (q := 15) rfl rfl rfl ?_
      refine xx_icmp_eq (q := 43) (q2 := 18) rfl rfl rfl (fun h15 => ?_) (fun h15 => ?_)
      · refine xx_iconst (q := 44) rfl rfl (by decide) ?_
        exact xx_iret rfl (Or.inl rfl) ⟨congrArg (fun z => some (Sum.inl z)) (by grind [bi]), rfl⟩
      · refine xx_aload_n (q := 19) rfl rfl rfl ?_
        refine xx_getR (q := 22) rfl rfl rfl xS_479 (Nat.le_of_ble_eq_true rfl) rfl (hR.1 479 1 rfl) ?_
        refine xx_bipush (q := 24) rfl rfl (by decide) ?_
        refine xx_iload_n (q := 25) rfl rfl rfl ?_
        refine xx_iaddR (q := 26) rfl rfl (by omega) (by omega) ?_
        refine xx_iaz (v := K 14 (wth).toNat) (q := 27) rfl rfl xS_480 (by omega) (by omega) (rv_14 hV (p := wth) (by omega) (by omega)) ?_
        have hb1 : 0 ≤ K 14 (wth).toNat ∧ K 14 (wth).toNat ≤ 9 := by have h := ki_14 hI (wth).toNat; exact h
        refine xx_aload_n (q := 28) rfl rfl rfl ?_
        refine xx_getR (q := 31) rfl rfl rfl xS_479 (Nat.le_of_ble_eq_true rfl) rfl (hR.1 479 1 rfl) ?_
        refine xx_bipush (q := 33) rfl rfl (by decide) ?_
        refine xx_iload_n (q := 34) rfl rfl rfl ?_
        refine xx_iaddR (q := 35) rfl rfl (by omega) (by omega) ?_
        refine xx_iaz (v := K 14 (boat).toNat) (q := 36) rfl rfl xS_480 (by omega) (by omega) (rv_14 hV (p := boat) (by omega) (by omega)) ?_
        have hb2 : 0 ≤ K 14 (boat).toNat ∧ K 14 (boat).toNat ≤ 9 := by have h := ki_14 hI (boat).toNat; exact h
        refine xx_icmp_ne (q := 43) (q2 := 39) rfl rfl rfl (fun h36 => ?_) (fun h36 => ?_)
        · refine xx_iconst (q := 44) rfl rfl (by decide) ?_
          exact xx_iret rfl (Or.inl rfl) ⟨congrArg (fun z => some (Sum.inl z)) (by grind [bi]), rfl⟩
        · refine xx_iconst (q := 40) rfl rfl (by decide) ?_
          refine xx_goto (q := 44) rfl rfl ?_
          exact xx_iret rfl (Or.inr rfl) ⟨congrArg (fun z => some (Sum.inl z)) (by grind [bi]), rfl⟩
def thnF (K : KK) (lock up : Int) : Int := if up = 0 then mnF (K 1 (lock + 1).toNat + K 2 lock.toNat) 999 else K 1 lock.toNat - K 2 lock.toNat
set_option maxHeartbeats 1000000 in
theorem r_depthThen {n : Nat} {R : Nat → Nat → Option Nat} {t : Int} {K D0 D : KK} {b : Int} {B : Nat → Int} {U : UU} (hR : RF R) (hV : RV t K b B U D0 D) (hI : KI K) (lock up : Int) (h0 : 0 ≤ lock) (h1 : lock < 9) : XC 2 234 [.inr (some 479), .inl lock, .inl up] (xS n, R, D) (some (.inl (thnF K lock up))) (xS n, R, D) := by
  refine XC_of (Nat.le_of_ble_eq_true rfl) (Nat.le_of_ble_eq_true rfl) (loc := [_, _, _, _]) rfl ?_
  refine xx_iload_n (q := 1) rfl rfl rfl ?_
  refine xx_if_eq (q := 18) (q2 := 4) rfl rfl rfl (fun h1 => ?_) (fun h1 => ?_)
  · refine xx_aload_n (q := 19) rfl rfl rfl ?_
    refine xx_iload_n (q := 20) rfl rfl rfl ?_
    refine xx_iconst (q := 21) rfl rfl (by decide) ?_
    refine xx_iaddR (q := 22) rfl rfl (by omega) (by omega) ?_
    refine xx_callV (q := 25) (As := [_]) (rest := []) rfl rfl rfl (Or.inl rfl) rfl rfl (Nat.le_of_ble_eq_true rfl) xS_479 (XCm (r_depthOf hR hV hI (lock + 1) (by omega) (by omega)) rfl) rfl ?_
    have hb1 := ki_1 hI (lock + 1).toNat
    refine xx_aload_n (q := 26) rfl rfl rfl ?_
    refine xx_iload_n (q := 27) rfl rfl rfl ?_
    refine xx_callV (q := 30) (As := [_]) (rest := [_]) rfl rfl rfl (Or.inl rfl) rfl rfl (Nat.le_of_ble_eq_true rfl) xS_479 (XCm (r_fillOf hR hV hI lock (by omega) (by omega)) rfl) rfl ?_
    have hb2 := ki_2 hI (lock).toNat
    refine xx_iaddR (q := 31) rfl rfl (by omega) (by omega) ?_
    refine xx_istore_n (q := 32) (loc2 := [_, _, _, _]) rfl rfl (Nat.le_of_ble_eq_true rfl) rfl ?_
    refine xx_iload_n (q := 33) rfl rfl rfl ?_
    refine xx_sipush (q := 36) rfl rfl (by decide) ?_
    refine xx_icmp_le (q := 45) (q2 := 39) rfl rfl rfl (fun h36 => ?_) (fun h36 => ?_)
    · refine xx_iload_n (q := 46) rfl rfl rfl ?_
      exact xx_iret rfl trivial ⟨congrArg (fun z => some (Sum.inl z)) (by grind [thnF, mnF]), rfl⟩
    · refine xx_sipush (q := 42) rfl rfl (by decide) ?_
      refine xx_goto (q := 46) rfl rfl ?_
      exact xx_iret rfl trivial ⟨congrArg (fun z => some (Sum.inl z)) (by grind [thnF, mnF]), rfl⟩
  · refine xx_aload_n (q := 5) rfl rfl rfl ?_
    refine xx_iload_n (q := 6) rfl rfl rfl ?_
    refine xx_callV (q := 9) (As := [_]) (rest := []) rfl rfl rfl (Or.inl rfl) rfl rfl (Nat.le_of_ble_eq_true rfl) xS_479 (XCm (r_depthOf hR hV hI lock (by omega) (by omega)) rfl) rfl ?_
    have hb3 := ki_1 hI (lock).toNat
    refine xx_aload_n (q := 10) rfl rfl rfl ?_
    refine xx_iload_n (q := 11) rfl rfl rfl ?_
    refine xx_callV (q := 14) (As := [_]) (rest := [_]) rfl rfl rfl (Or.inl rfl) rfl rfl (Nat.le_of_ble_eq_true rfl) xS_479 (XCm (r_fillOf hR hV hI lock (by omega) (by omega)) rfl) rfl ?_
    have hb4 := ki_2 hI (lock).toNat
    refine xx_isubR (q := 15) rfl rfl (by omega) (by omega) ?_
    refine xx_goto (q := 31) rfl rfl ?_
    refine xx_istore_n (q := 32) (loc2 := [_, _, _, _]) rfl rfl (Nat.le_of_ble_eq_true rfl) rfl ?_
    refine xx_iload_n (q := 33) rfl rfl rfl ?_
    refine xx_sipush (q := 36) rfl rfl (by decide) ?_
    refine xx_icmp_le (q := 45) (q2 := 39) rfl rfl rfl (fun h36 => ?_) (fun h36 => ?_)
    · refine xx_iload_n (q := 46) rfl rfl rfl ?_
      exact xx_iret rfl trivial ⟨congrArg (fun z => some (Sum.inl z)) (by grind [thnF, mnF]), rfl⟩
    · refine xx_sipush (q := 42) rfl rfl (by decide) ?_
      refine xx_goto (q := 46) rfl rfl ?_
      exact xx_iret rfl trivial ⟨congrArg (fun z => some (Sum.inl z)) (by grind [thnF, mnF]), rfl⟩
theorem mx_lt {a b c : Int} : c < mxF a b ↔ (c < a ∨ c < b) := by
  have := mxF_sp a b
  omega
set_option maxHeartbeats 10000000 in
theorem r_refusal {n : Nat} {R : Nat → Nat → Option Nat} {t : Int} {K D0 D : KK} {b : Int} {B : Nat → Int} {U : UU} (hR : RF R) (hV : RV t K b B U D0 D) (hI : KI K) {G : LwF} (hG : RLG G n R D0) (boat up wth : Int) (h0 : 0 ≤ boat) (h1 : boat < K 13 0) : ∃ D', XC 7 236 [.inr (some 479), .inl boat, .inl up, .inl wth] (xS n, R, D) (some (.inl (refF K G boat up wth))) (xS n, R, D') ∧ RV t K b B U D0 D' := by
  have hbB := ki_B hI
  have hbL := ki_L hI
  refine XE_of (Nat.le_of_ble_eq_true rfl) (Nat.le_of_ble_eq_true rfl) (loc := [_, _, _, _, _, _, _, _]) rfl ?_
  refine xx_aload_n (q := 1) rfl rfl rfl ?_
  refine xx_aload_n (q := 2) rfl rfl rfl ?_
  refine xx_getR (q := 5) rfl rfl rfl xS_479 (Nat.le_of_ble_eq_true rfl) rfl (hR.1 479 1 rfl) ?_
  refine xx_bipush (q := 7) rfl rfl (by decide) ?_
  refine xx_iload_n (q := 8) rfl rfl rfl ?_
  refine xx_iaddR (q := 9) rfl rfl (by omega) (by omega) ?_
  refine xx_iaz (v := K 14 (boat).toNat) (q := 10) rfl rfl xS_480 (by omega) (by omega) (rv_14 hV (p := boat) (by omega) (by omega)) ?_
  have hb1 : 0 ≤ K 14 (boat).toNat ∧ K 14 (boat).toNat ≤ 9 := by have h := ki_14 hI (boat).toNat; exact h
  refine xx_iload_n (q := 11) rfl rfl rfl ?_
  refine xx_callV (q := 14) (As := [_, _]) (rest := []) rfl rfl rfl (Or.inl rfl) rfl rfl (Nat.le_of_ble_eq_true rfl) xS_479 (XCm (r_lockFrom hR hV hI (K 14 (boat).toNat) up (by omega) (by omega)) rfl) rfl ?_
  have hb2 := lckF_b K (K 14 (boat).toNat) up
  refine xx_istore (q := 16) (loc2 := [_, _, _, _, _, _, _, _]) rfl rfl (Nat.le_of_ble_eq_true rfl) rfl ?_
  refine xx_iload (q := 18) rfl rfl rfl ?_
  refine xx_iconst (q := 19) rfl rfl (by decide) ?_
  refine xx_icmp_eq (q := 31) (q2 := 22) rfl rfl rfl (fun h19 => ?_) (fun h19 => ?_)
  · refine xx_iconst (q := 32) rfl rfl (by decide) ?_
    refine xx_iret rfl trivial ⟨congrArg (fun z => some (Sum.inl z)) (by simp only [refF]; grind [thnF, mxF]), _, rfl, ?_⟩
    exact hV
  · refine xx_aload_n (q := 23) rfl rfl rfl ?_
    refine xx_iload_n (q := 24) rfl rfl rfl ?_
    refine xx_iload_n (q := 25) rfl rfl rfl ?_
    refine xx_callV (q := 28) (As := [_, _]) (rest := []) rfl rfl rfl (Or.inl rfl) rfl rfl (Nat.le_of_ble_eq_true rfl) xS_479 (XCm (r_isTold hR hV hI boat wth (by omega) (by omega)) rfl) rfl ?_
    refine xx_ifb_ne (q := 33) (q2 := 31) rfl rfl rfl (fun h28 => ?_) (fun h28 => ?_)
    · have hmt : wth = -1 ∨ (0 ≤ wth ∧ wth < K 13 0) := by grind
      refine xx_iload_n (q := 34) rfl rfl rfl ?_
      refine xx_iconst (q := 35) rfl rfl (by decide) ?_
      refine xx_icmp_eq (q := 42) (q2 := 38) rfl rfl rfl (fun h35 => ?_) (fun h35 => ?_)
      · refine xx_iconst (q := 43) rfl rfl (by decide) ?_
        refine xx_istore (q := 45) (loc2 := [_, _, _, _, _, _, _, _]) rfl rfl (Nat.le_of_ble_eq_true rfl) rfl ?_
        refine xx_aload_n (q := 46) rfl rfl rfl ?_
        refine xx_getR (q := 49) rfl rfl rfl xS_479 (Nat.le_of_ble_eq_true rfl) rfl (hR.1 479 14 rfl) ?_
        refine xx_iload_n (q := 50) rfl rfl rfl ?_
        refine xx_iaz (v := K 16 (boat).toNat) (q := 51) rfl rfl xS_489 (by omega) (by omega) (rv_489 hV (p := boat) (by omega) (by omega)) ?_
        have hb3 : 0 ≤ K 16 (boat).toNat ∧ K 16 (boat).toNat ≤ 9 := by have h := ki_16 hI (boat).toNat; exact h
        refine xx_iload (q := 53) rfl rfl rfl ?_
        refine xx_if_eq (q := 65) (q2 := 56) rfl rfl rfl (fun _ => ?_) (fun h53 => (by exfalso; omega))
        refine xx_iconst (q := 66) rfl rfl (by decide) ?_
        refine xx_iaddR (q := 67) rfl rfl (by omega) (by omega) ?_
        refine xx_istore (q := 69) (loc2 := [_, _, _, _, _, _, _, _]) rfl rfl (Nat.le_of_ble_eq_true rfl) rfl ?_
        refine xx_iload (q := 71) rfl rfl rfl ?_
        refine xx_aload_n (q := 72) rfl rfl rfl ?_
        refine xx_iload (q := 74) rfl rfl rfl ?_
        refine xx_callV (q := 77) (As := [_]) (rest := [_]) rfl rfl rfl (Or.inl rfl) rfl rfl (Nat.le_of_ble_eq_true rfl) xS_479 (XCm (r_wideOf hR hV hI (lckF K (K 14 (boat).toNat) up) (by omega) (by omega)) rfl) rfl ?_
        have hb4 := ki_4 hI (lckF K (K 14 (boat).toNat) up).toNat
        refine xx_icmp_le (q := 83) (q2 := 80) rfl rfl rfl (fun h77 => ?_) (fun h77 => ?_)
        · refine xx_aload_n (q := 84) rfl rfl rfl ?_
          refine xx_iload (q := 86) rfl rfl rfl ?_
          refine xx_iload_n (q := 87) rfl rfl rfl ?_
          refine xx_iload_n (q := 88) rfl rfl rfl ?_
          refine xx_iload (q := 90) rfl rfl rfl ?_
          obtain ⟨D5, hx5, hV5⟩ := r_doesLet (n := n) hR hV hI hG (lckF K (K 14 (boat).toNat) up) boat up 0 (by omega) (by omega) (by omega) (by omega)
          refine xx_callV (q := 93) (As := [_, _, _, _]) (rest := []) rfl rfl rfl (Or.inl rfl) rfl rfl (Nat.le_of_ble_eq_true rfl) xS_479 (XCm hx5 rfl) rfl ?_
          refine xx_ifb_eq (q := 113) (q2 := 96) rfl rfl rfl (fun h93 => ?_) (fun h93 => ?_)
          · refine xx_bipush (q := 115) rfl rfl (by decide) ?_
            refine xx_iret rfl trivial ⟨congrArg (fun z => some (Sum.inl z)) (by simp only [refF]; grind [thnF, mxF]), _, rfl, ?_⟩
            exact hV5
          · refine xx_iload (q := 98) rfl rfl rfl ?_
            refine xx_if_eq (q := 116) (q2 := 101) rfl rfl rfl (fun _ => ?_) (fun h98 => (by exfalso; omega))
            refine xx_aload_n (q := 117) rfl rfl rfl ?_
            refine xx_iload (q := 119) rfl rfl rfl ?_
            refine xx_callV (q := 122) (As := [_]) (rest := []) rfl rfl rfl (Or.inl rfl) rfl rfl (Nat.le_of_ble_eq_true rfl) xS_479 (XCm (r_depthOf hR hV5 hI (lckF K (K 14 (boat).toNat) up) (by omega) (by omega)) rfl) rfl ?_
            have hb6 := ki_1 hI (lckF K (K 14 (boat).toNat) up).toNat
            refine xx_aload_n (q := 123) rfl rfl rfl ?_
            refine xx_iload (q := 125) rfl rfl rfl ?_
            refine xx_callV (q := 128) (As := [_]) (rest := [_]) rfl rfl rfl (Or.inl rfl) rfl rfl (Nat.le_of_ble_eq_true rfl) xS_479 (XCm (r_fillOf hR hV5 hI (lckF K (K 14 (boat).toNat) up) (by omega) (by omega)) rfl) rfl ?_
            have hb7 := ki_2 hI (lckF K (K 14 (boat).toNat) up).toNat
            refine xx_icmp_ge (q := 134) (q2 := 131) rfl rfl rfl (fun h128 => ?_) (fun h128 => ?_)
            · refine xx_aload_n (q := 135) rfl rfl rfl ?_
              refine xx_iload (q := 137) rfl rfl rfl ?_
              refine xx_iload_n (q := 138) rfl rfl rfl ?_
              refine xx_callV (q := 141) (As := [_, _]) (rest := []) rfl rfl rfl (Or.inl rfl) rfl rfl (Nat.le_of_ble_eq_true rfl) xS_479 (XCm (r_depthThen hR hV5 hI (lckF K (K 14 (boat).toNat) up) up (by omega) (by omega)) rfl) rfl ?_
              refine xx_istore (q := 143) (loc2 := [_, _, _, _, _, _, _, _]) rfl rfl (Nat.le_of_ble_eq_true rfl) rfl ?_
              refine xx_aload_n (q := 144) rfl rfl rfl ?_
              refine xx_getR (q := 147) rfl rfl rfl xS_479 (Nat.le_of_ble_eq_true rfl) rfl (hR.1 479 13 rfl) ?_
              refine xx_iload_n (q := 148) rfl rfl rfl ?_
              refine xx_iaz (v := K 15 (boat).toNat) (q := 149) rfl rfl xS_488 (by omega) (by omega) (rv_488 hV5 (p := boat) (by omega) (by omega)) ?_
              have hb8 : 0 ≤ K 15 (boat).toNat ∧ K 15 (boat).toNat ≤ 99 := by have h := ki_15 hI (boat).toNat; exact h
              refine xx_iload (q := 151) rfl rfl rfl ?_
              refine xx_icmp_gt (q := 170) (q2 := 154) rfl rfl rfl (fun h151 => ?_) (fun h151 => ?_)
              · refine xx_bipush (q := 172) rfl rfl (by decide) ?_
                refine xx_goto (q := 176) rfl rfl ?_
                refine xx_iret rfl trivial ⟨congrArg (fun z => some (Sum.inl z)) (by simp only [refF]; grind [thnF, mxF]), _, rfl, ?_⟩
                exact hV5
              · refine xx_iload (q := 156) rfl rfl rfl ?_
                refine xx_if_eq (q := 175) (q2 := 159) rfl rfl rfl (fun _ => ?_) (fun h156 => (by exfalso; omega))
                refine xx_iconst (q := 176) rfl rfl (by decide) ?_
                refine xx_iret rfl trivial ⟨congrArg (fun z => some (Sum.inl z)) (by simp only [refF]; grind [thnF, mxF]), _, rfl, ?_⟩
                exact hV5
            · refine xx_bipush (q := 133) rfl rfl (by decide) ?_
              refine xx_iret rfl trivial ⟨congrArg (fun z => some (Sum.inl z)) (by simp only [refF]; grind [thnF, mxF]), _, rfl, ?_⟩
              exact hV5
        · refine xx_bipush (q := 82) rfl rfl (by decide) ?_
          refine xx_iret rfl trivial ⟨congrArg (fun z => some (Sum.inl z)) (by simp only [refF]; grind [thnF, mxF]), _, rfl, ?_⟩
          exact hV
      · refine xx_iconst (q := 39) rfl rfl (by decide) ?_
        refine xx_goto (q := 43) rfl rfl ?_
        refine xx_istore (q := 45) (loc2 := [_, _, _, _, _, _, _, _]) rfl rfl (Nat.le_of_ble_eq_true rfl) rfl ?_
        refine xx_aload_n (q := 46) rfl rfl rfl ?_
        refine xx_getR (q := 49) rfl rfl rfl xS_479 (Nat.le_of_ble_eq_true rfl) rfl (hR.1 479 14 rfl) ?_
        refine xx_iload_n (q := 50) rfl rfl rfl ?_
        refine xx_iaz (v := K 16 (boat).toNat) (q := 51) rfl rfl xS_489 (by omega) (by omega) (rv_489 hV (p := boat) (by omega) (by omega)) ?_
        have hb9 : 0 ≤ K 16 (boat).toNat ∧ K 16 (boat).toNat ≤ 9 := by have h := ki_16 hI (boat).toNat; exact h
        refine xx_iload (q := 53) rfl rfl rfl ?_
        refine xx_if_eq (q := 65) (q2 := 56) rfl rfl rfl (fun h53 => (by exfalso; omega)) (fun _ => ?_)
        refine xx_aload_n (q := 57) rfl rfl rfl ?_
        refine xx_getR (q := 60) rfl rfl rfl xS_479 (Nat.le_of_ble_eq_true rfl) rfl (hR.1 479 14 rfl) ?_
        refine xx_iload_n (q := 61) rfl rfl rfl ?_
        refine xx_iaz (v := K 16 (wth).toNat) (q := 62) rfl rfl xS_489 (by omega) (by omega) (rv_489 hV (p := wth) (by omega) (by omega)) ?_
        have hb10 : 0 ≤ K 16 (wth).toNat ∧ K 16 (wth).toNat ≤ 9 := by have h := ki_16 hI (wth).toNat; exact h
        refine xx_goto (q := 66) rfl rfl ?_
        refine xx_iaddR (q := 67) rfl rfl (by omega) (by omega) ?_
        refine xx_istore (q := 69) (loc2 := [_, _, _, _, _, _, _, _]) rfl rfl (Nat.le_of_ble_eq_true rfl) rfl ?_
        refine xx_iload (q := 71) rfl rfl rfl ?_
        refine xx_aload_n (q := 72) rfl rfl rfl ?_
        refine xx_iload (q := 74) rfl rfl rfl ?_
        refine xx_callV (q := 77) (As := [_]) (rest := [_]) rfl rfl rfl (Or.inl rfl) rfl rfl (Nat.le_of_ble_eq_true rfl) xS_479 (XCm (r_wideOf hR hV hI (lckF K (K 14 (boat).toNat) up) (by omega) (by omega)) rfl) rfl ?_
        have hb11 := ki_4 hI (lckF K (K 14 (boat).toNat) up).toNat
        refine xx_icmp_le (q := 83) (q2 := 80) rfl rfl rfl (fun h77 => ?_) (fun h77 => ?_)
        · refine xx_aload_n (q := 84) rfl rfl rfl ?_
          refine xx_iload (q := 86) rfl rfl rfl ?_
          refine xx_iload_n (q := 87) rfl rfl rfl ?_
          refine xx_iload_n (q := 88) rfl rfl rfl ?_
          refine xx_iload (q := 90) rfl rfl rfl ?_
          obtain ⟨D12, hx12, hV12⟩ := r_doesLet (n := n) hR hV hI hG (lckF K (K 14 (boat).toNat) up) boat up 1 (by omega) (by omega) (by omega) (by omega)
          refine xx_callV (q := 93) (As := [_, _, _, _]) (rest := []) rfl rfl rfl (Or.inl rfl) rfl rfl (Nat.le_of_ble_eq_true rfl) xS_479 (XCm hx12 rfl) rfl ?_
          refine xx_ifb_eq (q := 113) (q2 := 96) rfl rfl rfl (fun h93 => ?_) (fun h93 => ?_)
          · refine xx_bipush (q := 115) rfl rfl (by decide) ?_
            refine xx_iret rfl trivial ⟨congrArg (fun z => some (Sum.inl z)) (by simp only [refF]; grind [thnF, mxF]), _, rfl, ?_⟩
            exact hV12
          · refine xx_iload (q := 98) rfl rfl rfl ?_
            refine xx_if_eq (q := 116) (q2 := 101) rfl rfl rfl (fun h98 => (by exfalso; omega)) (fun _ => ?_)
            refine xx_aload_n (q := 102) rfl rfl rfl ?_
            refine xx_iload (q := 104) rfl rfl rfl ?_
            refine xx_iload_n (q := 105) rfl rfl rfl ?_
            refine xx_iload_n (q := 106) rfl rfl rfl ?_
            refine xx_iconst (q := 107) rfl rfl (by decide) ?_
            obtain ⟨D13, hx13, hV13⟩ := r_doesLet (n := n) hR hV12 hI hG (lckF K (K 14 (boat).toNat) up) wth up 1 (by omega) (by omega) (by omega) (by omega)
            refine xx_callV (q := 110) (As := [_, _, _, _]) (rest := []) rfl rfl rfl (Or.inl rfl) rfl rfl (Nat.le_of_ble_eq_true rfl) xS_479 (XCm hx13 rfl) rfl ?_
            refine xx_ifb_ne (q := 116) (q2 := 113) rfl rfl rfl (fun h110 => ?_) (fun h110 => ?_)
            · refine xx_aload_n (q := 117) rfl rfl rfl ?_
              refine xx_iload (q := 119) rfl rfl rfl ?_
              refine xx_callV (q := 122) (As := [_]) (rest := []) rfl rfl rfl (Or.inl rfl) rfl rfl (Nat.le_of_ble_eq_true rfl) xS_479 (XCm (r_depthOf hR hV13 hI (lckF K (K 14 (boat).toNat) up) (by omega) (by omega)) rfl) rfl ?_
              have hb14 := ki_1 hI (lckF K (K 14 (boat).toNat) up).toNat
              refine xx_aload_n (q := 123) rfl rfl rfl ?_
              refine xx_iload (q := 125) rfl rfl rfl ?_
              refine xx_callV (q := 128) (As := [_]) (rest := [_]) rfl rfl rfl (Or.inl rfl) rfl rfl (Nat.le_of_ble_eq_true rfl) xS_479 (XCm (r_fillOf hR hV13 hI (lckF K (K 14 (boat).toNat) up) (by omega) (by omega)) rfl) rfl ?_
              have hb15 := ki_2 hI (lckF K (K 14 (boat).toNat) up).toNat
              refine xx_icmp_ge (q := 134) (q2 := 131) rfl rfl rfl (fun h128 => ?_) (fun h128 => ?_)
              · refine xx_aload_n (q := 135) rfl rfl rfl ?_
                refine xx_iload (q := 137) rfl rfl rfl ?_
                refine xx_iload_n (q := 138) rfl rfl rfl ?_
                refine xx_callV (q := 141) (As := [_, _]) (rest := []) rfl rfl rfl (Or.inl rfl) rfl rfl (Nat.le_of_ble_eq_true rfl) xS_479 (XCm (r_depthThen hR hV13 hI (lckF K (K 14 (boat).toNat) up) up (by omega) (by omega)) rfl) rfl ?_
                refine xx_istore (q := 143) (loc2 := [_, _, _, _, _, _, _, _]) rfl rfl (Nat.le_of_ble_eq_true rfl) rfl ?_
                refine xx_aload_n (q := 144) rfl rfl rfl ?_
                refine xx_getR (q := 147) rfl rfl rfl xS_479 (Nat.le_of_ble_eq_true rfl) rfl (hR.1 479 13 rfl) ?_
                refine xx_iload_n (q := 148) rfl rfl rfl ?_
                refine xx_iaz (v := K 15 (boat).toNat) (q := 149) rfl rfl xS_488 (by omega) (by omega) (rv_488 hV13 (p := boat) (by omega) (by omega)) ?_
                have hb16 : 0 ≤ K 15 (boat).toNat ∧ K 15 (boat).toNat ≤ 99 := by have h := ki_15 hI (boat).toNat; exact h
                refine xx_iload (q := 151) rfl rfl rfl ?_
                refine xx_icmp_gt (q := 170) (q2 := 154) rfl rfl rfl (fun h151 => ?_) (fun h151 => ?_)
                · refine xx_bipush (q := 172) rfl rfl (by decide) ?_
                  refine xx_goto (q := 176) rfl rfl ?_
                  refine xx_iret rfl trivial ⟨congrArg (fun z => some (Sum.inl z)) (by simp only [refF]; grind [thnF, mxF]), _, rfl, ?_⟩
                  exact hV13
                · refine xx_iload (q := 156) rfl rfl rfl ?_
                  refine xx_if_eq (q := 175) (q2 := 159) rfl rfl rfl (fun h156 => (by exfalso; omega)) (fun _ => ?_)
                  refine xx_aload_n (q := 160) rfl rfl rfl ?_
                  refine xx_getR (q := 163) rfl rfl rfl xS_479 (Nat.le_of_ble_eq_true rfl) rfl (hR.1 479 13 rfl) ?_
                  refine xx_iload_n (q := 164) rfl rfl rfl ?_
                  refine xx_iaz (v := K 15 (wth).toNat) (q := 165) rfl rfl xS_488 (by omega) (by omega) (rv_488 hV13 (p := wth) (by omega) (by omega)) ?_
                  have hb17 : 0 ≤ K 15 (wth).toNat ∧ K 15 (wth).toNat ≤ 99 := by have h := ki_15 hI (wth).toNat; exact h
                  refine xx_iload (q := 167) rfl rfl rfl ?_
                  refine xx_icmp_le (q := 175) (q2 := 170) rfl rfl rfl (fun h167 => ?_) (fun h167 => ?_)
                  · refine xx_iconst (q := 176) rfl rfl (by decide) ?_
                    refine xx_iret rfl trivial ⟨congrArg (fun z => some (Sum.inl z)) (by simp only [refF]; grind [thnF, mxF]), _, rfl, ?_⟩
                    exact hV13
                  · refine xx_bipush (q := 172) rfl rfl (by decide) ?_
                    refine xx_goto (q := 176) rfl rfl ?_
                    refine xx_iret rfl trivial ⟨congrArg (fun z => some (Sum.inl z)) (by simp only [refF]; grind [thnF, mxF]), _, rfl, ?_⟩
                    exact hV13
              · refine xx_bipush (q := 133) rfl rfl (by decide) ?_
                refine xx_iret rfl trivial ⟨congrArg (fun z => some (Sum.inl z)) (by simp only [refF]; grind [thnF, mxF]), _, rfl, ?_⟩
                exact hV13
            · refine xx_bipush (q := 115) rfl rfl (by decide) ?_
              refine xx_iret rfl trivial ⟨congrArg (fun z => some (Sum.inl z)) (by simp only [refF]; grind [thnF, mxF]), _, rfl, ?_⟩
              exact hV13
        · refine xx_bipush (q := 82) rfl rfl (by decide) ?_
          refine xx_iret rfl trivial ⟨congrArg (fun z => some (Sum.inl z)) (by simp only [refF]; grind [thnF, mxF]), _, rfl, ?_⟩
          exact hV
    · refine xx_iconst (q := 32) rfl rfl (by decide) ?_
      refine xx_iret rfl trivial ⟨congrArg (fun z => some (Sum.inl z)) (by simp only [refF]; grind [thnF, mxF]), _, rfl, ?_⟩
      exact hV
def rpb (t : Int) (K : KK) (G : LwF) (boat up wth b : Int) : Int := if refF K G boat up wth = 0 then tb t b else b
def rpB (t : Int) (K : KK) (G : LwF) (boat up wth b : Int) (B : Nat → Int) : Nat → Int := if refF K G boat up wth = 0 then tB t K b B 0 (lckF K (K 14 boat.toNat) up) boat (K 2 (lckF K (K 14 boat.toNat) up).toNat) else B
def rpU (t : Int) (K : KK) (G : LwF) (boat up wth b : Int) (U : UU) : UU := if refF K G boat up wth = 0 then tU t K b U else U
set_option maxHeartbeats 1000000 in
theorem r_passes {n : Nat} {R : Nat → Nat → Option Nat} {t : Int} {K D0 D : KK} {b : Int} {B : Nat → Int} {U : UU} (hR : RF R) (hV : RV t K b B U D0 D) (hI : KI K) {G : LwF} (hG : RLG G n R D0) (boat up wth : Int) (h0 : 0 ≤ boat) (h1 : boat < K 13 0) : ∃ D', XC 8 237 [.inr (some 479), .inl boat, .inl up, .inl wth] (xS n, R, D) (some (.inl (pasR K G boat up wth))) (xS n, R, D') ∧ RV t (pasT K G boat up wth) (rpb t K G boat up wth b) (rpB t K G boat up wth b B) (rpU t K G boat up wth b U) D0 D' := by
  have hbB := ki_B hI
  have hbL := ki_L hI
  refine XE_of (Nat.le_of_ble_eq_true rfl) (Nat.le_of_ble_eq_true rfl) (loc := [_, _, _, _, _, _, _]) rfl ?_
  refine xx_aload_n (q := 1) rfl rfl rfl ?_
  refine xx_iload_n (q := 2) rfl rfl rfl ?_
  refine xx_iload_n (q := 3) rfl rfl rfl ?_
  refine xx_iload_n (q := 4) rfl rfl rfl ?_
  obtain ⟨D1, hx1, hV1⟩ := r_refusal (n := n) hR hV hI hG boat up wth (by omega) (by omega)
  refine xx_callV (q := 7) (As := [_, _, _]) (rest := []) rfl rfl rfl (Or.inl rfl) rfl rfl (Nat.le_of_ble_eq_true rfl) xS_479 (XCm hx1 rfl) rfl ?_
  refine xx_istore (q := 9) (loc2 := [_, _, _, _, _, _, _]) rfl rfl (Nat.le_of_ble_eq_true rfl) rfl ?_
  refine xx_iload (q := 11) rfl rfl rfl ?_
  refine xx_if_eq (q := 17) (q2 := 14) rfl rfl rfl (fun h11 => ?_) (fun h11 => ?_)
  · have hr0 := refF_0 h11
    refine xx_aload_n (q := 18) rfl rfl rfl ?_
    obtain ⟨D2, hx2, hV2⟩ := r_keepsAhead (n := n) hR hV1 hI
    refine xx_callV (q := 21) (As := []) (rest := []) rfl rfl rfl (Or.inl rfl) rfl rfl (Nat.le_of_ble_eq_true rfl) xS_479 (XCm hx2 rfl) rfl ?_
    refine xx_aload_n (q := 22) rfl rfl rfl ?_
    refine xx_aload_n (q := 23) rfl rfl rfl ?_
    refine xx_getR (q := 26) rfl rfl rfl xS_479 (Nat.le_of_ble_eq_true rfl) rfl (hR.1 479 1 rfl) ?_
    refine xx_bipush (q := 28) rfl rfl (by decide) ?_
    refine xx_iload_n (q := 29) rfl rfl rfl ?_
    refine xx_iaddR (q := 30) rfl rfl (by omega) (by omega) ?_
    refine xx_iaz (v := K 14 (boat).toNat) (q := 31) rfl rfl xS_480 (by omega) (by omega) (rv_14 hV2 (p := boat) (by omega) (by omega)) ?_
    have hb3 : 0 ≤ K 14 (boat).toNat ∧ K 14 (boat).toNat ≤ 9 := by have h := ki_14 hI (boat).toNat; exact h
    refine xx_iload_n (q := 32) rfl rfl rfl ?_
    refine xx_callV (q := 35) (As := [_, _]) (rest := []) rfl rfl rfl (Or.inl rfl) rfl rfl (Nat.le_of_ble_eq_true rfl) xS_479 (XCm (r_lockFrom hR hV2 hI (K 14 (boat).toNat) up (by omega) (by omega)) rfl) rfl ?_
    have hb4 := lckF_b K (K 14 (boat).toNat) up
    refine xx_istore (q := 37) (loc2 := [_, _, _, _, _, _, _]) rfl rfl (Nat.le_of_ble_eq_true rfl) rfl ?_
    refine xx_aload_n (q := 38) rfl rfl rfl ?_
    refine xx_iload (q := 40) rfl rfl rfl ?_
    refine xx_aload_n (q := 41) rfl rfl rfl ?_
    refine xx_iload (q := 43) rfl rfl rfl ?_
    refine xx_callV (q := 46) (As := [_]) (rest := [_, _]) rfl rfl rfl (Or.inl rfl) rfl rfl (Nat.le_of_ble_eq_true rfl) xS_479 (XCm (r_fillOf hR hV2 hI (lckF K (K 14 (boat).toNat) up) (by omega) (by omega)) rfl) rfl ?_
    have hb5 := ki_2 hI (lckF K (K 14 (boat).toNat) up).toNat
    obtain ⟨D6, hx6, hV6⟩ := r_flows (n := n) hR hV2 hI (lckF K (K 14 (boat).toNat) up) (K 2 (lckF K (K 14 (boat).toNat) up).toNat) (by omega) (by omega) (by omega) (by omega) (by omega)
    have hI6 : KI (flowF K (lckF K (K 14 (boat).toNat) up) (K 2 (lckF K (K 14 (boat).toNat) up).toNat)) := flowF_I hI (by omega) (by omega)
    refine xx_callV (q := 49) (As := [_, _]) (rest := []) rfl rfl rfl (Or.inl rfl) rfl rfl (Nat.le_of_ble_eq_true rfl) xS_479 (XCm hx6 rfl) rfl ?_
    refine xx_iload_n (q := 50) rfl rfl rfl ?_
    refine xx_if_eq (q := 58) (q2 := 53) rfl rfl rfl (fun h50 => ?_) (fun h50 => ?_)
    · refine xx_iload (q := 60) rfl rfl rfl ?_
      refine xx_iconst (q := 61) rfl rfl (by decide) ?_
      refine xx_iaddR (q := 62) rfl rfl (by omega) (by omega) ?_
      refine xx_istore (q := 64) (loc2 := [_, _, _, _, _, _, _]) rfl rfl (Nat.le_of_ble_eq_true rfl) rfl ?_
      refine xx_aload_n (q := 65) rfl rfl rfl ?_
      refine xx_getR (q := 68) rfl rfl rfl xS_479 (Nat.le_of_ble_eq_true rfl) rfl (hR.1 479 1 rfl) ?_
      refine xx_bipush (q := 70) rfl rfl (by decide) ?_
      refine xx_iload_n (q := 71) rfl rfl rfl ?_
      refine xx_iaddR (q := 72) rfl rfl (by omega) (by omega) ?_
      refine xx_iload (q := 74) rfl rfl rfl ?_
      have hL8 : (flowF K (lckF K (K 14 (boat).toNat) up) (K 2 (lckF K (K 14 (boat).toNat) up).toNat)) 0 0 = K 0 0 := flowF_k (by decide) (by omega)
      have hL9 : (flowF K (lckF K (K 14 (boat).toNat) up) (K 2 (lckF K (K 14 (boat).toNat) up).toNat)) 13 0 = K 13 0 := flowF_k (by decide) (by omega)
      refine xr_isz (RV t (xui (flowF K (lckF K (K 14 (boat).toNat) up) (K 2 (lckF K (K 14 (boat).toNat) up).toNat)) 14 (boat).toNat ((lckF K (K 14 (boat).toNat) up) + 1)) b B (tU t K b U) D0) (q := 75) rfl rfl xS_480 (by omega) (by omega) (rs_14 (v := (lckF K (K 14 (boat).toNat) up) + 1) (p := boat) hV6 hI6 (by omega) (by omega) (by rfl)) (fun D10 hV10 => ?_)
      have hs10 : (xui (flowF K (lckF K (K 14 (boat).toNat) up) (K 2 (lckF K (K 14 (boat).toNat) up).toNat)) 14 (boat).toNat ((lckF K (K 14 (boat).toNat) up) + 1)) 14 (boat).toNat = ((lckF K (K 14 (boat).toNat) up) + 1) := xui_s
      have hI10 : KI (xui (flowF K (lckF K (K 14 (boat).toNat) up) (K 2 (lckF K (K 14 (boat).toNat) up).toNat)) 14 (boat).toNat ((lckF K (K 14 (boat).toNat) up) + 1)) := KI_up hI6 (show (0 : Int) ≤ _ by omega) (show _ ≤ (9 : Int) by omega)
      refine xx_iload_n (q := 76) rfl rfl rfl ?_
      refine xx_iconst (q := 77) rfl rfl (by decide) ?_
      refine xx_icmp_eq (q := 91) (q2 := 80) rfl rfl rfl (fun h77 => ?_) (fun h77 => ?_)
      · refine xx_aload_n (q := 92) rfl rfl rfl ?_
        refine xx_getR (q := 95) rfl rfl rfl xS_479 (Nat.le_of_ble_eq_true rfl) rfl (hR.1 479 1 rfl) ?_
        refine xx_bipush (q := 97) rfl rfl (by decide) ?_
        refine xx_iload (q := 99) rfl rfl rfl ?_
        refine xx_iaddR (q := 100) rfl rfl (by omega) (by omega) ?_
        refine xx_aload_n (q := 101) rfl rfl rfl ?_
        refine xx_getR (q := 104) rfl rfl rfl xS_479 (Nat.le_of_ble_eq_true rfl) rfl (hR.1 479 1 rfl) ?_
        refine xx_bipush (q := 106) rfl rfl (by decide) ?_
        refine xx_iload (q := 108) rfl rfl rfl ?_
        refine xx_iaddR (q := 109) rfl rfl (by omega) (by omega) ?_
        have hL11 : (xui (flowF K (lckF K (K 14 (boat).toNat) up) (K 2 (lckF K (K 14 (boat).toNat) up).toNat)) 14 (boat).toNat ((lckF K (K 14 (boat).toNat) up) + 1)) 0 0 = K 0 0 := flowF_k (by decide) (by omega)
        have hL12 : (xui (flowF K (lckF K (K 14 (boat).toNat) up) (K 2 (lckF K (K 14 (boat).toNat) up).toNat)) 14 (boat).toNat ((lckF K (K 14 (boat).toNat) up) + 1)) 13 0 = K 13 0 := flowF_k (by decide) (by omega)
        refine xx_iaz (v := K 5 (lckF K (K 14 (boat).toNat) up).toNat) (q := 110) rfl rfl xS_480 (by omega) (by omega) ((rv_5 hV10 (p := lckF K (K 14 (boat).toNat) up) (by omega) (by omega)).trans (flowF_k (by decide) (by omega))) ?_
        have hb13 : -2147483648 ≤ K 5 (lckF K (K 14 (boat).toNat) up).toNat ∧ K 5 (lckF K (K 14 (boat).toNat) up).toNat ≤ 2147483647 := by rw [← show (xui (flowF K (lckF K (K 14 (boat).toNat) up) (K 2 (lckF K (K 14 (boat).toNat) up).toNat)) 14 (boat).toNat ((lckF K (K 14 (boat).toNat) up) + 1)) 5 (lckF K (K 14 (boat).toNat) up).toNat = K 5 (lckF K (K 14 (boat).toNat) up).toNat from flowF_k (by decide) (by omega)]; exact ki_5 hI10 (lckF K (K 14 (boat).toNat) up).toNat
        refine xx_iconst (q := 111) rfl rfl (by decide) ?_
        refine xx_iadd (q := 112) rfl rfl ?_
        refine xr_isz (RV t (xui (xui (flowF K (lckF K (K 14 (boat).toNat) up) (K 2 (lckF K (K 14 (boat).toNat) up).toNat)) 14 (boat).toNat ((lckF K (K 14 (boat).toNat) up) + 1)) 5 (lckF K (K 14 (boat).toNat) up).toNat (nrm ((K 5 (lckF K (K 14 (boat).toNat) up).toNat) + 1))) b B (tU t K b U) D0) (q := 113) rfl rfl xS_480 (by omega) (by omega) (rs_5 (v := nrm ((K 5 (lckF K (K 14 (boat).toNat) up).toNat) + 1)) (p := lckF K (K 14 (boat).toNat) up) hV10 hI10 (by omega) (by omega) (by rfl)) (fun D15 hV15 => ?_)
        have hs15 : (xui (xui (flowF K (lckF K (K 14 (boat).toNat) up) (K 2 (lckF K (K 14 (boat).toNat) up).toNat)) 14 (boat).toNat ((lckF K (K 14 (boat).toNat) up) + 1)) 5 (lckF K (K 14 (boat).toNat) up).toNat (nrm ((K 5 (lckF K (K 14 (boat).toNat) up).toNat) + 1))) 5 (lckF K (K 14 (boat).toNat) up).toNat = (nrm ((K 5 (lckF K (K 14 (boat).toNat) up).toNat) + 1)) := xui_s
        have hI15 : KI (xui (xui (flowF K (lckF K (K 14 (boat).toNat) up) (K 2 (lckF K (K 14 (boat).toNat) up).toNat)) 14 (boat).toNat ((lckF K (K 14 (boat).toNat) up) + 1)) 5 (lckF K (K 14 (boat).toNat) up).toNat (nrm ((K 5 (lckF K (K 14 (boat).toNat) up).toNat) + 1))) := KI_up hI10 (nrm_lo _) (nrm_hi _)
        refine xx_aload_n (q := 114) rfl rfl rfl ?_
        refine xx_iconst (q := 115) rfl rfl (by decide) ?_
        refine xx_iload (q := 117) rfl rfl rfl ?_
        refine xx_iload_n (q := 118) rfl rfl rfl ?_
        refine xx_aload_n (q := 119) rfl rfl rfl ?_
        refine xx_iload (q := 121) rfl rfl rfl ?_
        have he16 : (xui (xui (flowF K (lckF K (K 14 (boat).toNat) up) (K 2 (lckF K (K 14 (boat).toNat) up).toNat)) 14 (boat).toNat ((lckF K (K 14 (boat).toNat) up) + 1)) 5 (lckF K (K 14 (boat).toNat) up).toNat (nrm ((K 5 (lckF K (K 14 (boat).toNat) up).toNat) + 1))) 2 (lckF K (K 14 (boat).toNat) up).toNat = K 2 (lckF K (K 14 (boat).toNat) up).toNat := flowF_k (by decide) (by omega)
        have hx16 := r_fillOf (n := n) hR hV15 hI15 (lckF K (K 14 (boat).toNat) up) (by omega) (by omega)
        rw [he16] at hx16
        have hb16 : 1 ≤ K 2 (lckF K (K 14 (boat).toNat) up).toNat ∧ K 2 (lckF K (K 14 (boat).toNat) up).toNat ≤ 50 := by rw [← he16]; exact ki_2 hI15 (lckF K (K 14 (boat).toNat) up).toNat
        refine xx_callV (q := 124) (As := [_]) (rest := [_, _, _, _]) rfl rfl rfl (Or.inl rfl) rfl rfl (Nat.le_of_ble_eq_true rfl) xS_479 (XCm hx16 rfl) rfl ?_
        have hL17 : (xui (xui (flowF K (lckF K (K 14 (boat).toNat) up) (K 2 (lckF K (K 14 (boat).toNat) up).toNat)) 14 (boat).toNat ((lckF K (K 14 (boat).toNat) up) + 1)) 5 (lckF K (K 14 (boat).toNat) up).toNat (nrm ((K 5 (lckF K (K 14 (boat).toNat) up).toNat) + 1))) 0 0 = K 0 0 := flowF_k (by decide) (by omega)
        have hL18 : (xui (xui (flowF K (lckF K (K 14 (boat).toNat) up) (K 2 (lckF K (K 14 (boat).toNat) up).toNat)) 14 (boat).toNat ((lckF K (K 14 (boat).toNat) up) + 1)) 5 (lckF K (K 14 (boat).toNat) up).toNat (nrm ((K 5 (lckF K (K 14 (boat).toNat) up).toNat) + 1))) 13 0 = K 13 0 := flowF_k (by decide) (by omega)
        obtain ⟨D19, hx19, hV19⟩ := r_notes (n := n) hR hV15 hI15 0 (lckF K (K 14 (boat).toNat) up) boat (K 2 (lckF K (K 14 (boat).toNat) up).toNat)
        refine xx_callV (q := 127) (As := [_, _, _, _]) (rest := []) rfl rfl rfl (Or.inl rfl) rfl rfl (Nat.le_of_ble_eq_true rfl) xS_479 (XCm hx19 rfl) rfl ?_
        refine xx_iload (q := 129) rfl rfl rfl ?_
        refine xx_iret rfl trivial ⟨congrArg (fun z => some (Sum.inl z)) (by unfold pasR; rw [if_pos h11]), _, rfl, ?_⟩
        have e1 : pasT K G boat up wth = (xui (xui (flowF K (lckF K (K 14 (boat).toNat) up) (K 2 (lckF K (K 14 (boat).toNat) up).toNat)) 14 (boat).toNat ((lckF K (K 14 (boat).toNat) up) + 1)) 5 (lckF K (K 14 (boat).toNat) up).toNat (nrm ((K 5 (lckF K (K 14 (boat).toNat) up).toNat) + 1))) := by unfold pasT; rw [if_pos h11]; unfold pasK; simp only [*, if_true, if_false, reduceIte]
        have e0 : (xui (xui (flowF K (lckF K (K 14 (boat).toNat) up) (K 2 (lckF K (K 14 (boat).toNat) up).toNat)) 14 (boat).toNat ((lckF K (K 14 (boat).toNat) up) + 1)) 5 (lckF K (K 14 (boat).toNat) up).toNat (nrm ((K 5 (lckF K (K 14 (boat).toNat) up).toNat) + 1))) 0 1 = K 0 1 := by rw [← e1]; unfold pasT; rw [if_pos h11]; exact pasK_h
        have e2 : rpb t K G boat up wth b = tb t b := if_pos h11
        have e3 : rpB t K G boat up wth b B = tB t (xui (xui (flowF K (lckF K (K 14 (boat).toNat) up) (K 2 (lckF K (K 14 (boat).toNat) up).toNat)) 14 (boat).toNat ((lckF K (K 14 (boat).toNat) up) + 1)) 5 (lckF K (K 14 (boat).toNat) up).toNat (nrm ((K 5 (lckF K (K 14 (boat).toNat) up).toNat) + 1))) b B 0 (lckF K (K 14 (boat).toNat) up) boat (K 2 (lckF K (K 14 (boat).toNat) up).toNat) := (if_pos h11).trans (by unfold tB; rw [e0])
        have e4 : rpU t K G boat up wth b U = tU t K b U := if_pos h11
        rw [e1, e2, e3, e4]
        exact hV19
      · refine xx_aload_n (q := 81) rfl rfl rfl ?_
        refine xx_getR (q := 84) rfl rfl rfl xS_479 (Nat.le_of_ble_eq_true rfl) rfl (hR.1 479 1 rfl) ?_
        refine xx_bipush (q := 86) rfl rfl (by decide) ?_
        refine xx_iload_n (q := 87) rfl rfl rfl ?_
        refine xx_iaddR (q := 88) rfl rfl (by omega) (by omega) ?_
        refine xx_iload (q := 90) rfl rfl rfl ?_
        have hL21 : (xui (flowF K (lckF K (K 14 (boat).toNat) up) (K 2 (lckF K (K 14 (boat).toNat) up).toNat)) 14 (boat).toNat ((lckF K (K 14 (boat).toNat) up) + 1)) 0 0 = K 0 0 := flowF_k (by decide) (by omega)
        have hL22 : (xui (flowF K (lckF K (K 14 (boat).toNat) up) (K 2 (lckF K (K 14 (boat).toNat) up).toNat)) 14 (boat).toNat ((lckF K (K 14 (boat).toNat) up) + 1)) 13 0 = K 13 0 := flowF_k (by decide) (by omega)
        refine xr_isz (RV t (xui (xui (flowF K (lckF K (K 14 (boat).toNat) up) (K 2 (lckF K (K 14 (boat).toNat) up).toNat)) 14 (boat).toNat ((lckF K (K 14 (boat).toNat) up) + 1)) 14 (wth).toNat ((lckF K (K 14 (boat).toNat) up) + 1)) b B (tU t K b U) D0) (q := 91) rfl rfl xS_480 (by omega) (by omega) (rs_14 (v := (lckF K (K 14 (boat).toNat) up) + 1) (p := wth) hV10 hI10 (by omega) (by omega) (by rfl)) (fun D23 hV23 => ?_)
        have hs23 : (xui (xui (flowF K (lckF K (K 14 (boat).toNat) up) (K 2 (lckF K (K 14 (boat).toNat) up).toNat)) 14 (boat).toNat ((lckF K (K 14 (boat).toNat) up) + 1)) 14 (wth).toNat ((lckF K (K 14 (boat).toNat) up) + 1)) 14 (wth).toNat = ((lckF K (K 14 (boat).toNat) up) + 1) := xui_s
        have hI23 : KI (xui (xui (flowF K (lckF K (K 14 (boat).toNat) up) (K 2 (lckF K (K 14 (boat).toNat) up).toNat)) 14 (boat).toNat ((lckF K (K 14 (boat).toNat) up) + 1)) 14 (wth).toNat ((lckF K (K 14 (boat).toNat) up) + 1)) := KI_up hI10 (show (0 : Int) ≤ _ by omega) (show _ ≤ (9 : Int) by omega)
        refine xx_aload_n (q := 92) rfl rfl rfl ?_
        refine xx_getR (q := 95) rfl rfl rfl xS_479 (Nat.le_of_ble_eq_true rfl) rfl (hR.1 479 1 rfl) ?_
        refine xx_bipush (q := 97) rfl rfl (by decide) ?_
        refine xx_iload (q := 99) rfl rfl rfl ?_
        refine xx_iaddR (q := 100) rfl rfl (by omega) (by omega) ?_
        refine xx_aload_n (q := 101) rfl rfl rfl ?_
        refine xx_getR (q := 104) rfl rfl rfl xS_479 (Nat.le_of_ble_eq_true rfl) rfl (hR.1 479 1 rfl) ?_
        refine xx_bipush (q := 106) rfl rfl (by decide) ?_
        refine xx_iload (q := 108) rfl rfl rfl ?_
        refine xx_iaddR (q := 109) rfl rfl (by omega) (by omega) ?_
        have hL24 : (xui (xui (flowF K (lckF K (K 14 (boat).toNat) up) (K 2 (lckF K (K 14 (boat).toNat) up).toNat)) 14 (boat).toNat ((lckF K (K 14 (boat).toNat) up) + 1)) 14 (wth).toNat ((lckF K (K 14 (boat).toNat) up) + 1)) 0 0 = K 0 0 := flowF_k (by decide) (by omega)
        have hL25 : (xui (xui (flowF K (lckF K (K 14 (boat).toNat) up) (K 2 (lckF K (K 14 (boat).toNat) up).toNat)) 14 (boat).toNat ((lckF K (K 14 (boat).toNat) up) + 1)) 14 (wth).toNat ((lckF K (K 14 (boat).toNat) up) + 1)) 13 0 = K 13 0 := flowF_k (by decide) (by omega)
        refine xx_iaz (v := K 5 (lckF K (K 14 (boat).toNat) up).toNat) (q := 110) rfl rfl xS_480 (by omega) (by omega) ((rv_5 hV23 (p := lckF K (K 14 (boat).toNat) up) (by omega) (by omega)).trans (flowF_k (by decide) (by omega))) ?_
        have hb26 : -2147483648 ≤ K 5 (lckF K (K 14 (boat).toNat) up).toNat ∧ K 5 (lckF K (K 14 (boat).toNat) up).toNat ≤ 2147483647 := by rw [← show (xui (xui (flowF K (lckF K (K 14 (boat).toNat) up) (K 2 (lckF K (K 14 (boat).toNat) up).toNat)) 14 (boat).toNat ((lckF K (K 14 (boat).toNat) up) + 1)) 14 (wth).toNat ((lckF K (K 14 (boat).toNat) up) + 1)) 5 (lckF K (K 14 (boat).toNat) up).toNat = K 5 (lckF K (K 14 (boat).toNat) up).toNat from flowF_k (by decide) (by omega)]; exact ki_5 hI23 (lckF K (K 14 (boat).toNat) up).toNat
        refine xx_iconst (q := 111) rfl rfl (by decide) ?_
        refine xx_iadd (q := 112) rfl rfl ?_
        refine xr_isz (RV t (xui (xui (xui (flowF K (lckF K (K 14 (boat).toNat) up) (K 2 (lckF K (K 14 (boat).toNat) up).toNat)) 14 (boat).toNat ((lckF K (K 14 (boat).toNat) up) + 1)) 14 (wth).toNat ((lckF K (K 14 (boat).toNat) up) + 1)) 5 (lckF K (K 14 (boat).toNat) up).toNat (nrm ((K 5 (lckF K (K 14 (boat).toNat) up).toNat) + 1))) b B (tU t K b U) D0) (q := 113) rfl rfl xS_480 (by omega) (by omega) (rs_5 (v := nrm ((K 5 (lckF K (K 14 (boat).toNat) up).toNat) + 1)) (p := lckF K (K 14 (boat).toNat) up) hV23 hI23 (by omega) (by omega) (by rfl)) (fun D28 hV28 => ?_)
        have hs28 : (xui (xui (xui (flowF K (lckF K (K 14 (boat).toNat) up) (K 2 (lckF K (K 14 (boat).toNat) up).toNat)) 14 (boat).toNat ((lckF K (K 14 (boat).toNat) up) + 1)) 14 (wth).toNat ((lckF K (K 14 (boat).toNat) up) + 1)) 5 (lckF K (K 14 (boat).toNat) up).toNat (nrm ((K 5 (lckF K (K 14 (boat).toNat) up).toNat) + 1))) 5 (lckF K (K 14 (boat).toNat) up).toNat = (nrm ((K 5 (lckF K (K 14 (boat).toNat) up).toNat) + 1)) := xui_s
        have hI28 : KI (xui (xui (xui (flowF K (lckF K (K 14 (boat).toNat) up) (K 2 (lckF K (K 14 (boat).toNat) up).toNat)) 14 (boat).toNat ((lckF K (K 14 (boat).toNat) up) + 1)) 14 (wth).toNat ((lckF K (K 14 (boat).toNat) up) + 1)) 5 (lckF K (K 14 (boat).toNat) up).toNat (nrm ((K 5 (lckF K (K 14 (boat).toNat) up).toNat) + 1))) := KI_up hI23 (nrm_lo _) (nrm_hi _)
        refine xx_aload_n (q := 114) rfl rfl rfl ?_
        refine xx_iconst (q := 115) rfl rfl (by decide) ?_
        refine xx_iload (q := 117) rfl rfl rfl ?_
        refine xx_iload_n (q := 118) rfl rfl rfl ?_
        refine xx_aload_n (q := 119) rfl rfl rfl ?_
        refine xx_iload (q := 121) rfl rfl rfl ?_
        have he29 : (xui (xui (xui (flowF K (lckF K (K 14 (boat).toNat) up) (K 2 (lckF K (K 14 (boat).toNat) up).toNat)) 14 (boat).toNat ((lckF K (K 14 (boat).toNat) up) + 1)) 14 (wth).toNat ((lckF K (K 14 (boat).toNat) up) + 1)) 5 (lckF K (K 14 (boat).toNat) up).toNat (nrm ((K 5 (lckF K (K 14 (boat).toNat) up).toNat) + 1))) 2 (lckF K (K 14 (boat).toNat) up).toNat = K 2 (lckF K (K 14 (boat).toNat) up).toNat := flowF_k (by decide) (by omega)
        have hx29 := r_fillOf (n := n) hR hV28 hI28 (lckF K (K 14 (boat).toNat) up) (by omega) (by omega)
        rw [he29] at hx29
        have hb29 : 1 ≤ K 2 (lckF K (K 14 (boat).toNat) up).toNat ∧ K 2 (lckF K (K 14 (boat).toNat) up).toNat ≤ 50 := by rw [← he29]; exact ki_2 hI28 (lckF K (K 14 (boat).toNat) up).toNat
        refine xx_callV (q := 124) (As := [_]) (rest := [_, _, _, _]) rfl rfl rfl (Or.inl rfl) rfl rfl (Nat.le_of_ble_eq_true rfl) xS_479 (XCm hx29 rfl) rfl ?_
        have hL30 : (xui (xui (xui (flowF K (lckF K (K 14 (boat).toNat) up) (K 2 (lckF K (K 14 (boat).toNat) up).toNat)) 14 (boat).toNat ((lckF K (K 14 (boat).toNat) up) + 1)) 14 (wth).toNat ((lckF K (K 14 (boat).toNat) up) + 1)) 5 (lckF K (K 14 (boat).toNat) up).toNat (nrm ((K 5 (lckF K (K 14 (boat).toNat) up).toNat) + 1))) 0 0 = K 0 0 := flowF_k (by decide) (by omega)
        have hL31 : (xui (xui (xui (flowF K (lckF K (K 14 (boat).toNat) up) (K 2 (lckF K (K 14 (boat).toNat) up).toNat)) 14 (boat).toNat ((lckF K (K 14 (boat).toNat) up) + 1)) 14 (wth).toNat ((lckF K (K 14 (boat).toNat) up) + 1)) 5 (lckF K (K 14 (boat).toNat) up).toNat (nrm ((K 5 (lckF K (K 14 (boat).toNat) up).toNat) + 1))) 13 0 = K 13 0 := flowF_k (by decide) (by omega)
        obtain ⟨D32, hx32, hV32⟩ := r_notes (n := n) hR hV28 hI28 0 (lckF K (K 14 (boat).toNat) up) boat (K 2 (lckF K (K 14 (boat).toNat) up).toNat)
        refine xx_callV (q := 127) (As := [_, _, _, _]) (rest := []) rfl rfl rfl (Or.inl rfl) rfl rfl (Nat.le_of_ble_eq_true rfl) xS_479 (XCm hx32 rfl) rfl ?_
        refine xx_iload (q := 129) rfl rfl rfl ?_
        refine xx_iret rfl trivial ⟨congrArg (fun z => some (Sum.inl z)) (by unfold pasR; rw [if_pos h11]), _, rfl, ?_⟩
        have e1 : pasT K G boat up wth = (xui (xui (xui (flowF K (lckF K (K 14 (boat).toNat) up) (K 2 (lckF K (K 14 (boat).toNat) up).toNat)) 14 (boat).toNat ((lckF K (K 14 (boat).toNat) up) + 1)) 14 (wth).toNat ((lckF K (K 14 (boat).toNat) up) + 1)) 5 (lckF K (K 14 (boat).toNat) up).toNat (nrm ((K 5 (lckF K (K 14 (boat).toNat) up).toNat) + 1))) := by unfold pasT; rw [if_pos h11]; unfold pasK; simp only [*, if_true, if_false, reduceIte]
        have e0 : (xui (xui (xui (flowF K (lckF K (K 14 (boat).toNat) up) (K 2 (lckF K (K 14 (boat).toNat) up).toNat)) 14 (boat).toNat ((lckF K (K 14 (boat).toNat) up) + 1)) 14 (wth).toNat ((lckF K (K 14 (boat).toNat) up) + 1)) 5 (lckF K (K 14 (boat).toNat) up).toNat (nrm ((K 5 (lckF K (K 14 (boat).toNat) up).toNat) + 1))) 0 1 = K 0 1 := by rw [← e1]; unfold pasT; rw [if_pos h11]; exact pasK_h
        have e2 : rpb t K G boat up wth b = tb t b := if_pos h11
        have e3 : rpB t K G boat up wth b B = tB t (xui (xui (xui (flowF K (lckF K (K 14 (boat).toNat) up) (K 2 (lckF K (K 14 (boat).toNat) up).toNat)) 14 (boat).toNat ((lckF K (K 14 (boat).toNat) up) + 1)) 14 (wth).toNat ((lckF K (K 14 (boat).toNat) up) + 1)) 5 (lckF K (K 14 (boat).toNat) up).toNat (nrm ((K 5 (lckF K (K 14 (boat).toNat) up).toNat) + 1))) b B 0 (lckF K (K 14 (boat).toNat) up) boat (K 2 (lckF K (K 14 (boat).toNat) up).toNat) := (if_pos h11).trans (by unfold tB; rw [e0])
        have e4 : rpU t K G boat up wth b U = tU t K b U := if_pos h11
        rw [e1, e2, e3, e4]
        exact hV32
    · refine xx_iload (q := 55) rfl rfl rfl ?_
      refine xx_goto (q := 62) rfl rfl ?_
      refine xx_istore (q := 64) (loc2 := [_, _, _, _, _, _, _]) rfl rfl (Nat.le_of_ble_eq_true rfl) rfl ?_
      refine xx_aload_n (q := 65) rfl rfl rfl ?_
      refine xx_getR (q := 68) rfl rfl rfl xS_479 (Nat.le_of_ble_eq_true rfl) rfl (hR.1 479 1 rfl) ?_
      refine xx_bipush (q := 70) rfl rfl (by decide) ?_
      refine xx_iload_n (q := 71) rfl rfl rfl ?_
      refine xx_iaddR (q := 72) rfl rfl (by omega) (by omega) ?_
      refine xx_iload (q := 74) rfl rfl rfl ?_
      have hL34 : (flowF K (lckF K (K 14 (boat).toNat) up) (K 2 (lckF K (K 14 (boat).toNat) up).toNat)) 0 0 = K 0 0 := flowF_k (by decide) (by omega)
      have hL35 : (flowF K (lckF K (K 14 (boat).toNat) up) (K 2 (lckF K (K 14 (boat).toNat) up).toNat)) 13 0 = K 13 0 := flowF_k (by decide) (by omega)
      refine xr_isz (RV t (xui (flowF K (lckF K (K 14 (boat).toNat) up) (K 2 (lckF K (K 14 (boat).toNat) up).toNat)) 14 (boat).toNat (lckF K (K 14 (boat).toNat) up)) b B (tU t K b U) D0) (q := 75) rfl rfl xS_480 (by omega) (by omega) (rs_14 (v := lckF K (K 14 (boat).toNat) up) (p := boat) hV6 hI6 (by omega) (by omega) (by rfl)) (fun D36 hV36 => ?_)
      have hs36 : (xui (flowF K (lckF K (K 14 (boat).toNat) up) (K 2 (lckF K (K 14 (boat).toNat) up).toNat)) 14 (boat).toNat (lckF K (K 14 (boat).toNat) up)) 14 (boat).toNat = (lckF K (K 14 (boat).toNat) up) := xui_s
      have hI36 : KI (xui (flowF K (lckF K (K 14 (boat).toNat) up) (K 2 (lckF K (K 14 (boat).toNat) up).toNat)) 14 (boat).toNat (lckF K (K 14 (boat).toNat) up)) := KI_up hI6 (show (0 : Int) ≤ _ by omega) (show _ ≤ (9 : Int) by omega)
      refine xx_iload_n (q := 76) rfl rfl rfl ?_
      refine xx_iconst (q := 77) rfl rfl (by decide) ?_
      refine xx_icmp_eq (q := 91) (q2 := 80) rfl rfl rfl (fun h77 => ?_) (fun h77 => ?_)
      · refine xx_aload_n (q := 92) rfl rfl rfl ?_
        refine xx_getR (q := 95) rfl rfl rfl xS_479 (Nat.le_of_ble_eq_true rfl) rfl (hR.1 479 1 rfl) ?_
        refine xx_bipush (q := 97) rfl rfl (by decide) ?_
        refine xx_iload (q := 99) rfl rfl rfl ?_
        refine xx_iaddR (q := 100) rfl rfl (by omega) (by omega) ?_
        refine xx_aload_n (q := 101) rfl rfl rfl ?_
        refine xx_getR (q := 104) rfl rfl rfl xS_479 (Nat.le_of_ble_eq_true rfl) rfl (hR.1 479 1 rfl) ?_
        refine xx_bipush (q := 106) rfl rfl (by decide) ?_
        refine xx_iload (q := 108) rfl rfl rfl ?_
        refine xx_iaddR (q := 109) rfl rfl (by omega) (by omega) ?_
        have hL37 : (xui (flowF K (lckF K (K 14 (boat).toNat) up) (K 2 (lckF K (K 14 (boat).toNat) up).toNat)) 14 (boat).toNat (lckF K (K 14 (boat).toNat) up)) 0 0 = K 0 0 := flowF_k (by decide) (by omega)
        have hL38 : (xui (flowF K (lckF K (K 14 (boat).toNat) up) (K 2 (lckF K (K 14 (boat).toNat) up).toNat)) 14 (boat).toNat (lckF K (K 14 (boat).toNat) up)) 13 0 = K 13 0 := flowF_k (by decide) (by omega)
        refine xx_iaz (v := K 5 (lckF K (K 14 (boat).toNat) up).toNat) (q := 110) rfl rfl xS_480 (by omega) (by omega) ((rv_5 hV36 (p := lckF K (K 14 (boat).toNat) up) (by omega) (by omega)).trans (flowF_k (by decide) (by omega))) ?_
        have hb39 : -2147483648 ≤ K 5 (lckF K (K 14 (boat).toNat) up).toNat ∧ K 5 (lckF K (K 14 (boat).toNat) up).toNat ≤ 2147483647 := by rw [← show (xui (flowF K (lckF K (K 14 (boat).toNat) up) (K 2 (lckF K (K 14 (boat).toNat) up).toNat)) 14 (boat).toNat (lckF K (K 14 (boat).toNat) up)) 5 (lckF K (K 14 (boat).toNat) up).toNat = K 5 (lckF K (K 14 (boat).toNat) up).toNat from flowF_k (by decide) (by omega)]; exact ki_5 hI36 (lckF K (K 14 (boat).toNat) up).toNat
        refine xx_iconst (q := 111) rfl rfl (by decide) ?_
        refine xx_iadd (q := 112) rfl rfl ?_
        refine xr_isz (RV t (xui (xui (flowF K (lckF K (K 14 (boat).toNat) up) (K 2 (lckF K (K 14 (boat).toNat) up).toNat)) 14 (boat).toNat (lckF K (K 14 (boat).toNat) up)) 5 (lckF K (K 14 (boat).toNat) up).toNat (nrm ((K 5 (lckF K (K 14 (boat).toNat) up).toNat) + 1))) b B (tU t K b U) D0) (q := 113) rfl rfl xS_480 (by omega) (by omega) (rs_5 (v := nrm ((K 5 (lckF K (K 14 (boat).toNat) up).toNat) + 1)) (p := lckF K (K 14 (boat).toNat) up) hV36 hI36 (by omega) (by omega) (by rfl)) (fun D41 hV41 => ?_)
        have hs41 : (xui (xui (flowF K (lckF K (K 14 (boat).toNat) up) (K 2 (lckF K (K 14 (boat).toNat) up).toNat)) 14 (boat).toNat (lckF K (K 14 (boat).toNat) up)) 5 (lckF K (K 14 (boat).toNat) up).toNat (nrm ((K 5 (lckF K (K 14 (boat).toNat) up).toNat) + 1))) 5 (lckF K (K 14 (boat).toNat) up).toNat = (nrm ((K 5 (lckF K (K 14 (boat).toNat) up).toNat) + 1)) := xui_s
        have hI41 : KI (xui (xui (flowF K (lckF K (K 14 (boat).toNat) up) (K 2 (lckF K (K 14 (boat).toNat) up).toNat)) 14 (boat).toNat (lckF K (K 14 (boat).toNat) up)) 5 (lckF K (K 14 (boat).toNat) up).toNat (nrm ((K 5 (lckF K (K 14 (boat).toNat) up).toNat) + 1))) := KI_up hI36 (nrm_lo _) (nrm_hi _)
        refine xx_aload_n (q := 114) rfl rfl rfl ?_
        refine xx_iconst (q := 115) rfl rfl (by decide) ?_
        refine xx_iload (q := 117) rfl rfl rfl ?_
        refine xx_iload_n (q := 118) rfl rfl rfl ?_
        refine xx_aload_n (q := 119) rfl rfl rfl ?_
        refine xx_iload (q := 121) rfl rfl rfl ?_
        have he42 : (xui (xui (flowF K (lckF K (K 14 (boat).toNat) up) (K 2 (lckF K (K 14 (boat).toNat) up).toNat)) 14 (boat).toNat (lckF K (K 14 (boat).toNat) up)) 5 (lckF K (K 14 (boat).toNat) up).toNat (nrm ((K 5 (lckF K (K 14 (boat).toNat) up).toNat) + 1))) 2 (lckF K (K 14 (boat).toNat) up).toNat = K 2 (lckF K (K 14 (boat).toNat) up).toNat := flowF_k (by decide) (by omega)
        have hx42 := r_fillOf (n := n) hR hV41 hI41 (lckF K (K 14 (boat).toNat) up) (by omega) (by omega)
        rw [he42] at hx42
        have hb42 : 1 ≤ K 2 (lckF K (K 14 (boat).toNat) up).toNat ∧ K 2 (lckF K (K 14 (boat).toNat) up).toNat ≤ 50 := by rw [← he42]; exact ki_2 hI41 (lckF K (K 14 (boat).toNat) up).toNat
        refine xx_callV (q := 124) (As := [_]) (rest := [_, _, _, _]) rfl rfl rfl (Or.inl rfl) rfl rfl (Nat.le_of_ble_eq_true rfl) xS_479 (XCm hx42 rfl) rfl ?_
        have hL43 : (xui (xui (flowF K (lckF K (K 14 (boat).toNat) up) (K 2 (lckF K (K 14 (boat).toNat) up).toNat)) 14 (boat).toNat (lckF K (K 14 (boat).toNat) up)) 5 (lckF K (K 14 (boat).toNat) up).toNat (nrm ((K 5 (lckF K (K 14 (boat).toNat) up).toNat) + 1))) 0 0 = K 0 0 := flowF_k (by decide) (by omega)
        have hL44 : (xui (xui (flowF K (lckF K (K 14 (boat).toNat) up) (K 2 (lckF K (K 14 (boat).toNat) up).toNat)) 14 (boat).toNat (lckF K (K 14 (boat).toNat) up)) 5 (lckF K (K 14 (boat).toNat) up).toNat (nrm ((K 5 (lckF K (K 14 (boat).toNat) up).toNat) + 1))) 13 0 = K 13 0 := flowF_k (by decide) (by omega)
        obtain ⟨D45, hx45, hV45⟩ := r_notes (n := n) hR hV41 hI41 0 (lckF K (K 14 (boat).toNat) up) boat (K 2 (lckF K (K 14 (boat).toNat) up).toNat)
        refine xx_callV (q := 127) (As := [_, _, _, _]) (rest := []) rfl rfl rfl (Or.inl rfl) rfl rfl (Nat.le_of_ble_eq_true rfl) xS_479 (XCm hx45 rfl) rfl ?_
        refine xx_iload (q := 129) rfl rfl rfl ?_
        refine xx_iret rfl trivial ⟨congrArg (fun z => some (Sum.inl z)) (by unfold pasR; rw [if_pos h11]), _, rfl, ?_⟩
        have e1 : pasT K G boat up wth = (xui (xui (flowF K (lckF K (K 14 (boat).toNat) up) (K 2 (lckF K (K 14 (boat).toNat) up).toNat)) 14 (boat).toNat (lckF K (K 14 (boat).toNat) up)) 5 (lckF K (K 14 (boat).toNat) up).toNat (nrm ((K 5 (lckF K (K 14 (boat).toNat) up).toNat) + 1))) := by unfold pasT; rw [if_pos h11]; unfold pasK; simp only [*, if_true, if_false, reduceIte]
        have e0 : (xui (xui (flowF K (lckF K (K 14 (boat).toNat) up) (K 2 (lckF K (K 14 (boat).toNat) up).toNat)) 14 (boat).toNat (lckF K (K 14 (boat).toNat) up)) 5 (lckF K (K 14 (boat).toNat) up).toNat (nrm ((K 5 (lckF K (K 14 (boat).toNat) up).toNat) + 1))) 0 1 = K 0 1 := by rw [← e1]; unfold pasT; rw [if_pos h11]; exact pasK_h
        have e2 : rpb t K G boat up wth b = tb t b := if_pos h11
        have e3 : rpB t K G boat up wth b B = tB t (xui (xui (flowF K (lckF K (K 14 (boat).toNat) up) (K 2 (lckF K (K 14 (boat).toNat) up).toNat)) 14 (boat).toNat (lckF K (K 14 (boat).toNat) up)) 5 (lckF K (K 14 (boat).toNat) up).toNat (nrm ((K 5 (lckF K (K 14 (boat).toNat) up).toNat) + 1))) b B 0 (lckF K (K 14 (boat).toNat) up) boat (K 2 (lckF K (K 14 (boat).toNat) up).toNat) := (if_pos h11).trans (by unfold tB; rw [e0])
        have e4 : rpU t K G boat up wth b U = tU t K b U := if_pos h11
        rw [e1, e2, e3, e4]
        exact hV45
      · refine xx_aload_n (q := 81) rfl rfl rfl ?_
        refine xx_getR (q := 84) rfl rfl rfl xS_479 (Nat.le_of_ble_eq_true rfl) rfl (hR.1 479 1 rfl) ?_
        refine xx_bipush (q := 86) rfl rfl (by decide) ?_
        refine xx_iload_n (q := 87) rfl rfl rfl ?_
        refine xx_iaddR (q := 88) rfl rfl (by omega) (by omega) ?_
        refine xx_iload (q := 90) rfl rfl rfl ?_
        have hL47 : (xui (flowF K (lckF K (K 14 (boat).toNat) up) (K 2 (lckF K (K 14 (boat).toNat) up).toNat)) 14 (boat).toNat (lckF K (K 14 (boat).toNat) up)) 0 0 = K 0 0 := flowF_k (by decide) (by omega)
        have hL48 : (xui (flowF K (lckF K (K 14 (boat).toNat) up) (K 2 (lckF K (K 14 (boat).toNat) up).toNat)) 14 (boat).toNat (lckF K (K 14 (boat).toNat) up)) 13 0 = K 13 0 := flowF_k (by decide) (by omega)
        refine xr_isz (RV t (xui (xui (flowF K (lckF K (K 14 (boat).toNat) up) (K 2 (lckF K (K 14 (boat).toNat) up).toNat)) 14 (boat).toNat (lckF K (K 14 (boat).toNat) up)) 14 (wth).toNat (lckF K (K 14 (boat).toNat) up)) b B (tU t K b U) D0) (q := 91) rfl rfl xS_480 (by omega) (by omega) (rs_14 (v := lckF K (K 14 (boat).toNat) up) (p := wth) hV36 hI36 (by omega) (by omega) (by rfl)) (fun D49 hV49 => ?_)
        have hs49 : (xui (xui (flowF K (lckF K (K 14 (boat).toNat) up) (K 2 (lckF K (K 14 (boat).toNat) up).toNat)) 14 (boat).toNat (lckF K (K 14 (boat).toNat) up)) 14 (wth).toNat (lckF K (K 14 (boat).toNat) up)) 14 (wth).toNat = (lckF K (K 14 (boat).toNat) up) := xui_s
        have hI49 : KI (xui (xui (flowF K (lckF K (K 14 (boat).toNat) up) (K 2 (lckF K (K 14 (boat).toNat) up).toNat)) 14 (boat).toNat (lckF K (K 14 (boat).toNat) up)) 14 (wth).toNat (lckF K (K 14 (boat).toNat) up)) := KI_up hI36 (show (0 : Int) ≤ _ by omega) (show _ ≤ (9 : Int) by omega)
        refine xx_aload_n (q := 92) rfl rfl rfl ?_
        refine xx_getR (q := 95) rfl rfl rfl xS_479 (Nat.le_of_ble_eq_true rfl) rfl (hR.1 479 1 rfl) ?_
        refine xx_bipush (q := 97) rfl rfl (by decide) ?_
        refine xx_iload (q := 99) rfl rfl rfl ?_
        refine xx_iaddR (q := 100) rfl rfl (by omega) (by omega) ?_
        refine xx_aload_n (q := 101) rfl rfl rfl ?_
        refine xx_getR (q := 104) rfl rfl rfl xS_479 (Nat.le_of_ble_eq_true rfl) rfl (hR.1 479 1 rfl) ?_
        refine xx_bipush (q := 106) rfl rfl (by decide) ?_
        refine xx_iload (q := 108) rfl rfl rfl ?_
        refine xx_iaddR (q := 109) rfl rfl (by omega) (by omega) ?_
        have hL50 : (xui (xui (flowF K (lckF K (K 14 (boat).toNat) up) (K 2 (lckF K (K 14 (boat).toNat) up).toNat)) 14 (boat).toNat (lckF K (K 14 (boat).toNat) up)) 14 (wth).toNat (lckF K (K 14 (boat).toNat) up)) 0 0 = K 0 0 := flowF_k (by decide) (by omega)
        have hL51 : (xui (xui (flowF K (lckF K (K 14 (boat).toNat) up) (K 2 (lckF K (K 14 (boat).toNat) up).toNat)) 14 (boat).toNat (lckF K (K 14 (boat).toNat) up)) 14 (wth).toNat (lckF K (K 14 (boat).toNat) up)) 13 0 = K 13 0 := flowF_k (by decide) (by omega)
        refine xx_iaz (v := K 5 (lckF K (K 14 (boat).toNat) up).toNat) (q := 110) rfl rfl xS_480 (by omega) (by omega) ((rv_5 hV49 (p := lckF K (K 14 (boat).toNat) up) (by omega) (by omega)).trans (flowF_k (by decide) (by omega))) ?_
        have hb52 : -2147483648 ≤ K 5 (lckF K (K 14 (boat).toNat) up).toNat ∧ K 5 (lckF K (K 14 (boat).toNat) up).toNat ≤ 2147483647 := by rw [← show (xui (xui (flowF K (lckF K (K 14 (boat).toNat) up) (K 2 (lckF K (K 14 (boat).toNat) up).toNat)) 14 (boat).toNat (lckF K (K 14 (boat).toNat) up)) 14 (wth).toNat (lckF K (K 14 (boat).toNat) up)) 5 (lckF K (K 14 (boat).toNat) up).toNat = K 5 (lckF K (K 14 (boat).toNat) up).toNat from flowF_k (by decide) (by omega)]; exact ki_5 hI49 (lckF K (K 14 (boat).toNat) up).toNat
        refine xx_iconst (q := 111) rfl rfl (by decide) ?_
        refine xx_iadd (q := 112) rfl rfl ?_
        refine xr_isz (RV t (xui (xui (xui (flowF K (lckF K (K 14 (boat).toNat) up) (K 2 (lckF K (K 14 (boat).toNat) up).toNat)) 14 (boat).toNat (lckF K (K 14 (boat).toNat) up)) 14 (wth).toNat (lckF K (K 14 (boat).toNat) up)) 5 (lckF K (K 14 (boat).toNat) up).toNat (nrm ((K 5 (lckF K (K 14 (boat).toNat) up).toNat) + 1))) b B (tU t K b U) D0) (q := 113) rfl rfl xS_480 (by omega) (by omega) (rs_5 (v := nrm ((K 5 (lckF K (K 14 (boat).toNat) up).toNat) + 1)) (p := lckF K (K 14 (boat).toNat) up) hV49 hI49 (by omega) (by omega) (by rfl)) (fun D54 hV54 => ?_)
        have hs54 : (xui (xui (xui (flowF K (lckF K (K 14 (boat).toNat) up) (K 2 (lckF K (K 14 (boat).toNat) up).toNat)) 14 (boat).toNat (lckF K (K 14 (boat).toNat) up)) 14 (wth).toNat (lckF K (K 14 (boat).toNat) up)) 5 (lckF K (K 14 (boat).toNat) up).toNat (nrm ((K 5 (lckF K (K 14 (boat).toNat) up).toNat) + 1))) 5 (lckF K (K 14 (boat).toNat) up).toNat = (nrm ((K 5 (lckF K (K 14 (boat).toNat) up).toNat) + 1)) := xui_s
        have hI54 : KI (xui (xui (xui (flowF K (lckF K (K 14 (boat).toNat) up) (K 2 (lckF K (K 14 (boat).toNat) up).toNat)) 14 (boat).toNat (lckF K (K 14 (boat).toNat) up)) 14 (wth).toNat (lckF K (K 14 (boat).toNat) up)) 5 (lckF K (K 14 (boat).toNat) up).toNat (nrm ((K 5 (lckF K (K 14 (boat).toNat) up).toNat) + 1))) := KI_up hI49 (nrm_lo _) (nrm_hi _)
        refine xx_aload_n (q := 114) rfl rfl rfl ?_
        refine xx_iconst (q := 115) rfl rfl (by decide) ?_
        refine xx_iload (q := 117) rfl rfl rfl ?_
        refine xx_iload_n (q := 118) rfl rfl rfl ?_
        refine xx_aload_n (q := 119) rfl rfl rfl ?_
        refine xx_iload (q := 121) rfl rfl rfl ?_
        have he55 : (xui (xui (xui (flowF K (lckF K (K 14 (boat).toNat) up) (K 2 (lckF K (K 14 (boat).toNat) up).toNat)) 14 (boat).toNat (lckF K (K 14 (boat).toNat) up)) 14 (wth).toNat (lckF K (K 14 (boat).toNat) up)) 5 (lckF K (K 14 (boat).toNat) up).toNat (nrm ((K 5 (lckF K (K 14 (boat).toNat) up).toNat) + 1))) 2 (lckF K (K 14 (boat).toNat) up).toNat = K 2 (lckF K (K 14 (boat).toNat) up).toNat := flowF_k (by decide) (by omega)
        have hx55 := r_fillOf (n := n) hR hV54 hI54 (lckF K (K 14 (boat).toNat) up) (by omega) (by omega)
        rw [he55] at hx55
        have hb55 : 1 ≤ K 2 (lckF K (K 14 (boat).toNat) up).toNat ∧ K 2 (lckF K (K 14 (boat).toNat) up).toNat ≤ 50 := by rw [← he55]; exact ki_2 hI54 (lckF K (K 14 (boat).toNat) up).toNat
        refine xx_callV (q := 124) (As := [_]) (rest := [_, _, _, _]) rfl rfl rfl (Or.inl rfl) rfl rfl (Nat.le_of_ble_eq_true rfl) xS_479 (XCm hx55 rfl) rfl ?_
        have hL56 : (xui (xui (xui (flowF K (lckF K (K 14 (boat).toNat) up) (K 2 (lckF K (K 14 (boat).toNat) up).toNat)) 14 (boat).toNat (lckF K (K 14 (boat).toNat) up)) 14 (wth).toNat (lckF K (K 14 (boat).toNat) up)) 5 (lckF K (K 14 (boat).toNat) up).toNat (nrm ((K 5 (lckF K (K 14 (boat).toNat) up).toNat) + 1))) 0 0 = K 0 0 := flowF_k (by decide) (by omega)
        have hL57 : (xui (xui (xui (flowF K (lckF K (K 14 (boat).toNat) up) (K 2 (lckF K (K 14 (boat).toNat) up).toNat)) 14 (boat).toNat (lckF K (K 14 (boat).toNat) up)) 14 (wth).toNat (lckF K (K 14 (boat).toNat) up)) 5 (lckF K (K 14 (boat).toNat) up).toNat (nrm ((K 5 (lckF K (K 14 (boat).toNat) up).toNat) + 1))) 13 0 = K 13 0 := flowF_k (by decide) (by omega)
        obtain ⟨D58, hx58, hV58⟩ := r_notes (n := n) hR hV54 hI54 0 (lckF K (K 14 (boat).toNat) up) boat (K 2 (lckF K (K 14 (boat).toNat) up).toNat)
        refine xx_callV (q := 127) (As := [_, _, _, _]) (rest := []) rfl rfl rfl (Or.inl rfl) rfl rfl (Nat.le_of_ble_eq_true rfl) xS_479 (XCm hx58 rfl) rfl ?_
        refine xx_iload (q := 129) rfl rfl rfl ?_
        refine xx_iret rfl trivial ⟨congrArg (fun z => some (Sum.inl z)) (by unfold pasR; rw [if_pos h11]), _, rfl, ?_⟩
        have e1 : pasT K G boat up wth = (xui (xui (xui (flowF K (lckF K (K 14 (boat).toNat) up) (K 2 (lckF K (K 14 (boat).toNat) up).toNat)) 14 (boat).toNat (lckF K (K 14 (boat).toNat) up)) 14 (wth).toNat (lckF K (K 14 (boat).toNat) up)) 5 (lckF K (K 14 (boat).toNat) up).toNat (nrm ((K 5 (lckF K (K 14 (boat).toNat) up).toNat) + 1))) := by unfold pasT; rw [if_pos h11]; unfold pasK; simp only [*, if_true, if_false, reduceIte]
        have e0 : (xui (xui (xui (flowF K (lckF K (K 14 (boat).toNat) up) (K 2 (lckF K (K 14 (boat).toNat) up).toNat)) 14 (boat).toNat (lckF K (K 14 (boat).toNat) up)) 14 (wth).toNat (lckF K (K 14 (boat).toNat) up)) 5 (lckF K (K 14 (boat).toNat) up).toNat (nrm ((K 5 (lckF K (K 14 (boat).toNat) up).toNat) + 1))) 0 1 = K 0 1 := by rw [← e1]; unfold pasT; rw [if_pos h11]; exact pasK_h
        have e2 : rpb t K G boat up wth b = tb t b := if_pos h11
        have e3 : rpB t K G boat up wth b B = tB t (xui (xui (xui (flowF K (lckF K (K 14 (boat).toNat) up) (K 2 (lckF K (K 14 (boat).toNat) up).toNat)) 14 (boat).toNat (lckF K (K 14 (boat).toNat) up)) 14 (wth).toNat (lckF K (K 14 (boat).toNat) up)) 5 (lckF K (K 14 (boat).toNat) up).toNat (nrm ((K 5 (lckF K (K 14 (boat).toNat) up).toNat) + 1))) b B 0 (lckF K (K 14 (boat).toNat) up) boat (K 2 (lckF K (K 14 (boat).toNat) up).toNat) := (if_pos h11).trans (by unfold tB; rw [e0])
        have e4 : rpU t K G boat up wth b U = tU t K b U := if_pos h11
        rw [e1, e2, e3, e4]
        exact hV58
  · refine xx_iload (q := 16) rfl rfl rfl ?_
    refine xx_iret rfl trivial ⟨congrArg (fun z => some (Sum.inl z)) (by unfold pasR; rw [if_neg h11]), _, rfl, ?_⟩
    have e1 : pasT K G boat up wth = K := if_neg h11
    have e2 : rpb t K G boat up wth b = b := if_neg h11
    have e3 : rpB t K G boat up wth b B = B := if_neg h11
    have e4 : rpU t K G boat up wth b U = U := if_neg h11
    rw [e1, e2, e3, e4]
    exact hV1
set_option maxHeartbeats 1000000 in
theorem r_canGive {n : Nat} {R : Nat → Nat → Option Nat} {t : Int} {K D0 D : KK} {b : Int} {B : Nat → Int} {U : UU} (hR : RF R) (hV : RV t K b B U D0 D) (hI : KI K) (boat good amount lock : Int) : XC 2 239 [.inr (some 479), .inl boat, .inl good, .inl amount, .inl lock] (xS n, R, D) (some (.inl (bi (canF K boat good amount lock)))) (xS n, R, D) := by
  have hbB := ki_B hI
  have hbL := ki_L hI
  refine XC_of (Nat.le_of_ble_eq_true rfl) (Nat.le_of_ble_eq_true rfl) (loc := [_, _, _, _, _]) rfl ?_
  refine xx_aload_n (q := 1) rfl rfl rfl ?_
  refine xx_iload_n (q := 2) rfl rfl rfl ?_
  refine xx_callV (q := 5) (As := [_]) (rest := []) rfl rfl rfl (Or.inl rfl) rfl rfl (Nat.le_of_ble_eq_true rfl) xS_479 (XCm (r_isBoat hR hV hI boat) rfl) rfl ?_
  refine xx_ifb_eq (q := 36) (q2 := 8) rfl rfl rfl (fun h5 => ?_) (fun h5 => ?_)
  · refine xx_iconst (q := 37) rfl rfl (by decide) ?_
    exact xx_iret rfl (Or.inl rfl) ⟨congrArg (fun z => some (Sum.inl z)) (by grind [bi]), rfl⟩
  · refine xx_aload_n (q := 9) rfl rfl rfl ?_
    refine xx_iload_n (q := 10) rfl rfl rfl ?_
    refine xx_callV (q := 13) (As := [_]) (rest := []) rfl rfl rfl (Or.inl rfl) rfl rfl (Nat.le_of_ble_eq_true rfl) xS_479 (XCm (r_isGood good) rfl) rfl ?_
    refine xx_ifb_eq (q := 36) (q2 := 16) rfl rfl rfl (fun h13 => ?_) (fun h13 => ?_)
    · refine xx_iconst (q := 37) rfl rfl (by decide) ?_
      exact xx_iret rfl (Or.inl rfl) ⟨congrArg (fun z => some (Sum.inl z)) (by grind [bi]), rfl⟩
    · refine xx_aload_n (q := 17) rfl rfl rfl ?_
      refine xx_iload_n (q := 18) rfl rfl rfl ?_
      refine xx_iconst (q := 19) rfl rfl (by decide) ?_
      refine xx_bipush (q := 21) rfl rfl (by decide) ?_
      refine xx_callV (q := 24) (As := [_, _, _]) (rest := []) rfl rfl rfl (Or.inl rfl) rfl rfl (Nat.le_of_ble_eq_true rfl) xS_479 (XCm (r_isIn amount 1 99) rfl) rfl ?_
      refine xx_ifb_eq (q := 36) (q2 := 27) rfl rfl rfl (fun h24 => ?_) (fun h24 => ?_)
      · refine xx_iconst (q := 37) rfl rfl (by decide) ?_
        exact xx_iret rfl (Or.inl rfl) ⟨congrArg (fun z => some (Sum.inl z)) (by grind [bi]), rfl⟩
      · refine xx_aload_n (q := 28) rfl rfl rfl ?_
        refine xx_iload (q := 30) rfl rfl rfl ?_
        refine xx_callV (q := 33) (As := [_]) (rest := []) rfl rfl rfl (Or.inl rfl) rfl rfl (Nat.le_of_ble_eq_true rfl) xS_479 (XCm (r_isLock hR hV hI lock) rfl) rfl ?_
        refine xx_ifb_ne (q := 38) (q2 := 36) rfl rfl rfl (fun h33 => ?_) (fun h33 => ?_)
        · refine xx_aload_n (q := 39) rfl rfl rfl ?_
          refine xx_iload_n (q := 40) rfl rfl rfl ?_
          refine xx_iload_n (q := 41) rfl rfl rfl ?_
          refine xx_callV (q := 44) (As := [_, _]) (rest := []) rfl rfl rfl (Or.inl rfl) rfl rfl (Nat.le_of_ble_eq_true rfl) xS_479 (XCm (r_cargoOf (n := n) hR hV hI boat good (by omega) (by omega) (by omega) (by omega)) rfl) rfl ?_
          have hb1 := ki_17 hI (boat * 4 + good).toNat
          refine xx_iload_n (q := 45) rfl rfl rfl ?_
          refine xx_icmp_lt (q := 82) (q2 := 48) rfl rfl rfl (fun h45 => ?_) (fun h45 => ?_)
          · refine xx_iconst (q := 83) rfl rfl (by decide) ?_
            exact xx_iret rfl (Or.inl rfl) ⟨congrArg (fun z => some (Sum.inl z)) (by grind [bi]), rfl⟩
          · refine xx_aload_n (q := 49) rfl rfl rfl ?_
            refine xx_getR (q := 52) rfl rfl rfl xS_479 (Nat.le_of_ble_eq_true rfl) rfl (hR.1 479 1 rfl) ?_
            refine xx_bipush (q := 54) rfl rfl (by decide) ?_
            refine xx_iload_n (q := 55) rfl rfl rfl ?_
            refine xx_iaddR (q := 56) rfl rfl (by omega) (by omega) ?_
            refine xx_iaz (v := K 14 (boat).toNat) (q := 57) rfl rfl xS_480 (by omega) (by omega) (rv_14 hV (p := boat) (by omega) (by omega)) ?_
            have hb2 : 0 ≤ K 14 (boat).toNat ∧ K 14 (boat).toNat ≤ 9 := by have h := ki_14 hI (boat).toNat; exact h
            refine xx_iload (q := 59) rfl rfl rfl ?_
            refine xx_icmp_eq (q := 78) (q2 := 62) rfl rfl rfl (fun h59 => ?_) (fun h59 => ?_)
            · refine xx_iconst (q := 79) rfl rfl (by decide) ?_
              refine xx_goto (q := 83) rfl rfl ?_
              exact xx_iret rfl (Or.inr rfl) ⟨congrArg (fun z => some (Sum.inl z)) (by grind [bi]), rfl⟩
            · refine xx_aload_n (q := 63) rfl rfl rfl ?_
              refine xx_getR (q := 66) rfl rfl rfl xS_479 (Nat.le_of_ble_eq_true rfl) rfl (hR.1 479 1 rfl) ?_
              refine xx_bipush (q := 68) rfl rfl (by decide) ?_
              refine xx_iload_n (q := 69) rfl rfl rfl ?_
              refine xx_iaddR (q := 70) rfl rfl (by omega) (by omega) ?_
              refine xx_iaz (v := K 14 (boat).toNat) (q := 71) rfl rfl xS_480 (by omega) (by omega) (rv_14 hV (p := boat) (by omega) (by omega)) ?_
              have hb3 : 0 ≤ K 14 (boat).toNat ∧ K 14 (boat).toNat ≤ 9 := by have h := ki_14 hI (boat).toNat; exact h
              refine xx_iload (q := 73) rfl rfl rfl ?_
              refine xx_iconst (q := 74) rfl rfl (by decide) ?_
              refine xx_iaddR (q := 75) rfl rfl (by omega) (by omega) ?_
              refine xx_icmp_ne (q := 82) (q2 := 78) rfl rfl rfl (fun h75 => ?_) (fun h75 => ?_)
              · refine xx_iconst (q := 83) rfl rfl (by decide) ?_
                exact xx_iret rfl (Or.inl rfl) ⟨congrArg (fun z => some (Sum.inl z)) (by grind [bi]), rfl⟩
              · refine xx_iconst (q := 79) rfl rfl (by decide) ?_
                refine xx_goto (q := 83) rfl rfl ?_
                exact xx_iret rfl (Or.inr rfl) ⟨congrArg (fun z => some (Sum.inl z)) (by grind [bi]), rfl⟩
        · refine xx_iconst (q := 37) rfl rfl (by decide) ?_
          exact xx_iret rfl (Or.inl rfl) ⟨congrArg (fun z => some (Sum.inl z)) (by grind [bi]), rfl⟩
set_option maxHeartbeats 4000000 in
theorem r_gives {n : Nat} {R : Nat → Nat → Option Nat} {t : Int} {K D0 D : KK} {b : Int} {B : Nat → Int} {U : UU} (hR : RF R) (hV : RV t K b B U D0 D) (hI : KI K) {Hh : LwF} (hH : RLH Hh n R D0) (boat good amount lock : Int) (hcn : canF K boat good amount lock) : ∃ D', XC 7 242 [.inr (some 479), .inl boat, .inl good, .inl amount, .inl lock] (xS n, R, D) (some (.inl (dlgF K Hh boat good amount lock))) (xS n, R, D') ∧ RV t (givK K Hh boat good amount lock) (tb t b) (tB t K b B 1 lock boat amount) (tU t K b U) D0 D' := by
  have hbB := ki_B hI
  have hbL := ki_L hI
  have hdl : -99 ≤ dlgF K Hh boat good amount lock ∧ dlgF K Hh boat good amount lock ≤ 99 := hld_b _
  refine XE_of (Nat.le_of_ble_eq_true rfl) (Nat.le_of_ble_eq_true rfl) (loc := [_, _, _, _, _, _]) rfl ?_
  refine xx_aload_n (q := 1) rfl rfl rfl ?_
  obtain ⟨D1, hx1, hV1⟩ := r_keepsAhead (n := n) hR hV hI
  refine xx_callV (q := 4) (As := []) (rest := []) rfl rfl rfl (Or.inl rfl) rfl rfl (Nat.le_of_ble_eq_true rfl) xS_479 (XCm hx1 rfl) rfl ?_
  refine xx_aload_n (q := 5) rfl rfl rfl ?_
  refine xx_iload_n (q := 6) rfl rfl rfl ?_
  refine xx_iload_n (q := 7) rfl rfl rfl ?_
  refine xx_iload_n (q := 8) rfl rfl rfl ?_
  refine xx_iload (q := 10) rfl rfl rfl ?_
  obtain ⟨D2, hx2, hV2⟩ := r_heartOf (n := n) hR hV1 hI hH boat good amount lock (by omega) (by omega) (by omega) (by omega) (by omega) (by omega) (by omega) (by omega)
  refine xx_callV (q := 13) (As := [_, _, _, _]) (rest := []) rfl rfl rfl (Or.inl rfl) rfl rfl (Nat.le_of_ble_eq_true rfl) xS_479 (XCm hx2 rfl) rfl ?_
  have hb3 := hld_b (Hh (fcH K boat good amount lock) (K 11 (lock * 4 + good).toNat * amount))
  refine xx_istore (q := 15) (loc2 := [_, _, _, _, _, _]) rfl rfl (Nat.le_of_ble_eq_true rfl) rfl ?_
  refine xx_aload_n (q := 16) rfl rfl rfl ?_
  refine xx_iload (q := 18) rfl rfl rfl ?_
  refine xx_iload_n (q := 19) rfl rfl rfl ?_
  refine xx_iload (q := 21) rfl rfl rfl ?_
  obtain ⟨D4, hx4, hV4⟩ := r_likes (n := n) hR hV2 hI lock boat (dlgF K Hh boat good amount lock) (by omega) (by omega) (by omega) (by omega) (by omega) (by omega)
  have hI4 : KI (lkmF K lock boat (dlgF K Hh boat good amount lock)) := lkmF_I hI
  refine xx_callV (q := 24) (As := [_, _, _]) (rest := []) rfl rfl rfl (Or.inl rfl) rfl rfl (Nat.le_of_ble_eq_true rfl) xS_479 (XCm hx4 rfl) rfl ?_
  refine xx_aload_n (q := 25) rfl rfl rfl ?_
  refine xx_getR (q := 28) rfl rfl rfl xS_479 (Nat.le_of_ble_eq_true rfl) rfl (hR.1 479 1 rfl) ?_
  refine xx_bipush (q := 30) rfl rfl (by decide) ?_
  refine xx_iload (q := 32) rfl rfl rfl ?_
  refine xx_iaddR (q := 33) rfl rfl (by omega) (by omega) ?_
  refine xx_aload_n (q := 34) rfl rfl rfl ?_
  refine xx_aload_n (q := 35) rfl rfl rfl ?_
  refine xx_getR (q := 38) rfl rfl rfl xS_479 (Nat.le_of_ble_eq_true rfl) rfl (hR.1 479 1 rfl) ?_
  refine xx_bipush (q := 40) rfl rfl (by decide) ?_
  refine xx_iload (q := 42) rfl rfl rfl ?_
  refine xx_iaddR (q := 43) rfl rfl (by omega) (by omega) ?_
  have hL5 : (lkmF K lock boat (dlgF K Hh boat good amount lock)) 0 0 = K 0 0 := xui_a (by decide)
  have hL6 : (lkmF K lock boat (dlgF K Hh boat good amount lock)) 13 0 = K 13 0 := xui_a (by decide)
  refine xx_iaz (v := K 8 (lock).toNat) (q := 44) rfl rfl xS_480 (by omega) (by omega) ((rv_8 hV4 (p := lock) (by omega) (by omega)).trans (xui_a (by decide))) ?_
  have hb7 : -99 ≤ K 8 (lock).toNat ∧ K 8 (lock).toNat ≤ 99 := by rw [← show (lkmF K lock boat (dlgF K Hh boat good amount lock)) 8 (lock).toNat = K 8 (lock).toNat from xui_a (by decide)]; exact ki_8 hI4 (lock).toNat
  refine xx_iload (q := 46) rfl rfl rfl ?_
  refine xx_if_le (q := 53) (q2 := 49) rfl rfl rfl (fun h46 => ?_) (fun h46 => ?_)
  · refine xx_iload (q := 55) rfl rfl rfl ?_
    refine xx_if_ge (q := 62) (q2 := 58) rfl rfl rfl (fun h55 => ?_) (fun h55 => ?_)
    · refine xx_iconst (q := 63) rfl rfl (by decide) ?_
      refine xx_iaddR (q := 64) rfl rfl (by omega) (by omega) ?_
      refine xx_bipush (q := 66) rfl rfl (by decide) ?_
      refine xx_bipush (q := 68) rfl rfl (by decide) ?_
      refine xx_callV (q := 71) (As := [_, _, _]) (rest := [_, _]) rfl rfl rfl (Or.inl rfl) rfl rfl (Nat.le_of_ble_eq_true rfl) xS_479 (XCm (r_held ((K 8 (lock).toNat) + 0)) rfl) rfl ?_
      have hb8 := hld_b ((K 8 (lock).toNat) + 0)
      refine xr_isz (RV t (xui (lkmF K lock boat (dlgF K Hh boat good amount lock)) 8 (lock).toNat (hld ((K 8 (lock).toNat) + 0))) b B (tU t K b U) D0) (q := 72) rfl rfl xS_480 (by omega) (by omega) (rs_8 (v := hld ((K 8 (lock).toNat) + 0)) (p := lock) hV4 hI4 (by omega) (by omega) (by rfl)) (fun D10 hV10 => ?_)
      have hs10 : (xui (lkmF K lock boat (dlgF K Hh boat good amount lock)) 8 (lock).toNat (hld ((K 8 (lock).toNat) + 0))) 8 (lock).toNat = (hld ((K 8 (lock).toNat) + 0)) := xui_s
      have hI10 : KI (xui (lkmF K lock boat (dlgF K Hh boat good amount lock)) 8 (lock).toNat (hld ((K 8 (lock).toNat) + 0))) := KI_up hI4 (show (-99 : Int) ≤ _ by omega) (show _ ≤ (99 : Int) by omega)
      refine xx_iload (q := 74) rfl rfl rfl ?_
      refine xx_if_le (q := 103) (q2 := 77) rfl rfl rfl (fun h74 => ?_) (fun h74 => ?_)
      · refine xx_aload_n (q := 104) rfl rfl rfl ?_
        refine xx_getR (q := 107) rfl rfl rfl xS_479 (Nat.le_of_ble_eq_true rfl) rfl (hR.1 479 1 rfl) ?_
        refine xx_bipush (q := 109) rfl rfl (by decide) ?_
        refine xx_iload (q := 111) rfl rfl rfl ?_
        refine xx_iaddR (q := 112) rfl rfl (by omega) (by omega) ?_
        refine xx_aload_n (q := 113) rfl rfl rfl ?_
        refine xx_getR (q := 116) rfl rfl rfl xS_479 (Nat.le_of_ble_eq_true rfl) rfl (hR.1 479 1 rfl) ?_
        refine xx_bipush (q := 118) rfl rfl (by decide) ?_
        refine xx_iload (q := 120) rfl rfl rfl ?_
        refine xx_iaddR (q := 121) rfl rfl (by omega) (by omega) ?_
        have hL11 : (xui (lkmF K lock boat (dlgF K Hh boat good amount lock)) 8 (lock).toNat (hld ((K 8 (lock).toNat) + 0))) 0 0 = K 0 0 := xui_a (by decide)
        have hL12 : (xui (lkmF K lock boat (dlgF K Hh boat good amount lock)) 8 (lock).toNat (hld ((K 8 (lock).toNat) + 0))) 13 0 = K 13 0 := xui_a (by decide)
        refine xx_iaz (v := K 10 (lock).toNat) (q := 122) rfl rfl xS_480 (by omega) (by omega) ((rv_10 hV10 (p := lock) (by omega) (by omega)).trans (xui_a (by decide))) ?_
        have hb13 : -2147483648 ≤ K 10 (lock).toNat ∧ K 10 (lock).toNat ≤ 2147483647 := by rw [← show (xui (lkmF K lock boat (dlgF K Hh boat good amount lock)) 8 (lock).toNat (hld ((K 8 (lock).toNat) + 0))) 10 (lock).toNat = K 10 (lock).toNat from xui_a (by decide)]; exact ki_10 hI10 (lock).toNat
        refine xx_iconst (q := 123) rfl rfl (by decide) ?_
        refine xx_iadd (q := 124) rfl rfl ?_
        refine xr_isz (RV t (xui (xui (lkmF K lock boat (dlgF K Hh boat good amount lock)) 8 (lock).toNat (hld ((K 8 (lock).toNat) + 0))) 10 (lock).toNat (nrm ((K 10 (lock).toNat) + 1))) b B (tU t K b U) D0) (q := 125) rfl rfl xS_480 (by omega) (by omega) (rs_10 (v := nrm ((K 10 (lock).toNat) + 1)) (p := lock) hV10 hI10 (by omega) (by omega) (by rfl)) (fun D15 hV15 => ?_)
        have hs15 : (xui (xui (lkmF K lock boat (dlgF K Hh boat good amount lock)) 8 (lock).toNat (hld ((K 8 (lock).toNat) + 0))) 10 (lock).toNat (nrm ((K 10 (lock).toNat) + 1))) 10 (lock).toNat = (nrm ((K 10 (lock).toNat) + 1)) := xui_s
        have hI15 : KI (xui (xui (lkmF K lock boat (dlgF K Hh boat good amount lock)) 8 (lock).toNat (hld ((K 8 (lock).toNat) + 0))) 10 (lock).toNat (nrm ((K 10 (lock).toNat) + 1))) := KI_up hI10 (nrm_lo _) (nrm_hi _)
        refine xx_aload_n (q := 126) rfl rfl rfl ?_
        refine xx_getR (q := 129) rfl rfl rfl xS_479 (Nat.le_of_ble_eq_true rfl) rfl (hR.1 479 1 rfl) ?_
        refine xx_bipush (q := 131) rfl rfl (by decide) ?_
        refine xx_iconst (q := 132) rfl rfl (by decide) ?_
        refine xx_iload_n (q := 133) rfl rfl rfl ?_
        refine xx_imulR (q := 134) rfl rfl (by omega) (by omega) ?_
        refine xx_iaddR (q := 135) rfl rfl (by omega) (by omega) ?_
        refine xx_iload_n (q := 136) rfl rfl rfl ?_
        refine xx_iaddR (q := 137) rfl rfl (by omega) (by omega) ?_
        refine xx_aload_n (q := 138) rfl rfl rfl ?_
        refine xx_iload_n (q := 139) rfl rfl rfl ?_
        refine xx_iload_n (q := 140) rfl rfl rfl ?_
        have he16 : (xui (xui (lkmF K lock boat (dlgF K Hh boat good amount lock)) 8 (lock).toNat (hld ((K 8 (lock).toNat) + 0))) 10 (lock).toNat (nrm ((K 10 (lock).toNat) + 1))) 17 (boat * 4 + good).toNat = K 17 (boat * 4 + good).toNat := xui_a (by decide)
        have hx16 := r_cargoOf (n := n) hR hV15 hI15 boat good (by omega) (by omega) (by omega) (by omega)
        rw [he16] at hx16
        have hb16 : 0 ≤ K 17 (boat * 4 + good).toNat ∧ K 17 (boat * 4 + good).toNat ≤ 99 := by rw [← he16]; exact ki_17 hI15 (boat * 4 + good).toNat
        refine xx_callV (q := 143) (As := [_, _]) (rest := [_, _]) rfl rfl rfl (Or.inl rfl) rfl rfl (Nat.le_of_ble_eq_true rfl) xS_479 (XCm hx16 rfl) rfl ?_
        refine xx_iload_n (q := 144) rfl rfl rfl ?_
        refine xx_isubR (q := 145) rfl rfl (by omega) (by omega) ?_
        have hL18 : (xui (xui (lkmF K lock boat (dlgF K Hh boat good amount lock)) 8 (lock).toNat (hld ((K 8 (lock).toNat) + 0))) 10 (lock).toNat (nrm ((K 10 (lock).toNat) + 1))) 0 0 = K 0 0 := xui_a (by decide)
        have hL19 : (xui (xui (lkmF K lock boat (dlgF K Hh boat good amount lock)) 8 (lock).toNat (hld ((K 8 (lock).toNat) + 0))) 10 (lock).toNat (nrm ((K 10 (lock).toNat) + 1))) 13 0 = K 13 0 := xui_a (by decide)
        refine xr_isz (RV t (xui (xui (xui (lkmF K lock boat (dlgF K Hh boat good amount lock)) 8 (lock).toNat (hld ((K 8 (lock).toNat) + 0))) 10 (lock).toNat (nrm ((K 10 (lock).toNat) + 1))) 17 (boat * 4 + good).toNat ((K 17 (boat * 4 + good).toNat) - amount)) b B (tU t K b U) D0) (q := 146) rfl rfl xS_480 (by omega) (by omega) (rs_17 (v := (K 17 (boat * 4 + good).toNat) - amount) (l := boat) (c := good) hV15 hI15 (by omega) (by omega) (by omega) (by omega) (by rfl)) (fun D20 hV20 => ?_)
        have hs20 : (xui (xui (xui (lkmF K lock boat (dlgF K Hh boat good amount lock)) 8 (lock).toNat (hld ((K 8 (lock).toNat) + 0))) 10 (lock).toNat (nrm ((K 10 (lock).toNat) + 1))) 17 (boat * 4 + good).toNat ((K 17 (boat * 4 + good).toNat) - amount)) 17 (boat * 4 + good).toNat = ((K 17 (boat * 4 + good).toNat) - amount) := xui_s
        have hI20 : KI (xui (xui (xui (lkmF K lock boat (dlgF K Hh boat good amount lock)) 8 (lock).toNat (hld ((K 8 (lock).toNat) + 0))) 10 (lock).toNat (nrm ((K 10 (lock).toNat) + 1))) 17 (boat * 4 + good).toNat ((K 17 (boat * 4 + good).toNat) - amount)) := KI_up hI15 (show (0 : Int) ≤ _ by omega) (show _ ≤ (99 : Int) by omega)
        refine xx_aload_n (q := 147) rfl rfl rfl ?_
        refine xx_iconst (q := 148) rfl rfl (by decide) ?_
        refine xx_iload (q := 150) rfl rfl rfl ?_
        refine xx_iload_n (q := 151) rfl rfl rfl ?_
        refine xx_iload_n (q := 152) rfl rfl rfl ?_
        have hL21 : (xui (xui (xui (lkmF K lock boat (dlgF K Hh boat good amount lock)) 8 (lock).toNat (hld ((K 8 (lock).toNat) + 0))) 10 (lock).toNat (nrm ((K 10 (lock).toNat) + 1))) 17 (boat * 4 + good).toNat ((K 17 (boat * 4 + good).toNat) - amount)) 0 0 = K 0 0 := xui_a (by decide)
        have hL22 : (xui (xui (xui (lkmF K lock boat (dlgF K Hh boat good amount lock)) 8 (lock).toNat (hld ((K 8 (lock).toNat) + 0))) 10 (lock).toNat (nrm ((K 10 (lock).toNat) + 1))) 17 (boat * 4 + good).toNat ((K 17 (boat * 4 + good).toNat) - amount)) 13 0 = K 13 0 := xui_a (by decide)
        obtain ⟨D23, hx23, hV23⟩ := r_notes (n := n) hR hV20 hI20 1 lock boat amount
        refine xx_callV (q := 155) (As := [_, _, _, _]) (rest := []) rfl rfl rfl (Or.inl rfl) rfl rfl (Nat.le_of_ble_eq_true rfl) xS_479 (XCm hx23 rfl) rfl ?_
        refine xx_iload (q := 157) rfl rfl rfl ?_
        refine xx_iret rfl trivial ⟨congrArg (fun z => some (Sum.inl z)) (by rfl), _, rfl, ?_⟩
        have e1 : givK K Hh boat good amount lock = (xui (xui (xui (lkmF K lock boat (dlgF K Hh boat good amount lock)) 8 (lock).toNat (hld ((K 8 (lock).toNat) + 0))) 10 (lock).toNat (nrm ((K 10 (lock).toNat) + 1))) 17 (boat * 4 + good).toNat ((K 17 (boat * 4 + good).toNat) - amount)) := by unfold givK rcvF; simp only [cmpF]; grind
        have e0 : (xui (xui (xui (lkmF K lock boat (dlgF K Hh boat good amount lock)) 8 (lock).toNat (hld ((K 8 (lock).toNat) + 0))) 10 (lock).toNat (nrm ((K 10 (lock).toNat) + 1))) 17 (boat * 4 + good).toNat ((K 17 (boat * 4 + good).toNat) - amount)) 0 1 = K 0 1 := by rw [← e1]; exact (xui_a (by decide)).trans (rcvF_k (by decide) (by decide) (by decide))
        have e3 : tB t K b B 1 lock boat amount = tB t (xui (xui (xui (lkmF K lock boat (dlgF K Hh boat good amount lock)) 8 (lock).toNat (hld ((K 8 (lock).toNat) + 0))) 10 (lock).toNat (nrm ((K 10 (lock).toNat) + 1))) 17 (boat * 4 + good).toNat ((K 17 (boat * 4 + good).toNat) - amount)) b B 1 lock boat amount := by unfold tB; rw [e0]
        rw [e1, e3]
        exact hV23
      · refine xx_aload_n (q := 78) rfl rfl rfl ?_
        refine xx_iload (q := 80) rfl rfl rfl ?_
        have he24 : (xui (lkmF K lock boat (dlgF K Hh boat good amount lock)) 8 (lock).toNat (hld ((K 8 (lock).toNat) + 0))) 9 (lock).toNat = K 9 (lock).toNat := xui_a (by decide)
        have hx24 := r_rivalOf (n := n) hR hV10 hI10 lock (by omega) (by omega)
        rw [he24] at hx24
        have hb24 : -1 ≤ K 9 (lock).toNat ∧ K 9 (lock).toNat ≤ 8 := by rw [← he24]; exact ki_9 hI10 (lock).toNat
        refine xx_callV (q := 83) (As := [_]) (rest := []) rfl rfl rfl (Or.inl rfl) rfl rfl (Nat.le_of_ble_eq_true rfl) xS_479 (XCm hx24 rfl) rfl ?_
        refine xx_iconst (q := 84) rfl rfl (by decide) ?_
        refine xx_icmp_eq (q := 103) (q2 := 87) rfl rfl rfl (fun h84 => ?_) (fun h84 => ?_)
        · refine xx_aload_n (q := 104) rfl rfl rfl ?_
          refine xx_getR (q := 107) rfl rfl rfl xS_479 (Nat.le_of_ble_eq_true rfl) rfl (hR.1 479 1 rfl) ?_
          refine xx_bipush (q := 109) rfl rfl (by decide) ?_
          refine xx_iload (q := 111) rfl rfl rfl ?_
          refine xx_iaddR (q := 112) rfl rfl (by omega) (by omega) ?_
          refine xx_aload_n (q := 113) rfl rfl rfl ?_
          refine xx_getR (q := 116) rfl rfl rfl xS_479 (Nat.le_of_ble_eq_true rfl) rfl (hR.1 479 1 rfl) ?_
          refine xx_bipush (q := 118) rfl rfl (by decide) ?_
          refine xx_iload (q := 120) rfl rfl rfl ?_
          refine xx_iaddR (q := 121) rfl rfl (by omega) (by omega) ?_
          have hL25 : (xui (lkmF K lock boat (dlgF K Hh boat good amount lock)) 8 (lock).toNat (hld ((K 8 (lock).toNat) + 0))) 0 0 = K 0 0 := xui_a (by decide)
          have hL26 : (xui (lkmF K lock boat (dlgF K Hh boat good amount lock)) 8 (lock).toNat (hld ((K 8 (lock).toNat) + 0))) 13 0 = K 13 0 := xui_a (by decide)
          refine xx_iaz (v := K 10 (lock).toNat) (q := 122) rfl rfl xS_480 (by omega) (by omega) ((rv_10 hV10 (p := lock) (by omega) (by omega)).trans (xui_a (by decide))) ?_
          have hb27 : -2147483648 ≤ K 10 (lock).toNat ∧ K 10 (lock).toNat ≤ 2147483647 := by rw [← show (xui (lkmF K lock boat (dlgF K Hh boat good amount lock)) 8 (lock).toNat (hld ((K 8 (lock).toNat) + 0))) 10 (lock).toNat = K 10 (lock).toNat from xui_a (by decide)]; exact ki_10 hI10 (lock).toNat
          refine xx_iconst (q := 123) rfl rfl (by decide) ?_
          refine xx_iadd (q := 124) rfl rfl ?_
          refine xr_isz (RV t (xui (xui (lkmF K lock boat (dlgF K Hh boat good amount lock)) 8 (lock).toNat (hld ((K 8 (lock).toNat) + 0))) 10 (lock).toNat (nrm ((K 10 (lock).toNat) + 1))) b B (tU t K b U) D0) (q := 125) rfl rfl xS_480 (by omega) (by omega) (rs_10 (v := nrm ((K 10 (lock).toNat) + 1)) (p := lock) hV10 hI10 (by omega) (by omega) (by rfl)) (fun D29 hV29 => ?_)
          have hs29 : (xui (xui (lkmF K lock boat (dlgF K Hh boat good amount lock)) 8 (lock).toNat (hld ((K 8 (lock).toNat) + 0))) 10 (lock).toNat (nrm ((K 10 (lock).toNat) + 1))) 10 (lock).toNat = (nrm ((K 10 (lock).toNat) + 1)) := xui_s
          have hI29 : KI (xui (xui (lkmF K lock boat (dlgF K Hh boat good amount lock)) 8 (lock).toNat (hld ((K 8 (lock).toNat) + 0))) 10 (lock).toNat (nrm ((K 10 (lock).toNat) + 1))) := KI_up hI10 (nrm_lo _) (nrm_hi _)
          refine xx_aload_n (q := 126) rfl rfl rfl ?_
          refine xx_getR (q := 129) rfl rfl rfl xS_479 (Nat.le_of_ble_eq_true rfl) rfl (hR.1 479 1 rfl) ?_
          refine xx_bipush (q := 131) rfl rfl (by decide) ?_
          refine xx_iconst (q := 132) rfl rfl (by decide) ?_
          refine xx_iload_n (q := 133) rfl rfl rfl ?_
          refine xx_imulR (q := 134) rfl rfl (by omega) (by omega) ?_
          refine xx_iaddR (q := 135) rfl rfl (by omega) (by omega) ?_
          refine xx_iload_n (q := 136) rfl rfl rfl ?_
          refine xx_iaddR (q := 137) rfl rfl (by omega) (by omega) ?_
          refine xx_aload_n (q := 138) rfl rfl rfl ?_
          refine xx_iload_n (q := 139) rfl rfl rfl ?_
          refine xx_iload_n (q := 140) rfl rfl rfl ?_
          have he30 : (xui (xui (lkmF K lock boat (dlgF K Hh boat good amount lock)) 8 (lock).toNat (hld ((K 8 (lock).toNat) + 0))) 10 (lock).toNat (nrm ((K 10 (lock).toNat) + 1))) 17 (boat * 4 + good).toNat = K 17 (boat * 4 + good).toNat := xui_a (by decide)
          have hx30 := r_cargoOf (n := n) hR hV29 hI29 boat good (by omega) (by omega) (by omega) (by omega)
          rw [he30] at hx30
          have hb30 : 0 ≤ K 17 (boat * 4 + good).toNat ∧ K 17 (boat * 4 + good).toNat ≤ 99 := by rw [← he30]; exact ki_17 hI29 (boat * 4 + good).toNat
          refine xx_callV (q := 143) (As := [_, _]) (rest := [_, _]) rfl rfl rfl (Or.inl rfl) rfl rfl (Nat.le_of_ble_eq_true rfl) xS_479 (XCm hx30 rfl) rfl ?_
          refine xx_iload_n (q := 144) rfl rfl rfl ?_
          refine xx_isubR (q := 145) rfl rfl (by omega) (by omega) ?_
          have hL32 : (xui (xui (lkmF K lock boat (dlgF K Hh boat good amount lock)) 8 (lock).toNat (hld ((K 8 (lock).toNat) + 0))) 10 (lock).toNat (nrm ((K 10 (lock).toNat) + 1))) 0 0 = K 0 0 := xui_a (by decide)
          have hL33 : (xui (xui (lkmF K lock boat (dlgF K Hh boat good amount lock)) 8 (lock).toNat (hld ((K 8 (lock).toNat) + 0))) 10 (lock).toNat (nrm ((K 10 (lock).toNat) + 1))) 13 0 = K 13 0 := xui_a (by decide)
          refine xr_isz (RV t (xui (xui (xui (lkmF K lock boat (dlgF K Hh boat good amount lock)) 8 (lock).toNat (hld ((K 8 (lock).toNat) + 0))) 10 (lock).toNat (nrm ((K 10 (lock).toNat) + 1))) 17 (boat * 4 + good).toNat ((K 17 (boat * 4 + good).toNat) - amount)) b B (tU t K b U) D0) (q := 146) rfl rfl xS_480 (by omega) (by omega) (rs_17 (v := (K 17 (boat * 4 + good).toNat) - amount) (l := boat) (c := good) hV29 hI29 (by omega) (by omega) (by omega) (by omega) (by rfl)) (fun D34 hV34 => ?_)
          have hs34 : (xui (xui (xui (lkmF K lock boat (dlgF K Hh boat good amount lock)) 8 (lock).toNat (hld ((K 8 (lock).toNat) + 0))) 10 (lock).toNat (nrm ((K 10 (lock).toNat) + 1))) 17 (boat * 4 + good).toNat ((K 17 (boat * 4 + good).toNat) - amount)) 17 (boat * 4 + good).toNat = ((K 17 (boat * 4 + good).toNat) - amount) := xui_s
          have hI34 : KI (xui (xui (xui (lkmF K lock boat (dlgF K Hh boat good amount lock)) 8 (lock).toNat (hld ((K 8 (lock).toNat) + 0))) 10 (lock).toNat (nrm ((K 10 (lock).toNat) + 1))) 17 (boat * 4 + good).toNat ((K 17 (boat * 4 + good).toNat) - amount)) := KI_up hI29 (show (0 : Int) ≤ _ by omega) (show _ ≤ (99 : Int) by omega)
          refine xx_aload_n (q := 147) rfl rfl rfl ?_
          refine xx_iconst (q := 148) rfl rfl (by decide) ?_
          refine xx_iload (q := 150) rfl rfl rfl ?_
          refine xx_iload_n (q := 151) rfl rfl rfl ?_
          refine xx_iload_n (q := 152) rfl rfl rfl ?_
          have hL35 : (xui (xui (xui (lkmF K lock boat (dlgF K Hh boat good amount lock)) 8 (lock).toNat (hld ((K 8 (lock).toNat) + 0))) 10 (lock).toNat (nrm ((K 10 (lock).toNat) + 1))) 17 (boat * 4 + good).toNat ((K 17 (boat * 4 + good).toNat) - amount)) 0 0 = K 0 0 := xui_a (by decide)
          have hL36 : (xui (xui (xui (lkmF K lock boat (dlgF K Hh boat good amount lock)) 8 (lock).toNat (hld ((K 8 (lock).toNat) + 0))) 10 (lock).toNat (nrm ((K 10 (lock).toNat) + 1))) 17 (boat * 4 + good).toNat ((K 17 (boat * 4 + good).toNat) - amount)) 13 0 = K 13 0 := xui_a (by decide)
          obtain ⟨D37, hx37, hV37⟩ := r_notes (n := n) hR hV34 hI34 1 lock boat amount
          refine xx_callV (q := 155) (As := [_, _, _, _]) (rest := []) rfl rfl rfl (Or.inl rfl) rfl rfl (Nat.le_of_ble_eq_true rfl) xS_479 (XCm hx37 rfl) rfl ?_
          refine xx_iload (q := 157) rfl rfl rfl ?_
          refine xx_iret rfl trivial ⟨congrArg (fun z => some (Sum.inl z)) (by rfl), _, rfl, ?_⟩
          have e1 : givK K Hh boat good amount lock = (xui (xui (xui (lkmF K lock boat (dlgF K Hh boat good amount lock)) 8 (lock).toNat (hld ((K 8 (lock).toNat) + 0))) 10 (lock).toNat (nrm ((K 10 (lock).toNat) + 1))) 17 (boat * 4 + good).toNat ((K 17 (boat * 4 + good).toNat) - amount)) := by unfold givK rcvF; simp only [cmpF]; grind
          have e0 : (xui (xui (xui (lkmF K lock boat (dlgF K Hh boat good amount lock)) 8 (lock).toNat (hld ((K 8 (lock).toNat) + 0))) 10 (lock).toNat (nrm ((K 10 (lock).toNat) + 1))) 17 (boat * 4 + good).toNat ((K 17 (boat * 4 + good).toNat) - amount)) 0 1 = K 0 1 := by rw [← e1]; exact (xui_a (by decide)).trans (rcvF_k (by decide) (by decide) (by decide))
          have e3 : tB t K b B 1 lock boat amount = tB t (xui (xui (xui (lkmF K lock boat (dlgF K Hh boat good amount lock)) 8 (lock).toNat (hld ((K 8 (lock).toNat) + 0))) 10 (lock).toNat (nrm ((K 10 (lock).toNat) + 1))) 17 (boat * 4 + good).toNat ((K 17 (boat * 4 + good).toNat) - amount)) b B 1 lock boat amount := by unfold tB; rw [e0]
          rw [e1, e3]
          exact hV37
        · refine xx_aload_n (q := 88) rfl rfl rfl ?_
          refine xx_aload_n (q := 89) rfl rfl rfl ?_
          refine xx_iload (q := 91) rfl rfl rfl ?_
          have he38 : (xui (lkmF K lock boat (dlgF K Hh boat good amount lock)) 8 (lock).toNat (hld ((K 8 (lock).toNat) + 0))) 9 (lock).toNat = K 9 (lock).toNat := xui_a (by decide)
          have hx38 := r_rivalOf (n := n) hR hV10 hI10 lock (by omega) (by omega)
          rw [he38] at hx38
          have hb38 : -1 ≤ K 9 (lock).toNat ∧ K 9 (lock).toNat ≤ 8 := by rw [← he38]; exact ki_9 hI10 (lock).toNat
          refine xx_callV (q := 94) (As := [_]) (rest := [_]) rfl rfl rfl (Or.inl rfl) rfl rfl (Nat.le_of_ble_eq_true rfl) xS_479 (XCm hx38 rfl) rfl ?_
          refine xx_iload_n (q := 95) rfl rfl rfl ?_
          refine xx_iload (q := 97) rfl rfl rfl ?_
          refine xx_iconst (q := 98) rfl rfl (by decide) ?_
          refine xx_idiv (q := 99) rfl rfl (by omega) ?_
          have hd2 := xdiv_2 (d := dlgF K Hh boat good amount lock) (by omega) (by omega)
          refine xx_inegR (q := 100) rfl rfl (by omega) (by omega) ?_
          have hL39 : (xui (lkmF K lock boat (dlgF K Hh boat good amount lock)) 8 (lock).toNat (hld ((K 8 (lock).toNat) + 0))) 0 0 = K 0 0 := xui_a (by decide)
          have hL40 : (xui (lkmF K lock boat (dlgF K Hh boat good amount lock)) 8 (lock).toNat (hld ((K 8 (lock).toNat) + 0))) 13 0 = K 13 0 := xui_a (by decide)
          obtain ⟨D41, hx41, hV41⟩ := r_likes (n := n) hR hV10 hI10 (K 9 (lock).toNat) boat (-(xdiv (dlgF K Hh boat good amount lock) 2)) (by omega) (by omega) (by omega) (by omega) (by omega) (by omega)
          have hI41 : KI (lkmF (xui (lkmF K lock boat (dlgF K Hh boat good amount lock)) 8 (lock).toNat (hld ((K 8 (lock).toNat) + 0))) (K 9 (lock).toNat) boat (-(xdiv (dlgF K Hh boat good amount lock) 2))) := lkmF_I hI10
          refine xx_callV (q := 103) (As := [_, _, _]) (rest := []) rfl rfl rfl (Or.inl rfl) rfl rfl (Nat.le_of_ble_eq_true rfl) xS_479 (XCm hx41 rfl) rfl ?_
          refine xx_aload_n (q := 104) rfl rfl rfl ?_
          refine xx_getR (q := 107) rfl rfl rfl xS_479 (Nat.le_of_ble_eq_true rfl) rfl (hR.1 479 1 rfl) ?_
          refine xx_bipush (q := 109) rfl rfl (by decide) ?_
          refine xx_iload (q := 111) rfl rfl rfl ?_
          refine xx_iaddR (q := 112) rfl rfl (by omega) (by omega) ?_
          refine xx_aload_n (q := 113) rfl rfl rfl ?_
          refine xx_getR (q := 116) rfl rfl rfl xS_479 (Nat.le_of_ble_eq_true rfl) rfl (hR.1 479 1 rfl) ?_
          refine xx_bipush (q := 118) rfl rfl (by decide) ?_
          refine xx_iload (q := 120) rfl rfl rfl ?_
          refine xx_iaddR (q := 121) rfl rfl (by omega) (by omega) ?_
          have hL42 : (lkmF (xui (lkmF K lock boat (dlgF K Hh boat good amount lock)) 8 (lock).toNat (hld ((K 8 (lock).toNat) + 0))) (K 9 (lock).toNat) boat (-(xdiv (dlgF K Hh boat good amount lock) 2))) 0 0 = K 0 0 := (xui_a (by decide)).trans (xui_a (by decide))
          have hL43 : (lkmF (xui (lkmF K lock boat (dlgF K Hh boat good amount lock)) 8 (lock).toNat (hld ((K 8 (lock).toNat) + 0))) (K 9 (lock).toNat) boat (-(xdiv (dlgF K Hh boat good amount lock) 2))) 13 0 = K 13 0 := (xui_a (by decide)).trans (xui_a (by decide))
          refine xx_iaz (v := K 10 (lock).toNat) (q := 122) rfl rfl xS_480 (by omega) (by omega) ((rv_10 hV41 (p := lock) (by omega) (by omega)).trans ((xui_a (by decide)).trans (xui_a (by decide)))) ?_
          have hb44 : -2147483648 ≤ K 10 (lock).toNat ∧ K 10 (lock).toNat ≤ 2147483647 := by rw [← show (lkmF (xui (lkmF K lock boat (dlgF K Hh boat good amount lock)) 8 (lock).toNat (hld ((K 8 (lock).toNat) + 0))) (K 9 (lock).toNat) boat (-(xdiv (dlgF K Hh boat good amount lock) 2))) 10 (lock).toNat = K 10 (lock).toNat from (xui_a (by decide)).trans (xui_a (by decide))]; exact ki_10 hI41 (lock).toNat
          refine xx_iconst (q := 123) rfl rfl (by decide) ?_
          refine xx_iadd (q := 124) rfl rfl ?_
          refine xr_isz (RV t (xui (lkmF (xui (lkmF K lock boat (dlgF K Hh boat good amount lock)) 8 (lock).toNat (hld ((K 8 (lock).toNat) + 0))) (K 9 (lock).toNat) boat (-(xdiv (dlgF K Hh boat good amount lock) 2))) 10 (lock).toNat (nrm ((K 10 (lock).toNat) + 1))) b B (tU t K b U) D0) (q := 125) rfl rfl xS_480 (by omega) (by omega) (rs_10 (v := nrm ((K 10 (lock).toNat) + 1)) (p := lock) hV41 hI41 (by omega) (by omega) (by rfl)) (fun D46 hV46 => ?_)
          have hs46 : (xui (lkmF (xui (lkmF K lock boat (dlgF K Hh boat good amount lock)) 8 (lock).toNat (hld ((K 8 (lock).toNat) + 0))) (K 9 (lock).toNat) boat (-(xdiv (dlgF K Hh boat good amount lock) 2))) 10 (lock).toNat (nrm ((K 10 (lock).toNat) + 1))) 10 (lock).toNat = (nrm ((K 10 (lock).toNat) + 1)) := xui_s
          have hI46 : KI (xui (lkmF (xui (lkmF K lock boat (dlgF K Hh boat good amount lock)) 8 (lock).toNat (hld ((K 8 (lock).toNat) + 0))) (K 9 (lock).toNat) boat (-(xdiv (dlgF K Hh boat good amount lock) 2))) 10 (lock).toNat (nrm ((K 10 (lock).toNat) + 1))) := KI_up hI41 (nrm_lo _) (nrm_hi _)
          refine xx_aload_n (q := 126) rfl rfl rfl ?_
          refine xx_getR (q := 129) rfl rfl rfl xS_479 (Nat.le_of_ble_eq_true rfl) rfl (hR.1 479 1 rfl) ?_
          refine xx_bipush (q := 131) rfl rfl (by decide) ?_
          refine xx_iconst (q := 132) rfl rfl (by decide) ?_
          refine xx_iload_n (q := 133) rfl rfl rfl ?_
          refine xx_imulR (q := 134) rfl rfl (by omega) (by omega) ?_
          refine xx_iaddR (q := 135) rfl rfl (by omega) (by omega) ?_
          refine xx_iload_n (q := 136) rfl rfl rfl ?_
          refine xx_iaddR (q := 137) rfl rfl (by omega) (by omega) ?_
          refine xx_aload_n (q := 138) rfl rfl rfl ?_
          refine xx_iload_n (q := 139) rfl rfl rfl ?_
          refine xx_iload_n (q := 140) rfl rfl rfl ?_
          have he47 : (xui (lkmF (xui (lkmF K lock boat (dlgF K Hh boat good amount lock)) 8 (lock).toNat (hld ((K 8 (lock).toNat) + 0))) (K 9 (lock).toNat) boat (-(xdiv (dlgF K Hh boat good amount lock) 2))) 10 (lock).toNat (nrm ((K 10 (lock).toNat) + 1))) 17 (boat * 4 + good).toNat = K 17 (boat * 4 + good).toNat := (xui_a (by decide)).trans (xui_a (by decide))
          have hx47 := r_cargoOf (n := n) hR hV46 hI46 boat good (by omega) (by omega) (by omega) (by omega)
          rw [he47] at hx47
          have hb47 : 0 ≤ K 17 (boat * 4 + good).toNat ∧ K 17 (boat * 4 + good).toNat ≤ 99 := by rw [← he47]; exact ki_17 hI46 (boat * 4 + good).toNat
          refine xx_callV (q := 143) (As := [_, _]) (rest := [_, _]) rfl rfl rfl (Or.inl rfl) rfl rfl (Nat.le_of_ble_eq_true rfl) xS_479 (XCm hx47 rfl) rfl ?_
          refine xx_iload_n (q := 144) rfl rfl rfl ?_
          refine xx_isubR (q := 145) rfl rfl (by omega) (by omega) ?_
          have hL49 : (xui (lkmF (xui (lkmF K lock boat (dlgF K Hh boat good amount lock)) 8 (lock).toNat (hld ((K 8 (lock).toNat) + 0))) (K 9 (lock).toNat) boat (-(xdiv (dlgF K Hh boat good amount lock) 2))) 10 (lock).toNat (nrm ((K 10 (lock).toNat) + 1))) 0 0 = K 0 0 := (xui_a (by decide)).trans (xui_a (by decide))
          have hL50 : (xui (lkmF (xui (lkmF K lock boat (dlgF K Hh boat good amount lock)) 8 (lock).toNat (hld ((K 8 (lock).toNat) + 0))) (K 9 (lock).toNat) boat (-(xdiv (dlgF K Hh boat good amount lock) 2))) 10 (lock).toNat (nrm ((K 10 (lock).toNat) + 1))) 13 0 = K 13 0 := (xui_a (by decide)).trans (xui_a (by decide))
          refine xr_isz (RV t (xui (xui (lkmF (xui (lkmF K lock boat (dlgF K Hh boat good amount lock)) 8 (lock).toNat (hld ((K 8 (lock).toNat) + 0))) (K 9 (lock).toNat) boat (-(xdiv (dlgF K Hh boat good amount lock) 2))) 10 (lock).toNat (nrm ((K 10 (lock).toNat) + 1))) 17 (boat * 4 + good).toNat ((K 17 (boat * 4 + good).toNat) - amount)) b B (tU t K b U) D0) (q := 146) rfl rfl xS_480 (by omega) (by omega) (rs_17 (v := (K 17 (boat * 4 + good).toNat) - amount) (l := boat) (c := good) hV46 hI46 (by omega) (by omega) (by omega) (by omega) (by rfl)) (fun D51 hV51 => ?_)
          have hs51 : (xui (xui (lkmF (xui (lkmF K lock boat (dlgF K Hh boat good amount lock)) 8 (lock).toNat (hld ((K 8 (lock).toNat) + 0))) (K 9 (lock).toNat) boat (-(xdiv (dlgF K Hh boat good amount lock) 2))) 10 (lock).toNat (nrm ((K 10 (lock).toNat) + 1))) 17 (boat * 4 + good).toNat ((K 17 (boat * 4 + good).toNat) - amount)) 17 (boat * 4 + good).toNat = ((K 17 (boat * 4 + good).toNat) - amount) := xui_s
          have hI51 : KI (xui (xui (lkmF (xui (lkmF K lock boat (dlgF K Hh boat good amount lock)) 8 (lock).toNat (hld ((K 8 (lock).toNat) + 0))) (K 9 (lock).toNat) boat (-(xdiv (dlgF K Hh boat good amount lock) 2))) 10 (lock).toNat (nrm ((K 10 (lock).toNat) + 1))) 17 (boat * 4 + good).toNat ((K 17 (boat * 4 + good).toNat) - amount)) := KI_up hI46 (show (0 : Int) ≤ _ by omega) (show _ ≤ (99 : Int) by omega)
          refine xx_aload_n (q := 147) rfl rfl rfl ?_
          refine xx_iconst (q := 148) rfl rfl (by decide) ?_
          refine xx_iload (q := 150) rfl rfl rfl ?_
          refine xx_iload_n (q := 151) rfl rfl rfl ?_
          refine xx_iload_n (q := 152) rfl rfl rfl ?_
          have hL52 : (xui (xui (lkmF (xui (lkmF K lock boat (dlgF K Hh boat good amount lock)) 8 (lock).toNat (hld ((K 8 (lock).toNat) + 0))) (K 9 (lock).toNat) boat (-(xdiv (dlgF K Hh boat good amount lock) 2))) 10 (lock).toNat (nrm ((K 10 (lock).toNat) + 1))) 17 (boat * 4 + good).toNat ((K 17 (boat * 4 + good).toNat) - amount)) 0 0 = K 0 0 := (xui_a (by decide)).trans (xui_a (by decide))
          have hL53 : (xui (xui (lkmF (xui (lkmF K lock boat (dlgF K Hh boat good amount lock)) 8 (lock).toNat (hld ((K 8 (lock).toNat) + 0))) (K 9 (lock).toNat) boat (-(xdiv (dlgF K Hh boat good amount lock) 2))) 10 (lock).toNat (nrm ((K 10 (lock).toNat) + 1))) 17 (boat * 4 + good).toNat ((K 17 (boat * 4 + good).toNat) - amount)) 13 0 = K 13 0 := (xui_a (by decide)).trans (xui_a (by decide))
          obtain ⟨D54, hx54, hV54⟩ := r_notes (n := n) hR hV51 hI51 1 lock boat amount
          refine xx_callV (q := 155) (As := [_, _, _, _]) (rest := []) rfl rfl rfl (Or.inl rfl) rfl rfl (Nat.le_of_ble_eq_true rfl) xS_479 (XCm hx54 rfl) rfl ?_
          refine xx_iload (q := 157) rfl rfl rfl ?_
          refine xx_iret rfl trivial ⟨congrArg (fun z => some (Sum.inl z)) (by rfl), _, rfl, ?_⟩
          have e1 : givK K Hh boat good amount lock = (xui (xui (lkmF (xui (lkmF K lock boat (dlgF K Hh boat good amount lock)) 8 (lock).toNat (hld ((K 8 (lock).toNat) + 0))) (K 9 (lock).toNat) boat (-(xdiv (dlgF K Hh boat good amount lock) 2))) 10 (lock).toNat (nrm ((K 10 (lock).toNat) + 1))) 17 (boat * 4 + good).toNat ((K 17 (boat * 4 + good).toNat) - amount)) := by unfold givK rcvF; simp only [cmpF]; grind
          have e0 : (xui (xui (lkmF (xui (lkmF K lock boat (dlgF K Hh boat good amount lock)) 8 (lock).toNat (hld ((K 8 (lock).toNat) + 0))) (K 9 (lock).toNat) boat (-(xdiv (dlgF K Hh boat good amount lock) 2))) 10 (lock).toNat (nrm ((K 10 (lock).toNat) + 1))) 17 (boat * 4 + good).toNat ((K 17 (boat * 4 + good).toNat) - amount)) 0 1 = K 0 1 := by rw [← e1]; exact (xui_a (by decide)).trans (rcvF_k (by decide) (by decide) (by decide))
          have e3 : tB t K b B 1 lock boat amount = tB t (xui (xui (lkmF (xui (lkmF K lock boat (dlgF K Hh boat good amount lock)) 8 (lock).toNat (hld ((K 8 (lock).toNat) + 0))) (K 9 (lock).toNat) boat (-(xdiv (dlgF K Hh boat good amount lock) 2))) 10 (lock).toNat (nrm ((K 10 (lock).toNat) + 1))) 17 (boat * 4 + good).toNat ((K 17 (boat * 4 + good).toNat) - amount)) b B 1 lock boat amount := by unfold tB; rw [e0]
          rw [e1, e3]
          exact hV54
    · refine xx_iconst (q := 59) rfl rfl (by decide) ?_
      refine xx_goto (q := 63) rfl rfl ?_
      refine xx_iaddR (q := 64) rfl rfl (by omega) (by omega) ?_
      refine xx_bipush (q := 66) rfl rfl (by decide) ?_
      refine xx_bipush (q := 68) rfl rfl (by decide) ?_
      refine xx_callV (q := 71) (As := [_, _, _]) (rest := [_, _]) rfl rfl rfl (Or.inl rfl) rfl rfl (Nat.le_of_ble_eq_true rfl) xS_479 (XCm (r_held ((K 8 (lock).toNat) + (-1))) rfl) rfl ?_
      have hb55 := hld_b ((K 8 (lock).toNat) + (-1))
      refine xr_isz (RV t (xui (lkmF K lock boat (dlgF K Hh boat good amount lock)) 8 (lock).toNat (hld ((K 8 (lock).toNat) + (-1)))) b B (tU t K b U) D0) (q := 72) rfl rfl xS_480 (by omega) (by omega) (rs_8 (v := hld ((K 8 (lock).toNat) + (-1))) (p := lock) hV4 hI4 (by omega) (by omega) (by rfl)) (fun D57 hV57 => ?_)
      have hs57 : (xui (lkmF K lock boat (dlgF K Hh boat good amount lock)) 8 (lock).toNat (hld ((K 8 (lock).toNat) + (-1)))) 8 (lock).toNat = (hld ((K 8 (lock).toNat) + (-1))) := xui_s
      have hI57 : KI (xui (lkmF K lock boat (dlgF K Hh boat good amount lock)) 8 (lock).toNat (hld ((K 8 (lock).toNat) + (-1)))) := KI_up hI4 (show (-99 : Int) ≤ _ by omega) (show _ ≤ (99 : Int) by omega)
      refine xx_iload (q := 74) rfl rfl rfl ?_
      refine xx_if_le (q := 103) (q2 := 77) rfl rfl rfl (fun h74 => ?_) (fun h74 => ?_)
      · refine xx_aload_n (q := 104) rfl rfl rfl ?_
        refine xx_getR (q := 107) rfl rfl rfl xS_479 (Nat.le_of_ble_eq_true rfl) rfl (hR.1 479 1 rfl) ?_
        refine xx_bipush (q := 109) rfl rfl (by decide) ?_
        refine xx_iload (q := 111) rfl rfl rfl ?_
        refine xx_iaddR (q := 112) rfl rfl (by omega) (by omega) ?_
        refine xx_aload_n (q := 113) rfl rfl rfl ?_
        refine xx_getR (q := 116) rfl rfl rfl xS_479 (Nat.le_of_ble_eq_true rfl) rfl (hR.1 479 1 rfl) ?_
        refine xx_bipush (q := 118) rfl rfl (by decide) ?_
        refine xx_iload (q := 120) rfl rfl rfl ?_
        refine xx_iaddR (q := 121) rfl rfl (by omega) (by omega) ?_
        have hL58 : (xui (lkmF K lock boat (dlgF K Hh boat good amount lock)) 8 (lock).toNat (hld ((K 8 (lock).toNat) + (-1)))) 0 0 = K 0 0 := xui_a (by decide)
        have hL59 : (xui (lkmF K lock boat (dlgF K Hh boat good amount lock)) 8 (lock).toNat (hld ((K 8 (lock).toNat) + (-1)))) 13 0 = K 13 0 := xui_a (by decide)
        refine xx_iaz (v := K 10 (lock).toNat) (q := 122) rfl rfl xS_480 (by omega) (by omega) ((rv_10 hV57 (p := lock) (by omega) (by omega)).trans (xui_a (by decide))) ?_
        have hb60 : -2147483648 ≤ K 10 (lock).toNat ∧ K 10 (lock).toNat ≤ 2147483647 := by rw [← show (xui (lkmF K lock boat (dlgF K Hh boat good amount lock)) 8 (lock).toNat (hld ((K 8 (lock).toNat) + (-1)))) 10 (lock).toNat = K 10 (lock).toNat from xui_a (by decide)]; exact ki_10 hI57 (lock).toNat
        refine xx_iconst (q := 123) rfl rfl (by decide) ?_
        refine xx_iadd (q := 124) rfl rfl ?_
        refine xr_isz (RV t (xui (xui (lkmF K lock boat (dlgF K Hh boat good amount lock)) 8 (lock).toNat (hld ((K 8 (lock).toNat) + (-1)))) 10 (lock).toNat (nrm ((K 10 (lock).toNat) + 1))) b B (tU t K b U) D0) (q := 125) rfl rfl xS_480 (by omega) (by omega) (rs_10 (v := nrm ((K 10 (lock).toNat) + 1)) (p := lock) hV57 hI57 (by omega) (by omega) (by rfl)) (fun D62 hV62 => ?_)
        have hs62 : (xui (xui (lkmF K lock boat (dlgF K Hh boat good amount lock)) 8 (lock).toNat (hld ((K 8 (lock).toNat) + (-1)))) 10 (lock).toNat (nrm ((K 10 (lock).toNat) + 1))) 10 (lock).toNat = (nrm ((K 10 (lock).toNat) + 1)) := xui_s
        have hI62 : KI (xui (xui (lkmF K lock boat (dlgF K Hh boat good amount lock)) 8 (lock).toNat (hld ((K 8 (lock).toNat) + (-1)))) 10 (lock).toNat (nrm ((K 10 (lock).toNat) + 1))) := KI_up hI57 (nrm_lo _) (nrm_hi _)
        refine xx_aload_n (q := 126) rfl rfl rfl ?_
        refine xx_getR (q := 129) rfl rfl rfl xS_479 (Nat.le_of_ble_eq_true rfl) rfl (hR.1 479 1 rfl) ?_
        refine xx_bipush (q := 131) rfl rfl (by decide) ?_
        refine xx_iconst (q := 132) rfl rfl (by decide) ?_
        refine xx_iload_n (q := 133) rfl rfl rfl ?_
        refine xx_imulR (q := 134) rfl rfl (by omega) (by omega) ?_
        refine xx_iaddR (q := 135) rfl rfl (by omega) (by omega) ?_
        refine xx_iload_n (q := 136) rfl rfl rfl ?_
        refine xx_iaddR (q := 137) rfl rfl (by omega) (by omega) ?_
        refine xx_aload_n (q := 138) rfl rfl rfl ?_
        refine xx_iload_n (q := 139) rfl rfl rfl ?_
        refine xx_iload_n (q := 140) rfl rfl rfl ?_
        have he63 : (xui (xui (lkmF K lock boat (dlgF K Hh boat good amount lock)) 8 (lock).toNat (hld ((K 8 (lock).toNat) + (-1)))) 10 (lock).toNat (nrm ((K 10 (lock).toNat) + 1))) 17 (boat * 4 + good).toNat = K 17 (boat * 4 + good).toNat := xui_a (by decide)
        have hx63 := r_cargoOf (n := n) hR hV62 hI62 boat good (by omega) (by omega) (by omega) (by omega)
        rw [he63] at hx63
        have hb63 : 0 ≤ K 17 (boat * 4 + good).toNat ∧ K 17 (boat * 4 + good).toNat ≤ 99 := by rw [← he63]; exact ki_17 hI62 (boat * 4 + good).toNat
        refine xx_callV (q := 143) (As := [_, _]) (rest := [_, _]) rfl rfl rfl (Or.inl rfl) rfl rfl (Nat.le_of_ble_eq_true rfl) xS_479 (XCm hx63 rfl) rfl ?_
        refine xx_iload_n (q := 144) rfl rfl rfl ?_
        refine xx_isubR (q := 145) rfl rfl (by omega) (by omega) ?_
        have hL65 : (xui (xui (lkmF K lock boat (dlgF K Hh boat good amount lock)) 8 (lock).toNat (hld ((K 8 (lock).toNat) + (-1)))) 10 (lock).toNat (nrm ((K 10 (lock).toNat) + 1))) 0 0 = K 0 0 := xui_a (by decide)
        have hL66 : (xui (xui (lkmF K lock boat (dlgF K Hh boat good amount lock)) 8 (lock).toNat (hld ((K 8 (lock).toNat) + (-1)))) 10 (lock).toNat (nrm ((K 10 (lock).toNat) + 1))) 13 0 = K 13 0 := xui_a (by decide)
        refine xr_isz (RV t (xui (xui (xui (lkmF K lock boat (dlgF K Hh boat good amount lock)) 8 (lock).toNat (hld ((K 8 (lock).toNat) + (-1)))) 10 (lock).toNat (nrm ((K 10 (lock).toNat) + 1))) 17 (boat * 4 + good).toNat ((K 17 (boat * 4 + good).toNat) - amount)) b B (tU t K b U) D0) (q := 146) rfl rfl xS_480 (by omega) (by omega) (rs_17 (v := (K 17 (boat * 4 + good).toNat) - amount) (l := boat) (c := good) hV62 hI62 (by omega) (by omega) (by omega) (by omega) (by rfl)) (fun D67 hV67 => ?_)
        have hs67 : (xui (xui (xui (lkmF K lock boat (dlgF K Hh boat good amount lock)) 8 (lock).toNat (hld ((K 8 (lock).toNat) + (-1)))) 10 (lock).toNat (nrm ((K 10 (lock).toNat) + 1))) 17 (boat * 4 + good).toNat ((K 17 (boat * 4 + good).toNat) - amount)) 17 (boat * 4 + good).toNat = ((K 17 (boat * 4 + good).toNat) - amount) := xui_s
        have hI67 : KI (xui (xui (xui (lkmF K lock boat (dlgF K Hh boat good amount lock)) 8 (lock).toNat (hld ((K 8 (lock).toNat) + (-1)))) 10 (lock).toNat (nrm ((K 10 (lock).toNat) + 1))) 17 (boat * 4 + good).toNat ((K 17 (boat * 4 + good).toNat) - amount)) := KI_up hI62 (show (0 : Int) ≤ _ by omega) (show _ ≤ (99 : Int) by omega)
        refine xx_aload_n (q := 147) rfl rfl rfl ?_
        refine xx_iconst (q := 148) rfl rfl (by decide) ?_
        refine xx_iload (q := 150) rfl rfl rfl ?_
        refine xx_iload_n (q := 151) rfl rfl rfl ?_
        refine xx_iload_n (q := 152) rfl rfl rfl ?_
        have hL68 : (xui (xui (xui (lkmF K lock boat (dlgF K Hh boat good amount lock)) 8 (lock).toNat (hld ((K 8 (lock).toNat) + (-1)))) 10 (lock).toNat (nrm ((K 10 (lock).toNat) + 1))) 17 (boat * 4 + good).toNat ((K 17 (boat * 4 + good).toNat) - amount)) 0 0 = K 0 0 := xui_a (by decide)
        have hL69 : (xui (xui (xui (lkmF K lock boat (dlgF K Hh boat good amount lock)) 8 (lock).toNat (hld ((K 8 (lock).toNat) + (-1)))) 10 (lock).toNat (nrm ((K 10 (lock).toNat) + 1))) 17 (boat * 4 + good).toNat ((K 17 (boat * 4 + good).toNat) - amount)) 13 0 = K 13 0 := xui_a (by decide)
        obtain ⟨D70, hx70, hV70⟩ := r_notes (n := n) hR hV67 hI67 1 lock boat amount
        refine xx_callV (q := 155) (As := [_, _, _, _]) (rest := []) rfl rfl rfl (Or.inl rfl) rfl rfl (Nat.le_of_ble_eq_true rfl) xS_479 (XCm hx70 rfl) rfl ?_
        refine xx_iload (q := 157) rfl rfl rfl ?_
        refine xx_iret rfl trivial ⟨congrArg (fun z => some (Sum.inl z)) (by rfl), _, rfl, ?_⟩
        have e1 : givK K Hh boat good amount lock = (xui (xui (xui (lkmF K lock boat (dlgF K Hh boat good amount lock)) 8 (lock).toNat (hld ((K 8 (lock).toNat) + (-1)))) 10 (lock).toNat (nrm ((K 10 (lock).toNat) + 1))) 17 (boat * 4 + good).toNat ((K 17 (boat * 4 + good).toNat) - amount)) := by unfold givK rcvF; simp only [cmpF]; grind
        have e0 : (xui (xui (xui (lkmF K lock boat (dlgF K Hh boat good amount lock)) 8 (lock).toNat (hld ((K 8 (lock).toNat) + (-1)))) 10 (lock).toNat (nrm ((K 10 (lock).toNat) + 1))) 17 (boat * 4 + good).toNat ((K 17 (boat * 4 + good).toNat) - amount)) 0 1 = K 0 1 := by rw [← e1]; exact (xui_a (by decide)).trans (rcvF_k (by decide) (by decide) (by decide))
        have e3 : tB t K b B 1 lock boat amount = tB t (xui (xui (xui (lkmF K lock boat (dlgF K Hh boat good amount lock)) 8 (lock).toNat (hld ((K 8 (lock).toNat) + (-1)))) 10 (lock).toNat (nrm ((K 10 (lock).toNat) + 1))) 17 (boat * 4 + good).toNat ((K 17 (boat * 4 + good).toNat) - amount)) b B 1 lock boat amount := by unfold tB; rw [e0]
        rw [e1, e3]
        exact hV70
      · refine xx_aload_n (q := 78) rfl rfl rfl ?_
        refine xx_iload (q := 80) rfl rfl rfl ?_
        have he71 : (xui (lkmF K lock boat (dlgF K Hh boat good amount lock)) 8 (lock).toNat (hld ((K 8 (lock).toNat) + (-1)))) 9 (lock).toNat = K 9 (lock).toNat := xui_a (by decide)
        have hx71 := r_rivalOf (n := n) hR hV57 hI57 lock (by omega) (by omega)
        rw [he71] at hx71
        have hb71 : -1 ≤ K 9 (lock).toNat ∧ K 9 (lock).toNat ≤ 8 := by rw [← he71]; exact ki_9 hI57 (lock).toNat
        refine xx_callV (q := 83) (As := [_]) (rest := []) rfl rfl rfl (Or.inl rfl) rfl rfl (Nat.le_of_ble_eq_true rfl) xS_479 (XCm hx71 rfl) rfl ?_
        refine xx_iconst (q := 84) rfl rfl (by decide) ?_
        refine xx_icmp_eq (q := 103) (q2 := 87) rfl rfl rfl (fun h84 => ?_) (fun h84 => ?_)
        · refine xx_aload_n (q := 104) rfl rfl rfl ?_
          refine xx_getR (q := 107) rfl rfl rfl xS_479 (Nat.le_of_ble_eq_true rfl) rfl (hR.1 479 1 rfl) ?_
          refine xx_bipush (q := 109) rfl rfl (by decide) ?_
          refine xx_iload (q := 111) rfl rfl rfl ?_
          refine xx_iaddR (q := 112) rfl rfl (by omega) (by omega) ?_
          refine xx_aload_n (q := 113) rfl rfl rfl ?_
          refine xx_getR (q := 116) rfl rfl rfl xS_479 (Nat.le_of_ble_eq_true rfl) rfl (hR.1 479 1 rfl) ?_
          refine xx_bipush (q := 118) rfl rfl (by decide) ?_
          refine xx_iload (q := 120) rfl rfl rfl ?_
          refine xx_iaddR (q := 121) rfl rfl (by omega) (by omega) ?_
          have hL72 : (xui (lkmF K lock boat (dlgF K Hh boat good amount lock)) 8 (lock).toNat (hld ((K 8 (lock).toNat) + (-1)))) 0 0 = K 0 0 := xui_a (by decide)
          have hL73 : (xui (lkmF K lock boat (dlgF K Hh boat good amount lock)) 8 (lock).toNat (hld ((K 8 (lock).toNat) + (-1)))) 13 0 = K 13 0 := xui_a (by decide)
          refine xx_iaz (v := K 10 (lock).toNat) (q := 122) rfl rfl xS_480 (by omega) (by omega) ((rv_10 hV57 (p := lock) (by omega) (by omega)).trans (xui_a (by decide))) ?_
          have hb74 : -2147483648 ≤ K 10 (lock).toNat ∧ K 10 (lock).toNat ≤ 2147483647 := by rw [← show (xui (lkmF K lock boat (dlgF K Hh boat good amount lock)) 8 (lock).toNat (hld ((K 8 (lock).toNat) + (-1)))) 10 (lock).toNat = K 10 (lock).toNat from xui_a (by decide)]; exact ki_10 hI57 (lock).toNat
          refine xx_iconst (q := 123) rfl rfl (by decide) ?_
          refine xx_iadd (q := 124) rfl rfl ?_
          refine xr_isz (RV t (xui (xui (lkmF K lock boat (dlgF K Hh boat good amount lock)) 8 (lock).toNat (hld ((K 8 (lock).toNat) + (-1)))) 10 (lock).toNat (nrm ((K 10 (lock).toNat) + 1))) b B (tU t K b U) D0) (q := 125) rfl rfl xS_480 (by omega) (by omega) (rs_10 (v := nrm ((K 10 (lock).toNat) + 1)) (p := lock) hV57 hI57 (by omega) (by omega) (by rfl)) (fun D76 hV76 => ?_)
          have hs76 : (xui (xui (lkmF K lock boat (dlgF K Hh boat good amount lock)) 8 (lock).toNat (hld ((K 8 (lock).toNat) + (-1)))) 10 (lock).toNat (nrm ((K 10 (lock).toNat) + 1))) 10 (lock).toNat = (nrm ((K 10 (lock).toNat) + 1)) := xui_s
          have hI76 : KI (xui (xui (lkmF K lock boat (dlgF K Hh boat good amount lock)) 8 (lock).toNat (hld ((K 8 (lock).toNat) + (-1)))) 10 (lock).toNat (nrm ((K 10 (lock).toNat) + 1))) := KI_up hI57 (nrm_lo _) (nrm_hi _)
          refine xx_aload_n (q := 126) rfl rfl rfl ?_
          refine xx_getR (q := 129) rfl rfl rfl xS_479 (Nat.le_of_ble_eq_true rfl) rfl (hR.1 479 1 rfl) ?_
          refine xx_bipush (q := 131) rfl rfl (by decide) ?_
          refine xx_iconst (q := 132) rfl rfl (by decide) ?_
          refine xx_iload_n (q := 133) rfl rfl rfl ?_
          refine xx_imulR (q := 134) rfl rfl (by omega) (by omega) ?_
          refine xx_iaddR (q := 135) rfl rfl (by omega) (by omega) ?_
          refine xx_iload_n (q := 136) rfl rfl rfl ?_
          refine xx_iaddR (q := 137) rfl rfl (by omega) (by omega) ?_
          refine xx_aload_n (q := 138) rfl rfl rfl ?_
          refine xx_iload_n (q := 139) rfl rfl rfl ?_
          refine xx_iload_n (q := 140) rfl rfl rfl ?_
          have he77 : (xui (xui (lkmF K lock boat (dlgF K Hh boat good amount lock)) 8 (lock).toNat (hld ((K 8 (lock).toNat) + (-1)))) 10 (lock).toNat (nrm ((K 10 (lock).toNat) + 1))) 17 (boat * 4 + good).toNat = K 17 (boat * 4 + good).toNat := xui_a (by decide)
          have hx77 := r_cargoOf (n := n) hR hV76 hI76 boat good (by omega) (by omega) (by omega) (by omega)
          rw [he77] at hx77
          have hb77 : 0 ≤ K 17 (boat * 4 + good).toNat ∧ K 17 (boat * 4 + good).toNat ≤ 99 := by rw [← he77]; exact ki_17 hI76 (boat * 4 + good).toNat
          refine xx_callV (q := 143) (As := [_, _]) (rest := [_, _]) rfl rfl rfl (Or.inl rfl) rfl rfl (Nat.le_of_ble_eq_true rfl) xS_479 (XCm hx77 rfl) rfl ?_
          refine xx_iload_n (q := 144) rfl rfl rfl ?_
          refine xx_isubR (q := 145) rfl rfl (by omega) (by omega) ?_
          have hL79 : (xui (xui (lkmF K lock boat (dlgF K Hh boat good amount lock)) 8 (lock).toNat (hld ((K 8 (lock).toNat) + (-1)))) 10 (lock).toNat (nrm ((K 10 (lock).toNat) + 1))) 0 0 = K 0 0 := xui_a (by decide)
          have hL80 : (xui (xui (lkmF K lock boat (dlgF K Hh boat good amount lock)) 8 (lock).toNat (hld ((K 8 (lock).toNat) + (-1)))) 10 (lock).toNat (nrm ((K 10 (lock).toNat) + 1))) 13 0 = K 13 0 := xui_a (by decide)
          refine xr_isz (RV t (xui (xui (xui (lkmF K lock boat (dlgF K Hh boat good amount lock)) 8 (lock).toNat (hld ((K 8 (lock).toNat) + (-1)))) 10 (lock).toNat (nrm ((K 10 (lock).toNat) + 1))) 17 (boat * 4 + good).toNat ((K 17 (boat * 4 + good).toNat) - amount)) b B (tU t K b U) D0) (q := 146) rfl rfl xS_480 (by omega) (by omega) (rs_17 (v := (K 17 (boat * 4 + good).toNat) - amount) (l := boat) (c := good) hV76 hI76 (by omega) (by omega) (by omega) (by omega) (by rfl)) (fun D81 hV81 => ?_)
          have hs81 : (xui (xui (xui (lkmF K lock boat (dlgF K Hh boat good amount lock)) 8 (lock).toNat (hld ((K 8 (lock).toNat) + (-1)))) 10 (lock).toNat (nrm ((K 10 (lock).toNat) + 1))) 17 (boat * 4 + good).toNat ((K 17 (boat * 4 + good).toNat) - amount)) 17 (boat * 4 + good).toNat = ((K 17 (boat * 4 + good).toNat) - amount) := xui_s
          have hI81 : KI (xui (xui (xui (lkmF K lock boat (dlgF K Hh boat good amount lock)) 8 (lock).toNat (hld ((K 8 (lock).toNat) + (-1)))) 10 (lock).toNat (nrm ((K 10 (lock).toNat) + 1))) 17 (boat * 4 + good).toNat ((K 17 (boat * 4 + good).toNat) - amount)) := KI_up hI76 (show (0 : Int) ≤ _ by omega) (show _ ≤ (99 : Int) by omega)
          refine xx_aload_n (q := 147) rfl rfl rfl ?_
          refine xx_iconst (q := 148) rfl rfl (by decide) ?_
          refine xx_iload (q := 150) rfl rfl rfl ?_
          refine xx_iload_n (q := 151) rfl rfl rfl ?_
          refine xx_iload_n (q := 152) rfl rfl rfl ?_
          have hL82 : (xui (xui (xui (lkmF K lock boat (dlgF K Hh boat good amount lock)) 8 (lock).toNat (hld ((K 8 (lock).toNat) + (-1)))) 10 (lock).toNat (nrm ((K 10 (lock).toNat) + 1))) 17 (boat * 4 + good).toNat ((K 17 (boat * 4 + good).toNat) - amount)) 0 0 = K 0 0 := xui_a (by decide)
          have hL83 : (xui (xui (xui (lkmF K lock boat (dlgF K Hh boat good amount lock)) 8 (lock).toNat (hld ((K 8 (lock).toNat) + (-1)))) 10 (lock).toNat (nrm ((K 10 (lock).toNat) + 1))) 17 (boat * 4 + good).toNat ((K 17 (boat * 4 + good).toNat) - amount)) 13 0 = K 13 0 := xui_a (by decide)
          obtain ⟨D84, hx84, hV84⟩ := r_notes (n := n) hR hV81 hI81 1 lock boat amount
          refine xx_callV (q := 155) (As := [_, _, _, _]) (rest := []) rfl rfl rfl (Or.inl rfl) rfl rfl (Nat.le_of_ble_eq_true rfl) xS_479 (XCm hx84 rfl) rfl ?_
          refine xx_iload (q := 157) rfl rfl rfl ?_
          refine xx_iret rfl trivial ⟨congrArg (fun z => some (Sum.inl z)) (by rfl), _, rfl, ?_⟩
          have e1 : givK K Hh boat good amount lock = (xui (xui (xui (lkmF K lock boat (dlgF K Hh boat good amount lock)) 8 (lock).toNat (hld ((K 8 (lock).toNat) + (-1)))) 10 (lock).toNat (nrm ((K 10 (lock).toNat) + 1))) 17 (boat * 4 + good).toNat ((K 17 (boat * 4 + good).toNat) - amount)) := by unfold givK rcvF; simp only [cmpF]; grind
          have e0 : (xui (xui (xui (lkmF K lock boat (dlgF K Hh boat good amount lock)) 8 (lock).toNat (hld ((K 8 (lock).toNat) + (-1)))) 10 (lock).toNat (nrm ((K 10 (lock).toNat) + 1))) 17 (boat * 4 + good).toNat ((K 17 (boat * 4 + good).toNat) - amount)) 0 1 = K 0 1 := by rw [← e1]; exact (xui_a (by decide)).trans (rcvF_k (by decide) (by decide) (by decide))
          have e3 : tB t K b B 1 lock boat amount = tB t (xui (xui (xui (lkmF K lock boat (dlgF K Hh boat good amount lock)) 8 (lock).toNat (hld ((K 8 (lock).toNat) + (-1)))) 10 (lock).toNat (nrm ((K 10 (lock).toNat) + 1))) 17 (boat * 4 + good).toNat ((K 17 (boat * 4 + good).toNat) - amount)) b B 1 lock boat amount := by unfold tB; rw [e0]
          rw [e1, e3]
          exact hV84
        · refine xx_aload_n (q := 88) rfl rfl rfl ?_
          refine xx_aload_n (q := 89) rfl rfl rfl ?_
          refine xx_iload (q := 91) rfl rfl rfl ?_
          have he85 : (xui (lkmF K lock boat (dlgF K Hh boat good amount lock)) 8 (lock).toNat (hld ((K 8 (lock).toNat) + (-1)))) 9 (lock).toNat = K 9 (lock).toNat := xui_a (by decide)
          have hx85 := r_rivalOf (n := n) hR hV57 hI57 lock (by omega) (by omega)
          rw [he85] at hx85
          have hb85 : -1 ≤ K 9 (lock).toNat ∧ K 9 (lock).toNat ≤ 8 := by rw [← he85]; exact ki_9 hI57 (lock).toNat
          refine xx_callV (q := 94) (As := [_]) (rest := [_]) rfl rfl rfl (Or.inl rfl) rfl rfl (Nat.le_of_ble_eq_true rfl) xS_479 (XCm hx85 rfl) rfl ?_
          refine xx_iload_n (q := 95) rfl rfl rfl ?_
          refine xx_iload (q := 97) rfl rfl rfl ?_
          refine xx_iconst (q := 98) rfl rfl (by decide) ?_
          refine xx_idiv (q := 99) rfl rfl (by omega) ?_
          have hd2 := xdiv_2 (d := dlgF K Hh boat good amount lock) (by omega) (by omega)
          refine xx_inegR (q := 100) rfl rfl (by omega) (by omega) ?_
          have hL86 : (xui (lkmF K lock boat (dlgF K Hh boat good amount lock)) 8 (lock).toNat (hld ((K 8 (lock).toNat) + (-1)))) 0 0 = K 0 0 := xui_a (by decide)
          have hL87 : (xui (lkmF K lock boat (dlgF K Hh boat good amount lock)) 8 (lock).toNat (hld ((K 8 (lock).toNat) + (-1)))) 13 0 = K 13 0 := xui_a (by decide)
          obtain ⟨D88, hx88, hV88⟩ := r_likes (n := n) hR hV57 hI57 (K 9 (lock).toNat) boat (-(xdiv (dlgF K Hh boat good amount lock) 2)) (by omega) (by omega) (by omega) (by omega) (by omega) (by omega)
          have hI88 : KI (lkmF (xui (lkmF K lock boat (dlgF K Hh boat good amount lock)) 8 (lock).toNat (hld ((K 8 (lock).toNat) + (-1)))) (K 9 (lock).toNat) boat (-(xdiv (dlgF K Hh boat good amount lock) 2))) := lkmF_I hI57
          refine xx_callV (q := 103) (As := [_, _, _]) (rest := []) rfl rfl rfl (Or.inl rfl) rfl rfl (Nat.le_of_ble_eq_true rfl) xS_479 (XCm hx88 rfl) rfl ?_
          refine xx_aload_n (q := 104) rfl rfl rfl ?_
          refine xx_getR (q := 107) rfl rfl rfl xS_479 (Nat.le_of_ble_eq_true rfl) rfl (hR.1 479 1 rfl) ?_
          refine xx_bipush (q := 109) rfl rfl (by decide) ?_
          refine xx_iload (q := 111) rfl rfl rfl ?_
          refine xx_iaddR (q := 112) rfl rfl (by omega) (by omega) ?_
          refine xx_aload_n (q := 113) rfl rfl rfl ?_
          refine xx_getR (q := 116) rfl rfl rfl xS_479 (Nat.le_of_ble_eq_true rfl) rfl (hR.1 479 1 rfl) ?_
          refine xx_bipush (q := 118) rfl rfl (by decide) ?_
          refine xx_iload (q := 120) rfl rfl rfl ?_
          refine xx_iaddR (q := 121) rfl rfl (by omega) (by omega) ?_
          have hL89 : (lkmF (xui (lkmF K lock boat (dlgF K Hh boat good amount lock)) 8 (lock).toNat (hld ((K 8 (lock).toNat) + (-1)))) (K 9 (lock).toNat) boat (-(xdiv (dlgF K Hh boat good amount lock) 2))) 0 0 = K 0 0 := (xui_a (by decide)).trans (xui_a (by decide))
          have hL90 : (lkmF (xui (lkmF K lock boat (dlgF K Hh boat good amount lock)) 8 (lock).toNat (hld ((K 8 (lock).toNat) + (-1)))) (K 9 (lock).toNat) boat (-(xdiv (dlgF K Hh boat good amount lock) 2))) 13 0 = K 13 0 := (xui_a (by decide)).trans (xui_a (by decide))
          refine xx_iaz (v := K 10 (lock).toNat) (q := 122) rfl rfl xS_480 (by omega) (by omega) ((rv_10 hV88 (p := lock) (by omega) (by omega)).trans ((xui_a (by decide)).trans (xui_a (by decide)))) ?_
          have hb91 : -2147483648 ≤ K 10 (lock).toNat ∧ K 10 (lock).toNat ≤ 2147483647 := by rw [← show (lkmF (xui (lkmF K lock boat (dlgF K Hh boat good amount lock)) 8 (lock).toNat (hld ((K 8 (lock).toNat) + (-1)))) (K 9 (lock).toNat) boat (-(xdiv (dlgF K Hh boat good amount lock) 2))) 10 (lock).toNat = K 10 (lock).toNat from (xui_a (by decide)).trans (xui_a (by decide))]; exact ki_10 hI88 (lock).toNat
          refine xx_iconst (q := 123) rfl rfl (by decide) ?_
          refine xx_iadd (q := 124) rfl rfl ?_
          refine xr_isz (RV t (xui (lkmF (xui (lkmF K lock boat (dlgF K Hh boat good amount lock)) 8 (lock).toNat (hld ((K 8 (lock).toNat) + (-1)))) (K 9 (lock).toNat) boat (-(xdiv (dlgF K Hh boat good amount lock) 2))) 10 (lock).toNat (nrm ((K 10 (lock).toNat) + 1))) b B (tU t K b U) D0) (q := 125) rfl rfl xS_480 (by omega) (by omega) (rs_10 (v := nrm ((K 10 (lock).toNat) + 1)) (p := lock) hV88 hI88 (by omega) (by omega) (by rfl)) (fun D93 hV93 => ?_)
          have hs93 : (xui (lkmF (xui (lkmF K lock boat (dlgF K Hh boat good amount lock)) 8 (lock).toNat (hld ((K 8 (lock).toNat) + (-1)))) (K 9 (lock).toNat) boat (-(xdiv (dlgF K Hh boat good amount lock) 2))) 10 (lock).toNat (nrm ((K 10 (lock).toNat) + 1))) 10 (lock).toNat = (nrm ((K 10 (lock).toNat) + 1)) := xui_s
          have hI93 : KI (xui (lkmF (xui (lkmF K lock boat (dlgF K Hh boat good amount lock)) 8 (lock).toNat (hld ((K 8 (lock).toNat) + (-1)))) (K 9 (lock).toNat) boat (-(xdiv (dlgF K Hh boat good amount lock) 2))) 10 (lock).toNat (nrm ((K 10 (lock).toNat) + 1))) := KI_up hI88 (nrm_lo _) (nrm_hi _)
          refine xx_aload_n (q := 126) rfl rfl rfl ?_
          refine xx_getR (q := 129) rfl rfl rfl xS_479 (Nat.le_of_ble_eq_true rfl) rfl (hR.1 479 1 rfl) ?_
          refine xx_bipush (q := 131) rfl rfl (by decide) ?_
          refine xx_iconst (q := 132) rfl rfl (by decide) ?_
          refine xx_iload_n (q := 133) rfl rfl rfl ?_
          refine xx_imulR (q := 134) rfl rfl (by omega) (by omega) ?_
          refine xx_iaddR (q := 135) rfl rfl (by omega) (by omega) ?_
          refine xx_iload_n (q := 136) rfl rfl rfl ?_
          refine xx_iaddR (q := 137) rfl rfl (by omega) (by omega) ?_
          refine xx_aload_n (q := 138) rfl rfl rfl ?_
          refine xx_iload_n (q := 139) rfl rfl rfl ?_
          refine xx_iload_n (q := 140) rfl rfl rfl ?_
          have he94 : (xui (lkmF (xui (lkmF K lock boat (dlgF K Hh boat good amount lock)) 8 (lock).toNat (hld ((K 8 (lock).toNat) + (-1)))) (K 9 (lock).toNat) boat (-(xdiv (dlgF K Hh boat good amount lock) 2))) 10 (lock).toNat (nrm ((K 10 (lock).toNat) + 1))) 17 (boat * 4 + good).toNat = K 17 (boat * 4 + good).toNat := (xui_a (by decide)).trans (xui_a (by decide))
          have hx94 := r_cargoOf (n := n) hR hV93 hI93 boat good (by omega) (by omega) (by omega) (by omega)
          rw [he94] at hx94
          have hb94 : 0 ≤ K 17 (boat * 4 + good).toNat ∧ K 17 (boat * 4 + good).toNat ≤ 99 := by rw [← he94]; exact ki_17 hI93 (boat * 4 + good).toNat
          refine xx_callV (q := 143) (As := [_, _]) (rest := [_, _]) rfl rfl rfl (Or.inl rfl) rfl rfl (Nat.le_of_ble_eq_true rfl) xS_479 (XCm hx94 rfl) rfl ?_
          refine xx_iload_n (q := 144) rfl rfl rfl ?_
          refine xx_isubR (q := 145) rfl rfl (by omega) (by omega) ?_
          have hL96 : (xui (lkmF (xui (lkmF K lock boat (dlgF K Hh boat good amount lock)) 8 (lock).toNat (hld ((K 8 (lock).toNat) + (-1)))) (K 9 (lock).toNat) boat (-(xdiv (dlgF K Hh boat good amount lock) 2))) 10 (lock).toNat (nrm ((K 10 (lock).toNat) + 1))) 0 0 = K 0 0 := (xui_a (by decide)).trans (xui_a (by decide))
          have hL97 : (xui (lkmF (xui (lkmF K lock boat (dlgF K Hh boat good amount lock)) 8 (lock).toNat (hld ((K 8 (lock).toNat) + (-1)))) (K 9 (lock).toNat) boat (-(xdiv (dlgF K Hh boat good amount lock) 2))) 10 (lock).toNat (nrm ((K 10 (lock).toNat) + 1))) 13 0 = K 13 0 := (xui_a (by decide)).trans (xui_a (by decide))
          refine xr_isz (RV t (xui (xui (lkmF (xui (lkmF K lock boat (dlgF K Hh boat good amount lock)) 8 (lock).toNat (hld ((K 8 (lock).toNat) + (-1)))) (K 9 (lock).toNat) boat (-(xdiv (dlgF K Hh boat good amount lock) 2))) 10 (lock).toNat (nrm ((K 10 (lock).toNat) + 1))) 17 (boat * 4 + good).toNat ((K 17 (boat * 4 + good).toNat) - amount)) b B (tU t K b U) D0) (q := 146) rfl rfl xS_480 (by omega) (by omega) (rs_17 (v := (K 17 (boat * 4 + good).toNat) - amount) (l := boat) (c := good) hV93 hI93 (by omega) (by omega) (by omega) (by omega) (by rfl)) (fun D98 hV98 => ?_)
          have hs98 : (xui (xui (lkmF (xui (lkmF K lock boat (dlgF K Hh boat good amount lock)) 8 (lock).toNat (hld ((K 8 (lock).toNat) + (-1)))) (K 9 (lock).toNat) boat (-(xdiv (dlgF K Hh boat good amount lock) 2))) 10 (lock).toNat (nrm ((K 10 (lock).toNat) + 1))) 17 (boat * 4 + good).toNat ((K 17 (boat * 4 + good).toNat) - amount)) 17 (boat * 4 + good).toNat = ((K 17 (boat * 4 + good).toNat) - amount) := xui_s
          have hI98 : KI (xui (xui (lkmF (xui (lkmF K lock boat (dlgF K Hh boat good amount lock)) 8 (lock).toNat (hld ((K 8 (lock).toNat) + (-1)))) (K 9 (lock).toNat) boat (-(xdiv (dlgF K Hh boat good amount lock) 2))) 10 (lock).toNat (nrm ((K 10 (lock).toNat) + 1))) 17 (boat * 4 + good).toNat ((K 17 (boat * 4 + good).toNat) - amount)) := KI_up hI93 (show (0 : Int) ≤ _ by omega) (show _ ≤ (99 : Int) by omega)
          refine xx_aload_n (q := 147) rfl rfl rfl ?_
          refine xx_iconst (q := 148) rfl rfl (by decide) ?_
          refine xx_iload (q := 150) rfl rfl rfl ?_
          refine xx_iload_n (q := 151) rfl rfl rfl ?_
          refine xx_iload_n (q := 152) rfl rfl rfl ?_
          have hL99 : (xui (xui (lkmF (xui (lkmF K lock boat (dlgF K Hh boat good amount lock)) 8 (lock).toNat (hld ((K 8 (lock).toNat) + (-1)))) (K 9 (lock).toNat) boat (-(xdiv (dlgF K Hh boat good amount lock) 2))) 10 (lock).toNat (nrm ((K 10 (lock).toNat) + 1))) 17 (boat * 4 + good).toNat ((K 17 (boat * 4 + good).toNat) - amount)) 0 0 = K 0 0 := (xui_a (by decide)).trans (xui_a (by decide))
          have hL100 : (xui (xui (lkmF (xui (lkmF K lock boat (dlgF K Hh boat good amount lock)) 8 (lock).toNat (hld ((K 8 (lock).toNat) + (-1)))) (K 9 (lock).toNat) boat (-(xdiv (dlgF K Hh boat good amount lock) 2))) 10 (lock).toNat (nrm ((K 10 (lock).toNat) + 1))) 17 (boat * 4 + good).toNat ((K 17 (boat * 4 + good).toNat) - amount)) 13 0 = K 13 0 := (xui_a (by decide)).trans (xui_a (by decide))
          obtain ⟨D101, hx101, hV101⟩ := r_notes (n := n) hR hV98 hI98 1 lock boat amount
          refine xx_callV (q := 155) (As := [_, _, _, _]) (rest := []) rfl rfl rfl (Or.inl rfl) rfl rfl (Nat.le_of_ble_eq_true rfl) xS_479 (XCm hx101 rfl) rfl ?_
          refine xx_iload (q := 157) rfl rfl rfl ?_
          refine xx_iret rfl trivial ⟨congrArg (fun z => some (Sum.inl z)) (by rfl), _, rfl, ?_⟩
          have e1 : givK K Hh boat good amount lock = (xui (xui (lkmF (xui (lkmF K lock boat (dlgF K Hh boat good amount lock)) 8 (lock).toNat (hld ((K 8 (lock).toNat) + (-1)))) (K 9 (lock).toNat) boat (-(xdiv (dlgF K Hh boat good amount lock) 2))) 10 (lock).toNat (nrm ((K 10 (lock).toNat) + 1))) 17 (boat * 4 + good).toNat ((K 17 (boat * 4 + good).toNat) - amount)) := by unfold givK rcvF; simp only [cmpF]; grind
          have e0 : (xui (xui (lkmF (xui (lkmF K lock boat (dlgF K Hh boat good amount lock)) 8 (lock).toNat (hld ((K 8 (lock).toNat) + (-1)))) (K 9 (lock).toNat) boat (-(xdiv (dlgF K Hh boat good amount lock) 2))) 10 (lock).toNat (nrm ((K 10 (lock).toNat) + 1))) 17 (boat * 4 + good).toNat ((K 17 (boat * 4 + good).toNat) - amount)) 0 1 = K 0 1 := by rw [← e1]; exact (xui_a (by decide)).trans (rcvF_k (by decide) (by decide) (by decide))
          have e3 : tB t K b B 1 lock boat amount = tB t (xui (xui (lkmF (xui (lkmF K lock boat (dlgF K Hh boat good amount lock)) 8 (lock).toNat (hld ((K 8 (lock).toNat) + (-1)))) (K 9 (lock).toNat) boat (-(xdiv (dlgF K Hh boat good amount lock) 2))) 10 (lock).toNat (nrm ((K 10 (lock).toNat) + 1))) 17 (boat * 4 + good).toNat ((K 17 (boat * 4 + good).toNat) - amount)) b B 1 lock boat amount := by unfold tB; rw [e0]
          rw [e1, e3]
          exact hV101
  · refine xx_iconst (q := 50) rfl rfl (by decide) ?_
    refine xx_goto (q := 63) rfl rfl ?_
    refine xx_iaddR (q := 64) rfl rfl (by omega) (by omega) ?_
    refine xx_bipush (q := 66) rfl rfl (by decide) ?_
    refine xx_bipush (q := 68) rfl rfl (by decide) ?_
    refine xx_callV (q := 71) (As := [_, _, _]) (rest := [_, _]) rfl rfl rfl (Or.inl rfl) rfl rfl (Nat.le_of_ble_eq_true rfl) xS_479 (XCm (r_held ((K 8 (lock).toNat) + 1)) rfl) rfl ?_
    have hb102 := hld_b ((K 8 (lock).toNat) + 1)
    refine xr_isz (RV t (xui (lkmF K lock boat (dlgF K Hh boat good amount lock)) 8 (lock).toNat (hld ((K 8 (lock).toNat) + 1))) b B (tU t K b U) D0) (q := 72) rfl rfl xS_480 (by omega) (by omega) (rs_8 (v := hld ((K 8 (lock).toNat) + 1)) (p := lock) hV4 hI4 (by omega) (by omega) (by rfl)) (fun D104 hV104 => ?_)
    have hs104 : (xui (lkmF K lock boat (dlgF K Hh boat good amount lock)) 8 (lock).toNat (hld ((K 8 (lock).toNat) + 1))) 8 (lock).toNat = (hld ((K 8 (lock).toNat) + 1)) := xui_s
    have hI104 : KI (xui (lkmF K lock boat (dlgF K Hh boat good amount lock)) 8 (lock).toNat (hld ((K 8 (lock).toNat) + 1))) := KI_up hI4 (show (-99 : Int) ≤ _ by omega) (show _ ≤ (99 : Int) by omega)
    refine xx_iload (q := 74) rfl rfl rfl ?_
    refine xx_if_le (q := 103) (q2 := 77) rfl rfl rfl (fun h74 => ?_) (fun h74 => ?_)
    · refine xx_aload_n (q := 104) rfl rfl rfl ?_
      refine xx_getR (q := 107) rfl rfl rfl xS_479 (Nat.le_of_ble_eq_true rfl) rfl (hR.1 479 1 rfl) ?_
      refine xx_bipush (q := 109) rfl rfl (by decide) ?_
      refine xx_iload (q := 111) rfl rfl rfl ?_
      refine xx_iaddR (q := 112) rfl rfl (by omega) (by omega) ?_
      refine xx_aload_n (q := 113) rfl rfl rfl ?_
      refine xx_getR (q := 116) rfl rfl rfl xS_479 (Nat.le_of_ble_eq_true rfl) rfl (hR.1 479 1 rfl) ?_
      refine xx_bipush (q := 118) rfl rfl (by decide) ?_
      refine xx_iload (q := 120) rfl rfl rfl ?_
      refine xx_iaddR (q := 121) rfl rfl (by omega) (by omega) ?_
      have hL105 : (xui (lkmF K lock boat (dlgF K Hh boat good amount lock)) 8 (lock).toNat (hld ((K 8 (lock).toNat) + 1))) 0 0 = K 0 0 := xui_a (by decide)
      have hL106 : (xui (lkmF K lock boat (dlgF K Hh boat good amount lock)) 8 (lock).toNat (hld ((K 8 (lock).toNat) + 1))) 13 0 = K 13 0 := xui_a (by decide)
      refine xx_iaz (v := K 10 (lock).toNat) (q := 122) rfl rfl xS_480 (by omega) (by omega) ((rv_10 hV104 (p := lock) (by omega) (by omega)).trans (xui_a (by decide))) ?_
      have hb107 : -2147483648 ≤ K 10 (lock).toNat ∧ K 10 (lock).toNat ≤ 2147483647 := by rw [← show (xui (lkmF K lock boat (dlgF K Hh boat good amount lock)) 8 (lock).toNat (hld ((K 8 (lock).toNat) + 1))) 10 (lock).toNat = K 10 (lock).toNat from xui_a (by decide)]; exact ki_10 hI104 (lock).toNat
      refine xx_iconst (q := 123) rfl rfl (by decide) ?_
      refine xx_iadd (q := 124) rfl rfl ?_
      refine xr_isz (RV t (xui (xui (lkmF K lock boat (dlgF K Hh boat good amount lock)) 8 (lock).toNat (hld ((K 8 (lock).toNat) + 1))) 10 (lock).toNat (nrm ((K 10 (lock).toNat) + 1))) b B (tU t K b U) D0) (q := 125) rfl rfl xS_480 (by omega) (by omega) (rs_10 (v := nrm ((K 10 (lock).toNat) + 1)) (p := lock) hV104 hI104 (by omega) (by omega) (by rfl)) (fun D109 hV109 => ?_)
      have hs109 : (xui (xui (lkmF K lock boat (dlgF K Hh boat good amount lock)) 8 (lock).toNat (hld ((K 8 (lock).toNat) + 1))) 10 (lock).toNat (nrm ((K 10 (lock).toNat) + 1))) 10 (lock).toNat = (nrm ((K 10 (lock).toNat) + 1)) := xui_s
      have hI109 : KI (xui (xui (lkmF K lock boat (dlgF K Hh boat good amount lock)) 8 (lock).toNat (hld ((K 8 (lock).toNat) + 1))) 10 (lock).toNat (nrm ((K 10 (lock).toNat) + 1))) := KI_up hI104 (nrm_lo _) (nrm_hi _)
      refine xx_aload_n (q := 126) rfl rfl rfl ?_
      refine xx_getR (q := 129) rfl rfl rfl xS_479 (Nat.le_of_ble_eq_true rfl) rfl (hR.1 479 1 rfl) ?_
      refine xx_bipush (q := 131) rfl rfl (by decide) ?_
      refine xx_iconst (q := 132) rfl rfl (by decide) ?_
      refine xx_iload_n (q := 133) rfl rfl rfl ?_
      refine xx_imulR (q := 134) rfl rfl (by omega) (by omega) ?_
      refine xx_iaddR (q := 135) rfl rfl (by omega) (by omega) ?_
      refine xx_iload_n (q := 136) rfl rfl rfl ?_
      refine xx_iaddR (q := 137) rfl rfl (by omega) (by omega) ?_
      refine xx_aload_n (q := 138) rfl rfl rfl ?_
      refine xx_iload_n (q := 139) rfl rfl rfl ?_
      refine xx_iload_n (q := 140) rfl rfl rfl ?_
      have he110 : (xui (xui (lkmF K lock boat (dlgF K Hh boat good amount lock)) 8 (lock).toNat (hld ((K 8 (lock).toNat) + 1))) 10 (lock).toNat (nrm ((K 10 (lock).toNat) + 1))) 17 (boat * 4 + good).toNat = K 17 (boat * 4 + good).toNat := xui_a (by decide)
      have hx110 := r_cargoOf (n := n) hR hV109 hI109 boat good (by omega) (by omega) (by omega) (by omega)
      rw [he110] at hx110
      have hb110 : 0 ≤ K 17 (boat * 4 + good).toNat ∧ K 17 (boat * 4 + good).toNat ≤ 99 := by rw [← he110]; exact ki_17 hI109 (boat * 4 + good).toNat
      refine xx_callV (q := 143) (As := [_, _]) (rest := [_, _]) rfl rfl rfl (Or.inl rfl) rfl rfl (Nat.le_of_ble_eq_true rfl) xS_479 (XCm hx110 rfl) rfl ?_
      refine xx_iload_n (q := 144) rfl rfl rfl ?_
      refine xx_isubR (q := 145) rfl rfl (by omega) (by omega) ?_
      have hL112 : (xui (xui (lkmF K lock boat (dlgF K Hh boat good amount lock)) 8 (lock).toNat (hld ((K 8 (lock).toNat) + 1))) 10 (lock).toNat (nrm ((K 10 (lock).toNat) + 1))) 0 0 = K 0 0 := xui_a (by decide)
      have hL113 : (xui (xui (lkmF K lock boat (dlgF K Hh boat good amount lock)) 8 (lock).toNat (hld ((K 8 (lock).toNat) + 1))) 10 (lock).toNat (nrm ((K 10 (lock).toNat) + 1))) 13 0 = K 13 0 := xui_a (by decide)
      refine xr_isz (RV t (xui (xui (xui (lkmF K lock boat (dlgF K Hh boat good amount lock)) 8 (lock).toNat (hld ((K 8 (lock).toNat) + 1))) 10 (lock).toNat (nrm ((K 10 (lock).toNat) + 1))) 17 (boat * 4 + good).toNat ((K 17 (boat * 4 + good).toNat) - amount)) b B (tU t K b U) D0) (q := 146) rfl rfl xS_480 (by omega) (by omega) (rs_17 (v := (K 17 (boat * 4 + good).toNat) - amount) (l := boat) (c := good) hV109 hI109 (by omega) (by omega) (by omega) (by omega) (by rfl)) (fun D114 hV114 => ?_)
      have hs114 : (xui (xui (xui (lkmF K lock boat (dlgF K Hh boat good amount lock)) 8 (lock).toNat (hld ((K 8 (lock).toNat) + 1))) 10 (lock).toNat (nrm ((K 10 (lock).toNat) + 1))) 17 (boat * 4 + good).toNat ((K 17 (boat * 4 + good).toNat) - amount)) 17 (boat * 4 + good).toNat = ((K 17 (boat * 4 + good).toNat) - amount) := xui_s
      have hI114 : KI (xui (xui (xui (lkmF K lock boat (dlgF K Hh boat good amount lock)) 8 (lock).toNat (hld ((K 8 (lock).toNat) + 1))) 10 (lock).toNat (nrm ((K 10 (lock).toNat) + 1))) 17 (boat * 4 + good).toNat ((K 17 (boat * 4 + good).toNat) - amount)) := KI_up hI109 (show (0 : Int) ≤ _ by omega) (show _ ≤ (99 : Int) by omega)
      refine xx_aload_n (q := 147) rfl rfl rfl ?_
      refine xx_iconst (q := 148) rfl rfl (by decide) ?_
      refine xx_iload (q := 150) rfl rfl rfl ?_
      refine xx_iload_n (q := 151) rfl rfl rfl ?_
      refine xx_iload_n (q := 152) rfl rfl rfl ?_
      have hL115 : (xui (xui (xui (lkmF K lock boat (dlgF K Hh boat good amount lock)) 8 (lock).toNat (hld ((K 8 (lock).toNat) + 1))) 10 (lock).toNat (nrm ((K 10 (lock).toNat) + 1))) 17 (boat * 4 + good).toNat ((K 17 (boat * 4 + good).toNat) - amount)) 0 0 = K 0 0 := xui_a (by decide)
      have hL116 : (xui (xui (xui (lkmF K lock boat (dlgF K Hh boat good amount lock)) 8 (lock).toNat (hld ((K 8 (lock).toNat) + 1))) 10 (lock).toNat (nrm ((K 10 (lock).toNat) + 1))) 17 (boat * 4 + good).toNat ((K 17 (boat * 4 + good).toNat) - amount)) 13 0 = K 13 0 := xui_a (by decide)
      obtain ⟨D117, hx117, hV117⟩ := r_notes (n := n) hR hV114 hI114 1 lock boat amount
      refine xx_callV (q := 155) (As := [_, _, _, _]) (rest := []) rfl rfl rfl (Or.inl rfl) rfl rfl (Nat.le_of_ble_eq_true rfl) xS_479 (XCm hx117 rfl) rfl ?_
      refine xx_iload (q := 157) rfl rfl rfl ?_
      refine xx_iret rfl trivial ⟨congrArg (fun z => some (Sum.inl z)) (by rfl), _, rfl, ?_⟩
      have e1 : givK K Hh boat good amount lock = (xui (xui (xui (lkmF K lock boat (dlgF K Hh boat good amount lock)) 8 (lock).toNat (hld ((K 8 (lock).toNat) + 1))) 10 (lock).toNat (nrm ((K 10 (lock).toNat) + 1))) 17 (boat * 4 + good).toNat ((K 17 (boat * 4 + good).toNat) - amount)) := by unfold givK rcvF; simp only [cmpF]; grind
      have e0 : (xui (xui (xui (lkmF K lock boat (dlgF K Hh boat good amount lock)) 8 (lock).toNat (hld ((K 8 (lock).toNat) + 1))) 10 (lock).toNat (nrm ((K 10 (lock).toNat) + 1))) 17 (boat * 4 + good).toNat ((K 17 (boat * 4 + good).toNat) - amount)) 0 1 = K 0 1 := by rw [← e1]; exact (xui_a (by decide)).trans (rcvF_k (by decide) (by decide) (by decide))
      have e3 : tB t K b B 1 lock boat amount = tB t (xui (xui (xui (lkmF K lock boat (dlgF K Hh boat good amount lock)) 8 (lock).toNat (hld ((K 8 (lock).toNat) + 1))) 10 (lock).toNat (nrm ((K 10 (lock).toNat) + 1))) 17 (boat * 4 + good).toNat ((K 17 (boat * 4 + good).toNat) - amount)) b B 1 lock boat amount := by unfold tB; rw [e0]
      rw [e1, e3]
      exact hV117
    · refine xx_aload_n (q := 78) rfl rfl rfl ?_
      refine xx_iload (q := 80) rfl rfl rfl ?_
      have he118 : (xui (lkmF K lock boat (dlgF K Hh boat good amount lock)) 8 (lock).toNat (hld ((K 8 (lock).toNat) + 1))) 9 (lock).toNat = K 9 (lock).toNat := xui_a (by decide)
      have hx118 := r_rivalOf (n := n) hR hV104 hI104 lock (by omega) (by omega)
      rw [he118] at hx118
      have hb118 : -1 ≤ K 9 (lock).toNat ∧ K 9 (lock).toNat ≤ 8 := by rw [← he118]; exact ki_9 hI104 (lock).toNat
      refine xx_callV (q := 83) (As := [_]) (rest := []) rfl rfl rfl (Or.inl rfl) rfl rfl (Nat.le_of_ble_eq_true rfl) xS_479 (XCm hx118 rfl) rfl ?_
      refine xx_iconst (q := 84) rfl rfl (by decide) ?_
      refine xx_icmp_eq (q := 103) (q2 := 87) rfl rfl rfl (fun h84 => ?_) (fun h84 => ?_)
      · refine xx_aload_n (q := 104) rfl rfl rfl ?_
        refine xx_getR (q := 107) rfl rfl rfl xS_479 (Nat.le_of_ble_eq_true rfl) rfl (hR.1 479 1 rfl) ?_
        refine xx_bipush (q := 109) rfl rfl (by decide) ?_
        refine xx_iload (q := 111) rfl rfl rfl ?_
        refine xx_iaddR (q := 112) rfl rfl (by omega) (by omega) ?_
        refine xx_aload_n (q := 113) rfl rfl rfl ?_
        refine xx_getR (q := 116) rfl rfl rfl xS_479 (Nat.le_of_ble_eq_true rfl) rfl (hR.1 479 1 rfl) ?_
        refine xx_bipush (q := 118) rfl rfl (by decide) ?_
        refine xx_iload (q := 120) rfl rfl rfl ?_
        refine xx_iaddR (q := 121) rfl rfl (by omega) (by omega) ?_
        have hL119 : (xui (lkmF K lock boat (dlgF K Hh boat good amount lock)) 8 (lock).toNat (hld ((K 8 (lock).toNat) + 1))) 0 0 = K 0 0 := xui_a (by decide)
        have hL120 : (xui (lkmF K lock boat (dlgF K Hh boat good amount lock)) 8 (lock).toNat (hld ((K 8 (lock).toNat) + 1))) 13 0 = K 13 0 := xui_a (by decide)
        refine xx_iaz (v := K 10 (lock).toNat) (q := 122) rfl rfl xS_480 (by omega) (by omega) ((rv_10 hV104 (p := lock) (by omega) (by omega)).trans (xui_a (by decide))) ?_
        have hb121 : -2147483648 ≤ K 10 (lock).toNat ∧ K 10 (lock).toNat ≤ 2147483647 := by rw [← show (xui (lkmF K lock boat (dlgF K Hh boat good amount lock)) 8 (lock).toNat (hld ((K 8 (lock).toNat) + 1))) 10 (lock).toNat = K 10 (lock).toNat from xui_a (by decide)]; exact ki_10 hI104 (lock).toNat
        refine xx_iconst (q := 123) rfl rfl (by decide) ?_
        refine xx_iadd (q := 124) rfl rfl ?_
        refine xr_isz (RV t (xui (xui (lkmF K lock boat (dlgF K Hh boat good amount lock)) 8 (lock).toNat (hld ((K 8 (lock).toNat) + 1))) 10 (lock).toNat (nrm ((K 10 (lock).toNat) + 1))) b B (tU t K b U) D0) (q := 125) rfl rfl xS_480 (by omega) (by omega) (rs_10 (v := nrm ((K 10 (lock).toNat) + 1)) (p := lock) hV104 hI104 (by omega) (by omega) (by rfl)) (fun D123 hV123 => ?_)
        have hs123 : (xui (xui (lkmF K lock boat (dlgF K Hh boat good amount lock)) 8 (lock).toNat (hld ((K 8 (lock).toNat) + 1))) 10 (lock).toNat (nrm ((K 10 (lock).toNat) + 1))) 10 (lock).toNat = (nrm ((K 10 (lock).toNat) + 1)) := xui_s
        have hI123 : KI (xui (xui (lkmF K lock boat (dlgF K Hh boat good amount lock)) 8 (lock).toNat (hld ((K 8 (lock).toNat) + 1))) 10 (lock).toNat (nrm ((K 10 (lock).toNat) + 1))) := KI_up hI104 (nrm_lo _) (nrm_hi _)
        refine xx_aload_n (q := 126) rfl rfl rfl ?_
        refine xx_getR (q := 129) rfl rfl rfl xS_479 (Nat.le_of_ble_eq_true rfl) rfl (hR.1 479 1 rfl) ?_
        refine xx_bipush (q := 131) rfl rfl (by decide) ?_
        refine xx_iconst (q := 132) rfl rfl (by decide) ?_
        refine xx_iload_n (q := 133) rfl rfl rfl ?_
        refine xx_imulR (q := 134) rfl rfl (by omega) (by omega) ?_
        refine xx_iaddR (q := 135) rfl rfl (by omega) (by omega) ?_
        refine xx_iload_n (q := 136) rfl rfl rfl ?_
        refine xx_iaddR (q := 137) rfl rfl (by omega) (by omega) ?_
        refine xx_aload_n (q := 138) rfl rfl rfl ?_
        refine xx_iload_n (q := 139) rfl rfl rfl ?_
        refine xx_iload_n (q := 140) rfl rfl rfl ?_
        have he124 : (xui (xui (lkmF K lock boat (dlgF K Hh boat good amount lock)) 8 (lock).toNat (hld ((K 8 (lock).toNat) + 1))) 10 (lock).toNat (nrm ((K 10 (lock).toNat) + 1))) 17 (boat * 4 + good).toNat = K 17 (boat * 4 + good).toNat := xui_a (by decide)
        have hx124 := r_cargoOf (n := n) hR hV123 hI123 boat good (by omega) (by omega) (by omega) (by omega)
        rw [he124] at hx124
        have hb124 : 0 ≤ K 17 (boat * 4 + good).toNat ∧ K 17 (boat * 4 + good).toNat ≤ 99 := by rw [← he124]; exact ki_17 hI123 (boat * 4 + good).toNat
        refine xx_callV (q := 143) (As := [_, _]) (rest := [_, _]) rfl rfl rfl (Or.inl rfl) rfl rfl (Nat.le_of_ble_eq_true rfl) xS_479 (XCm hx124 rfl) rfl ?_
        refine xx_iload_n (q := 144) rfl rfl rfl ?_
        refine xx_isubR (q := 145) rfl rfl (by omega) (by omega) ?_
        have hL126 : (xui (xui (lkmF K lock boat (dlgF K Hh boat good amount lock)) 8 (lock).toNat (hld ((K 8 (lock).toNat) + 1))) 10 (lock).toNat (nrm ((K 10 (lock).toNat) + 1))) 0 0 = K 0 0 := xui_a (by decide)
        have hL127 : (xui (xui (lkmF K lock boat (dlgF K Hh boat good amount lock)) 8 (lock).toNat (hld ((K 8 (lock).toNat) + 1))) 10 (lock).toNat (nrm ((K 10 (lock).toNat) + 1))) 13 0 = K 13 0 := xui_a (by decide)
        refine xr_isz (RV t (xui (xui (xui (lkmF K lock boat (dlgF K Hh boat good amount lock)) 8 (lock).toNat (hld ((K 8 (lock).toNat) + 1))) 10 (lock).toNat (nrm ((K 10 (lock).toNat) + 1))) 17 (boat * 4 + good).toNat ((K 17 (boat * 4 + good).toNat) - amount)) b B (tU t K b U) D0) (q := 146) rfl rfl xS_480 (by omega) (by omega) (rs_17 (v := (K 17 (boat * 4 + good).toNat) - amount) (l := boat) (c := good) hV123 hI123 (by omega) (by omega) (by omega) (by omega) (by rfl)) (fun D128 hV128 => ?_)
        have hs128 : (xui (xui (xui (lkmF K lock boat (dlgF K Hh boat good amount lock)) 8 (lock).toNat (hld ((K 8 (lock).toNat) + 1))) 10 (lock).toNat (nrm ((K 10 (lock).toNat) + 1))) 17 (boat * 4 + good).toNat ((K 17 (boat * 4 + good).toNat) - amount)) 17 (boat * 4 + good).toNat = ((K 17 (boat * 4 + good).toNat) - amount) := xui_s
        have hI128 : KI (xui (xui (xui (lkmF K lock boat (dlgF K Hh boat good amount lock)) 8 (lock).toNat (hld ((K 8 (lock).toNat) + 1))) 10 (lock).toNat (nrm ((K 10 (lock).toNat) + 1))) 17 (boat * 4 + good).toNat ((K 17 (boat * 4 + good).toNat) - amount)) := KI_up hI123 (show (0 : Int) ≤ _ by omega) (show _ ≤ (99 : Int) by omega)
        refine xx_aload_n (q := 147) rfl rfl rfl ?_
        refine xx_iconst (q := 148) rfl rfl (by decide) ?_
        refine xx_iload (q := 150) rfl rfl rfl ?_
        refine xx_iload_n (q := 151) rfl rfl rfl ?_
        refine xx_iload_n (q := 152) rfl rfl rfl ?_
        have hL129 : (xui (xui (xui (lkmF K lock boat (dlgF K Hh boat good amount lock)) 8 (lock).toNat (hld ((K 8 (lock).toNat) + 1))) 10 (lock).toNat (nrm ((K 10 (lock).toNat) + 1))) 17 (boat * 4 + good).toNat ((K 17 (boat * 4 + good).toNat) - amount)) 0 0 = K 0 0 := xui_a (by decide)
        have hL130 : (xui (xui (xui (lkmF K lock boat (dlgF K Hh boat good amount lock)) 8 (lock).toNat (hld ((K 8 (lock).toNat) + 1))) 10 (lock).toNat (nrm ((K 10 (lock).toNat) + 1))) 17 (boat * 4 + good).toNat ((K 17 (boat * 4 + good).toNat) - amount)) 13 0 = K 13 0 := xui_a (by decide)
        obtain ⟨D131, hx131, hV131⟩ := r_notes (n := n) hR hV128 hI128 1 lock boat amount
        refine xx_callV (q := 155) (As := [_, _, _, _]) (rest := []) rfl rfl rfl (Or.inl rfl) rfl rfl (Nat.le_of_ble_eq_true rfl) xS_479 (XCm hx131 rfl) rfl ?_
        refine xx_iload (q := 157) rfl rfl rfl ?_
        refine xx_iret rfl trivial ⟨congrArg (fun z => some (Sum.inl z)) (by rfl), _, rfl, ?_⟩
        have e1 : givK K Hh boat good amount lock = (xui (xui (xui (lkmF K lock boat (dlgF K Hh boat good amount lock)) 8 (lock).toNat (hld ((K 8 (lock).toNat) + 1))) 10 (lock).toNat (nrm ((K 10 (lock).toNat) + 1))) 17 (boat * 4 + good).toNat ((K 17 (boat * 4 + good).toNat) - amount)) := by unfold givK rcvF; simp only [cmpF]; grind
        have e0 : (xui (xui (xui (lkmF K lock boat (dlgF K Hh boat good amount lock)) 8 (lock).toNat (hld ((K 8 (lock).toNat) + 1))) 10 (lock).toNat (nrm ((K 10 (lock).toNat) + 1))) 17 (boat * 4 + good).toNat ((K 17 (boat * 4 + good).toNat) - amount)) 0 1 = K 0 1 := by rw [← e1]; exact (xui_a (by decide)).trans (rcvF_k (by decide) (by decide) (by decide))
        have e3 : tB t K b B 1 lock boat amount = tB t (xui (xui (xui (lkmF K lock boat (dlgF K Hh boat good amount lock)) 8 (lock).toNat (hld ((K 8 (lock).toNat) + 1))) 10 (lock).toNat (nrm ((K 10 (lock).toNat) + 1))) 17 (boat * 4 + good).toNat ((K 17 (boat * 4 + good).toNat) - amount)) b B 1 lock boat amount := by unfold tB; rw [e0]
        rw [e1, e3]
        exact hV131
      · refine xx_aload_n (q := 88) rfl rfl rfl ?_
        refine xx_aload_n (q := 89) rfl rfl rfl ?_
        refine xx_iload (q := 91) rfl rfl rfl ?_
        have he132 : (xui (lkmF K lock boat (dlgF K Hh boat good amount lock)) 8 (lock).toNat (hld ((K 8 (lock).toNat) + 1))) 9 (lock).toNat = K 9 (lock).toNat := xui_a (by decide)
        have hx132 := r_rivalOf (n := n) hR hV104 hI104 lock (by omega) (by omega)
        rw [he132] at hx132
        have hb132 : -1 ≤ K 9 (lock).toNat ∧ K 9 (lock).toNat ≤ 8 := by rw [← he132]; exact ki_9 hI104 (lock).toNat
        refine xx_callV (q := 94) (As := [_]) (rest := [_]) rfl rfl rfl (Or.inl rfl) rfl rfl (Nat.le_of_ble_eq_true rfl) xS_479 (XCm hx132 rfl) rfl ?_
        refine xx_iload_n (q := 95) rfl rfl rfl ?_
        refine xx_iload (q := 97) rfl rfl rfl ?_
        refine xx_iconst (q := 98) rfl rfl (by decide) ?_
        refine xx_idiv (q := 99) rfl rfl (by omega) ?_
        have hd2 := xdiv_2 (d := dlgF K Hh boat good amount lock) (by omega) (by omega)
        refine xx_inegR (q := 100) rfl rfl (by omega) (by omega) ?_
        have hL133 : (xui (lkmF K lock boat (dlgF K Hh boat good amount lock)) 8 (lock).toNat (hld ((K 8 (lock).toNat) + 1))) 0 0 = K 0 0 := xui_a (by decide)
        have hL134 : (xui (lkmF K lock boat (dlgF K Hh boat good amount lock)) 8 (lock).toNat (hld ((K 8 (lock).toNat) + 1))) 13 0 = K 13 0 := xui_a (by decide)
        obtain ⟨D135, hx135, hV135⟩ := r_likes (n := n) hR hV104 hI104 (K 9 (lock).toNat) boat (-(xdiv (dlgF K Hh boat good amount lock) 2)) (by omega) (by omega) (by omega) (by omega) (by omega) (by omega)
        have hI135 : KI (lkmF (xui (lkmF K lock boat (dlgF K Hh boat good amount lock)) 8 (lock).toNat (hld ((K 8 (lock).toNat) + 1))) (K 9 (lock).toNat) boat (-(xdiv (dlgF K Hh boat good amount lock) 2))) := lkmF_I hI104
        refine xx_callV (q := 103) (As := [_, _, _]) (rest := []) rfl rfl rfl (Or.inl rfl) rfl rfl (Nat.le_of_ble_eq_true rfl) xS_479 (XCm hx135 rfl) rfl ?_
        refine xx_aload_n (q := 104) rfl rfl rfl ?_
        refine xx_getR (q := 107) rfl rfl rfl xS_479 (Nat.le_of_ble_eq_true rfl) rfl (hR.1 479 1 rfl) ?_
        refine xx_bipush (q := 109) rfl rfl (by decide) ?_
        refine xx_iload (q := 111) rfl rfl rfl ?_
        refine xx_iaddR (q := 112) rfl rfl (by omega) (by omega) ?_
        refine xx_aload_n (q := 113) rfl rfl rfl ?_
        refine xx_getR (q := 116) rfl rfl rfl xS_479 (Nat.le_of_ble_eq_true rfl) rfl (hR.1 479 1 rfl) ?_
        refine xx_bipush (q := 118) rfl rfl (by decide) ?_
        refine xx_iload (q := 120) rfl rfl rfl ?_
        refine xx_iaddR (q := 121) rfl rfl (by omega) (by omega) ?_
        have hL136 : (lkmF (xui (lkmF K lock boat (dlgF K Hh boat good amount lock)) 8 (lock).toNat (hld ((K 8 (lock).toNat) + 1))) (K 9 (lock).toNat) boat (-(xdiv (dlgF K Hh boat good amount lock) 2))) 0 0 = K 0 0 := (xui_a (by decide)).trans (xui_a (by decide))
        have hL137 : (lkmF (xui (lkmF K lock boat (dlgF K Hh boat good amount lock)) 8 (lock).toNat (hld ((K 8 (lock).toNat) + 1))) (K 9 (lock).toNat) boat (-(xdiv (dlgF K Hh boat good amount lock) 2))) 13 0 = K 13 0 := (xui_a (by decide)).trans (xui_a (by decide))
        refine xx_iaz (v := K 10 (lock).toNat) (q := 122) rfl rfl xS_480 (by omega) (by omega) ((rv_10 hV135 (p := lock) (by omega) (by omega)).trans ((xui_a (by decide)).trans (xui_a (by decide)))) ?_
        have hb138 : -2147483648 ≤ K 10 (lock).toNat ∧ K 10 (lock).toNat ≤ 2147483647 := by rw [← show (lkmF (xui (lkmF K lock boat (dlgF K Hh boat good amount lock)) 8 (lock).toNat (hld ((K 8 (lock).toNat) + 1))) (K 9 (lock).toNat) boat (-(xdiv (dlgF K Hh boat good amount lock) 2))) 10 (lock).toNat = K 10 (lock).toNat from (xui_a (by decide)).trans (xui_a (by decide))]; exact ki_10 hI135 (lock).toNat
        refine xx_iconst (q := 123) rfl rfl (by decide) ?_
        refine xx_iadd (q := 124) rfl rfl ?_
        refine xr_isz (RV t (xui (lkmF (xui (lkmF K lock boat (dlgF K Hh boat good amount lock)) 8 (lock).toNat (hld ((K 8 (lock).toNat) + 1))) (K 9 (lock).toNat) boat (-(xdiv (dlgF K Hh boat good amount lock) 2))) 10 (lock).toNat (nrm ((K 10 (lock).toNat) + 1))) b B (tU t K b U) D0) (q := 125) rfl rfl xS_480 (by omega) (by omega) (rs_10 (v := nrm ((K 10 (lock).toNat) + 1)) (p := lock) hV135 hI135 (by omega) (by omega) (by rfl)) (fun D140 hV140 => ?_)
        have hs140 : (xui (lkmF (xui (lkmF K lock boat (dlgF K Hh boat good amount lock)) 8 (lock).toNat (hld ((K 8 (lock).toNat) + 1))) (K 9 (lock).toNat) boat (-(xdiv (dlgF K Hh boat good amount lock) 2))) 10 (lock).toNat (nrm ((K 10 (lock).toNat) + 1))) 10 (lock).toNat = (nrm ((K 10 (lock).toNat) + 1)) := xui_s
        have hI140 : KI (xui (lkmF (xui (lkmF K lock boat (dlgF K Hh boat good amount lock)) 8 (lock).toNat (hld ((K 8 (lock).toNat) + 1))) (K 9 (lock).toNat) boat (-(xdiv (dlgF K Hh boat good amount lock) 2))) 10 (lock).toNat (nrm ((K 10 (lock).toNat) + 1))) := KI_up hI135 (nrm_lo _) (nrm_hi _)
        refine xx_aload_n (q := 126) rfl rfl rfl ?_
        refine xx_getR (q := 129) rfl rfl rfl xS_479 (Nat.le_of_ble_eq_true rfl) rfl (hR.1 479 1 rfl) ?_
        refine xx_bipush (q := 131) rfl rfl (by decide) ?_
        refine xx_iconst (q := 132) rfl rfl (by decide) ?_
        refine xx_iload_n (q := 133) rfl rfl rfl ?_
        refine xx_imulR (q := 134) rfl rfl (by omega) (by omega) ?_
        refine xx_iaddR (q := 135) rfl rfl (by omega) (by omega) ?_
        refine xx_iload_n (q := 136) rfl rfl rfl ?_
        refine xx_iaddR (q := 137) rfl rfl (by omega) (by omega) ?_
        refine xx_aload_n (q := 138) rfl rfl rfl ?_
        refine xx_iload_n (q := 139) rfl rfl rfl ?_
        refine xx_iload_n (q := 140) rfl rfl rfl ?_
        have he141 : (xui (lkmF (xui (lkmF K lock boat (dlgF K Hh boat good amount lock)) 8 (lock).toNat (hld ((K 8 (lock).toNat) + 1))) (K 9 (lock).toNat) boat (-(xdiv (dlgF K Hh boat good amount lock) 2))) 10 (lock).toNat (nrm ((K 10 (lock).toNat) + 1))) 17 (boat * 4 + good).toNat = K 17 (boat * 4 + good).toNat := (xui_a (by decide)).trans (xui_a (by decide))
        have hx141 := r_cargoOf (n := n) hR hV140 hI140 boat good (by omega) (by omega) (by omega) (by omega)
        rw [he141] at hx141
        have hb141 : 0 ≤ K 17 (boat * 4 + good).toNat ∧ K 17 (boat * 4 + good).toNat ≤ 99 := by rw [← he141]; exact ki_17 hI140 (boat * 4 + good).toNat
        refine xx_callV (q := 143) (As := [_, _]) (rest := [_, _]) rfl rfl rfl (Or.inl rfl) rfl rfl (Nat.le_of_ble_eq_true rfl) xS_479 (XCm hx141 rfl) rfl ?_
        refine xx_iload_n (q := 144) rfl rfl rfl ?_
        refine xx_isubR (q := 145) rfl rfl (by omega) (by omega) ?_
        have hL143 : (xui (lkmF (xui (lkmF K lock boat (dlgF K Hh boat good amount lock)) 8 (lock).toNat (hld ((K 8 (lock).toNat) + 1))) (K 9 (lock).toNat) boat (-(xdiv (dlgF K Hh boat good amount lock) 2))) 10 (lock).toNat (nrm ((K 10 (lock).toNat) + 1))) 0 0 = K 0 0 := (xui_a (by decide)).trans (xui_a (by decide))
        have hL144 : (xui (lkmF (xui (lkmF K lock boat (dlgF K Hh boat good amount lock)) 8 (lock).toNat (hld ((K 8 (lock).toNat) + 1))) (K 9 (lock).toNat) boat (-(xdiv (dlgF K Hh boat good amount lock) 2))) 10 (lock).toNat (nrm ((K 10 (lock).toNat) + 1))) 13 0 = K 13 0 := (xui_a (by decide)).trans (xui_a (by decide))
        refine xr_isz (RV t (xui (xui (lkmF (xui (lkmF K lock boat (dlgF K Hh boat good amount lock)) 8 (lock).toNat (hld ((K 8 (lock).toNat) + 1))) (K 9 (lock).toNat) boat (-(xdiv (dlgF K Hh boat good amount lock) 2))) 10 (lock).toNat (nrm ((K 10 (lock).toNat) + 1))) 17 (boat * 4 + good).toNat ((K 17 (boat * 4 + good).toNat) - amount)) b B (tU t K b U) D0) (q := 146) rfl rfl xS_480 (by omega) (by omega) (rs_17 (v := (K 17 (boat * 4 + good).toNat) - amount) (l := boat) (c := good) hV140 hI140 (by omega) (by omega) (by omega) (by omega) (by rfl)) (fun D145 hV145 => ?_)
        have hs145 : (xui (xui (lkmF (xui (lkmF K lock boat (dlgF K Hh boat good amount lock)) 8 (lock).toNat (hld ((K 8 (lock).toNat) + 1))) (K 9 (lock).toNat) boat (-(xdiv (dlgF K Hh boat good amount lock) 2))) 10 (lock).toNat (nrm ((K 10 (lock).toNat) + 1))) 17 (boat * 4 + good).toNat ((K 17 (boat * 4 + good).toNat) - amount)) 17 (boat * 4 + good).toNat = ((K 17 (boat * 4 + good).toNat) - amount) := xui_s
        have hI145 : KI (xui (xui (lkmF (xui (lkmF K lock boat (dlgF K Hh boat good amount lock)) 8 (lock).toNat (hld ((K 8 (lock).toNat) + 1))) (K 9 (lock).toNat) boat (-(xdiv (dlgF K Hh boat good amount lock) 2))) 10 (lock).toNat (nrm ((K 10 (lock).toNat) + 1))) 17 (boat * 4 + good).toNat ((K 17 (boat * 4 + good).toNat) - amount)) := KI_up hI140 (show (0 : Int) ≤ _ by omega) (show _ ≤ (99 : Int) by omega)
        refine xx_aload_n (q := 147) rfl rfl rfl ?_
        refine xx_iconst (q := 148) rfl rfl (by decide) ?_
        refine xx_iload (q := 150) rfl rfl rfl ?_
        refine xx_iload_n (q := 151) rfl rfl rfl ?_
        refine xx_iload_n (q := 152) rfl rfl rfl ?_
        have hL146 : (xui (xui (lkmF (xui (lkmF K lock boat (dlgF K Hh boat good amount lock)) 8 (lock).toNat (hld ((K 8 (lock).toNat) + 1))) (K 9 (lock).toNat) boat (-(xdiv (dlgF K Hh boat good amount lock) 2))) 10 (lock).toNat (nrm ((K 10 (lock).toNat) + 1))) 17 (boat * 4 + good).toNat ((K 17 (boat * 4 + good).toNat) - amount)) 0 0 = K 0 0 := (xui_a (by decide)).trans (xui_a (by decide))
        have hL147 : (xui (xui (lkmF (xui (lkmF K lock boat (dlgF K Hh boat good amount lock)) 8 (lock).toNat (hld ((K 8 (lock).toNat) + 1))) (K 9 (lock).toNat) boat (-(xdiv (dlgF K Hh boat good amount lock) 2))) 10 (lock).toNat (nrm ((K 10 (lock).toNat) + 1))) 17 (boat * 4 + good).toNat ((K 17 (boat * 4 + good).toNat) - amount)) 13 0 = K 13 0 := (xui_a (by decide)).trans (xui_a (by decide))
        obtain ⟨D148, hx148, hV148⟩ := r_notes (n := n) hR hV145 hI145 1 lock boat amount
        refine xx_callV (q := 155) (As := [_, _, _, _]) (rest := []) rfl rfl rfl (Or.inl rfl) rfl rfl (Nat.le_of_ble_eq_true rfl) xS_479 (XCm hx148 rfl) rfl ?_
        refine xx_iload (q := 157) rfl rfl rfl ?_
        refine xx_iret rfl trivial ⟨congrArg (fun z => some (Sum.inl z)) (by rfl), _, rfl, ?_⟩
        have e1 : givK K Hh boat good amount lock = (xui (xui (lkmF (xui (lkmF K lock boat (dlgF K Hh boat good amount lock)) 8 (lock).toNat (hld ((K 8 (lock).toNat) + 1))) (K 9 (lock).toNat) boat (-(xdiv (dlgF K Hh boat good amount lock) 2))) 10 (lock).toNat (nrm ((K 10 (lock).toNat) + 1))) 17 (boat * 4 + good).toNat ((K 17 (boat * 4 + good).toNat) - amount)) := by unfold givK rcvF; simp only [cmpF]; grind
        have e0 : (xui (xui (lkmF (xui (lkmF K lock boat (dlgF K Hh boat good amount lock)) 8 (lock).toNat (hld ((K 8 (lock).toNat) + 1))) (K 9 (lock).toNat) boat (-(xdiv (dlgF K Hh boat good amount lock) 2))) 10 (lock).toNat (nrm ((K 10 (lock).toNat) + 1))) 17 (boat * 4 + good).toNat ((K 17 (boat * 4 + good).toNat) - amount)) 0 1 = K 0 1 := by rw [← e1]; exact (xui_a (by decide)).trans (rcvF_k (by decide) (by decide) (by decide))
        have e3 : tB t K b B 1 lock boat amount = tB t (xui (xui (lkmF (xui (lkmF K lock boat (dlgF K Hh boat good amount lock)) 8 (lock).toNat (hld ((K 8 (lock).toNat) + 1))) (K 9 (lock).toNat) boat (-(xdiv (dlgF K Hh boat good amount lock) 2))) 10 (lock).toNat (nrm ((K 10 (lock).toNat) + 1))) 17 (boat * 4 + good).toNat ((K 17 (boat * 4 + good).toNat) - amount)) b B 1 lock boat amount := by unfold tB; rw [e0]
        rw [e1, e3]
        exact hV148
theorem givK_I {K : KK} {Hh : LwF} {boat good amount lock : Int} (h : KI K) (hc : canF K boat good amount lock) : KI (givK K Hh boat good amount lock) := by
  have := givT_I (K := K) (Hh := Hh) (boat := boat) (good := good) (amount := amount) (lock := lock) h
  unfold givT at this
  rw [if_pos hc] at this
  exact this
