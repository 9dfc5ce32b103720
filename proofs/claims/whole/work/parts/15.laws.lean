/-! The laws as they are asked; a passing's refusal, a present. -/
def fcK (K : KK) (lock boat : Int) (k : Nat) : Int := match k with
  | 0 => K 12 (lock * 6 + boat).toNat
  | 1 => K 8 lock.toNat
  | 2 => rlkF K lock boat
  | 3 => lock
  | 4 => K 0 1
  | _ => 0
def fcG (K : KK) (lock boat up two : Int) (k : Nat) : Int := match k with
  | 5 => K 15 boat.toNat
  | 6 => K 1 lock.toNat
  | 7 => K 1 (lock + 1).toNat
  | 8 => if up = 0 then 0 else 1
  | 9 => K 5 lock.toNat
  | 10 => if two = 0 then 0 else 1
  | k => fcK K lock boat k
def fcH (K : KK) (boat good amount lock : Int) (k : Nat) : Int := match k with
  | 11 => good
  | 12 => amount
  | 13 => K 11 (lock * 4 + good).toNat
  | 14 => K 10 lock.toNat
  | k => fcK K lock boat k
abbrev LwF : Type := (Nat → Int) → Int → Int
/-- the law at l answers by G, whatever stands in its stack -/
def LawS (l : Nat) (rl : Nat → Prop) (G : LwF) (n : Nat) (R : Nat → Nat → Option Nat) (D : KK) : Prop := ∀ (E : KK) (c : Nat) (f : Nat → Int) (oth : Int), isC c → (∀ b k, l ≤ b → b < l + 3 → E b k = D b k) → (∀ k, rl k → E (c + 18) k = f k) → ∃ E2, XC 2 64 [.inr (some l), .inr (some (c + 18)), .inl oth] (xS n, R, E) (some (.inl (G f oth))) (xS n, R, E2) ∧ ∀ b k, b ≠ l + 3 → E2 b k = E b k
def rlG (k : Nat) : Prop := k < 11
def rlH (k : Nat) : Prop := k < 5 ∨ (10 < k ∧ k < 15)
abbrev LwG (G : LwF) (n : Nat) (R : Nat → Nat → Option Nat) (D : KK) : Prop := LawS 7 rlG G n R D
abbrev LwH (G : LwF) (n : Nat) (R : Nat → Nat → Option Nat) (D : KK) : Prop := LawS 11 rlH G n R D
theorem LawS.fr {l : Nat} {rl : Nat → Prop} {G : LwF} {n : Nat} {R : Nat → Nat → Option Nat} {D E : KK} (h : LawS l rl G n R D) (g : ∀ b k, l ≤ b → b < l + 3 → E b k = D b k) : LawS l rl G n R E := fun E2 c f oth hc h1 h2 => h E2 c f oth hc (fun b k q1 q2 => (h1 b k q1 q2).trans (g b k q1 q2)) h2
theorem LwG.fr {G : LwF} {n c : Nat} {R : Nat → Nat → Option Nat} {D E : KK} (h : LwG G n R D) (g : Fr c D E) (hc : isC c) : LwG G n R E := LawS.fr h (fun b k q1 q2 => g b k (by have := isC_gt hc; omega) (by omega) (by omega))
theorem LwH.fr {G : LwF} {n c : Nat} {R : Nat → Nat → Option Nat} {D E : KK} (h : LwH G n R D) (g : Fr c D E) (hc : isC c) : LwH G n R E := LawS.fr h (fun b k q1 q2 => g b k (by have := isC_gt hc; omega) (by omega) (by omega))
theorem mul_b {t a : Int} (h : -9 ≤ t ∧ t ≤ 9) (h1 : 0 ≤ a) (h2 : a ≤ 99) : -1000 ≤ t * a ∧ t * a ≤ 1000 := by
  have e1 : t * a ≤ 9 * a := Int.mul_le_mul_of_nonneg_right h.2 h1
  have e2 : -9 * a ≤ t * a := Int.mul_le_mul_of_nonneg_right h.1 h1
  omega
set_option maxHeartbeats 1000000 in
theorem c_knowKeeper {n c : Nat} {R : Nat → Nat → Option Nat} {D K : KK} (hR : RF R) (hc : isC c) (hK : CK c K D) (hI : KI K) (lock boat : Int) (h0 : 0 ≤ lock) (h1 : lock < 9) (h2 : 0 ≤ boat) (h3 : boat < 6) : ∃ D', XC 2 27 [.inr (some c), .inl lock, .inl boat] (xS n, R, D) none (xS n, R, D') ∧ CK c K D' ∧ Fr c D D' ∧ ∀ k, k < 5 → D' (c + 18) k = fcK K lock boat k := by
  have hA0 : CF c (D (c + 18)) D := fun _ => rfl
  refine XE_of (Nat.le_of_ble_eq_true rfl) (Nat.le_of_ble_eq_true rfl) (loc := [_, _, _]) rfl ?_
  refine xx_aload_n (q := 1) rfl rfl rfl ?_
  refine xx_getR (q := 4) rfl rfl rfl (xSc_0 hc) (Nat.le_of_ble_eq_true rfl) rfl (rc_facts hR hc) ?_
  refine xx_iconst (q := 5) rfl rfl (by decide) ?_
  refine xx_aload_n (q := 6) rfl rfl rfl ?_
  refine xx_getR (q := 9) rfl rfl rfl (xSc_0 hc) (Nat.le_of_ble_eq_true rfl) rfl (rc_keepers hR hc) ?_
  refine xx_iload_n (q := 10) rfl rfl rfl ?_
  refine xx_iload_n (q := 11) rfl rfl rfl ?_
  refine xx_callV (q := 14) (As := [_, _]) (rest := [_, _]) rfl rfl rfl (Or.inl rfl) rfl rfl (Nat.le_of_ble_eq_true rfl) (xSc_7 hc) (XCm (c_likingOf hR hc hK hI lock boat (by omega) (by omega) (by omega) (by omega)) rfl) rfl ?_
  refine xc_fsz hK Fr.rf hA0 (q := 15) rfl rfl (xSc_18 hc) (by omega) (by omega) (fun D1 hK1 hF1 hA1 => ?_)
  refine xx_aload_n (q := 16) rfl rfl rfl ?_
  refine xx_getR (q := 19) rfl rfl rfl (xSc_0 hc) (Nat.le_of_ble_eq_true rfl) rfl (rc_facts hR hc) ?_
  refine xx_iconst (q := 20) rfl rfl (by decide) ?_
  refine xx_aload_n (q := 21) rfl rfl rfl ?_
  refine xx_getR (q := 24) rfl rfl rfl (xSc_0 hc) (Nat.le_of_ble_eq_true rfl) rfl (rc_keepers hR hc) ?_
  refine xx_getR (q := 27) rfl rfl rfl (xSc_7 hc) (Nat.le_of_ble_eq_true rfl) rfl (rc_mood hR hc) ?_
  refine xx_iload_n (q := 28) rfl rfl rfl ?_
  refine xx_iaz (v := K 8 (lock).toNat) (q := 29) rfl rfl (xSc_8 hc) (by omega) (by omega) (ck_a hK1 (o := 8) (N := 9) rfl (by omega) (by omega)) ?_
  have hb2 : -99 ≤ K 8 (lock).toNat ∧ K 8 (lock).toNat ≤ 99 := by have h := ki_8 hI (lock).toNat; exact h
  refine xc_fsz hK1 hF1 hA1 (q := 30) rfl rfl (xSc_18 hc) (by omega) (by omega) (fun D3 hK3 hF3 hA3 => ?_)
  refine xx_aload_n (q := 31) rfl rfl rfl ?_
  refine xx_getR (q := 34) rfl rfl rfl (xSc_0 hc) (Nat.le_of_ble_eq_true rfl) rfl (rc_facts hR hc) ?_
  refine xx_iconst (q := 35) rfl rfl (by decide) ?_
  refine xx_aload_n (q := 36) rfl rfl rfl ?_
  refine xx_getR (q := 39) rfl rfl rfl (xSc_0 hc) (Nat.le_of_ble_eq_true rfl) rfl (rc_keepers hR hc) ?_
  refine xx_iload_n (q := 40) rfl rfl rfl ?_
  refine xx_iload_n (q := 41) rfl rfl rfl ?_
  refine xx_callV (q := 44) (As := [_, _]) (rest := [_, _]) rfl rfl rfl (Or.inl rfl) rfl rfl (Nat.le_of_ble_eq_true rfl) (xSc_7 hc) (XCm (c_rivalsLikingOf hR hc hK3 hI lock boat (by omega) (by omega) (by omega) (by omega)) rfl) rfl ?_
  refine xc_fsz hK3 hF3 hA3 (q := 45) rfl rfl (xSc_18 hc) (by omega) (by omega) (fun D4 hK4 hF4 hA4 => ?_)
  refine xx_aload_n (q := 46) rfl rfl rfl ?_
  refine xx_getR (q := 49) rfl rfl rfl (xSc_0 hc) (Nat.le_of_ble_eq_true rfl) rfl (rc_facts hR hc) ?_
  refine xx_iconst (q := 50) rfl rfl (by decide) ?_
  refine xx_iload_n (q := 51) rfl rfl rfl ?_
  refine xc_fsz hK4 hF4 hA4 (q := 52) rfl rfl (xSc_18 hc) (by omega) (by omega) (fun D5 hK5 hF5 hA5 => ?_)
  refine xx_aload_n (q := 53) rfl rfl rfl ?_
  refine xx_getR (q := 56) rfl rfl rfl (xSc_0 hc) (Nat.le_of_ble_eq_true rfl) rfl (rc_facts hR hc) ?_
  refine xx_iconst (q := 57) rfl rfl (by decide) ?_
  refine xx_aload_n (q := 58) rfl rfl rfl ?_
  refine xx_gez (v := K 0 1) (q := 61) rfl rfl rfl (xSc_0 hc) (Nat.le_of_ble_eq_true rfl) rfl (hK5 0 1 (Nat.le_of_ble_eq_true rfl)) ?_
  refine xc_fsz hK5 hF5 hA5 (q := 62) rfl rfl (xSc_18 hc) (by omega) (by omega) (fun D6 hK6 hF6 hA6 => ?_)
  refine xx_vret rfl rfl ⟨rfl, _, rfl, ?_⟩
  refine ⟨hK6, hF6, fun k hk => ?_⟩
  rw [hA6 k]
  have h5 : k = 0 ∨ k = 1 ∨ k = 2 ∨ k = 3 ∨ k = 4 := by omega
  rcases h5 with rfl | rfl | rfl | rfl | rfl <;> rfl
set_option maxHeartbeats 1000000 in
theorem c_lets {n c : Nat} {R : Nat → Nat → Option Nat} {D K : KK} (hR : RF R) (hn : isN c) (hK : CK c K D) (hI : KI K) {G : LwF} (hG : LwG G n R D) (lock boat up two : Int) (h0 : 0 ≤ lock) (h1 : lock < 9) (h2 : 0 ≤ boat) (h3 : boat < 6) : ∃ D', XC 3 25 [.inr (some c), .inl lock, .inl boat, .inl up, .inl two] (xS n, R, D) (some (.inl (bi (¬ G (fcG K lock boat up two) 1 = 0)))) (xS n, R, D') ∧ CK c K D' ∧ Fr c D D' := by
  have hc := isN_C hn
  have hcg := isC_gt hc
  refine XE_of (Nat.le_of_ble_eq_true rfl) (Nat.le_of_ble_eq_true rfl) (loc := [_, _, _, _, _]) rfl ?_
  refine xx_aload_n (q := 1) rfl rfl rfl ?_
  refine xx_iload_n (q := 2) rfl rfl rfl ?_
  refine xx_iload_n (q := 3) rfl rfl rfl ?_
  obtain ⟨D1, hx1, hK1, hG1, hA1⟩ := c_knowKeeper (n := n) hR hc hK hI lock boat (by omega) (by omega) (by omega) (by omega)
  have hF1 := Fr.rf.trans hG1
  have hB1 : CF c (D1 (c + 18)) D1 := fun _ => rfl
  refine xx_callV (q := 6) (As := [_, _]) (rest := []) rfl rfl rfl (Or.inl rfl) rfl rfl (Nat.le_of_ble_eq_true rfl) (xSc_0 hc) (XCm hx1 rfl) rfl ?_
  refine xx_aload_n (q := 7) rfl rfl rfl ?_
  refine xx_getR (q := 10) rfl rfl rfl (xSc_0 hc) (Nat.le_of_ble_eq_true rfl) rfl (rc_facts hR hc) ?_
  refine xx_iconst (q := 11) rfl rfl (by decide) ?_
  refine xx_aload_n (q := 12) rfl rfl rfl ?_
  refine xx_getR (q := 15) rfl rfl rfl (xSc_0 hc) (Nat.le_of_ble_eq_true rfl) rfl (rc_fleet hR hc) ?_
  refine xx_getR (q := 18) rfl rfl rfl (xSc_13 hc) (Nat.le_of_ble_eq_true rfl) rfl (rc_draught hR hc) ?_
  refine xx_iload_n (q := 19) rfl rfl rfl ?_
  refine xx_iaz (v := K 15 (boat).toNat) (q := 20) rfl rfl (xSc_15 hc) (by omega) (by omega) (ck_a hK1 (o := 15) (N := 6) rfl (by omega) (by omega)) ?_
  have hb2 : 0 ≤ K 15 (boat).toNat ∧ K 15 (boat).toNat ≤ 99 := by have h := ki_15 hI (boat).toNat; exact h
  refine xc_fsz hK1 hF1 hB1 (q := 21) rfl rfl (xSc_18 hc) (by omega) (by omega) (fun D3 hK3 hF3 hA3 => ?_)
  refine xx_aload_n (q := 22) rfl rfl rfl ?_
  refine xx_getR (q := 25) rfl rfl rfl (xSc_0 hc) (Nat.le_of_ble_eq_true rfl) rfl (rc_facts hR hc) ?_
  refine xx_bipush (q := 27) rfl rfl (by decide) ?_
  refine xx_aload_n (q := 28) rfl rfl rfl ?_
  refine xx_getR (q := 31) rfl rfl rfl (xSc_0 hc) (Nat.le_of_ble_eq_true rfl) rfl (rc_depth hR hc) ?_
  refine xx_iload_n (q := 32) rfl rfl rfl ?_
  refine xx_iaz (v := K 1 (lock).toNat) (q := 33) rfl rfl (xSc_1 hc) (by omega) (by omega) (ck_a hK3 (o := 1) (N := 10) rfl (by omega) (by omega)) ?_
  have hb4 : 0 ≤ K 1 (lock).toNat ∧ K 1 (lock).toNat ≤ 999 := by have h := ki_1 hI (lock).toNat; exact h
  refine xc_fsz hK3 hF3 hA3 (q := 34) rfl rfl (xSc_18 hc) (by omega) (by omega) (fun D5 hK5 hF5 hA5 => ?_)
  refine xx_aload_n (q := 35) rfl rfl rfl ?_
  refine xx_getR (q := 38) rfl rfl rfl (xSc_0 hc) (Nat.le_of_ble_eq_true rfl) rfl (rc_facts hR hc) ?_
  refine xx_bipush (q := 40) rfl rfl (by decide) ?_
  refine xx_aload_n (q := 41) rfl rfl rfl ?_
  refine xx_getR (q := 44) rfl rfl rfl (xSc_0 hc) (Nat.le_of_ble_eq_true rfl) rfl (rc_depth hR hc) ?_
  refine xx_iload_n (q := 45) rfl rfl rfl ?_
  refine xx_iconst (q := 46) rfl rfl (by decide) ?_
  refine xx_iaddR (q := 47) rfl rfl (by omega) (by omega) ?_
  refine xx_iaz (v := K 1 (lock + 1).toNat) (q := 48) rfl rfl (xSc_1 hc) (by omega) (by omega) (ck_a hK5 (o := 1) (N := 10) rfl (by omega) (by omega)) ?_
  have hb6 : 0 ≤ K 1 (lock + 1).toNat ∧ K 1 (lock + 1).toNat ≤ 999 := by have h := ki_1 hI (lock + 1).toNat; exact h
  refine xc_fsz hK5 hF5 hA5 (q := 49) rfl rfl (xSc_18 hc) (by omega) (by omega) (fun D7 hK7 hF7 hA7 => ?_)
  refine xx_aload_n (q := 50) rfl rfl rfl ?_
  refine xx_getR (q := 53) rfl rfl rfl (xSc_0 hc) (Nat.le_of_ble_eq_true rfl) rfl (rc_facts hR hc) ?_
  refine xx_bipush (q := 55) rfl rfl (by decide) ?_
  refine xx_iload_n (q := 56) rfl rfl rfl ?_
  refine xx_if_eq (q := 63) (q2 := 59) rfl rfl rfl (fun h56 => ?_) (fun h56 => ?_)
  · refine xx_iconst (q := 64) rfl rfl (by decide) ?_
    refine xc_fsz hK7 hF7 hA7 (q := 65) rfl rfl (xSc_18 hc) (by omega) (by omega) (fun D8 hK8 hF8 hA8 => ?_)
    refine xx_aload_n (q := 66) rfl rfl rfl ?_
    refine xx_getR (q := 69) rfl rfl rfl (xSc_0 hc) (Nat.le_of_ble_eq_true rfl) rfl (rc_facts hR hc) ?_
    refine xx_bipush (q := 71) rfl rfl (by decide) ?_
    refine xx_aload_n (q := 72) rfl rfl rfl ?_
    refine xx_getR (q := 75) rfl rfl rfl (xSc_0 hc) (Nat.le_of_ble_eq_true rfl) rfl (rc_passes hR hc) ?_
    refine xx_iload_n (q := 76) rfl rfl rfl ?_
    refine xx_iaz (v := K 5 (lock).toNat) (q := 77) rfl rfl (xSc_5 hc) (by omega) (by omega) (ck_a hK8 (o := 5) (N := 9) rfl (by omega) (by omega)) ?_
    have hb9 : -2147483648 ≤ K 5 (lock).toNat ∧ K 5 (lock).toNat ≤ 2147483647 := by have h := ki_5 hI (lock).toNat; exact h
    refine xc_fsz hK8 hF8 hA8 (q := 78) rfl rfl (xSc_18 hc) (by omega) (by omega) (fun D10 hK10 hF10 hA10 => ?_)
    refine xx_aload_n (q := 79) rfl rfl rfl ?_
    refine xx_getR (q := 82) rfl rfl rfl (xSc_0 hc) (Nat.le_of_ble_eq_true rfl) rfl (rc_facts hR hc) ?_
    refine xx_bipush (q := 84) rfl rfl (by decide) ?_
    refine xx_iload (q := 86) rfl rfl rfl ?_
    refine xx_if_eq (q := 93) (q2 := 89) rfl rfl rfl (fun h86 => ?_) (fun h86 => ?_)
    · refine xx_iconst (q := 94) rfl rfl (by decide) ?_
      refine xc_fsz hK10 hF10 hA10 (q := 95) rfl rfl (xSc_18 hc) (by omega) (by omega) (fun D11 hK11 hF11 hA11 => ?_)
      refine xx_aload_n (q := 96) rfl rfl rfl ?_
      refine xx_getR (q := 99) rfl rfl rfl (xSc_0 hc) (Nat.le_of_ble_eq_true rfl) rfl (rc_gatesN hR hn) ?_
      refine xx_aload_n (q := 100) rfl rfl rfl ?_
      refine xx_getR (q := 103) rfl rfl rfl (xSc_0 hc) (Nat.le_of_ble_eq_true rfl) rfl (rc_facts hR hc) ?_
      refine xx_iconst (q := 104) rfl rfl (by decide) ?_
      have hf12 : ∀ k, rlG k → D11 (c + 18) k = fcG K lock boat up two k := by
        intro k hk
        rw [hA11 k]
        unfold rlG at hk
        have h5 : k < 5 ∨ k = 5 ∨ k = 6 ∨ k = 7 ∨ k = 8 ∨ k = 9 ∨ k = 10 := by omega
        rcases h5 with h5 | rfl | rfl | rfl | rfl | rfl | rfl
        · have h6 := hA1 k h5
          have h7 : k = 0 ∨ k = 1 ∨ k = 2 ∨ k = 3 ∨ k = 4 := by omega
          rcases h7 with rfl | rfl | rfl | rfl | rfl <;> exact h6
        · rfl
        · rfl
        · rfl
        · simp [fset, fcG, *]
        · rfl
        · simp [fset, fcG, *]
      obtain ⟨D12, hx12, hg12⟩ := hG D11 c (fcG K lock boat up two) 1 hc (fun b k q1 q2 => hF11 b k (by omega) (by omega) (by omega)) hf12
      have hK12 : CK c K D12 := CK_fr hK11 (fun o k ho => hg12 _ _ (by omega))
      have hF12 : Fr c D D12 := Fr.st hF11 (fun b k q1 q2 => hg12 b k (by omega))
      refine xx_callV (q := 107) (As := [_, _]) (rest := []) rfl rfl rfl (Or.inl rfl) rfl rfl (Nat.le_of_ble_eq_true rfl) xS_7 (XCm hx12 rfl) rfl ?_
      refine xx_if_eq (q := 114) (q2 := 110) rfl rfl rfl (fun h107 => ?_) (fun h107 => ?_)
      · refine xx_iconst (q := 115) rfl rfl (by decide) ?_
        refine xx_iret rfl (Or.inl rfl) ⟨congrArg (fun z => some (Sum.inl z)) (by grind [bi]), _, rfl, ?_⟩
        exact ⟨hK12, hF12⟩
      · refine xx_iconst (q := 111) rfl rfl (by decide) ?_
        refine xx_goto (q := 115) rfl rfl ?_
        refine xx_iret rfl (Or.inr rfl) ⟨congrArg (fun z => some (Sum.inl z)) (by grind [bi]), _, rfl, ?_⟩
        exact ⟨hK12, hF12⟩
    · refine xx_iconst (q := 90) rfl rfl (by decide) ?_
      refine xx_goto (q := 94) rfl rfl ?_
      refine xc_fsz hK10 hF10 hA10 (q := 95) rfl rfl (xSc_18 hc) (by omega) (by omega) (fun D13 hK13 hF13 hA13 => ?_)
      refine xx_aload_n (q := 96) rfl rfl rfl ?_
      refine xx_getR (q := 99) rfl rfl rfl (xSc_0 hc) (Nat.le_of_ble_eq_true rfl) rfl (rc_gatesN hR hn) ?_
      refine xx_aload_n (q := 100) rfl rfl rfl ?_
      refine xx_getR (q := 103) rfl rfl rfl (xSc_0 hc) (Nat.le_of_ble_eq_true rfl) rfl (rc_facts hR hc) ?_
      refine xx_iconst (q := 104) rfl rfl (by decide) ?_
      have hf14 : ∀ k, rlG k → D13 (c + 18) k = fcG K lock boat up two k := by
        intro k hk
        rw [hA13 k]
        unfold rlG at hk
        have h5 : k < 5 ∨ k = 5 ∨ k = 6 ∨ k = 7 ∨ k = 8 ∨ k = 9 ∨ k = 10 := by omega
        rcases h5 with h5 | rfl | rfl | rfl | rfl | rfl | rfl
        · have h6 := hA1 k h5
          have h7 : k = 0 ∨ k = 1 ∨ k = 2 ∨ k = 3 ∨ k = 4 := by omega
          rcases h7 with rfl | rfl | rfl | rfl | rfl <;> exact h6
        · rfl
        · rfl
        · rfl
        · simp [fset, fcG, *]
        · rfl
        · simp [fset, fcG, *]
      obtain ⟨D14, hx14, hg14⟩ := hG D13 c (fcG K lock boat up two) 1 hc (fun b k q1 q2 => hF13 b k (by omega) (by omega) (by omega)) hf14
      have hK14 : CK c K D14 := CK_fr hK13 (fun o k ho => hg14 _ _ (by omega))
      have hF14 : Fr c D D14 := Fr.st hF13 (fun b k q1 q2 => hg14 b k (by omega))
      refine xx_callV (q := 107) (As := [_, _]) (rest := []) rfl rfl rfl (Or.inl rfl) rfl rfl (Nat.le_of_ble_eq_true rfl) xS_7 (XCm hx14 rfl) rfl ?_
      refine xx_if_eq (q := 114) (q2 := 110) rfl rfl rfl (fun h107 => ?_) (fun h107 => ?_)
      · refine xx_iconst (q := 115) rfl rfl (by decide) ?_
        refine xx_iret rfl (Or.inl rfl) ⟨congrArg (fun z => some (Sum.inl z)) (by grind [bi]), _, rfl, ?_⟩
        exact ⟨hK14, hF14⟩
      · refine xx_iconst (q := 111) rfl rfl (by decide) ?_
        refine xx_goto (q := 115) rfl rfl ?_
        refine xx_iret rfl (Or.inr rfl) ⟨congrArg (fun z => some (Sum.inl z)) (by grind [bi]), _, rfl, ?_⟩
        exact ⟨hK14, hF14⟩
  · refine xx_iconst (q := 60) rfl rfl (by decide) ?_
    refine xx_goto (q := 64) rfl rfl ?_
    refine xc_fsz hK7 hF7 hA7 (q := 65) rfl rfl (xSc_18 hc) (by omega) (by omega) (fun D15 hK15 hF15 hA15 => ?_)
    refine xx_aload_n (q := 66) rfl rfl rfl ?_
    refine xx_getR (q := 69) rfl rfl rfl (xSc_0 hc) (Nat.le_of_ble_eq_true rfl) rfl (rc_facts hR hc) ?_
    refine xx_bipush (q := 71) rfl rfl (by decide) ?_
    refine xx_aload_n (q := 72) rfl rfl rfl ?_
    refine xx_getR (q := 75) rfl rfl rfl (xSc_0 hc) (Nat.le_of_ble_eq_true rfl) rfl (rc_passes hR hc) ?_
    refine xx_iload_n (q := 76) rfl rfl rfl ?_
    refine xx_iaz (v := K 5 (lock).toNat) (q := 77) rfl rfl (xSc_5 hc) (by omega) (by omega) (ck_a hK15 (o := 5) (N := 9) rfl (by omega) (by omega)) ?_
    have hb16 : -2147483648 ≤ K 5 (lock).toNat ∧ K 5 (lock).toNat ≤ 2147483647 := by have h := ki_5 hI (lock).toNat; exact h
    refine xc_fsz hK15 hF15 hA15 (q := 78) rfl rfl (xSc_18 hc) (by omega) (by omega) (fun D17 hK17 hF17 hA17 => ?_)
    refine xx_aload_n (q := 79) rfl rfl rfl ?_
    refine xx_getR (q := 82) rfl rfl rfl (xSc_0 hc) (Nat.le_of_ble_eq_true rfl) rfl (rc_facts hR hc) ?_
    refine xx_bipush (q := 84) rfl rfl (by decide) ?_
    refine xx_iload (q := 86) rfl rfl rfl ?_
    refine xx_if_eq (q := 93) (q2 := 89) rfl rfl rfl (fun h86 => ?_) (fun h86 => ?_)
    · refine xx_iconst (q := 94) rfl rfl (by decide) ?_
      refine xc_fsz hK17 hF17 hA17 (q := 95) rfl rfl (xSc_18 hc) (by omega) (by omega) (fun D18 hK18 hF18 hA18 => ?_)
      refine xx_aload_n (q := 96) rfl rfl rfl ?_
      refine xx_getR (q := 99) rfl rfl rfl (xSc_0 hc) (Nat.le_of_ble_eq_true rfl) rfl (rc_gatesN hR hn) ?_
      refine xx_aload_n (q := 100) rfl rfl rfl ?_
      refine xx_getR (q := 103) rfl rfl rfl (xSc_0 hc) (Nat.le_of_ble_eq_true rfl) rfl (rc_facts hR hc) ?_
      refine xx_iconst (q := 104) rfl rfl (by decide) ?_
      have hf19 : ∀ k, rlG k → D18 (c + 18) k = fcG K lock boat up two k := by
        intro k hk
        rw [hA18 k]
        unfold rlG at hk
        have h5 : k < 5 ∨ k = 5 ∨ k = 6 ∨ k = 7 ∨ k = 8 ∨ k = 9 ∨ k = 10 := by omega
        rcases h5 with h5 | rfl | rfl | rfl | rfl | rfl | rfl
        · have h6 := hA1 k h5
          have h7 : k = 0 ∨ k = 1 ∨ k = 2 ∨ k = 3 ∨ k = 4 := by omega
          rcases h7 with rfl | rfl | rfl | rfl | rfl <;> exact h6
        · rfl
        · rfl
        · rfl
        · simp [fset, fcG, *]
        · rfl
        · simp [fset, fcG, *]
      obtain ⟨D19, hx19, hg19⟩ := hG D18 c (fcG K lock boat up two) 1 hc (fun b k q1 q2 => hF18 b k (by omega) (by omega) (by omega)) hf19
      have hK19 : CK c K D19 := CK_fr hK18 (fun o k ho => hg19 _ _ (by omega))
      have hF19 : Fr c D D19 := Fr.st hF18 (fun b k q1 q2 => hg19 b k (by omega))
      refine xx_callV (q := 107) (As := [_, _]) (rest := []) rfl rfl rfl (Or.inl rfl) rfl rfl (Nat.le_of_ble_eq_true rfl) xS_7 (XCm hx19 rfl) rfl ?_
      refine xx_if_eq (q := 114) (q2 := 110) rfl rfl rfl (fun h107 => ?_) (fun h107 => ?_)
      · refine xx_iconst (q := 115) rfl rfl (by decide) ?_
        refine xx_iret rfl (Or.inl rfl) ⟨congrArg (fun z => some (Sum.inl z)) (by grind [bi]), _, rfl, ?_⟩
        exact ⟨hK19, hF19⟩
      · refine xx_iconst (q := 111) rfl rfl (by decide) ?_
        refine xx_goto (q := 115) rfl rfl ?_
        refine xx_iret rfl (Or.inr rfl) ⟨congrArg (fun z => some (Sum.inl z)) (by grind [bi]), _, rfl, ?_⟩
        exact ⟨hK19, hF19⟩
    · refine xx_iconst (q := 90) rfl rfl (by decide) ?_
      refine xx_goto (q := 94) rfl rfl ?_
      refine xc_fsz hK17 hF17 hA17 (q := 95) rfl rfl (xSc_18 hc) (by omega) (by omega) (fun D20 hK20 hF20 hA20 => ?_)
      refine xx_aload_n (q := 96) rfl rfl rfl ?_
      refine xx_getR (q := 99) rfl rfl rfl (xSc_0 hc) (Nat.le_of_ble_eq_true rfl) rfl (rc_gatesN hR hn) ?_
      refine xx_aload_n (q := 100) rfl rfl rfl ?_
      refine xx_getR (q := 103) rfl rfl rfl (xSc_0 hc) (Nat.le_of_ble_eq_true rfl) rfl (rc_facts hR hc) ?_
      refine xx_iconst (q := 104) rfl rfl (by decide) ?_
      have hf21 : ∀ k, rlG k → D20 (c + 18) k = fcG K lock boat up two k := by
        intro k hk
        rw [hA20 k]
        unfold rlG at hk
        have h5 : k < 5 ∨ k = 5 ∨ k = 6 ∨ k = 7 ∨ k = 8 ∨ k = 9 ∨ k = 10 := by omega
        rcases h5 with h5 | rfl | rfl | rfl | rfl | rfl | rfl
        · have h6 := hA1 k h5
          have h7 : k = 0 ∨ k = 1 ∨ k = 2 ∨ k = 3 ∨ k = 4 := by omega
          rcases h7 with rfl | rfl | rfl | rfl | rfl <;> exact h6
        · rfl
        · rfl
        · rfl
        · simp [fset, fcG, *]
        · rfl
        · simp [fset, fcG, *]
      obtain ⟨D21, hx21, hg21⟩ := hG D20 c (fcG K lock boat up two) 1 hc (fun b k q1 q2 => hF20 b k (by omega) (by omega) (by omega)) hf21
      have hK21 : CK c K D21 := CK_fr hK20 (fun o k ho => hg21 _ _ (by omega))
      have hF21 : Fr c D D21 := Fr.st hF20 (fun b k q1 q2 => hg21 b k (by omega))
      refine xx_callV (q := 107) (As := [_, _]) (rest := []) rfl rfl rfl (Or.inl rfl) rfl rfl (Nat.le_of_ble_eq_true rfl) xS_7 (XCm hx21 rfl) rfl ?_
      refine xx_if_eq (q := 114) (q2 := 110) rfl rfl rfl (fun h107 => ?_) (fun h107 => ?_)
      · refine xx_iconst (q := 115) rfl rfl (by decide) ?_
        refine xx_iret rfl (Or.inl rfl) ⟨congrArg (fun z => some (Sum.inl z)) (by grind [bi]), _, rfl, ?_⟩
        exact ⟨hK21, hF21⟩
      · refine xx_iconst (q := 111) rfl rfl (by decide) ?_
        refine xx_goto (q := 115) rfl rfl ?_
        refine xx_iret rfl (Or.inr rfl) ⟨congrArg (fun z => some (Sum.inl z)) (by grind [bi]), _, rfl, ?_⟩
        exact ⟨hK21, hF21⟩
def dlgF (K : KK) (Hh : LwF) (boat good amount lock : Int) : Int := hld (Hh (fcH K boat good amount lock) (K 11 (lock * 4 + good).toNat * amount))
set_option maxHeartbeats 1000000 in
theorem c_delight {n c : Nat} {R : Nat → Nat → Option Nat} {D K : KK} (hR : RF R) (hn : isN c) (hK : CK c K D) (hI : KI K) {Hh : LwF} (hH : LwH Hh n R D) (boat good amount lock : Int) (h0 : 0 ≤ lock) (h1 : lock < 9) (h2 : 0 ≤ boat) (h3 : boat < 6) (h4 : 0 ≤ good) (h5 : good < 4) (h6 : 0 ≤ amount) (h7 : amount ≤ 99) : ∃ D', XC 3 26 [.inr (some c), .inl boat, .inl good, .inl amount, .inl lock] (xS n, R, D) (some (.inl (dlgF K Hh boat good amount lock))) (xS n, R, D') ∧ CK c K D' ∧ Fr c D D' := by
  have hc := isN_C hn
  have hcg := isC_gt hc
  have hbt := ki_11 hI (lock * 4 + good).toNat
  have hm := mul_b hbt h6 h7
  refine XE_of (Nat.le_of_ble_eq_true rfl) (Nat.le_of_ble_eq_true rfl) (loc := [_, _, _, _, _, _]) rfl ?_
  refine xx_aload_n (q := 1) rfl rfl rfl ?_
  refine xx_getR (q := 4) rfl rfl rfl (xSc_0 hc) (Nat.le_of_ble_eq_true rfl) rfl (rc_keepers hR hc) ?_
  refine xx_iload (q := 6) rfl rfl rfl ?_
  refine xx_iload_n (q := 7) rfl rfl rfl ?_
  refine xx_callV (q := 10) (As := [_, _]) (rest := []) rfl rfl rfl (Or.inl rfl) rfl rfl (Nat.le_of_ble_eq_true rfl) (xSc_7 hc) (XCm (c_tasteFor hR hc hK hI lock good (by omega) (by omega) (by omega) (by omega)) rfl) rfl ?_
  refine xx_istore (q := 12) (loc2 := [_, _, _, _, _, _]) rfl rfl (Nat.le_of_ble_eq_true rfl) rfl ?_
  refine xx_aload_n (q := 13) rfl rfl rfl ?_
  refine xx_iload (q := 15) rfl rfl rfl ?_
  refine xx_iload_n (q := 16) rfl rfl rfl ?_
  obtain ⟨D1, hx1, hK1, hG1, hA1⟩ := c_knowKeeper (n := n) hR hc hK hI lock boat (by omega) (by omega) (by omega) (by omega)
  have hF1 := Fr.rf.trans hG1
  have hB1 : CF c (D1 (c + 18)) D1 := fun _ => rfl
  refine xx_callV (q := 19) (As := [_, _]) (rest := []) rfl rfl rfl (Or.inl rfl) rfl rfl (Nat.le_of_ble_eq_true rfl) (xSc_0 hc) (XCm hx1 rfl) rfl ?_
  refine xx_aload_n (q := 20) rfl rfl rfl ?_
  refine xx_getR (q := 23) rfl rfl rfl (xSc_0 hc) (Nat.le_of_ble_eq_true rfl) rfl (rc_facts hR hc) ?_
  refine xx_bipush (q := 25) rfl rfl (by decide) ?_
  refine xx_iload_n (q := 26) rfl rfl rfl ?_
  refine xc_fsz hK1 hF1 hB1 (q := 27) rfl rfl (xSc_18 hc) (by omega) (by omega) (fun D2 hK2 hF2 hA2 => ?_)
  refine xx_aload_n (q := 28) rfl rfl rfl ?_
  refine xx_getR (q := 31) rfl rfl rfl (xSc_0 hc) (Nat.le_of_ble_eq_true rfl) rfl (rc_facts hR hc) ?_
  refine xx_bipush (q := 33) rfl rfl (by decide) ?_
  refine xx_iload_n (q := 34) rfl rfl rfl ?_
  refine xc_fsz hK2 hF2 hA2 (q := 35) rfl rfl (xSc_18 hc) (by omega) (by omega) (fun D3 hK3 hF3 hA3 => ?_)
  refine xx_aload_n (q := 36) rfl rfl rfl ?_
  refine xx_getR (q := 39) rfl rfl rfl (xSc_0 hc) (Nat.le_of_ble_eq_true rfl) rfl (rc_facts hR hc) ?_
  refine xx_bipush (q := 41) rfl rfl (by decide) ?_
  refine xx_iload (q := 43) rfl rfl rfl ?_
  refine xc_fsz hK3 hF3 hA3 (q := 44) rfl rfl (xSc_18 hc) (by omega) (by omega) (fun D4 hK4 hF4 hA4 => ?_)
  refine xx_aload_n (q := 45) rfl rfl rfl ?_
  refine xx_getR (q := 48) rfl rfl rfl (xSc_0 hc) (Nat.le_of_ble_eq_true rfl) rfl (rc_facts hR hc) ?_
  refine xx_bipush (q := 50) rfl rfl (by decide) ?_
  refine xx_aload_n (q := 51) rfl rfl rfl ?_
  refine xx_getR (q := 54) rfl rfl rfl (xSc_0 hc) (Nat.le_of_ble_eq_true rfl) rfl (rc_keepers hR hc) ?_
  refine xx_getR (q := 57) rfl rfl rfl (xSc_7 hc) (Nat.le_of_ble_eq_true rfl) rfl (rc_presents hR hc) ?_
  refine xx_iload (q := 59) rfl rfl rfl ?_
  refine xx_iaz (v := K 10 (lock).toNat) (q := 60) rfl rfl (xSc_10 hc) (by omega) (by omega) (ck_a hK4 (o := 10) (N := 9) rfl (by omega) (by omega)) ?_
  have hb5 : -2147483648 ≤ K 10 (lock).toNat ∧ K 10 (lock).toNat ≤ 2147483647 := by have h := ki_10 hI (lock).toNat; exact h
  refine xc_fsz hK4 hF4 hA4 (q := 61) rfl rfl (xSc_18 hc) (by omega) (by omega) (fun D6 hK6 hF6 hA6 => ?_)
  refine xx_aload_n (q := 62) rfl rfl rfl ?_
  refine xx_getR (q := 65) rfl rfl rfl (xSc_0 hc) (Nat.le_of_ble_eq_true rfl) rfl (rc_heartsN hR hn) ?_
  refine xx_aload_n (q := 66) rfl rfl rfl ?_
  refine xx_getR (q := 69) rfl rfl rfl (xSc_0 hc) (Nat.le_of_ble_eq_true rfl) rfl (rc_facts hR hc) ?_
  refine xx_iload (q := 71) rfl rfl rfl ?_
  refine xx_iload_n (q := 72) rfl rfl rfl ?_
  refine xx_imulR (q := 73) rfl rfl (by omega) (by omega) ?_
  have hf7 : ∀ k, rlH k → D6 (c + 18) k = fcH K boat good amount lock k := by
    intro k hk
    rw [hA6 k]
    unfold rlH at hk
    have h5 : k < 5 ∨ k = 11 ∨ k = 12 ∨ k = 13 ∨ k = 14 := by omega
    rcases h5 with h5 | rfl | rfl | rfl | rfl
    · have h6 := hA1 k h5
      have h7 : k = 0 ∨ k = 1 ∨ k = 2 ∨ k = 3 ∨ k = 4 := by omega
      rcases h7 with rfl | rfl | rfl | rfl | rfl <;> exact h6
    · rfl
    · rfl
    · rfl
    · rfl
  obtain ⟨D7, hx7, hg7⟩ := hH D6 c (fcH K boat good amount lock) ((K 11 (lock * 4 + good).toNat) * amount) hc (fun b k q1 q2 => hF6 b k (by omega) (by omega) (by omega)) hf7
  have hK7 : CK c K D7 := CK_fr hK6 (fun o k ho => hg7 _ _ (by omega))
  have hF7 : Fr c D D7 := Fr.st hF6 (fun b k q1 q2 => hg7 b k (by omega))
  refine xx_callV (q := 76) (As := [_, _]) (rest := []) rfl rfl rfl (Or.inl rfl) rfl rfl (Nat.le_of_ble_eq_true rfl) xS_11 (XCm hx7 rfl) rfl ?_
  refine xx_callS (q := 79) (As := [_]) (rest := []) rfl rfl rfl (Or.inr rfl) rfl rfl (Nat.le_of_ble_eq_true rfl) (XCm (c_held (Hh (fcH K boat good amount lock) ((K 11 (lock * 4 + good).toNat) * amount))) rfl) rfl ?_
  have hb8 := hld_b (Hh (fcH K boat good amount lock) ((K 11 (lock * 4 + good).toNat) * amount))
  refine xx_iret rfl trivial ⟨congrArg (fun z => some (Sum.inl z)) (by rfl), _, rfl, ?_⟩
  exact ⟨hK7, hF7⟩
abbrev mateF (K : KK) (boat wth : Int) : Prop := wth = -1 ∨ ((0 ≤ wth ∧ wth < K 13 0) ∧ ¬ wth = boat ∧ K 14 wth.toNat = K 14 boat.toNat)
abbrev canF (K : KK) (boat good amount lock : Int) : Prop := (0 ≤ boat ∧ boat < K 13 0) ∧ (0 ≤ lock ∧ lock < K 0 0) ∧ (0 ≤ good ∧ good ≤ 3) ∧ (lock = K 14 boat.toNat ∨ lock + 1 = K 14 boat.toNat) ∧ (1 ≤ amount ∧ amount ≤ 99) ∧ amount ≤ K 17 (boat * 4 + good).toNat
set_option maxHeartbeats 1000000 in
theorem c_isMate {n c : Nat} {R : Nat → Nat → Option Nat} {D K : KK} (hR : RF R) (hc : isC c) (hK : CK c K D) (hI : KI K) (boat wth : Int) (h0 : 0 ≤ boat) (h1 : boat < K 13 0) : XC 2 24 [.inr (some c), .inl boat, .inl wth] (xS n, R, D) (some (.inl (bi (mateF K boat wth)))) (xS n, R, D) := by
  have hbB := ki_B hI
  refine XC_of (Nat.le_of_ble_eq_true rfl) (Nat.le_of_ble_eq_true rfl) (loc := [_, _, _]) rfl ?_
  refine xx_iload_n (q := 1) rfl rfl rfl ?_
  refine xx_iconst (q := 2) rfl rfl (by decide) ?_
  refine xx_icmp_ne (q := 7) (q2 := 5) rfl rfl rfl (fun h2 => ?_) (fun h2 => ?_)
  · refine xx_aload_n (q := 8) rfl rfl rfl ?_
    refine xx_getR (q := 11) rfl rfl rfl (xSc_0 hc) (Nat.le_of_ble_eq_true rfl) rfl (rc_fleet hR hc) ?_
    refine xx_iload_n (q := 12) rfl rfl rfl ?_
    refine xx_callV (q := 15) (As := [_]) (rest := []) rfl rfl rfl (Or.inl rfl) rfl rfl (Nat.le_of_ble_eq_true rfl) (xSc_13 hc) (XCm (c_has hR hc hK hI wth) rfl) rfl ?_
    refine xx_ifb_eq (q := 48) (q2 := 18) rfl rfl rfl (fun h15 => ?_) (fun h15 => ?_)
    · refine xx_iconst (q := 49) rfl rfl (by decide) ?_
      exact xx_iret rfl (Or.inl rfl) ⟨congrArg (fun z => some (Sum.inl z)) (by grind [bi]), rfl⟩
    · refine xx_iload_n (q := 19) rfl rfl rfl ?_
      refine xx_iload_n (q := 20) rfl rfl rfl ?_
      refine xx_icmp_eq (q := 48) (q2 := 23) rfl rfl rfl (fun h20 => ?_) (fun h20 => ?_)
      · refine xx_iconst (q := 49) rfl rfl (by decide) ?_
        exact xx_iret rfl (Or.inl rfl) ⟨congrArg (fun z => some (Sum.inl z)) (by grind [bi]), rfl⟩
      · refine xx_aload_n (q := 24) rfl rfl rfl ?_
        refine xx_getR (q := 27) rfl rfl rfl (xSc_0 hc) (Nat.le_of_ble_eq_true rfl) rfl (rc_fleet hR hc) ?_
        refine xx_getR (q := 30) rfl rfl rfl (xSc_13 hc) (Nat.le_of_ble_eq_true rfl) rfl (rc_where hR hc) ?_
        refine xx_iload_n (q := 31) rfl rfl rfl ?_
        refine xx_iaz (v := K 14 (wth).toNat) (q := 32) rfl rfl (xSc_14 hc) (by omega) (by omega) (ck_w hK (by omega) (by omega)) ?_
        have hb1 : 0 ≤ K 14 (wth).toNat ∧ K 14 (wth).toNat ≤ 9 := by have h := ki_14 hI (wth).toNat; exact h
        refine xx_aload_n (q := 33) rfl rfl rfl ?_
        refine xx_getR (q := 36) rfl rfl rfl (xSc_0 hc) (Nat.le_of_ble_eq_true rfl) rfl (rc_fleet hR hc) ?_
        refine xx_getR (q := 39) rfl rfl rfl (xSc_13 hc) (Nat.le_of_ble_eq_true rfl) rfl (rc_where hR hc) ?_
        refine xx_iload_n (q := 40) rfl rfl rfl ?_
        refine xx_iaz (v := K 14 (boat).toNat) (q := 41) rfl rfl (xSc_14 hc) (by omega) (by omega) (ck_w hK (by omega) (by omega)) ?_
        have hb2 : 0 ≤ K 14 (boat).toNat ∧ K 14 (boat).toNat ≤ 9 := by have h := ki_14 hI (boat).toNat; exact h
        refine xx_icmp_ne (q := 48) (q2 := 44) rfl rfl rfl (fun h41 => ?_) (fun h41 => ?_)
        · refine xx_iconst (q := 49) rfl rfl (by decide) ?_
          exact xx_iret rfl (Or.inl rfl) ⟨congrArg (fun z => some (Sum.inl z)) (by grind [bi]), rfl⟩
        · refine xx_iconst (q := 45) rfl rfl (by decide) ?_
          refine xx_goto (q := 49) rfl rfl ?_
          exact xx_iret rfl (Or.inr rfl) ⟨congrArg (fun z => some (Sum.inl z)) (by grind [bi]), rfl⟩
  · refine xx_iconst (q := 6) rfl rfl (by decide) ?_
    exact xx_iret rfl (Or.inr rfl) ⟨congrArg (fun z => some (Sum.inl z)) (by grind [bi]), rfl⟩
set_option maxHeartbeats 1000000 in
theorem c_canGive {n c : Nat} {R : Nat → Nat → Option Nat} {D K : KK} (hR : RF R) (hc : isC c) (hK : CK c K D) (hI : KI K) (boat good amount lock : Int) : XC 2 28 [.inr (some c), .inl boat, .inl good, .inl amount, .inl lock] (xS n, R, D) (some (.inl (bi (canF K boat good amount lock)))) (xS n, R, D) := by
  have hbB := ki_B hI
  have hbL := ki_L hI
  refine XC_of (Nat.le_of_ble_eq_true rfl) (Nat.le_of_ble_eq_true rfl) (loc := [_, _, _, _, _, _, _]) rfl ?_
  refine xx_aload_n (q := 1) rfl rfl rfl ?_
  refine xx_getR (q := 4) rfl rfl rfl (xSc_0 hc) (Nat.le_of_ble_eq_true rfl) rfl (rc_fleet hR hc) ?_
  refine xx_iload_n (q := 5) rfl rfl rfl ?_
  refine xx_callV (q := 8) (As := [_]) (rest := []) rfl rfl rfl (Or.inl rfl) rfl rfl (Nat.le_of_ble_eq_true rfl) (xSc_13 hc) (XCm (c_has hR hc hK hI boat) rfl) rfl ?_
  refine xx_ifb_eq (q := 29) (q2 := 11) rfl rfl rfl (fun h8 => ?_) (fun h8 => ?_)
  · refine xx_iconst (q := 30) rfl rfl (by decide) ?_
    exact xx_iret rfl (Or.inl rfl) ⟨congrArg (fun z => some (Sum.inl z)) (by grind [bi]), rfl⟩
  · refine xx_aload_n (q := 12) rfl rfl rfl ?_
    refine xx_iload (q := 14) rfl rfl rfl ?_
    refine xx_callV (q := 17) (As := [_]) (rest := []) rfl rfl rfl (Or.inl rfl) rfl rfl (Nat.le_of_ble_eq_true rfl) (xSc_0 hc) (XCm (c_hasLock hR hc hK hI lock) rfl) rfl ?_
    refine xx_ifb_eq (q := 29) (q2 := 20) rfl rfl rfl (fun h17 => ?_) (fun h17 => ?_)
    · refine xx_iconst (q := 30) rfl rfl (by decide) ?_
      exact xx_iret rfl (Or.inl rfl) ⟨congrArg (fun z => some (Sum.inl z)) (by grind [bi]), rfl⟩
    · refine xx_iload_n (q := 21) rfl rfl rfl ?_
      refine xx_iconst (q := 22) rfl rfl (by decide) ?_
      refine xx_iconst (q := 23) rfl rfl (by decide) ?_
      refine xx_callS (q := 26) (As := [_, _, _]) (rest := []) rfl rfl rfl (Or.inr rfl) rfl rfl (Nat.le_of_ble_eq_true rfl) (XCm (c_within good 0 3) rfl) rfl ?_
      refine xx_ifb_ne (q := 31) (q2 := 29) rfl rfl rfl (fun h26 => ?_) (fun h26 => ?_)
      · refine xx_aload_n (q := 32) rfl rfl rfl ?_
        refine xx_getR (q := 35) rfl rfl rfl (xSc_0 hc) (Nat.le_of_ble_eq_true rfl) rfl (rc_fleet hR hc) ?_
        refine xx_getR (q := 38) rfl rfl rfl (xSc_13 hc) (Nat.le_of_ble_eq_true rfl) rfl (rc_where hR hc) ?_
        refine xx_iload_n (q := 39) rfl rfl rfl ?_
        refine xx_iaz (v := K 14 (boat).toNat) (q := 40) rfl rfl (xSc_14 hc) (by omega) (by omega) (ck_w hK (by omega) (by omega)) ?_
        have hb1 : 0 ≤ K 14 (boat).toNat ∧ K 14 (boat).toNat ≤ 9 := by have h := ki_14 hI (boat).toNat; exact h
        refine xx_istore (q := 42) (loc2 := [_, _, _, _, _, _, _]) rfl rfl (Nat.le_of_ble_eq_true rfl) rfl ?_
        refine xx_iload (q := 44) rfl rfl rfl ?_
        refine xx_iload (q := 46) rfl rfl rfl ?_
        refine xx_icmp_eq (q := 58) (q2 := 49) rfl rfl rfl (fun h46 => ?_) (fun h46 => ?_)
        · refine xx_iconst (q := 59) rfl rfl (by decide) ?_
          refine xx_goto (q := 63) rfl rfl ?_
          refine xx_istore (q := 65) (loc2 := [_, _, _, _, _, _, _]) rfl rfl (Nat.le_of_ble_eq_true rfl) rfl ?_
          refine xx_iload (q := 67) rfl rfl rfl ?_
          refine xx_if_eq (q := 97) (q2 := 70) rfl rfl rfl (fun h67 => (by exfalso; omega)) (fun _ => ?_)
          refine xx_iload_n (q := 71) rfl rfl rfl ?_
          refine xx_iconst (q := 72) rfl rfl (by decide) ?_
          refine xx_bipush (q := 74) rfl rfl (by decide) ?_
          refine xx_callS (q := 77) (As := [_, _, _]) (rest := []) rfl rfl rfl (Or.inr rfl) rfl rfl (Nat.le_of_ble_eq_true rfl) (XCm (c_within amount 1 99) rfl) rfl ?_
          refine xx_ifb_eq (q := 97) (q2 := 80) rfl rfl rfl (fun h77 => ?_) (fun h77 => ?_)
          · refine xx_iconst (q := 98) rfl rfl (by decide) ?_
            exact xx_iret rfl (Or.inl rfl) ⟨congrArg (fun z => some (Sum.inl z)) (by grind [bi]), rfl⟩
          · refine xx_iload_n (q := 81) rfl rfl rfl ?_
            refine xx_aload_n (q := 82) rfl rfl rfl ?_
            refine xx_getR (q := 85) rfl rfl rfl (xSc_0 hc) (Nat.le_of_ble_eq_true rfl) rfl (rc_fleet hR hc) ?_
            refine xx_iload_n (q := 86) rfl rfl rfl ?_
            refine xx_iload_n (q := 87) rfl rfl rfl ?_
            refine xx_callV (q := 90) (As := [_, _]) (rest := [_]) rfl rfl rfl (Or.inl rfl) rfl rfl (Nat.le_of_ble_eq_true rfl) (xSc_13 hc) (XCm (c_cargoOf hR hc hK hI boat good (by omega) (by omega) (by omega) (by omega)) rfl) rfl ?_
            refine xx_icmp_gt (q := 97) (q2 := 93) rfl rfl rfl (fun h90 => ?_) (fun h90 => ?_)
            · refine xx_iconst (q := 98) rfl rfl (by decide) ?_
              exact xx_iret rfl (Or.inl rfl) ⟨congrArg (fun z => some (Sum.inl z)) (by grind [bi]), rfl⟩
            · refine xx_iconst (q := 94) rfl rfl (by decide) ?_
              refine xx_goto (q := 98) rfl rfl ?_
              exact xx_iret rfl (Or.inr rfl) ⟨congrArg (fun z => some (Sum.inl z)) (by grind [bi]), rfl⟩
        · refine xx_iload (q := 51) rfl rfl rfl ?_
          refine xx_iconst (q := 52) rfl rfl (by decide) ?_
          refine xx_iaddR (q := 53) rfl rfl (by omega) (by omega) ?_
          refine xx_iload (q := 55) rfl rfl rfl ?_
          refine xx_icmp_ne (q := 62) (q2 := 58) rfl rfl rfl (fun h55 => ?_) (fun h55 => ?_)
          · refine xx_iconst (q := 63) rfl rfl (by decide) ?_
            refine xx_istore (q := 65) (loc2 := [_, _, _, _, _, _, _]) rfl rfl (Nat.le_of_ble_eq_true rfl) rfl ?_
            refine xx_iload (q := 67) rfl rfl rfl ?_
            refine xx_if_eq (q := 97) (q2 := 70) rfl rfl rfl (fun _ => ?_) (fun h67 => (by exfalso; omega))
            refine xx_iconst (q := 98) rfl rfl (by decide) ?_
            exact xx_iret rfl (Or.inl rfl) ⟨congrArg (fun z => some (Sum.inl z)) (by grind [bi]), rfl⟩
          · refine xx_iconst (q := 59) rfl rfl (by decide) ?_
            refine xx_goto (q := 63) rfl rfl ?_
            refine xx_istore (q := 65) (loc2 := [_, _, _, _, _, _, _]) rfl rfl (Nat.le_of_ble_eq_true rfl) rfl ?_
            refine xx_iload (q := 67) rfl rfl rfl ?_
            refine xx_if_eq (q := 97) (q2 := 70) rfl rfl rfl (fun h67 => (by exfalso; omega)) (fun _ => ?_)
            refine xx_iload_n (q := 71) rfl rfl rfl ?_
            refine xx_iconst (q := 72) rfl rfl (by decide) ?_
            refine xx_bipush (q := 74) rfl rfl (by decide) ?_
            refine xx_callS (q := 77) (As := [_, _, _]) (rest := []) rfl rfl rfl (Or.inr rfl) rfl rfl (Nat.le_of_ble_eq_true rfl) (XCm (c_within amount 1 99) rfl) rfl ?_
            refine xx_ifb_eq (q := 97) (q2 := 80) rfl rfl rfl (fun h77 => ?_) (fun h77 => ?_)
            · refine xx_iconst (q := 98) rfl rfl (by decide) ?_
              exact xx_iret rfl (Or.inl rfl) ⟨congrArg (fun z => some (Sum.inl z)) (by grind [bi]), rfl⟩
            · refine xx_iload_n (q := 81) rfl rfl rfl ?_
              refine xx_aload_n (q := 82) rfl rfl rfl ?_
              refine xx_getR (q := 85) rfl rfl rfl (xSc_0 hc) (Nat.le_of_ble_eq_true rfl) rfl (rc_fleet hR hc) ?_
              refine xx_iload_n (q := 86) rfl rfl rfl ?_
              refine xx_iload_n (q := 87) rfl rfl rfl ?_
              refine xx_callV (q := 90) (As := [_, _]) (rest := [_]) rfl rfl rfl (Or.inl rfl) rfl rfl (Nat.le_of_ble_eq_true rfl) (xSc_13 hc) (XCm (c_cargoOf hR hc hK hI boat good (by omega) (by omega) (by omega) (by omega)) rfl) rfl ?_
              refine xx_icmp_gt (q := 97) (q2 := 93) rfl rfl rfl (fun h90 => ?_) (fun h90 => ?_)
              · refine xx_iconst (q := 98) rfl rfl (by decide) ?_
                exact xx_iret rfl (Or.inl rfl) ⟨congrArg (fun z => some (Sum.inl z)) (by grind [bi]), rfl⟩
              · refine xx_iconst (q := 94) rfl rfl (by decide) ?_
                refine xx_goto (q := 98) rfl rfl ?_
                exact xx_iret rfl (Or.inr rfl) ⟨congrArg (fun z => some (Sum.inl z)) (by grind [bi]), rfl⟩
      · refine xx_iconst (q := 30) rfl rfl (by decide) ?_
        exact xx_iret rfl (Or.inl rfl) ⟨congrArg (fun z => some (Sum.inl z)) (by grind [bi]), rfl⟩
def refF (K : KK) (G : LwF) (boat up wth : Int) : Int :=
  if ¬ (0 ≤ boat ∧ boat < K 13 0) then -1 else
  if lckF K (K 14 boat.toNat) up = -1 ∨ ¬ mateF K boat wth then -1 else
  if K 4 (lckF K (K 14 boat.toNat) up).toNat < (if wth = -1 then K 16 boat.toNat else K 16 boat.toNat + K 16 wth.toNat) then -2 else
  if G (fcG K (lckF K (K 14 boat.toNat) up) boat up (if wth = -1 then 0 else 1)) 1 = 0 ∨ (¬ wth = -1 ∧ G (fcG K (lckF K (K 14 boat.toNat) up) wth up 1) 1 = 0) then -3 else
  if K 1 (lckF K (K 14 boat.toNat) up).toNat < K 2 (lckF K (K 14 boat.toNat) up).toNat then -4 else
  if (if up = 0 then mnF (K 1 (lckF K (K 14 boat.toNat) up + 1).toNat + K 2 (lckF K (K 14 boat.toNat) up).toNat) 999 else K 1 (lckF K (K 14 boat.toNat) up).toNat - K 2 (lckF K (K 14 boat.toNat) up).toNat) < (if wth = -1 then K 15 boat.toNat else mxF (K 15 boat.toNat) (K 15 wth.toNat)) then -5 else 0
set_option maxHeartbeats 10000000 in
theorem c_refusal {n c : Nat} {R : Nat → Nat → Option Nat} {D K : KK} (hR : RF R) (hn : isN c) (hK : CK c K D) (hI : KI K) {G : LwF} (hG : LwG G n R D) (boat up wth : Int) : ∃ D', XC 4 23 [.inr (some c), .inl boat, .inl up, .inl wth] (xS n, R, D) (some (.inl (refF K G boat up wth))) (xS n, R, D') ∧ CK c K D' ∧ Fr c D D' := by
  have hc := isN_C hn
  have hbB := ki_B hI
  have hbL := ki_L hI
  refine XE_of (Nat.le_of_ble_eq_true rfl) (Nat.le_of_ble_eq_true rfl) (loc := [_, _, _, _, _, _, _, _, _]) rfl ?_
  refine xx_aload_n (q := 1) rfl rfl rfl ?_
  refine xx_getR (q := 4) rfl rfl rfl (xSc_0 hc) (Nat.le_of_ble_eq_true rfl) rfl (rc_fleet hR hc) ?_
  refine xx_iload_n (q := 5) rfl rfl rfl ?_
  refine xx_callV (q := 8) (As := [_]) (rest := []) rfl rfl rfl (Or.inl rfl) rfl rfl (Nat.le_of_ble_eq_true rfl) (xSc_13 hc) (XCm (c_has hR hc hK hI boat) rfl) rfl ?_
  refine xx_ifb_eq (q := 28) (q2 := 11) rfl rfl rfl (fun h8 => ?_) (fun h8 => ?_)
  · refine xx_iconst (q := 29) rfl rfl (by decide) ?_
    refine xx_istore (q := 31) (loc2 := [_, _, _, _, _, _, _, _, _]) rfl rfl (Nat.le_of_ble_eq_true rfl) rfl ?_
    refine xx_iload (q := 33) rfl rfl rfl ?_
    refine xx_iconst (q := 34) rfl rfl (by decide) ?_
    refine xx_icmp_eq (q := 46) (q2 := 37) rfl rfl rfl (fun _ => ?_) (fun h34 => (by exfalso; omega))
    refine xx_iconst (q := 47) rfl rfl (by decide) ?_
    refine xx_iret rfl trivial ⟨congrArg (fun z => some (Sum.inl z)) (by simp only [refF]; grind), _, rfl, ?_⟩
    exact ⟨hK, Fr.rf⟩
  · refine xx_aload_n (q := 12) rfl rfl rfl ?_
    refine xx_aload_n (q := 13) rfl rfl rfl ?_
    refine xx_getR (q := 16) rfl rfl rfl (xSc_0 hc) (Nat.le_of_ble_eq_true rfl) rfl (rc_fleet hR hc) ?_
    refine xx_getR (q := 19) rfl rfl rfl (xSc_13 hc) (Nat.le_of_ble_eq_true rfl) rfl (rc_where hR hc) ?_
    refine xx_iload_n (q := 20) rfl rfl rfl ?_
    refine xx_iaz (v := K 14 (boat).toNat) (q := 21) rfl rfl (xSc_14 hc) (by omega) (by omega) (ck_w hK (by omega) (by omega)) ?_
    have hb1 : 0 ≤ K 14 (boat).toNat ∧ K 14 (boat).toNat ≤ 9 := by have h := ki_14 hI (boat).toNat; exact h
    refine xx_iload_n (q := 22) rfl rfl rfl ?_
    refine xx_callV (q := 25) (As := [_, _]) (rest := []) rfl rfl rfl (Or.inl rfl) rfl rfl (Nat.le_of_ble_eq_true rfl) (xSc_0 hc) (XCm (c_lockOnWay hR hc hK hI (K 14 (boat).toNat) up (by omega) (by omega)) rfl) rfl ?_
    have hb2 := lckF_b K (K 14 (boat).toNat) up
    refine xx_goto (q := 29) rfl rfl ?_
    refine xx_istore (q := 31) (loc2 := [_, _, _, _, _, _, _, _, _]) rfl rfl (Nat.le_of_ble_eq_true rfl) rfl ?_
    refine xx_iload (q := 33) rfl rfl rfl ?_
    refine xx_iconst (q := 34) rfl rfl (by decide) ?_
    refine xx_icmp_eq (q := 46) (q2 := 37) rfl rfl rfl (fun h34 => ?_) (fun h34 => ?_)
    · refine xx_iconst (q := 47) rfl rfl (by decide) ?_
      refine xx_iret rfl trivial ⟨congrArg (fun z => some (Sum.inl z)) (by simp only [refF]; grind), _, rfl, ?_⟩
      exact ⟨hK, Fr.rf⟩
    · refine xx_aload_n (q := 38) rfl rfl rfl ?_
      refine xx_iload_n (q := 39) rfl rfl rfl ?_
      refine xx_iload_n (q := 40) rfl rfl rfl ?_
      refine xx_callV (q := 43) (As := [_, _]) (rest := []) rfl rfl rfl (Or.inl rfl) rfl rfl (Nat.le_of_ble_eq_true rfl) (xSc_0 hc) (XCm (c_isMate hR hc hK hI boat wth (by omega) (by omega)) rfl) rfl ?_
      refine xx_ifb_ne (q := 48) (q2 := 46) rfl rfl rfl (fun h43 => ?_) (fun h43 => ?_)
      · have hmt : wth = -1 ∨ (0 ≤ wth ∧ wth < K 13 0) := by grind
        refine xx_iload_n (q := 49) rfl rfl rfl ?_
        refine xx_iconst (q := 50) rfl rfl (by decide) ?_
        refine xx_icmp_eq (q := 57) (q2 := 53) rfl rfl rfl (fun h50 => ?_) (fun h50 => ?_)
        · refine xx_iconst (q := 58) rfl rfl (by decide) ?_
          refine xx_istore (q := 60) (loc2 := [_, _, _, _, _, _, _, _, _]) rfl rfl (Nat.le_of_ble_eq_true rfl) rfl ?_
          refine xx_aload_n (q := 61) rfl rfl rfl ?_
          refine xx_getR (q := 64) rfl rfl rfl (xSc_0 hc) (Nat.le_of_ble_eq_true rfl) rfl (rc_fleet hR hc) ?_
          refine xx_getR (q := 67) rfl rfl rfl (xSc_13 hc) (Nat.le_of_ble_eq_true rfl) rfl (rc_broad hR hc) ?_
          refine xx_iload_n (q := 68) rfl rfl rfl ?_
          refine xx_iaz (v := K 16 (boat).toNat) (q := 69) rfl rfl (xSc_16 hc) (by omega) (by omega) (ck_a hK (o := 16) (N := 6) rfl (by omega) (by omega)) ?_
          have hb3 : 0 ≤ K 16 (boat).toNat ∧ K 16 (boat).toNat ≤ 9 := by have h := ki_16 hI (boat).toNat; exact h
          refine xx_istore (q := 71) (loc2 := [_, _, _, _, _, _, _, _, _]) rfl rfl (Nat.le_of_ble_eq_true rfl) rfl ?_
          refine xx_aload_n (q := 72) rfl rfl rfl ?_
          refine xx_getR (q := 75) rfl rfl rfl (xSc_0 hc) (Nat.le_of_ble_eq_true rfl) rfl (rc_fleet hR hc) ?_
          refine xx_getR (q := 78) rfl rfl rfl (xSc_13 hc) (Nat.le_of_ble_eq_true rfl) rfl (rc_draught hR hc) ?_
          refine xx_iload_n (q := 79) rfl rfl rfl ?_
          refine xx_iaz (v := K 15 (boat).toNat) (q := 80) rfl rfl (xSc_15 hc) (by omega) (by omega) (ck_a hK (o := 15) (N := 6) rfl (by omega) (by omega)) ?_
          have hb4 : 0 ≤ K 15 (boat).toNat ∧ K 15 (boat).toNat ≤ 99 := by have h := ki_15 hI (boat).toNat; exact h
          refine xx_istore (q := 82) (loc2 := [_, _, _, _, _, _, _, _, _]) rfl rfl (Nat.le_of_ble_eq_true rfl) rfl ?_
          refine xx_iload (q := 84) rfl rfl rfl ?_
          refine xx_if_eq (q := 117) (q2 := 87) rfl rfl rfl (fun _ => ?_) (fun h84 => (by exfalso; omega))
          refine xx_iload (q := 119) rfl rfl rfl ?_
          refine xx_aload_n (q := 120) rfl rfl rfl ?_
          refine xx_getR (q := 123) rfl rfl rfl (xSc_0 hc) (Nat.le_of_ble_eq_true rfl) rfl (rc_wide hR hc) ?_
          refine xx_iload (q := 125) rfl rfl rfl ?_
          refine xx_iaz (v := K 4 (lckF K (K 14 (boat).toNat) up).toNat) (q := 126) rfl rfl (xSc_4 hc) (by omega) (by omega) (ck_a hK (o := 4) (N := 9) rfl (by omega) (by omega)) ?_
          have hb5 : 1 ≤ K 4 (lckF K (K 14 (boat).toNat) up).toNat ∧ K 4 (lckF K (K 14 (boat).toNat) up).toNat ≤ 9 := by have h := ki_4 hI (lckF K (K 14 (boat).toNat) up).toNat; exact h
          refine xx_icmp_le (q := 132) (q2 := 129) rfl rfl rfl (fun h126 => ?_) (fun h126 => ?_)
          · refine xx_aload_n (q := 133) rfl rfl rfl ?_
            refine xx_iload (q := 135) rfl rfl rfl ?_
            refine xx_iload_n (q := 136) rfl rfl rfl ?_
            refine xx_iload_n (q := 137) rfl rfl rfl ?_
            refine xx_iload (q := 139) rfl rfl rfl ?_
            obtain ⟨D6, hx6, hK6, hG6⟩ := c_lets (n := n) hR hn hK hI (LwG.fr hG Fr.rf hc) (lckF K (K 14 (boat).toNat) up) boat up 0 (by omega) (by omega) (by omega) (by omega)
            have hF6 := Fr.rf.trans hG6
            refine xx_callV (q := 142) (As := [_, _, _, _]) (rest := []) rfl rfl rfl (Or.inl rfl) rfl rfl (Nat.le_of_ble_eq_true rfl) (xSc_0 hc) (XCm hx6 rfl) rfl ?_
            refine xx_ifb_eq (q := 162) (q2 := 145) rfl rfl rfl (fun h142 => ?_) (fun h142 => ?_)
            · refine xx_bipush (q := 164) rfl rfl (by decide) ?_
              refine xx_iret rfl trivial ⟨congrArg (fun z => some (Sum.inl z)) (by simp only [refF]; grind), _, rfl, ?_⟩
              exact ⟨hK6, hF6⟩
            · refine xx_iload (q := 147) rfl rfl rfl ?_
              refine xx_if_eq (q := 165) (q2 := 150) rfl rfl rfl (fun _ => ?_) (fun h147 => (by exfalso; omega))
              refine xx_aload_n (q := 166) rfl rfl rfl ?_
              refine xx_getR (q := 169) rfl rfl rfl (xSc_0 hc) (Nat.le_of_ble_eq_true rfl) rfl (rc_depth hR hc) ?_
              refine xx_iload (q := 171) rfl rfl rfl ?_
              refine xx_iaz (v := K 1 (lckF K (K 14 (boat).toNat) up).toNat) (q := 172) rfl rfl (xSc_1 hc) (by omega) (by omega) (ck_a hK6 (o := 1) (N := 10) rfl (by omega) (by omega)) ?_
              have hb7 : 0 ≤ K 1 (lckF K (K 14 (boat).toNat) up).toNat ∧ K 1 (lckF K (K 14 (boat).toNat) up).toNat ≤ 999 := by have h := ki_1 hI (lckF K (K 14 (boat).toNat) up).toNat; exact h
              refine xx_aload_n (q := 173) rfl rfl rfl ?_
              refine xx_getR (q := 176) rfl rfl rfl (xSc_0 hc) (Nat.le_of_ble_eq_true rfl) rfl (rc_fill hR hc) ?_
              refine xx_iload (q := 178) rfl rfl rfl ?_
              refine xx_iaz (v := K 2 (lckF K (K 14 (boat).toNat) up).toNat) (q := 179) rfl rfl (xSc_2 hc) (by omega) (by omega) (ck_a hK6 (o := 2) (N := 9) rfl (by omega) (by omega)) ?_
              have hb8 : 1 ≤ K 2 (lckF K (K 14 (boat).toNat) up).toNat ∧ K 2 (lckF K (K 14 (boat).toNat) up).toNat ≤ 50 := by have h := ki_2 hI (lckF K (K 14 (boat).toNat) up).toNat; exact h
              refine xx_icmp_ge (q := 185) (q2 := 182) rfl rfl rfl (fun h179 => ?_) (fun h179 => ?_)
              · refine xx_iload_n (q := 186) rfl rfl rfl ?_
                refine xx_if_eq (q := 207) (q2 := 189) rfl rfl rfl (fun h186 => ?_) (fun h186 => ?_)
                · refine xx_aload_n (q := 208) rfl rfl rfl ?_
                  refine xx_getR (q := 211) rfl rfl rfl (xSc_0 hc) (Nat.le_of_ble_eq_true rfl) rfl (rc_depth hR hc) ?_
                  refine xx_iload (q := 213) rfl rfl rfl ?_
                  refine xx_iconst (q := 214) rfl rfl (by decide) ?_
                  refine xx_iaddR (q := 215) rfl rfl (by omega) (by omega) ?_
                  refine xx_iaz (v := K 1 ((lckF K (K 14 (boat).toNat) up) + 1).toNat) (q := 216) rfl rfl (xSc_1 hc) (by omega) (by omega) (ck_a hK6 (o := 1) (N := 10) rfl (by omega) (by omega)) ?_
                  have hb9 : 0 ≤ K 1 ((lckF K (K 14 (boat).toNat) up) + 1).toNat ∧ K 1 ((lckF K (K 14 (boat).toNat) up) + 1).toNat ≤ 999 := by have h := ki_1 hI ((lckF K (K 14 (boat).toNat) up) + 1).toNat; exact h
                  refine xx_aload_n (q := 217) rfl rfl rfl ?_
                  refine xx_getR (q := 220) rfl rfl rfl (xSc_0 hc) (Nat.le_of_ble_eq_true rfl) rfl (rc_fill hR hc) ?_
                  refine xx_iload (q := 222) rfl rfl rfl ?_
                  refine xx_iaz (v := K 2 (lckF K (K 14 (boat).toNat) up).toNat) (q := 223) rfl rfl (xSc_2 hc) (by omega) (by omega) (ck_a hK6 (o := 2) (N := 9) rfl (by omega) (by omega)) ?_
                  have hb10 : 1 ≤ K 2 (lckF K (K 14 (boat).toNat) up).toNat ∧ K 2 (lckF K (K 14 (boat).toNat) up).toNat ≤ 50 := by have h := ki_2 hI (lckF K (K 14 (boat).toNat) up).toNat; exact h
                  refine xx_iaddR (q := 224) rfl rfl (by omega) (by omega) ?_
                  refine xx_sipush (q := 227) rfl rfl (by decide) ?_
                  refine xx_minF (q := 230) rfl rfl rfl (Nat.le_of_ble_eq_true rfl) ?_
                  have hb11 := mnF_sp ((K 1 ((lckF K (K 14 (boat).toNat) up) + 1).toNat) + (K 2 (lckF K (K 14 (boat).toNat) up).toNat)) 999
                  refine xx_istore (q := 232) (loc2 := [_, _, _, _, _, _, _, _, _]) rfl rfl (Nat.le_of_ble_eq_true rfl) rfl ?_
                  refine xx_iload (q := 234) rfl rfl rfl ?_
                  refine xx_iload (q := 236) rfl rfl rfl ?_
                  refine xx_icmp_le (q := 244) (q2 := 239) rfl rfl rfl (fun h236 => ?_) (fun h236 => ?_)
                  · refine xx_iconst (q := 245) rfl rfl (by decide) ?_
                    refine xx_iret rfl trivial ⟨congrArg (fun z => some (Sum.inl z)) (by simp only [refF]; grind), _, rfl, ?_⟩
                    exact ⟨hK6, hF6⟩
                  · refine xx_bipush (q := 241) rfl rfl (by decide) ?_
                    refine xx_goto (q := 245) rfl rfl ?_
                    refine xx_iret rfl trivial ⟨congrArg (fun z => some (Sum.inl z)) (by simp only [refF]; grind), _, rfl, ?_⟩
                    exact ⟨hK6, hF6⟩
                · refine xx_aload_n (q := 190) rfl rfl rfl ?_
                  refine xx_getR (q := 193) rfl rfl rfl (xSc_0 hc) (Nat.le_of_ble_eq_true rfl) rfl (rc_depth hR hc) ?_
                  refine xx_iload (q := 195) rfl rfl rfl ?_
                  refine xx_iaz (v := K 1 (lckF K (K 14 (boat).toNat) up).toNat) (q := 196) rfl rfl (xSc_1 hc) (by omega) (by omega) (ck_a hK6 (o := 1) (N := 10) rfl (by omega) (by omega)) ?_
                  have hb12 : 0 ≤ K 1 (lckF K (K 14 (boat).toNat) up).toNat ∧ K 1 (lckF K (K 14 (boat).toNat) up).toNat ≤ 999 := by have h := ki_1 hI (lckF K (K 14 (boat).toNat) up).toNat; exact h
                  refine xx_aload_n (q := 197) rfl rfl rfl ?_
                  refine xx_getR (q := 200) rfl rfl rfl (xSc_0 hc) (Nat.le_of_ble_eq_true rfl) rfl (rc_fill hR hc) ?_
                  refine xx_iload (q := 202) rfl rfl rfl ?_
                  refine xx_iaz (v := K 2 (lckF K (K 14 (boat).toNat) up).toNat) (q := 203) rfl rfl (xSc_2 hc) (by omega) (by omega) (ck_a hK6 (o := 2) (N := 9) rfl (by omega) (by omega)) ?_
                  have hb13 : 1 ≤ K 2 (lckF K (K 14 (boat).toNat) up).toNat ∧ K 2 (lckF K (K 14 (boat).toNat) up).toNat ≤ 50 := by have h := ki_2 hI (lckF K (K 14 (boat).toNat) up).toNat; exact h
                  refine xx_isubR (q := 204) rfl rfl (by omega) (by omega) ?_
                  refine xx_goto (q := 230) rfl rfl ?_
                  refine xx_istore (q := 232) (loc2 := [_, _, _, _, _, _, _, _, _]) rfl rfl (Nat.le_of_ble_eq_true rfl) rfl ?_
                  refine xx_iload (q := 234) rfl rfl rfl ?_
                  refine xx_iload (q := 236) rfl rfl rfl ?_
                  refine xx_icmp_le (q := 244) (q2 := 239) rfl rfl rfl (fun h236 => ?_) (fun h236 => ?_)
                  · refine xx_iconst (q := 245) rfl rfl (by decide) ?_
                    refine xx_iret rfl trivial ⟨congrArg (fun z => some (Sum.inl z)) (by simp only [refF]; grind), _, rfl, ?_⟩
                    exact ⟨hK6, hF6⟩
                  · refine xx_bipush (q := 241) rfl rfl (by decide) ?_
                    refine xx_goto (q := 245) rfl rfl ?_
                    refine xx_iret rfl trivial ⟨congrArg (fun z => some (Sum.inl z)) (by simp only [refF]; grind), _, rfl, ?_⟩
                    exact ⟨hK6, hF6⟩
              · refine xx_bipush (q := 184) rfl rfl (by decide) ?_
                refine xx_iret rfl trivial ⟨congrArg (fun z => some (Sum.inl z)) (by simp only [refF]; grind), _, rfl, ?_⟩
                exact ⟨hK6, hF6⟩
          · refine xx_bipush (q := 131) rfl rfl (by decide) ?_
            refine xx_iret rfl trivial ⟨congrArg (fun z => some (Sum.inl z)) (by simp only [refF]; grind), _, rfl, ?_⟩
            exact ⟨hK, Fr.rf⟩
        · refine xx_iconst (q := 54) rfl rfl (by decide) ?_
          refine xx_goto (q := 58) rfl rfl ?_
          refine xx_istore (q := 60) (loc2 := [_, _, _, _, _, _, _, _, _]) rfl rfl (Nat.le_of_ble_eq_true rfl) rfl ?_
          refine xx_aload_n (q := 61) rfl rfl rfl ?_
          refine xx_getR (q := 64) rfl rfl rfl (xSc_0 hc) (Nat.le_of_ble_eq_true rfl) rfl (rc_fleet hR hc) ?_
          refine xx_getR (q := 67) rfl rfl rfl (xSc_13 hc) (Nat.le_of_ble_eq_true rfl) rfl (rc_broad hR hc) ?_
          refine xx_iload_n (q := 68) rfl rfl rfl ?_
          refine xx_iaz (v := K 16 (boat).toNat) (q := 69) rfl rfl (xSc_16 hc) (by omega) (by omega) (ck_a hK (o := 16) (N := 6) rfl (by omega) (by omega)) ?_
          have hb14 : 0 ≤ K 16 (boat).toNat ∧ K 16 (boat).toNat ≤ 9 := by have h := ki_16 hI (boat).toNat; exact h
          refine xx_istore (q := 71) (loc2 := [_, _, _, _, _, _, _, _, _]) rfl rfl (Nat.le_of_ble_eq_true rfl) rfl ?_
          refine xx_aload_n (q := 72) rfl rfl rfl ?_
          refine xx_getR (q := 75) rfl rfl rfl (xSc_0 hc) (Nat.le_of_ble_eq_true rfl) rfl (rc_fleet hR hc) ?_
          refine xx_getR (q := 78) rfl rfl rfl (xSc_13 hc) (Nat.le_of_ble_eq_true rfl) rfl (rc_draught hR hc) ?_
          refine xx_iload_n (q := 79) rfl rfl rfl ?_
          refine xx_iaz (v := K 15 (boat).toNat) (q := 80) rfl rfl (xSc_15 hc) (by omega) (by omega) (ck_a hK (o := 15) (N := 6) rfl (by omega) (by omega)) ?_
          have hb15 : 0 ≤ K 15 (boat).toNat ∧ K 15 (boat).toNat ≤ 99 := by have h := ki_15 hI (boat).toNat; exact h
          refine xx_istore (q := 82) (loc2 := [_, _, _, _, _, _, _, _, _]) rfl rfl (Nat.le_of_ble_eq_true rfl) rfl ?_
          refine xx_iload (q := 84) rfl rfl rfl ?_
          refine xx_if_eq (q := 117) (q2 := 87) rfl rfl rfl (fun h84 => (by exfalso; omega)) (fun _ => ?_)
          refine xx_iload (q := 89) rfl rfl rfl ?_
          refine xx_aload_n (q := 90) rfl rfl rfl ?_
          refine xx_getR (q := 93) rfl rfl rfl (xSc_0 hc) (Nat.le_of_ble_eq_true rfl) rfl (rc_fleet hR hc) ?_
          refine xx_getR (q := 96) rfl rfl rfl (xSc_13 hc) (Nat.le_of_ble_eq_true rfl) rfl (rc_broad hR hc) ?_
          refine xx_iload_n (q := 97) rfl rfl rfl ?_
          refine xx_iaz (v := K 16 (wth).toNat) (q := 98) rfl rfl (xSc_16 hc) (by omega) (by omega) (ck_a hK (o := 16) (N := 6) rfl (by omega) (by omega)) ?_
          have hb16 : 0 ≤ K 16 (wth).toNat ∧ K 16 (wth).toNat ≤ 9 := by have h := ki_16 hI (wth).toNat; exact h
          refine xx_iaddR (q := 99) rfl rfl (by omega) (by omega) ?_
          refine xx_istore (q := 101) (loc2 := [_, _, _, _, _, _, _, _, _]) rfl rfl (Nat.le_of_ble_eq_true rfl) rfl ?_
          refine xx_iload (q := 103) rfl rfl rfl ?_
          refine xx_aload_n (q := 104) rfl rfl rfl ?_
          refine xx_getR (q := 107) rfl rfl rfl (xSc_0 hc) (Nat.le_of_ble_eq_true rfl) rfl (rc_fleet hR hc) ?_
          refine xx_getR (q := 110) rfl rfl rfl (xSc_13 hc) (Nat.le_of_ble_eq_true rfl) rfl (rc_draught hR hc) ?_
          refine xx_iload_n (q := 111) rfl rfl rfl ?_
          refine xx_iaz (v := K 15 (wth).toNat) (q := 112) rfl rfl (xSc_15 hc) (by omega) (by omega) (ck_a hK (o := 15) (N := 6) rfl (by omega) (by omega)) ?_
          have hb17 : 0 ≤ K 15 (wth).toNat ∧ K 15 (wth).toNat ≤ 99 := by have h := ki_15 hI (wth).toNat; exact h
          refine xx_maxF (q := 115) rfl rfl rfl (Nat.le_of_ble_eq_true rfl) ?_
          have hb18 := mxF_sp (K 15 (boat).toNat) (K 15 (wth).toNat)
          refine xx_istore (q := 117) (loc2 := [_, _, _, _, _, _, _, _, _]) rfl rfl (Nat.le_of_ble_eq_true rfl) rfl ?_
          refine xx_iload (q := 119) rfl rfl rfl ?_
          refine xx_aload_n (q := 120) rfl rfl rfl ?_
          refine xx_getR (q := 123) rfl rfl rfl (xSc_0 hc) (Nat.le_of_ble_eq_true rfl) rfl (rc_wide hR hc) ?_
          refine xx_iload (q := 125) rfl rfl rfl ?_
          refine xx_iaz (v := K 4 (lckF K (K 14 (boat).toNat) up).toNat) (q := 126) rfl rfl (xSc_4 hc) (by omega) (by omega) (ck_a hK (o := 4) (N := 9) rfl (by omega) (by omega)) ?_
          have hb19 : 1 ≤ K 4 (lckF K (K 14 (boat).toNat) up).toNat ∧ K 4 (lckF K (K 14 (boat).toNat) up).toNat ≤ 9 := by have h := ki_4 hI (lckF K (K 14 (boat).toNat) up).toNat; exact h
          refine xx_icmp_le (q := 132) (q2 := 129) rfl rfl rfl (fun h126 => ?_) (fun h126 => ?_)
          · refine xx_aload_n (q := 133) rfl rfl rfl ?_
            refine xx_iload (q := 135) rfl rfl rfl ?_
            refine xx_iload_n (q := 136) rfl rfl rfl ?_
            refine xx_iload_n (q := 137) rfl rfl rfl ?_
            refine xx_iload (q := 139) rfl rfl rfl ?_
            obtain ⟨D20, hx20, hK20, hG20⟩ := c_lets (n := n) hR hn hK hI (LwG.fr hG Fr.rf hc) (lckF K (K 14 (boat).toNat) up) boat up 1 (by omega) (by omega) (by omega) (by omega)
            have hF20 := Fr.rf.trans hG20
            refine xx_callV (q := 142) (As := [_, _, _, _]) (rest := []) rfl rfl rfl (Or.inl rfl) rfl rfl (Nat.le_of_ble_eq_true rfl) (xSc_0 hc) (XCm hx20 rfl) rfl ?_
            refine xx_ifb_eq (q := 162) (q2 := 145) rfl rfl rfl (fun h142 => ?_) (fun h142 => ?_)
            · refine xx_bipush (q := 164) rfl rfl (by decide) ?_
              refine xx_iret rfl trivial ⟨congrArg (fun z => some (Sum.inl z)) (by simp only [refF]; grind), _, rfl, ?_⟩
              exact ⟨hK20, hF20⟩
            · refine xx_iload (q := 147) rfl rfl rfl ?_
              refine xx_if_eq (q := 165) (q2 := 150) rfl rfl rfl (fun h147 => (by exfalso; omega)) (fun _ => ?_)
              refine xx_aload_n (q := 151) rfl rfl rfl ?_
              refine xx_iload (q := 153) rfl rfl rfl ?_
              refine xx_iload_n (q := 154) rfl rfl rfl ?_
              refine xx_iload_n (q := 155) rfl rfl rfl ?_
              refine xx_iconst (q := 156) rfl rfl (by decide) ?_
              obtain ⟨D21, hx21, hK21, hG21⟩ := c_lets (n := n) hR hn hK20 hI (LwG.fr hG hF20 hc) (lckF K (K 14 (boat).toNat) up) wth up 1 (by omega) (by omega) (by omega) (by omega)
              have hF21 := hF20.trans hG21
              refine xx_callV (q := 159) (As := [_, _, _, _]) (rest := []) rfl rfl rfl (Or.inl rfl) rfl rfl (Nat.le_of_ble_eq_true rfl) (xSc_0 hc) (XCm hx21 rfl) rfl ?_
              refine xx_ifb_ne (q := 165) (q2 := 162) rfl rfl rfl (fun h159 => ?_) (fun h159 => ?_)
              · refine xx_aload_n (q := 166) rfl rfl rfl ?_
                refine xx_getR (q := 169) rfl rfl rfl (xSc_0 hc) (Nat.le_of_ble_eq_true rfl) rfl (rc_depth hR hc) ?_
                refine xx_iload (q := 171) rfl rfl rfl ?_
                refine xx_iaz (v := K 1 (lckF K (K 14 (boat).toNat) up).toNat) (q := 172) rfl rfl (xSc_1 hc) (by omega) (by omega) (ck_a hK21 (o := 1) (N := 10) rfl (by omega) (by omega)) ?_
                have hb22 : 0 ≤ K 1 (lckF K (K 14 (boat).toNat) up).toNat ∧ K 1 (lckF K (K 14 (boat).toNat) up).toNat ≤ 999 := by have h := ki_1 hI (lckF K (K 14 (boat).toNat) up).toNat; exact h
                refine xx_aload_n (q := 173) rfl rfl rfl ?_
                refine xx_getR (q := 176) rfl rfl rfl (xSc_0 hc) (Nat.le_of_ble_eq_true rfl) rfl (rc_fill hR hc) ?_
                refine xx_iload (q := 178) rfl rfl rfl ?_
                refine xx_iaz (v := K 2 (lckF K (K 14 (boat).toNat) up).toNat) (q := 179) rfl rfl (xSc_2 hc) (by omega) (by omega) (ck_a hK21 (o := 2) (N := 9) rfl (by omega) (by omega)) ?_
                have hb23 : 1 ≤ K 2 (lckF K (K 14 (boat).toNat) up).toNat ∧ K 2 (lckF K (K 14 (boat).toNat) up).toNat ≤ 50 := by have h := ki_2 hI (lckF K (K 14 (boat).toNat) up).toNat; exact h
                refine xx_icmp_ge (q := 185) (q2 := 182) rfl rfl rfl (fun h179 => ?_) (fun h179 => ?_)
                · refine xx_iload_n (q := 186) rfl rfl rfl ?_
                  refine xx_if_eq (q := 207) (q2 := 189) rfl rfl rfl (fun h186 => ?_) (fun h186 => ?_)
                  · refine xx_aload_n (q := 208) rfl rfl rfl ?_
                    refine xx_getR (q := 211) rfl rfl rfl (xSc_0 hc) (Nat.le_of_ble_eq_true rfl) rfl (rc_depth hR hc) ?_
                    refine xx_iload (q := 213) rfl rfl rfl ?_
                    refine xx_iconst (q := 214) rfl rfl (by decide) ?_
                    refine xx_iaddR (q := 215) rfl rfl (by omega) (by omega) ?_
                    refine xx_iaz (v := K 1 ((lckF K (K 14 (boat).toNat) up) + 1).toNat) (q := 216) rfl rfl (xSc_1 hc) (by omega) (by omega) (ck_a hK21 (o := 1) (N := 10) rfl (by omega) (by omega)) ?_
                    have hb24 : 0 ≤ K 1 ((lckF K (K 14 (boat).toNat) up) + 1).toNat ∧ K 1 ((lckF K (K 14 (boat).toNat) up) + 1).toNat ≤ 999 := by have h := ki_1 hI ((lckF K (K 14 (boat).toNat) up) + 1).toNat; exact h
                    refine xx_aload_n (q := 217) rfl rfl rfl ?_
                    refine xx_getR (q := 220) rfl rfl rfl (xSc_0 hc) (Nat.le_of_ble_eq_true rfl) rfl (rc_fill hR hc) ?_
                    refine xx_iload (q := 222) rfl rfl rfl ?_
                    refine xx_iaz (v := K 2 (lckF K (K 14 (boat).toNat) up).toNat) (q := 223) rfl rfl (xSc_2 hc) (by omega) (by omega) (ck_a hK21 (o := 2) (N := 9) rfl (by omega) (by omega)) ?_
                    have hb25 : 1 ≤ K 2 (lckF K (K 14 (boat).toNat) up).toNat ∧ K 2 (lckF K (K 14 (boat).toNat) up).toNat ≤ 50 := by have h := ki_2 hI (lckF K (K 14 (boat).toNat) up).toNat; exact h
                    refine xx_iaddR (q := 224) rfl rfl (by omega) (by omega) ?_
                    refine xx_sipush (q := 227) rfl rfl (by decide) ?_
                    refine xx_minF (q := 230) rfl rfl rfl (Nat.le_of_ble_eq_true rfl) ?_
                    have hb26 := mnF_sp ((K 1 ((lckF K (K 14 (boat).toNat) up) + 1).toNat) + (K 2 (lckF K (K 14 (boat).toNat) up).toNat)) 999
                    refine xx_istore (q := 232) (loc2 := [_, _, _, _, _, _, _, _, _]) rfl rfl (Nat.le_of_ble_eq_true rfl) rfl ?_
                    refine xx_iload (q := 234) rfl rfl rfl ?_
                    refine xx_iload (q := 236) rfl rfl rfl ?_
                    refine xx_icmp_le (q := 244) (q2 := 239) rfl rfl rfl (fun h236 => ?_) (fun h236 => ?_)
                    · refine xx_iconst (q := 245) rfl rfl (by decide) ?_
                      refine xx_iret rfl trivial ⟨congrArg (fun z => some (Sum.inl z)) (by simp only [refF]; grind), _, rfl, ?_⟩
                      exact ⟨hK21, hF21⟩
                    · refine xx_bipush (q := 241) rfl rfl (by decide) ?_
                      refine xx_goto (q := 245) rfl rfl ?_
                      refine xx_iret rfl trivial ⟨congrArg (fun z => some (Sum.inl z)) (by simp only [refF]; grind), _, rfl, ?_⟩
                      exact ⟨hK21, hF21⟩
                  · refine xx_aload_n (q := 190) rfl rfl rfl ?_
                    refine xx_getR (q := 193) rfl rfl rfl (xSc_0 hc) (Nat.le_of_ble_eq_true rfl) rfl (rc_depth hR hc) ?_
                    refine xx_iload (q := 195) rfl rfl rfl ?_
                    refine xx_iaz (v := K 1 (lckF K (K 14 (boat).toNat) up).toNat) (q := 196) rfl rfl (xSc_1 hc) (by omega) (by omega) (ck_a hK21 (o := 1) (N := 10) rfl (by omega) (by omega)) ?_
                    have hb27 : 0 ≤ K 1 (lckF K (K 14 (boat).toNat) up).toNat ∧ K 1 (lckF K (K 14 (boat).toNat) up).toNat ≤ 999 := by have h := ki_1 hI (lckF K (K 14 (boat).toNat) up).toNat; exact h
                    refine xx_aload_n (q := 197) rfl rfl rfl ?_
                    refine xx_getR (q := 200) rfl rfl rfl (xSc_0 hc) (Nat.le_of_ble_eq_true rfl) rfl (rc_fill hR hc) ?_
                    refine xx_iload (q := 202) rfl rfl rfl ?_
                    refine xx_iaz (v := K 2 (lckF K (K 14 (boat).toNat) up).toNat) (q := 203) rfl rfl (xSc_2 hc) (by omega) (by omega) (ck_a hK21 (o := 2) (N := 9) rfl (by omega) (by omega)) ?_
                    have hb28 : 1 ≤ K 2 (lckF K (K 14 (boat).toNat) up).toNat ∧ K 2 (lckF K (K 14 (boat).toNat) up).toNat ≤ 50 := by have h := ki_2 hI (lckF K (K 14 (boat).toNat) up).toNat; exact h
                    refine xx_isubR (q := 204) rfl rfl (by omega) (by omega) ?_
                    refine xx_goto (q := 230) rfl rfl ?_
                    refine xx_istore (q := 232) (loc2 := [_, _, _, _, _, _, _, _, _]) rfl rfl (Nat.le_of_ble_eq_true rfl) rfl ?_
                    refine xx_iload (q := 234) rfl rfl rfl ?_
                    refine xx_iload (q := 236) rfl rfl rfl ?_
                    refine xx_icmp_le (q := 244) (q2 := 239) rfl rfl rfl (fun h236 => ?_) (fun h236 => ?_)
                    · refine xx_iconst (q := 245) rfl rfl (by decide) ?_
                      refine xx_iret rfl trivial ⟨congrArg (fun z => some (Sum.inl z)) (by simp only [refF]; grind), _, rfl, ?_⟩
                      exact ⟨hK21, hF21⟩
                    · refine xx_bipush (q := 241) rfl rfl (by decide) ?_
                      refine xx_goto (q := 245) rfl rfl ?_
                      refine xx_iret rfl trivial ⟨congrArg (fun z => some (Sum.inl z)) (by simp only [refF]; grind), _, rfl, ?_⟩
                      exact ⟨hK21, hF21⟩
                · refine xx_bipush (q := 184) rfl rfl (by decide) ?_
                  refine xx_iret rfl trivial ⟨congrArg (fun z => some (Sum.inl z)) (by simp only [refF]; grind), _, rfl, ?_⟩
                  exact ⟨hK21, hF21⟩
              · refine xx_bipush (q := 164) rfl rfl (by decide) ?_
                refine xx_iret rfl trivial ⟨congrArg (fun z => some (Sum.inl z)) (by simp only [refF]; grind), _, rfl, ?_⟩
                exact ⟨hK21, hF21⟩
          · refine xx_bipush (q := 131) rfl rfl (by decide) ?_
            refine xx_iret rfl trivial ⟨congrArg (fun z => some (Sum.inl z)) (by simp only [refF]; grind), _, rfl, ?_⟩
            exact ⟨hK, Fr.rf⟩
      · refine xx_iconst (q := 47) rfl rfl (by decide) ?_
        refine xx_iret rfl trivial ⟨congrArg (fun z => some (Sum.inl z)) (by simp only [refF]; grind), _, rfl, ?_⟩
        exact ⟨hK, Fr.rf⟩
