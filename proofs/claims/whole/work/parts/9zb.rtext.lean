/-! A text is read: the reference, a plan and what is neither. -/
def FXp (D E : KK) : Prop := ∀ x k, (x = 479 → k ≠ 0 ∧ k ≠ 24 ∧ k ≠ 25 ∧ k ≠ 26 ∧ k ≠ 27 ∧ k ≠ 28 ∧ k ≠ 37 ∧ k ≠ 38 ∧ k ≠ 39 ∧ k ≠ 41 ∧ k ≠ 42 ∧ k ≠ 43 ∧ k ≠ 44 ∧ k ≠ 45 ∧ k ≠ 47 ∧ k ≠ 48) → ((x = 504 ∨ x = 505) → k < 800) → x ≠ 506 → x ≠ 507 → E x k = D x k
def TxP (Lk B : Int) (d : Nat → Int) (bs : List Int) (D : KK) (z : Int) (E : KK) : Prop := E 479 0 = 0 ∧ E 479 24 = 0 ∧ FXp D E ∧ (((plQ Lk B 31 0 (tp0 bs, d)).2.1.1 = 0 ∧ E 479 44 = 0 ∧ E 479 45 = -1 ∧ ∃ P : List PSt, z = (P.length : Int) ∧ (plQ Lk B 31 0 (tp0 bs, d)).1 = (P.length : Int) ∧ PlX 322 P (plQ Lk B 31 0 (tp0 bs, d)).2.2 ∧ PlR P E ∧ ∀ K : KK, K 13 0 = B → K 0 0 = Lk → PlV K P) ∨ ((plQ Lk B 31 0 (tp0 bs, d)).2.1.1 ≠ 0 ∧ z = -1 ∧ E 479 44 = (plQ Lk B 31 0 (tp0 bs, d)).2.1.1 ∧ E 479 45 = (plQ Lk B 31 0 (tp0 bs, d)).2.1.2.1 ∧ E 479 47 = D 479 47 ∧ ∀ k, k < 150 → E 507 k = D 507 k))
set_option maxHeartbeats 4000000 in
theorem r_textP {n : Nat} {R : Nat → Nat → Option Nat} {D : KK} {bs : List Int} {Lk B : Int} (hR : RF R) (hT : TpR bs D) (hl4 : bs.length ≤ 400) (hby : ∀ j, 0 ≤ bs.getD j 0 ∧ bs.getD j 0 ≤ 255) (hW : WdR D) (hLk : D 479 6 = Lk) (hBk : D 479 7 = B) (hB0 : 0 ≤ B) (hB1 : B ≤ 6) (hL0 : 0 ≤ Lk) (hL1 : Lk ≤ 9) (d : Nat → Int) : ∃ z D', XC 10 223 [.inr (some 479), .inl 2] (xS n, R, D) (some (.inl z)) (xS n, R, D') ∧ TxP Lk B d bs D z D' := by
  refine XT_of (d := 9) (P := fun z E => TxP Lk B d bs D z E) (Nat.le_of_ble_eq_true rfl) (Nat.le_of_ble_eq_true rfl) (loc := [_, _, _]) rfl ?_
  refine xx_aload_n (q := 1) rfl rfl rfl ?_
  refine xx_iconst (q := 2) rfl rfl (by decide) ?_
  refine xx_puz (q := 5) rfl rfl rfl xS_479 (Nat.le_of_ble_eq_true rfl) (Nat.le_of_ble_eq_true rfl) (fun h => by cases h) (Or.inl rfl) rfl ?_
  refine xx_aload_n (q := 6) rfl rfl rfl ?_
  refine xx_iconst (q := 7) rfl rfl (by decide) ?_
  refine xx_puz (q := 10) rfl rfl rfl xS_479 (Nat.le_of_ble_eq_true rfl) (Nat.le_of_ble_eq_true rfl) (fun h => by cases h) (Or.inl rfl) rfl ?_
  refine xx_aload_n (q := 11) rfl rfl rfl ?_
  refine xx_iconst (q := 12) rfl rfl (by decide) ?_
  refine xx_puz (q := 15) rfl rfl rfl xS_479 (Nat.le_of_ble_eq_true rfl) (Nat.le_of_ble_eq_true rfl) (fun h => by cases h) (Or.inl rfl) rfl ?_
  refine xx_aload_n (q := 16) rfl rfl rfl ?_
  refine xx_iconst (q := 17) rfl rfl (by decide) ?_
  refine xx_puz (q := 20) rfl rfl rfl xS_479 (Nat.le_of_ble_eq_true rfl) (Nat.le_of_ble_eq_true rfl) (fun h => by cases h) (Or.inl rfl) rfl ?_
  refine xx_aload_n (q := 21) rfl rfl rfl ?_
  refine xx_iconst (q := 22) rfl rfl (by decide) ?_
  refine xx_puz (q := 25) rfl rfl rfl xS_479 (Nat.le_of_ble_eq_true rfl) (Nat.le_of_ble_eq_true rfl) (fun h => by cases h) (Or.inl rfl) rfl ?_
  refine xx_aload_n (q := 26) rfl rfl rfl ?_
  refine xx_iconst (q := 27) rfl rfl (by decide) ?_
  refine xx_puz (q := 30) rfl rfl rfl xS_479 (Nat.le_of_ble_eq_true rfl) (Nat.le_of_ble_eq_true rfl) (fun h => by cases h) (Or.inl rfl) rfl ?_
  refine xx_aload_n (q := 31) rfl rfl rfl ?_
  refine xx_iload_n (q := 32) rfl rfl rfl ?_
  refine xx_puz (q := 35) rfl rfl rfl xS_479 (Nat.le_of_ble_eq_true rfl) (Nat.le_of_ble_eq_true rfl) (fun h => by cases h) (Or.inl rfl) rfl ?_
  refine xx_iconst (q := 36) rfl rfl (by decide) ?_
  refine xx_istore_n (q := 37) (loc2 := [_, _, _]) rfl rfl (Nat.le_of_ble_eq_true rfl) rfl ?_
  refine xx_aload_n (q := 38) rfl rfl rfl ?_
  refine xx_iload_n (q := 39) rfl rfl rfl ?_
  refine xx_iconst (q := 40) rfl rfl (by decide) ?_
  refine xx_iconst (q := 41) rfl rfl (by decide) ?_
  refine xx_callV (q := 44) (As := [_, _, _]) (rest := []) rfl rfl rfl (Or.inl rfl) rfl rfl (Nat.le_of_ble_eq_true rfl) xS_479 (XCm (r_isIn (m := (xS n, R, (xui (xui (xui (xui (xui (xui (xui D 479 0 0) 479 44 0) 479 45 (-1)) 479 25 0) 479 38 0) 479 39 0) 479 37 2))) 2 0 2) rfl) rfl ?_
  refine xx_ifb_eq (q := 89) (q2 := 47) rfl rfl rfl (fun h44 => (by exfalso; omega)) (fun _ => ?_)
  obtain ⟨E, hEe⟩ : ∃ E, E = (xui (xui (xui (xui (xui (xui (xui D 479 0 0) 479 44 0) 479 45 (-1)) 479 25 0) 479 38 0) 479 39 0) 479 37 2) := ⟨_, rfl⟩
  rw [← hEe]
  have hE : TxE 2 D E := by rw [hEe]; exact TxE_of
  have hT0 : TpR bs E := hT.fr (fun x k q => hE.2.2.2.2.2.2.2 x k (by omega))
  have hW0 : WdR E := fun j hj => (hE.2.2.2.2.2.2.2 498 j (by omega)).trans (hW j hj)
  refine xx_aload_n (q := 48) rfl rfl rfl ?_
  obtain ⟨D1, hx1, hO1, hs1⟩ := r_reads (n := n) hR bs hT0 hl4 hby hW0 (i := 0) hE.2.2.2.1 (by omega)
  have hRG := rg_0 hO1 hs1 hE.2.2.2.2.1 hE.2.2.2.2.2.1
  have hRL : RpS bs Lk B D1 (tp0 bs, fun j => D1 507 (150 + j)) (D1 479 48) D1 := ⟨hRG, hT0.fr (fun x k q => hs1 x k (by omega)), fun j hj => (hs1 498 j (by omega)).trans (hW0 j hj), (hs1 479 6 (by omega)).trans ((hE.2.2.2.2.2.2.2 479 6 (by omega)).trans hLk), (hs1 479 7 (by omega)).trans ((hE.2.2.2.2.2.2.2 479 7 (by omega)).trans hBk), rfl, fun _ _ => rfl, fun _ _ _ _ _ _ => rfl⟩
  refine xx_callV (q := 51) (As := []) (rest := []) rfl rfl rfl (Or.inl rfl) rfl rfl (Nat.le_of_ble_eq_true rfl) xS_479 (XCm hx1 rfl) rfl ?_
  refine xx_iload_n (q := 52) rfl rfl rfl ?_
  refine xx_iconst (q := 53) rfl rfl (by decide) ?_
  refine xx_icmp_ne (q := 63) (q2 := 56) rfl rfl rfl (fun h53 => (by exfalso; omega)) (fun _ => ?_)
  refine xx_aload_n (q := 57) rfl rfl rfl ?_
  obtain ⟨z2, D2, hx2, hfr, hq⟩ := r_readPlan (n := n) hR hl4 hby hB0 hB1 hL0 hL1 hRL d
  refine xx_callV (q := 60) (As := []) (rest := []) rfl rfl rfl (Or.inl rfl) rfl rfl (Nat.le_of_ble_eq_true rfl) xS_479 (XCm hx2 rfl) rfl ?_
  refine xx_goto (q := 67) rfl rfl ?_
  refine xx_istore_n (q := 68) (loc2 := [_, _, _]) rfl rfl (Nat.le_of_ble_eq_true rfl) rfl ?_
  refine xx_iload_n (q := 69) rfl rfl rfl ?_
  refine xx_iconst (q := 70) rfl rfl (by decide) ?_
  refine xx_icmp_ne (q := 89) (q2 := 73) rfl rfl rfl (fun h70 => ?_) (fun h70 => ?_)
  · refine xx_aload_n (q := 90) rfl rfl rfl ?_
    refine xx_iconst (q := 91) rfl rfl (by decide) ?_
    refine xx_puz (q := 94) rfl rfl rfl xS_479 (Nat.le_of_ble_eq_true rfl) (Nat.le_of_ble_eq_true rfl) (fun h => by cases h) (Or.inl rfl) rfl ?_
    refine xx_iload_n (q := 95) rfl rfl rfl ?_
    refine xx_iconst (q := 96) rfl rfl (by decide) ?_
    refine xx_icmp_ne (q := 101) (q2 := 99) rfl rfl rfl (fun _ => ?_) (fun h96 => (by exfalso; omega))
    refine xx_iload_n (q := 102) rfl rfl rfl ?_
    refine xx_iconst (q := 103) rfl rfl (by decide) ?_
    refine xx_icmp_ne (q := 114) (q2 := 106) rfl rfl rfl (fun h103 => (by exfalso; omega)) (fun _ => ?_)
    refine xx_aload_n (q := 107) rfl rfl rfl ?_
    refine xx_iload_n (q := 108) rfl rfl rfl ?_
    obtain ⟨hlv, P, ez, ec, hP30, hpc, hpr, hpv⟩ := hq.resolve_right (fun q => h70 q.2.1)
    subst ez
    have hfx : ∀ x k, (x = 479 → k ≠ 24) → (xui D2 479 24 0) x k = D2 x k := fun x k q => if_neg (fun r => q r.1 r.2)
    obtain ⟨D4, hx4, hLw, hF4⟩ := r_takesPlan (n := n) (D := (xui D2 479 24 0)) hR hP30 (hpr.cg (fun j _ => hfx 507 _ (by omega)))
    refine xx_callV (q := 111) (As := [_]) (rest := []) rfl rfl rfl (Or.inl rfl) rfl rfl (Nat.le_of_ble_eq_true rfl) xS_479 (XCm hx4 rfl) rfl ?_
    refine xx_goto (q := 119) rfl rfl ?_
    refine xx_iload_n (q := 120) rfl rfl rfl ?_
    have hbk : ∀ k, k ≠ 47 → D4 479 k = (xui D2 479 24 0) 479 k := fun k q => hF4 479 k (fun _ => q) (by omega)
    have hD2 : ∀ k, k = 0 ∨ k = 44 ∨ k = 45 → D2 479 k = E 479 k := fun k q => (hfr 479 k (by omega) (by omega) (by omega) (by omega)).trans (hs1 479 k (by omega))
    refine xx_iret rfl trivial ⟨_, _, rfl, rfl, (hbk 0 (by omega)).trans ((hfx 479 0 (by omega)).trans ((hD2 0 (by omega)).trans hE.1)), (hbk 24 (by omega)).trans xui_s, fun x k q1 q4 q5 q6 => ?_, Or.inl ⟨hlv, (hbk 44 (by omega)).trans ((hfx 479 44 (by omega)).trans ((hD2 44 (by omega)).trans hE.2.1)), (hbk 45 (by omega)).trans ((hfx 479 45 (by omega)).trans ((hD2 45 (by omega)).trans hE.2.2.1)), P, rfl, ec, hpc, hLw, hpv⟩⟩
    rw [hF4 x k (fun r => by have := q1 r; omega) (fun r => absurd r q6), hfx x k (fun r => by have := q1 r; omega), hfr x k (fun r => by have := q1 r; omega) q4 (fun r => absurd r q6) q5, hs1 x k (fun r => by have := q1 r; omega), hE.2.2.2.2.2.2.2 x k (fun r => by have := q1 r; omega)]
  · refine xx_aload_n (q := 74) rfl rfl rfl ?_
    refine xx_aload_n (q := 75) rfl rfl rfl ?_
    refine xx_gez (q := 78) rfl rfl rfl xS_479 (Nat.le_of_ble_eq_true rfl) rfl rfl ?_
    refine xx_puz (q := 81) rfl rfl rfl xS_479 (Nat.le_of_ble_eq_true rfl) (Nat.le_of_ble_eq_true rfl) (fun h => by cases h) (Or.inl rfl) rfl ?_
    refine xx_aload_n (q := 82) rfl rfl rfl ?_
    refine xx_aload_n (q := 83) rfl rfl rfl ?_
    refine xx_gez (q := 86) rfl rfl rfl xS_479 (Nat.le_of_ble_eq_true rfl) rfl rfl ?_
    refine xx_puz (q := 89) rfl rfl rfl xS_479 (Nat.le_of_ble_eq_true rfl) (Nat.le_of_ble_eq_true rfl) (fun h => by cases h) (Or.inl rfl) rfl ?_
    refine xx_aload_n (q := 90) rfl rfl rfl ?_
    refine xx_iconst (q := 91) rfl rfl (by decide) ?_
    refine xx_puz (q := 94) rfl rfl rfl xS_479 (Nat.le_of_ble_eq_true rfl) (Nat.le_of_ble_eq_true rfl) (fun h => by cases h) (Or.inl rfl) rfl ?_
    refine xx_iload_n (q := 95) rfl rfl rfl ?_
    refine xx_iconst (q := 96) rfl rfl (by decide) ?_
    refine xx_icmp_ne (q := 101) (q2 := 99) rfl rfl rfl (fun h96 => (by exfalso; omega)) (fun _ => ?_)
    refine xx_iconst (q := 100) rfl rfl (by decide) ?_
    obtain ⟨hdd, _, h42, h43⟩ := hq.resolve_left (fun q => by obtain ⟨L, e, _⟩ := q.2; omega)
    have hfx : ∀ x k, (x = 479 → k ≠ 24 ∧ k ≠ 44 ∧ k ≠ 45) → (xui (xui (xui D2 479 44 (D2 479 42)) 479 45 ((xui D2 479 44 (D2 479 42)) 479 43)) 479 24 0) x k = D2 x k := fun x k q => (if_neg (fun r => (q r.1).1 r.2)).trans ((if_neg (fun r => (q r.1).2.2 r.2)).trans (if_neg (fun r => (q r.1).2.1 r.2)))
    have hall : ∀ x k, (x = 479 → k ≠ 0 ∧ k ≠ 24 ∧ k ≠ 25 ∧ k ≠ 26 ∧ k ≠ 27 ∧ k ≠ 28 ∧ k ≠ 37 ∧ k ≠ 38 ∧ k ≠ 39 ∧ k ≠ 41 ∧ k ≠ 42 ∧ k ≠ 43 ∧ k ≠ 44 ∧ k ≠ 45 ∧ k ≠ 48) → ((x = 504 ∨ x = 505) → k < 800) → x ≠ 506 → (x = 507 → k < 150) → (xui (xui (xui D2 479 44 (D2 479 42)) 479 45 ((xui D2 479 44 (D2 479 42)) 479 43)) 479 24 0) x k = D x k := fun x k q1 q4 q5 q6 => by
      rw [hfx x k (fun r => by have := q1 r; omega), hfr x k (fun r => by have := q1 r; omega) q4 q6 q5, hs1 x k (fun r => by have := q1 r; omega), hE.2.2.2.2.2.2.2 x k (fun r => by have := q1 r; omega)]
    exact xx_iret rfl trivial ⟨_, _, rfl, rfl, (hfx 479 0 (by omega)).trans ((hfr 479 0 (by omega) (by omega) (by omega) (by omega)).trans ((hs1 479 0 (by omega)).trans hE.1)), xui_s, fun x k q1 q4 q5 q6 => hall x k (fun r => by have := q1 r; omega) q4 q5 (fun r => absurd r q6), Or.inr ⟨hdd, rfl, h42, h43, hall 479 47 (by omega) (by omega) (by omega) (by omega), fun k hk => hall 507 k (by omega) (by omega) (by omega) (fun _ => hk)⟩⟩
def TxN (D E : KK) : Prop := E 479 0 = 0 ∧ E 479 24 = 0 ∧ E 479 44 = 0 ∧ E 479 45 = -1 ∧ ∀ x k, (x = 479 → k ≠ 0 ∧ k ≠ 24 ∧ k ≠ 25 ∧ k ≠ 37 ∧ k ≠ 38 ∧ k ≠ 39 ∧ k ≠ 44 ∧ k ≠ 45) → E x k = D x k
set_option maxHeartbeats 4000000 in
theorem r_textN {n : Nat} {R : Nat → Nat → Option Nat} {D : KK} (a : Int) (ha : ¬ (0 ≤ a ∧ a ≤ 2)) : ∃ D', XC 10 223 [.inr (some 479), .inl a] (xS n, R, D) (some (.inl (-1))) (xS n, R, D') ∧ TxN D D' := by
  refine XE_of (d := 9) (Nat.le_of_ble_eq_true rfl) (Nat.le_of_ble_eq_true rfl) (loc := [_, _, _]) rfl ?_
  refine xx_aload_n (q := 1) rfl rfl rfl ?_
  refine xx_iconst (q := 2) rfl rfl (by decide) ?_
  refine xx_puz (q := 5) rfl rfl rfl xS_479 (Nat.le_of_ble_eq_true rfl) (Nat.le_of_ble_eq_true rfl) (fun h => by cases h) (Or.inl rfl) rfl ?_
  refine xx_aload_n (q := 6) rfl rfl rfl ?_
  refine xx_iconst (q := 7) rfl rfl (by decide) ?_
  refine xx_puz (q := 10) rfl rfl rfl xS_479 (Nat.le_of_ble_eq_true rfl) (Nat.le_of_ble_eq_true rfl) (fun h => by cases h) (Or.inl rfl) rfl ?_
  refine xx_aload_n (q := 11) rfl rfl rfl ?_
  refine xx_iconst (q := 12) rfl rfl (by decide) ?_
  refine xx_puz (q := 15) rfl rfl rfl xS_479 (Nat.le_of_ble_eq_true rfl) (Nat.le_of_ble_eq_true rfl) (fun h => by cases h) (Or.inl rfl) rfl ?_
  refine xx_aload_n (q := 16) rfl rfl rfl ?_
  refine xx_iconst (q := 17) rfl rfl (by decide) ?_
  refine xx_puz (q := 20) rfl rfl rfl xS_479 (Nat.le_of_ble_eq_true rfl) (Nat.le_of_ble_eq_true rfl) (fun h => by cases h) (Or.inl rfl) rfl ?_
  refine xx_aload_n (q := 21) rfl rfl rfl ?_
  refine xx_iconst (q := 22) rfl rfl (by decide) ?_
  refine xx_puz (q := 25) rfl rfl rfl xS_479 (Nat.le_of_ble_eq_true rfl) (Nat.le_of_ble_eq_true rfl) (fun h => by cases h) (Or.inl rfl) rfl ?_
  refine xx_aload_n (q := 26) rfl rfl rfl ?_
  refine xx_iconst (q := 27) rfl rfl (by decide) ?_
  refine xx_puz (q := 30) rfl rfl rfl xS_479 (Nat.le_of_ble_eq_true rfl) (Nat.le_of_ble_eq_true rfl) (fun h => by cases h) (Or.inl rfl) rfl ?_
  refine xx_aload_n (q := 31) rfl rfl rfl ?_
  refine xx_iload_n (q := 32) rfl rfl rfl ?_
  refine xx_puz (q := 35) rfl rfl rfl xS_479 (Nat.le_of_ble_eq_true rfl) (Nat.le_of_ble_eq_true rfl) (fun h => by cases h) (Or.inl rfl) rfl ?_
  refine xx_iconst (q := 36) rfl rfl (by decide) ?_
  refine xx_istore_n (q := 37) (loc2 := [_, _, _]) rfl rfl (Nat.le_of_ble_eq_true rfl) rfl ?_
  refine xx_aload_n (q := 38) rfl rfl rfl ?_
  refine xx_iload_n (q := 39) rfl rfl rfl ?_
  refine xx_iconst (q := 40) rfl rfl (by decide) ?_
  refine xx_iconst (q := 41) rfl rfl (by decide) ?_
  refine xx_callV (q := 44) (As := [_, _, _]) (rest := []) rfl rfl rfl (Or.inl rfl) rfl rfl (Nat.le_of_ble_eq_true rfl) xS_479 (XCm (r_isIn (m := (xS n, R, (xui (xui (xui (xui (xui (xui (xui D 479 0 0) 479 44 0) 479 45 (-1)) 479 25 0) 479 38 0) 479 39 0) 479 37 a))) a 0 2) rfl) rfl ?_
  refine xx_ifb_eq (q := 89) (q2 := 47) rfl rfl rfl (fun _ => ?_) (fun h44 => (by exfalso; omega))
  obtain ⟨E, hEe⟩ : ∃ E, E = (xui (xui (xui (xui (xui (xui (xui D 479 0 0) 479 44 0) 479 45 (-1)) 479 25 0) 479 38 0) 479 39 0) 479 37 a) := ⟨_, rfl⟩
  rw [← hEe]
  have hE : TxE a D E := by rw [hEe]; exact TxE_of
  refine xx_aload_n (q := 90) rfl rfl rfl ?_
  refine xx_iconst (q := 91) rfl rfl (by decide) ?_
  refine xx_puz (q := 94) rfl rfl rfl xS_479 (Nat.le_of_ble_eq_true rfl) (Nat.le_of_ble_eq_true rfl) (fun h => by cases h) (Or.inl rfl) rfl ?_
  refine xx_iload_n (q := 95) rfl rfl rfl ?_
  refine xx_iconst (q := 96) rfl rfl (by decide) ?_
  refine xx_icmp_ne (q := 101) (q2 := 99) rfl rfl rfl (fun h96 => (by exfalso; omega)) (fun _ => ?_)
  refine xx_iconst (q := 100) rfl rfl (by decide) ?_
  exact xx_iret rfl trivial ⟨rfl, _, rfl, (xui_j (by omega)).trans hE.1, xui_s, (xui_j (by omega)).trans hE.2.1, (xui_j (by omega)).trans hE.2.2.1, fun x k q => (if_neg (fun r => (q r.1).2.1 r.2)).trans (hE.2.2.2.2.2.2.2 x k (fun r => by have := q r; omega))⟩
