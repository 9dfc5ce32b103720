/-! A text is read: the reference. -/
def TxE (w : Int) (D E : KK) : Prop := E 479 0 = 0 ∧ E 479 44 = 0 ∧ E 479 45 = -1 ∧ E 479 25 = 0 ∧ E 479 38 = 0 ∧ E 479 39 = 0 ∧ E 479 37 = w ∧ ∀ x k, (x = 479 → k ≠ 0 ∧ k ≠ 44 ∧ k ≠ 45 ∧ k ≠ 25 ∧ k ≠ 38 ∧ k ≠ 39 ∧ k ≠ 37) → E x k = D x k
theorem TxE_of {D : KK} {w : Int} : TxE w D (xui (xui (xui (xui (xui (xui (xui D 479 0 0) 479 44 0) 479 45 (-1)) 479 25 0) 479 38 0) 479 39 0) 479 37 w) := by
  refine ⟨rfl, rfl, rfl, rfl, rfl, rfl, rfl, fun x k q => ?_⟩
  have r : ∀ (E : KK) (j : Nat) (v : Int), (x = 479 → k ≠ j) → xui E 479 j v x k = E x k := fun E j v h => if_neg (fun z => h z.1 z.2)
  rw [r _ _ _ (fun e => (q e).2.2.2.2.2.2), r _ _ _ (fun e => (q e).2.2.2.2.2.1), r _ _ _ (fun e => (q e).2.2.2.2.1), r _ _ _ (fun e => (q e).2.2.2.1), r _ _ _ (fun e => (q e).2.2.1), r _ _ _ (fun e => (q e).2.1), r _ _ _ (fun e => (q e).1)]
theorem rg_0 {bs : List Int} {E E1 : KK} (h1 : RdS bs (lx bs 0) E1) (h2 : ∀ x k, (x = 479 → k ≠ 25 ∧ k ≠ 26 ∧ k ≠ 27 ∧ k ≠ 28) → E1 x k = E x k) (h3 : E 479 38 = 0) (h4 : E 479 39 = 0) : RgO bs E1 (tp0 bs, []) 0 none E1 := ⟨h1, (lx_wf bs.length 0 (by omega)).1, rfl, (h2 479 38 (by omega)).trans h3, fun j hj => absurd hj (Nat.not_lt_zero _), (h2 479 39 (by omega)).trans h4, trivial, fun _ _ _ _ _ => rfl⟩
def FXl (w : Nat) (D E : KK) : Prop := ∀ x k, (x = 479 → k ≠ 0 ∧ k ≠ 24 ∧ k ≠ 25 ∧ k ≠ 26 ∧ k ≠ 27 ∧ k ≠ 28 ∧ k ≠ 37 ∧ k ≠ 38 ∧ k ≠ 39 ∧ k ≠ 41 ∧ k ≠ 42 ∧ k ≠ 43 ∧ k ≠ 44 ∧ k ≠ 45) → (x = 499 → k ≠ w) → ((500 ≤ x ∧ x ≤ 503) → k < 16 * w ∨ (16 * w + 16 ≤ k ∧ k < 32)) → ((x = 504 ∨ x = 505) → k < 400 * w ∨ (400 * w + 400 ≤ k ∧ k < 800)) → x ≠ 506 → E x k = D x k
/-- what reading a law's text ends in -/
def TxL (w : Nat) (h : Int) (bs : List Int) (D : KK) (z : Int) (E : KK) : Prop := E 479 0 = 0 ∧ E 479 24 = 0 ∧ FXl w D E ∧ (((lwF h (tp0 bs)).2.1.1 = 0 ∧ E 479 44 = 0 ∧ E 479 45 = -1 ∧ ∃ L : List LN1, z = (L.length : Int) ∧ (lwF h (tp0 bs)).1 = (L.length : Int) ∧ (lwF h (tp0 bs)).2.2 = clC h L ∧ (∀ l ∈ L, ok1 h l) ∧ LwR w L E) ∨ ((lwF h (tp0 bs)).2.1.1 ≠ 0 ∧ z = -1 ∧ E 479 44 = (lwF h (tp0 bs)).2.1.1 ∧ E 479 45 = (lwF h (tp0 bs)).2.1.2.1 ∧ ∀ x k, 499 ≤ x → x ≤ 505 → (x = 499 → k < 2) → ((500 ≤ x ∧ x ≤ 503) → k < 32) → ((x = 504 ∨ x = 505) → k < 800) → E x k = D x k))
theorem XT_of {d i : Nat} {args : List XV} {m : XM} {P : Int → KK → Prop} {n : Nat} {R : Nat → Nat → Option Nat} (hi : i < 316) (ha : args.length ≤ xml i) {loc : XLc} (hl : xent i args = loc) (h : XX (XC d) i (fun r m2 => ∃ z D', r = some (.inl z) ∧ m2 = (xS n, R, D') ∧ P z D') 0 loc [] m) : ∃ z D', XC (d + 1) i args m (some (.inl z)) (xS n, R, D') ∧ P z D' := by
  obtain ⟨r, m2, h1, z, D', rfl, rfl, h2⟩ := XR_of hi ha hl h
  exact ⟨z, D', h1, h2⟩
set_option maxHeartbeats 4000000 in
theorem r_textG {n : Nat} {R : Nat → Nat → Option Nat} {D : KK} {bs : List Int} (hR : RF R) (hT : TpR bs D) (hl4 : bs.length ≤ 400) (hby : ∀ j, 0 ≤ bs.getD j 0 ∧ bs.getD j 0 ≤ 255) (hW : WdR D) : ∃ z D', XC 10 223 [.inr (some 479), .inl 0] (xS n, R, D) (some (.inl z)) (xS n, R, D') ∧ TxL 0 0 bs D z D' := by
  refine XT_of (P := fun z E => TxL 0 0 bs D z E) (Nat.le_of_ble_eq_true rfl) (Nat.le_of_ble_eq_true rfl) (loc := [_, _, _]) rfl ?_
  refine xx_aload_n (q := 1) rfl rfl rfl ?_
  refine xx_iconst (q := 2) rfl rfl (by decide) ?_
  refine xx_puz (q := 5) rfl rfl rfl xS_479 (Nat.le_of_ble_eq_true rfl) (Nat.le_of_ble_eq_true rfl) (fun h => by cases h) (Or.inl rfl) rfl ?_
  refine xx_aload_n (q := 6) rfl rfl rfl ?_
  refine xx_iconst (q := 7) rfl rfl (by decide) ?_
  refine xx_puz (q := 10) rfl rfl rfl xS_479 (Nat.le_of_ble_eq_true rfl) (Nat.le_of_ble_eq_true rfl) (fun h => by cases h) (Or.inl rfl) rfl ?_
  refine xx_aload_n (q := 11) rfl rfl rfl ?_
  refine xx_iconst (q := 12) rfl rfl (by decide) ?_
  refine xx_puz (q := 15) rfl rfl rfl xS_479 (Nat.le_of_ble_eq_true rfl) (Nat.le_of_ble_eq_true rfl) (fun h => by cases h) (Or.inl rfl) rfl ?_
  refine xx_aload_n (q := 16) rfl rfl rfl ?_
  refine xx_iconst (q := 17) rfl rfl (by decide) ?_
  refine xx_puz (q := 20) rfl rfl rfl xS_479 (Nat.le_of_ble_eq_true rfl) (Nat.le_of_ble_eq_true rfl) (fun h => by cases h) (Or.inl rfl) rfl ?_
  refine xx_aload_n (q := 21) rfl rfl rfl ?_
  refine xx_iconst (q := 22) rfl rfl (by decide) ?_
  refine xx_puz (q := 25) rfl rfl rfl xS_479 (Nat.le_of_ble_eq_true rfl) (Nat.le_of_ble_eq_true rfl) (fun h => by cases h) (Or.inl rfl) rfl ?_
  refine xx_aload_n (q := 26) rfl rfl rfl ?_
  refine xx_iconst (q := 27) rfl rfl (by decide) ?_
  refine xx_puz (q := 30) rfl rfl rfl xS_479 (Nat.le_of_ble_eq_true rfl) (Nat.le_of_ble_eq_true rfl) (fun h => by cases h) (Or.inl rfl) rfl ?_
  refine xx_aload_n (q := 31) rfl rfl rfl ?_
  refine xx_iload_n (q := 32) rfl rfl rfl ?_
  refine xx_puz (q := 35) rfl rfl rfl xS_479 (Nat.le_of_ble_eq_true rfl) (Nat.le_of_ble_eq_true rfl) (fun h => by cases h) (Or.inl rfl) rfl ?_
  refine xx_iconst (q := 36) rfl rfl (by decide) ?_
  refine xx_istore_n (q := 37) (loc2 := [_, _, _]) rfl rfl (Nat.le_of_ble_eq_true rfl) rfl ?_
  refine xx_aload_n (q := 38) rfl rfl rfl ?_
  refine xx_iload_n (q := 39) rfl rfl rfl ?_
  refine xx_iconst (q := 40) rfl rfl (by decide) ?_
  refine xx_iconst (q := 41) rfl rfl (by decide) ?_
  refine xx_callV (q := 44) (As := [_, _, _]) (rest := []) rfl rfl rfl (Or.inl rfl) rfl rfl (Nat.le_of_ble_eq_true rfl) xS_479 (XCm (r_isIn (m := (xS n, R, (xui (xui (xui (xui (xui (xui (xui D 479 0 0) 479 44 0) 479 45 (-1)) 479 25 0) 479 38 0) 479 39 0) 479 37 0))) 0 0 2) rfl) rfl ?_
  refine xx_ifb_eq (q := 89) (q2 := 47) rfl rfl rfl (fun h44 => (by exfalso; omega)) (fun _ => ?_)
  obtain ⟨E, hEe⟩ : ∃ E, E = (xui (xui (xui (xui (xui (xui (xui D 479 0 0) 479 44 0) 479 45 (-1)) 479 25 0) 479 38 0) 479 39 0) 479 37 0) := ⟨_, rfl⟩
  rw [← hEe]
  have hE : TxE 0 D E := by rw [hEe]; exact TxE_of
  have hT0 : TpR bs E := hT.fr (fun x k q => hE.2.2.2.2.2.2.2 x k (by omega))
  have hW0 : WdR E := fun j hj => (hE.2.2.2.2.2.2.2 498 j (by omega)).trans (hW j hj)
  refine xx_aload_n (q := 48) rfl rfl rfl ?_
  obtain ⟨D1, hx1, hO1, hs1⟩ := r_reads (n := n) hR bs hT0 hl4 hby hW0 (i := 0) hE.2.2.2.1 (by omega)
  have hRG := rg_0 hO1 hs1 hE.2.2.2.2.1 hE.2.2.2.2.2.1
  have hRL : RlS bs 0 D1 D1 (tp0 bs, []) 0 none D1 := ⟨hRG, hT0.fr (fun x k q => hs1 x k (by omega)), fun j hj => (hs1 498 j (by omega)).trans (hW0 j hj), (hs1 479 37 (by omega)).trans hE.2.2.2.2.2.2.1, fun _ _ _ _ _ _ => rfl, fun _ _ _ _ => rfl⟩
  refine xx_callV (q := 51) (As := []) (rest := []) rfl rfl rfl (Or.inl rfl) rfl rfl (Nat.le_of_ble_eq_true rfl) xS_479 (XCm hx1 rfl) rfl ?_
  refine xx_iload_n (q := 52) rfl rfl rfl ?_
  refine xx_iconst (q := 53) rfl rfl (by decide) ?_
  refine xx_icmp_ne (q := 63) (q2 := 56) rfl rfl rfl (fun _ => ?_) (fun h53 => (by exfalso; omega))
  refine xx_aload_n (q := 64) rfl rfl rfl ?_
  obtain ⟨z2, D2, hx2, hfr, hq⟩ := r_readLawG (n := n) hR hl4 hby hRL (by have := (lx_wf (bs := bs) bs.length 0 (by omega)).2; show (lx bs 0).length ≤ 401; omega)
  refine xx_callV (q := 67) (As := []) (rest := []) rfl rfl rfl (Or.inl rfl) rfl rfl (Nat.le_of_ble_eq_true rfl) xS_479 (XCm hx2 rfl) rfl ?_
  refine xx_istore_n (q := 68) (loc2 := [_, _, _]) rfl rfl (Nat.le_of_ble_eq_true rfl) rfl ?_
  refine xx_iload_n (q := 69) rfl rfl rfl ?_
  refine xx_iconst (q := 70) rfl rfl (by decide) ?_
  refine xx_icmp_ne (q := 89) (q2 := 73) rfl rfl rfl (fun h70 => ?_) (fun h70 => ?_)
  · refine xx_aload_n (q := 90) rfl rfl rfl ?_
    refine xx_iconst (q := 91) rfl rfl (by decide) ?_
    refine xx_puz (q := 94) rfl rfl rfl xS_479 (Nat.le_of_ble_eq_true rfl) (Nat.le_of_ble_eq_true rfl) (fun h => by cases h) (Or.inl rfl) rfl ?_
    refine xx_iload_n (q := 95) rfl rfl rfl ?_
    refine xx_iconst (q := 96) rfl rfl (by decide) ?_
    refine xx_icmp_ne (q := 101) (q2 := 99) rfl rfl rfl (fun _ => ?_) (fun h96 => (by exfalso; omega))
    refine xx_iload_n (q := 102) rfl rfl rfl ?_
    refine xx_iconst (q := 103) rfl rfl (by decide) ?_
    refine xx_icmp_ne (q := 114) (q2 := 106) rfl rfl rfl (fun _ => ?_) (fun h103 => (by exfalso; omega))
    refine xx_aload_n (q := 115) rfl rfl rfl ?_
    refine xx_iload_n (q := 116) rfl rfl rfl ?_
    obtain ⟨hlv, L, ez, ec, hL16, ecc, hok, hLn, h38, h400, hcd⟩ := hq.resolve_right (fun q => h70 q.2.1)
    subst ez
    have hfx : ∀ x k, (x = 479 → k ≠ 24) → (xui D2 479 24 0) x k = D2 x k := fun x k q => if_neg (fun r => q r.1 r.2)
    obtain ⟨D4, hx4, hLw, hF4⟩ := r_takesLawG (n := n) (D := (xui D2 479 24 0)) hR ((hfx 479 37 (by omega)).trans ((hfr 479 37 (by omega) (by omega) (by omega) (by omega)).trans hRL.2.2.2.1)) hL16 (fun i l hi => by rw [hfx _ _ (by omega), hfx _ _ (by omega), hfx _ _ (by omega), hfx _ _ (by omega)]; exact hLn i l hi) ((hfx _ _ (by omega)).trans h38) h400 (fun j hj => by rw [hfx _ _ (by omega), hfx _ _ (by omega)]; exact hcd j hj)
    refine xx_callV (q := 119) (As := [_]) (rest := []) rfl rfl rfl (Or.inl rfl) rfl rfl (Nat.le_of_ble_eq_true rfl) xS_479 (XCm hx4 rfl) rfl ?_
    refine xx_iload_n (q := 120) rfl rfl rfl ?_
    have hbk : ∀ k, D4 479 k = (xui D2 479 24 0) 479 k := fun k => hF4 479 k (by omega) (by omega) (by omega)
    have hD2 : ∀ k, k = 0 ∨ k = 44 ∨ k = 45 → D2 479 k = E 479 k := fun k q => (hfr 479 k (by omega) (by omega) (by omega) (by omega)).trans (hs1 479 k (by omega))
    refine xx_iret rfl trivial ⟨_, _, rfl, rfl, (hbk 0).trans ((hfx 479 0 (by omega)).trans ((hD2 0 (by omega)).trans hE.1)), (hbk 24).trans xui_s, fun x k q1 q2 q3 q4 q5 => ?_, Or.inl ⟨hlv, (hbk 44).trans ((hfx 479 44 (by omega)).trans ((hD2 44 (by omega)).trans hE.2.1)), (hbk 45).trans ((hfx 479 45 (by omega)).trans ((hD2 45 (by omega)).trans hE.2.2.1)), L, rfl, ec, ecc, hok, hLw⟩⟩
    rw [hF4 x k q2 (fun r => by have := q3 r; omega) (fun r => by have := q4 r; omega), hfx x k (fun r => by have := q1 r; omega), hfr x k (fun r => by have := q1 r; omega) (fun r => by have := q4 r; omega) (fun r => by have := q3 r; omega) q5, hs1 x k (fun r => by have := q1 r; omega), hE.2.2.2.2.2.2.2 x k (fun r => by have := q1 r; omega)]
  · refine xx_aload_n (q := 74) rfl rfl rfl ?_
    refine xx_aload_n (q := 75) rfl rfl rfl ?_
    refine xx_gez (q := 78) rfl rfl rfl xS_479 (Nat.le_of_ble_eq_true rfl) rfl rfl ?_
    refine xx_puz (q := 81) rfl rfl rfl xS_479 (Nat.le_of_ble_eq_true rfl) (Nat.le_of_ble_eq_true rfl) (fun h => by cases h) (Or.inl rfl) rfl ?_
    refine xx_aload_n (q := 82) rfl rfl rfl ?_
    refine xx_aload_n (q := 83) rfl rfl rfl ?_
    refine xx_gez (q := 86) rfl rfl rfl xS_479 (Nat.le_of_ble_eq_true rfl) rfl rfl ?_
    refine xx_puz (q := 89) rfl rfl rfl xS_479 (Nat.le_of_ble_eq_true rfl) (Nat.le_of_ble_eq_true rfl) (fun h => by cases h) (Or.inl rfl) rfl ?_
    refine xx_aload_n (q := 90) rfl rfl rfl ?_
    refine xx_iconst (q := 91) rfl rfl (by decide) ?_
    refine xx_puz (q := 94) rfl rfl rfl xS_479 (Nat.le_of_ble_eq_true rfl) (Nat.le_of_ble_eq_true rfl) (fun h => by cases h) (Or.inl rfl) rfl ?_
    refine xx_iload_n (q := 95) rfl rfl rfl ?_
    refine xx_iconst (q := 96) rfl rfl (by decide) ?_
    refine xx_icmp_ne (q := 101) (q2 := 99) rfl rfl rfl (fun h96 => (by exfalso; omega)) (fun _ => ?_)
    refine xx_iconst (q := 100) rfl rfl (by decide) ?_
    obtain ⟨hdd, _, h42, h43⟩ := hq.resolve_left (fun q => by obtain ⟨L, e, _⟩ := q.2; omega)
    have hfx : ∀ x k, (x = 479 → k ≠ 24 ∧ k ≠ 44 ∧ k ≠ 45) → (xui (xui (xui D2 479 44 (D2 479 42)) 479 45 ((xui D2 479 44 (D2 479 42)) 479 43)) 479 24 0) x k = D2 x k := fun x k q => (if_neg (fun r => (q r.1).1 r.2)).trans ((if_neg (fun r => (q r.1).2.2 r.2)).trans (if_neg (fun r => (q r.1).2.1 r.2)))
    have hall : ∀ x k, (x = 479 → k ≠ 0 ∧ k ≠ 24 ∧ k ≠ 25 ∧ k ≠ 26 ∧ k ≠ 27 ∧ k ≠ 28 ∧ k ≠ 37 ∧ k ≠ 38 ∧ k ≠ 39 ∧ k ≠ 41 ∧ k ≠ 42 ∧ k ≠ 43 ∧ k ≠ 44 ∧ k ≠ 45) → ((500 ≤ x ∧ x ≤ 503) → k < 32) → ((x = 504 ∨ x = 505) → k < 800) → x ≠ 506 → (xui (xui (xui D2 479 44 (D2 479 42)) 479 45 ((xui D2 479 44 (D2 479 42)) 479 43)) 479 24 0) x k = D x k := fun x k q1 q3 q4 q5 => by
      rw [hfx x k (fun r => by have := q1 r; omega), hfr x k (fun r => by have := q1 r; omega) q4 q3 q5, hs1 x k (fun r => by have := q1 r; omega), hE.2.2.2.2.2.2.2 x k (fun r => by have := q1 r; omega)]
    exact xx_iret rfl trivial ⟨_, _, rfl, rfl, (hfx 479 0 (by omega)).trans ((hfr 479 0 (by omega) (by omega) (by omega) (by omega)).trans ((hs1 479 0 (by omega)).trans hE.1)), xui_s, fun x k q1 q2 q3 q4 q5 => hall x k q1 (fun r => by have := q3 r; omega) (fun r => by have := q4 r; omega) q5, Or.inr ⟨hdd, rfl, h42, h43, fun x k q1 q2 _ q3 q4 => hall x k (by omega) q3 q4 (by omega)⟩⟩
set_option maxHeartbeats 4000000 in
theorem r_textH {n : Nat} {R : Nat → Nat → Option Nat} {D : KK} {bs : List Int} (hR : RF R) (hT : TpR bs D) (hl4 : bs.length ≤ 400) (hby : ∀ j, 0 ≤ bs.getD j 0 ∧ bs.getD j 0 ≤ 255) (hW : WdR D) : ∃ z D', XC 10 223 [.inr (some 479), .inl 1] (xS n, R, D) (some (.inl z)) (xS n, R, D') ∧ TxL 1 1 bs D z D' := by
  refine XT_of (P := fun z E => TxL 1 1 bs D z E) (Nat.le_of_ble_eq_true rfl) (Nat.le_of_ble_eq_true rfl) (loc := [_, _, _]) rfl ?_
  refine xx_aload_n (q := 1) rfl rfl rfl ?_
  refine xx_iconst (q := 2) rfl rfl (by decide) ?_
  refine xx_puz (q := 5) rfl rfl rfl xS_479 (Nat.le_of_ble_eq_true rfl) (Nat.le_of_ble_eq_true rfl) (fun h => by cases h) (Or.inl rfl) rfl ?_
  refine xx_aload_n (q := 6) rfl rfl rfl ?_
  refine xx_iconst (q := 7) rfl rfl (by decide) ?_
  refine xx_puz (q := 10) rfl rfl rfl xS_479 (Nat.le_of_ble_eq_true rfl) (Nat.le_of_ble_eq_true rfl) (fun h => by cases h) (Or.inl rfl) rfl ?_
  refine xx_aload_n (q := 11) rfl rfl rfl ?_
  refine xx_iconst (q := 12) rfl rfl (by decide) ?_
  refine xx_puz (q := 15) rfl rfl rfl xS_479 (Nat.le_of_ble_eq_true rfl) (Nat.le_of_ble_eq_true rfl) (fun h => by cases h) (Or.inl rfl) rfl ?_
  refine xx_aload_n (q := 16) rfl rfl rfl ?_
  refine xx_iconst (q := 17) rfl rfl (by decide) ?_
  refine xx_puz (q := 20) rfl rfl rfl xS_479 (Nat.le_of_ble_eq_true rfl) (Nat.le_of_ble_eq_true rfl) (fun h => by cases h) (Or.inl rfl) rfl ?_
  refine xx_aload_n (q := 21) rfl rfl rfl ?_
  refine xx_iconst (q := 22) rfl rfl (by decide) ?_
  refine xx_puz (q := 25) rfl rfl rfl xS_479 (Nat.le_of_ble_eq_true rfl) (Nat.le_of_ble_eq_true rfl) (fun h => by cases h) (Or.inl rfl) rfl ?_
  refine xx_aload_n (q := 26) rfl rfl rfl ?_
  refine xx_iconst (q := 27) rfl rfl (by decide) ?_
  refine xx_puz (q := 30) rfl rfl rfl xS_479 (Nat.le_of_ble_eq_true rfl) (Nat.le_of_ble_eq_true rfl) (fun h => by cases h) (Or.inl rfl) rfl ?_
  refine xx_aload_n (q := 31) rfl rfl rfl ?_
  refine xx_iload_n (q := 32) rfl rfl rfl ?_
  refine xx_puz (q := 35) rfl rfl rfl xS_479 (Nat.le_of_ble_eq_true rfl) (Nat.le_of_ble_eq_true rfl) (fun h => by cases h) (Or.inl rfl) rfl ?_
  refine xx_iconst (q := 36) rfl rfl (by decide) ?_
  refine xx_istore_n (q := 37) (loc2 := [_, _, _]) rfl rfl (Nat.le_of_ble_eq_true rfl) rfl ?_
  refine xx_aload_n (q := 38) rfl rfl rfl ?_
  refine xx_iload_n (q := 39) rfl rfl rfl ?_
  refine xx_iconst (q := 40) rfl rfl (by decide) ?_
  refine xx_iconst (q := 41) rfl rfl (by decide) ?_
  refine xx_callV (q := 44) (As := [_, _, _]) (rest := []) rfl rfl rfl (Or.inl rfl) rfl rfl (Nat.le_of_ble_eq_true rfl) xS_479 (XCm (r_isIn (m := (xS n, R, (xui (xui (xui (xui (xui (xui (xui D 479 0 0) 479 44 0) 479 45 (-1)) 479 25 0) 479 38 0) 479 39 0) 479 37 1))) 1 0 2) rfl) rfl ?_
  refine xx_ifb_eq (q := 89) (q2 := 47) rfl rfl rfl (fun h44 => (by exfalso; omega)) (fun _ => ?_)
  obtain ⟨E, hEe⟩ : ∃ E, E = (xui (xui (xui (xui (xui (xui (xui D 479 0 0) 479 44 0) 479 45 (-1)) 479 25 0) 479 38 0) 479 39 0) 479 37 1) := ⟨_, rfl⟩
  rw [← hEe]
  have hE : TxE 1 D E := by rw [hEe]; exact TxE_of
  have hT0 : TpR bs E := hT.fr (fun x k q => hE.2.2.2.2.2.2.2 x k (by omega))
  have hW0 : WdR E := fun j hj => (hE.2.2.2.2.2.2.2 498 j (by omega)).trans (hW j hj)
  refine xx_aload_n (q := 48) rfl rfl rfl ?_
  obtain ⟨D1, hx1, hO1, hs1⟩ := r_reads (n := n) hR bs hT0 hl4 hby hW0 (i := 0) hE.2.2.2.1 (by omega)
  have hRG := rg_0 hO1 hs1 hE.2.2.2.2.1 hE.2.2.2.2.2.1
  have hRL : RlS bs 1 D1 D1 (tp0 bs, []) 0 none D1 := ⟨hRG, hT0.fr (fun x k q => hs1 x k (by omega)), fun j hj => (hs1 498 j (by omega)).trans (hW0 j hj), (hs1 479 37 (by omega)).trans hE.2.2.2.2.2.2.1, fun _ _ _ _ _ _ => rfl, fun _ _ _ _ => rfl⟩
  refine xx_callV (q := 51) (As := []) (rest := []) rfl rfl rfl (Or.inl rfl) rfl rfl (Nat.le_of_ble_eq_true rfl) xS_479 (XCm hx1 rfl) rfl ?_
  refine xx_iload_n (q := 52) rfl rfl rfl ?_
  refine xx_iconst (q := 53) rfl rfl (by decide) ?_
  refine xx_icmp_ne (q := 63) (q2 := 56) rfl rfl rfl (fun _ => ?_) (fun h53 => (by exfalso; omega))
  refine xx_aload_n (q := 64) rfl rfl rfl ?_
  obtain ⟨z2, D2, hx2, hfr, hq⟩ := r_readLawH (n := n) hR hl4 hby hRL (by have := (lx_wf (bs := bs) bs.length 0 (by omega)).2; show (lx bs 0).length ≤ 401; omega)
  refine xx_callV (q := 67) (As := []) (rest := []) rfl rfl rfl (Or.inl rfl) rfl rfl (Nat.le_of_ble_eq_true rfl) xS_479 (XCm hx2 rfl) rfl ?_
  refine xx_istore_n (q := 68) (loc2 := [_, _, _]) rfl rfl (Nat.le_of_ble_eq_true rfl) rfl ?_
  refine xx_iload_n (q := 69) rfl rfl rfl ?_
  refine xx_iconst (q := 70) rfl rfl (by decide) ?_
  refine xx_icmp_ne (q := 89) (q2 := 73) rfl rfl rfl (fun h70 => ?_) (fun h70 => ?_)
  · refine xx_aload_n (q := 90) rfl rfl rfl ?_
    refine xx_iconst (q := 91) rfl rfl (by decide) ?_
    refine xx_puz (q := 94) rfl rfl rfl xS_479 (Nat.le_of_ble_eq_true rfl) (Nat.le_of_ble_eq_true rfl) (fun h => by cases h) (Or.inl rfl) rfl ?_
    refine xx_iload_n (q := 95) rfl rfl rfl ?_
    refine xx_iconst (q := 96) rfl rfl (by decide) ?_
    refine xx_icmp_ne (q := 101) (q2 := 99) rfl rfl rfl (fun _ => ?_) (fun h96 => (by exfalso; omega))
    refine xx_iload_n (q := 102) rfl rfl rfl ?_
    refine xx_iconst (q := 103) rfl rfl (by decide) ?_
    refine xx_icmp_ne (q := 114) (q2 := 106) rfl rfl rfl (fun _ => ?_) (fun h103 => (by exfalso; omega))
    refine xx_aload_n (q := 115) rfl rfl rfl ?_
    refine xx_iload_n (q := 116) rfl rfl rfl ?_
    obtain ⟨hlv, L, ez, ec, hL16, ecc, hok, hLn, h38, h400, hcd⟩ := hq.resolve_right (fun q => h70 q.2.1)
    subst ez
    have hfx : ∀ x k, (x = 479 → k ≠ 24) → (xui D2 479 24 0) x k = D2 x k := fun x k q => if_neg (fun r => q r.1 r.2)
    obtain ⟨D4, hx4, hLw, hF4⟩ := r_takesLawH (n := n) (D := (xui D2 479 24 0)) hR ((hfx 479 37 (by omega)).trans ((hfr 479 37 (by omega) (by omega) (by omega) (by omega)).trans hRL.2.2.2.1)) hL16 (fun i l hi => by rw [hfx _ _ (by omega), hfx _ _ (by omega), hfx _ _ (by omega), hfx _ _ (by omega)]; exact hLn i l hi) ((hfx _ _ (by omega)).trans h38) h400 (fun j hj => by rw [hfx _ _ (by omega), hfx _ _ (by omega)]; exact hcd j hj)
    refine xx_callV (q := 119) (As := [_]) (rest := []) rfl rfl rfl (Or.inl rfl) rfl rfl (Nat.le_of_ble_eq_true rfl) xS_479 (XCm hx4 rfl) rfl ?_
    refine xx_iload_n (q := 120) rfl rfl rfl ?_
    have hbk : ∀ k, D4 479 k = (xui D2 479 24 0) 479 k := fun k => hF4 479 k (by omega) (by omega) (by omega)
    have hD2 : ∀ k, k = 0 ∨ k = 44 ∨ k = 45 → D2 479 k = E 479 k := fun k q => (hfr 479 k (by omega) (by omega) (by omega) (by omega)).trans (hs1 479 k (by omega))
    refine xx_iret rfl trivial ⟨_, _, rfl, rfl, (hbk 0).trans ((hfx 479 0 (by omega)).trans ((hD2 0 (by omega)).trans hE.1)), (hbk 24).trans xui_s, fun x k q1 q2 q3 q4 q5 => ?_, Or.inl ⟨hlv, (hbk 44).trans ((hfx 479 44 (by omega)).trans ((hD2 44 (by omega)).trans hE.2.1)), (hbk 45).trans ((hfx 479 45 (by omega)).trans ((hD2 45 (by omega)).trans hE.2.2.1)), L, rfl, ec, ecc, hok, hLw⟩⟩
    rw [hF4 x k q2 (fun r => by have := q3 r; omega) (fun r => by have := q4 r; omega), hfx x k (fun r => by have := q1 r; omega), hfr x k (fun r => by have := q1 r; omega) (fun r => by have := q4 r; omega) (fun r => by have := q3 r; omega) q5, hs1 x k (fun r => by have := q1 r; omega), hE.2.2.2.2.2.2.2 x k (fun r => by have := q1 r; omega)]
  · refine xx_aload_n (q := 74) rfl rfl rfl ?_
    refine xx_aload_n (q := 75) rfl rfl rfl ?_
    refine xx_gez (q := 78) rfl rfl rfl xS_479 (Nat.le_of_ble_eq_true rfl) rfl rfl ?_
    refine xx_puz (q := 81) rfl rfl rfl xS_479 (Nat.le_of_ble_eq_true rfl) (Nat.le_of_ble_eq_true rfl) (fun h => by cases h) (Or.inl rfl) rfl ?_
    refine xx_aload_n (q := 82) rfl rfl rfl ?_
    refine xx_aload_n (q := 83) rfl rfl rfl ?_
    refine xx_gez (q := 86) rfl rfl rfl xS_479 (Nat.le_of_ble_eq_true rfl) rfl rfl ?_
    refine xx_puz (q := 89) rfl rfl rfl xS_479 (Nat.le_of_ble_eq_true rfl) (Nat.le_of_ble_eq_true rfl) (fun h => by cases h) (Or.inl rfl) rfl ?_
    refine xx_aload_n (q := 90) rfl rfl rfl ?_
    refine xx_iconst (q := 91) rfl rfl (by decide) ?_
    refine xx_puz (q := 94) rfl rfl rfl xS_479 (Nat.le_of_ble_eq_true rfl) (Nat.le_of_ble_eq_true rfl) (fun h => by cases h) (Or.inl rfl) rfl ?_
    refine xx_iload_n (q := 95) rfl rfl rfl ?_
    refine xx_iconst (q := 96) rfl rfl (by decide) ?_
    refine xx_icmp_ne (q := 101) (q2 := 99) rfl rfl rfl (fun h96 => (by exfalso; omega)) (fun _ => ?_)
    refine xx_iconst (q := 100) rfl rfl (by decide) ?_
    obtain ⟨hdd, _, h42, h43⟩ := hq.resolve_left (fun q => by obtain ⟨L, e, _⟩ := q.2; omega)
    have hfx : ∀ x k, (x = 479 → k ≠ 24 ∧ k ≠ 44 ∧ k ≠ 45) → (xui (xui (xui D2 479 44 (D2 479 42)) 479 45 ((xui D2 479 44 (D2 479 42)) 479 43)) 479 24 0) x k = D2 x k := fun x k q => (if_neg (fun r => (q r.1).1 r.2)).trans ((if_neg (fun r => (q r.1).2.2 r.2)).trans (if_neg (fun r => (q r.1).2.1 r.2)))
    have hall : ∀ x k, (x = 479 → k ≠ 0 ∧ k ≠ 24 ∧ k ≠ 25 ∧ k ≠ 26 ∧ k ≠ 27 ∧ k ≠ 28 ∧ k ≠ 37 ∧ k ≠ 38 ∧ k ≠ 39 ∧ k ≠ 41 ∧ k ≠ 42 ∧ k ≠ 43 ∧ k ≠ 44 ∧ k ≠ 45) → ((500 ≤ x ∧ x ≤ 503) → k < 32) → ((x = 504 ∨ x = 505) → k < 800) → x ≠ 506 → (xui (xui (xui D2 479 44 (D2 479 42)) 479 45 ((xui D2 479 44 (D2 479 42)) 479 43)) 479 24 0) x k = D x k := fun x k q1 q3 q4 q5 => by
      rw [hfx x k (fun r => by have := q1 r; omega), hfr x k (fun r => by have := q1 r; omega) q4 q3 q5, hs1 x k (fun r => by have := q1 r; omega), hE.2.2.2.2.2.2.2 x k (fun r => by have := q1 r; omega)]
    exact xx_iret rfl trivial ⟨_, _, rfl, rfl, (hfx 479 0 (by omega)).trans ((hfr 479 0 (by omega) (by omega) (by omega) (by omega)).trans ((hs1 479 0 (by omega)).trans hE.1)), xui_s, fun x k q1 q2 q3 q4 q5 => hall x k q1 (fun r => by have := q3 r; omega) (fun r => by have := q4 r; omega) q5, Or.inr ⟨hdd, rfl, h42, h43, fun x k q1 q2 _ q3 q4 => hall x k (by omega) q3 q4 (by omega)⟩⟩
