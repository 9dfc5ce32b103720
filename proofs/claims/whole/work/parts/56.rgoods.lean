/-! The reference: the fewest goods. -/
theorem r_canPlease {n N : Nat} {R : Nat → Nat → Option Nat} {K D0 : KK} {b : Int} {B : Nat → Int} {U : UU} (hR : RF R) (hI : KI K) {G Hh : LwF} (hG : RLG G n R D0) (hH : RLH Hh n R D0) (boat good up : Int) (hb0 : 0 ≤ boat) (hbc : boat < K 13 0) (hg0 : 0 ≤ good) (hg1 : good ≤ 3) (hN : N ≤ 8) (hpl : ¬ up = 0 → K 14 boat.toNat ≤ K 0 0) (hm : (N : Int) + 1 ≤ mesF K boat up) {D : KK} (hT : RT K b B U K D0 D) (all : Int) (ha0 : 0 ≤ all) (hall : all ≤ K 17 (boat * 4 + good).toNat) : ∃ D', XC 10 268 [.inr (some 479), .inl boat, .inl good, .inl up, .inl ((N : Int) + 1), .inl all] (xS n, R, D) (some (.inl (bi (((cps (N + 1) all).find? (cmbB G Hh boat good up K)).isSome = true)))) (xS n, R, D') ∧ RT K b B U K D0 D' ∧ (∀ l, (cps (N + 1) all).find? (cmbB G Hh boat good up K) = some l → sfx (D' 510) (N + 1) 0 = l) ∧ ∀ x j, 511 ≤ x → D' x j = D x j := by
  refine XE_of (Nat.le_of_ble_eq_true rfl) (Nat.le_of_ble_eq_true rfl) (loc := [_, _, _, _, _, _, _, _]) rfl ?_
  refine xx_aload_n (q := 1) rfl rfl rfl ?_
  refine xx_iload (q := 3) rfl rfl rfl ?_
  refine xx_iload (q := 5) rfl rfl rfl ?_
  obtain ⟨D1, hx1, hf1, hz1⟩ := r_firstShare (n := n) (D := D) hR ((N : Int) + 1) all (by omega) (by omega)
  refine xx_callV (q := 8) (As := [_, _]) (rest := []) rfl rfl rfl (Or.inl rfl) rfl rfl (Nat.le_of_ble_eq_true rfl) xS_479 (XCm hx1 rfl) rfl ?_
  refine xx_iconst (q := 9) rfl rfl (by decide) ?_
  refine xx_istore (q := 11) (loc2 := [_, _, _, _, _, _, _, _]) rfl rfl (Nat.le_of_ble_eq_true rfl) rfl ?_
  have hT1 := hT.scr (E := D1) (fun x j q5 q6 => hz1 x j (by omega))
  obtain ⟨⟨t, e1⟩, e2, e3⟩ := cps_G N all ha0
  rw [e1] at e2 e3 ⊢
  exact r_cp_L hR hI hG hH boat good up all hb0 hbc hg0 hg1 hN hpl hm hall t.length (fsL N all) t _ _ rfl hT1 e2 e3 ((sfx_c _ _ (fun j _ _ => hf1 j)).trans (sfx_fs N 0 (by omega))) (fun x j q => hz1 x j (by omega))
def rfwL (G Hh : LwF) (boat good up : Int) (K : KK) (N : Nat) : Nat → Int → Int × Option (List Int)
  | 0, _ => (-1, none)
  | k + 1, a => match (cps (N + 1) a).find? (cmbB G Hh boat good up K) with
    | some l => (a, some l)
    | none => rfwL G Hh boat good up K N k (a + 1)
theorem few_rfw {G Hh : LwF} {boat good up pool : Int} {K : KK} {N : Nat} (hg : 0 ≤ good ∧ good ≤ 3) (hN : N ≤ 8) (hI : KI K) (hb : 0 ≤ boat ∧ boat < K 13 0) (hD : DS K boat up pool (N + 1)) : ∀ (k : Nat) (a : Int), 0 ≤ a → a + k ≤ K 17 (boat * 4 + good).toNat + 1 → fewL G Hh boat good pool K k a = ((rfwL G Hh boat good up K N k a).1, (rfwL G Hh boat good up K N k a).2.map (zpL G Hh boat good up K))
  | 0, _, _, _ => rfl
  | k + 1, a, h0, h1 => by
    have e := pls_find (G := G) (Hh := Hh) hg (N + 1) 9 K a (by omega) hI hb hD h0 (by omega)
    unfold fewL rfwL
    rw [e]
    cases (cps (N + 1) a).find? (cmbB G Hh boat good up K) with
    | some l => rfl
    | none => exact few_rfw hg hN hI hb hD k (a + 1) (by omega) (by omega)
set_option maxHeartbeats 1000000 in
theorem r_fg_L {n N : Nat} {R : Nat → Nat → Option Nat} {K D0 : KK} {b : Int} {B : Nat → Int} {U : UU} (hR : RF R) (hI : KI K) {G Hh : LwF} (hG : RLG G n R D0) (hH : RLH Hh n R D0) (boat good up : Int) (hb0 : 0 ≤ boat) (hbc : boat < K 13 0) (hg0 : 0 ≤ good) (hg1 : good ≤ 3) (hN : N ≤ 8) (hpl : ¬ up = 0 → K 14 boat.toNat ≤ K 0 0) (hm : (N : Int) + 1 ≤ mesF K boat up) {S : KK} (M : Int) (hM : M ≤ 6) (hM2 : M ≤ K 17 (boat * 4 + good).toNat) : ∀ (k : Nat) (D : KK) (a : Int), RT K b B U K D0 D → 0 ≤ a → a + k = M + 1 → (∀ x j, 511 ≤ x → D x j = S x j) → XX (XC 10) 269 (XP (some (.inl (rfwL G Hh boat good up K N k a).1)) (xS n) R (fun D' => RT K b B U K D0 D' ∧ (∀ l, (rfwL G Hh boat good up K N k a).2 = some l → sfx (D' 510) (N + 1) 0 = l) ∧ ∀ x j, 511 ≤ x → D' x j = S x j)) 27 [some (.inr (some 479)), some (.inl boat), some (.inl good), some (.inl up), some (.inl ((N : Int) + 1)), some (.inl M), some (.inl a)] [] (xS n, R, D) := by
  intro k
  induction k using Nat.strongRecOn with
  | ind k ih =>
  intro D a hT h1 hk hF
  refine xx_iload (q := 29) rfl rfl rfl ?_
  refine xx_iload (q := 31) rfl rfl rfl ?_
  refine xx_icmp_gt (q := 57) (q2 := 34) rfl rfl rfl (fun h31 => ?_) (fun h31 => ?_)
  · refine xx_iconst (q := 58) rfl rfl (by decide) ?_
    obtain rfl : k = 0 := by omega
    exact xx_iret rfl trivial ⟨rfl, _, rfl, hT, fun l hl => (by cases hl), hF⟩
  · obtain ⟨k, rfl⟩ : ∃ k2, k = k2 + 1 := ⟨k - 1, by omega⟩
    refine xx_aload_n (q := 35) rfl rfl rfl ?_
    refine xx_iload_n (q := 36) rfl rfl rfl ?_
    refine xx_iload_n (q := 37) rfl rfl rfl ?_
    refine xx_iload_n (q := 38) rfl rfl rfl ?_
    refine xx_iload (q := 40) rfl rfl rfl ?_
    refine xx_iload (q := 42) rfl rfl rfl ?_
    obtain ⟨D1, hx1, hT1, hl1, hs1⟩ := r_canPlease (n := n) hR hI hG hH boat good up hb0 hbc hg0 hg1 hN hpl hm hT a (by omega) (by omega)
    refine xx_callV (q := 45) (As := [_, _, _, _, _]) (rest := []) rfl rfl rfl (Or.inl rfl) rfl rfl (Nat.le_of_ble_eq_true rfl) xS_479 (XCm hx1 rfl) rfl ?_
    refine xx_ifb_eq (q := 51) (q2 := 48) rfl rfl rfl (fun h45 => ?_) (fun h45 => ?_)
    · refine xx_incz (q := 54) (loc2 := [_, _, _, _, _, _, _]) rfl rfl rfl (by omega) (by omega) rfl rfl ?_
      refine xx_goto (q := 27) rfl rfl ?_
      have hno : (cps (N + 1) a).find? (cmbB G Hh boat good up K) = none := Option.not_isSome_iff_eq_none.mp h45
      rw [show rfwL G Hh boat good up K N (k + 1) a = rfwL G Hh boat good up K N k (a + 1) from by rw [rfwL.eq_2, hno]]
      exact ih k (by omega) _ _ hT1 (by omega) (by omega) (fun x j q => (hs1 x j q).trans (hF x j q))
    · refine xx_iload (q := 50) rfl rfl rfl ?_
      obtain ⟨ll, hll⟩ := Option.isSome_iff_exists.mp h45
      rw [show rfwL G Hh boat good up K N (k + 1) a = (a, some ll) from by rw [rfwL.eq_2, hll]]
      exact xx_iret rfl trivial ⟨rfl, _, rfl, hT1, fun l hl => (by obtain rfl := Option.some.inj hl; exact hl1 _ hll), fun x j q => (hs1 x j q).trans (hF x j q)⟩
set_option maxHeartbeats 1000000 in
theorem r_fewestGoods {n N : Nat} {R : Nat → Nat → Option Nat} {K D0 : KK} {b : Int} {B : Nat → Int} {U : UU} (hR : RF R) (hI : KI K) {G Hh : LwF} (hG : RLG G n R D0) (hH : RLH Hh n R D0) (boat good up : Int) (hb0 : 0 ≤ boat) (hbc : boat < K 13 0) (hg0 : 0 ≤ good) (hg1 : good ≤ 3) (hN : N ≤ 8) (hpl : ¬ up = 0 → K 14 boat.toNat ≤ K 0 0) (hm : (N : Int) + 1 ≤ mesF K boat up) {D : KK} (hT : RT K b B U K D0 D) : ∃ D', XC 11 269 [.inr (some 479), .inl boat, .inl good, .inl up, .inl ((N : Int) + 1)] (xS n, R, D) (some (.inl ((rfwL G Hh boat good up K N (mnF 6 (K 17 (boat * 4 + good).toNat) + 1).toNat 0).1))) (xS n, R, D') ∧ RT K b B U K D0 D' ∧ (∀ l, (rfwL G Hh boat good up K N (mnF 6 (K 17 (boat * 4 + good).toNat) + 1).toNat 0).2 = some l → sfx (D' 510) (N + 1) 0 = l) ∧ ∀ x j, 511 ≤ x → D' x j = D x j := by
  have hbB := ki_B hI
  have h17 := ki_17 hI (boat * 4 + good).toNat
  refine XE_of (Nat.le_of_ble_eq_true rfl) (Nat.le_of_ble_eq_true rfl) (loc := [_, _, _, _, _, _, _]) rfl ?_
  refine xx_aload_n (q := 1) rfl rfl rfl ?_
  refine xx_iload_n (q := 2) rfl rfl rfl ?_
  refine xx_iload_n (q := 3) rfl rfl rfl ?_
  refine xx_callV (q := 6) (As := [_, _]) (rest := []) rfl rfl rfl (Or.inl rfl) rfl rfl (Nat.le_of_ble_eq_true rfl) xS_479 (XCm (r_cargoOf (n := n) hR hT.1 hI boat good (by omega) (by omega) (by omega) (by omega)) rfl) rfl ?_
  have hb1 := ki_17 hI (boat * 4 + good).toNat
  refine xx_bipush (q := 8) rfl rfl (by decide) ?_
  refine xx_icmp_ge (q := 20) (q2 := 11) rfl rfl rfl (fun h8 => ?_) (fun h8 => ?_)
  · refine xx_bipush (q := 22) rfl rfl (by decide) ?_
    refine xx_istore (q := 24) (loc2 := [_, _, _, _, _, _, _]) rfl rfl (Nat.le_of_ble_eq_true rfl) rfl ?_
    refine xx_iconst (q := 25) rfl rfl (by decide) ?_
    refine xx_istore (q := 27) (loc2 := [_, _, _, _, _, _, _]) rfl rfl (Nat.le_of_ble_eq_true rfl) rfl ?_
    have hmn := mnF_sp 6 (K 17 (boat * 4 + good).toNat)
    have em : mnF 6 (K 17 (boat * 4 + good).toNat) = 6 := by omega
    rw [em]
    exact r_fg_L hR hI hG hH boat good up hb0 hbc hg0 hg1 hN hpl hm 6 (by omega) (by omega) ((6 : Int) + 1).toNat D 0 hT (by omega) (by omega) (fun _ _ _ => rfl)
  · refine xx_aload_n (q := 12) rfl rfl rfl ?_
    refine xx_iload_n (q := 13) rfl rfl rfl ?_
    refine xx_iload_n (q := 14) rfl rfl rfl ?_
    refine xx_callV (q := 17) (As := [_, _]) (rest := []) rfl rfl rfl (Or.inl rfl) rfl rfl (Nat.le_of_ble_eq_true rfl) xS_479 (XCm (r_cargoOf (n := n) hR hT.1 hI boat good (by omega) (by omega) (by omega) (by omega)) rfl) rfl ?_
    have hb2 := ki_17 hI (boat * 4 + good).toNat
    refine xx_goto (q := 22) rfl rfl ?_
    refine xx_istore (q := 24) (loc2 := [_, _, _, _, _, _, _]) rfl rfl (Nat.le_of_ble_eq_true rfl) rfl ?_
    refine xx_iconst (q := 25) rfl rfl (by decide) ?_
    refine xx_istore (q := 27) (loc2 := [_, _, _, _, _, _, _]) rfl rfl (Nat.le_of_ble_eq_true rfl) rfl ?_
    have hmn := mnF_sp 6 (K 17 (boat * 4 + good).toNat)
    have em : mnF 6 (K 17 (boat * 4 + good).toNat) = K 17 (boat * 4 + good).toNat := by omega
    rw [em]
    exact r_fg_L hR hI hG hH boat good up hb0 hbc hg0 hg1 hN hpl hm (K 17 (boat * 4 + good).toNat) (by omega) (by omega) (((K 17 (boat * 4 + good).toNat) : Int) + 1).toNat D 0 hT (by omega) (by omega) (fun _ _ _ => rfl)
