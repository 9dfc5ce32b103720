/-! Which pulls could have been: the reference. -/
theorem rw_1 {K : KK} {b : Int} {f : Nat → Int} (h : RW K b f) {p : Int} (h0 : 0 ≤ p) (h1 : p < 10) : f (4 + p).toNat = K 1 p.toNat - 100 := by
  rw [show (4 + p).toNat = 4 + p.toNat by omega]
  exact h.2.2.2.2.1 p.toNat (by omega)
set_option maxHeartbeats 1000000 in
theorem r_asw_L {n : Nat} {R : Nat → Nat → Option Nat} {K L D0 D : KK} {b : Int} {B : Nat → Int} {U : UU} (hR : RF R) (hT : RT K b B U L D0 D) (hI : KI K) (hJ : KI L) : ∀ (k : Nat) (p : Int), 0 ≤ p → p + k = K 0 0 + 1 → XX (XC 0) 276 (fun r2 m2 => r2 = some (.inl (bi (asdL k L K p = true))) ∧ m2 = (xS n, R, D)) 2 [some (.inr (some 479)), some (.inl p)] [] (xS n, R, D) := by
  intro k
  induction k using Nat.strongRecOn with
  | ind k ih =>
  intro p h1 hk
  have hbL := ki_L hI
  refine xx_iload_n (q := 3) rfl rfl rfl ?_
  refine xx_aload_n (q := 4) rfl rfl rfl ?_
  refine xx_gez (q := 7) rfl rfl rfl xS_479 (Nat.le_of_ble_eq_true rfl) rfl hT.2.1.1 ?_
  refine xx_icmp_gt (q := 37) (q2 := 10) rfl rfl rfl (fun h7 => ?_) (fun h7 => ?_)
  · refine xx_iconst (q := 38) rfl rfl (by decide) ?_
    obtain rfl : k = 0 := by omega
    exact xx_iret rfl (Or.inr rfl) ⟨congrArg (fun z => some (Sum.inl z)) (bi_t (show asdL 0 L K p = true from rfl)).symm, rfl⟩
  · obtain ⟨k, rfl⟩ : ∃ k2, k = k2 + 1 := ⟨k - 1, by omega⟩
    refine xx_aload_n (q := 11) rfl rfl rfl ?_
    refine xx_getR (q := 14) rfl rfl rfl xS_479 (Nat.le_of_ble_eq_true rfl) rfl (hR.1 479 1 rfl) ?_
    refine xx_iconst (q := 15) rfl rfl (by decide) ?_
    refine xx_iload_n (q := 16) rfl rfl rfl ?_
    refine xx_iaddR (q := 17) rfl rfl (by omega) (by omega) ?_
    refine xx_iaz (v := L 1 (p).toNat - 100) (q := 18) rfl rfl xS_480 (by omega) (by omega) (rw_1 hT.1.1 (p := p) (by omega) (by omega)) ?_
    refine xx_aload_n (q := 19) rfl rfl rfl ?_
    refine xx_getR (q := 22) rfl rfl rfl xS_479 (Nat.le_of_ble_eq_true rfl) rfl (hR.1 479 4 rfl) ?_
    refine xx_iconst (q := 23) rfl rfl (by decide) ?_
    refine xx_iload_n (q := 24) rfl rfl rfl ?_
    refine xx_iaddR (q := 25) rfl rfl (by omega) (by omega) ?_
    refine xx_iaz (v := K 1 (p).toNat - 100) (q := 26) rfl rfl xS_482 (by omega) (by omega) (rw_1 hT.2.2.1 (p := p) (by omega) (by omega)) ?_
    refine xx_icmp_eq (q := 31) (q2 := 29) rfl rfl rfl (fun h26 => ?_) (fun h26 => ?_)
    · refine xx_incz (q := 34) (loc2 := [_, _]) rfl rfl rfl (by omega) (by omega) rfl rfl ?_
      refine xx_goto (q := 2) rfl rfl ?_
      rw [show asdL (k + 1) L K p = asdL k L K (p + 1) from if_pos (by omega)]
      exact ih k (by omega) _ (by omega) (by omega)
    · refine xx_iconst (q := 30) rfl rfl (by decide) ?_
      exact xx_iret rfl (Or.inl rfl) ⟨congrArg (fun z => some (Sum.inl z)) (bi_f (show ¬ asdL (k + 1) L K p = true from fun q => by rw [show asdL (k + 1) L K p = false from if_neg (by omega)] at q; cases q)).symm, rfl⟩
set_option maxHeartbeats 1000000 in
theorem r_areAsWaiting {n : Nat} {R : Nat → Nat → Option Nat} {K L D0 D : KK} {b : Int} {B : Nat → Int} {U : UU} (hR : RF R) (hT : RT K b B U L D0 D) (hI : KI K) (hJ : KI L) : XC 1 276 [.inr (some 479)] (xS n, R, D) (some (.inl (bi (asdB L K = true)))) (xS n, R, D) := by
  have hbL := ki_L hI
  refine XC_of (Nat.le_of_ble_eq_true rfl) (Nat.le_of_ble_eq_true rfl) (loc := [_, _]) rfl ?_
  refine xx_iconst (q := 1) rfl rfl (by decide) ?_
  refine xx_istore_n (q := 2) (loc2 := [_, _]) rfl rfl (Nat.le_of_ble_eq_true rfl) rfl ?_
  exact r_asw_L hR hT hI hJ (K 0 0 + 1).toNat 0 (by omega) (by omega)
