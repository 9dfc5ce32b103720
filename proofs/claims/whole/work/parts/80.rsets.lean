/-! Sets: the reference. -/
abbrev alR (K : KK) (s : Int) : Prop := 0 < s ∧ s < xshl 1 (K 13 0)
set_option maxHeartbeats 1000000 in
theorem r_isSet {n : Nat} {R : Nat → Nat → Option Nat} {t : Int} {K D0 D : KK} {b : Int} {B : Nat → Int} {U : UU} (hR : RF R) (hV : RV t K b B U D0 D) (hI : KI K) (s : Int) : XC 1 285 [.inr (some 479), .inl s] (xS n, R, D) (some (.inl (bi (alR K s)))) (xS n, R, D) := by
  have hbB := ki_B hI
  refine XC_of (Nat.le_of_ble_eq_true rfl) (Nat.le_of_ble_eq_true rfl) (loc := [_, _]) rfl ?_
  refine xx_iload_n (q := 1) rfl rfl rfl ?_
  refine xx_if_le (q := 18) (q2 := 4) rfl rfl rfl (fun h1 => ?_) (fun h1 => ?_)
  · refine xx_iconst (q := 19) rfl rfl (by decide) ?_
    exact xx_iret rfl (Or.inl rfl) ⟨congrArg (fun z => some (Sum.inl z)) (by first | exact (bi_t (show alR K s by omega)).symm | exact (bi_f (show ¬ alR K s by omega)).symm), rfl⟩
  · refine xx_iload_n (q := 5) rfl rfl rfl ?_
    refine xx_iconst (q := 6) rfl rfl (by decide) ?_
    refine xx_aload_n (q := 7) rfl rfl rfl ?_
    refine xx_gez (q := 10) rfl rfl rfl xS_479 (Nat.le_of_ble_eq_true rfl) rfl (rv_B hV) ?_
    have hb1 : 0 ≤ K 13 0 ∧ K 13 0 ≤ 6 := by have h := ki_B hI; exact h
    refine xx_ishl (q := 11) rfl rfl ?_
    refine xx_icmp_ge (q := 18) (q2 := 14) rfl rfl rfl (fun h11 => ?_) (fun h11 => ?_)
    · refine xx_iconst (q := 19) rfl rfl (by decide) ?_
      exact xx_iret rfl (Or.inl rfl) ⟨congrArg (fun z => some (Sum.inl z)) (by first | exact (bi_t (show alR K s by omega)).symm | exact (bi_f (show ¬ alR K s by omega)).symm), rfl⟩
    · refine xx_iconst (q := 15) rfl rfl (by decide) ?_
      refine xx_goto (q := 19) rfl rfl ?_
      exact xx_iret rfl (Or.inr rfl) ⟨congrArg (fun z => some (Sum.inl z)) (by first | exact (bi_t (show alR K s by omega)).symm | exact (bi_f (show ¬ alR K s by omega)).symm), rfl⟩
