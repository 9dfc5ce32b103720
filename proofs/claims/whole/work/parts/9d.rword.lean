/-! Words and signs: the reference. -/
def WdR (D : KK) : Prop := ∀ j, j < 159 → D 498 j = RWD.getD j 0
def raF (bs : List Int) (k : Int) : Int := if k < (bs.length : Int) then bs.getD k.toNat 0 else -1
set_option maxHeartbeats 1000000 in
theorem r_raw {n : Nat} {R : Nat → Nat → Option Nat} {D : KK} (hR : RF R) (bs : List Int) (hT : TpR bs D) (hl4 : bs.length ≤ 400) (hby : ∀ j, 0 ≤ bs.getD j 0 ∧ bs.getD j 0 ≤ 255) (k : Int) (h0 : 0 ≤ k) : XC 1 194 [.inr (some 479), .inl k] (xS n, R, D) (some (.inl (raF bs k))) (xS n, R, D) := by
  refine XC_of (Nat.le_of_ble_eq_true rfl) (Nat.le_of_ble_eq_true rfl) (loc := [_, _]) rfl ?_
  refine xx_iload_n (q := 1) rfl rfl rfl ?_
  refine xx_aload_n (q := 2) rfl rfl rfl ?_
  refine xx_gez (q := 5) rfl rfl rfl xS_479 (Nat.le_of_ble_eq_true rfl) rfl hT.1 ?_
  refine xx_icmp_ge (q := 17) (q2 := 8) rfl rfl rfl (fun h5 => ?_) (fun h5 => ?_)
  · refine xx_iconst (q := 18) rfl rfl (by decide) ?_
    exact xx_iret rfl trivial ⟨congrArg (fun z => some (Sum.inl z)) (by unfold raF; rw [if_neg (by omega)]), rfl⟩
  · refine xx_aload_n (q := 9) rfl rfl rfl ?_
    refine xx_getR (q := 12) rfl rfl rfl xS_479 (Nat.le_of_ble_eq_true rfl) rfl (hR.1 479 23 rfl) ?_
    refine xx_iload_n (q := 13) rfl rfl rfl ?_
    refine xx_iaz (v := bs.getD (k).toNat 0) (q := 14) rfl rfl xS_497 (by omega) (by omega) (hT.2 _ (by omega)) ?_
    have hyb1 := hby (k).toNat
    refine xx_goto (q := 18) rfl rfl ?_
    exact xx_iret rfl trivial ⟨congrArg (fun z => some (Sum.inl z)) (by unfold raF; rw [if_pos (by omega)]), rfl⟩
set_option maxHeartbeats 1000000 in
theorem r_isLetter {n : Nat} {R : Nat → Nat → Option Nat} {D : KK} (c : Int) : XC 2 195 [.inr (some 479), .inl c] (xS n, R, D) (some (.inl (bi (ltP c)))) (xS n, R, D) := by
  refine XC_of (Nat.le_of_ble_eq_true rfl) (Nat.le_of_ble_eq_true rfl) (loc := [_, _]) rfl ?_
  refine xx_aload_n (q := 1) rfl rfl rfl ?_
  refine xx_iload_n (q := 2) rfl rfl rfl ?_
  refine xx_bipush (q := 4) rfl rfl (by decide) ?_
  refine xx_bipush (q := 6) rfl rfl (by decide) ?_
  refine xx_callV (q := 9) (As := [_, _, _]) (rest := []) rfl rfl rfl (Or.inl rfl) rfl rfl (Nat.le_of_ble_eq_true rfl) xS_479 (XCm (r_isIn c 97 122) rfl) rfl ?_
  refine xx_ifb_ne (q := 24) (q2 := 12) rfl rfl rfl (fun h9 => ?_) (fun h9 => ?_)
  · refine xx_iconst (q := 25) rfl rfl (by decide) ?_
    refine xx_goto (q := 29) rfl rfl ?_
    exact xx_iret rfl (Or.inr rfl) ⟨congrArg (fun z => some (Sum.inl z)) (by grind [bi]), rfl⟩
  · refine xx_aload_n (q := 13) rfl rfl rfl ?_
    refine xx_iload_n (q := 14) rfl rfl rfl ?_
    refine xx_bipush (q := 16) rfl rfl (by decide) ?_
    refine xx_bipush (q := 18) rfl rfl (by decide) ?_
    refine xx_callV (q := 21) (As := [_, _, _]) (rest := []) rfl rfl rfl (Or.inl rfl) rfl rfl (Nat.le_of_ble_eq_true rfl) xS_479 (XCm (r_isIn c 65 90) rfl) rfl ?_
    refine xx_ifb_eq (q := 28) (q2 := 24) rfl rfl rfl (fun h21 => ?_) (fun h21 => ?_)
    · refine xx_iconst (q := 29) rfl rfl (by decide) ?_
      exact xx_iret rfl (Or.inl rfl) ⟨congrArg (fun z => some (Sum.inl z)) (by grind [bi]), rfl⟩
    · refine xx_iconst (q := 25) rfl rfl (by decide) ?_
      refine xx_goto (q := 29) rfl rfl ?_
      exact xx_iret rfl (Or.inr rfl) ⟨congrArg (fun z => some (Sum.inl z)) (by grind [bi]), rfl⟩
set_option maxHeartbeats 1000000 in
theorem r_isDigit {n : Nat} {R : Nat → Nat → Option Nat} {D : KK} (c : Int) : XC 2 196 [.inr (some 479), .inl c] (xS n, R, D) (some (.inl (bi (dgP c)))) (xS n, R, D) := by
  refine XC_of (Nat.le_of_ble_eq_true rfl) (Nat.le_of_ble_eq_true rfl) (loc := [_, _]) rfl ?_
  refine xx_aload_n (q := 1) rfl rfl rfl ?_
  refine xx_iload_n (q := 2) rfl rfl rfl ?_
  refine xx_bipush (q := 4) rfl rfl (by decide) ?_
  refine xx_bipush (q := 6) rfl rfl (by decide) ?_
  refine xx_callV (q := 9) (As := [_, _, _]) (rest := []) rfl rfl rfl (Or.inl rfl) rfl rfl (Nat.le_of_ble_eq_true rfl) xS_479 (XCm (r_isIn c 48 57) rfl) rfl ?_
  exact xx_iret rfl (bi_01 _) ⟨congrArg (fun z => some (Sum.inl z)) (by rfl), rfl⟩
set_option maxHeartbeats 1000000 in
theorem r_isMark {m : XM} (c : Int) : XC 1 197 [.inr (some 479), .inl c] m (some (.inl (bi (sgP c)))) m := by
  refine XC_of (Nat.le_of_ble_eq_true rfl) (Nat.le_of_ble_eq_true rfl) (loc := [_, _]) rfl ?_
  refine xx_iload_n (q := 1) rfl rfl rfl ?_
  refine xx_bipush (q := 3) rfl rfl (by decide) ?_
  refine xx_icmp_eq (q := 60) (q2 := 6) rfl rfl rfl (fun h3 => ?_) (fun h3 => ?_)
  · refine xx_iconst (q := 61) rfl rfl (by decide) ?_
    refine xx_goto (q := 65) rfl rfl ?_
    exact xx_iret rfl (Or.inr rfl) ⟨congrArg (fun z => some (Sum.inl z)) (by exact (bi_t (by omega)).symm), rfl⟩
  · refine xx_iload_n (q := 7) rfl rfl rfl ?_
    refine xx_bipush (q := 9) rfl rfl (by decide) ?_
    refine xx_icmp_eq (q := 60) (q2 := 12) rfl rfl rfl (fun h9 => ?_) (fun h9 => ?_)
    · refine xx_iconst (q := 61) rfl rfl (by decide) ?_
      refine xx_goto (q := 65) rfl rfl ?_
      exact xx_iret rfl (Or.inr rfl) ⟨congrArg (fun z => some (Sum.inl z)) (by exact (bi_t (by omega)).symm), rfl⟩
    · refine xx_iload_n (q := 13) rfl rfl rfl ?_
      refine xx_bipush (q := 15) rfl rfl (by decide) ?_
      refine xx_icmp_eq (q := 60) (q2 := 18) rfl rfl rfl (fun h15 => ?_) (fun h15 => ?_)
      · refine xx_iconst (q := 61) rfl rfl (by decide) ?_
        refine xx_goto (q := 65) rfl rfl ?_
        exact xx_iret rfl (Or.inr rfl) ⟨congrArg (fun z => some (Sum.inl z)) (by exact (bi_t (by omega)).symm), rfl⟩
      · refine xx_iload_n (q := 19) rfl rfl rfl ?_
        refine xx_bipush (q := 21) rfl rfl (by decide) ?_
        refine xx_icmp_eq (q := 60) (q2 := 24) rfl rfl rfl (fun h21 => ?_) (fun h21 => ?_)
        · refine xx_iconst (q := 61) rfl rfl (by decide) ?_
          refine xx_goto (q := 65) rfl rfl ?_
          exact xx_iret rfl (Or.inr rfl) ⟨congrArg (fun z => some (Sum.inl z)) (by exact (bi_t (by omega)).symm), rfl⟩
        · refine xx_iload_n (q := 25) rfl rfl rfl ?_
          refine xx_bipush (q := 27) rfl rfl (by decide) ?_
          refine xx_icmp_eq (q := 60) (q2 := 30) rfl rfl rfl (fun h27 => ?_) (fun h27 => ?_)
          · refine xx_iconst (q := 61) rfl rfl (by decide) ?_
            refine xx_goto (q := 65) rfl rfl ?_
            exact xx_iret rfl (Or.inr rfl) ⟨congrArg (fun z => some (Sum.inl z)) (by exact (bi_t (by omega)).symm), rfl⟩
          · refine xx_iload_n (q := 31) rfl rfl rfl ?_
            refine xx_bipush (q := 33) rfl rfl (by decide) ?_
            refine xx_icmp_eq (q := 60) (q2 := 36) rfl rfl rfl (fun h33 => ?_) (fun h33 => ?_)
            · refine xx_iconst (q := 61) rfl rfl (by decide) ?_
              refine xx_goto (q := 65) rfl rfl ?_
              exact xx_iret rfl (Or.inr rfl) ⟨congrArg (fun z => some (Sum.inl z)) (by exact (bi_t (by omega)).symm), rfl⟩
            · refine xx_iload_n (q := 37) rfl rfl rfl ?_
              refine xx_bipush (q := 39) rfl rfl (by decide) ?_
              refine xx_icmp_eq (q := 60) (q2 := 42) rfl rfl rfl (fun h39 => ?_) (fun h39 => ?_)
              · refine xx_iconst (q := 61) rfl rfl (by decide) ?_
                refine xx_goto (q := 65) rfl rfl ?_
                exact xx_iret rfl (Or.inr rfl) ⟨congrArg (fun z => some (Sum.inl z)) (by exact (bi_t (by omega)).symm), rfl⟩
              · refine xx_iload_n (q := 43) rfl rfl rfl ?_
                refine xx_bipush (q := 45) rfl rfl (by decide) ?_
                refine xx_icmp_eq (q := 60) (q2 := 48) rfl rfl rfl (fun h45 => ?_) (fun h45 => ?_)
                · refine xx_iconst (q := 61) rfl rfl (by decide) ?_
                  refine xx_goto (q := 65) rfl rfl ?_
                  exact xx_iret rfl (Or.inr rfl) ⟨congrArg (fun z => some (Sum.inl z)) (by exact (bi_t (by omega)).symm), rfl⟩
                · refine xx_iload_n (q := 49) rfl rfl rfl ?_
                  refine xx_bipush (q := 51) rfl rfl (by decide) ?_
                  refine xx_icmp_eq (q := 60) (q2 := 54) rfl rfl rfl (fun h51 => ?_) (fun h51 => ?_)
                  · refine xx_iconst (q := 61) rfl rfl (by decide) ?_
                    refine xx_goto (q := 65) rfl rfl ?_
                    exact xx_iret rfl (Or.inr rfl) ⟨congrArg (fun z => some (Sum.inl z)) (by exact (bi_t (by omega)).symm), rfl⟩
                  · refine xx_iload_n (q := 55) rfl rfl rfl ?_
                    refine xx_bipush (q := 57) rfl rfl (by decide) ?_
                    refine xx_icmp_ne (q := 64) (q2 := 60) rfl rfl rfl (fun h57 => ?_) (fun h57 => ?_)
                    · refine xx_iconst (q := 65) rfl rfl (by decide) ?_
                      exact xx_iret rfl (Or.inl rfl) ⟨congrArg (fun z => some (Sum.inl z)) (by exact (bi_f (by omega)).symm), rfl⟩
                    · refine xx_iconst (q := 61) rfl rfl (by decide) ?_
                      refine xx_goto (q := 65) rfl rfl ?_
                      exact xx_iret rfl (Or.inr rfl) ⟨congrArg (fun z => some (Sum.inl z)) (by exact (bi_t (by omega)).symm), rfl⟩
theorem v_hd {v rest : List Int} {q : Nat} (h : RWD.drop q = v ++ 32 :: rest) : RWD.getD q 0 = (v ++ [32]).headD 0 ∧ q < 159 ∧ (v ≠ [] → RWD.drop (q + 1) = v.tail ++ 32 :: rest) := by
  cases v with
  | nil =>
    obtain ⟨e1, e2, e3⟩ := dr_c h
    exact ⟨e1, e2, fun x => absurd rfl x⟩
  | cons c v =>
    obtain ⟨e1, e2, e3⟩ := dr_c h
    exact ⟨e1, e2, fun _ => e3⟩
set_option maxHeartbeats 1000000 in
theorem r_wa_I {n : Nat} {R : Nat → Nat → Option Nat} {D : KK} {Q : XQ} (hR : RF R) (bs : List Int) (hT : TpR bs D) (hl4 : bs.length ≤ 400) (hW : WdR D) (a b : Nat) (hab : a ≤ b) (hbl : b ≤ bs.length) (hlt : ∀ t, a ≤ t → t < b → ltP (bs.getD t 0)) (num : Int) (p : Nat) (rest : List Int) : ∀ (k : Nat) (v : List Int) (i : Nat), RWD.drop (p + 1 + i) = v ++ 32 :: rest → (∀ c ∈ v, c ≠ 32) → a + i ≤ b → v.length = k → ((mtW bs b (a + i) v = true ∧ a + i + v.length = b) → ∀ i2 : Int, XX (XC 0) 198 Q 86 [some (.inr (some 479)), some (.inl (a : Int)), some (.inl (b : Int)), some (.inl num), some (.inl (p : Int)), some (.inl i2)] [] (xS n, R, D)) → (¬ (mtW bs b (a + i) v = true ∧ a + i + v.length = b) → ∀ i2 : Int, XX (XC 0) 198 Q 88 [some (.inr (some 479)), some (.inl (a : Int)), some (.inl (b : Int)), some (.inl num), some (.inl (p : Int)), some (.inl i2)] [] (xS n, R, D)) → XX (XC 0) 198 (Q) 20 [some (.inr (some 479)), some (.inl (a : Int)), some (.inl (b : Int)), some (.inl num), some (.inl (p : Int)), some (.inl (i : Int))] [] (xS n, R, D) := by
  intro k
  induction k using Nat.strongRecOn with
  | ind k ih =>
  intro v i h hn hai hk kt kf
  obtain ⟨hvh, hq, hvt⟩ := v_hd h
  obtain ⟨qq, hqq⟩ : ∃ qq, qq = p + 1 + i := ⟨_, rfl⟩
  rw [← hqq] at hvh hq
  refine xx_iload_n (q := 21) rfl rfl rfl ?_
  refine xx_iload (q := 23) rfl rfl rfl ?_
  refine xx_iaddR (q := 24) rfl rfl (by omega) (by omega) ?_
  refine xx_iload_n (q := 25) rfl rfl rfl ?_
  refine xx_icmp_ge (q := 61) (q2 := 28) rfl rfl rfl (fun h25 => ?_) (fun h25 => ?_)
  · refine xx_iload_n (q := 62) rfl rfl rfl ?_
    refine xx_iload (q := 64) rfl rfl rfl ?_
    refine xx_iaddR (q := 65) rfl rfl (by omega) (by omega) ?_
    refine xx_iload_n (q := 66) rfl rfl rfl ?_
    refine xx_icmp_ne (q := 88) (q2 := 69) rfl rfl rfl (fun h66 => (by exfalso; omega)) (fun _ => ?_)
    refine xx_aload_n (q := 70) rfl rfl rfl ?_
    refine xx_getR (q := 73) rfl rfl rfl xS_479 (Nat.le_of_ble_eq_true rfl) rfl (hR.1 479 29 rfl) ?_
    refine xx_iload (q := 75) rfl rfl rfl ?_
    refine xx_iconst (q := 76) rfl rfl (by decide) ?_
    refine xx_iaddR (q := 77) rfl rfl (by omega) (by omega) ?_
    refine xx_iload (q := 79) rfl rfl rfl ?_
    refine xx_iaddR (q := 80) rfl rfl (by omega) (by omega) ?_
    refine xx_iaz (v := (v ++ [32]).headD 0) (q := 81) rfl rfl xS_498 (by omega) (by omega) ((hW _ (by omega)).trans (by rw [show (((p : Int) + 1) + (i : Int)).toNat = qq by omega]; exact hvh)) ?_
    refine xx_bipush (q := 83) rfl rfl (by decide) ?_
    refine xx_icmp_ne (q := 88) (q2 := 86) rfl rfl rfl (fun h83 => ?_) (fun h83 => ?_)
    · refine kf (fun q => ?_) _
      have hv : v.length = 0 := by omega
      rw [List.eq_nil_of_length_eq_zero hv] at h83
      exact h83 rfl
    · refine kt ⟨?_, ?_⟩ _
      · cases v with
        | nil => rfl
        | cons c v => exact absurd h83 (hn c (List.mem_cons_self ..))
      · cases v with
        | nil => show a + i + 0 = b; omega
        | cons c v => exact absurd h83 (hn c (List.mem_cons_self ..))
  · refine xx_aload_n (q := 29) rfl rfl rfl ?_
    refine xx_getR (q := 32) rfl rfl rfl xS_479 (Nat.le_of_ble_eq_true rfl) rfl (hR.1 479 29 rfl) ?_
    refine xx_iload (q := 34) rfl rfl rfl ?_
    refine xx_iconst (q := 35) rfl rfl (by decide) ?_
    refine xx_iaddR (q := 36) rfl rfl (by omega) (by omega) ?_
    refine xx_iload (q := 38) rfl rfl rfl ?_
    refine xx_iaddR (q := 39) rfl rfl (by omega) (by omega) ?_
    refine xx_iaz (v := (v ++ [32]).headD 0) (q := 40) rfl rfl xS_498 (by omega) (by omega) ((hW _ (by omega)).trans (by rw [show (((p : Int) + 1) + (i : Int)).toNat = qq by omega]; exact hvh)) ?_
    refine xx_aload_n (q := 41) rfl rfl rfl ?_
    refine xx_getR (q := 44) rfl rfl rfl xS_479 (Nat.le_of_ble_eq_true rfl) rfl (hR.1 479 23 rfl) ?_
    refine xx_iload_n (q := 45) rfl rfl rfl ?_
    refine xx_iload (q := 47) rfl rfl rfl ?_
    refine xx_iaddR (q := 48) rfl rfl (by omega) (by omega) ?_
    refine xx_iaz (v := bs.getD ((a : Int) + (i : Int)).toNat 0) (q := 49) rfl rfl xS_497 (by omega) (by omega) (hT.2 _ (by omega)) ?_
    refine xx_icmp_ne (q := 61) (q2 := 52) rfl rfl rfl (fun h49 => ?_) (fun h49 => ?_)
    · refine xx_iload_n (q := 62) rfl rfl rfl ?_
      refine xx_iload (q := 64) rfl rfl rfl ?_
      refine xx_iaddR (q := 65) rfl rfl (by omega) (by omega) ?_
      refine xx_iload_n (q := 66) rfl rfl rfl ?_
      refine xx_icmp_ne (q := 88) (q2 := 69) rfl rfl rfl (fun _ => ?_) (fun h66 => (by exfalso; omega))
      refine kf (fun q => ?_) _
      cases v with
      | nil => have := q.2; rw [List.length_nil] at this; omega
      | cons c v =>
        have hm : mtW bs b (a + i) (c :: v) = (decide (a + i < b ∧ bs.getD (a + i) 0 = c) && mtW bs b (a + i + 1) v) := rfl
        rw [hm, Bool.and_eq_true, decide_eq_true_eq] at q
        rw [show ((a : Int) + (i : Int)).toNat = a + i by omega] at h49
        exact h49 q.1.1.2.symm
    · refine xx_iload (q := 54) rfl rfl rfl ?_
      refine xx_iconst (q := 55) rfl rfl (by decide) ?_
      refine xx_iaddR (q := 56) rfl rfl (by omega) (by omega) ?_
      refine xx_istore (q := 58) (loc2 := [_, _, _, _, _, _]) rfl rfl (Nat.le_of_ble_eq_true rfl) rfl ?_
      refine xx_goto (q := 20) rfl rfl ?_
      cases v with
      | nil =>
        exfalso
        have := hlt (a + i) (by omega) (by omega)
        have e0 : (([] : List Int) ++ [32]).headD 0 = 32 := rfl
        rw [e0, show ((a : Int) + (i : Int)).toNat = a + i by omega] at h49
        omega
      | cons c v =>
        have hc : bs.getD (a + i) 0 = c := by
          rw [show ((a : Int) + (i : Int)).toNat = a + i by omega] at h49
          exact h49.symm
        have hm : mtW bs b (a + i) (c :: v) = mtW bs b (a + (i + 1)) v := by
          show (decide (a + i < b ∧ bs.getD (a + i) 0 = c) && mtW bs b (a + i + 1) v) = _
          rw [decide_eq_true (show a + i < b ∧ bs.getD (a + i) 0 = c from ⟨by omega, hc⟩), Bool.true_and]
          rfl
        rw [List.length_cons] at hk
        rw [hm, List.length_cons, show a + i + (v.length + 1) = a + (i + 1) + v.length by omega] at kt kf
        rw [show (i : Int) + 1 = ((i + 1 : Nat) : Int) by omega]
        exact ih v.length (by omega) v (i + 1) (hvt (by simp)) (fun x hx => hn x (List.mem_cons_of_mem _ hx)) (by omega) rfl kt kf
set_option maxHeartbeats 1000000 in
theorem r_wa_S {n : Nat} {R : Nat → Nat → Option Nat} {D : KK} {Q : XQ} (hR : RF R) (bs : List Int) (hT : TpR bs D) (hl4 : bs.length ≤ 400) (hW : WdR D) (a b : Nat) (hab : a ≤ b) (hbl : b ≤ bs.length) (hlt : ∀ t, a ≤ t → t < b → ltP (bs.getD t 0)) (num : Int) (rest : List Int) : ∀ (k : Nat) (v : List Int) (q0 : Nat) (x : Option XV), RWD.drop q0 = v ++ 32 :: rest → (∀ c ∈ v, c ≠ 32) → v.length = k → XX (XC 0) 198 Q 115 [some (.inr (some 479)), some (.inl (a : Int)), some (.inl (b : Int)), some (.inl num), some (.inl ((q0 + v.length : Nat) : Int)), x] [] (xS n, R, D) → XX (XC 0) 198 (Q) 94 [some (.inr (some 479)), some (.inl (a : Int)), some (.inl (b : Int)), some (.inl num), some (.inl (q0 : Int)), x] [] (xS n, R, D) := by
  intro k
  induction k using Nat.strongRecOn with
  | ind k ih =>
  intro v q0 x h hn hk kx
  obtain ⟨hvh, hq, hvt⟩ := v_hd h
  obtain ⟨qq, hqq⟩ : ∃ qq, qq = q0 := ⟨_, rfl⟩
  rw [← hqq] at hvh hq
  refine xx_aload_n (q := 95) rfl rfl rfl ?_
  refine xx_getR (q := 98) rfl rfl rfl xS_479 (Nat.le_of_ble_eq_true rfl) rfl (hR.1 479 29 rfl) ?_
  refine xx_iload (q := 100) rfl rfl rfl ?_
  refine xx_iaz (v := (v ++ [32]).headD 0) (q := 101) rfl rfl xS_498 (by omega) (by omega) ((hW _ (by omega)).trans (by rw [show ((q0 : Int)).toNat = qq by omega]; exact hvh)) ?_
  refine xx_bipush (q := 103) rfl rfl (by decide) ?_
  refine xx_icmp_eq (q := 115) (q2 := 106) rfl rfl rfl (fun h103 => ?_) (fun h103 => ?_)
  · cases v with
    | nil => exact kx
    | cons c v => exact absurd h103 (hn c (List.mem_cons_self ..))
  · refine xx_iload (q := 108) rfl rfl rfl ?_
    refine xx_iconst (q := 109) rfl rfl (by decide) ?_
    refine xx_iaddR (q := 110) rfl rfl (by omega) (by omega) ?_
    refine xx_istore (q := 112) (loc2 := [_, _, _, _, _, _]) rfl rfl (Nat.le_of_ble_eq_true rfl) rfl ?_
    refine xx_goto (q := 94) rfl rfl ?_
    cases v with
    | nil => exact absurd rfl h103
    | cons c v =>
      rw [List.length_cons] at hk
      rw [List.length_cons, show q0 + (v.length + 1) = (q0 + 1) + v.length by omega] at kx
      rw [show (q0 : Int) + 1 = ((q0 + 1 : Nat) : Int) by omega]
      exact ih v.length (by omega) v (q0 + 1) x (hvt (by simp)) (fun y hy => hn y (List.mem_cons_of_mem _ hy)) rfl kx
theorem RWD_l {p : Nat} {l : List Int} (h : RWD.drop p = l) : l.length = 159 - p := by
  rw [← h, List.length_drop]
  rfl
set_option maxHeartbeats 1000000 in
theorem r_wa_O {n : Nat} {R : Nat → Nat → Option Nat} {D : KK} (hR : RF R) (bs : List Int) (hT : TpR bs D) (hl4 : bs.length ≤ 400) (hW : WdR D) (a b : Nat) (hab : a ≤ b) (hbl : b ≤ bs.length) (hlt : ∀ t, a ≤ t → t < b → ltP (bs.getD t 0)) : ∀ (ws : List (List Int)) (p : Nat) (num : Int) (x : Option XV), RWD.drop p = 32 :: flW ws → okW ws → -1 ≤ num → num + ws.length ≤ 100 → XX (XC 0) 198 (fun r2 m2 => r2 = some (.inl (fnW (eqW bs a b) ws (num + 1))) ∧ m2 = (xS n, R, D)) 5 [some (.inr (some 479)), some (.inl (a : Int)), some (.inl (b : Int)), some (.inl num), some (.inl (p : Int)), x] [] (xS n, R, D) := by
  intro ws
  induction ws with
  | nil =>
    intro p num x h hk hn0 hn1
    have hl := RWD_l h
    have hl2 : (32 :: flW []).length = 1 := rfl
    refine xx_iload (q := 7) rfl rfl rfl ?_
    refine xx_sipush (q := 10) rfl rfl (by decide) ?_
    refine xx_icmp_ge (q := 118) (q2 := 13) rfl rfl rfl (fun _ => ?_) (fun h10 => (by exfalso; omega))
    refine xx_iconst (q := 119) rfl rfl (by decide) ?_
    exact xx_iret rfl trivial ⟨rfl, rfl⟩
  | cons w ws ih =>
    intro p num x h hk hn0 hn1
    have hl := RWD_l h
    have hf : flW (w :: ws) = w ++ 32 :: flW ws := by unfold flW; simp
    have hw := hk w (List.mem_cons_self ..)
    obtain ⟨_, _, h1⟩ := dr_c h
    rw [hf] at h1
    have hl2 : (32 :: flW (w :: ws)).length = w.length + (flW ws).length + 2 := by rw [hf]; simp; omega
    have hwl : 1 ≤ w.length := by
      cases w with
      | nil => exact absurd rfl hw.1
      | cons c w => rw [List.length_cons]; omega
    have hd : RWD.drop (p + 1 + w.length) = 32 :: flW ws := by
      rw [← List.drop_drop, h1, List.drop_left]
    rw [List.length_cons] at hn1
    refine xx_iload (q := 7) rfl rfl rfl ?_
    refine xx_sipush (q := 10) rfl rfl (by decide) ?_
    refine xx_icmp_ge (q := 118) (q2 := 13) rfl rfl rfl (fun h10 => (by exfalso; omega)) (fun _ => ?_)
    refine xx_iconst (q := 14) rfl rfl (by decide) ?_
    refine xx_istore (q := 16) (loc2 := [_, _, _, _, _, _]) rfl rfl (Nat.le_of_ble_eq_true rfl) rfl ?_
    refine xx_iload_n (q := 17) rfl rfl rfl ?_
    refine xx_iconst (q := 18) rfl rfl (by decide) ?_
    refine xx_iaddR (q := 19) rfl rfl (by omega) (by omega) ?_
    refine xx_istore_n (q := 20) (loc2 := [_, _, _, _, _, _]) rfl rfl (Nat.le_of_ble_eq_true rfl) rfl ?_
    refine r_wa_I hR bs hT hl4 hW a b hab hbl hlt (num + 1) p (flW ws) w.length w 0 h1 hw.2 (by omega) rfl (fun q i2 => ?_) (fun q i2 => ?_)
    · refine xx_iload_n (q := 87) rfl rfl rfl ?_
      refine xx_iret rfl trivial ⟨congrArg (fun z => some (Sum.inl z)) (if_pos ?_).symm, rfl⟩
      unfold eqW
      rw [Bool.and_eq_true, decide_eq_true_eq]
      exact ⟨q.1, q.2⟩
    · refine xx_iload (q := 90) rfl rfl rfl ?_
      refine xx_iconst (q := 91) rfl rfl (by decide) ?_
      refine xx_iaddR (q := 92) rfl rfl (by omega) (by omega) ?_
      refine xx_istore (q := 94) (loc2 := [_, _, _, _, _, _]) rfl rfl (Nat.le_of_ble_eq_true rfl) rfl ?_
      rw [show (p : Int) + 1 = ((p + 1 : Nat) : Int) by omega]
      refine r_wa_S hR bs hT hl4 hW a b hab hbl hlt (num + 1) (flW ws) w.length w (p + 1) _ h1 hw.2 rfl ?_
      refine xx_goto (q := 5) rfl rfl ?_
      have e : fnW (eqW bs a b) (w :: ws) (num + 1) = fnW (eqW bs a b) ws (num + 1 + 1) := if_neg (fun x => q (by unfold eqW at x; rw [Bool.and_eq_true, decide_eq_true_eq] at x; exact ⟨x.1, x.2⟩))
      rw [e]
      exact ih (p + 1 + w.length) (num + 1) _ hd (fun v hv => hk v (List.mem_cons_of_mem _ hv)) (by omega) (by omega)
set_option maxHeartbeats 1000000 in
theorem r_wordAt {n : Nat} {R : Nat → Nat → Option Nat} {D : KK} (hR : RF R) (bs : List Int) (hT : TpR bs D) (hl4 : bs.length ≤ 400) (hW : WdR D) (a b : Nat) (hab : a ≤ b) (hbl : b ≤ bs.length) (hlt : ∀ t, a ≤ t → t < b → ltP (bs.getD t 0)) : XC 1 198 [.inr (some 479), .inl (a : Int), .inl (b : Int)] (xS n, R, D) (some (.inl (fnW (eqW bs a b) RWL 0))) (xS n, R, D) := by
  refine XC_of (Nat.le_of_ble_eq_true rfl) (Nat.le_of_ble_eq_true rfl) (loc := [_, _, _, _, _, _]) rfl ?_
  refine xx_iconst (q := 1) rfl rfl (by decide) ?_
  refine xx_istore_n (q := 2) (loc2 := [_, _, _, _, _, _]) rfl rfl (Nat.le_of_ble_eq_true rfl) rfl ?_
  refine xx_iconst (q := 3) rfl rfl (by decide) ?_
  refine xx_istore (q := 5) (loc2 := [_, _, _, _, _, _]) rfl rfl (Nat.le_of_ble_eq_true rfl) rfl ?_
  have h := r_wa_O (n := n) hR bs hT hl4 hW a b hab hbl hlt RWL 0 (-1) none (by rw [List.drop_zero]; exact RWD_f) RWL_ok (by omega) (by decide)
  exact h
