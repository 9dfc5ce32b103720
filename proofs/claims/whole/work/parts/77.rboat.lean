/-! A boat more: the reference. -/
def ZP (o : Nat) (D E : KK) : Prop := (∀ x k, x ≠ 480 → E x k = D x k) ∧ ∀ k, E 480 k = D 480 k ∨ (E 480 k = 0 ∧ ((101 + 4 * o ≤ k ∧ k < 105 + 4 * o) ∨ ∃ l : Nat, l < 9 ∧ k = 41 + 6 * l + o))
theorem ZP.rf {o : Nat} {D : KK} : ZP o D D := ⟨fun _ _ _ => rfl, fun _ => Or.inl rfl⟩
theorem ZP.up {o j : Nat} {D E : KK} (h : ZP o D E) (hj : (101 + 4 * o ≤ j ∧ j < 105 + 4 * o) ∨ ∃ l : Nat, l < 9 ∧ j = 41 + 6 * l + o) : ZP o D (xui E 480 j 0) := ⟨fun x k q => (xui_a q).trans (h.1 x k q), fun k => by
  rcases Classical.em (k = j) with rfl | q
  · exact Or.inr ⟨xui_s, hj⟩
  · rw [xui_j q]; exact h.2 k⟩
/-- of a boat that is not there nothing is kept -/
def NoB (K : KK) : Prop := ∀ o : Nat, K 13 0 ≤ (o : Int) → o < 6 → (∀ l : Nat, l < 9 → K 12 (l * 6 + o) = 0) ∧ ∀ g : Nat, g < 4 → K 17 (o * 4 + g) = 0
theorem bot_PV {K : KK} {b : Int} {B : Nat → Int} {U : UU} {D d E : KK} {p dd c : Int} (h : PV K b B U D d) (hp : botP K p dd c) (hI : KI K) (hN : NoB K) (hz : ZP (K 13 0).toNat (xui (xui (xui d 480 (95 + K 13 0).toNat p) 488 (K 13 0).toNat dd) 489 (K 13 0).toNat c) E) : PV (botW K p dd c) b B [] D (xui (xui E 479 7 (K 13 0 + 1)) 479 3 0) := by
  have hB := ki_B hI
  obtain ⟨o, ho⟩ : ∃ o : Nat, (o : Int) = K 13 0 := ⟨(K 13 0).toNat, by omega⟩
  have ho6 : o < 6 := by have := hp.2; omega
  have e95 : (95 + K 13 0).toNat = 95 + o := by omega
  have eo : (K 13 0).toNat = o := by omega
  rw [e95, eo] at hz
  obtain ⟨hr, hq⟩ := h
  obtain ⟨a1, a2, a3, a4, a5, a6, a7, a8, a9, a10, a11⟩ := hr.1
  obtain ⟨c0, c1, c2, c3, c4, c5, c6, c7, c8, c9⟩ := hr.2.1
  obtain ⟨n1, n2⟩ := hN o (by omega) ho6
  have e480 : ∀ k, k ≠ 95 + o → (¬ (101 + 4 * o ≤ k ∧ k < 105 + 4 * o)) → (¬ ∃ l : Nat, l < 9 ∧ k = 41 + 6 * l + o) → E 480 k = d 480 k := fun k q1 q2 q3 => by
    rcases hz.2 k with q | q
    · rw [q, xui_a (by omega), xui_a (by omega), xui_j q1]
    · exact absurd q.2 (fun r => r.elim q2 q3)
  have eE : ∀ x k, x ≠ 480 → x ≠ 488 → x ≠ 489 → E x k = d x k := fun x k q1 q2 q3 => (hz.1 x k q1).trans ((xui_a q3).trans ((xui_a q2).trans (xui_a q1)))
  have kW : ∀ x k, x ≠ 13 → x ≠ 14 → x ≠ 15 → x ≠ 16 → botW K p dd c x k = K x k := fun x k q1 q2 q3 q4 => by
    unfold botW
    rw [xui_a q1, xui_a q4, xui_a q3, xui_a q2]
  have hF : ∀ x k, x ≠ 479 → xui (xui E 479 7 (K 13 0 + 1)) 479 3 0 x k = E x k := fun x k q => (xui_a q).trans (xui_a q)
  have hG : ∀ k, k ≠ 3 → k ≠ 7 → xui (xui E 479 7 (K 13 0 + 1)) 479 3 0 479 k = d 479 k := fun k q1 q2 => by
    rw [xui_j q1, xui_j q2]; exact eE _ _ (by omega) (by omega) (by omega)
  have f480 : (xui (xui E 479 7 (K 13 0 + 1)) 479 3 0) 480 = E 480 := funext (fun k => hF 480 k (by omega))
  refine ⟨⟨?_, ?_, ?_, hr.2.2.2.1, fun k hk => (hF _ _ (by omega)).trans ((eE _ _ (by omega) (by omega) (by omega)).trans (hr.2.2.2.2.1 k hk)), ⟨Nat.zero_le _, xui_s, fun i u hu => by cases hu⟩, FV.rf⟩, ?_⟩
  · rw [f480]
    refine ⟨?_, ?_, ?_, ?_, fun i hi => ?_, fun i hi => ?_, fun i hi => ?_, fun i hi => ?_, fun i hi => ?_, fun i hi => ?_, fun i hi => ?_⟩
    · rw [e480 0 (by omega) (by omega) (by omega), kW _ _ (by omega) (by omega) (by omega) (by omega)]; exact a1
    · rw [e480 1 (by omega) (by omega) (by omega), kW _ _ (by omega) (by omega) (by omega) (by omega)]; exact a2
    · rw [e480 2 (by omega) (by omega) (by omega), kW _ _ (by omega) (by omega) (by omega) (by omega)]; exact a3
    · rw [e480 3 (by omega) (by omega) (by omega)]; exact a4
    · rw [e480 _ (by omega) (by omega) (by omega), kW _ _ (by omega) (by omega) (by omega) (by omega)]; exact a5 i hi
    · rw [e480 _ (by omega) (by omega) (by omega), kW _ _ (by omega) (by omega) (by omega) (by omega)]; exact a6 i hi
    · rw [e480 _ (by omega) (by omega) (by omega), kW _ _ (by omega) (by omega) (by omega) (by omega)]; exact a7 i hi
    · rw [e480 _ (by omega) (by omega) (by omega), kW _ _ (by omega) (by omega) (by omega) (by omega)]; exact a8 i hi
    · rw [kW _ _ (by omega) (by omega) (by omega) (by omega)]
      rcases hz.2 (41 + i) with q | ⟨q, q2⟩
      · rw [q, xui_a (by omega), xui_a (by omega), xui_j (by omega)]; exact a9 i hi
      · rcases q2 with q2 | ⟨l, q3, q4⟩
        · omega
        · rw [q, show i = l * 6 + o by omega, n1 l q3]
    · have hi2 : (i : Int) < K 13 0 + 1 := hi
      have e14 : botW K p dd c 14 i = xui K 14 (K 13 0).toNat p 14 i := by unfold botW; rw [xui_a (by omega), xui_a (by omega), xui_a (by omega)]
      rw [e14, eo]
      rcases hz.2 (95 + i) with q | ⟨q, q2⟩
      · rw [q, xui_a (by omega), xui_a (by omega)]
        rcases Classical.em (i = o) with rfl | r
        · rw [xui_s, xui_s]
        · rw [xui_j (by omega), xui_j r]; exact a10 i (by omega)
      · exfalso
        rcases q2 with q2 | ⟨l, q3, q4⟩ <;> omega
    · rw [kW _ _ (by omega) (by omega) (by omega) (by omega)]
      rcases hz.2 (101 + i) with q | ⟨q, q2⟩
      · rw [q, xui_a (by omega), xui_a (by omega), xui_j (by omega)]; exact a11 i hi
      · rcases q2 with q2 | ⟨l, q3, q4⟩
        · have := n2 (i - o * 4) (by omega)
          rw [show o * 4 + (i - o * 4) = i by omega] at this
          rw [q, this]
        · omega
  · have e15 : ∀ i, botW K p dd c 15 i = xui K 15 o dd 15 i := fun i => by unfold botW; rw [xui_a (by omega), xui_a (by omega), eo]; unfold xui; simp
    have e16 : ∀ i, botW K p dd c 16 i = xui K 16 o c 16 i := fun i => by unfold botW; rw [xui_a (by omega), eo]; unfold xui; simp
    refine ⟨?_, ?_, fun i hi => ?_, fun i hi => ?_, fun i hi => ?_, fun i hi => ?_, fun i hi => ?_, fun i hi => ?_, fun i hi => ?_, fun i hi => ?_⟩
    · rw [hG 6 (by omega) (by omega), kW _ _ (by omega) (by omega) (by omega) (by omega)]; exact c0
    · rw [xui_j (by omega), xui_s]; exact (xui_s : botW K p dd c 13 0 = K 13 0 + 1).symm
    · rw [hF _ _ (by omega), eE _ _ (by omega) (by omega) (by omega), kW _ _ (by omega) (by omega) (by omega) (by omega)]; exact c2 i hi
    · rw [hF _ _ (by omega), eE _ _ (by omega) (by omega) (by omega), kW _ _ (by omega) (by omega) (by omega) (by omega)]; exact c3 i hi
    · rw [hF _ _ (by omega), eE _ _ (by omega) (by omega) (by omega), kW _ _ (by omega) (by omega) (by omega) (by omega)]; exact c4 i hi
    · rw [hF _ _ (by omega), eE _ _ (by omega) (by omega) (by omega), kW _ _ (by omega) (by omega) (by omega) (by omega)]; exact c5 i hi
    · rw [hF _ _ (by omega), eE _ _ (by omega) (by omega) (by omega), kW _ _ (by omega) (by omega) (by omega) (by omega)]; exact c6 i hi
    · rw [hF _ _ (by omega), hz.1 _ _ (by omega), xui_a (by omega), e15]
      rcases Classical.em (i = o) with rfl | r
      · rw [xui_s, xui_s]
      · rw [xui_j r, xui_j r, xui_a (by omega)]; exact c7 i hi
    · rw [hF _ _ (by omega), hz.1 _ _ (by omega), e16]
      rcases Classical.em (i = o) with rfl | r
      · rw [xui_s, xui_s]
      · exact (xui_j r).trans ((xui_a (by omega)).trans ((xui_a (by omega)).trans ((c8 i hi).trans (xui_j r).symm)))
    · rw [hF _ _ (by omega), eE _ _ (by omega) (by omega) (by omega), kW _ _ (by omega) (by omega) (by omega) (by omega)]; exact c9 i hi
  · rw [hG 5 (by omega) (by omega)]; exact hr.2.2.1
  · intro x k q
    rcases Classical.em (x = 479) with rfl | r
    · rw [hG k (by unfold restQ at q; omega) (by unfold restQ at q; omega)]; exact hq _ k q
    · rw [hF x k r, eE x k (by unfold restQ at q; omega) (by unfold restQ at q; omega) (by unfold restQ at q; omega)]; exact hq x k q
set_option maxHeartbeats 1000000 in
theorem r_bot_A {n : Nat} {R : Nat → Nat → Option Nat} {D0 : KK} {Q : XQ} (hR : RF R) (bo : Int) (hb0 : 0 ≤ bo) (hb5 : bo < 6) (h7 : D0 479 7 = bo) (p d c : Int) : ∀ (k : Nat) (D : KK) (i : Int), ZP bo.toNat D0 D → 0 ≤ i → i + k = 4 → (∀ E i2, ZP bo.toNat D0 E → XX (XC 2) 186 Q 112 [some (.inr (some 479)), some (.inl p), some (.inl d), some (.inl c), some (.inl i2)] [] (xS n, R, E)) → XX (XC 2) 186 (Q) 82 [some (.inr (some 479)), some (.inl p), some (.inl d), some (.inl c), some (.inl i)] [] (xS n, R, D) := by
  intro k
  induction k using Nat.strongRecOn with
  | ind k ih =>
  intro D i hZ h1 hk kx
  refine xx_iload (q := 84) rfl rfl rfl ?_
  refine xx_iconst (q := 85) rfl rfl (by decide) ?_
  refine xx_icmp_ge (q := 112) (q2 := 88) rfl rfl rfl (fun h85 => ?_) (fun h85 => ?_)
  · obtain rfl : k = 0 := by omega
    exact kx _ _ hZ
  · obtain ⟨k, rfl⟩ : ∃ k2, k = k2 + 1 := ⟨k - 1, by omega⟩
    refine xx_aload_n (q := 89) rfl rfl rfl ?_
    refine xx_getR (q := 92) rfl rfl rfl xS_479 (Nat.le_of_ble_eq_true rfl) rfl (hR.1 479 1 rfl) ?_
    refine xx_bipush (q := 94) rfl rfl (by decide) ?_
    refine xx_iconst (q := 95) rfl rfl (by decide) ?_
    refine xx_aload_n (q := 96) rfl rfl rfl ?_
    refine xx_gez (q := 99) rfl rfl rfl xS_479 (Nat.le_of_ble_eq_true rfl) rfl ((hZ.1 479 7 (by omega)).trans h7) ?_
    refine xx_imulR (q := 100) rfl rfl (by omega) (by omega) ?_
    refine xx_iaddR (q := 101) rfl rfl (by omega) (by omega) ?_
    refine xx_iload (q := 103) rfl rfl rfl ?_
    refine xx_iaddR (q := 104) rfl rfl (by omega) (by omega) ?_
    refine xx_iconst (q := 105) rfl rfl (by decide) ?_
    refine xx_isz (q := 106) rfl rfl xS_480 (by omega) (by omega) rfl ?_
    refine xx_incz (q := 109) (loc2 := [_, _, _, _, _]) rfl rfl rfl (by omega) (by omega) rfl rfl ?_
    refine xx_goto (q := 82) rfl rfl ?_
    exact ih k (by omega) _ _ (hZ.up (Or.inl ⟨by omega, by omega⟩)) (by omega) (by omega) kx
set_option maxHeartbeats 1000000 in
theorem r_bot_B {n : Nat} {R : Nat → Nat → Option Nat} {D0 : KK} {Q : XQ} (hR : RF R) (bo : Int) (hb0 : 0 ≤ bo) (hb5 : bo < 6) (h7 : D0 479 7 = bo) (p d c : Int) : ∀ (k : Nat) (D : KK) (i : Int), ZP bo.toNat D0 D → 0 ≤ i → i + k = 9 → (∀ E i2, ZP bo.toNat D0 E → XX (XC 2) 186 Q 147 [some (.inr (some 479)), some (.inl p), some (.inl d), some (.inl c), some (.inl i2)] [] (xS n, R, E)) → XX (XC 2) 186 (Q) 115 [some (.inr (some 479)), some (.inl p), some (.inl d), some (.inl c), some (.inl i)] [] (xS n, R, D) := by
  intro k
  induction k using Nat.strongRecOn with
  | ind k ih =>
  intro D i hZ h1 hk kx
  refine xx_iload (q := 117) rfl rfl rfl ?_
  refine xx_bipush (q := 119) rfl rfl (by decide) ?_
  refine xx_icmp_ge (q := 147) (q2 := 122) rfl rfl rfl (fun h119 => ?_) (fun h119 => ?_)
  · obtain rfl : k = 0 := by omega
    exact kx _ _ hZ
  · obtain ⟨k, rfl⟩ : ∃ k2, k = k2 + 1 := ⟨k - 1, by omega⟩
    refine xx_aload_n (q := 123) rfl rfl rfl ?_
    refine xx_getR (q := 126) rfl rfl rfl xS_479 (Nat.le_of_ble_eq_true rfl) rfl (hR.1 479 1 rfl) ?_
    refine xx_bipush (q := 128) rfl rfl (by decide) ?_
    refine xx_bipush (q := 130) rfl rfl (by decide) ?_
    refine xx_iload (q := 132) rfl rfl rfl ?_
    refine xx_imulR (q := 133) rfl rfl (by omega) (by omega) ?_
    refine xx_iaddR (q := 134) rfl rfl (by omega) (by omega) ?_
    refine xx_aload_n (q := 135) rfl rfl rfl ?_
    refine xx_gez (q := 138) rfl rfl rfl xS_479 (Nat.le_of_ble_eq_true rfl) rfl ((hZ.1 479 7 (by omega)).trans h7) ?_
    refine xx_iaddR (q := 139) rfl rfl (by omega) (by omega) ?_
    refine xx_iconst (q := 140) rfl rfl (by decide) ?_
    refine xx_isz (q := 141) rfl rfl xS_480 (by omega) (by omega) rfl ?_
    refine xx_incz (q := 144) (loc2 := [_, _, _, _, _]) rfl rfl rfl (by omega) (by omega) rfl rfl ?_
    refine xx_goto (q := 115) rfl rfl ?_
    exact ih k (by omega) _ _ (hZ.up (Or.inr ⟨i.toNat, by omega, by omega⟩)) (by omega) (by omega) kx
theorem r_bot_C {n : Nat} {R : Nat → Nat → Option Nat} {D0 E : KK} (hR : RF R) (bo : Int) (hb0 : 0 ≤ bo) (hb5 : bo < 6) (h7 : D0 479 7 = bo) (p d c i : Int) (hZ : ZP bo.toNat D0 E) : XX (XC 2) 186 (XP (some (.inl bo)) (xS n) R (fun D' => D' = xui (xui E 479 7 (bo + 1)) 479 3 0)) 147 [some (.inr (some 479)), some (.inl p), some (.inl d), some (.inl c), some (.inl i)] [] (xS n, R, E) := by
  refine xx_aload_n (q := 148) rfl rfl rfl ?_
  refine xx_aload_n (q := 149) rfl rfl rfl ?_
  refine xx_gez (q := 152) rfl rfl rfl xS_479 (Nat.le_of_ble_eq_true rfl) rfl ((hZ.1 479 7 (by omega)).trans h7) ?_
  refine xx_iconst (q := 153) rfl rfl (by decide) ?_
  refine xx_iaddR (q := 154) rfl rfl (by omega) (by omega) ?_
  refine xx_puz (q := 157) rfl rfl rfl xS_479 (Nat.le_of_ble_eq_true rfl) (Nat.le_of_ble_eq_true rfl) (fun h => by cases h) (Or.inl rfl) rfl ?_
  refine xx_aload_n (q := 158) rfl rfl rfl ?_
  refine xx_iconst (q := 159) rfl rfl (by decide) ?_
  refine xx_puz (q := 162) rfl rfl rfl xS_479 (Nat.le_of_ble_eq_true rfl) (Nat.le_of_ble_eq_true rfl) (fun h => by cases h) (Or.inl rfl) rfl ?_
  refine xx_aload_n (q := 163) rfl rfl rfl ?_
  refine xx_gez (q := 166) rfl rfl rfl xS_479 (Nat.le_of_ble_eq_true rfl) rfl ((xui_j (by omega)).trans xui_s) ?_
  refine xx_iconst (q := 167) rfl rfl (by decide) ?_
  refine xx_isubR (q := 168) rfl rfl (by omega) (by omega) ?_
  exact xx_iret rfl trivial ⟨congrArg (fun z => some (Sum.inl z)) (by omega), _, rfl, rfl⟩
theorem r_bot_M {n : Nat} {R : Nat → Nat → Option Nat} {D0 E : KK} {Q : XQ} (hR : RF R) (bo : Int) (hb0 : 0 ≤ bo) (hb5 : bo < 6) (h7 : D0 479 7 = bo) (p d c i : Int) (hZ : ZP bo.toNat D0 E) (kx : ∀ E2, ZP bo.toNat D0 E2 → ∀ r m2, XP (some (.inl bo)) (xS n) R (fun D' => D' = xui (xui E2 479 7 (bo + 1)) 479 3 0) r m2 → Q r m2) : XX (XC 2) 186 Q 112 [some (.inr (some 479)), some (.inl p), some (.inl d), some (.inl c), some (.inl i)] [] (xS n, R, E) := by
  refine xx_iconst (q := 113) rfl rfl (by decide) ?_
  refine xx_istore (q := 115) (loc2 := [_, _, _, _, _]) rfl rfl (Nat.le_of_ble_eq_true rfl) rfl ?_
  exact r_bot_B hR bo hb0 hb5 h7 p d c 9 _ 0 hZ (by omega) (by omega) (fun E2 i3 hZ2 => XX_mono (fun r m2 h => kx E2 hZ2 r m2 h) (r_bot_C hR bo hb0 hb5 h7 p d c i3 hZ2))
set_option maxHeartbeats 2000000 in
theorem r_boat {n : Nat} {R : Nat → Nat → Option Nat} {K D : KK} {b : Int} {B : Nat → Int} {U : UU} (hR : RF R) (hV : RV 0 K b B U D D) (hI : KI K) (hN : NoB K) (p d c : Int) : ∃ D', XC 3 186 [.inr (some 479), .inl p, .inl d, .inl c] (xS n, R, D) (some (.inl (if botP K p d c then K 13 0 else -1))) (xS n, R, D') ∧ PV (botK K p d c) (b) (B) (tldU (botP K p d c) U) D D' := by
  have hbB := ki_B hI
  have hbL := ki_L hI
  refine XE_of (Nat.le_of_ble_eq_true rfl) (Nat.le_of_ble_eq_true rfl) (loc := [_, _, _, _, _]) rfl ?_
  refine xx_aload_n (q := 1) rfl rfl rfl ?_
  refine xx_iconst (q := 2) rfl rfl (by decide) ?_
  refine xr_puz (PV K b B U D) (q := 5) rfl rfl rfl xS_479 (Nat.le_of_ble_eq_true rfl) (Nat.le_of_ble_eq_true rfl) (fun h => by cases h) (Or.inl rfl) ⟨hV.u (by decide), FQ.rf.up (by unfold restQ; omega)⟩ (fun D1 hP0 => ?_)
  have hB7 : D1 479 7 = K 13 0 := rv_B hP0.1
  refine xx_aload_n (q := 6) rfl rfl rfl ?_
  refine xx_iload_n (q := 7) rfl rfl rfl ?_
  refine xx_callV (q := 10) (As := [_]) (rest := []) rfl rfl rfl (Or.inl rfl) rfl rfl (Nat.le_of_ble_eq_true rfl) xS_479 (XCm (r_isPool hR hP0.1 hI p) rfl) rfl ?_
  refine xx_ifb_eq (q := 44) (q2 := 13) rfl rfl rfl (fun h10 => ?_) (fun h10 => ?_)
  · refine xx_iconst (q := 45) rfl rfl (by decide) ?_
    refine xx_iret rfl trivial ⟨congrArg (fun z => some (Sum.inl z)) (by rw [if_neg (show ¬ botP K p d c by omega)]), _, rfl, ?_⟩
    have q : ¬ botP K p d c := by omega
    unfold botK tldU
    rw [if_neg q, if_neg q]
    exact hP0
  · refine xx_aload_n (q := 14) rfl rfl rfl ?_
    refine xx_iload_n (q := 15) rfl rfl rfl ?_
    refine xx_iconst (q := 16) rfl rfl (by decide) ?_
    refine xx_bipush (q := 18) rfl rfl (by decide) ?_
    refine xx_callV (q := 21) (As := [_, _, _]) (rest := []) rfl rfl rfl (Or.inl rfl) rfl rfl (Nat.le_of_ble_eq_true rfl) xS_479 (XCm (r_isIn d 1 99) rfl) rfl ?_
    refine xx_ifb_eq (q := 44) (q2 := 24) rfl rfl rfl (fun h21 => ?_) (fun h21 => ?_)
    · refine xx_iconst (q := 45) rfl rfl (by decide) ?_
      refine xx_iret rfl trivial ⟨congrArg (fun z => some (Sum.inl z)) (by rw [if_neg (show ¬ botP K p d c by omega)]), _, rfl, ?_⟩
      have q : ¬ botP K p d c := by omega
      unfold botK tldU
      rw [if_neg q, if_neg q]
      exact hP0
    · refine xx_aload_n (q := 25) rfl rfl rfl ?_
      refine xx_iload_n (q := 26) rfl rfl rfl ?_
      refine xx_iconst (q := 27) rfl rfl (by decide) ?_
      refine xx_bipush (q := 29) rfl rfl (by decide) ?_
      refine xx_callV (q := 32) (As := [_, _, _]) (rest := []) rfl rfl rfl (Or.inl rfl) rfl rfl (Nat.le_of_ble_eq_true rfl) xS_479 (XCm (r_isIn c 1 9) rfl) rfl ?_
      refine xx_ifb_eq (q := 44) (q2 := 35) rfl rfl rfl (fun h32 => ?_) (fun h32 => ?_)
      · refine xx_iconst (q := 45) rfl rfl (by decide) ?_
        refine xx_iret rfl trivial ⟨congrArg (fun z => some (Sum.inl z)) (by rw [if_neg (show ¬ botP K p d c by omega)]), _, rfl, ?_⟩
        have q : ¬ botP K p d c := by omega
        unfold botK tldU
        rw [if_neg q, if_neg q]
        exact hP0
      · refine xx_aload_n (q := 36) rfl rfl rfl ?_
        refine xx_gez (q := 39) rfl rfl rfl xS_479 (Nat.le_of_ble_eq_true rfl) rfl (rv_B hP0.1) ?_
        have hb1 : 0 ≤ K 13 0 ∧ K 13 0 ≤ 6 := by have h := ki_B hI; exact h
        refine xx_bipush (q := 41) rfl rfl (by decide) ?_
        refine xx_icmp_ne (q := 46) (q2 := 44) rfl rfl rfl (fun h41 => ?_) (fun h41 => ?_)
        · refine xx_aload_n (q := 47) rfl rfl rfl ?_
          refine xx_getR (q := 50) rfl rfl rfl xS_479 (Nat.le_of_ble_eq_true rfl) rfl (hR.1 479 1 rfl) ?_
          refine xx_bipush (q := 52) rfl rfl (by decide) ?_
          refine xx_aload_n (q := 53) rfl rfl rfl ?_
          refine xx_gez (q := 56) rfl rfl rfl xS_479 (Nat.le_of_ble_eq_true rfl) rfl (rv_B hP0.1) ?_
          have hb2 : 0 ≤ K 13 0 ∧ K 13 0 ≤ 6 := by have h := ki_B hI; exact h
          refine xx_iaddR (q := 57) rfl rfl (by omega) (by omega) ?_
          refine xx_iload_n (q := 58) rfl rfl rfl ?_
          refine xx_isz (q := 59) rfl rfl xS_480 (by omega) (by omega) rfl ?_
          refine xx_aload_n (q := 60) rfl rfl rfl ?_
          refine xx_getR (q := 63) rfl rfl rfl xS_479 (Nat.le_of_ble_eq_true rfl) rfl (hR.1 479 13 rfl) ?_
          refine xx_aload_n (q := 64) rfl rfl rfl ?_
          refine xx_gez (q := 67) rfl rfl rfl xS_479 (Nat.le_of_ble_eq_true rfl) rfl hB7 ?_
          refine xx_iload_n (q := 68) rfl rfl rfl ?_
          refine xx_isz (q := 69) rfl rfl xS_488 (by omega) (by omega) rfl ?_
          refine xx_aload_n (q := 70) rfl rfl rfl ?_
          refine xx_getR (q := 73) rfl rfl rfl xS_479 (Nat.le_of_ble_eq_true rfl) rfl (hR.1 479 14 rfl) ?_
          refine xx_aload_n (q := 74) rfl rfl rfl ?_
          refine xx_gez (q := 77) rfl rfl rfl xS_479 (Nat.le_of_ble_eq_true rfl) rfl hB7 ?_
          refine xx_iload_n (q := 78) rfl rfl rfl ?_
          refine xx_isz (q := 79) rfl rfl xS_489 (by omega) (by omega) rfl ?_
          refine xx_iconst (q := 80) rfl rfl (by decide) ?_
          refine xx_istore (q := 82) (loc2 := [_, _, _, _, _]) rfl rfl (Nat.le_of_ble_eq_true rfl) rfl ?_
          have q : botP K p d c := by omega
          unfold botK tldU
          rw [if_pos q, if_pos q, if_pos q]
          refine r_bot_A (D0 := (xui (xui (xui D1 480 (95 + K 13 0).toNat p) 488 (K 13 0).toNat d) 489 (K 13 0).toNat c)) hR (K 13 0) (by omega) (by omega) hB7 p d c 4 _ 0 ZP.rf (by omega) (by omega) (fun E i2 hZ => r_bot_M (D0 := (xui (xui (xui D1 480 (95 + K 13 0).toNat p) 488 (K 13 0).toNat d) 489 (K 13 0).toNat c)) hR (K 13 0) (by omega) (by omega) hB7 p d c i2 hZ (fun E2 hZ2 r m2 h => ?_))
          obtain ⟨h1, D', h2, h3⟩ := h
          exact ⟨h1, D', h2, h3 ▸ bot_PV hP0 q hI hN hZ2⟩
        · refine xx_iconst (q := 45) rfl rfl (by decide) ?_
          refine xx_iret rfl trivial ⟨congrArg (fun z => some (Sum.inl z)) (by rw [if_neg (show ¬ botP K p d c by omega)]), _, rfl, ?_⟩
          have q : ¬ botP K p d c := by omega
          unfold botK tldU
          rw [if_neg q, if_neg q]
          exact hP0
