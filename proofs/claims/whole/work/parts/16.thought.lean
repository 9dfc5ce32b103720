/-! A canal is copied; a canal in thought: passings, presents, pulls, hours. -/
theorem nbl (a b : Nat) : (Nat.ble a b = true) = (a ≤ b) := propext ⟨Nat.le_of_ble_eq_true, Nat.ble_eq_true_of_le⟩
theorem nbq (a b : Nat) : (Nat.beq a b = true) = (a = b) := propext ⟨Nat.eq_of_beq_eq_true, fun h => h ▸ Nat.beq_refl a⟩
def CQ (a : Nat) (K : KK) (p : Nat → Nat → Bool) (D : KK) : Prop := ∀ o k, p o k = true → k < cln K o → D (a + o) k = K o k
theorem CQ_0 {a : Nat} {K D : KK} : CQ a K (fun _ _ => false) D := fun _ _ h => by cases h
theorem CQ_up {a : Nat} {K D : KK} {p : Nat → Nat → Bool} (h : CQ a K p D) {o j : Nat} {v : Int} (hv : v = K o j) : CQ a K (fun o2 k2 => (Nat.beq o2 o && Nat.beq k2 j) || p o2 k2) (xui D (a + o) j v) := by
  intro o2 k2 h1 h2
  rcases Classical.em (o2 = o ∧ k2 = j) with ⟨rfl, rfl⟩ | q
  · rw [xui_s, hv]
  · have h3 : p o2 k2 = true := by
      rcases Bool.or_eq_true _ _ ▸ h1 with h3 | h3
      · have := Bool.and_eq_true _ _ ▸ h3
        exact absurd ⟨Nat.eq_of_beq_eq_true this.1, Nat.eq_of_beq_eq_true this.2⟩ q
      · exact h3
    have e : xui D (a + o) j v (a + o2) k2 = D (a + o2) k2 := if_neg (fun r => q ⟨by omega, r.2⟩)
    rw [e]
    exact h o2 k2 h3 h2
theorem CQ_cp {a b : Nat} {K D : KK} {p : Nat → Nat → Bool} (h : CQ a K p D) (hb : CK b K D) {o N : Nat} (hN : cln K o ≤ N) : CQ a K (fun o2 k2 => Nat.beq o2 o || p o2 k2) (xcp D (b + o) 0 (a + o) 0 N) := by
  intro o2 k2 h1 h2
  rcases Classical.em (o2 = o) with rfl | q
  · show (if a + o2 = a + o2 ∧ 0 ≤ k2 ∧ k2 < 0 + N then D (b + o2) (0 + (k2 - 0)) else D (a + o2) k2) = _
    rw [if_pos ⟨rfl, by omega, by omega⟩, show 0 + (k2 - 0) = k2 by omega]
    exact hb o2 k2 h2
  · have h3 : p o2 k2 = true := by
      rcases Bool.or_eq_true _ _ ▸ h1 with h3 | h3
      · exact absurd (Nat.eq_of_beq_eq_true h3) q
      · exact h3
    show (if a + o2 = a + o ∧ 0 ≤ k2 ∧ k2 < 0 + N then D (b + o) (0 + (k2 - 0)) else D (a + o2) k2) = _
    rw [if_neg (fun r => q (by omega))]
    exact h o2 k2 h3 h2
theorem CK_far {a b : Nat} {K D E : KK} (h : CK b K D) (hab : a + 19 ≤ b ∨ b + 19 ≤ a) (g : ∀ x k, (x < a ∨ a + 19 ≤ x) → E x k = D x k) : CK b K E := CK_fr h (fun o k ho => g _ _ (by omega))
theorem isC_ab {a b : Nat} (ha : isC a) (hb : isC b) (h : a ≠ b) : a + 19 ≤ b ∨ b + 19 ≤ a := by
  unfold isC at ha hb
  simp only [List.mem_cons, List.not_mem_nil, or_false] at ha hb
  omega
section XXq
variable {C : XCal} {i : Nat} {Q : XQ} {pc q : Nat} {loc : XLc} {st : List XV} {sh : List (Nat × Nat)} {rf : Nat → Nat → Option Nat} {dt d0 K : KK} {a b : Nat} {p : Nat → Nat → Bool}
theorem xq_puz {idx o ci kf pl N : Nat} {z : Int} (hK : CK b K dt) (hQ : CQ a K p dt) (hF : Fr a d0 dt) (hab : a + 19 ≤ b ∨ b + 19 ≤ a) (h : xi i pc = some (.putfield idx, 3)) (hq : pc + 3 = q) (hl : xlk (xfo (xow i)) idx = some (ci, kf, pl)) (hs : sh[a + o]? = some (ci + 2, N)) (hk : kf < N) (hc : ci < 13) (hf : xff ci kf = true → xow i = ci ∧ (xpl i).2.2.2.2 = 3) (ht : xft ci kf = 0 ∨ (xft ci kf = 1 ∧ (z = 0 ∨ z = 1))) (ho : o < 19) (hz : z = K o kf) (k : ∀ d2, CK b K d2 → CQ a K (fun o2 k2 => (Nat.beq o2 o && Nat.beq k2 kf) || p o2 k2) d2 → Fr a d0 d2 → XX C i Q q loc st (sh, rf, d2)) : XX C i Q pc loc (.inl z :: .inr (some (a + o)) :: st) (sh, rf, dt) := xx_puz h hq hl hs hk hc hf ht rfl (k _ (CK_far hK hab (fun x k hx => xui_a (by omega))) (CQ_up hQ hz) (hF.up ho))
theorem xq_copy {idx o j pl N : Nat} {rest : List XV} (hK : CK b K dt) (hQ : CQ a K p dt) (hF : Fr a d0 dt) (hab : a + 19 ≤ b ∨ b + 19 ≤ a) (h : xi i pc = some (.invokestatic idx, 3)) (hq : pc + 3 = q) (hl : xlk (xmo (xow i)) idx = some (7, j, pl)) (ha : sh[b + o]? = some (0, N)) (hb : sh[a + o]? = some (0, N)) (hN : cln K o ≤ N) (ho : o < 19) (hr : rest.length ≤ 8) (k : ∀ d2, CK b K d2 → CQ a K (fun o2 k2 => Nat.beq o2 o || p o2 k2) d2 → Fr a d0 d2 → XX C i Q q loc rest (sh, rf, d2)) : XX C i Q pc loc (.inl (N : Int) :: .inl 0 :: .inr (some (a + o)) :: .inl 0 :: .inr (some (b + o)) :: rest) (sh, rf, dt) := xx_copy (zn := N) (dn := 0) (sn := 0) h hq hl ha hb rfl rfl rfl (by omega) (by omega) hr (k _ (CK_far hK hab (fun x k hx => if_neg (fun r => by omega))) (CQ_cp hQ hK hN) (fun x k h1 h2 h3 => (show xcp dt (b + o) 0 (a + o) 0 N x k = dt x k from if_neg (fun r => by omega)).trans (hF x k h1 h2 h3)))
end XXq
set_option maxHeartbeats 1000000 in
theorem c_kcopy {n a b : Nat} {R : Nat → Nat → Option Nat} {D K : KK} {p : Nat → Nat → Bool} (hR : RF R) (ha : isC a) (hb : isC b) (hab : a + 19 ≤ b ∨ b + 19 ≤ a) (hK : CK b K D) (hI : KI K) (hQ : CQ a K p D) : ∃ D', XC 1 51 [.inr (some (a + 7)), .inr (some (b + 7))] (xS n, R, D) none (xS n, R, D') ∧ CK b K D' ∧ CQ a K (fun o k => (Nat.ble 8 o && Nat.ble o 12) || p o k) D' ∧ Fr a D D' := by
  refine XE_of (Nat.le_of_ble_eq_true rfl) (Nat.le_of_ble_eq_true rfl) (loc := [_, _]) rfl ?_
  refine xx_aload_n (q := 1) rfl rfl rfl ?_
  refine xx_getR (q := 4) rfl rfl rfl (xSc_7 hb) (Nat.le_of_ble_eq_true rfl) rfl (rc_mood hR hb) ?_
  refine xx_iconst (q := 5) rfl rfl (by decide) ?_
  refine xx_aload_n (q := 6) rfl rfl rfl ?_
  refine xx_getR (q := 9) rfl rfl rfl (xSc_7 ha) (Nat.le_of_ble_eq_true rfl) rfl (rc_mood hR ha) ?_
  refine xx_iconst (q := 10) rfl rfl (by decide) ?_
  refine xx_aload_n (q := 11) rfl rfl rfl ?_
  refine xx_getR (q := 14) rfl rfl rfl (xSc_7 ha) (Nat.le_of_ble_eq_true rfl) rfl (rc_mood hR ha) ?_
  refine xx_alen (q := 15) rfl rfl (xSc_8 ha) (by decide) (Nat.le_of_ble_eq_true rfl) ?_
  refine xq_copy (o := 8) hK hQ Fr.rf hab (q := 18) (N := 9) rfl rfl rfl (xSc_8 hb) (xSc_8 ha) (show _ ≤ _ by exact Nat.le_refl _) (by decide) (Nat.le_of_ble_eq_true rfl) (fun D1 hK1 hQ1 hF1 => ?_)
  refine xx_aload_n (q := 19) rfl rfl rfl ?_
  refine xx_getR (q := 22) rfl rfl rfl (xSc_7 hb) (Nat.le_of_ble_eq_true rfl) rfl (rc_rival hR hb) ?_
  refine xx_iconst (q := 23) rfl rfl (by decide) ?_
  refine xx_aload_n (q := 24) rfl rfl rfl ?_
  refine xx_getR (q := 27) rfl rfl rfl (xSc_7 ha) (Nat.le_of_ble_eq_true rfl) rfl (rc_rival hR ha) ?_
  refine xx_iconst (q := 28) rfl rfl (by decide) ?_
  refine xx_aload_n (q := 29) rfl rfl rfl ?_
  refine xx_getR (q := 32) rfl rfl rfl (xSc_7 ha) (Nat.le_of_ble_eq_true rfl) rfl (rc_rival hR ha) ?_
  refine xx_alen (q := 33) rfl rfl (xSc_9 ha) (by decide) (Nat.le_of_ble_eq_true rfl) ?_
  refine xq_copy (o := 9) hK1 hQ1 hF1 hab (q := 36) (N := 9) rfl rfl rfl (xSc_9 hb) (xSc_9 ha) (show _ ≤ _ by exact Nat.le_refl _) (by decide) (Nat.le_of_ble_eq_true rfl) (fun D2 hK2 hQ2 hF2 => ?_)
  refine xx_aload_n (q := 37) rfl rfl rfl ?_
  refine xx_getR (q := 40) rfl rfl rfl (xSc_7 hb) (Nat.le_of_ble_eq_true rfl) rfl (rc_presents hR hb) ?_
  refine xx_iconst (q := 41) rfl rfl (by decide) ?_
  refine xx_aload_n (q := 42) rfl rfl rfl ?_
  refine xx_getR (q := 45) rfl rfl rfl (xSc_7 ha) (Nat.le_of_ble_eq_true rfl) rfl (rc_presents hR ha) ?_
  refine xx_iconst (q := 46) rfl rfl (by decide) ?_
  refine xx_aload_n (q := 47) rfl rfl rfl ?_
  refine xx_getR (q := 50) rfl rfl rfl (xSc_7 ha) (Nat.le_of_ble_eq_true rfl) rfl (rc_presents hR ha) ?_
  refine xx_alen (q := 51) rfl rfl (xSc_10 ha) (by decide) (Nat.le_of_ble_eq_true rfl) ?_
  refine xq_copy (o := 10) hK2 hQ2 hF2 hab (q := 54) (N := 9) rfl rfl rfl (xSc_10 hb) (xSc_10 ha) (show _ ≤ _ by exact Nat.le_refl _) (by decide) (Nat.le_of_ble_eq_true rfl) (fun D3 hK3 hQ3 hF3 => ?_)
  refine xx_aload_n (q := 55) rfl rfl rfl ?_
  refine xx_getR (q := 58) rfl rfl rfl (xSc_7 hb) (Nat.le_of_ble_eq_true rfl) rfl (rc_taste hR hb) ?_
  refine xx_iconst (q := 59) rfl rfl (by decide) ?_
  refine xx_aload_n (q := 60) rfl rfl rfl ?_
  refine xx_getR (q := 63) rfl rfl rfl (xSc_7 ha) (Nat.le_of_ble_eq_true rfl) rfl (rc_taste hR ha) ?_
  refine xx_iconst (q := 64) rfl rfl (by decide) ?_
  refine xx_aload_n (q := 65) rfl rfl rfl ?_
  refine xx_getR (q := 68) rfl rfl rfl (xSc_7 ha) (Nat.le_of_ble_eq_true rfl) rfl (rc_taste hR ha) ?_
  refine xx_alen (q := 69) rfl rfl (xSc_11 ha) (by decide) (Nat.le_of_ble_eq_true rfl) ?_
  refine xq_copy (o := 11) hK3 hQ3 hF3 hab (q := 72) (N := 36) rfl rfl rfl (xSc_11 hb) (xSc_11 ha) (show _ ≤ _ by exact Nat.le_refl _) (by decide) (Nat.le_of_ble_eq_true rfl) (fun D4 hK4 hQ4 hF4 => ?_)
  refine xx_aload_n (q := 73) rfl rfl rfl ?_
  refine xx_getR (q := 76) rfl rfl rfl (xSc_7 hb) (Nat.le_of_ble_eq_true rfl) rfl (rc_liking hR hb) ?_
  refine xx_iconst (q := 77) rfl rfl (by decide) ?_
  refine xx_aload_n (q := 78) rfl rfl rfl ?_
  refine xx_getR (q := 81) rfl rfl rfl (xSc_7 ha) (Nat.le_of_ble_eq_true rfl) rfl (rc_liking hR ha) ?_
  refine xx_iconst (q := 82) rfl rfl (by decide) ?_
  refine xx_aload_n (q := 83) rfl rfl rfl ?_
  refine xx_getR (q := 86) rfl rfl rfl (xSc_7 ha) (Nat.le_of_ble_eq_true rfl) rfl (rc_liking hR ha) ?_
  refine xx_alen (q := 87) rfl rfl (xSc_12 ha) (by decide) (Nat.le_of_ble_eq_true rfl) ?_
  refine xq_copy (o := 12) hK4 hQ4 hF4 hab (q := 90) (N := 54) rfl rfl rfl (xSc_12 hb) (xSc_12 ha) (show _ ≤ _ by exact Nat.le_refl _) (by decide) (Nat.le_of_ble_eq_true rfl) (fun D5 hK5 hQ5 hF5 => ?_)
  refine xx_vret rfl rfl ⟨rfl, _, rfl, ?_⟩
  refine ⟨hK5, fun o k h1 h2 => hQ5 o k ?_ h2, hF5⟩
  simp only [Bool.or_eq_true, Bool.and_eq_true, nbq, nbl] at h1 ⊢
  grind
set_option maxHeartbeats 1000000 in
theorem c_fcopy {n a b : Nat} {R : Nat → Nat → Option Nat} {D K : KK} {p : Nat → Nat → Bool} (hR : RF R) (ha : isC a) (hb : isC b) (hab : a + 19 ≤ b ∨ b + 19 ≤ a) (hK : CK b K D) (hI : KI K) (hQ : CQ a K p D) : ∃ D', XC 1 31 [.inr (some (a + 13)), .inr (some (b + 13))] (xS n, R, D) none (xS n, R, D') ∧ CK b K D' ∧ CQ a K (fun o k => (Nat.ble 13 o && Nat.ble o 17) || p o k) D' ∧ Fr a D D' := by
  refine XE_of (Nat.le_of_ble_eq_true rfl) (Nat.le_of_ble_eq_true rfl) (loc := [_, _]) rfl ?_
  refine xx_aload_n (q := 1) rfl rfl rfl ?_
  refine xx_aload_n (q := 2) rfl rfl rfl ?_
  refine xx_gez (v := K 13 0) (q := 5) rfl rfl rfl (xSc_13 hb) (Nat.le_of_ble_eq_true rfl) rfl (hK 13 0 (Nat.le_of_ble_eq_true rfl)) ?_
  have hb1 : 0 ≤ K 13 0 ∧ K 13 0 ≤ 6 := by have h := ki_B hI; exact h
  refine xq_puz (o := 13) hK hQ Fr.rf hab (q := 8) rfl rfl rfl (xSc_13 ha) (Nat.le_of_ble_eq_true rfl) (Nat.le_of_ble_eq_true rfl) (fun h => by cases h) (Or.inl rfl) (by decide) rfl (fun D2 hK2 hQ2 hF2 => ?_)
  refine xx_aload_n (q := 9) rfl rfl rfl ?_
  refine xx_getR (q := 12) rfl rfl rfl (xSc_13 hb) (Nat.le_of_ble_eq_true rfl) rfl (rc_where hR hb) ?_
  refine xx_iconst (q := 13) rfl rfl (by decide) ?_
  refine xx_aload_n (q := 14) rfl rfl rfl ?_
  refine xx_getR (q := 17) rfl rfl rfl (xSc_13 ha) (Nat.le_of_ble_eq_true rfl) rfl (rc_where hR ha) ?_
  refine xx_iconst (q := 18) rfl rfl (by decide) ?_
  refine xx_aload_n (q := 19) rfl rfl rfl ?_
  refine xx_getR (q := 22) rfl rfl rfl (xSc_13 ha) (Nat.le_of_ble_eq_true rfl) rfl (rc_where hR ha) ?_
  refine xx_alen (q := 23) rfl rfl (xSc_14 ha) (by decide) (Nat.le_of_ble_eq_true rfl) ?_
  refine xq_copy (o := 14) hK2 hQ2 hF2 hab (q := 26) (N := 6) rfl rfl rfl (xSc_14 hb) (xSc_14 ha) (show (K 13 0).toNat ≤ 6 by have := ki_B hI; omega) (by decide) (Nat.le_of_ble_eq_true rfl) (fun D3 hK3 hQ3 hF3 => ?_)
  refine xx_aload_n (q := 27) rfl rfl rfl ?_
  refine xx_getR (q := 30) rfl rfl rfl (xSc_13 hb) (Nat.le_of_ble_eq_true rfl) rfl (rc_draught hR hb) ?_
  refine xx_iconst (q := 31) rfl rfl (by decide) ?_
  refine xx_aload_n (q := 32) rfl rfl rfl ?_
  refine xx_getR (q := 35) rfl rfl rfl (xSc_13 ha) (Nat.le_of_ble_eq_true rfl) rfl (rc_draught hR ha) ?_
  refine xx_iconst (q := 36) rfl rfl (by decide) ?_
  refine xx_aload_n (q := 37) rfl rfl rfl ?_
  refine xx_getR (q := 40) rfl rfl rfl (xSc_13 ha) (Nat.le_of_ble_eq_true rfl) rfl (rc_draught hR ha) ?_
  refine xx_alen (q := 41) rfl rfl (xSc_15 ha) (by decide) (Nat.le_of_ble_eq_true rfl) ?_
  refine xq_copy (o := 15) hK3 hQ3 hF3 hab (q := 44) (N := 6) rfl rfl rfl (xSc_15 hb) (xSc_15 ha) (show _ ≤ _ by exact Nat.le_refl _) (by decide) (Nat.le_of_ble_eq_true rfl) (fun D4 hK4 hQ4 hF4 => ?_)
  refine xx_aload_n (q := 45) rfl rfl rfl ?_
  refine xx_getR (q := 48) rfl rfl rfl (xSc_13 hb) (Nat.le_of_ble_eq_true rfl) rfl (rc_broad hR hb) ?_
  refine xx_iconst (q := 49) rfl rfl (by decide) ?_
  refine xx_aload_n (q := 50) rfl rfl rfl ?_
  refine xx_getR (q := 53) rfl rfl rfl (xSc_13 ha) (Nat.le_of_ble_eq_true rfl) rfl (rc_broad hR ha) ?_
  refine xx_iconst (q := 54) rfl rfl (by decide) ?_
  refine xx_aload_n (q := 55) rfl rfl rfl ?_
  refine xx_getR (q := 58) rfl rfl rfl (xSc_13 ha) (Nat.le_of_ble_eq_true rfl) rfl (rc_broad hR ha) ?_
  refine xx_alen (q := 59) rfl rfl (xSc_16 ha) (by decide) (Nat.le_of_ble_eq_true rfl) ?_
  refine xq_copy (o := 16) hK4 hQ4 hF4 hab (q := 62) (N := 6) rfl rfl rfl (xSc_16 hb) (xSc_16 ha) (show _ ≤ _ by exact Nat.le_refl _) (by decide) (Nat.le_of_ble_eq_true rfl) (fun D5 hK5 hQ5 hF5 => ?_)
  refine xx_aload_n (q := 63) rfl rfl rfl ?_
  refine xx_getR (q := 66) rfl rfl rfl (xSc_13 hb) (Nat.le_of_ble_eq_true rfl) rfl (rc_cargo hR hb) ?_
  refine xx_iconst (q := 67) rfl rfl (by decide) ?_
  refine xx_aload_n (q := 68) rfl rfl rfl ?_
  refine xx_getR (q := 71) rfl rfl rfl (xSc_13 ha) (Nat.le_of_ble_eq_true rfl) rfl (rc_cargo hR ha) ?_
  refine xx_iconst (q := 72) rfl rfl (by decide) ?_
  refine xx_aload_n (q := 73) rfl rfl rfl ?_
  refine xx_getR (q := 76) rfl rfl rfl (xSc_13 ha) (Nat.le_of_ble_eq_true rfl) rfl (rc_cargo hR ha) ?_
  refine xx_alen (q := 77) rfl rfl (xSc_17 ha) (by decide) (Nat.le_of_ble_eq_true rfl) ?_
  refine xq_copy (o := 17) hK5 hQ5 hF5 hab (q := 80) (N := 24) rfl rfl rfl (xSc_17 hb) (xSc_17 ha) (show _ ≤ _ by exact Nat.le_refl _) (by decide) (Nat.le_of_ble_eq_true rfl) (fun D6 hK6 hQ6 hF6 => ?_)
  refine xx_vret rfl rfl ⟨rfl, _, rfl, ?_⟩
  refine ⟨hK6, fun o k h1 h2 => hQ6 o k ?_ h2, hF6⟩
  have h3 : o = 13 → k = 0 := fun e => by subst e; have h4 : k < 1 := h2; omega
  simp only [Bool.or_eq_true, Bool.and_eq_true, nbq, nbl] at h1 ⊢
  grind
set_option maxHeartbeats 1000000 in
theorem c_copy {n a b : Nat} {R : Nat → Nat → Option Nat} {D K : KK} (hR : RF R) (ha : isC a) (hb : isC b) (hne : a ≠ b) (hK : CK b K D) (hI : KI K) : ∃ D', XC 2 9 [.inr (some a), .inr (some b)] (xS n, R, D) none (xS n, R, D') ∧ CK a K D' ∧ Fr a D D' := by
  have hab := isC_ab ha hb hne
  have hQ := CQ_0 (a := a) (K := K) (D := D)
  refine XE_of (Nat.le_of_ble_eq_true rfl) (Nat.le_of_ble_eq_true rfl) (loc := [_, _]) rfl ?_
  refine xx_aload_n (q := 1) rfl rfl rfl ?_
  refine xx_aload_n (q := 2) rfl rfl rfl ?_
  refine xx_gez (v := K 0 0) (q := 5) rfl rfl rfl (xSc_0 hb) (Nat.le_of_ble_eq_true rfl) rfl (hK 0 0 (Nat.le_of_ble_eq_true rfl)) ?_
  have hb1 : 1 ≤ K 0 0 ∧ K 0 0 ≤ 9 := by have h := ki_L hI; exact h
  refine xq_puz (o := 0) hK hQ Fr.rf hab (q := 8) rfl rfl rfl (xSc_0 ha) (Nat.le_of_ble_eq_true rfl) (Nat.le_of_ble_eq_true rfl) (fun h => by cases h) (Or.inl rfl) (by decide) rfl (fun D2 hK2 hQ2 hF2 => ?_)
  refine xx_aload_n (q := 9) rfl rfl rfl ?_
  refine xx_aload_n (q := 10) rfl rfl rfl ?_
  refine xx_gez (v := K 0 1) (q := 13) rfl rfl rfl (xSc_0 hb) (Nat.le_of_ble_eq_true rfl) rfl (hK2 0 1 (Nat.le_of_ble_eq_true rfl)) ?_
  refine xq_puz (o := 0) hK2 hQ2 hF2 hab (q := 16) rfl rfl rfl (xSc_0 ha) (Nat.le_of_ble_eq_true rfl) (Nat.le_of_ble_eq_true rfl) (fun h => by cases h) (Or.inl rfl) (by decide) rfl (fun D3 hK3 hQ3 hF3 => ?_)
  refine xx_aload_n (q := 17) rfl rfl rfl ?_
  refine xx_aload_n (q := 18) rfl rfl rfl ?_
  refine xx_gez (v := K 0 2) (q := 21) rfl rfl rfl (xSc_0 hb) (Nat.le_of_ble_eq_true rfl) rfl (hK3 0 2 (Nat.le_of_ble_eq_true rfl)) ?_
  refine xq_puz (o := 0) hK3 hQ3 hF3 hab (q := 24) rfl rfl rfl (xSc_0 ha) (Nat.le_of_ble_eq_true rfl) (Nat.le_of_ble_eq_true rfl) (fun h => by cases h) (Or.inl rfl) (by decide) rfl (fun D4 hK4 hQ4 hF4 => ?_)
  refine xx_aload_n (q := 25) rfl rfl rfl ?_
  refine xx_aload_n (q := 26) rfl rfl rfl ?_
  refine xx_gez (v := K 0 3) (q := 29) rfl rfl rfl (xSc_0 hb) (Nat.le_of_ble_eq_true rfl) rfl (hK4 0 3 (Nat.le_of_ble_eq_true rfl)) ?_
  refine xq_puz (o := 0) hK4 hQ4 hF4 hab (q := 32) rfl rfl rfl (xSc_0 ha) (Nat.le_of_ble_eq_true rfl) (Nat.le_of_ble_eq_true rfl) (fun h => by cases h) (Or.inl rfl) (by decide) rfl (fun D5 hK5 hQ5 hF5 => ?_)
  refine xx_aload_n (q := 33) rfl rfl rfl ?_
  refine xx_getR (q := 36) rfl rfl rfl (xSc_0 hb) (Nat.le_of_ble_eq_true rfl) rfl (rc_depth hR hb) ?_
  refine xx_iconst (q := 37) rfl rfl (by decide) ?_
  refine xx_aload_n (q := 38) rfl rfl rfl ?_
  refine xx_getR (q := 41) rfl rfl rfl (xSc_0 ha) (Nat.le_of_ble_eq_true rfl) rfl (rc_depth hR ha) ?_
  refine xx_iconst (q := 42) rfl rfl (by decide) ?_
  refine xx_aload_n (q := 43) rfl rfl rfl ?_
  refine xx_getR (q := 46) rfl rfl rfl (xSc_0 ha) (Nat.le_of_ble_eq_true rfl) rfl (rc_depth hR ha) ?_
  refine xx_alen (q := 47) rfl rfl (xSc_1 ha) (by decide) (Nat.le_of_ble_eq_true rfl) ?_
  refine xq_copy (o := 1) hK5 hQ5 hF5 hab (q := 50) (N := 10) rfl rfl rfl (xSc_1 hb) (xSc_1 ha) (show _ ≤ _ by exact Nat.le_refl _) (by decide) (Nat.le_of_ble_eq_true rfl) (fun D6 hK6 hQ6 hF6 => ?_)
  refine xx_aload_n (q := 51) rfl rfl rfl ?_
  refine xx_getR (q := 54) rfl rfl rfl (xSc_0 hb) (Nat.le_of_ble_eq_true rfl) rfl (rc_fill hR hb) ?_
  refine xx_iconst (q := 55) rfl rfl (by decide) ?_
  refine xx_aload_n (q := 56) rfl rfl rfl ?_
  refine xx_getR (q := 59) rfl rfl rfl (xSc_0 ha) (Nat.le_of_ble_eq_true rfl) rfl (rc_fill hR ha) ?_
  refine xx_iconst (q := 60) rfl rfl (by decide) ?_
  refine xx_aload_n (q := 61) rfl rfl rfl ?_
  refine xx_getR (q := 64) rfl rfl rfl (xSc_0 ha) (Nat.le_of_ble_eq_true rfl) rfl (rc_fill hR ha) ?_
  refine xx_alen (q := 65) rfl rfl (xSc_2 ha) (by decide) (Nat.le_of_ble_eq_true rfl) ?_
  refine xq_copy (o := 2) hK6 hQ6 hF6 hab (q := 68) (N := 9) rfl rfl rfl (xSc_2 hb) (xSc_2 ha) (show _ ≤ _ by exact Nat.le_refl _) (by decide) (Nat.le_of_ble_eq_true rfl) (fun D7 hK7 hQ7 hF7 => ?_)
  refine xx_aload_n (q := 69) rfl rfl rfl ?_
  refine xx_getR (q := 72) rfl rfl rfl (xSc_0 hb) (Nat.le_of_ble_eq_true rfl) rfl (rc_leak hR hb) ?_
  refine xx_iconst (q := 73) rfl rfl (by decide) ?_
  refine xx_aload_n (q := 74) rfl rfl rfl ?_
  refine xx_getR (q := 77) rfl rfl rfl (xSc_0 ha) (Nat.le_of_ble_eq_true rfl) rfl (rc_leak hR ha) ?_
  refine xx_iconst (q := 78) rfl rfl (by decide) ?_
  refine xx_aload_n (q := 79) rfl rfl rfl ?_
  refine xx_getR (q := 82) rfl rfl rfl (xSc_0 ha) (Nat.le_of_ble_eq_true rfl) rfl (rc_leak hR ha) ?_
  refine xx_alen (q := 83) rfl rfl (xSc_3 ha) (by decide) (Nat.le_of_ble_eq_true rfl) ?_
  refine xq_copy (o := 3) hK7 hQ7 hF7 hab (q := 86) (N := 9) rfl rfl rfl (xSc_3 hb) (xSc_3 ha) (show _ ≤ _ by exact Nat.le_refl _) (by decide) (Nat.le_of_ble_eq_true rfl) (fun D8 hK8 hQ8 hF8 => ?_)
  refine xx_aload_n (q := 87) rfl rfl rfl ?_
  refine xx_getR (q := 90) rfl rfl rfl (xSc_0 hb) (Nat.le_of_ble_eq_true rfl) rfl (rc_wide hR hb) ?_
  refine xx_iconst (q := 91) rfl rfl (by decide) ?_
  refine xx_aload_n (q := 92) rfl rfl rfl ?_
  refine xx_getR (q := 95) rfl rfl rfl (xSc_0 ha) (Nat.le_of_ble_eq_true rfl) rfl (rc_wide hR ha) ?_
  refine xx_iconst (q := 96) rfl rfl (by decide) ?_
  refine xx_aload_n (q := 97) rfl rfl rfl ?_
  refine xx_getR (q := 100) rfl rfl rfl (xSc_0 ha) (Nat.le_of_ble_eq_true rfl) rfl (rc_wide hR ha) ?_
  refine xx_alen (q := 101) rfl rfl (xSc_4 ha) (by decide) (Nat.le_of_ble_eq_true rfl) ?_
  refine xq_copy (o := 4) hK8 hQ8 hF8 hab (q := 104) (N := 9) rfl rfl rfl (xSc_4 hb) (xSc_4 ha) (show _ ≤ _ by exact Nat.le_refl _) (by decide) (Nat.le_of_ble_eq_true rfl) (fun D9 hK9 hQ9 hF9 => ?_)
  refine xx_aload_n (q := 105) rfl rfl rfl ?_
  refine xx_getR (q := 108) rfl rfl rfl (xSc_0 hb) (Nat.le_of_ble_eq_true rfl) rfl (rc_passes hR hb) ?_
  refine xx_iconst (q := 109) rfl rfl (by decide) ?_
  refine xx_aload_n (q := 110) rfl rfl rfl ?_
  refine xx_getR (q := 113) rfl rfl rfl (xSc_0 ha) (Nat.le_of_ble_eq_true rfl) rfl (rc_passes hR ha) ?_
  refine xx_iconst (q := 114) rfl rfl (by decide) ?_
  refine xx_aload_n (q := 115) rfl rfl rfl ?_
  refine xx_getR (q := 118) rfl rfl rfl (xSc_0 ha) (Nat.le_of_ble_eq_true rfl) rfl (rc_passes hR ha) ?_
  refine xx_alen (q := 119) rfl rfl (xSc_5 ha) (by decide) (Nat.le_of_ble_eq_true rfl) ?_
  refine xq_copy (o := 5) hK9 hQ9 hF9 hab (q := 122) (N := 9) rfl rfl rfl (xSc_5 hb) (xSc_5 ha) (show _ ≤ _ by exact Nat.le_refl _) (by decide) (Nat.le_of_ble_eq_true rfl) (fun D10 hK10 hQ10 hF10 => ?_)
  refine xx_aload_n (q := 123) rfl rfl rfl ?_
  refine xx_getR (q := 126) rfl rfl rfl (xSc_0 hb) (Nat.le_of_ble_eq_true rfl) rfl (rc_weather hR hb) ?_
  refine xx_iconst (q := 127) rfl rfl (by decide) ?_
  refine xx_aload_n (q := 128) rfl rfl rfl ?_
  refine xx_getR (q := 131) rfl rfl rfl (xSc_0 ha) (Nat.le_of_ble_eq_true rfl) rfl (rc_weather hR ha) ?_
  refine xx_iconst (q := 132) rfl rfl (by decide) ?_
  refine xx_aload_n (q := 133) rfl rfl rfl ?_
  refine xx_getR (q := 136) rfl rfl rfl (xSc_0 ha) (Nat.le_of_ble_eq_true rfl) rfl (rc_weather hR ha) ?_
  refine xx_alen (q := 137) rfl rfl (xSc_6 ha) (by decide) (Nat.le_of_ble_eq_true rfl) ?_
  refine xq_copy (o := 6) hK10 hQ10 hF10 hab (q := 140) (N := 5) rfl rfl rfl (xSc_6 hb) (xSc_6 ha) (show _ ≤ _ by exact Nat.le_refl _) (by decide) (Nat.le_of_ble_eq_true rfl) (fun D11 hK11 hQ11 hF11 => ?_)
  refine xx_aload_n (q := 141) rfl rfl rfl ?_
  refine xx_getR (q := 144) rfl rfl rfl (xSc_0 ha) (Nat.le_of_ble_eq_true rfl) rfl (rc_keepers hR ha) ?_
  refine xx_aload_n (q := 145) rfl rfl rfl ?_
  refine xx_getR (q := 148) rfl rfl rfl (xSc_0 hb) (Nat.le_of_ble_eq_true rfl) rfl (rc_keepers hR hb) ?_
  obtain ⟨D12, hx12, hK12, hQ12, hG12⟩ := c_kcopy (n := n) hR ha hb hab hK11 hI hQ11
  have hF12 := hF11.trans hG12
  refine xx_callV (q := 151) (As := [_]) (rest := []) rfl rfl rfl (Or.inl rfl) rfl rfl (Nat.le_of_ble_eq_true rfl) (xSc_7 ha) (XCm hx12 rfl) rfl ?_
  refine xx_aload_n (q := 152) rfl rfl rfl ?_
  refine xx_getR (q := 155) rfl rfl rfl (xSc_0 ha) (Nat.le_of_ble_eq_true rfl) rfl (rc_fleet hR ha) ?_
  refine xx_aload_n (q := 156) rfl rfl rfl ?_
  refine xx_getR (q := 159) rfl rfl rfl (xSc_0 hb) (Nat.le_of_ble_eq_true rfl) rfl (rc_fleet hR hb) ?_
  obtain ⟨D13, hx13, hK13, hQ13, hG13⟩ := c_fcopy (n := n) hR ha hb hab hK12 hI hQ12
  have hF13 := hF12.trans hG13
  refine xx_callV (q := 162) (As := [_]) (rest := []) rfl rfl rfl (Or.inl rfl) rfl rfl (Nat.le_of_ble_eq_true rfl) (xSc_13 ha) (XCm hx13 rfl) rfl ?_
  refine xx_vret rfl rfl ⟨rfl, _, rfl, ?_⟩
  refine ⟨fun o k hk => hQ13 o k ?_ hk, hF13⟩
  have h0 : o = 0 → k < 4 := fun e => by subst e; exact hk
  have h1 : ¬ o = 7 := fun e => by subst e; exact absurd hk (Nat.not_lt_zero _)
  have h2 : o < 18 := by
    refine Decidable.byContradiction (fun q => ?_)
    unfold cln at hk
    split at hk <;> omega
  simp only [Bool.or_eq_true, Bool.and_eq_true, nbq, nbl]
  omega
set_option maxHeartbeats 1000000 in
theorem c_noteT {n c : Nat} {R : Nat → Nat → Option Nat} {D K : KK} (hR : RF R) (ht : isT c) (hK : CK c K D) (hI : KI K) (s l b a : Int) : ∃ D', XC 1 29 [.inr (some c), .inl s, .inl l, .inl b, .inl a] (xS n, R, D) none (xS n, R, D') ∧ CK c K D' ∧ Fr c D D' := by
  have hc := isT_C ht
  refine XE_of (Nat.le_of_ble_eq_true rfl) (Nat.le_of_ble_eq_true rfl) (loc := [_, _, _, _, _]) rfl ?_
  refine xx_aload_n (q := 1) rfl rfl rfl ?_
  refine xx_getR (q := 4) rfl rfl rfl (xSc_0 hc) (Nat.le_of_ble_eq_true rfl) rfl (rc_book hR ht) ?_
  refine xx_ifnullN (q := 23) rfl rfl ?_
  refine xx_vret rfl rfl ⟨rfl, _, rfl, ?_⟩
  exact ⟨hK, Fr.rf⟩
theorem itn {p : Prop} [Decidable p] {v x : Int} (hv : v ≠ 0) (h : (if p then v else x) = 0) : ¬ p ∧ x = 0 := by
  rcases Classical.em p with q | q
  · rw [if_pos q] at h; exact absurd h hv
  · rw [if_neg q] at h; exact ⟨q, h⟩
theorem refF_0 {K : KK} {G : LwF} {boat up wth : Int} (h : refF K G boat up wth = 0) : (0 ≤ boat ∧ boat < K 13 0) ∧ (0 ≤ lckF K (K 14 boat.toNat) up ∧ lckF K (K 14 boat.toNat) up < K 0 0) ∧ mateF K boat wth ∧ K 2 (lckF K (K 14 boat.toNat) up).toNat ≤ K 1 (lckF K (K 14 boat.toNat) up).toNat := by
  unfold refF at h
  obtain ⟨h1, h⟩ := itn (by decide) h
  obtain ⟨h2, h⟩ := itn (by decide) h
  obtain ⟨h3, h⟩ := itn (by decide) h
  obtain ⟨h4, h⟩ := itn (by decide) h
  obtain ⟨h5, h⟩ := itn (by decide) h
  have hl := lckF_b K (K 14 boat.toNat) up
  have h6 := not_or.mp h2
  exact ⟨Classical.not_not.mp h1, by omega, Classical.not_not.mp h6.2, by omega⟩
theorem refF_n {K : KK} {G : LwF} {boat up wth : Int} : refF K G boat up wth ≤ 0 ∧ -5 ≤ refF K G boat up wth := by
  unfold refF
  grind
def pasK (K : KK) (boat up wth : Int) : KK :=
  xui (if wth = -1 then xui (flowF K (lckF K (K 14 boat.toNat) up) (K 2 (lckF K (K 14 boat.toNat) up).toNat)) 14 boat.toNat (if up = 0 then lckF K (K 14 boat.toNat) up + 1 else lckF K (K 14 boat.toNat) up)
   else xui (xui (flowF K (lckF K (K 14 boat.toNat) up) (K 2 (lckF K (K 14 boat.toNat) up).toNat)) 14 boat.toNat (if up = 0 then lckF K (K 14 boat.toNat) up + 1 else lckF K (K 14 boat.toNat) up)) 14 wth.toNat (if up = 0 then lckF K (K 14 boat.toNat) up + 1 else lckF K (K 14 boat.toNat) up)) 5 (lckF K (K 14 boat.toNat) up).toNat (nrm (K 5 (lckF K (K 14 boat.toNat) up).toNat + 1))
def pasR (K : KK) (G : LwF) (boat up wth : Int) : Int := if refF K G boat up wth = 0 then lckF K (K 14 boat.toNat) up else refF K G boat up wth
def pasT (K : KK) (G : LwF) (boat up wth : Int) : KK := if refF K G boat up wth = 0 then pasK K boat up wth else K
def givK (K : KK) (Hh : LwF) (boat good amount lock : Int) : KK := xui (rcvF K lock boat (dlgF K Hh boat good amount lock)) 17 (boat * 4 + good).toNat (K 17 (boat * 4 + good).toNat - amount)
def givR (K : KK) (Hh : LwF) (boat good amount lock : Int) : Int := if canF K boat good amount lock then dlgF K Hh boat good amount lock else -1000
def givT (K : KK) (Hh : LwF) (boat good amount lock : Int) : KK := if canF K boat good amount lock then givK K Hh boat good amount lock else K
set_option maxHeartbeats 1000000 in
theorem c_passT {n c : Nat} {R : Nat → Nat → Option Nat} {D K : KK} (hR : RF R) (ht : isT c) (hK : CK c K D) (hI : KI K) {G : LwF} (hG : LwG G n R D) (boat up wth : Int) : ∃ D', XC 5 14 [.inr (some c), .inl boat, .inl up, .inl wth] (xS n, R, D) (some (.inl (pasR K G boat up wth))) (xS n, R, D') ∧ CK c (pasT K G boat up wth) D' ∧ Fr c D D' := by
  have hc := isT_C ht
  have hn := isT_N ht
  refine XE_of (Nat.le_of_ble_eq_true rfl) (Nat.le_of_ble_eq_true rfl) (loc := [_, _, _, _, _, _, _]) rfl ?_
  refine xx_aload_n (q := 1) rfl rfl rfl ?_
  refine xx_iload_n (q := 2) rfl rfl rfl ?_
  refine xx_iload_n (q := 3) rfl rfl rfl ?_
  refine xx_iload_n (q := 4) rfl rfl rfl ?_
  obtain ⟨D1, hx1, hK1, hG1⟩ := c_refusal (n := n) hR hn hK hI (LwG.fr hG Fr.rf hc) boat up wth
  have hF1 := Fr.rf.trans hG1
  refine xx_callV (q := 7) (As := [_, _, _]) (rest := []) rfl rfl rfl (Or.inl rfl) rfl rfl (Nat.le_of_ble_eq_true rfl) (xSc_0 hc) (XCm hx1 rfl) rfl ?_
  refine xx_istore (q := 9) (loc2 := [_, _, _, _, _, _, _]) rfl rfl (Nat.le_of_ble_eq_true rfl) rfl ?_
  refine xx_iload (q := 11) rfl rfl rfl ?_
  refine xx_if_eq (q := 17) (q2 := 14) rfl rfl rfl (fun h11 => ?_) (fun h11 => ?_)
  · have hr0 := refF_0 h11
    have hbB := ki_B hI
    have hbL := ki_L hI
    refine xx_aload_n (q := 18) rfl rfl rfl ?_
    refine xx_getR (q := 21) rfl rfl rfl (xSc_0 hc) (Nat.le_of_ble_eq_true rfl) rfl (rc_past hR ht) ?_
    refine xx_ifnullN (q := 32) rfl rfl ?_
    refine xx_aload_n (q := 33) rfl rfl rfl ?_
    refine xx_aload_n (q := 34) rfl rfl rfl ?_
    refine xx_getR (q := 37) rfl rfl rfl (xSc_0 hc) (Nat.le_of_ble_eq_true rfl) rfl (rc_fleet hR hc) ?_
    refine xx_getR (q := 40) rfl rfl rfl (xSc_13 hc) (Nat.le_of_ble_eq_true rfl) rfl (rc_where hR hc) ?_
    refine xx_iload_n (q := 41) rfl rfl rfl ?_
    refine xx_iaz (v := K 14 (boat).toNat) (q := 42) rfl rfl (xSc_14 hc) (by omega) (by omega) (ck_w hK1 (by omega) (by omega)) ?_
    have hb2 : 0 ≤ K 14 (boat).toNat ∧ K 14 (boat).toNat ≤ 9 := by have h := ki_14 hI (boat).toNat; exact h
    refine xx_iload_n (q := 43) rfl rfl rfl ?_
    refine xx_callV (q := 46) (As := [_, _]) (rest := []) rfl rfl rfl (Or.inl rfl) rfl rfl (Nat.le_of_ble_eq_true rfl) (xSc_0 hc) (XCm (c_lockOnWay hR hc hK1 hI (K 14 (boat).toNat) up (by omega) (by omega)) rfl) rfl ?_
    have hb3 := lckF_b K (K 14 (boat).toNat) up
    refine xx_istore (q := 48) (loc2 := [_, _, _, _, _, _, _]) rfl rfl (Nat.le_of_ble_eq_true rfl) rfl ?_
    refine xx_iload_n (q := 49) rfl rfl rfl ?_
    refine xx_if_eq (q := 57) (q2 := 52) rfl rfl rfl (fun h49 => ?_) (fun h49 => ?_)
    · refine xx_iload (q := 59) rfl rfl rfl ?_
      refine xx_iconst (q := 60) rfl rfl (by decide) ?_
      refine xx_iaddR (q := 61) rfl rfl (by omega) (by omega) ?_
      refine xx_istore (q := 63) (loc2 := [_, _, _, _, _, _, _]) rfl rfl (Nat.le_of_ble_eq_true rfl) rfl ?_
      refine xx_aload_n (q := 64) rfl rfl rfl ?_
      refine xx_iload (q := 66) rfl rfl rfl ?_
      refine xx_aload_n (q := 67) rfl rfl rfl ?_
      refine xx_getR (q := 70) rfl rfl rfl (xSc_0 hc) (Nat.le_of_ble_eq_true rfl) rfl (rc_fill hR hc) ?_
      refine xx_iload (q := 72) rfl rfl rfl ?_
      refine xx_iaz (v := K 2 (lckF K (K 14 (boat).toNat) up).toNat) (q := 73) rfl rfl (xSc_2 hc) (by omega) (by omega) (ck_a hK1 (o := 2) (N := 9) rfl (by omega) (by omega)) ?_
      have hb4 : 1 ≤ K 2 (lckF K (K 14 (boat).toNat) up).toNat ∧ K 2 (lckF K (K 14 (boat).toNat) up).toNat ≤ 50 := by have h := ki_2 hI (lckF K (K 14 (boat).toNat) up).toNat; exact h
      obtain ⟨D5, hx5, hK5, hG5⟩ := c_flow (n := n) hR hc hK1 hI (lckF K (K 14 (boat).toNat) up) (K 2 (lckF K (K 14 (boat).toNat) up).toNat) (by omega) (by omega) (by omega) (by omega) (by omega)
      have hF5 := hF1.trans hG5
      have hI5 : KI (flowF K (lckF K (K 14 (boat).toNat) up) (K 2 (lckF K (K 14 (boat).toNat) up).toNat)) := flowF_I hI (by omega) (by omega)
      refine xx_callV (q := 76) (As := [_, _]) (rest := []) rfl rfl rfl (Or.inl rfl) rfl rfl (Nat.le_of_ble_eq_true rfl) (xSc_0 hc) (XCm hx5 rfl) rfl ?_
      refine xx_aload_n (q := 77) rfl rfl rfl ?_
      refine xx_getR (q := 80) rfl rfl rfl (xSc_0 hc) (Nat.le_of_ble_eq_true rfl) rfl (rc_fleet hR hc) ?_
      refine xx_getR (q := 83) rfl rfl rfl (xSc_13 hc) (Nat.le_of_ble_eq_true rfl) rfl (rc_where hR hc) ?_
      refine xx_iload_n (q := 84) rfl rfl rfl ?_
      refine xx_iload (q := 86) rfl rfl rfl ?_
      refine xc_isz (o := 14) hK5 hF5 (q := 87) rfl rfl (xSc_14 hc) (by decide) (by decide) (by omega) (by omega) (fun D6 hK6 hF6 => ?_)
      have hs6 : (xui (flowF K (lckF K (K 14 (boat).toNat) up) (K 2 (lckF K (K 14 (boat).toNat) up).toNat)) 14 (boat).toNat ((lckF K (K 14 (boat).toNat) up) + 1)) 14 (boat).toNat = ((lckF K (K 14 (boat).toNat) up) + 1) := xui_s
      have hI6 : KI (xui (flowF K (lckF K (K 14 (boat).toNat) up) (K 2 (lckF K (K 14 (boat).toNat) up).toNat)) 14 (boat).toNat ((lckF K (K 14 (boat).toNat) up) + 1)) := KI_up hI5 (show (0 : Int) ≤ _ by omega) (show _ ≤ (9 : Int) by omega)
      refine xx_iload_n (q := 88) rfl rfl rfl ?_
      refine xx_iconst (q := 89) rfl rfl (by decide) ?_
      refine xx_icmp_eq (q := 103) (q2 := 92) rfl rfl rfl (fun h89 => ?_) (fun h89 => ?_)
      · refine xx_aload_n (q := 104) rfl rfl rfl ?_
        refine xx_getR (q := 107) rfl rfl rfl (xSc_0 hc) (Nat.le_of_ble_eq_true rfl) rfl (rc_passes hR hc) ?_
        refine xx_iload (q := 109) rfl rfl rfl ?_
        refine xx_dup2 (q := 110) rfl rfl ?_
        refine xx_iaz (v := K 5 (lckF K (K 14 (boat).toNat) up).toNat) (q := 111) rfl rfl (xSc_5 hc) (by omega) (by omega) ((ck_a hK6 (o := 5) (N := 9) rfl (by omega) (by omega)).trans (flowF_k (by decide) (by omega))) ?_
        have hb7 : -2147483648 ≤ K 5 (lckF K (K 14 (boat).toNat) up).toNat ∧ K 5 (lckF K (K 14 (boat).toNat) up).toNat ≤ 2147483647 := by rw [← show (xui (flowF K (lckF K (K 14 (boat).toNat) up) (K 2 (lckF K (K 14 (boat).toNat) up).toNat)) 14 (boat).toNat ((lckF K (K 14 (boat).toNat) up) + 1)) 5 (lckF K (K 14 (boat).toNat) up).toNat = K 5 (lckF K (K 14 (boat).toNat) up).toNat from flowF_k (by decide) (by omega)]; exact ki_5 hI6 (lckF K (K 14 (boat).toNat) up).toNat
        refine xx_iconst (q := 112) rfl rfl (by decide) ?_
        refine xx_iadd (q := 113) rfl rfl ?_
        refine xc_isz (o := 5) hK6 hF6 (q := 114) rfl rfl (xSc_5 hc) (by decide) (by decide) (by omega) (by omega) (fun D8 hK8 hF8 => ?_)
        have hs8 : (xui (xui (flowF K (lckF K (K 14 (boat).toNat) up) (K 2 (lckF K (K 14 (boat).toNat) up).toNat)) 14 (boat).toNat ((lckF K (K 14 (boat).toNat) up) + 1)) 5 (lckF K (K 14 (boat).toNat) up).toNat (nrm ((K 5 (lckF K (K 14 (boat).toNat) up).toNat) + 1))) 5 (lckF K (K 14 (boat).toNat) up).toNat = (nrm ((K 5 (lckF K (K 14 (boat).toNat) up).toNat) + 1)) := xui_s
        have hI8 : KI (xui (xui (flowF K (lckF K (K 14 (boat).toNat) up) (K 2 (lckF K (K 14 (boat).toNat) up).toNat)) 14 (boat).toNat ((lckF K (K 14 (boat).toNat) up) + 1)) 5 (lckF K (K 14 (boat).toNat) up).toNat (nrm ((K 5 (lckF K (K 14 (boat).toNat) up).toNat) + 1))) := KI_up hI6 (nrm_lo _) (nrm_hi _)
        refine xx_aload_n (q := 115) rfl rfl rfl ?_
        refine xx_iconst (q := 116) rfl rfl (by decide) ?_
        refine xx_iload (q := 118) rfl rfl rfl ?_
        refine xx_iload_n (q := 119) rfl rfl rfl ?_
        refine xx_aload_n (q := 120) rfl rfl rfl ?_
        refine xx_getR (q := 123) rfl rfl rfl (xSc_0 hc) (Nat.le_of_ble_eq_true rfl) rfl (rc_fill hR hc) ?_
        refine xx_iload (q := 125) rfl rfl rfl ?_
        refine xx_iaz (v := K 2 (lckF K (K 14 (boat).toNat) up).toNat) (q := 126) rfl rfl (xSc_2 hc) (by omega) (by omega) ((ck_a hK8 (o := 2) (N := 9) rfl (by omega) (by omega)).trans (flowF_k (by decide) (by omega))) ?_
        have hb9 : 1 ≤ K 2 (lckF K (K 14 (boat).toNat) up).toNat ∧ K 2 (lckF K (K 14 (boat).toNat) up).toNat ≤ 50 := by rw [← show (xui (xui (flowF K (lckF K (K 14 (boat).toNat) up) (K 2 (lckF K (K 14 (boat).toNat) up).toNat)) 14 (boat).toNat ((lckF K (K 14 (boat).toNat) up) + 1)) 5 (lckF K (K 14 (boat).toNat) up).toNat (nrm ((K 5 (lckF K (K 14 (boat).toNat) up).toNat) + 1))) 2 (lckF K (K 14 (boat).toNat) up).toNat = K 2 (lckF K (K 14 (boat).toNat) up).toNat from flowF_k (by decide) (by omega)]; exact ki_2 hI8 (lckF K (K 14 (boat).toNat) up).toNat
        obtain ⟨D10, hx10, hK10, hG10⟩ := c_noteT (n := n) hR ht hK8 hI8 0 (lckF K (K 14 (boat).toNat) up) boat (K 2 (lckF K (K 14 (boat).toNat) up).toNat)
        have hF10 := hF8.trans hG10
        refine xx_callV (q := 129) (As := [_, _, _, _]) (rest := []) rfl rfl rfl (Or.inl rfl) rfl rfl (Nat.le_of_ble_eq_true rfl) (xSc_0 hc) (XCm hx10 rfl) rfl ?_
        refine xx_iload (q := 131) rfl rfl rfl ?_
        refine xx_iret rfl trivial ⟨congrArg (fun z => some (Sum.inl z)) (by unfold pasR; first | rw [if_neg h11] | rw [if_pos h11]), _, rfl, ?_⟩
        refine ⟨?_, hF10⟩
        have e : pasT K G boat up wth = (xui (xui (flowF K (lckF K (K 14 (boat).toNat) up) (K 2 (lckF K (K 14 (boat).toNat) up).toNat)) 14 (boat).toNat ((lckF K (K 14 (boat).toNat) up) + 1)) 5 (lckF K (K 14 (boat).toNat) up).toNat (nrm ((K 5 (lckF K (K 14 (boat).toNat) up).toNat) + 1))) := by unfold pasT; first | rw [if_neg h11] | (rw [if_pos h11]; unfold pasK; simp only [*, if_true, if_false, reduceIte])
        rw [e]
        exact hK10
      · refine xx_aload_n (q := 93) rfl rfl rfl ?_
        refine xx_getR (q := 96) rfl rfl rfl (xSc_0 hc) (Nat.le_of_ble_eq_true rfl) rfl (rc_fleet hR hc) ?_
        refine xx_getR (q := 99) rfl rfl rfl (xSc_13 hc) (Nat.le_of_ble_eq_true rfl) rfl (rc_where hR hc) ?_
        refine xx_iload_n (q := 100) rfl rfl rfl ?_
        refine xx_iload (q := 102) rfl rfl rfl ?_
        refine xc_isz (o := 14) hK6 hF6 (q := 103) rfl rfl (xSc_14 hc) (by decide) (by decide) (by omega) (by omega) (fun D11 hK11 hF11 => ?_)
        have hs11 : (xui (xui (flowF K (lckF K (K 14 (boat).toNat) up) (K 2 (lckF K (K 14 (boat).toNat) up).toNat)) 14 (boat).toNat ((lckF K (K 14 (boat).toNat) up) + 1)) 14 (wth).toNat ((lckF K (K 14 (boat).toNat) up) + 1)) 14 (wth).toNat = ((lckF K (K 14 (boat).toNat) up) + 1) := xui_s
        have hI11 : KI (xui (xui (flowF K (lckF K (K 14 (boat).toNat) up) (K 2 (lckF K (K 14 (boat).toNat) up).toNat)) 14 (boat).toNat ((lckF K (K 14 (boat).toNat) up) + 1)) 14 (wth).toNat ((lckF K (K 14 (boat).toNat) up) + 1)) := KI_up hI6 (show (0 : Int) ≤ _ by omega) (show _ ≤ (9 : Int) by omega)
        refine xx_aload_n (q := 104) rfl rfl rfl ?_
        refine xx_getR (q := 107) rfl rfl rfl (xSc_0 hc) (Nat.le_of_ble_eq_true rfl) rfl (rc_passes hR hc) ?_
        refine xx_iload (q := 109) rfl rfl rfl ?_
        refine xx_dup2 (q := 110) rfl rfl ?_
        refine xx_iaz (v := K 5 (lckF K (K 14 (boat).toNat) up).toNat) (q := 111) rfl rfl (xSc_5 hc) (by omega) (by omega) ((ck_a hK11 (o := 5) (N := 9) rfl (by omega) (by omega)).trans (flowF_k (by decide) (by omega))) ?_
        have hb12 : -2147483648 ≤ K 5 (lckF K (K 14 (boat).toNat) up).toNat ∧ K 5 (lckF K (K 14 (boat).toNat) up).toNat ≤ 2147483647 := by rw [← show (xui (xui (flowF K (lckF K (K 14 (boat).toNat) up) (K 2 (lckF K (K 14 (boat).toNat) up).toNat)) 14 (boat).toNat ((lckF K (K 14 (boat).toNat) up) + 1)) 14 (wth).toNat ((lckF K (K 14 (boat).toNat) up) + 1)) 5 (lckF K (K 14 (boat).toNat) up).toNat = K 5 (lckF K (K 14 (boat).toNat) up).toNat from flowF_k (by decide) (by omega)]; exact ki_5 hI11 (lckF K (K 14 (boat).toNat) up).toNat
        refine xx_iconst (q := 112) rfl rfl (by decide) ?_
        refine xx_iadd (q := 113) rfl rfl ?_
        refine xc_isz (o := 5) hK11 hF11 (q := 114) rfl rfl (xSc_5 hc) (by decide) (by decide) (by omega) (by omega) (fun D13 hK13 hF13 => ?_)
        have hs13 : (xui (xui (xui (flowF K (lckF K (K 14 (boat).toNat) up) (K 2 (lckF K (K 14 (boat).toNat) up).toNat)) 14 (boat).toNat ((lckF K (K 14 (boat).toNat) up) + 1)) 14 (wth).toNat ((lckF K (K 14 (boat).toNat) up) + 1)) 5 (lckF K (K 14 (boat).toNat) up).toNat (nrm ((K 5 (lckF K (K 14 (boat).toNat) up).toNat) + 1))) 5 (lckF K (K 14 (boat).toNat) up).toNat = (nrm ((K 5 (lckF K (K 14 (boat).toNat) up).toNat) + 1)) := xui_s
        have hI13 : KI (xui (xui (xui (flowF K (lckF K (K 14 (boat).toNat) up) (K 2 (lckF K (K 14 (boat).toNat) up).toNat)) 14 (boat).toNat ((lckF K (K 14 (boat).toNat) up) + 1)) 14 (wth).toNat ((lckF K (K 14 (boat).toNat) up) + 1)) 5 (lckF K (K 14 (boat).toNat) up).toNat (nrm ((K 5 (lckF K (K 14 (boat).toNat) up).toNat) + 1))) := KI_up hI11 (nrm_lo _) (nrm_hi _)
        refine xx_aload_n (q := 115) rfl rfl rfl ?_
        refine xx_iconst (q := 116) rfl rfl (by decide) ?_
        refine xx_iload (q := 118) rfl rfl rfl ?_
        refine xx_iload_n (q := 119) rfl rfl rfl ?_
        refine xx_aload_n (q := 120) rfl rfl rfl ?_
        refine xx_getR (q := 123) rfl rfl rfl (xSc_0 hc) (Nat.le_of_ble_eq_true rfl) rfl (rc_fill hR hc) ?_
        refine xx_iload (q := 125) rfl rfl rfl ?_
        refine xx_iaz (v := K 2 (lckF K (K 14 (boat).toNat) up).toNat) (q := 126) rfl rfl (xSc_2 hc) (by omega) (by omega) ((ck_a hK13 (o := 2) (N := 9) rfl (by omega) (by omega)).trans (flowF_k (by decide) (by omega))) ?_
        have hb14 : 1 ≤ K 2 (lckF K (K 14 (boat).toNat) up).toNat ∧ K 2 (lckF K (K 14 (boat).toNat) up).toNat ≤ 50 := by rw [← show (xui (xui (xui (flowF K (lckF K (K 14 (boat).toNat) up) (K 2 (lckF K (K 14 (boat).toNat) up).toNat)) 14 (boat).toNat ((lckF K (K 14 (boat).toNat) up) + 1)) 14 (wth).toNat ((lckF K (K 14 (boat).toNat) up) + 1)) 5 (lckF K (K 14 (boat).toNat) up).toNat (nrm ((K 5 (lckF K (K 14 (boat).toNat) up).toNat) + 1))) 2 (lckF K (K 14 (boat).toNat) up).toNat = K 2 (lckF K (K 14 (boat).toNat) up).toNat from flowF_k (by decide) (by omega)]; exact ki_2 hI13 (lckF K (K 14 (boat).toNat) up).toNat
        obtain ⟨D15, hx15, hK15, hG15⟩ := c_noteT (n := n) hR ht hK13 hI13 0 (lckF K (K 14 (boat).toNat) up) boat (K 2 (lckF K (K 14 (boat).toNat) up).toNat)
        have hF15 := hF13.trans hG15
        refine xx_callV (q := 129) (As := [_, _, _, _]) (rest := []) rfl rfl rfl (Or.inl rfl) rfl rfl (Nat.le_of_ble_eq_true rfl) (xSc_0 hc) (XCm hx15 rfl) rfl ?_
        refine xx_iload (q := 131) rfl rfl rfl ?_
        refine xx_iret rfl trivial ⟨congrArg (fun z => some (Sum.inl z)) (by unfold pasR; first | rw [if_neg h11] | rw [if_pos h11]), _, rfl, ?_⟩
        refine ⟨?_, hF15⟩
        have e : pasT K G boat up wth = (xui (xui (xui (flowF K (lckF K (K 14 (boat).toNat) up) (K 2 (lckF K (K 14 (boat).toNat) up).toNat)) 14 (boat).toNat ((lckF K (K 14 (boat).toNat) up) + 1)) 14 (wth).toNat ((lckF K (K 14 (boat).toNat) up) + 1)) 5 (lckF K (K 14 (boat).toNat) up).toNat (nrm ((K 5 (lckF K (K 14 (boat).toNat) up).toNat) + 1))) := by unfold pasT; first | rw [if_neg h11] | (rw [if_pos h11]; unfold pasK; simp only [*, if_true, if_false, reduceIte])
        rw [e]
        exact hK15
    · refine xx_iload (q := 54) rfl rfl rfl ?_
      refine xx_goto (q := 61) rfl rfl ?_
      refine xx_istore (q := 63) (loc2 := [_, _, _, _, _, _, _]) rfl rfl (Nat.le_of_ble_eq_true rfl) rfl ?_
      refine xx_aload_n (q := 64) rfl rfl rfl ?_
      refine xx_iload (q := 66) rfl rfl rfl ?_
      refine xx_aload_n (q := 67) rfl rfl rfl ?_
      refine xx_getR (q := 70) rfl rfl rfl (xSc_0 hc) (Nat.le_of_ble_eq_true rfl) rfl (rc_fill hR hc) ?_
      refine xx_iload (q := 72) rfl rfl rfl ?_
      refine xx_iaz (v := K 2 (lckF K (K 14 (boat).toNat) up).toNat) (q := 73) rfl rfl (xSc_2 hc) (by omega) (by omega) (ck_a hK1 (o := 2) (N := 9) rfl (by omega) (by omega)) ?_
      have hb16 : 1 ≤ K 2 (lckF K (K 14 (boat).toNat) up).toNat ∧ K 2 (lckF K (K 14 (boat).toNat) up).toNat ≤ 50 := by have h := ki_2 hI (lckF K (K 14 (boat).toNat) up).toNat; exact h
      obtain ⟨D17, hx17, hK17, hG17⟩ := c_flow (n := n) hR hc hK1 hI (lckF K (K 14 (boat).toNat) up) (K 2 (lckF K (K 14 (boat).toNat) up).toNat) (by omega) (by omega) (by omega) (by omega) (by omega)
      have hF17 := hF1.trans hG17
      have hI17 : KI (flowF K (lckF K (K 14 (boat).toNat) up) (K 2 (lckF K (K 14 (boat).toNat) up).toNat)) := flowF_I hI (by omega) (by omega)
      refine xx_callV (q := 76) (As := [_, _]) (rest := []) rfl rfl rfl (Or.inl rfl) rfl rfl (Nat.le_of_ble_eq_true rfl) (xSc_0 hc) (XCm hx17 rfl) rfl ?_
      refine xx_aload_n (q := 77) rfl rfl rfl ?_
      refine xx_getR (q := 80) rfl rfl rfl (xSc_0 hc) (Nat.le_of_ble_eq_true rfl) rfl (rc_fleet hR hc) ?_
      refine xx_getR (q := 83) rfl rfl rfl (xSc_13 hc) (Nat.le_of_ble_eq_true rfl) rfl (rc_where hR hc) ?_
      refine xx_iload_n (q := 84) rfl rfl rfl ?_
      refine xx_iload (q := 86) rfl rfl rfl ?_
      refine xc_isz (o := 14) hK17 hF17 (q := 87) rfl rfl (xSc_14 hc) (by decide) (by decide) (by omega) (by omega) (fun D18 hK18 hF18 => ?_)
      have hs18 : (xui (flowF K (lckF K (K 14 (boat).toNat) up) (K 2 (lckF K (K 14 (boat).toNat) up).toNat)) 14 (boat).toNat (lckF K (K 14 (boat).toNat) up)) 14 (boat).toNat = (lckF K (K 14 (boat).toNat) up) := xui_s
      have hI18 : KI (xui (flowF K (lckF K (K 14 (boat).toNat) up) (K 2 (lckF K (K 14 (boat).toNat) up).toNat)) 14 (boat).toNat (lckF K (K 14 (boat).toNat) up)) := KI_up hI17 (show (0 : Int) ≤ _ by omega) (show _ ≤ (9 : Int) by omega)
      refine xx_iload_n (q := 88) rfl rfl rfl ?_
      refine xx_iconst (q := 89) rfl rfl (by decide) ?_
      refine xx_icmp_eq (q := 103) (q2 := 92) rfl rfl rfl (fun h89 => ?_) (fun h89 => ?_)
      · refine xx_aload_n (q := 104) rfl rfl rfl ?_
        refine xx_getR (q := 107) rfl rfl rfl (xSc_0 hc) (Nat.le_of_ble_eq_true rfl) rfl (rc_passes hR hc) ?_
        refine xx_iload (q := 109) rfl rfl rfl ?_
        refine xx_dup2 (q := 110) rfl rfl ?_
        refine xx_iaz (v := K 5 (lckF K (K 14 (boat).toNat) up).toNat) (q := 111) rfl rfl (xSc_5 hc) (by omega) (by omega) ((ck_a hK18 (o := 5) (N := 9) rfl (by omega) (by omega)).trans (flowF_k (by decide) (by omega))) ?_
        have hb19 : -2147483648 ≤ K 5 (lckF K (K 14 (boat).toNat) up).toNat ∧ K 5 (lckF K (K 14 (boat).toNat) up).toNat ≤ 2147483647 := by rw [← show (xui (flowF K (lckF K (K 14 (boat).toNat) up) (K 2 (lckF K (K 14 (boat).toNat) up).toNat)) 14 (boat).toNat (lckF K (K 14 (boat).toNat) up)) 5 (lckF K (K 14 (boat).toNat) up).toNat = K 5 (lckF K (K 14 (boat).toNat) up).toNat from flowF_k (by decide) (by omega)]; exact ki_5 hI18 (lckF K (K 14 (boat).toNat) up).toNat
        refine xx_iconst (q := 112) rfl rfl (by decide) ?_
        refine xx_iadd (q := 113) rfl rfl ?_
        refine xc_isz (o := 5) hK18 hF18 (q := 114) rfl rfl (xSc_5 hc) (by decide) (by decide) (by omega) (by omega) (fun D20 hK20 hF20 => ?_)
        have hs20 : (xui (xui (flowF K (lckF K (K 14 (boat).toNat) up) (K 2 (lckF K (K 14 (boat).toNat) up).toNat)) 14 (boat).toNat (lckF K (K 14 (boat).toNat) up)) 5 (lckF K (K 14 (boat).toNat) up).toNat (nrm ((K 5 (lckF K (K 14 (boat).toNat) up).toNat) + 1))) 5 (lckF K (K 14 (boat).toNat) up).toNat = (nrm ((K 5 (lckF K (K 14 (boat).toNat) up).toNat) + 1)) := xui_s
        have hI20 : KI (xui (xui (flowF K (lckF K (K 14 (boat).toNat) up) (K 2 (lckF K (K 14 (boat).toNat) up).toNat)) 14 (boat).toNat (lckF K (K 14 (boat).toNat) up)) 5 (lckF K (K 14 (boat).toNat) up).toNat (nrm ((K 5 (lckF K (K 14 (boat).toNat) up).toNat) + 1))) := KI_up hI18 (nrm_lo _) (nrm_hi _)
        refine xx_aload_n (q := 115) rfl rfl rfl ?_
        refine xx_iconst (q := 116) rfl rfl (by decide) ?_
        refine xx_iload (q := 118) rfl rfl rfl ?_
        refine xx_iload_n (q := 119) rfl rfl rfl ?_
        refine xx_aload_n (q := 120) rfl rfl rfl ?_
        refine xx_getR (q := 123) rfl rfl rfl (xSc_0 hc) (Nat.le_of_ble_eq_true rfl) rfl (rc_fill hR hc) ?_
        refine xx_iload (q := 125) rfl rfl rfl ?_
        refine xx_iaz (v := K 2 (lckF K (K 14 (boat).toNat) up).toNat) (q := 126) rfl rfl (xSc_2 hc) (by omega) (by omega) ((ck_a hK20 (o := 2) (N := 9) rfl (by omega) (by omega)).trans (flowF_k (by decide) (by omega))) ?_
        have hb21 : 1 ≤ K 2 (lckF K (K 14 (boat).toNat) up).toNat ∧ K 2 (lckF K (K 14 (boat).toNat) up).toNat ≤ 50 := by rw [← show (xui (xui (flowF K (lckF K (K 14 (boat).toNat) up) (K 2 (lckF K (K 14 (boat).toNat) up).toNat)) 14 (boat).toNat (lckF K (K 14 (boat).toNat) up)) 5 (lckF K (K 14 (boat).toNat) up).toNat (nrm ((K 5 (lckF K (K 14 (boat).toNat) up).toNat) + 1))) 2 (lckF K (K 14 (boat).toNat) up).toNat = K 2 (lckF K (K 14 (boat).toNat) up).toNat from flowF_k (by decide) (by omega)]; exact ki_2 hI20 (lckF K (K 14 (boat).toNat) up).toNat
        obtain ⟨D22, hx22, hK22, hG22⟩ := c_noteT (n := n) hR ht hK20 hI20 0 (lckF K (K 14 (boat).toNat) up) boat (K 2 (lckF K (K 14 (boat).toNat) up).toNat)
        have hF22 := hF20.trans hG22
        refine xx_callV (q := 129) (As := [_, _, _, _]) (rest := []) rfl rfl rfl (Or.inl rfl) rfl rfl (Nat.le_of_ble_eq_true rfl) (xSc_0 hc) (XCm hx22 rfl) rfl ?_
        refine xx_iload (q := 131) rfl rfl rfl ?_
        refine xx_iret rfl trivial ⟨congrArg (fun z => some (Sum.inl z)) (by unfold pasR; first | rw [if_neg h11] | rw [if_pos h11]), _, rfl, ?_⟩
        refine ⟨?_, hF22⟩
        have e : pasT K G boat up wth = (xui (xui (flowF K (lckF K (K 14 (boat).toNat) up) (K 2 (lckF K (K 14 (boat).toNat) up).toNat)) 14 (boat).toNat (lckF K (K 14 (boat).toNat) up)) 5 (lckF K (K 14 (boat).toNat) up).toNat (nrm ((K 5 (lckF K (K 14 (boat).toNat) up).toNat) + 1))) := by unfold pasT; first | rw [if_neg h11] | (rw [if_pos h11]; unfold pasK; simp only [*, if_true, if_false, reduceIte])
        rw [e]
        exact hK22
      · refine xx_aload_n (q := 93) rfl rfl rfl ?_
        refine xx_getR (q := 96) rfl rfl rfl (xSc_0 hc) (Nat.le_of_ble_eq_true rfl) rfl (rc_fleet hR hc) ?_
        refine xx_getR (q := 99) rfl rfl rfl (xSc_13 hc) (Nat.le_of_ble_eq_true rfl) rfl (rc_where hR hc) ?_
        refine xx_iload_n (q := 100) rfl rfl rfl ?_
        refine xx_iload (q := 102) rfl rfl rfl ?_
        refine xc_isz (o := 14) hK18 hF18 (q := 103) rfl rfl (xSc_14 hc) (by decide) (by decide) (by omega) (by omega) (fun D23 hK23 hF23 => ?_)
        have hs23 : (xui (xui (flowF K (lckF K (K 14 (boat).toNat) up) (K 2 (lckF K (K 14 (boat).toNat) up).toNat)) 14 (boat).toNat (lckF K (K 14 (boat).toNat) up)) 14 (wth).toNat (lckF K (K 14 (boat).toNat) up)) 14 (wth).toNat = (lckF K (K 14 (boat).toNat) up) := xui_s
        have hI23 : KI (xui (xui (flowF K (lckF K (K 14 (boat).toNat) up) (K 2 (lckF K (K 14 (boat).toNat) up).toNat)) 14 (boat).toNat (lckF K (K 14 (boat).toNat) up)) 14 (wth).toNat (lckF K (K 14 (boat).toNat) up)) := KI_up hI18 (show (0 : Int) ≤ _ by omega) (show _ ≤ (9 : Int) by omega)
        refine xx_aload_n (q := 104) rfl rfl rfl ?_
        refine xx_getR (q := 107) rfl rfl rfl (xSc_0 hc) (Nat.le_of_ble_eq_true rfl) rfl (rc_passes hR hc) ?_
        refine xx_iload (q := 109) rfl rfl rfl ?_
        refine xx_dup2 (q := 110) rfl rfl ?_
        refine xx_iaz (v := K 5 (lckF K (K 14 (boat).toNat) up).toNat) (q := 111) rfl rfl (xSc_5 hc) (by omega) (by omega) ((ck_a hK23 (o := 5) (N := 9) rfl (by omega) (by omega)).trans (flowF_k (by decide) (by omega))) ?_
        have hb24 : -2147483648 ≤ K 5 (lckF K (K 14 (boat).toNat) up).toNat ∧ K 5 (lckF K (K 14 (boat).toNat) up).toNat ≤ 2147483647 := by rw [← show (xui (xui (flowF K (lckF K (K 14 (boat).toNat) up) (K 2 (lckF K (K 14 (boat).toNat) up).toNat)) 14 (boat).toNat (lckF K (K 14 (boat).toNat) up)) 14 (wth).toNat (lckF K (K 14 (boat).toNat) up)) 5 (lckF K (K 14 (boat).toNat) up).toNat = K 5 (lckF K (K 14 (boat).toNat) up).toNat from flowF_k (by decide) (by omega)]; exact ki_5 hI23 (lckF K (K 14 (boat).toNat) up).toNat
        refine xx_iconst (q := 112) rfl rfl (by decide) ?_
        refine xx_iadd (q := 113) rfl rfl ?_
        refine xc_isz (o := 5) hK23 hF23 (q := 114) rfl rfl (xSc_5 hc) (by decide) (by decide) (by omega) (by omega) (fun D25 hK25 hF25 => ?_)
        have hs25 : (xui (xui (xui (flowF K (lckF K (K 14 (boat).toNat) up) (K 2 (lckF K (K 14 (boat).toNat) up).toNat)) 14 (boat).toNat (lckF K (K 14 (boat).toNat) up)) 14 (wth).toNat (lckF K (K 14 (boat).toNat) up)) 5 (lckF K (K 14 (boat).toNat) up).toNat (nrm ((K 5 (lckF K (K 14 (boat).toNat) up).toNat) + 1))) 5 (lckF K (K 14 (boat).toNat) up).toNat = (nrm ((K 5 (lckF K (K 14 (boat).toNat) up).toNat) + 1)) := xui_s
        have hI25 : KI (xui (xui (xui (flowF K (lckF K (K 14 (boat).toNat) up) (K 2 (lckF K (K 14 (boat).toNat) up).toNat)) 14 (boat).toNat (lckF K (K 14 (boat).toNat) up)) 14 (wth).toNat (lckF K (K 14 (boat).toNat) up)) 5 (lckF K (K 14 (boat).toNat) up).toNat (nrm ((K 5 (lckF K (K 14 (boat).toNat) up).toNat) + 1))) := KI_up hI23 (nrm_lo _) (nrm_hi _)
        refine xx_aload_n (q := 115) rfl rfl rfl ?_
        refine xx_iconst (q := 116) rfl rfl (by decide) ?_
        refine xx_iload (q := 118) rfl rfl rfl ?_
        refine xx_iload_n (q := 119) rfl rfl rfl ?_
        refine xx_aload_n (q := 120) rfl rfl rfl ?_
        refine xx_getR (q := 123) rfl rfl rfl (xSc_0 hc) (Nat.le_of_ble_eq_true rfl) rfl (rc_fill hR hc) ?_
        refine xx_iload (q := 125) rfl rfl rfl ?_
        refine xx_iaz (v := K 2 (lckF K (K 14 (boat).toNat) up).toNat) (q := 126) rfl rfl (xSc_2 hc) (by omega) (by omega) ((ck_a hK25 (o := 2) (N := 9) rfl (by omega) (by omega)).trans (flowF_k (by decide) (by omega))) ?_
        have hb26 : 1 ≤ K 2 (lckF K (K 14 (boat).toNat) up).toNat ∧ K 2 (lckF K (K 14 (boat).toNat) up).toNat ≤ 50 := by rw [← show (xui (xui (xui (flowF K (lckF K (K 14 (boat).toNat) up) (K 2 (lckF K (K 14 (boat).toNat) up).toNat)) 14 (boat).toNat (lckF K (K 14 (boat).toNat) up)) 14 (wth).toNat (lckF K (K 14 (boat).toNat) up)) 5 (lckF K (K 14 (boat).toNat) up).toNat (nrm ((K 5 (lckF K (K 14 (boat).toNat) up).toNat) + 1))) 2 (lckF K (K 14 (boat).toNat) up).toNat = K 2 (lckF K (K 14 (boat).toNat) up).toNat from flowF_k (by decide) (by omega)]; exact ki_2 hI25 (lckF K (K 14 (boat).toNat) up).toNat
        obtain ⟨D27, hx27, hK27, hG27⟩ := c_noteT (n := n) hR ht hK25 hI25 0 (lckF K (K 14 (boat).toNat) up) boat (K 2 (lckF K (K 14 (boat).toNat) up).toNat)
        have hF27 := hF25.trans hG27
        refine xx_callV (q := 129) (As := [_, _, _, _]) (rest := []) rfl rfl rfl (Or.inl rfl) rfl rfl (Nat.le_of_ble_eq_true rfl) (xSc_0 hc) (XCm hx27 rfl) rfl ?_
        refine xx_iload (q := 131) rfl rfl rfl ?_
        refine xx_iret rfl trivial ⟨congrArg (fun z => some (Sum.inl z)) (by unfold pasR; first | rw [if_neg h11] | rw [if_pos h11]), _, rfl, ?_⟩
        refine ⟨?_, hF27⟩
        have e : pasT K G boat up wth = (xui (xui (xui (flowF K (lckF K (K 14 (boat).toNat) up) (K 2 (lckF K (K 14 (boat).toNat) up).toNat)) 14 (boat).toNat (lckF K (K 14 (boat).toNat) up)) 14 (wth).toNat (lckF K (K 14 (boat).toNat) up)) 5 (lckF K (K 14 (boat).toNat) up).toNat (nrm ((K 5 (lckF K (K 14 (boat).toNat) up).toNat) + 1))) := by unfold pasT; first | rw [if_neg h11] | (rw [if_pos h11]; unfold pasK; simp only [*, if_true, if_false, reduceIte])
        rw [e]
        exact hK27
  · refine xx_iload (q := 16) rfl rfl rfl ?_
    refine xx_iret rfl trivial ⟨congrArg (fun z => some (Sum.inl z)) (by unfold pasR; first | rw [if_neg h11] | rw [if_pos h11]), _, rfl, ?_⟩
    refine ⟨?_, hF1⟩
    have e : pasT K G boat up wth = K := by unfold pasT; first | rw [if_neg h11] | (rw [if_pos h11]; unfold pasK; simp only [*, if_true, if_false, reduceIte])
    rw [e]
    exact hK1
theorem pasK_I {K : KK} {boat up wth : Int} (h : KI K) (h1 : 0 ≤ lckF K (K 14 boat.toNat) up) (h2 : lckF K (K 14 boat.toNat) up < K 0 0) (h3 : K 2 (lckF K (K 14 boat.toNat) up).toNat ≤ K 1 (lckF K (K 14 boat.toNat) up).toNat) : KI (pasK K boat up wth) := by
  have hL := ki_L h
  have hf := ki_2 h (lckF K (K 14 boat.toNat) up).toNat
  have h4 : KI (flowF K (lckF K (K 14 boat.toNat) up) (K 2 (lckF K (K 14 boat.toNat) up).toNat)) := flowF_I h (by omega) h3
  have e1 : (0 : Int) ≤ (if up = 0 then lckF K (K 14 boat.toNat) up + 1 else lckF K (K 14 boat.toNat) up) := by split <;> omega
  have e2 : (if up = 0 then lckF K (K 14 boat.toNat) up + 1 else lckF K (K 14 boat.toNat) up) ≤ (9 : Int) := by split <;> omega
  unfold pasK
  refine KI_up ?_ (nrm_lo _) (nrm_hi _)
  split
  · exact KI_up h4 e1 e2
  · exact KI_up (KI_up h4 e1 e2) e1 e2
theorem pasT_I {K : KK} {G : LwF} {boat up wth : Int} (h : KI K) : KI (pasT K G boat up wth) := by
  unfold pasT
  split
  · next q => have q2 := refF_0 q; exact pasK_I h q2.2.1.1 q2.2.1.2 q2.2.2.2
  · exact h
set_option maxHeartbeats 1000000 in
theorem c_giveT {n c : Nat} {R : Nat → Nat → Option Nat} {D K : KK} (hR : RF R) (ht : isT c) (hK : CK c K D) (hI : KI K) {Hh : LwF} (hH : LwH Hh n R D) (boat good amount lock : Int) : ∃ D', XC 4 15 [.inr (some c), .inl boat, .inl good, .inl amount, .inl lock] (xS n, R, D) (some (.inl (givR K Hh boat good amount lock))) (xS n, R, D') ∧ CK c (givT K Hh boat good amount lock) D' ∧ Fr c D D' := by
  have hc := isT_C ht
  have hn := isT_N ht
  refine XE_of (Nat.le_of_ble_eq_true rfl) (Nat.le_of_ble_eq_true rfl) (loc := [_, _, _, _, _, _]) rfl ?_
  refine xx_aload_n (q := 1) rfl rfl rfl ?_
  refine xx_iload_n (q := 2) rfl rfl rfl ?_
  refine xx_iload_n (q := 3) rfl rfl rfl ?_
  refine xx_iload_n (q := 4) rfl rfl rfl ?_
  refine xx_iload (q := 6) rfl rfl rfl ?_
  refine xx_callV (q := 9) (As := [_, _, _, _]) (rest := []) rfl rfl rfl (Or.inl rfl) rfl rfl (Nat.le_of_ble_eq_true rfl) (xSc_0 hc) (XCm (c_canGive hR hc hK hI boat good amount lock) rfl) rfl ?_
  refine xx_ifb_ne (q := 16) (q2 := 12) rfl rfl rfl (fun h9 => ?_) (fun h9 => ?_)
  · have hbB := ki_B hI
    have hbL := ki_L hI
    have hcn := h9
    refine xx_aload_n (q := 17) rfl rfl rfl ?_
    refine xx_getR (q := 20) rfl rfl rfl (xSc_0 hc) (Nat.le_of_ble_eq_true rfl) rfl (rc_past hR ht) ?_
    refine xx_ifnullN (q := 31) rfl rfl ?_
    refine xx_aload_n (q := 32) rfl rfl rfl ?_
    refine xx_iload_n (q := 33) rfl rfl rfl ?_
    refine xx_iload_n (q := 34) rfl rfl rfl ?_
    refine xx_iload_n (q := 35) rfl rfl rfl ?_
    refine xx_iload (q := 37) rfl rfl rfl ?_
    obtain ⟨D1, hx1, hK1, hG1⟩ := c_delight (n := n) hR hn hK hI (LwH.fr hH Fr.rf hc) boat good amount lock (by omega) (by omega) (by omega) (by omega) (by omega) (by omega) (by omega) (by omega)
    have hF1 := Fr.rf.trans hG1
    refine xx_callV (q := 40) (As := [_, _, _, _]) (rest := []) rfl rfl rfl (Or.inl rfl) rfl rfl (Nat.le_of_ble_eq_true rfl) (xSc_0 hc) (XCm hx1 rfl) rfl ?_
    have hb2 : -99 ≤ dlgF K Hh boat good amount lock ∧ dlgF K Hh boat good amount lock ≤ 99 := hld_b _
    refine xx_istore (q := 42) (loc2 := [_, _, _, _, _, _]) rfl rfl (Nat.le_of_ble_eq_true rfl) rfl ?_
    refine xx_aload_n (q := 43) rfl rfl rfl ?_
    refine xx_getR (q := 46) rfl rfl rfl (xSc_0 hc) (Nat.le_of_ble_eq_true rfl) rfl (rc_keepers hR hc) ?_
    refine xx_iload (q := 48) rfl rfl rfl ?_
    refine xx_iload_n (q := 49) rfl rfl rfl ?_
    refine xx_iload (q := 51) rfl rfl rfl ?_
    obtain ⟨D3, hx3, hK3, hG3⟩ := c_receive (n := n) hR hc hK1 hI lock boat (dlgF K Hh boat good amount lock) (by omega) (by omega) (by omega) (by omega) (by omega) (by omega)
    have hF3 := hF1.trans hG3
    have hI3 : KI (rcvF K lock boat (dlgF K Hh boat good amount lock)) := rcvF_I hI
    refine xx_callV (q := 54) (As := [_, _, _]) (rest := []) rfl rfl rfl (Or.inl rfl) rfl rfl (Nat.le_of_ble_eq_true rfl) (xSc_7 hc) (XCm hx3 rfl) rfl ?_
    refine xx_aload_n (q := 55) rfl rfl rfl ?_
    refine xx_getR (q := 58) rfl rfl rfl (xSc_0 hc) (Nat.le_of_ble_eq_true rfl) rfl (rc_fleet hR hc) ?_
    refine xx_getR (q := 61) rfl rfl rfl (xSc_13 hc) (Nat.le_of_ble_eq_true rfl) rfl (rc_cargo hR hc) ?_
    refine xx_iload_n (q := 62) rfl rfl rfl ?_
    refine xx_iconst (q := 63) rfl rfl (by decide) ?_
    refine xx_imulR (q := 64) rfl rfl (by omega) (by omega) ?_
    refine xx_iload_n (q := 65) rfl rfl rfl ?_
    refine xx_iaddR (q := 66) rfl rfl (by omega) (by omega) ?_
    refine xx_dup2 (q := 67) rfl rfl ?_
    refine xx_iaz (v := K 17 ((boat * 4) + good).toNat) (q := 68) rfl rfl (xSc_17 hc) (by omega) (by omega) ((ck_a hK3 (o := 17) (N := 24) rfl (by omega) (by omega)).trans (rcvF_k (by decide) (by decide) (by decide))) ?_
    have hb4 : 0 ≤ K 17 ((boat * 4) + good).toNat ∧ K 17 ((boat * 4) + good).toNat ≤ 99 := by rw [← show (rcvF K lock boat (dlgF K Hh boat good amount lock)) 17 ((boat * 4) + good).toNat = K 17 ((boat * 4) + good).toNat from rcvF_k (by decide) (by decide) (by decide)]; exact ki_17 hI3 ((boat * 4) + good).toNat
    refine xx_iload_n (q := 69) rfl rfl rfl ?_
    refine xx_isubR (q := 70) rfl rfl (by omega) (by omega) ?_
    refine xc_isz (o := 17) hK3 hF3 (q := 71) rfl rfl (xSc_17 hc) (by decide) (by decide) (by omega) (by omega) (fun D5 hK5 hF5 => ?_)
    have hs5 : (xui (rcvF K lock boat (dlgF K Hh boat good amount lock)) 17 ((boat * 4) + good).toNat ((K 17 ((boat * 4) + good).toNat) - amount)) 17 ((boat * 4) + good).toNat = ((K 17 ((boat * 4) + good).toNat) - amount) := xui_s
    have hI5 : KI (xui (rcvF K lock boat (dlgF K Hh boat good amount lock)) 17 ((boat * 4) + good).toNat ((K 17 ((boat * 4) + good).toNat) - amount)) := KI_up hI3 (show (0 : Int) ≤ _ by omega) (show _ ≤ (99 : Int) by omega)
    refine xx_aload_n (q := 72) rfl rfl rfl ?_
    refine xx_iconst (q := 73) rfl rfl (by decide) ?_
    refine xx_iload (q := 75) rfl rfl rfl ?_
    refine xx_iload_n (q := 76) rfl rfl rfl ?_
    refine xx_iload_n (q := 77) rfl rfl rfl ?_
    obtain ⟨D6, hx6, hK6, hG6⟩ := c_noteT (n := n) hR ht hK5 hI5 1 lock boat amount
    have hF6 := hF5.trans hG6
    refine xx_callV (q := 80) (As := [_, _, _, _]) (rest := []) rfl rfl rfl (Or.inl rfl) rfl rfl (Nat.le_of_ble_eq_true rfl) (xSc_0 hc) (XCm hx6 rfl) rfl ?_
    refine xx_iload (q := 82) rfl rfl rfl ?_
    refine xx_iret rfl trivial ⟨congrArg (fun z => some (Sum.inl z)) (by unfold givR; first | rw [if_neg h9] | rw [if_pos h9]), _, rfl, ?_⟩
    refine ⟨?_, hF6⟩
    have e : givT K Hh boat good amount lock = (xui (rcvF K lock boat (dlgF K Hh boat good amount lock)) 17 ((boat * 4) + good).toNat ((K 17 ((boat * 4) + good).toNat) - amount)) := by unfold givT; first | rw [if_neg h9] | (rw [if_pos h9]; rfl)
    rw [e]
    exact hK6
  · refine xx_sipush (q := 15) rfl rfl (by decide) ?_
    refine xx_iret rfl trivial ⟨congrArg (fun z => some (Sum.inl z)) (by unfold givR; first | rw [if_neg h9] | rw [if_pos h9]), _, rfl, ?_⟩
    refine ⟨?_, Fr.rf⟩
    have e : givT K Hh boat good amount lock = K := by unfold givT; first | rw [if_neg h9] | (rw [if_pos h9]; rfl)
    rw [e]
    exact hK
theorem givT_I {K : KK} {Hh : LwF} {boat good amount lock : Int} (h : KI K) : KI (givT K Hh boat good amount lock) := by
  unfold givT
  split
  · next q =>
    have h1 := ki_17 h (boat * 4 + good).toNat
    exact KI_up (rcvF_I h) (show (0 : Int) ≤ _ by omega) (show _ ≤ (99 : Int) by omega)
  · exact h
