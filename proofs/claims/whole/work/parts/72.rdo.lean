/-! Doings by their names; sums: the reference. -/
theorem pas_0 {K : KK} {G : LwF} {boat up wth b : Int} {B : Nat → Int} {U : UU} : rpb 0 K G boat up wth b = pasb K G boat up wth b ∧ rpB 0 K G boat up wth b B = pasB K G boat up wth b B ∧ rpU 0 K G boat up wth b U = pasU K G boat up wth b U := ⟨rfl, rfl, rfl⟩
theorem pasR_nb {K : KK} {G : LwF} {boat up wth : Int} (h : ¬ (0 ≤ boat ∧ boat < K 13 0)) : refF K G boat up wth = -1 := if_pos h
set_option maxHeartbeats 2000000 in
theorem r_pass {n : Nat} {R : Nat → Nat → Option Nat} {K D : KK} {b : Int} {B : Nat → Int} {U : UU} (hR : RF R) (hV : RV 0 K b B U D D) (hI : KI K) {G Hh : LwF} (hG : RLG G n R D) (hH : RLH Hh n R D) (boat up wth : Int) : ∃ D', XC 9 238 [.inr (some 479), .inl boat, .inl up, .inl wth] (xS n, R, D) (some (.inl (pasR K G boat up wth))) (xS n, R, D') ∧ PV (pasT K G boat up wth) (pasb K G boat up wth b) (pasB K G boat up wth b B) (pasU K G boat up wth b U) D D' := by
  refine XE_of (Nat.le_of_ble_eq_true rfl) (Nat.le_of_ble_eq_true rfl) (loc := [_, _, _, _]) rfl ?_
  refine xx_aload_n (q := 1) rfl rfl rfl ?_
  refine xx_iconst (q := 2) rfl rfl (by decide) ?_
  refine xr_puz (PV K b B U D) (q := 5) rfl rfl rfl xS_479 (Nat.le_of_ble_eq_true rfl) (Nat.le_of_ble_eq_true rfl) (fun h => by cases h) (Or.inl rfl) ⟨hV.u (by decide), FQ.rf.up (by unfold restQ; omega)⟩ (fun D1 hP0 => ?_)
  have hlw : ∀ x k, 499 ≤ x → x ≤ 505 → D1 x k = D x k := fun x k q1 q2 => hP0.2 x k (by unfold restQ; omega)
  refine xx_aload_n (q := 6) rfl rfl rfl ?_
  refine xx_iload_n (q := 7) rfl rfl rfl ?_
  refine xx_callV (q := 10) (As := [_]) (rest := []) rfl rfl rfl (Or.inl rfl) rfl rfl (Nat.le_of_ble_eq_true rfl) xS_479 (XCm (r_isBoat hR hP0.1 hI boat) rfl) rfl ?_
  refine xx_ifb_eq (q := 23) (q2 := 13) rfl rfl rfl (fun h10 => ?_) (fun h10 => ?_)
  · refine xx_iconst (q := 24) rfl rfl (by decide) ?_
    refine xx_iret rfl trivial ⟨congrArg (fun z => some (Sum.inl z)) (by have hr := pasR_nb (G := G) (up := up) (wth := wth) h10; unfold pasR; rw [if_neg (by omega), hr]), _, rfl, ?_⟩
    have hr := pasR_nb (G := G) (up := up) (wth := wth) h10
    have q : ¬ refF K G boat up wth = 0 := by omega
    unfold pasT pasb pasB pasU
    rw [if_neg q, if_neg q, if_neg q, if_neg q]
    exact hP0
  · refine xx_aload_n (q := 14) rfl rfl rfl ?_
    refine xx_iload_n (q := 15) rfl rfl rfl ?_
    refine xx_iload_n (q := 16) rfl rfl rfl ?_
    refine xx_iload_n (q := 17) rfl rfl rfl ?_
    obtain ⟨D1, hx1, hV1⟩ := r_passes (n := n) hR hP0.1 hI (RLG.fr hG hlw) boat up wth (by omega) (by omega)
    have hI1 : KI (pasT K G boat up wth) := pasT_I hI
    refine xx_callV (q := 20) (As := [_, _, _]) (rest := []) rfl rfl rfl (Or.inl rfl) rfl rfl (Nat.le_of_ble_eq_true rfl) xS_479 (XCm hx1 rfl) rfl ?_
    refine xx_goto (q := 24) rfl rfl ?_
    refine xx_iret rfl trivial ⟨congrArg (fun z => some (Sum.inl z)) (by rfl), _, rfl, ?_⟩
    exact ⟨hV1.me, hP0.2.trans hV1.2.2.2.2.2.2.fq⟩
set_option maxHeartbeats 2000000 in
theorem r_give {n : Nat} {R : Nat → Nat → Option Nat} {K D : KK} {b : Int} {B : Nat → Int} {U : UU} (hR : RF R) (hV : RV 0 K b B U D D) (hI : KI K) {G Hh : LwF} (hG : RLG G n R D) (hH : RLH Hh n R D) (boat good amount lock : Int) : ∃ D', XC 8 243 [.inr (some 479), .inl boat, .inl good, .inl amount, .inl lock] (xS n, R, D) (some (.inl (givR K Hh boat good amount lock))) (xS n, R, D') ∧ PV (givT K Hh boat good amount lock) (givb K boat good amount lock b) (givB K boat good amount lock b B) (givU K boat good amount lock b U) D D' := by
  refine XE_of (Nat.le_of_ble_eq_true rfl) (Nat.le_of_ble_eq_true rfl) (loc := [_, _, _, _, _]) rfl ?_
  refine xx_aload_n (q := 1) rfl rfl rfl ?_
  refine xx_iconst (q := 2) rfl rfl (by decide) ?_
  refine xr_puz (PV K b B U D) (q := 5) rfl rfl rfl xS_479 (Nat.le_of_ble_eq_true rfl) (Nat.le_of_ble_eq_true rfl) (fun h => by cases h) (Or.inl rfl) ⟨hV.u (by decide), FQ.rf.up (by unfold restQ; omega)⟩ (fun D1 hP0 => ?_)
  have hlw : ∀ x k, 499 ≤ x → x ≤ 505 → D1 x k = D x k := fun x k q1 q2 => hP0.2 x k (by unfold restQ; omega)
  refine xx_aload_n (q := 6) rfl rfl rfl ?_
  refine xx_iload_n (q := 7) rfl rfl rfl ?_
  refine xx_iload_n (q := 8) rfl rfl rfl ?_
  refine xx_iload_n (q := 9) rfl rfl rfl ?_
  refine xx_iload (q := 11) rfl rfl rfl ?_
  refine xx_callV (q := 14) (As := [_, _, _, _]) (rest := []) rfl rfl rfl (Or.inl rfl) rfl rfl (Nat.le_of_ble_eq_true rfl) xS_479 (XCm (r_canGive hR hP0.1 hI boat good amount lock) rfl) rfl ?_
  refine xx_ifb_eq (q := 29) (q2 := 17) rfl rfl rfl (fun h14 => ?_) (fun h14 => ?_)
  · refine xx_sipush (q := 32) rfl rfl (by decide) ?_
    refine xx_iret rfl trivial ⟨congrArg (fun z => some (Sum.inl z)) (by unfold givR; rw [if_neg h14]), _, rfl, ?_⟩
    unfold givT givb givB givU
    rw [if_neg h14, if_neg h14, if_neg h14, if_neg h14]
    exact hP0
  · have hcn := h14
    refine xx_aload_n (q := 18) rfl rfl rfl ?_
    refine xx_iload_n (q := 19) rfl rfl rfl ?_
    refine xx_iload_n (q := 20) rfl rfl rfl ?_
    refine xx_iload_n (q := 21) rfl rfl rfl ?_
    refine xx_iload (q := 23) rfl rfl rfl ?_
    obtain ⟨D1, hx1, hV1⟩ := r_gives (n := n) hR hP0.1 hI (RLH.fr hH hlw) boat good amount lock hcn
    have hI1 : KI (givK K Hh boat good amount lock) := givK_I hI hcn
    refine xx_callV (q := 26) (As := [_, _, _, _]) (rest := []) rfl rfl rfl (Or.inl rfl) rfl rfl (Nat.le_of_ble_eq_true rfl) xS_479 (XCm hx1 rfl) rfl ?_
    refine xx_goto (q := 32) rfl rfl ?_
    refine xx_iret rfl trivial ⟨congrArg (fun z => some (Sum.inl z)) (by unfold givR; rw [if_pos h14]), _, rfl, ?_⟩
    unfold givT givb givB givU
    rw [if_pos h14, if_pos h14, if_pos h14, if_pos h14]
    exact ⟨hV1.me, hP0.2.trans hV1.2.2.2.2.2.2.fq⟩
set_option maxHeartbeats 2000000 in
theorem r_pull {n : Nat} {R : Nat → Nat → Option Nat} {K D : KK} {b : Int} {B : Nat → Int} {U : UU} (hR : RF R) (hV : RV 0 K b B U D D) (hI : KI K) (lock m : Int) : ∃ D', XC 5 245 [.inr (some 479), .inl lock, .inl m] (xS n, R, D) (some (.inl (pulR K lock m))) (xS n, R, D') ∧ PV (pulT K lock m) (pullb K lock m b) (pullB K lock m b B) (pullU K lock m b U) D D' := by
  refine XE_of (Nat.le_of_ble_eq_true rfl) (Nat.le_of_ble_eq_true rfl) (loc := [_, _, _]) rfl ?_
  refine xx_aload_n (q := 1) rfl rfl rfl ?_
  refine xx_iconst (q := 2) rfl rfl (by decide) ?_
  refine xr_puz (PV K b B U D) (q := 5) rfl rfl rfl xS_479 (Nat.le_of_ble_eq_true rfl) (Nat.le_of_ble_eq_true rfl) (fun h => by cases h) (Or.inl rfl) ⟨hV.u (by decide), FQ.rf.up (by unfold restQ; omega)⟩ (fun D1 hP0 => ?_)
  refine xx_aload_n (q := 6) rfl rfl rfl ?_
  refine xx_iload_n (q := 7) rfl rfl rfl ?_
  refine xx_callV (q := 10) (As := [_]) (rest := []) rfl rfl rfl (Or.inl rfl) rfl rfl (Nat.le_of_ble_eq_true rfl) xS_479 (XCm (r_isLock hR hP0.1 hI lock) rfl) rfl ?_
  refine xx_ifb_eq (q := 33) (q2 := 13) rfl rfl rfl (fun h10 => ?_) (fun h10 => ?_)
  · refine xx_iconst (q := 34) rfl rfl (by decide) ?_
    refine xx_iret rfl trivial ⟨congrArg (fun z => some (Sum.inl z)) (by exact (if_neg (c := pulP K lock m) (fun q => h10 q.1)).symm), _, rfl, ?_⟩
    unfold pulT pullb pullB pullU
    rw [if_neg (fun q => h10 q.1), if_neg (fun q => h10 q.1), if_neg (fun q => h10 q.1), if_neg (fun q => h10 q.1)]
    exact hP0
  · refine xx_aload_n (q := 14) rfl rfl rfl ?_
    refine xx_iload_n (q := 15) rfl rfl rfl ?_
    refine xx_iconst (q := 16) rfl rfl (by decide) ?_
    refine xx_bipush (q := 18) rfl rfl (by decide) ?_
    refine xx_callV (q := 21) (As := [_, _, _]) (rest := []) rfl rfl rfl (Or.inl rfl) rfl rfl (Nat.le_of_ble_eq_true rfl) xS_479 (XCm (r_isIn m 1 9) rfl) rfl ?_
    refine xx_ifb_eq (q := 33) (q2 := 24) rfl rfl rfl (fun h21 => ?_) (fun h21 => ?_)
    · refine xx_iconst (q := 34) rfl rfl (by decide) ?_
      refine xx_iret rfl trivial ⟨congrArg (fun z => some (Sum.inl z)) (by exact (if_neg (c := pulP K lock m) (fun q => h21 q.2)).symm), _, rfl, ?_⟩
      unfold pulT pullb pullB pullU
      rw [if_neg (fun q => h21 q.2), if_neg (fun q => h21 q.2), if_neg (fun q => h21 q.2), if_neg (fun q => h21 q.2)]
      exact hP0
    · have hp : pulP K lock m := ⟨h10, h21⟩
      refine xx_aload_n (q := 25) rfl rfl rfl ?_
      refine xx_iload_n (q := 26) rfl rfl rfl ?_
      refine xx_iload_n (q := 27) rfl rfl rfl ?_
      obtain ⟨D1, hx1, hV1⟩ := r_pulls (n := n) hR hP0.1 hI lock m hp
      have hI1 : KI (pulL (m).toNat K lock) := pulL_I _ _ _ hI
      refine xx_callV (q := 30) (As := [_, _]) (rest := []) rfl rfl rfl (Or.inl rfl) rfl rfl (Nat.le_of_ble_eq_true rfl) xS_479 (XCm hx1 rfl) rfl ?_
      refine xx_goto (q := 34) rfl rfl ?_
      refine xx_iret rfl trivial ⟨congrArg (fun z => some (Sum.inl z)) (by exact (if_pos (c := pulP K lock m) hp).symm), _, rfl, ?_⟩
      unfold pulT pullb pullB pullU
      rw [if_pos hp, if_pos hp, if_pos hp, if_pos hp]
      exact ⟨hV1.me, hP0.2.trans hV1.2.2.2.2.2.2.fq⟩
theorem tdZ_0 {Z : ZZ} : tdZ 0 Z = hrZ Z := rfl
theorem tds_0 : ∀ (k : Nat) (Z : ZZ), tdsZ 0 k Z = hrsZ k Z ∧ tdsR 0 k Z = hrsR k Z
  | 0, _ => ⟨rfl, rfl⟩
  | k + 1, Z => by
    obtain ⟨h1, h2⟩ := tds_0 k (hrZ Z)
    refine ⟨h1, ?_⟩
    show bi ((0 : Int) = 0 ∧ ranP Z.1) + tdsR 0 k (hrZ Z) = bi (ranP Z.1) + hrsR k (hrZ Z)
    rw [h2, bi_c (show ((0 : Int) = 0 ∧ ranP Z.1) ↔ ranP Z.1 from ⟨fun q => q.2, fun q => ⟨rfl, q⟩⟩)]
set_option maxHeartbeats 2000000 in
theorem r_hours {n : Nat} {R : Nat → Nat → Option Nat} {K D : KK} {b : Int} {B : Nat → Int} {U : UU} (hR : RF R) (hV : RV 0 K b B U D D) (hI : KI K) (m : Int) : ∃ D', XC 7 253 [.inr (some 479), .inl m] (xS n, R, D) (some (.inl (waiR (K, b, B, U) m))) (xS n, R, D') ∧ PV ((waiZ (K, b, B, U) m).1) ((waiZ (K, b, B, U) m).2.1) ((waiZ (K, b, B, U) m).2.2.1) ((waiZ (K, b, B, U) m).2.2.2) D D' := by
  refine XE_of (Nat.le_of_ble_eq_true rfl) (Nat.le_of_ble_eq_true rfl) (loc := [_, _]) rfl ?_
  refine xx_aload_n (q := 1) rfl rfl rfl ?_
  refine xx_iconst (q := 2) rfl rfl (by decide) ?_
  refine xr_puz (PV K b B U D) (q := 5) rfl rfl rfl xS_479 (Nat.le_of_ble_eq_true rfl) (Nat.le_of_ble_eq_true rfl) (fun h => by cases h) (Or.inl rfl) ⟨hV.u (by decide), FQ.rf.up (by unfold restQ; omega)⟩ (fun D1 hP0 => ?_)
  refine xx_aload_n (q := 6) rfl rfl rfl ?_
  refine xx_iload_n (q := 7) rfl rfl rfl ?_
  refine xx_iconst (q := 8) rfl rfl (by decide) ?_
  refine xx_bipush (q := 10) rfl rfl (by decide) ?_
  refine xx_callV (q := 13) (As := [_, _, _]) (rest := []) rfl rfl rfl (Or.inl rfl) rfl rfl (Nat.le_of_ble_eq_true rfl) xS_479 (XCm (r_isIn m 1 100) rfl) rfl ?_
  refine xx_ifb_eq (q := 30) (q2 := 16) rfl rfl rfl (fun h13 => ?_) (fun h13 => ?_)
  · refine xx_iconst (q := 31) rfl rfl (by decide) ?_
    refine xx_iret rfl trivial ⟨congrArg (fun z => some (Sum.inl z)) (by exact (if_neg (c := waiP K m) (fun q => h13 q.1)).symm), _, rfl, ?_⟩
    unfold waiZ
    rw [if_neg (fun q => h13 q.1)]
    exact hP0
  · refine xx_aload_n (q := 17) rfl rfl rfl ?_
    refine xx_getR (q := 20) rfl rfl rfl xS_479 (Nat.le_of_ble_eq_true rfl) rfl (hR.1 479 1 rfl) ?_
    refine xx_iconst (q := 21) rfl rfl (by decide) ?_
    refine xx_iaz (v := K 0 1) (q := 22) rfl rfl xS_480 (by omega) (by omega) (rv_h hP0.1) ?_
    refine xx_iload_n (q := 23) rfl rfl rfl ?_
    refine xx_iadd (q := 24) rfl rfl ?_
    refine xx_sipush (q := 27) rfl rfl (by decide) ?_
    refine xx_icmp_le (q := 32) (q2 := 30) rfl rfl rfl (fun h27 => ?_) (fun h27 => ?_)
    · refine xx_aload_n (q := 33) rfl rfl rfl ?_
      refine xx_iload_n (q := 34) rfl rfl rfl ?_
      obtain ⟨D1, hx1, hV1⟩ := r_goesBy (n := n) hR hP0.1 hI m (by omega) (by omega)
      have hI1 : KI ((tdsZ 0 (m).toNat (K, b, B, U)).1) := tdsZ_I _ _ hI
      refine xx_callV (q := 37) (As := [_]) (rest := []) rfl rfl rfl (Or.inl rfl) rfl rfl (Nat.le_of_ble_eq_true rfl) xS_479 (XCm hx1 rfl) rfl ?_
      refine xx_iret rfl trivial ⟨congrArg (fun z => some (Sum.inl z)) (by exact (tds_0 _ _).2.trans (if_pos (c := waiP K m) ⟨h13, h27⟩).symm), _, rfl, ?_⟩
      have e : waiZ (K, b, B, U) m = tdsZ 0 m.toNat (K, b, B, U) := (if_pos (c := waiP K m) ⟨h13, h27⟩).trans (tds_0 _ _).1.symm
      rw [e]
      exact ⟨hV1.me, hP0.2.trans hV1.2.2.2.2.2.2.fq⟩
    · refine xx_iconst (q := 31) rfl rfl (by decide) ?_
      refine xx_iret rfl trivial ⟨congrArg (fun z => some (Sum.inl z)) (by exact (if_neg (c := waiP K m) (fun q => h27 q.2)).symm), _, rfl, ?_⟩
      unfold waiZ
      rw [if_neg (fun q => h27 q.2)]
      exact hP0
set_option maxHeartbeats 1000000 in
theorem r_wat_L {n : Nat} {R : Nat → Nat → Option Nat} {t : Int} {K D0 D : KK} {b : Int} {B : Nat → Int} {U : UU} (hR : RF R) (hV : RV t K b B U D0 D) (hI : KI K) : ∀ (k : Nat) (all p : Int), 0 ≤ all → all ≤ 999 * p → 0 ≤ p → p + k = K 0 0 + 1 → XX (XC 1) 273 (fun r2 m2 => r2 = some (.inl (watL k K all p)) ∧ m2 = (xS n, R, D)) 4 [some (.inr (some 479)), some (.inl all), some (.inl p)] [] (xS n, R, D) := by
  intro k
  induction k using Nat.strongRecOn with
  | ind k ih =>
  intro all p h1 h2 h3 hk
  have hbL := ki_L hI
  refine xx_iload_n (q := 5) rfl rfl rfl ?_
  refine xx_aload_n (q := 6) rfl rfl rfl ?_
  refine xx_gez (q := 9) rfl rfl rfl xS_479 (Nat.le_of_ble_eq_true rfl) rfl (rv_L hV) ?_
  have hb1 : 1 ≤ K 0 0 ∧ K 0 0 ≤ 9 := by have h := ki_L hI; exact h
  refine xx_icmp_gt (q := 26) (q2 := 12) rfl rfl rfl (fun h9 => ?_) (fun h9 => ?_)
  · refine xx_iload_n (q := 27) rfl rfl rfl ?_
    obtain rfl : k = 0 := by omega
    exact xx_iret rfl trivial ⟨rfl, rfl⟩
  · obtain ⟨k, rfl⟩ : ∃ k2, k = k2 + 1 := ⟨k - 1, by omega⟩
    refine xx_iload_n (q := 13) rfl rfl rfl ?_
    refine xx_aload_n (q := 14) rfl rfl rfl ?_
    refine xx_iload_n (q := 15) rfl rfl rfl ?_
    refine xx_callV (q := 18) (As := [_]) (rest := [_]) rfl rfl rfl (Or.inl rfl) rfl rfl (Nat.le_of_ble_eq_true rfl) xS_479 (XCm (r_depthOf hR hV hI p (by omega) (by omega)) rfl) rfl ?_
    have hb2 := ki_1 hI (p).toNat
    refine xx_iaddR (q := 19) rfl rfl (by omega) (by omega) ?_
    refine xx_istore_n (q := 20) (loc2 := [_, _, _]) rfl rfl (Nat.le_of_ble_eq_true rfl) rfl ?_
    refine xx_incz (q := 23) (loc2 := [_, _, _]) rfl rfl rfl (by omega) (by omega) rfl rfl ?_
    refine xx_goto (q := 4) rfl rfl ?_
    exact ih k (by omega) (all + (K 1 (p).toNat)) (p + 1) (by omega) (by omega) (by omega) (by omega)
set_option maxHeartbeats 1000000 in
theorem r_allDepths {n : Nat} {R : Nat → Nat → Option Nat} {t : Int} {K D0 D : KK} {b : Int} {B : Nat → Int} {U : UU} (hR : RF R) (hV : RV t K b B U D0 D) (hI : KI K) : XC 2 273 [.inr (some 479)] (xS n, R, D) (some (.inl (watF K))) (xS n, R, D) := by
  have hbL := ki_L hI
  refine XC_of (Nat.le_of_ble_eq_true rfl) (Nat.le_of_ble_eq_true rfl) (loc := [_, _, _]) rfl ?_
  refine xx_iconst (q := 1) rfl rfl (by decide) ?_
  refine xx_istore_n (q := 2) (loc2 := [_, _, _]) rfl rfl (Nat.le_of_ble_eq_true rfl) rfl ?_
  refine xx_iconst (q := 3) rfl rfl (by decide) ?_
  refine xx_istore_n (q := 4) (loc2 := [_, _, _]) rfl rfl (Nat.le_of_ble_eq_true rfl) rfl ?_
  exact r_wat_L hR hV hI (K 0 0 + 1).toNat 0 0 (by omega) (by omega) (by omega) (by omega)
set_option maxHeartbeats 1000000 in
theorem r_env_L {n : Nat} {R : Nat → Nat → Option Nat} {t : Int} {K D0 D : KK} {b : Int} {B : Nat → Int} {U : UU} (hR : RF R) (hV : RV t K b B U D0 D) (hI : KI K) : ∀ (k : Nat) (set l : Int) (x : Option XV), 0 ≤ l → l + k = K 0 0 → XX (XC 2) 292 (fun r2 m2 => r2 = some (.inl (envL k K set l)) ∧ m2 = (xS n, R, D)) 9 [some (.inr (some 479)), some (.inl set), some (.inl l), x] [] (xS n, R, D) := by
  intro k
  induction k using Nat.strongRecOn with
  | ind k ih =>
  intro set l x h1 hk
  have hbL := ki_L hI
  have hbB := ki_B hI
  refine xx_iload_n (q := 10) rfl rfl rfl ?_
  refine xx_aload_n (q := 11) rfl rfl rfl ?_
  refine xx_gez (q := 14) rfl rfl rfl xS_479 (Nat.le_of_ble_eq_true rfl) rfl (rv_L hV) ?_
  have hb1 : 1 ≤ K 0 0 ∧ K 0 0 ≤ 9 := by have h := ki_L hI; exact h
  refine xx_icmp_ge (q := 68) (q2 := 17) rfl rfl rfl (fun h14 => ?_) (fun h14 => ?_)
  · refine xx_iload_n (q := 69) rfl rfl rfl ?_
    obtain rfl : k = 0 := by omega
    exact xx_iret rfl trivial ⟨rfl, rfl⟩
  · obtain ⟨k, rfl⟩ : ∃ k2, k = k2 + 1 := ⟨k - 1, by omega⟩
    refine xx_aload_n (q := 18) rfl rfl rfl ?_
    refine xx_iload_n (q := 19) rfl rfl rfl ?_
    refine xx_callV (q := 22) (As := [_]) (rest := []) rfl rfl rfl (Or.inl rfl) rfl rfl (Nat.le_of_ble_eq_true rfl) xS_479 (XCm (r_favouriteOf hR hV hI l (by omega) (by omega)) rfl) rfl ?_
    have hb2 := favF_b hI l
    refine xx_istore_n (q := 23) (loc2 := [_, _, _, _]) rfl rfl (Nat.le_of_ble_eq_true rfl) rfl ?_
    refine xx_iload_n (q := 24) rfl rfl rfl ?_
    refine xx_iconst (q := 25) rfl rfl (by decide) ?_
    refine xx_icmp_eq (q := 62) (q2 := 28) rfl rfl rfl (fun h25 => ?_) (fun h25 => ?_)
    · refine xx_incz (q := 65) (loc2 := [_, _, _, _]) rfl rfl rfl (by omega) (by omega) rfl rfl ?_
      refine xx_goto (q := 9) rfl rfl ?_
      have e2 : envL (k + 1) K set l = envL k K set (l + 1) := by simp only [envL]; congr 1; grind
      rw [e2]
      exact ih k (by omega) set (l + 1) _ (by omega) (by omega)
    · refine xx_aload_n (q := 29) rfl rfl rfl ?_
      refine xx_iload_n (q := 30) rfl rfl rfl ?_
      refine xx_callV (q := 33) (As := [_]) (rest := []) rfl rfl rfl (Or.inl rfl) rfl rfl (Nat.le_of_ble_eq_true rfl) xS_479 (XCm (r_rivalOf hR hV hI l (by omega) (by omega)) rfl) rfl ?_
      have hb3 := ki_9 hI (l).toNat
      refine xx_iconst (q := 34) rfl rfl (by decide) ?_
      refine xx_icmp_eq (q := 62) (q2 := 37) rfl rfl rfl (fun h34 => ?_) (fun h34 => ?_)
      · refine xx_incz (q := 65) (loc2 := [_, _, _, _]) rfl rfl rfl (by omega) (by omega) rfl rfl ?_
        refine xx_goto (q := 9) rfl rfl ?_
        have e2 : envL (k + 1) K set l = envL k K set (l + 1) := by simp only [envL]; congr 1; grind
        rw [e2]
        exact ih k (by omega) set (l + 1) _ (by omega) (by omega)
      · refine xx_aload_n (q := 38) rfl rfl rfl ?_
        refine xx_aload_n (q := 39) rfl rfl rfl ?_
        refine xx_iload_n (q := 40) rfl rfl rfl ?_
        refine xx_callV (q := 43) (As := [_]) (rest := [_]) rfl rfl rfl (Or.inl rfl) rfl rfl (Nat.le_of_ble_eq_true rfl) xS_479 (XCm (r_rivalOf hR hV hI l (by omega) (by omega)) rfl) rfl ?_
        have hb4 := ki_9 hI (l).toNat
        refine xx_iload_n (q := 44) rfl rfl rfl ?_
        refine xx_callV (q := 47) (As := [_, _]) (rest := []) rfl rfl rfl (Or.inl rfl) rfl rfl (Nat.le_of_ble_eq_true rfl) xS_479 (XCm (r_likingOf (n := n) hR hV hI (K 9 (l).toNat) (favF K l) (by omega) (by omega) (by omega) (by omega)) rfl) rfl ?_
        have hb5 := ki_12 hI ((K 9 (l).toNat) * 6 + (favF K l)).toNat
        refine xx_aload_n (q := 48) rfl rfl rfl ?_
        refine xx_iload_n (q := 49) rfl rfl rfl ?_
        refine xx_iload_n (q := 50) rfl rfl rfl ?_
        refine xx_callV (q := 53) (As := [_, _]) (rest := [_]) rfl rfl rfl (Or.inl rfl) rfl rfl (Nat.le_of_ble_eq_true rfl) xS_479 (XCm (r_likingOf (n := n) hR hV hI l (favF K l) (by omega) (by omega) (by omega) (by omega)) rfl) rfl ?_
        have hb6 := ki_12 hI (l * 6 + (favF K l)).toNat
        refine xx_icmp_le (q := 62) (q2 := 56) rfl rfl rfl (fun h53 => ?_) (fun h53 => ?_)
        · refine xx_incz (q := 65) (loc2 := [_, _, _, _]) rfl rfl rfl (by omega) (by omega) rfl rfl ?_
          refine xx_goto (q := 9) rfl rfl ?_
          have e2 : envL (k + 1) K set l = envL k K set (l + 1) := by simp only [envL]; congr 1; grind
          rw [e2]
          exact ih k (by omega) set (l + 1) _ (by omega) (by omega)
        · refine xx_iload_n (q := 57) rfl rfl rfl ?_
          refine xx_iconst (q := 58) rfl rfl (by decide) ?_
          refine xx_iload_n (q := 59) rfl rfl rfl ?_
          refine xx_ishl (q := 60) rfl rfl ?_
          refine xx_ior (q := 61) rfl rfl ?_
          refine xx_istore_n (q := 62) (loc2 := [_, _, _, _]) rfl rfl (Nat.le_of_ble_eq_true rfl) rfl ?_
          refine xx_incz (q := 65) (loc2 := [_, _, _, _]) rfl rfl rfl (by omega) (by omega) rfl rfl ?_
          refine xx_goto (q := 9) rfl rfl ?_
          have e2 : envL (k + 1) K set l = envL k K (xor_ set (xshl 1 l)) (l + 1) := by simp only [envL]; congr 1; grind
          rw [e2]
          exact ih k (by omega) (xor_ set (xshl 1 l)) (l + 1) _ (by omega) (by omega)
set_option maxHeartbeats 2000000 in
theorem r_envy {n : Nat} {R : Nat → Nat → Option Nat} {K D : KK} {b : Int} {B : Nat → Int} {U : UU} (hR : RF R) (hV : RV 0 K b B U D D) (hI : KI K) : ∃ D', XC 3 292 [.inr (some 479)] (xS n, R, D) (some (.inl (envF K))) (xS n, R, D') ∧ PV (K) (b) (B) (U) D D' := by
  have hbL := ki_L hI
  refine XE_of (Nat.le_of_ble_eq_true rfl) (Nat.le_of_ble_eq_true rfl) (loc := [_, _, _, _]) rfl ?_
  refine xx_aload_n (q := 1) rfl rfl rfl ?_
  refine xx_iconst (q := 2) rfl rfl (by decide) ?_
  refine xr_puz (PV K b B U D) (q := 5) rfl rfl rfl xS_479 (Nat.le_of_ble_eq_true rfl) (Nat.le_of_ble_eq_true rfl) (fun h => by cases h) (Or.inl rfl) ⟨hV.u (by decide), FQ.rf.up (by unfold restQ; omega)⟩ (fun D1 hP0 => ?_)
  refine xx_iconst (q := 6) rfl rfl (by decide) ?_
  refine xx_istore_n (q := 7) (loc2 := [_, _, _, _]) rfl rfl (Nat.le_of_ble_eq_true rfl) rfl ?_
  refine xx_iconst (q := 8) rfl rfl (by decide) ?_
  refine xx_istore_n (q := 9) (loc2 := [_, _, _, _]) rfl rfl (Nat.le_of_ble_eq_true rfl) rfl ?_
  exact XX_mono (fun r m2 h => ⟨h.1, _, h.2, hP0⟩) (r_env_L hR hP0.1 hI (K 0 0).toNat 0 0 _ (by omega) (by omega))
set_option maxHeartbeats 1000000 in
theorem r_sml_L {n : Nat} {R : Nat → Nat → Option Nat} {t : Int} {K D0 D : KK} {b : Int} {B : Nat → Int} {U : UU} (hR : RF R) (hV : RV t K b B U D0 D) (hI : KI K) (p : Int) : ∀ (k : Nat) (i : Int), i + 1 = k → i < 150 → XX (XC 1) 294 (fun r2 m2 => r2 = some (.inl (lstL B p (K 0 0) k i)) ∧ m2 = (xS n, R, D)) 24 [some (.inr (some 479)), some (.inl p), some (.inl i)] [] (xS n, R, D) := by
  intro k
  induction k using Nat.strongRecOn with
  | ind k ih =>
  intro i hk h1
  refine xx_iload_n (q := 25) rfl rfl rfl ?_
  refine xx_if_lt (q := 44) (q2 := 28) rfl rfl rfl (fun h25 => ?_) (fun h25 => ?_)
  · refine xx_iload_n (q := 45) rfl rfl rfl ?_
    obtain rfl : k = 0 := by omega
    exact xx_iret rfl trivial ⟨congrArg (fun z => some (Sum.inl z)) (by show i = -1; omega), rfl⟩
  · obtain ⟨k, rfl⟩ : ∃ k2, k = k2 + 1 := ⟨k - 1, by omega⟩
    refine xx_aload_n (q := 29) rfl rfl rfl ?_
    refine xx_iload_n (q := 30) rfl rfl rfl ?_
    refine xx_iload_n (q := 31) rfl rfl rfl ?_
    refine xx_callV (q := 34) (As := [_, _]) (rest := []) rfl rfl rfl (Or.inl rfl) rfl rfl (Nat.le_of_ble_eq_true rfl) xS_479 (XCm (r_didPour hR hV hI i p (by omega) (by omega)) rfl) rfl ?_
    refine xx_ifb_ne (q := 44) (q2 := 37) rfl rfl rfl (fun h34 => ?_) (fun h34 => ?_)
    · refine xx_iload_n (q := 45) rfl rfl rfl ?_
      exact xx_iret rfl trivial ⟨congrArg (fun z => some (Sum.inl z)) (if_pos h34).symm, rfl⟩
    · refine xx_iload_n (q := 38) rfl rfl rfl ?_
      refine xx_iconst (q := 39) rfl rfl (by decide) ?_
      refine xx_isubR (q := 40) rfl rfl (by omega) (by omega) ?_
      refine xx_istore_n (q := 41) (loc2 := [_, _, _]) rfl rfl (Nat.le_of_ble_eq_true rfl) rfl ?_
      refine xx_goto (q := 24) rfl rfl ?_
      rw [show lstL B p (K 0 0) (k + 1) i = lstL B p (K 0 0) k (i - 1) from if_neg h34]
      exact ih k (by omega) _ (by omega) (by omega)
set_option maxHeartbeats 2000000 in
theorem r_smile {n : Nat} {R : Nat → Nat → Option Nat} {K D : KK} {b : Int} {B : Nat → Int} {U : UU} (hR : RF R) (hV : RV 0 K b B U D D) (hI : KI K) (p : Int) : ∃ D', XC 2 294 [.inr (some 479), .inl p] (xS n, R, D) (some (.inl (smlF K b B p))) (xS n, R, D') ∧ PV (K) (b) (B) (U) D D' := by
  have hb0 := hV.2.2.2.1
  refine XE_of (Nat.le_of_ble_eq_true rfl) (Nat.le_of_ble_eq_true rfl) (loc := [_, _, _]) rfl ?_
  refine xx_aload_n (q := 1) rfl rfl rfl ?_
  refine xx_iconst (q := 2) rfl rfl (by decide) ?_
  refine xr_puz (PV K b B U D) (q := 5) rfl rfl rfl xS_479 (Nat.le_of_ble_eq_true rfl) (Nat.le_of_ble_eq_true rfl) (fun h => by cases h) (Or.inl rfl) ⟨hV.u (by decide), FQ.rf.up (by unfold restQ; omega)⟩ (fun D1 hP0 => ?_)
  refine xx_aload_n (q := 6) rfl rfl rfl ?_
  refine xx_iload_n (q := 7) rfl rfl rfl ?_
  refine xx_callV (q := 10) (As := [_]) (rest := []) rfl rfl rfl (Or.inl rfl) rfl rfl (Nat.le_of_ble_eq_true rfl) xS_479 (XCm (r_isPool hR hP0.1 hI p) rfl) rfl ?_
  refine xx_ifb_ne (q := 15) (q2 := 13) rfl rfl rfl (fun h10 => ?_) (fun h10 => ?_)
  · refine xx_aload_n (q := 16) rfl rfl rfl ?_
    refine xx_getR (q := 19) rfl rfl rfl xS_479 (Nat.le_of_ble_eq_true rfl) rfl (hR.1 479 1 rfl) ?_
    refine xx_iconst (q := 20) rfl rfl (by decide) ?_
    refine xx_iaz (v := b) (q := 21) rfl rfl xS_480 (by omega) (by omega) (rv_b hP0.1) ?_
    have hb1 := hP0.1.2.2.2.1
    refine xx_iconst (q := 22) rfl rfl (by decide) ?_
    refine xx_isubR (q := 23) rfl rfl (by omega) (by omega) ?_
    refine xx_istore_n (q := 24) (loc2 := [_, _, _]) rfl rfl (Nat.le_of_ble_eq_true rfl) rfl ?_
    rw [show smlF K b B p = lstL B p (K 0 0) b.toNat (b - 1) from if_pos h10]
    exact XX_mono (fun r m2 h => ⟨h.1, _, h.2, hP0⟩) (r_sml_L hR hP0.1 hI p b.toNat (b - 1) (by omega) (by omega))
  · refine xx_iconst (q := 14) rfl rfl (by decide) ?_
    refine xx_iret rfl trivial ⟨congrArg (fun z => some (Sum.inl z)) (by unfold smlF; rw [if_neg h10]), _, rfl, ?_⟩
    exact hP0
