/-! Hearsay: the reference. -/
def YR (Y : YY) (D : KK) : Prop := D 479 16 = Y.1 ∧ ∀ i : Nat, (i : Int) < Y.1 → D 491 i = Y.2.1 i ∧ D 492 i = Y.2.2.1 i ∧ D 493 i = Y.2.2.2 i
theorem YR.fq {Y : YY} {D E : KK} (h : YR Y D) (g : FQ D E) : YR Y E := ⟨(g _ _ (by unfold restQ; omega)).trans h.1, fun i hi => ⟨(g _ _ (by unfold restQ; omega)).trans (h.2 i hi).1, (g _ _ (by unfold restQ; omega)).trans (h.2 i hi).2.1, (g _ _ (by unfold restQ; omega)).trans (h.2 i hi).2.2⟩⟩
set_option maxHeartbeats 1000000 in
theorem r_say_L0 {n : Nat} {R : Nat → Nat → Option Nat} {D : KK} {Y : YY} (hR : RF R) (hC : YR Y D) (hY : YI Y) (p : Int) : ∀ (k : Nat) (v i : Int) (x : Option XV), 0 ≤ i → i + k = Y.1 → 0 ≤ v → v ≤ 999 → XX (XC 0) 272 (fun r2 m2 => r2 = some (.inl (lowL Y p k i v)) ∧ m2 = (xS n, R, D)) 15 [some (.inr (some 479)), some (.inl p), some (.inl 0), some (.inl v), some (.inl i), x] [] (xS n, R, D) := by
  intro k
  induction k using Nat.strongRecOn with
  | ind k ih =>
  intro v i x h1 hk h2 h3
  have hy1 := hY.1
  refine xx_iload (q := 17) rfl rfl rfl ?_
  refine xx_aload_n (q := 18) rfl rfl rfl ?_
  refine xx_gez (q := 21) rfl rfl rfl xS_479 (Nat.le_of_ble_eq_true rfl) rfl hC.1 ?_
  refine xx_icmp_ge (q := 113) (q2 := 24) rfl rfl rfl (fun h21 => ?_) (fun h21 => ?_)
  · refine xx_iload_n (q := 114) rfl rfl rfl ?_
    obtain rfl : k = 0 := by omega
    exact xx_iret rfl trivial ⟨rfl, rfl⟩
  · obtain ⟨k, rfl⟩ : ∃ k2, k = k2 + 1 := ⟨k - 1, by omega⟩
    refine xx_aload_n (q := 25) rfl rfl rfl ?_
    refine xx_getR (q := 28) rfl rfl rfl xS_479 (Nat.le_of_ble_eq_true rfl) rfl (hR.1 479 17 rfl) ?_
    refine xx_iload (q := 30) rfl rfl rfl ?_
    refine xx_iaz (v := Y.2.1 (i).toNat) (q := 31) rfl rfl xS_491 (by omega) (by omega) ((hC.2 (i).toNat (by omega)).1) ?_
    have hb1 := hY.2 (i).toNat
    refine xx_iload_n (q := 32) rfl rfl rfl ?_
    refine xx_icmp_ne (q := 107) (q2 := 35) rfl rfl rfl (fun h32 => ?_) (fun h32 => ?_)
    · refine xx_incz (q := 110) (loc2 := [_, _, _, _, _, _]) rfl rfl rfl (by omega) (by omega) rfl rfl ?_
      refine xx_goto (q := 15) rfl rfl ?_
      have e2 : lowL Y p (k + 1) i v = lowL Y p k (i + 1) v := by
        have hx1 := mxF_sp v (Y.2.2.2 (i).toNat)
        have hx2 := mnF_sp v (Y.2.2.2 (i).toNat)
        simp only [lowL]
        congr 1
        grind
      rw [e2]
      exact ih k (by omega) v (i + 1) _ (by omega) (by omega) (by omega) (by omega)
    · refine xx_aload_n (q := 36) rfl rfl rfl ?_
      refine xx_getR (q := 39) rfl rfl rfl xS_479 (Nat.le_of_ble_eq_true rfl) rfl (hR.1 479 18 rfl) ?_
      refine xx_iload (q := 41) rfl rfl rfl ?_
      refine xx_iaz (v := Y.2.2.1 (i).toNat) (q := 42) rfl rfl xS_492 (by omega) (by omega) ((hC.2 (i).toNat (by omega)).2.1) ?_
      have hb2 := hY.2 (i).toNat
      refine xx_iload_n (q := 43) rfl rfl rfl ?_
      refine xx_icmp_eq (q := 49) (q2 := 46) rfl rfl rfl (fun h43 => ?_) (fun h43 => ?_)
      · refine xx_iload_n (q := 50) rfl rfl rfl ?_
        refine xx_if_ne (q := 72) (q2 := 53) rfl rfl rfl (fun h50 => (by exfalso; omega)) (fun _ => ?_)
        refine xx_aload_n (q := 54) rfl rfl rfl ?_
        refine xx_getR (q := 57) rfl rfl rfl xS_479 (Nat.le_of_ble_eq_true rfl) rfl (hR.1 479 19 rfl) ?_
        refine xx_iload (q := 59) rfl rfl rfl ?_
        refine xx_iaz (v := Y.2.2.2 (i).toNat) (q := 60) rfl rfl xS_493 (by omega) (by omega) ((hC.2 (i).toNat (by omega)).2.2) ?_
        have hb3 := hY.2 (i).toNat
        refine xx_iload_n (q := 61) rfl rfl rfl ?_
        refine xx_icmp_le (q := 68) (q2 := 64) rfl rfl rfl (fun h61 => ?_) (fun h61 => ?_)
        · refine xx_iconst (q := 69) rfl rfl (by decide) ?_
          refine xx_goto (q := 88) rfl rfl ?_
          refine xx_istore (q := 90) (loc2 := [_, _, _, _, _, _]) rfl rfl (Nat.le_of_ble_eq_true rfl) rfl ?_
          refine xx_iload (q := 92) rfl rfl rfl ?_
          refine xx_if_eq (q := 105) (q2 := 95) rfl rfl rfl (fun _ => ?_) (fun h92 => (by exfalso; omega))
          refine xx_iload_n (q := 106) rfl rfl rfl ?_
          refine xx_istore_n (q := 107) (loc2 := [_, _, _, _, _, _]) rfl rfl (Nat.le_of_ble_eq_true rfl) rfl ?_
          refine xx_incz (q := 110) (loc2 := [_, _, _, _, _, _]) rfl rfl rfl (by omega) (by omega) rfl rfl ?_
          refine xx_goto (q := 15) rfl rfl ?_
          have e2 : lowL Y p (k + 1) i v = lowL Y p k (i + 1) v := by
            have hx1 := mxF_sp v (Y.2.2.2 (i).toNat)
            have hx2 := mnF_sp v (Y.2.2.2 (i).toNat)
            simp only [lowL]
            congr 1
            grind
          rw [e2]
          exact ih k (by omega) v (i + 1) _ (by omega) (by omega) (by omega) (by omega)
        · refine xx_iconst (q := 65) rfl rfl (by decide) ?_
          refine xx_goto (q := 88) rfl rfl ?_
          refine xx_istore (q := 90) (loc2 := [_, _, _, _, _, _]) rfl rfl (Nat.le_of_ble_eq_true rfl) rfl ?_
          refine xx_iload (q := 92) rfl rfl rfl ?_
          refine xx_if_eq (q := 105) (q2 := 95) rfl rfl rfl (fun h92 => (by exfalso; omega)) (fun _ => ?_)
          refine xx_aload_n (q := 96) rfl rfl rfl ?_
          refine xx_getR (q := 99) rfl rfl rfl xS_479 (Nat.le_of_ble_eq_true rfl) rfl (hR.1 479 19 rfl) ?_
          refine xx_iload (q := 101) rfl rfl rfl ?_
          refine xx_iaz (v := Y.2.2.2 (i).toNat) (q := 102) rfl rfl xS_493 (by omega) (by omega) ((hC.2 (i).toNat (by omega)).2.2) ?_
          have hb4 := hY.2 (i).toNat
          refine xx_goto (q := 106) rfl rfl ?_
          refine xx_istore_n (q := 107) (loc2 := [_, _, _, _, _, _]) rfl rfl (Nat.le_of_ble_eq_true rfl) rfl ?_
          refine xx_incz (q := 110) (loc2 := [_, _, _, _, _, _]) rfl rfl rfl (by omega) (by omega) rfl rfl ?_
          refine xx_goto (q := 15) rfl rfl ?_
          have e2 : lowL Y p (k + 1) i v = lowL Y p k (i + 1) (Y.2.2.2 (i).toNat) := by
            have hx1 := mxF_sp v (Y.2.2.2 (i).toNat)
            have hx2 := mnF_sp v (Y.2.2.2 (i).toNat)
            simp only [lowL]
            congr 1
            grind
          rw [e2]
          exact ih k (by omega) (Y.2.2.2 (i).toNat) (i + 1) _ (by omega) (by omega) (by omega) (by omega)
      · refine xx_goto (q := 107) rfl rfl ?_
        refine xx_incz (q := 110) (loc2 := [_, _, _, _, _, _]) rfl rfl rfl (by omega) (by omega) rfl rfl ?_
        refine xx_goto (q := 15) rfl rfl ?_
        have e2 : lowL Y p (k + 1) i v = lowL Y p k (i + 1) v := by
          have hx1 := mxF_sp v (Y.2.2.2 (i).toNat)
          have hx2 := mnF_sp v (Y.2.2.2 (i).toNat)
          simp only [lowL]
          congr 1
          grind
        rw [e2]
        exact ih k (by omega) v (i + 1) _ (by omega) (by omega) (by omega) (by omega)
set_option maxHeartbeats 1000000 in
theorem r_saidOf0 {n : Nat} {R : Nat → Nat → Option Nat} {D : KK} {Y : YY} (hR : RF R) (hC : YR Y D) (hY : YI Y) (p : Int) : XC 1 272 [.inr (some 479), .inl p, .inl 0] (xS n, R, D) (some (.inl (lowF Y p))) (xS n, R, D) := by
  refine XC_of (Nat.le_of_ble_eq_true rfl) (Nat.le_of_ble_eq_true rfl) (loc := [_, _, _, _, _, _]) rfl ?_
  refine xx_iload_n (q := 1) rfl rfl rfl ?_
  refine xx_if_ne (q := 8) (q2 := 4) rfl rfl rfl (fun h1 => (by exfalso; omega)) (fun _ => ?_)
  refine xx_iconst (q := 5) rfl rfl (by decide) ?_
  refine xx_goto (q := 11) rfl rfl ?_
  refine xx_istore_n (q := 12) (loc2 := [_, _, _, _, _, _]) rfl rfl (Nat.le_of_ble_eq_true rfl) rfl ?_
  refine xx_iconst (q := 13) rfl rfl (by decide) ?_
  refine xx_istore (q := 15) (loc2 := [_, _, _, _, _, _]) rfl rfl (Nat.le_of_ble_eq_true rfl) rfl ?_
  exact r_say_L0 hR hC hY p Y.1.toNat 0 0 _ (by omega) (by have := hY.1; omega) (by omega) (by omega)
set_option maxHeartbeats 1000000 in
theorem r_say_L1 {n : Nat} {R : Nat → Nat → Option Nat} {D : KK} {Y : YY} (hR : RF R) (hC : YR Y D) (hY : YI Y) (p : Int) : ∀ (k : Nat) (v i : Int) (x : Option XV), 0 ≤ i → i + k = Y.1 → 0 ≤ v → v ≤ 999 → XX (XC 0) 272 (fun r2 m2 => r2 = some (.inl (higL Y p k i v)) ∧ m2 = (xS n, R, D)) 15 [some (.inr (some 479)), some (.inl p), some (.inl 1), some (.inl v), some (.inl i), x] [] (xS n, R, D) := by
  intro k
  induction k using Nat.strongRecOn with
  | ind k ih =>
  intro v i x h1 hk h2 h3
  have hy1 := hY.1
  refine xx_iload (q := 17) rfl rfl rfl ?_
  refine xx_aload_n (q := 18) rfl rfl rfl ?_
  refine xx_gez (q := 21) rfl rfl rfl xS_479 (Nat.le_of_ble_eq_true rfl) rfl hC.1 ?_
  refine xx_icmp_ge (q := 113) (q2 := 24) rfl rfl rfl (fun h21 => ?_) (fun h21 => ?_)
  · refine xx_iload_n (q := 114) rfl rfl rfl ?_
    obtain rfl : k = 0 := by omega
    exact xx_iret rfl trivial ⟨rfl, rfl⟩
  · obtain ⟨k, rfl⟩ : ∃ k2, k = k2 + 1 := ⟨k - 1, by omega⟩
    refine xx_aload_n (q := 25) rfl rfl rfl ?_
    refine xx_getR (q := 28) rfl rfl rfl xS_479 (Nat.le_of_ble_eq_true rfl) rfl (hR.1 479 17 rfl) ?_
    refine xx_iload (q := 30) rfl rfl rfl ?_
    refine xx_iaz (v := Y.2.1 (i).toNat) (q := 31) rfl rfl xS_491 (by omega) (by omega) ((hC.2 (i).toNat (by omega)).1) ?_
    have hb1 := hY.2 (i).toNat
    refine xx_iload_n (q := 32) rfl rfl rfl ?_
    refine xx_icmp_ne (q := 107) (q2 := 35) rfl rfl rfl (fun h32 => ?_) (fun h32 => ?_)
    · refine xx_incz (q := 110) (loc2 := [_, _, _, _, _, _]) rfl rfl rfl (by omega) (by omega) rfl rfl ?_
      refine xx_goto (q := 15) rfl rfl ?_
      have e2 : higL Y p (k + 1) i v = higL Y p k (i + 1) v := by
        have hx1 := mxF_sp v (Y.2.2.2 (i).toNat)
        have hx2 := mnF_sp v (Y.2.2.2 (i).toNat)
        simp only [higL]
        congr 1
        grind
      rw [e2]
      exact ih k (by omega) v (i + 1) _ (by omega) (by omega) (by omega) (by omega)
    · refine xx_aload_n (q := 36) rfl rfl rfl ?_
      refine xx_getR (q := 39) rfl rfl rfl xS_479 (Nat.le_of_ble_eq_true rfl) rfl (hR.1 479 18 rfl) ?_
      refine xx_iload (q := 41) rfl rfl rfl ?_
      refine xx_iaz (v := Y.2.2.1 (i).toNat) (q := 42) rfl rfl xS_492 (by omega) (by omega) ((hC.2 (i).toNat (by omega)).2.1) ?_
      have hb2 := hY.2 (i).toNat
      refine xx_iload_n (q := 43) rfl rfl rfl ?_
      refine xx_icmp_eq (q := 49) (q2 := 46) rfl rfl rfl (fun h43 => ?_) (fun h43 => ?_)
      · refine xx_iload_n (q := 50) rfl rfl rfl ?_
        refine xx_if_ne (q := 72) (q2 := 53) rfl rfl rfl (fun _ => ?_) (fun h50 => (by exfalso; omega))
        refine xx_aload_n (q := 73) rfl rfl rfl ?_
        refine xx_getR (q := 76) rfl rfl rfl xS_479 (Nat.le_of_ble_eq_true rfl) rfl (hR.1 479 19 rfl) ?_
        refine xx_iload (q := 78) rfl rfl rfl ?_
        refine xx_iaz (v := Y.2.2.2 (i).toNat) (q := 79) rfl rfl xS_493 (by omega) (by omega) ((hC.2 (i).toNat (by omega)).2.2) ?_
        have hb3 := hY.2 (i).toNat
        refine xx_iload_n (q := 80) rfl rfl rfl ?_
        refine xx_icmp_ge (q := 87) (q2 := 83) rfl rfl rfl (fun h80 => ?_) (fun h80 => ?_)
        · refine xx_iconst (q := 88) rfl rfl (by decide) ?_
          refine xx_istore (q := 90) (loc2 := [_, _, _, _, _, _]) rfl rfl (Nat.le_of_ble_eq_true rfl) rfl ?_
          refine xx_iload (q := 92) rfl rfl rfl ?_
          refine xx_if_eq (q := 105) (q2 := 95) rfl rfl rfl (fun _ => ?_) (fun h92 => (by exfalso; omega))
          refine xx_iload_n (q := 106) rfl rfl rfl ?_
          refine xx_istore_n (q := 107) (loc2 := [_, _, _, _, _, _]) rfl rfl (Nat.le_of_ble_eq_true rfl) rfl ?_
          refine xx_incz (q := 110) (loc2 := [_, _, _, _, _, _]) rfl rfl rfl (by omega) (by omega) rfl rfl ?_
          refine xx_goto (q := 15) rfl rfl ?_
          have e2 : higL Y p (k + 1) i v = higL Y p k (i + 1) v := by
            have hx1 := mxF_sp v (Y.2.2.2 (i).toNat)
            have hx2 := mnF_sp v (Y.2.2.2 (i).toNat)
            simp only [higL]
            congr 1
            grind
          rw [e2]
          exact ih k (by omega) v (i + 1) _ (by omega) (by omega) (by omega) (by omega)
        · refine xx_iconst (q := 84) rfl rfl (by decide) ?_
          refine xx_goto (q := 88) rfl rfl ?_
          refine xx_istore (q := 90) (loc2 := [_, _, _, _, _, _]) rfl rfl (Nat.le_of_ble_eq_true rfl) rfl ?_
          refine xx_iload (q := 92) rfl rfl rfl ?_
          refine xx_if_eq (q := 105) (q2 := 95) rfl rfl rfl (fun h92 => (by exfalso; omega)) (fun _ => ?_)
          refine xx_aload_n (q := 96) rfl rfl rfl ?_
          refine xx_getR (q := 99) rfl rfl rfl xS_479 (Nat.le_of_ble_eq_true rfl) rfl (hR.1 479 19 rfl) ?_
          refine xx_iload (q := 101) rfl rfl rfl ?_
          refine xx_iaz (v := Y.2.2.2 (i).toNat) (q := 102) rfl rfl xS_493 (by omega) (by omega) ((hC.2 (i).toNat (by omega)).2.2) ?_
          have hb4 := hY.2 (i).toNat
          refine xx_goto (q := 106) rfl rfl ?_
          refine xx_istore_n (q := 107) (loc2 := [_, _, _, _, _, _]) rfl rfl (Nat.le_of_ble_eq_true rfl) rfl ?_
          refine xx_incz (q := 110) (loc2 := [_, _, _, _, _, _]) rfl rfl rfl (by omega) (by omega) rfl rfl ?_
          refine xx_goto (q := 15) rfl rfl ?_
          have e2 : higL Y p (k + 1) i v = higL Y p k (i + 1) (Y.2.2.2 (i).toNat) := by
            have hx1 := mxF_sp v (Y.2.2.2 (i).toNat)
            have hx2 := mnF_sp v (Y.2.2.2 (i).toNat)
            simp only [higL]
            congr 1
            grind
          rw [e2]
          exact ih k (by omega) (Y.2.2.2 (i).toNat) (i + 1) _ (by omega) (by omega) (by omega) (by omega)
      · refine xx_goto (q := 107) rfl rfl ?_
        refine xx_incz (q := 110) (loc2 := [_, _, _, _, _, _]) rfl rfl rfl (by omega) (by omega) rfl rfl ?_
        refine xx_goto (q := 15) rfl rfl ?_
        have e2 : higL Y p (k + 1) i v = higL Y p k (i + 1) v := by
          have hx1 := mxF_sp v (Y.2.2.2 (i).toNat)
          have hx2 := mnF_sp v (Y.2.2.2 (i).toNat)
          simp only [higL]
          congr 1
          grind
        rw [e2]
        exact ih k (by omega) v (i + 1) _ (by omega) (by omega) (by omega) (by omega)
set_option maxHeartbeats 1000000 in
theorem r_saidOf1 {n : Nat} {R : Nat → Nat → Option Nat} {D : KK} {Y : YY} (hR : RF R) (hC : YR Y D) (hY : YI Y) (p : Int) : XC 1 272 [.inr (some 479), .inl p, .inl 1] (xS n, R, D) (some (.inl (higF Y p))) (xS n, R, D) := by
  refine XC_of (Nat.le_of_ble_eq_true rfl) (Nat.le_of_ble_eq_true rfl) (loc := [_, _, _, _, _, _]) rfl ?_
  refine xx_iload_n (q := 1) rfl rfl rfl ?_
  refine xx_if_ne (q := 8) (q2 := 4) rfl rfl rfl (fun _ => ?_) (fun h1 => (by exfalso; omega))
  refine xx_sipush (q := 11) rfl rfl (by decide) ?_
  refine xx_istore_n (q := 12) (loc2 := [_, _, _, _, _, _]) rfl rfl (Nat.le_of_ble_eq_true rfl) rfl ?_
  refine xx_iconst (q := 13) rfl rfl (by decide) ?_
  refine xx_istore (q := 15) (loc2 := [_, _, _, _, _, _]) rfl rfl (Nat.le_of_ble_eq_true rfl) rfl ?_
  exact r_say_L1 hR hC hY p Y.1.toNat 999 0 _ (by omega) (by have := hY.1; omega) (by omega) (by omega)
set_option maxHeartbeats 4000000 in
theorem r_rng_L {n : Nat} {R : Nat → Nat → Option Nat} {t : Int} {K D0 D : KK} {b : Int} {B : Nat → Int} {U : UU} (hR : RF R) (hV : RV t K b B U D0 D) (hI : KI K) {Y : YY} (hC : YR Y D) (hY : YI Y) (p w : Int) (hp : 0 ≤ p) : ∀ (k : Nat) (l h i : Int) (x : Option XV), 0 ≤ l → 0 ≤ h → l ≤ 999 * i → h ≤ 999 * i → 0 ≤ i → i + k = K 0 0 + 1 → XX (XC 2) 274 (fun r2 m2 => r2 = some (.inl (rngE Y p (watF K) (w = 0) (rngL Y k i l h))) ∧ m2 = (xS n, R, D)) 33 [some (.inr (some 479)), some (.inl p), some (.inl w), some (.inl l), some (.inl h), some (.inl i), x] [] (xS n, R, D) := by
  intro k
  induction k using Nat.strongRecOn with
  | ind k ih =>
  intro l h i x h1 h2 h3 h4 h5x hk
  have hbL := ki_L hI
  refine xx_iload (q := 35) rfl rfl rfl ?_
  refine xx_aload_n (q := 36) rfl rfl rfl ?_
  refine xx_gez (q := 39) rfl rfl rfl xS_479 (Nat.le_of_ble_eq_true rfl) rfl (rv_L hV) ?_
  have hb1 : 1 ≤ K 0 0 ∧ K 0 0 ≤ 9 := by have h := ki_L hI; exact h
  refine xx_icmp_gt (q := 89) (q2 := 42) rfl rfl rfl (fun h39 => ?_) (fun h39 => ?_)
  · refine xx_aload_n (q := 90) rfl rfl rfl ?_
    refine xx_callV (q := 93) (As := []) (rest := []) rfl rfl rfl (Or.inl rfl) rfl rfl (Nat.le_of_ble_eq_true rfl) xS_479 (XCm (r_allDepths hR hV hI) rfl) rfl ?_
    have hb2 := watF_b hI
    refine xx_istore (q := 95) (loc2 := [_, _, _, _, _, _, _]) rfl rfl (Nat.le_of_ble_eq_true rfl) rfl ?_
    refine xx_aload_n (q := 96) rfl rfl rfl ?_
    refine xx_iload (q := 98) rfl rfl rfl ?_
    refine xx_iload_n (q := 99) rfl rfl rfl ?_
    refine xx_iload (q := 101) rfl rfl rfl ?_
    refine xx_callV (q := 104) (As := [_, _, _]) (rest := []) rfl rfl rfl (Or.inl rfl) rfl rfl (Nat.le_of_ble_eq_true rfl) xS_479 (XCm (r_isIn (watF K) l h) rfl) rfl ?_
    refine xx_ifb_ne (q := 109) (q2 := 107) rfl rfl rfl (fun h104 => ?_) (fun h104 => ?_)
    · refine xx_iload_n (q := 110) rfl rfl rfl ?_
      refine xx_if_ne (q := 128) (q2 := 113) rfl rfl rfl (fun h110 => ?_) (fun h110 => ?_)
      · refine xx_iload (q := 130) rfl rfl rfl ?_
        refine xx_iload_n (q := 131) rfl rfl rfl ?_
        refine xx_aload_n (q := 132) rfl rfl rfl ?_
        refine xx_iload_n (q := 133) rfl rfl rfl ?_
        refine xx_iconst (q := 134) rfl rfl (by decide) ?_
        refine xx_callV (q := 137) (As := [_, _]) (rest := [_, _]) rfl rfl rfl (Or.inl rfl) rfl rfl (Nat.le_of_ble_eq_true rfl) xS_479 (XCm (r_saidOf0 (n := n) hR hC hY p) rfl) rfl ?_
        have hb3 := lowF_b hY p
        refine xx_isubR (q := 138) rfl rfl (by omega) (by omega) ?_
        refine xx_isubR (q := 139) rfl rfl (by omega) (by omega) ?_
        refine xx_istore (q := 141) (loc2 := [_, _, _, _, _, _, _]) rfl rfl (Nat.le_of_ble_eq_true rfl) rfl ?_
        refine xx_iload_n (q := 142) rfl rfl rfl ?_
        refine xx_if_ne (q := 168) (q2 := 145) rfl rfl rfl (fun _ => ?_) (fun h142 => (by exfalso; omega))
        refine xx_iload (q := 170) rfl rfl rfl ?_
        refine xx_aload_n (q := 171) rfl rfl rfl ?_
        refine xx_iload_n (q := 172) rfl rfl rfl ?_
        refine xx_iconst (q := 173) rfl rfl (by decide) ?_
        refine xx_callV (q := 176) (As := [_, _]) (rest := [_]) rfl rfl rfl (Or.inl rfl) rfl rfl (Nat.le_of_ble_eq_true rfl) xS_479 (XCm (r_saidOf1 (n := n) hR hC hY p) rfl) rfl ?_
        have hb4 := higF_b hY p
        refine xx_icmp_ge (q := 184) (q2 := 179) rfl rfl rfl (fun h176 => ?_) (fun h176 => ?_)
        · refine xx_aload_n (q := 185) rfl rfl rfl ?_
          refine xx_iload_n (q := 186) rfl rfl rfl ?_
          refine xx_iconst (q := 187) rfl rfl (by decide) ?_
          refine xx_callV (q := 190) (As := [_, _]) (rest := []) rfl rfl rfl (Or.inl rfl) rfl rfl (Nat.le_of_ble_eq_true rfl) xS_479 (XCm (r_saidOf1 (n := n) hR hC hY p) rfl) rfl ?_
          have hb5 := higF_b hY p
          obtain rfl : k = 0 := by omega
          exact xx_iret rfl trivial ⟨congrArg (fun z => some (Sum.inl z)) (by (show _ = if watF K < l ∨ h < watF K then (-1 : Int) else if w = 0 then mxF (lowF Y p) (watF K - (h - higF Y p)) else mnF (higF Y p) (watF K - (l - lowF Y p)); have hx1 := mxF_sp (lowF Y p) (watF K - (h - higF Y p)); have hx2 := mnF_sp (higF Y p) (watF K - (l - lowF Y p)); grind)), rfl⟩
        · refine xx_iload (q := 181) rfl rfl rfl ?_
          refine xx_goto (q := 190) rfl rfl ?_
          obtain rfl : k = 0 := by omega
          exact xx_iret rfl trivial ⟨congrArg (fun z => some (Sum.inl z)) (by (show _ = if watF K < l ∨ h < watF K then (-1 : Int) else if w = 0 then mxF (lowF Y p) (watF K - (h - higF Y p)) else mnF (higF Y p) (watF K - (l - lowF Y p)); have hx1 := mxF_sp (lowF Y p) (watF K - (h - higF Y p)); have hx2 := mnF_sp (higF Y p) (watF K - (l - lowF Y p)); grind)), rfl⟩
      · refine xx_iload (q := 115) rfl rfl rfl ?_
        refine xx_iload (q := 117) rfl rfl rfl ?_
        refine xx_aload_n (q := 118) rfl rfl rfl ?_
        refine xx_iload_n (q := 119) rfl rfl rfl ?_
        refine xx_iconst (q := 120) rfl rfl (by decide) ?_
        refine xx_callV (q := 123) (As := [_, _]) (rest := [_, _]) rfl rfl rfl (Or.inl rfl) rfl rfl (Nat.le_of_ble_eq_true rfl) xS_479 (XCm (r_saidOf1 (n := n) hR hC hY p) rfl) rfl ?_
        have hb6 := higF_b hY p
        refine xx_isubR (q := 124) rfl rfl (by omega) (by omega) ?_
        refine xx_isubR (q := 125) rfl rfl (by omega) (by omega) ?_
        refine xx_goto (q := 139) rfl rfl ?_
        refine xx_istore (q := 141) (loc2 := [_, _, _, _, _, _, _]) rfl rfl (Nat.le_of_ble_eq_true rfl) rfl ?_
        refine xx_iload_n (q := 142) rfl rfl rfl ?_
        refine xx_if_ne (q := 168) (q2 := 145) rfl rfl rfl (fun h142 => (by exfalso; omega)) (fun _ => ?_)
        refine xx_iload (q := 147) rfl rfl rfl ?_
        refine xx_aload_n (q := 148) rfl rfl rfl ?_
        refine xx_iload_n (q := 149) rfl rfl rfl ?_
        refine xx_iconst (q := 150) rfl rfl (by decide) ?_
        refine xx_callV (q := 153) (As := [_, _]) (rest := [_]) rfl rfl rfl (Or.inl rfl) rfl rfl (Nat.le_of_ble_eq_true rfl) xS_479 (XCm (r_saidOf0 (n := n) hR hC hY p) rfl) rfl ?_
        have hb7 := lowF_b hY p
        refine xx_icmp_le (q := 161) (q2 := 156) rfl rfl rfl (fun h153 => ?_) (fun h153 => ?_)
        · refine xx_aload_n (q := 162) rfl rfl rfl ?_
          refine xx_iload_n (q := 163) rfl rfl rfl ?_
          refine xx_iconst (q := 164) rfl rfl (by decide) ?_
          refine xx_callV (q := 167) (As := [_, _]) (rest := []) rfl rfl rfl (Or.inl rfl) rfl rfl (Nat.le_of_ble_eq_true rfl) xS_479 (XCm (r_saidOf0 (n := n) hR hC hY p) rfl) rfl ?_
          have hb8 := lowF_b hY p
          obtain rfl : k = 0 := by omega
          exact xx_iret rfl trivial ⟨congrArg (fun z => some (Sum.inl z)) (by (show _ = if watF K < l ∨ h < watF K then (-1 : Int) else if w = 0 then mxF (lowF Y p) (watF K - (h - higF Y p)) else mnF (higF Y p) (watF K - (l - lowF Y p)); have hx1 := mxF_sp (lowF Y p) (watF K - (h - higF Y p)); have hx2 := mnF_sp (higF Y p) (watF K - (l - lowF Y p)); grind)), rfl⟩
        · refine xx_iload (q := 158) rfl rfl rfl ?_
          refine xx_goto (q := 167) rfl rfl ?_
          obtain rfl : k = 0 := by omega
          exact xx_iret rfl trivial ⟨congrArg (fun z => some (Sum.inl z)) (by (show _ = if watF K < l ∨ h < watF K then (-1 : Int) else if w = 0 then mxF (lowF Y p) (watF K - (h - higF Y p)) else mnF (higF Y p) (watF K - (l - lowF Y p)); have hx1 := mxF_sp (lowF Y p) (watF K - (h - higF Y p)); have hx2 := mnF_sp (higF Y p) (watF K - (l - lowF Y p)); grind)), rfl⟩
    · refine xx_iconst (q := 108) rfl rfl (by decide) ?_
      obtain rfl : k = 0 := by omega
      exact xx_iret rfl trivial ⟨congrArg (fun z => some (Sum.inl z)) (by (show _ = if watF K < l ∨ h < watF K then (-1 : Int) else if w = 0 then mxF (lowF Y p) (watF K - (h - higF Y p)) else mnF (higF Y p) (watF K - (l - lowF Y p)); rw [if_pos (by omega)])), rfl⟩
  · obtain ⟨k, rfl⟩ : ∃ k2, k = k2 + 1 := ⟨k - 1, by omega⟩
    refine xx_aload_n (q := 43) rfl rfl rfl ?_
    refine xx_iload (q := 45) rfl rfl rfl ?_
    refine xx_iconst (q := 46) rfl rfl (by decide) ?_
    refine xx_callV (q := 49) (As := [_, _]) (rest := []) rfl rfl rfl (Or.inl rfl) rfl rfl (Nat.le_of_ble_eq_true rfl) xS_479 (XCm (r_saidOf0 (n := n) hR hC hY i) rfl) rfl ?_
    have hb9 := lowF_b hY i
    refine xx_aload_n (q := 50) rfl rfl rfl ?_
    refine xx_iload (q := 52) rfl rfl rfl ?_
    refine xx_iconst (q := 53) rfl rfl (by decide) ?_
    refine xx_callV (q := 56) (As := [_, _]) (rest := [_]) rfl rfl rfl (Or.inl rfl) rfl rfl (Nat.le_of_ble_eq_true rfl) xS_479 (XCm (r_saidOf1 (n := n) hR hC hY i) rfl) rfl ?_
    have hb10 := higF_b hY i
    refine xx_icmp_le (q := 61) (q2 := 59) rfl rfl rfl (fun h56 => ?_) (fun h56 => ?_)
    · refine xx_iload_n (q := 62) rfl rfl rfl ?_
      refine xx_aload_n (q := 63) rfl rfl rfl ?_
      refine xx_iload (q := 65) rfl rfl rfl ?_
      refine xx_iconst (q := 66) rfl rfl (by decide) ?_
      refine xx_callV (q := 69) (As := [_, _]) (rest := [_]) rfl rfl rfl (Or.inl rfl) rfl rfl (Nat.le_of_ble_eq_true rfl) xS_479 (XCm (r_saidOf0 (n := n) hR hC hY i) rfl) rfl ?_
      have hb11 := lowF_b hY i
      refine xx_iaddR (q := 70) rfl rfl (by omega) (by omega) ?_
      refine xx_istore_n (q := 71) (loc2 := [_, _, _, _, _, _, _]) rfl rfl (Nat.le_of_ble_eq_true rfl) rfl ?_
      refine xx_iload (q := 73) rfl rfl rfl ?_
      refine xx_aload_n (q := 74) rfl rfl rfl ?_
      refine xx_iload (q := 76) rfl rfl rfl ?_
      refine xx_iconst (q := 77) rfl rfl (by decide) ?_
      refine xx_callV (q := 80) (As := [_, _]) (rest := [_]) rfl rfl rfl (Or.inl rfl) rfl rfl (Nat.le_of_ble_eq_true rfl) xS_479 (XCm (r_saidOf1 (n := n) hR hC hY i) rfl) rfl ?_
      have hb12 := higF_b hY i
      refine xx_iaddR (q := 81) rfl rfl (by omega) (by omega) ?_
      refine xx_istore (q := 83) (loc2 := [_, _, _, _, _, _, _]) rfl rfl (Nat.le_of_ble_eq_true rfl) rfl ?_
      refine xx_incz (q := 86) (loc2 := [_, _, _, _, _, _, _]) rfl rfl rfl (by omega) (by omega) rfl rfl ?_
      refine xx_goto (q := 33) rfl rfl ?_
      rw [show rngL Y (k + 1) i l h = rngL Y k (i + 1) (l + lowF Y i) (h + higF Y i) from if_neg (by omega)]
      exact ih k (by omega) _ _ _ _ (by omega) (by omega) (by omega) (by omega) (by omega) (by omega)
    · refine xx_iconst (q := 60) rfl rfl (by decide) ?_
      exact xx_iret rfl trivial ⟨congrArg (fun z => some (Sum.inl z)) (by rw [show rngL Y (k + 1) i l h = none from if_pos (by omega)]; rfl), rfl⟩
set_option maxHeartbeats 2000000 in
theorem r_range {n : Nat} {R : Nat → Nat → Option Nat} {K D : KK} {b : Int} {B : Nat → Int} {U : UU} (hR : RF R) (hV : RV 0 K b B U D D) (hI : KI K) {Y : YY} (hC : YR Y D) (hY : YI Y) (p w : Int) : ∃ D', XC 3 274 [.inr (some 479), .inl p, .inl w] (xS n, R, D) (some (.inl (rngA K Y p w))) (xS n, R, D') ∧ PV (K) (b) (B) (U) D D' := by
  have hbL := ki_L hI
  refine XE_of (Nat.le_of_ble_eq_true rfl) (Nat.le_of_ble_eq_true rfl) (loc := [_, _, _, _, _, _, _]) rfl ?_
  refine xx_aload_n (q := 1) rfl rfl rfl ?_
  refine xx_iconst (q := 2) rfl rfl (by decide) ?_
  refine xr_puz (PV K b B U D) (q := 5) rfl rfl rfl xS_479 (Nat.le_of_ble_eq_true rfl) (Nat.le_of_ble_eq_true rfl) (fun h => by cases h) (Or.inl rfl) ⟨hV.u (by decide), FQ.rf.up (by unfold restQ; omega)⟩ (fun D1 hP0 => ?_)
  refine xx_aload_n (q := 6) rfl rfl rfl ?_
  refine xx_iload_n (q := 7) rfl rfl rfl ?_
  refine xx_callV (q := 10) (As := [_]) (rest := []) rfl rfl rfl (Or.inl rfl) rfl rfl (Nat.le_of_ble_eq_true rfl) xS_479 (XCm (r_isPool hR hP0.1 hI p) rfl) rfl ?_
  refine xx_ifb_eq (q := 23) (q2 := 13) rfl rfl rfl (fun h10 => ?_) (fun h10 => ?_)
  · refine xx_iconst (q := 24) rfl rfl (by decide) ?_
    refine xx_iret rfl trivial ⟨congrArg (fun z => some (Sum.inl z)) (by unfold rngA; rw [if_pos (by omega)]), _, rfl, ?_⟩
    exact hP0
  · refine xx_aload_n (q := 14) rfl rfl rfl ?_
    refine xx_iload_n (q := 15) rfl rfl rfl ?_
    refine xx_iconst (q := 16) rfl rfl (by decide) ?_
    refine xx_iconst (q := 17) rfl rfl (by decide) ?_
    refine xx_callV (q := 20) (As := [_, _, _]) (rest := []) rfl rfl rfl (Or.inl rfl) rfl rfl (Nat.le_of_ble_eq_true rfl) xS_479 (XCm (r_isIn w 0 1) rfl) rfl ?_
    refine xx_ifb_ne (q := 25) (q2 := 23) rfl rfl rfl (fun h20 => ?_) (fun h20 => ?_)
    · refine xx_iconst (q := 26) rfl rfl (by decide) ?_
      refine xx_istore_n (q := 27) (loc2 := [_, _, _, _, _, _, _]) rfl rfl (Nat.le_of_ble_eq_true rfl) rfl ?_
      refine xx_iconst (q := 28) rfl rfl (by decide) ?_
      refine xx_istore (q := 30) (loc2 := [_, _, _, _, _, _, _]) rfl rfl (Nat.le_of_ble_eq_true rfl) rfl ?_
      refine xx_iconst (q := 31) rfl rfl (by decide) ?_
      refine xx_istore (q := 33) (loc2 := [_, _, _, _, _, _, _]) rfl rfl (Nat.le_of_ble_eq_true rfl) rfl ?_
      rw [show rngA K Y p w = rngE Y p (watF K) (w = 0) (rngL Y (K 0 0 + 1).toNat 0 0 0) from if_neg (by omega)]
      exact XX_mono (fun r m2 h => ⟨h.1, _, h.2, hP0⟩) (r_rng_L hR hP0.1 hI (hC.fq hP0.2) hY p w (by omega) (K 0 0 + 1).toNat 0 0 0 _ (by omega) (by omega) (by omega) (by omega) (by omega) (by omega))
    · refine xx_iconst (q := 24) rfl rfl (by decide) ?_
      refine xx_iret rfl trivial ⟨congrArg (fun z => some (Sum.inl z)) (by unfold rngA; rw [if_pos (by omega)]), _, rfl, ?_⟩
      exact hP0
theorem RV.self2 {t : Int} {K : KK} {b : Int} {B : Nat → Int} {U : UU} {D0 D E : KK} (h : RV t K b B U D0 D) (g : ∀ x k, (x = 479 ∧ (k = 3 ∨ k = 5 ∨ k = 6 ∨ k = 7)) ∨ (480 ≤ x ∧ x ≤ 490) ∨ x = 496 → E x k = D x k) : RV t K b B U E E := ⟨by rw [show E 480 = D 480 from funext (fun k => g _ _ (by omega))]; exact h.1, by
  obtain ⟨h0, h1, h2, h3, h4, h5, h6, h7, h8, h9⟩ := h.2.1
  exact ⟨(g _ _ (by omega)).trans h0, (g _ _ (by omega)).trans h1, fun i hi => (g _ _ (by omega)).trans (h2 i hi), fun i hi => (g _ _ (by omega)).trans (h3 i hi), fun i hi => (g _ _ (by omega)).trans (h4 i hi), fun i hi => (g _ _ (by omega)).trans (h5 i hi), fun i hi => (g _ _ (by omega)).trans (h6 i hi), fun i hi => (g _ _ (by omega)).trans (h7 i hi), fun i hi => (g _ _ (by omega)).trans (h8 i hi), fun i hi => (g _ _ (by omega)).trans (h9 i hi)⟩, (g _ _ (by omega)).trans h.2.2.1, h.2.2.2.1, fun k hk => (g _ _ (by omega)).trans (h.2.2.2.2.1 k hk), h.2.2.2.2.2.1.up (fun k => g _ _ (by omega)) (g _ _ (by omega)), FV.rf⟩
theorem PV.both {K : KK} {b : Int} {B : Nat → Int} {U : UU} {D d : KK} {a j : Nat} {v : Int} (h : PV K b B U D d) (ha : (491 ≤ a ∧ a ≤ 495) ∨ 497 ≤ a ∨ (a = 479 ∧ j ≠ 3 ∧ j ≠ 5 ∧ j ≠ 6 ∧ j ≠ 7)) : PV K b B U (xui D a j v) (xui d a j v) := ⟨h.1.self2 (fun x k q => if_neg (fun r => by omega)), fun x k q => by
  unfold xui
  split
  · rfl
  · exact h.2 x k q⟩
set_option maxHeartbeats 2000000 in
theorem r_tell {n : Nat} {R : Nat → Nat → Option Nat} {K D : KK} {b : Int} {B : Nat → Int} {U : UU} (hR : RF R) (hV : RV 0 K b B U D D) (hI : KI K) (w p v : Int) : ∃ D', XC 2 275 [.inr (some 479), .inl w, .inl p, .inl v] (xS n, R, D) (some (.inl (bi (telQ K w p v)))) (xS n, R, D') ∧ PV (K) (b) (B) (U) (if telQ K w p v then xui D (if w = 0 then 494 else 495) p.toNat v else D) D' := by
  have hbL := ki_L hI
  refine XE_of (Nat.le_of_ble_eq_true rfl) (Nat.le_of_ble_eq_true rfl) (loc := [_, _, _, _]) rfl ?_
  refine xx_aload_n (q := 1) rfl rfl rfl ?_
  refine xx_iconst (q := 2) rfl rfl (by decide) ?_
  refine xr_puz (PV K b B U D) (q := 5) rfl rfl rfl xS_479 (Nat.le_of_ble_eq_true rfl) (Nat.le_of_ble_eq_true rfl) (fun h => by cases h) (Or.inl rfl) ⟨hV.u (by decide), FQ.rf.up (by unfold restQ; omega)⟩ (fun D1 hP0 => ?_)
  refine xx_aload_n (q := 6) rfl rfl rfl ?_
  refine xx_iload_n (q := 7) rfl rfl rfl ?_
  refine xx_iconst (q := 8) rfl rfl (by decide) ?_
  refine xx_iconst (q := 9) rfl rfl (by decide) ?_
  refine xx_callV (q := 12) (As := [_, _, _]) (rest := []) rfl rfl rfl (Or.inl rfl) rfl rfl (Nat.le_of_ble_eq_true rfl) xS_479 (XCm (r_isIn w 0 1) rfl) rfl ?_
  refine xx_ifb_eq (q := 35) (q2 := 15) rfl rfl rfl (fun h12 => ?_) (fun h12 => ?_)
  · refine xx_iconst (q := 36) rfl rfl (by decide) ?_
    refine xx_iret rfl (Or.inl rfl) ⟨congrArg (fun z => some (Sum.inl z)) (by exact (bi_f (by omega)).symm), _, rfl, ?_⟩
    rw [if_neg (by omega)]
    exact hP0
  · refine xx_aload_n (q := 16) rfl rfl rfl ?_
    refine xx_iload_n (q := 17) rfl rfl rfl ?_
    refine xx_callV (q := 20) (As := [_]) (rest := []) rfl rfl rfl (Or.inl rfl) rfl rfl (Nat.le_of_ble_eq_true rfl) xS_479 (XCm (r_isPool hR hP0.1 hI p) rfl) rfl ?_
    refine xx_ifb_eq (q := 35) (q2 := 23) rfl rfl rfl (fun h20 => ?_) (fun h20 => ?_)
    · refine xx_iconst (q := 36) rfl rfl (by decide) ?_
      refine xx_iret rfl (Or.inl rfl) ⟨congrArg (fun z => some (Sum.inl z)) (by exact (bi_f (by omega)).symm), _, rfl, ?_⟩
      rw [if_neg (by omega)]
      exact hP0
    · refine xx_aload_n (q := 24) rfl rfl rfl ?_
      refine xx_iload_n (q := 25) rfl rfl rfl ?_
      refine xx_iconst (q := 26) rfl rfl (by decide) ?_
      refine xx_sipush (q := 29) rfl rfl (by decide) ?_
      refine xx_callV (q := 32) (As := [_, _, _]) (rest := []) rfl rfl rfl (Or.inl rfl) rfl rfl (Nat.le_of_ble_eq_true rfl) xS_479 (XCm (r_isIn v 0 999) rfl) rfl ?_
      refine xx_ifb_ne (q := 37) (q2 := 35) rfl rfl rfl (fun h32 => ?_) (fun h32 => ?_)
      · refine xx_iload_n (q := 38) rfl rfl rfl ?_
        refine xx_if_ne (q := 51) (q2 := 41) rfl rfl rfl (fun h38 => ?_) (fun h38 => ?_)
        · refine xx_aload_n (q := 52) rfl rfl rfl ?_
          refine xx_getR (q := 55) rfl rfl rfl xS_479 (Nat.le_of_ble_eq_true rfl) rfl (hR.1 479 21 rfl) ?_
          refine xx_iload_n (q := 56) rfl rfl rfl ?_
          refine xx_iload_n (q := 57) rfl rfl rfl ?_
          refine xx_isz (q := 58) rfl rfl xS_495 (by omega) (by omega) rfl ?_
          refine xx_iconst (q := 59) rfl rfl (by decide) ?_
          refine xx_iret rfl (Or.inr rfl) ⟨congrArg (fun z => some (Sum.inl z)) (by exact (bi_t (by omega)).symm), _, rfl, ?_⟩
          rw [if_pos (by omega), if_neg (by omega)]
          exact (hP0.both (a := 495) (j := (p).toNat) (v := v) (by omega))
        · refine xx_aload_n (q := 42) rfl rfl rfl ?_
          refine xx_getR (q := 45) rfl rfl rfl xS_479 (Nat.le_of_ble_eq_true rfl) rfl (hR.1 479 20 rfl) ?_
          refine xx_iload_n (q := 46) rfl rfl rfl ?_
          refine xx_iload_n (q := 47) rfl rfl rfl ?_
          refine xx_isz (q := 48) rfl rfl xS_494 (by omega) (by omega) rfl ?_
          refine xx_goto (q := 58) rfl rfl ?_
          refine xx_iconst (q := 59) rfl rfl (by decide) ?_
          refine xx_iret rfl (Or.inr rfl) ⟨congrArg (fun z => some (Sum.inl z)) (by exact (bi_t (by omega)).symm), _, rfl, ?_⟩
          rw [if_pos (by omega), if_pos (by omega)]
          exact (hP0.both (a := 494) (j := (p).toNat) (v := v) (by omega))
      · refine xx_iconst (q := 36) rfl rfl (by decide) ?_
        refine xx_iret rfl (Or.inl rfl) ⟨congrArg (fun z => some (Sum.inl z)) (by exact (bi_f (by omega)).symm), _, rfl, ?_⟩
        rw [if_neg (by omega)]
        exact hP0
def sadE (K : KK) (Y : YY) (p h v : Int) (D : KK) : KK := if p = -1 then xui D 479 16 0 else if ¬ ((0 ≤ p ∧ p ≤ K 0 0) ∧ (0 ≤ h ∧ h ≤ 1) ∧ (0 ≤ v ∧ v ≤ 999)) then D else if Y.1 < 12 then xui (xui (xui (xui D 491 Y.1.toNat p) 492 Y.1.toNat h) 493 Y.1.toNat v) 479 16 (Y.1 + 1) else D
theorem sadE_Y {K : KK} {Y : YY} {p h v : Int} {D : KK} (hC : YR Y D) (hY : YI Y) : YR (sadY K Y p h v) (sadE K Y p h v D) := by
  unfold sadE sadY
  split
  · exact ⟨xui_s, fun i hi => by exfalso; have : (i : Int) < 0 := hi; omega⟩
  · split
    · exact hC
    · split
      · refine ⟨xui_s, fun i hi => ?_⟩
        have hi2 : (i : Int) < Y.1 + 1 := hi
        have hy := hY.1
        rcases Classical.em ((i : Int) = Y.1) with e | e
        · have e2 : Y.1.toNat = i := by omega
          refine ⟨?_, ?_, ?_⟩
          · show (xui (xui (xui (xui D 491 Y.1.toNat p) 492 Y.1.toNat h) 493 Y.1.toNat v) 479 16 (Y.1 + 1)) 491 i = fset _ _ _ _
            rw [e2, xui_a (by omega), xui_a (by omega), xui_a (by omega), xui_s, fset_s]
          · show (xui (xui (xui (xui D 491 Y.1.toNat p) 492 Y.1.toNat h) 493 Y.1.toNat v) 479 16 (Y.1 + 1)) 492 i = fset _ _ _ _
            rw [e2, xui_a (by omega), xui_a (by omega), xui_s, fset_s]
          · show (xui (xui (xui (xui D 491 Y.1.toNat p) 492 Y.1.toNat h) 493 Y.1.toNat v) 479 16 (Y.1 + 1)) 493 i = fset _ _ _ _
            rw [e2, xui_a (by omega), xui_s, fset_s]
        · obtain ⟨q1, q2, q3⟩ := hC.2 i (by omega)
          refine ⟨?_, ?_, ?_⟩
          · show (xui (xui (xui (xui D 491 Y.1.toNat p) 492 Y.1.toNat h) 493 Y.1.toNat v) 479 16 (Y.1 + 1)) 491 i = fset _ _ _ _
            rw [xui_a (by omega), xui_a (by omega), xui_a (by omega), xui_j (by omega), fset_n (by omega)]; exact q1
          · show (xui (xui (xui (xui D 491 Y.1.toNat p) 492 Y.1.toNat h) 493 Y.1.toNat v) 479 16 (Y.1 + 1)) 492 i = fset _ _ _ _
            rw [xui_a (by omega), xui_a (by omega), xui_j (by omega), fset_n (by omega), xui_a (by omega)]; exact q2
          · show (xui (xui (xui (xui D 491 Y.1.toNat p) 492 Y.1.toNat h) 493 Y.1.toNat v) 479 16 (Y.1 + 1)) 493 i = fset _ _ _ _
            rw [xui_a (by omega), xui_j (by omega), fset_n (by omega), xui_a (by omega), xui_a (by omega)]; exact q3
      · exact hC
theorem sadE_o {K : KK} {Y : YY} {p h v : Int} {D : KK} {x k : Nat} (h1 : x = 479 → k ≠ 16) (h2 : x < 491 ∨ 493 < x) : sadE K Y p h v D x k = D x k := by
  unfold sadE
  split
  · exact if_neg (fun r => h1 r.1 r.2)
  · split
    · rfl
    · split
      · rw [show xui (xui (xui (xui D 491 Y.1.toNat p) 492 Y.1.toNat h) 493 Y.1.toNat v) 479 16 (Y.1 + 1) x k = xui (xui (xui D 491 Y.1.toNat p) 492 Y.1.toNat h) 493 Y.1.toNat v x k from if_neg (fun r => h1 r.1 r.2), xui_a (by omega), xui_a (by omega), xui_a (by omega)]
      · rfl
set_option maxHeartbeats 2000000 in
theorem r_said {n : Nat} {R : Nat → Nat → Option Nat} {K D : KK} {b : Int} {B : Nat → Int} {U : UU} (hR : RF R) (hV : RV 0 K b B U D D) (hI : KI K) {Y : YY} (hC : YR Y D) (hY : YI Y) (p h v : Int) : ∃ D', XC 2 271 [.inr (some 479), .inl p, .inl h, .inl v] (xS n, R, D) (some (.inl (sadF K Y p h v))) (xS n, R, D') ∧ PV (K) (b) (B) (U) (sadE K Y p h v D) D' := by
  have hbL := ki_L hI
  have hy1 := hY.1
  refine XE_of (Nat.le_of_ble_eq_true rfl) (Nat.le_of_ble_eq_true rfl) (loc := [_, _, _, _]) rfl ?_
  refine xx_aload_n (q := 1) rfl rfl rfl ?_
  refine xx_iconst (q := 2) rfl rfl (by decide) ?_
  refine xr_puz (PV K b B U D) (q := 5) rfl rfl rfl xS_479 (Nat.le_of_ble_eq_true rfl) (Nat.le_of_ble_eq_true rfl) (fun h => by cases h) (Or.inl rfl) ⟨hV.u (by decide), FQ.rf.up (by unfold restQ; omega)⟩ (fun D1 hP0 => ?_)
  have hY0 : D1 479 16 = Y.1 := (hP0.2 _ _ (by unfold restQ; omega)).trans hC.1
  refine xx_iload_n (q := 6) rfl rfl rfl ?_
  refine xx_iconst (q := 7) rfl rfl (by decide) ?_
  refine xx_icmp_ne (q := 17) (q2 := 10) rfl rfl rfl (fun h7 => ?_) (fun h7 => ?_)
  · refine xx_aload_n (q := 18) rfl rfl rfl ?_
    refine xx_iload_n (q := 19) rfl rfl rfl ?_
    refine xx_callV (q := 22) (As := [_]) (rest := []) rfl rfl rfl (Or.inl rfl) rfl rfl (Nat.le_of_ble_eq_true rfl) xS_479 (XCm (r_isPool hR hP0.1 hI p) rfl) rfl ?_
    refine xx_ifb_eq (q := 56) (q2 := 25) rfl rfl rfl (fun h22 => ?_) (fun h22 => ?_)
    · refine xx_iconst (q := 57) rfl rfl (by decide) ?_
      refine xx_iret rfl trivial ⟨congrArg (fun z => some (Sum.inl z)) (by unfold sadF; grind), _, rfl, ?_⟩
      unfold sadE
      rw [if_neg h7]
      first
      | (rw [if_pos (by omega)]; exact hP0)
      | (rw [if_neg (by omega), if_neg (by omega)]; exact hP0)
    · refine xx_aload_n (q := 26) rfl rfl rfl ?_
      refine xx_iload_n (q := 27) rfl rfl rfl ?_
      refine xx_iconst (q := 28) rfl rfl (by decide) ?_
      refine xx_iconst (q := 29) rfl rfl (by decide) ?_
      refine xx_callV (q := 32) (As := [_, _, _]) (rest := []) rfl rfl rfl (Or.inl rfl) rfl rfl (Nat.le_of_ble_eq_true rfl) xS_479 (XCm (r_isIn h 0 1) rfl) rfl ?_
      refine xx_ifb_eq (q := 56) (q2 := 35) rfl rfl rfl (fun h32 => ?_) (fun h32 => ?_)
      · refine xx_iconst (q := 57) rfl rfl (by decide) ?_
        refine xx_iret rfl trivial ⟨congrArg (fun z => some (Sum.inl z)) (by unfold sadF; grind), _, rfl, ?_⟩
        unfold sadE
        rw [if_neg h7]
        first
        | (rw [if_pos (by omega)]; exact hP0)
        | (rw [if_neg (by omega), if_neg (by omega)]; exact hP0)
      · refine xx_aload_n (q := 36) rfl rfl rfl ?_
        refine xx_iload_n (q := 37) rfl rfl rfl ?_
        refine xx_iconst (q := 38) rfl rfl (by decide) ?_
        refine xx_sipush (q := 41) rfl rfl (by decide) ?_
        refine xx_callV (q := 44) (As := [_, _, _]) (rest := []) rfl rfl rfl (Or.inl rfl) rfl rfl (Nat.le_of_ble_eq_true rfl) xS_479 (XCm (r_isIn v 0 999) rfl) rfl ?_
        refine xx_ifb_eq (q := 56) (q2 := 47) rfl rfl rfl (fun h44 => ?_) (fun h44 => ?_)
        · refine xx_iconst (q := 57) rfl rfl (by decide) ?_
          refine xx_iret rfl trivial ⟨congrArg (fun z => some (Sum.inl z)) (by unfold sadF; grind), _, rfl, ?_⟩
          unfold sadE
          rw [if_neg h7]
          first
          | (rw [if_pos (by omega)]; exact hP0)
          | (rw [if_neg (by omega), if_neg (by omega)]; exact hP0)
        · refine xx_aload_n (q := 48) rfl rfl rfl ?_
          refine xx_gez (q := 51) rfl rfl rfl xS_479 (Nat.le_of_ble_eq_true rfl) rfl ((rfl).trans hY0) ?_
          refine xx_bipush (q := 53) rfl rfl (by decide) ?_
          refine xx_icmp_ne (q := 58) (q2 := 56) rfl rfl rfl (fun h53 => ?_) (fun h53 => ?_)
          · refine xx_aload_n (q := 59) rfl rfl rfl ?_
            refine xx_getR (q := 62) rfl rfl rfl xS_479 (Nat.le_of_ble_eq_true rfl) rfl (hR.1 479 17 rfl) ?_
            refine xx_aload_n (q := 63) rfl rfl rfl ?_
            refine xx_gez (q := 66) rfl rfl rfl xS_479 (Nat.le_of_ble_eq_true rfl) rfl ((rfl).trans hY0) ?_
            refine xx_iload_n (q := 67) rfl rfl rfl ?_
            refine xx_isz (q := 68) rfl rfl xS_491 (by omega) (by omega) rfl ?_
            refine xx_aload_n (q := 69) rfl rfl rfl ?_
            refine xx_getR (q := 72) rfl rfl rfl xS_479 (Nat.le_of_ble_eq_true rfl) rfl (hR.1 479 18 rfl) ?_
            refine xx_aload_n (q := 73) rfl rfl rfl ?_
            refine xx_gez (q := 76) rfl rfl rfl xS_479 (Nat.le_of_ble_eq_true rfl) rfl hY0 ?_
            refine xx_iload_n (q := 77) rfl rfl rfl ?_
            refine xx_isz (q := 78) rfl rfl xS_492 (by omega) (by omega) rfl ?_
            refine xx_aload_n (q := 79) rfl rfl rfl ?_
            refine xx_getR (q := 82) rfl rfl rfl xS_479 (Nat.le_of_ble_eq_true rfl) rfl (hR.1 479 19 rfl) ?_
            refine xx_aload_n (q := 83) rfl rfl rfl ?_
            refine xx_gez (q := 86) rfl rfl rfl xS_479 (Nat.le_of_ble_eq_true rfl) rfl hY0 ?_
            refine xx_iload_n (q := 87) rfl rfl rfl ?_
            refine xx_isz (q := 88) rfl rfl xS_493 (by omega) (by omega) rfl ?_
            refine xx_aload_n (q := 89) rfl rfl rfl ?_
            refine xx_aload_n (q := 90) rfl rfl rfl ?_
            refine xx_gez (q := 93) rfl rfl rfl xS_479 (Nat.le_of_ble_eq_true rfl) rfl hY0 ?_
            refine xx_iconst (q := 94) rfl rfl (by decide) ?_
            refine xx_iaddR (q := 95) rfl rfl (by omega) (by omega) ?_
            refine xx_puz (q := 98) rfl rfl rfl xS_479 (Nat.le_of_ble_eq_true rfl) (Nat.le_of_ble_eq_true rfl) (fun h => by cases h) (Or.inl rfl) rfl ?_
            refine xx_aload_n (q := 99) rfl rfl rfl ?_
            refine xx_gez (q := 102) rfl rfl rfl xS_479 (Nat.le_of_ble_eq_true rfl) rfl xui_s ?_
            refine xx_iret rfl trivial ⟨congrArg (fun z => some (Sum.inl z)) (by unfold sadF; grind), _, rfl, ?_⟩
            unfold sadE
            rw [if_neg h7, if_neg (by omega), if_pos (by omega)]
            exact ((((hP0.both (a := 491) (j := (Y.1).toNat) (v := p) (by omega)).both (a := 492) (j := (Y.1).toNat) (v := h) (by omega)).both (a := 493) (j := (Y.1).toNat) (v := v) (by omega)).both (a := 479) (j := 16) (v := Y.1 + 1) (by omega))
          · refine xx_iconst (q := 57) rfl rfl (by decide) ?_
            refine xx_iret rfl trivial ⟨congrArg (fun z => some (Sum.inl z)) (by unfold sadF; grind), _, rfl, ?_⟩
            unfold sadE
            rw [if_neg h7]
            first
            | (rw [if_pos (by omega)]; exact hP0)
            | (rw [if_neg (by omega), if_neg (by omega)]; exact hP0)
  · refine xx_aload_n (q := 11) rfl rfl rfl ?_
    refine xx_iconst (q := 12) rfl rfl (by decide) ?_
    refine xx_puz (q := 15) rfl rfl rfl xS_479 (Nat.le_of_ble_eq_true rfl) (Nat.le_of_ble_eq_true rfl) (fun h => by cases h) (Or.inl rfl) rfl ?_
    refine xx_iconst (q := 16) rfl rfl (by decide) ?_
    refine xx_iret rfl trivial ⟨congrArg (fun z => some (Sum.inl z)) (by unfold sadF; grind), _, rfl, ?_⟩
    unfold sadE
    rw [if_pos h7]
    exact (hP0.both (a := 479) (j := 16) (v := 0) (by omega))
