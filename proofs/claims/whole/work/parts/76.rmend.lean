/-! What mends it: the reference. -/
theorem xdiv_0 {f : Int} (h1 : 0 < f) (h2 : f < 2147483648) : xdiv (f - 1) f = 0 := by
  have h := xdiv_le (a := f - 1) (f := f) (by omega) h1 (by omega)
  rcases Classical.em (xdiv (f - 1) f = 0) with q | q
  · exact q
  · exfalso
    have h3 := Int.mul_le_mul_of_nonneg_right (show 1 ≤ xdiv (f - 1) f by omega) (show 0 ≤ f by omega)
    omega
theorem mx1_2 {K : KK} (hI : KI K) (j : Nat) : mxF 1 (K 2 j) = K 2 j := by
  have q3 := ki_2 hI j
  have q5 := mxF_sp 1 (K 2 j)
  omega
theorem mnd_z {K : KK} {nd : Nat → Int} (hI : KI K) {l taken : Int} (h : ¬ 0 < nd (l + 1).toNat + taken - K 1 (l + 1).toNat) : 0 = mndP K nd l taken := by
  have q3 := ki_2 hI l.toNat
  have q4 := mxF_sp 0 (nd (l + 1).toNat + taken - K 1 (l + 1).toNat)
  unfold mndP
  rw [mx1_2 hI, show mxF 0 (nd (l + 1).toNat + taken - K 1 (l + 1).toNat) = 0 by omega, Int.zero_add]
  exact (xdiv_0 (by omega) (by omega)).symm
theorem mnd_p {K : KK} {nd : Nat → Int} (hI : KI K) {l taken : Int} (h : 0 < nd (l + 1).toNat + taken - K 1 (l + 1).toNat) : xdiv ((nd (l + 1).toNat + taken - K 1 (l + 1).toNat) + K 2 l.toNat - 1) (K 2 l.toNat) = mndP K nd l taken := by
  have q4 := mxF_sp 0 (nd (l + 1).toNat + taken - K 1 (l + 1).toNat)
  unfold mndP
  rw [mx1_2 hI, show mxF 0 (nd (l + 1).toNat + taken - K 1 (l + 1).toNat) = nd (l + 1).toNat + taken - K 1 (l + 1).toNat by omega]
def sN (f : Nat → Int) : Nat → Int
  | 0 => 0
  | k + 1 => sN f k + f k
theorem mndL_hi {K : KK} {nd : Nat → Int} : ∀ (k : Nat) (l taken all : Int) (f : Nat → Int) (j : Nat), l + 1 = k → k ≤ j → (mndL K nd k l taken all f).2.2 j = f j
  | 0, _, _, _, _, _, _, _ => rfl
  | k + 1, l, taken, all, f, j, h, hj => by
    show (mndL K nd k _ _ _ _).2.2 j = f j
    rw [mndL_hi k _ _ _ _ j (by omega) (by omega), fset_n (by omega)]
theorem mndL_s {K : KK} {nd : Nat → Int} : ∀ (k : Nat) (l taken all : Int) (f : Nat → Int), l + 1 = k → (mndL K nd k l taken all f).2.1 = all + sN (mndL K nd k l taken all f).2.2 k
  | 0, _, _, all, _, _ => (Int.add_zero all).symm
  | k + 1, l, taken, all, f, h => by
    show (mndL K nd k (l - 1) _ _ _).2.1 = all + (sN (mndL K nd k (l - 1) _ _ _).2.2 k + (mndL K nd k (l - 1) _ _ _).2.2 k)
    rw [mndL_s k _ _ _ _ (by omega), mndL_hi k _ _ _ _ k (by omega) (by omega), show l.toNat = k by omega, fset_s]
    omega
theorem mndL_fb {K : KK} {nd : Nat → Int} (hI : KI K) (hn : ∀ k, 0 ≤ nd k ∧ nd k ≤ 999) : ∀ (k : Nat) (l taken all : Int) (f : Nat → Int) (j : Nat), l + 1 = k → 0 ≤ taken → taken + 1100 * (k : Int) ≤ 20000 → j < k → 0 ≤ (mndL K nd k l taken all f).2.2 j ∧ (mndL K nd k l taken all f).2.2 j ≤ 30000
  | 0, _, _, _, _, _, _, _, _, hj => absurd hj (Nat.not_lt_zero _)
  | k + 1, l, taken, all, f, j, h, h1, h2, hj => by
    have hp := mndP_b hI hn l taken h1 (by omega)
    show 0 ≤ (mndL K nd k (l - 1) _ _ _).2.2 j ∧ (mndL K nd k (l - 1) _ _ _).2.2 j ≤ 30000
    rcases Classical.em (j = k) with rfl | q
    · rw [mndL_hi _ _ _ _ _ _ (by omega) (by omega), show l.toNat = j by omega, fset_s]
      omega
    · exact mndL_fb hI hn k _ _ _ _ j (by omega) hp.2.2.1 (by omega) (by omega)
theorem mndL_ff {K : KK} {nd : Nat → Int} : ∀ (k : Nat) (l taken all : Int) (f g : Nat → Int), l + 1 = k → (mndL K nd k l taken all f).1 = (mndL K nd k l taken all g).1 ∧ (mndL K nd k l taken all f).2.1 = (mndL K nd k l taken all g).2.1 ∧ ∀ j, j < k → (mndL K nd k l taken all f).2.2 j = (mndL K nd k l taken all g).2.2 j
  | 0, _, _, _, _, _, _ => ⟨rfl, rfl, fun j hj => absurd hj (Nat.not_lt_zero _)⟩
  | k + 1, l, taken, all, f, g, h => by
    obtain ⟨q1, q2, q3⟩ := mndL_ff (K := K) (nd := nd) k (l - 1) (mndP K nd l taken * mxF 1 (K 2 l.toNat)) (all + mndP K nd l taken) (fset f l.toNat (mndP K nd l taken)) (fset g l.toNat (mndP K nd l taken)) (by omega)
    refine ⟨q1, q2, fun j hj => ?_⟩
    rcases Classical.em (j = k) with rfl | q
    · show (mndL K nd j _ _ _ _).2.2 j = (mndL K nd j _ _ _ _).2.2 j
      rw [mndL_hi _ _ _ _ _ _ (by omega) (by omega), mndL_hi _ _ _ _ _ _ (by omega) (by omega), show l.toNat = j by omega, fset_s, fset_s]
    · exact q3 j (by omega)
theorem mndF_f {K : KK} {nd : Nat → Int} (hI : KI K) (f g : Nat → Int) (w : Int) : mndF K nd f w = mndF K nd g w := by
  have hL := ki_L hI
  obtain ⟨q1, q2, q3⟩ := mndL_ff (K := K) (nd := nd) (K 0 0).toNat (K 0 0 - 1) 0 0 f g (by omega)
  unfold mndF
  rw [q1, q2]
  split
  · rfl
  · split
    · rfl
    · split
      · rfl
      · exact q3 _ (by omega)
set_option maxHeartbeats 1000000 in
theorem r_mnd_L {n : Nat} {R : Nat → Nat → Option Nat} {t : Int} {K D0 : KK} {b : Int} {B : Nat → Int} {U : UU} (hR : RF R) (hV : RV t K b B U D0 D0) (hI : KI K) (nd : Nat → Int) (hndI : ∀ k, 0 ≤ nd k ∧ nd k ≤ 999) (hnd : ∀ j, j < 10 → D0 495 j = nd j) : ∀ (k : Nat) (D : KK) (taken l all : Int) (f : Nat → Int) (x : Option XV), (∀ j, j < 9 → D 512 j = f j) → (∀ b j, b ≠ 512 → D b j = D0 b j) → 0 ≤ taken → taken + 1100 * (k : Int) ≤ 20000 → l + 1 = k → l ≤ 8 → XX (XC 1) 279 (XP (some (.inl (bi (nd 0 ≤ K 1 0 - (mndL K nd k l taken all f).1)))) (xS n) R (fun D' => (∀ j, j < 9 → D' 512 j = (mndL K nd k l taken all f).2.2 j) ∧ ∀ b j, b ≠ 512 → D' b j = D0 b j)) 9 [some (.inr (some 479)), some (.inl taken), some (.inl l), x] [] (xS n, R, D) := by
  intro k
  induction k using Nat.strongRecOn with
  | ind k ih =>
  intro D taken l all f x hf hF ht0 ht1 hk hl8
  have hbL := ki_L hI
  have hbz : K 1 (0 : Int).toNat = K 1 0 := rfl
  have hbk := ki_1 hI (0 : Int).toNat
  have hV1 := hV.self2 (E := D) (fun x k q => hF x k (by omega))
  refine xx_iload_n (q := 10) rfl rfl rfl ?_
  refine xx_if_lt (q := 80) (q2 := 13) rfl rfl rfl (fun h10 => ?_) (fun h10 => ?_)
  · refine xx_aload_n (q := 81) rfl rfl rfl ?_
    refine xx_iconst (q := 82) rfl rfl (by decide) ?_
    refine xx_callV (q := 85) (As := [_]) (rest := []) rfl rfl rfl (Or.inl rfl) rfl rfl (Nat.le_of_ble_eq_true rfl) xS_479 (XCm (r_depthOf hR hV1 hI 0 (by omega) (by omega)) rfl) rfl ?_
    have hb1 := ki_1 hI 0
    refine xx_iload_n (q := 86) rfl rfl rfl ?_
    refine xx_isubR (q := 87) rfl rfl (by omega) (by omega) ?_
    refine xx_aload_n (q := 88) rfl rfl rfl ?_
    refine xx_getR (q := 91) rfl rfl rfl xS_479 (Nat.le_of_ble_eq_true rfl) rfl (hR.1 479 21 rfl) ?_
    refine xx_iconst (q := 92) rfl rfl (by decide) ?_
    refine xx_iaz (v := nd 0) (q := 93) rfl rfl xS_495 (by omega) (by omega) ((hF _ _ (by omega)).trans (hnd _ (by omega))) ?_
    have hb2 := hndI 0
    refine xx_icmp_lt (q := 100) (q2 := 96) rfl rfl rfl (fun h93 => ?_) (fun h93 => ?_)
    · refine xx_iconst (q := 101) rfl rfl (by decide) ?_
      obtain rfl : k = 0 := by omega
      exact xx_iret rfl (Or.inl rfl) ⟨congrArg (fun z => some (Sum.inl z)) (bi_f (show ¬ nd 0 ≤ K 1 0 - taken by omega)).symm, _, rfl, hf, hF⟩
    · refine xx_iconst (q := 97) rfl rfl (by decide) ?_
      refine xx_goto (q := 101) rfl rfl ?_
      obtain rfl : k = 0 := by omega
      exact xx_iret rfl (Or.inr rfl) ⟨congrArg (fun z => some (Sum.inl z)) (bi_t (show nd 0 ≤ K 1 0 - taken by omega)).symm, _, rfl, hf, hF⟩
  · obtain ⟨k, rfl⟩ : ∃ k2, k = k2 + 1 := ⟨k - 1, by omega⟩
    have hmp := mndP_b hI hndI l taken ht0 (by omega)
    rw [mx1_2 hI] at hmp
    refine xx_aload_n (q := 14) rfl rfl rfl ?_
    refine xx_getR (q := 17) rfl rfl rfl xS_479 (Nat.le_of_ble_eq_true rfl) rfl (hR.1 479 21 rfl) ?_
    refine xx_iload_n (q := 18) rfl rfl rfl ?_
    refine xx_iconst (q := 19) rfl rfl (by decide) ?_
    refine xx_iaddR (q := 20) rfl rfl (by omega) (by omega) ?_
    refine xx_iaz (v := nd (l + 1).toNat) (q := 21) rfl rfl xS_495 (by omega) (by omega) ((hF _ _ (by omega)).trans (hnd _ (by omega))) ?_
    have hb3 := hndI (l + 1).toNat
    refine xx_iload_n (q := 22) rfl rfl rfl ?_
    refine xx_iaddR (q := 23) rfl rfl (by omega) (by omega) ?_
    refine xx_aload_n (q := 24) rfl rfl rfl ?_
    refine xx_iload_n (q := 25) rfl rfl rfl ?_
    refine xx_iconst (q := 26) rfl rfl (by decide) ?_
    refine xx_iaddR (q := 27) rfl rfl (by omega) (by omega) ?_
    refine xx_callV (q := 30) (As := [_]) (rest := [_]) rfl rfl rfl (Or.inl rfl) rfl rfl (Nat.le_of_ble_eq_true rfl) xS_479 (XCm (r_depthOf hR hV1 hI (l + 1) (by omega) (by omega)) rfl) rfl ?_
    have hb4 := ki_1 hI (l + 1).toNat
    refine xx_isubR (q := 31) rfl rfl (by omega) (by omega) ?_
    refine xx_istore_n (q := 32) (loc2 := [_, _, _, _]) rfl rfl (Nat.le_of_ble_eq_true rfl) rfl ?_
    refine xx_aload_n (q := 33) rfl rfl rfl ?_
    refine xx_getR (q := 36) rfl rfl rfl xS_479 (Nat.le_of_ble_eq_true rfl) rfl (hR.1 479 59 rfl) ?_
    refine xx_iload_n (q := 37) rfl rfl rfl ?_
    refine xx_iload_n (q := 38) rfl rfl rfl ?_
    refine xx_if_gt (q := 45) (q2 := 41) rfl rfl rfl (fun h38 => ?_) (fun h38 => ?_)
    · refine xx_iload_n (q := 46) rfl rfl rfl ?_
      refine xx_aload_n (q := 47) rfl rfl rfl ?_
      refine xx_iload_n (q := 48) rfl rfl rfl ?_
      refine xx_callV (q := 51) (As := [_]) (rest := [_, _, _]) rfl rfl rfl (Or.inl rfl) rfl rfl (Nat.le_of_ble_eq_true rfl) xS_479 (XCm (r_fillOf hR hV1 hI l (by omega) (by omega)) rfl) rfl ?_
      have hb5 := ki_2 hI (l).toNat
      refine xx_iaddR (q := 52) rfl rfl (by omega) (by omega) ?_
      refine xx_iconst (q := 53) rfl rfl (by decide) ?_
      refine xx_isubR (q := 54) rfl rfl (by omega) (by omega) ?_
      refine xx_aload_n (q := 55) rfl rfl rfl ?_
      refine xx_iload_n (q := 56) rfl rfl rfl ?_
      refine xx_callV (q := 59) (As := [_]) (rest := [_, _, _]) rfl rfl rfl (Or.inl rfl) rfl rfl (Nat.le_of_ble_eq_true rfl) xS_479 (XCm (r_fillOf hR hV1 hI l (by omega) (by omega)) rfl) rfl ?_
      have hb6 := ki_2 hI (l).toNat
      refine xx_idiv (q := 60) rfl rfl (by omega) ?_
      rw [mnd_p hI h38]
      refine xx_isz (q := 61) rfl rfl xS_512 (by omega) (by omega) rfl ?_
      have hV2 := hV.self2 (E := xui D 512 (l).toNat (mndP K nd l taken)) (fun x k q => (xui_a (by omega)).trans (hF x k (by omega)))
      refine xx_aload_n (q := 62) rfl rfl rfl ?_
      refine xx_getR (q := 65) rfl rfl rfl xS_479 (Nat.le_of_ble_eq_true rfl) rfl (hR.1 479 59 rfl) ?_
      refine xx_iload_n (q := 66) rfl rfl rfl ?_
      refine xx_iaz (v := mndP K nd l taken) (q := 67) rfl rfl xS_512 (by omega) (by omega) xui_s ?_
      refine xx_aload_n (q := 68) rfl rfl rfl ?_
      refine xx_iload_n (q := 69) rfl rfl rfl ?_
      refine xx_callV (q := 72) (As := [_]) (rest := [_]) rfl rfl rfl (Or.inl rfl) rfl rfl (Nat.le_of_ble_eq_true rfl) xS_479 (XCm (r_fillOf hR hV2 hI l (by omega) (by omega)) rfl) rfl ?_
      have hb8 := ki_2 hI (l).toNat
      refine xx_imulR (q := 73) rfl rfl (by omega) (by omega) ?_
      refine xx_istore_n (q := 74) (loc2 := [_, _, _, _]) rfl rfl (Nat.le_of_ble_eq_true rfl) rfl ?_
      refine xx_incz (q := 77) (loc2 := [_, _, _, _]) rfl rfl rfl (by omega) (by omega) rfl rfl ?_
      refine xx_goto (q := 9) rfl rfl ?_
      have e2 : mndL K nd (k + 1) l taken all f = mndL K nd k (l - 1) (mndP K nd l taken * K 2 (l).toNat) (all + mndP K nd l taken) (fset f (l).toNat (mndP K nd l taken)) := by
        show mndL K nd k _ _ _ _ = _
        rw [mx1_2 hI]
      rw [e2]
      refine ih k (by omega) _ _ _ _ _ _ (fun j hj => ?_) (fun b j q => (xui_a q).trans (hF b j q)) (by omega) (by omega) (by omega) (by omega)
      rcases Classical.em (j = (l).toNat) with e | e
      · rw [e, xui_s, fset_s]
      · rw [xui_j e, fset_n e]; exact hf j hj
    · refine xx_iconst (q := 42) rfl rfl (by decide) ?_
      refine xx_goto (q := 60) rfl rfl ?_
      rw [show (0 : Int) = mndP K nd l taken from mnd_z hI h38]
      refine xx_isz (q := 61) rfl rfl xS_512 (by omega) (by omega) rfl ?_
      have hV2 := hV.self2 (E := xui D 512 (l).toNat (mndP K nd l taken)) (fun x k q => (xui_a (by omega)).trans (hF x k (by omega)))
      refine xx_aload_n (q := 62) rfl rfl rfl ?_
      refine xx_getR (q := 65) rfl rfl rfl xS_479 (Nat.le_of_ble_eq_true rfl) rfl (hR.1 479 59 rfl) ?_
      refine xx_iload_n (q := 66) rfl rfl rfl ?_
      refine xx_iaz (v := mndP K nd l taken) (q := 67) rfl rfl xS_512 (by omega) (by omega) xui_s ?_
      refine xx_aload_n (q := 68) rfl rfl rfl ?_
      refine xx_iload_n (q := 69) rfl rfl rfl ?_
      refine xx_callV (q := 72) (As := [_]) (rest := [_]) rfl rfl rfl (Or.inl rfl) rfl rfl (Nat.le_of_ble_eq_true rfl) xS_479 (XCm (r_fillOf hR hV2 hI l (by omega) (by omega)) rfl) rfl ?_
      have hb10 := ki_2 hI (l).toNat
      refine xx_imulR (q := 73) rfl rfl (by omega) (by omega) ?_
      refine xx_istore_n (q := 74) (loc2 := [_, _, _, _]) rfl rfl (Nat.le_of_ble_eq_true rfl) rfl ?_
      refine xx_incz (q := 77) (loc2 := [_, _, _, _]) rfl rfl rfl (by omega) (by omega) rfl rfl ?_
      refine xx_goto (q := 9) rfl rfl ?_
      have e2 : mndL K nd (k + 1) l taken all f = mndL K nd k (l - 1) (mndP K nd l taken * K 2 (l).toNat) (all + mndP K nd l taken) (fset f (l).toNat (mndP K nd l taken)) := by
        show mndL K nd k _ _ _ _ = _
        rw [mx1_2 hI]
      rw [e2]
      refine ih k (by omega) _ _ _ _ _ _ (fun j hj => ?_) (fun b j q => (xui_a q).trans (hF b j q)) (by omega) (by omega) (by omega) (by omega)
      rcases Classical.em (j = (l).toNat) with e | e
      · rw [e, xui_s, fset_s]
      · rw [xui_j e, fset_n e]; exact hf j hj
set_option maxHeartbeats 1000000 in
theorem r_canMend {n : Nat} {R : Nat → Nat → Option Nat} {t : Int} {K D : KK} {b : Int} {B : Nat → Int} {U : UU} (hR : RF R) (hV : RV t K b B U D D) (hI : KI K) (nd : Nat → Int) (hndI : ∀ k, 0 ≤ nd k ∧ nd k ≤ 999) (hnd : ∀ j, j < 10 → D 495 j = nd j) : ∃ D', XC 2 279 [.inr (some 479)] (xS n, R, D) (some (.inl (bi (nd 0 ≤ K 1 0 - (mndL K nd (K 0 0).toNat (K 0 0 - 1) 0 0 (D 512)).1)))) (xS n, R, D') ∧ (∀ j, j < 9 → D' 512 j = (mndL K nd (K 0 0).toNat (K 0 0 - 1) 0 0 (D 512)).2.2 j) ∧ ∀ b j, b ≠ 512 → D' b j = D b j := by
  have hbL := ki_L hI
  refine XE_of (Nat.le_of_ble_eq_true rfl) (Nat.le_of_ble_eq_true rfl) (loc := [_, _, _, _]) rfl ?_
  refine xx_iconst (q := 1) rfl rfl (by decide) ?_
  refine xx_istore_n (q := 2) (loc2 := [_, _, _, _]) rfl rfl (Nat.le_of_ble_eq_true rfl) rfl ?_
  refine xx_aload_n (q := 3) rfl rfl rfl ?_
  refine xx_gez (q := 6) rfl rfl rfl xS_479 (Nat.le_of_ble_eq_true rfl) rfl (rv_L hV) ?_
  have hb1 : 1 ≤ K 0 0 ∧ K 0 0 ≤ 9 := by have h := ki_L hI; exact h
  refine xx_iconst (q := 7) rfl rfl (by decide) ?_
  refine xx_isubR (q := 8) rfl rfl (by omega) (by omega) ?_
  refine xx_istore_n (q := 9) (loc2 := [_, _, _, _]) rfl rfl (Nat.le_of_ble_eq_true rfl) rfl ?_
  exact r_mnd_L hR hV hI nd hndI hnd (K 0 0).toNat D 0 _ 0 (D 512) _ (fun _ _ => rfl) (fun _ _ _ => rfl) (by omega) (by omega) (by omega) (by omega)
set_option maxHeartbeats 1000000 in
theorem r_men_L {n : Nat} {R : Nat → Nat → Option Nat} {t : Int} {K D0 D : KK} {b : Int} {B : Nat → Int} {U : UU} (hR : RF R) (hV : RV t K b B U D0 D) (hI : KI K) (w : Int) (f : Nat → Int) (hf : ∀ j, j < 9 → D 512 j = f j) (hfb : ∀ j : Nat, (j : Int) < K 0 0 → 0 ≤ f j ∧ f j ≤ 30000) : ∀ (k : Nat) (i : Nat), 0 ≤ sN f i → sN f i ≤ 30000 * (i : Int) → (i : Int) + k = K 0 0 → XX (XC 2) 280 (fun r2 m2 => r2 = some (.inl (sN f (K 0 0).toNat)) ∧ m2 = (xS n, R, D)) 57 [some (.inr (some 479)), some (.inl w), some (.inl (sN f i)), some (.inl (i : Int))] [] (xS n, R, D) := by
  intro k
  induction k using Nat.strongRecOn with
  | ind k ih =>
  intro i h1 h2 hk
  have hbL := ki_L hI
  refine xx_iload_n (q := 58) rfl rfl rfl ?_
  refine xx_aload_n (q := 59) rfl rfl rfl ?_
  refine xx_gez (q := 62) rfl rfl rfl xS_479 (Nat.le_of_ble_eq_true rfl) rfl (rv_L hV) ?_
  have hb1 : 1 ≤ K 0 0 ∧ K 0 0 ≤ 9 := by have h := ki_L hI; exact h
  refine xx_icmp_ge (q := 80) (q2 := 65) rfl rfl rfl (fun h62 => ?_) (fun h62 => ?_)
  · refine xx_iload_n (q := 81) rfl rfl rfl ?_
    obtain rfl : k = 0 := by omega
    exact xx_iret rfl trivial ⟨congrArg (fun z => some (Sum.inl (sN f z))) (by omega), rfl⟩
  · obtain ⟨k, rfl⟩ : ∃ k2, k = k2 + 1 := ⟨k - 1, by omega⟩
    refine xx_iload_n (q := 66) rfl rfl rfl ?_
    refine xx_aload_n (q := 67) rfl rfl rfl ?_
    refine xx_getR (q := 70) rfl rfl rfl xS_479 (Nat.le_of_ble_eq_true rfl) rfl (hR.1 479 59 rfl) ?_
    refine xx_iload_n (q := 71) rfl rfl rfl ?_
    refine xx_iaz (v := f i) (q := 72) rfl rfl xS_512 (by omega) (by omega) ((show D 512 ((i : Int)).toNat = D 512 i from rfl).trans (hf i (by omega))) ?_
    have hb2 := hfb i (by omega)
    refine xx_iaddR (q := 73) rfl rfl (by omega) (by omega) ?_
    refine xx_istore_n (q := 74) (loc2 := [_, _, _, _]) rfl rfl (Nat.le_of_ble_eq_true rfl) rfl ?_
    refine xx_incz (q := 77) (loc2 := [_, _, _, _]) rfl rfl rfl (by omega) (by omega) rfl rfl ?_
    refine xx_goto (q := 57) rfl rfl ?_
    exact ih k (by omega) (i + 1) (show 0 ≤ sN f i + f i by omega) (show sN f i + f i ≤ 30000 * ((i + 1 : Nat) : Int) by omega) (by omega)
set_option maxHeartbeats 2000000 in
theorem r_mend {n : Nat} {R : Nat → Nat → Option Nat} {K D : KK} {b : Int} {B : Nat → Int} {U : UU} (hR : RF R) (hV : RV 0 K b B U D D) (hI : KI K) (nd : Nat → Int) (hndI : ∀ k, 0 ≤ nd k ∧ nd k ≤ 999) (hnd : ∀ j, j < 10 → D 495 j = nd j) (f : Nat → Int) (w : Int) : ∃ D', XC 3 280 [.inr (some 479), .inl w] (xS n, R, D) (some (.inl (mndF K nd f w))) (xS n, R, D') ∧ PV (K) (b) (B) (U) D D' := by
  have hbL := ki_L hI
  refine XE_of (Nat.le_of_ble_eq_true rfl) (Nat.le_of_ble_eq_true rfl) (loc := [_, _, _, _]) rfl ?_
  refine xx_aload_n (q := 1) rfl rfl rfl ?_
  refine xx_iconst (q := 2) rfl rfl (by decide) ?_
  refine xr_puz (PV K b B U D) (q := 5) rfl rfl rfl xS_479 (Nat.le_of_ble_eq_true rfl) (Nat.le_of_ble_eq_true rfl) (fun h => by cases h) (Or.inl rfl) ⟨hV.u (by decide), FQ.rf.up (by unfold restQ; omega)⟩ (fun D1 hP0 => ?_)
  obtain ⟨g, hg⟩ : ∃ g, g = D1 512 := ⟨_, rfl⟩
  rw [mndF_f hI f g w]
  refine xx_iload_n (q := 6) rfl rfl rfl ?_
  refine xx_if_eq (q := 28) (q2 := 9) rfl rfl rfl (fun h6 => ?_) (fun h6 => ?_)
  · refine xx_aload_n (q := 29) rfl rfl rfl ?_
    obtain ⟨D1, hx1, hf1, hF1⟩ := r_canMend (n := n) hR hP0.1 hI nd hndI (fun j hj => (hP0.2 _ _ (by unfold restQ; omega)).trans (hnd j hj))
    rw [← hg] at hx1 hf1
    have hP1 : PV K b B U D D1 := ⟨hP0.1.self2 (fun x k q => hF1 x k (by omega)), hP0.2.trans (fun x k q => hF1 x k (by unfold restQ at q; omega))⟩
    refine xx_callV (q := 32) (As := []) (rest := []) rfl rfl rfl (Or.inl rfl) rfl rfl (Nat.le_of_ble_eq_true rfl) xS_479 (XCm hx1 rfl) rfl ?_
    refine xx_ifb_ne (q := 37) (q2 := 35) rfl rfl rfl (fun h32 => ?_) (fun h32 => ?_)
    · refine xx_iload_n (q := 38) rfl rfl rfl ?_
      refine xx_bipush (q := 40) rfl rfl (by decide) ?_
      refine xx_icmp_lt (q := 53) (q2 := 43) rfl rfl rfl (fun h40 => ?_) (fun h40 => ?_)
      · refine xx_iconst (q := 54) rfl rfl (by decide) ?_
        refine xx_istore_n (q := 55) (loc2 := [_, _, _, _]) rfl rfl (Nat.le_of_ble_eq_true rfl) rfl ?_
        refine xx_iconst (q := 56) rfl rfl (by decide) ?_
        refine xx_istore_n (q := 57) (loc2 := [_, _, _, _]) rfl rfl (Nat.le_of_ble_eq_true rfl) rfl ?_
        rw [show mndF K nd g w = sN (mndL K nd (K 0 0).toNat (K 0 0 - 1) 0 0 g).2.2 (K 0 0).toNat from by
          unfold mndF
          rw [if_neg (by omega), if_neg (by omega), if_pos (by omega), mndL_s _ _ _ _ _ (by omega), Int.zero_add]]
        exact XX_mono (fun r m2 h => ⟨h.1, _, h.2, hP1⟩) (r_men_L hR hP1.1 hI w _ hf1 (fun j hj => mndL_fb hI hndI _ _ _ _ _ j (by omega) (by omega) (by omega) (by omega)) (K 0 0).toNat 0 (by exact Int.le_refl 0) (by exact Int.le_refl 0) (by omega))
      · refine xx_aload_n (q := 44) rfl rfl rfl ?_
        refine xx_getR (q := 47) rfl rfl rfl xS_479 (Nat.le_of_ble_eq_true rfl) rfl (hR.1 479 59 rfl) ?_
        refine xx_iload_n (q := 48) rfl rfl rfl ?_
        refine xx_bipush (q := 50) rfl rfl (by decide) ?_
        refine xx_isubR (q := 51) rfl rfl (by omega) (by omega) ?_
        refine xx_iaz (v := (mndL K nd (K 0 0).toNat (K 0 0 - 1) 0 0 g).2.2 (w - 10).toNat) (q := 52) rfl rfl xS_512 (by omega) (by omega) (hf1 _ (by omega)) ?_
        refine xx_iret rfl trivial ⟨congrArg (fun z => some (Sum.inl z)) (by unfold mndF; rw [if_neg (by omega), if_neg (by omega), if_neg (by omega)]), _, rfl, ?_⟩
        exact hP1
    · refine xx_iconst (q := 36) rfl rfl (by decide) ?_
      refine xx_iret rfl trivial ⟨congrArg (fun z => some (Sum.inl z)) (by unfold mndF; rw [if_neg (by omega), if_pos (by omega)]), _, rfl, ?_⟩
      exact hP1
  · refine xx_aload_n (q := 10) rfl rfl rfl ?_
    refine xx_iload_n (q := 11) rfl rfl rfl ?_
    refine xx_bipush (q := 13) rfl rfl (by decide) ?_
    refine xx_bipush (q := 15) rfl rfl (by decide) ?_
    refine xx_aload_n (q := 16) rfl rfl rfl ?_
    refine xx_gez (q := 19) rfl rfl rfl xS_479 (Nat.le_of_ble_eq_true rfl) rfl (rv_L hP0.1) ?_
    have hb2 : 1 ≤ K 0 0 ∧ K 0 0 ≤ 9 := by have h := ki_L hI; exact h
    refine xx_iaddR (q := 20) rfl rfl (by omega) (by omega) ?_
    refine xx_callV (q := 23) (As := [_, _, _]) (rest := []) rfl rfl rfl (Or.inl rfl) rfl rfl (Nat.le_of_ble_eq_true rfl) xS_479 (XCm (r_isIn w 10 (9 + (K 0 0))) rfl) rfl ?_
    refine xx_ifb_ne (q := 28) (q2 := 26) rfl rfl rfl (fun h23 => ?_) (fun h23 => ?_)
    · refine xx_aload_n (q := 29) rfl rfl rfl ?_
      obtain ⟨D3, hx3, hf3, hF3⟩ := r_canMend (n := n) hR hP0.1 hI nd hndI (fun j hj => (hP0.2 _ _ (by unfold restQ; omega)).trans (hnd j hj))
      rw [← hg] at hx3 hf3
      have hP3 : PV K b B U D D3 := ⟨hP0.1.self2 (fun x k q => hF3 x k (by omega)), hP0.2.trans (fun x k q => hF3 x k (by unfold restQ at q; omega))⟩
      refine xx_callV (q := 32) (As := []) (rest := []) rfl rfl rfl (Or.inl rfl) rfl rfl (Nat.le_of_ble_eq_true rfl) xS_479 (XCm hx3 rfl) rfl ?_
      refine xx_ifb_ne (q := 37) (q2 := 35) rfl rfl rfl (fun h32 => ?_) (fun h32 => ?_)
      · refine xx_iload_n (q := 38) rfl rfl rfl ?_
        refine xx_bipush (q := 40) rfl rfl (by decide) ?_
        refine xx_icmp_lt (q := 53) (q2 := 43) rfl rfl rfl (fun h40 => ?_) (fun h40 => ?_)
        · refine xx_iconst (q := 54) rfl rfl (by decide) ?_
          refine xx_istore_n (q := 55) (loc2 := [_, _, _, _]) rfl rfl (Nat.le_of_ble_eq_true rfl) rfl ?_
          refine xx_iconst (q := 56) rfl rfl (by decide) ?_
          refine xx_istore_n (q := 57) (loc2 := [_, _, _, _]) rfl rfl (Nat.le_of_ble_eq_true rfl) rfl ?_
          rw [show mndF K nd g w = sN (mndL K nd (K 0 0).toNat (K 0 0 - 1) 0 0 g).2.2 (K 0 0).toNat from by
            unfold mndF
            rw [if_neg (by omega), if_neg (by omega), if_pos (by omega), mndL_s _ _ _ _ _ (by omega), Int.zero_add]]
          exact XX_mono (fun r m2 h => ⟨h.1, _, h.2, hP3⟩) (r_men_L hR hP3.1 hI w _ hf3 (fun j hj => mndL_fb hI hndI _ _ _ _ _ j (by omega) (by omega) (by omega) (by omega)) (K 0 0).toNat 0 (by exact Int.le_refl 0) (by exact Int.le_refl 0) (by omega))
        · refine xx_aload_n (q := 44) rfl rfl rfl ?_
          refine xx_getR (q := 47) rfl rfl rfl xS_479 (Nat.le_of_ble_eq_true rfl) rfl (hR.1 479 59 rfl) ?_
          refine xx_iload_n (q := 48) rfl rfl rfl ?_
          refine xx_bipush (q := 50) rfl rfl (by decide) ?_
          refine xx_isubR (q := 51) rfl rfl (by omega) (by omega) ?_
          refine xx_iaz (v := (mndL K nd (K 0 0).toNat (K 0 0 - 1) 0 0 g).2.2 (w - 10).toNat) (q := 52) rfl rfl xS_512 (by omega) (by omega) (hf3 _ (by omega)) ?_
          refine xx_iret rfl trivial ⟨congrArg (fun z => some (Sum.inl z)) (by unfold mndF; rw [if_neg (by omega), if_neg (by omega), if_neg (by omega)]), _, rfl, ?_⟩
          exact hP3
      · refine xx_iconst (q := 36) rfl rfl (by decide) ?_
        refine xx_iret rfl trivial ⟨congrArg (fun z => some (Sum.inl z)) (by unfold mndF; rw [if_neg (by omega), if_pos (by omega)]), _, rfl, ?_⟩
        exact hP3
    · refine xx_iconst (q := 27) rfl rfl (by decide) ?_
      refine xx_iret rfl trivial ⟨congrArg (fun z => some (Sum.inl z)) (by unfold mndF; rw [if_pos (by omega)]), _, rfl, ?_⟩
      exact hP0
