/-! A canal begins: the reference. -/
def zfD (lo hi : Nat) (l : Int) (N : Nat) (D : KK) : KK := fun a x => if lo ≤ a ∧ a ≤ hi ∧ l ≤ (x : Int) ∧ x < N then 0 else D a x
theorem zfD_n {lo hi N a x : Nat} {l : Int} {D : KK} (h : ¬ (lo ≤ a ∧ a ≤ hi)) : zfD lo hi l N D a x = D a x := if_neg (fun q => h ⟨q.1, q.2.1⟩)
theorem zfD_0 {lo hi N a x : Nat} {D : KK} (h1 : lo ≤ a) (h2 : a ≤ hi) (h3 : x < N) : zfD lo hi 0 N D a x = 0 := if_pos ⟨h1, h2, by omega, h3⟩
theorem zfD_e {lo hi N : Nat} {l : Int} {D : KK} (h : (N : Int) ≤ l) : zfD lo hi l N D = D := by
  funext a x
  exact if_neg (fun q => by omega)
theorem zs_r_fg_1 {D : KK} {l : Int} (h0 : 0 ≤ l) (h1 : l < 9) : zfD 483 486 (l + 1) 9 (xui (xui (xui (xui D 483 l.toNat 0) 484 l.toNat 0) 485 l.toNat 0) 486 l.toNat 0) = zfD 483 486 l 9 D := by
  funext a x
  unfold zfD xui
  grind
set_option maxHeartbeats 1000000 in
theorem r_fg_1 {n : Nat} {R : Nat → Nat → Option Nat} {Q : XQ} (hR : RF R) : ∀ (k : Nat) (D : KK) (l : Int), 0 ≤ l → l + k = 9 → (∀ l2 : Int, XX (XC 0) 181 Q 42 [some (.inr (some 479)), some (.inl l2)] [] (xS n, R, zfD 483 486 l 9 D)) → XX (XC 0) 181 (Q) 2 [some (.inr (some 479)), some (.inl l)] [] (xS n, R, D) := by
  intro k
  induction k using Nat.strongRecOn with
  | ind k ih =>
  intro D l h1 hk kx
  refine xx_iload_n (q := 3) rfl rfl rfl ?_
  refine xx_bipush (q := 5) rfl rfl (by decide) ?_
  refine xx_icmp_ge (q := 42) (q2 := 8) rfl rfl rfl (fun h5 => ?_) (fun h5 => ?_)
  · obtain rfl : k = 0 := by omega
    rw [zfD_e (by omega)] at kx
    exact kx _
  · refine xx_aload_n (q := 9) rfl rfl rfl ?_
    refine xx_getR (q := 12) rfl rfl rfl xS_479 (Nat.le_of_ble_eq_true rfl) rfl (hR.1 479 8 rfl) ?_
    refine xx_iload_n (q := 13) rfl rfl rfl ?_
    refine xx_iconst (q := 14) rfl rfl (by decide) ?_
    refine xx_isz (q := 15) rfl rfl xS_483 (by omega) (by omega) rfl ?_
    refine xx_aload_n (q := 16) rfl rfl rfl ?_
    refine xx_getR (q := 19) rfl rfl rfl xS_479 (Nat.le_of_ble_eq_true rfl) rfl (hR.1 479 9 rfl) ?_
    refine xx_iload_n (q := 20) rfl rfl rfl ?_
    refine xx_iconst (q := 21) rfl rfl (by decide) ?_
    refine xx_isz (q := 22) rfl rfl xS_484 (by omega) (by omega) rfl ?_
    refine xx_aload_n (q := 23) rfl rfl rfl ?_
    refine xx_getR (q := 26) rfl rfl rfl xS_479 (Nat.le_of_ble_eq_true rfl) rfl (hR.1 479 10 rfl) ?_
    refine xx_iload_n (q := 27) rfl rfl rfl ?_
    refine xx_iconst (q := 28) rfl rfl (by decide) ?_
    refine xx_isz (q := 29) rfl rfl xS_485 (by omega) (by omega) rfl ?_
    refine xx_aload_n (q := 30) rfl rfl rfl ?_
    refine xx_getR (q := 33) rfl rfl rfl xS_479 (Nat.le_of_ble_eq_true rfl) rfl (hR.1 479 11 rfl) ?_
    refine xx_iload_n (q := 34) rfl rfl rfl ?_
    refine xx_iconst (q := 35) rfl rfl (by decide) ?_
    refine xx_isz (q := 36) rfl rfl xS_486 (by omega) (by omega) rfl ?_
    refine xx_incz (q := 39) (loc2 := [_, _]) rfl rfl rfl (by omega) (by omega) rfl rfl ?_
    refine xx_goto (q := 2) rfl rfl ?_
    obtain ⟨k, rfl⟩ : ∃ k2, k = k2 + 1 := ⟨k - 1, by omega⟩
    rw [← zs_r_fg_1 (by omega) (by omega)] at kx
    exact ih k (by omega) _ _ (by omega) (by omega) kx
theorem zs_r_fg_2 {D : KK} {l : Int} (h0 : 0 ≤ l) (h1 : l < 36) : zfD 487 487 (l + 1) 36 (xui D 487 l.toNat 0) = zfD 487 487 l 36 D := by
  funext a x
  unfold zfD xui
  grind
set_option maxHeartbeats 1000000 in
theorem r_fg_2 {n : Nat} {R : Nat → Nat → Option Nat} {Q : XQ} (hR : RF R) : ∀ (k : Nat) (D : KK) (l : Int), 0 ≤ l → l + k = 36 → (∀ l2 : Int, XX (XC 0) 181 Q 63 [some (.inr (some 479)), some (.inl l2)] [] (xS n, R, zfD 487 487 l 36 D)) → XX (XC 0) 181 (Q) 44 [some (.inr (some 479)), some (.inl l)] [] (xS n, R, D) := by
  intro k
  induction k using Nat.strongRecOn with
  | ind k ih =>
  intro D l h1 hk kx
  refine xx_iload_n (q := 45) rfl rfl rfl ?_
  refine xx_bipush (q := 47) rfl rfl (by decide) ?_
  refine xx_icmp_ge (q := 63) (q2 := 50) rfl rfl rfl (fun h47 => ?_) (fun h47 => ?_)
  · obtain rfl : k = 0 := by omega
    rw [zfD_e (by omega)] at kx
    exact kx _
  · refine xx_aload_n (q := 51) rfl rfl rfl ?_
    refine xx_getR (q := 54) rfl rfl rfl xS_479 (Nat.le_of_ble_eq_true rfl) rfl (hR.1 479 12 rfl) ?_
    refine xx_iload_n (q := 55) rfl rfl rfl ?_
    refine xx_iconst (q := 56) rfl rfl (by decide) ?_
    refine xx_isz (q := 57) rfl rfl xS_487 (by omega) (by omega) rfl ?_
    refine xx_incz (q := 60) (loc2 := [_, _]) rfl rfl rfl (by omega) (by omega) rfl rfl ?_
    refine xx_goto (q := 44) rfl rfl ?_
    obtain ⟨k, rfl⟩ : ∃ k2, k = k2 + 1 := ⟨k - 1, by omega⟩
    rw [← zs_r_fg_2 (by omega) (by omega)] at kx
    exact ih k (by omega) _ _ (by omega) (by omega) kx
theorem zs_r_fg_3 {D : KK} {l : Int} (h0 : 0 ≤ l) (h1 : l < 5) : zfD 490 490 (l + 1) 5 (xui D 490 l.toNat 0) = zfD 490 490 l 5 D := by
  funext a x
  unfold zfD xui
  grind
set_option maxHeartbeats 1000000 in
theorem r_fg_3 {n : Nat} {R : Nat → Nat → Option Nat} {Q : XQ} (hR : RF R) : ∀ (k : Nat) (D : KK) (l : Int), 0 ≤ l → l + k = 5 → (∀ l2 : Int, XX (XC 0) 181 Q 83 [some (.inr (some 479)), some (.inl l2)] [] (xS n, R, zfD 490 490 l 5 D)) → XX (XC 0) 181 (Q) 65 [some (.inr (some 479)), some (.inl l)] [] (xS n, R, D) := by
  intro k
  induction k using Nat.strongRecOn with
  | ind k ih =>
  intro D l h1 hk kx
  refine xx_iload_n (q := 66) rfl rfl rfl ?_
  refine xx_iconst (q := 67) rfl rfl (by decide) ?_
  refine xx_icmp_ge (q := 83) (q2 := 70) rfl rfl rfl (fun h67 => ?_) (fun h67 => ?_)
  · obtain rfl : k = 0 := by omega
    rw [zfD_e (by omega)] at kx
    exact kx _
  · refine xx_aload_n (q := 71) rfl rfl rfl ?_
    refine xx_getR (q := 74) rfl rfl rfl xS_479 (Nat.le_of_ble_eq_true rfl) rfl (hR.1 479 15 rfl) ?_
    refine xx_iload_n (q := 75) rfl rfl rfl ?_
    refine xx_iconst (q := 76) rfl rfl (by decide) ?_
    refine xx_isz (q := 77) rfl rfl xS_490 (by omega) (by omega) rfl ?_
    refine xx_incz (q := 80) (loc2 := [_, _]) rfl rfl rfl (by omega) (by omega) rfl rfl ?_
    refine xx_goto (q := 65) rfl rfl ?_
    obtain ⟨k, rfl⟩ : ∃ k2, k = k2 + 1 := ⟨k - 1, by omega⟩
    rw [← zs_r_fg_3 (by omega) (by omega)] at kx
    exact ih k (by omega) _ _ (by omega) (by omega) kx
theorem zs_r_fg_4 {D : KK} {l : Int} (h0 : 0 ≤ l) (h1 : l < 10) : zfD 494 495 (l + 1) 10 (xui (xui D 494 l.toNat 0) 495 l.toNat 0) = zfD 494 495 l 10 D := by
  funext a x
  unfold zfD xui
  grind
set_option maxHeartbeats 1000000 in
theorem r_fg_4 {n : Nat} {R : Nat → Nat → Option Nat} {Q : XQ} (hR : RF R) : ∀ (k : Nat) (D : KK) (l : Int), 0 ≤ l → l + k = 10 → (∀ l2 : Int, XX (XC 0) 181 Q 111 [some (.inr (some 479)), some (.inl l2)] [] (xS n, R, zfD 494 495 l 10 D)) → XX (XC 0) 181 (Q) 85 [some (.inr (some 479)), some (.inl l)] [] (xS n, R, D) := by
  intro k
  induction k using Nat.strongRecOn with
  | ind k ih =>
  intro D l h1 hk kx
  refine xx_iload_n (q := 86) rfl rfl rfl ?_
  refine xx_bipush (q := 88) rfl rfl (by decide) ?_
  refine xx_icmp_ge (q := 111) (q2 := 91) rfl rfl rfl (fun h88 => ?_) (fun h88 => ?_)
  · obtain rfl : k = 0 := by omega
    rw [zfD_e (by omega)] at kx
    exact kx _
  · refine xx_aload_n (q := 92) rfl rfl rfl ?_
    refine xx_getR (q := 95) rfl rfl rfl xS_479 (Nat.le_of_ble_eq_true rfl) rfl (hR.1 479 20 rfl) ?_
    refine xx_iload_n (q := 96) rfl rfl rfl ?_
    refine xx_iconst (q := 97) rfl rfl (by decide) ?_
    refine xx_isz (q := 98) rfl rfl xS_494 (by omega) (by omega) rfl ?_
    refine xx_aload_n (q := 99) rfl rfl rfl ?_
    refine xx_getR (q := 102) rfl rfl rfl xS_479 (Nat.le_of_ble_eq_true rfl) rfl (hR.1 479 21 rfl) ?_
    refine xx_iload_n (q := 103) rfl rfl rfl ?_
    refine xx_iconst (q := 104) rfl rfl (by decide) ?_
    refine xx_isz (q := 105) rfl rfl xS_495 (by omega) (by omega) rfl ?_
    refine xx_incz (q := 108) (loc2 := [_, _]) rfl rfl rfl (by omega) (by omega) rfl rfl ?_
    refine xx_goto (q := 85) rfl rfl ?_
    obtain ⟨k, rfl⟩ : ∃ k2, k = k2 + 1 := ⟨k - 1, by omega⟩
    rw [← zs_r_fg_4 (by omega) (by omega)] at kx
    exact ih k (by omega) _ _ (by omega) (by omega) kx
def fgtD (D : KK) : KK := zfD 494 495 0 10 (zfD 490 490 0 5 (zfD 487 487 0 36 (zfD 483 486 0 9 D)))
theorem r_forgetsLocks {n : Nat} {R : Nat → Nat → Option Nat} {D : KK} (hR : RF R) : ∃ D', XC 1 181 [.inr (some 479)] (xS n, R, D) none (xS n, R, D') ∧ D' = fgtD D := by
  refine XE_of (Nat.le_of_ble_eq_true rfl) (Nat.le_of_ble_eq_true rfl) (loc := [_, _]) rfl ?_
  refine xx_iconst (q := 1) rfl rfl (by decide) ?_
  refine xx_istore_n (q := 2) (loc2 := [_, _]) rfl rfl (Nat.le_of_ble_eq_true rfl) rfl ?_
  refine r_fg_1 hR 9 _ _ (by omega) (by omega) (fun _ => ?_)
  refine xx_iconst (q := 43) rfl rfl (by decide) ?_
  refine xx_istore_n (q := 44) (loc2 := [_, _]) rfl rfl (Nat.le_of_ble_eq_true rfl) rfl ?_
  refine r_fg_2 hR 36 _ _ (by omega) (by omega) (fun _ => ?_)
  refine xx_iconst (q := 64) rfl rfl (by decide) ?_
  refine xx_istore_n (q := 65) (loc2 := [_, _]) rfl rfl (Nat.le_of_ble_eq_true rfl) rfl ?_
  refine r_fg_3 hR 5 _ _ (by omega) (by omega) (fun _ => ?_)
  refine xx_iconst (q := 84) rfl rfl (by decide) ?_
  refine xx_istore_n (q := 85) (loc2 := [_, _]) rfl rfl (Nat.le_of_ble_eq_true rfl) rfl ?_
  refine r_fg_4 hR 10 _ _ (by omega) (by omega) (fun _ => ?_)
  exact xx_vret rfl rfl ⟨rfl, _, rfl, rfl⟩
theorem zs_r_cn_1 {D : KK} {l : Int} (h0 : 0 ≤ l) (h1 : l < 125) : zfD 480 480 (l + 1) 125 (xui D 480 l.toNat 0) = zfD 480 480 l 125 D := by
  funext a x
  unfold zfD xui
  grind
set_option maxHeartbeats 1000000 in
theorem r_cn_1 {n : Nat} {R : Nat → Nat → Option Nat} {Q : XQ} (hR : RF R) (m : Int) (s : Int) : ∀ (k : Nat) (D : KK) (l : Int), 0 ≤ l → l + k = 125 → (∀ l2 : Int, XX (XC 1) 182 Q 46 [some (.inr (some 479)), some (.inl m), some (.inl s), some (.inl l2)] [] (xS n, R, zfD 480 480 l 125 D)) → XX (XC 1) 182 (Q) 27 [some (.inr (some 479)), some (.inl m), some (.inl s), some (.inl l)] [] (xS n, R, D) := by
  intro k
  induction k using Nat.strongRecOn with
  | ind k ih =>
  intro D l h1 hk kx
  refine xx_iload_n (q := 28) rfl rfl rfl ?_
  refine xx_bipush (q := 30) rfl rfl (by decide) ?_
  refine xx_icmp_ge (q := 46) (q2 := 33) rfl rfl rfl (fun h30 => ?_) (fun h30 => ?_)
  · obtain rfl : k = 0 := by omega
    rw [zfD_e (by omega)] at kx
    exact kx _
  · refine xx_aload_n (q := 34) rfl rfl rfl ?_
    refine xx_getR (q := 37) rfl rfl rfl xS_479 (Nat.le_of_ble_eq_true rfl) rfl (hR.1 479 1 rfl) ?_
    refine xx_iload_n (q := 38) rfl rfl rfl ?_
    refine xx_iconst (q := 39) rfl rfl (by decide) ?_
    refine xx_isz (q := 40) rfl rfl xS_480 (by omega) (by omega) rfl ?_
    refine xx_incz (q := 43) (loc2 := [_, _, _, _]) rfl rfl rfl (by omega) (by omega) rfl rfl ?_
    refine xx_goto (q := 27) rfl rfl ?_
    obtain ⟨k, rfl⟩ : ∃ k2, k = k2 + 1 := ⟨k - 1, by omega⟩
    rw [← zs_r_cn_1 (by omega) (by omega)] at kx
    exact ih k (by omega) _ _ (by omega) (by omega) kx
def RBgn (D E : KK) : Prop := E 479 16 = 0 ∧ E 499 0 = 0 ∧ E 499 1 = 0 ∧ E 479 47 = 0 ∧ (∀ k, k < 10 → E 494 k = 0 ∧ E 495 k = 0) ∧ ∀ a k, (a < 479 ∨ (a = 479 ∧ (k = 24 ∨ k = 44 ∨ k = 45 ∨ k = 63)) ∨ (491 ≤ a ∧ a ≤ 493) ∨ a = 497 ∨ a = 498 ∨ (500 ≤ a ∧ a ≤ 507) ∨ a = 515) → E a k = D a k
def rbgD (D : KK) (m s : Int) : KK := xui (xui (xui (xui (xui (fgtD (xui (xui (xui (zfD 480 480 0 125 D) 480 2 s) 479 6 m) 479 7 0)) 479 16 0) 499 0 0) 499 1 0) 479 47 0) 479 3 0
theorem rbgD_o {D : KK} {m s : Int} {a x : Nat} (h : a ≠ 480) (h1 : a = 479 → x ≠ 6 ∧ x ≠ 7 ∧ x ≠ 16 ∧ x ≠ 47 ∧ x ≠ 3) (h2 : a = 499 → 2 ≤ x) (h3 : ¬ (483 ≤ a ∧ a ≤ 487)) (h4 : a ≠ 490) (h5 : a ≠ 494) (h6 : a ≠ 495) : rbgD D m s a x = D a x := by
  unfold rbgD fgtD xui zfD
  grind (splits := 40)
theorem rbg_RV {D K : KK} {m : Int} {b : Int} {B : Nat → Int} {U : UU} (h : RV 0 K b B U D D) (hI : KI K) (h1 : 1 ≤ m) (h2 : m ≤ 9) : RV 0 (bgnK K m) 0 B [] (rbgD D m (K 0 3)) (rbgD D m (K 0 3)) ∧ RBgn D (rbgD D m (K 0 3)) := by
  have e480 : ∀ x, x < 125 → rbgD D m (K 0 3) 480 x = if x = 2 then K 0 3 else 0 := fun x hx => by
    unfold rbgD fgtD xui zfD
    grind (splits := 40)
  have ez : ∀ a x, ((483 ≤ a ∧ a ≤ 486 ∧ x < 9) ∨ (a = 487 ∧ x < 36) ∨ (a = 490 ∧ x < 5) ∨ (494 ≤ a ∧ a ≤ 495 ∧ x < 10)) → rbgD D m (K 0 3) a x = 0 := fun a x hx => by
    unfold rbgD fgtD xui zfD
    grind (splits := 40)
  have e6 : rbgD D m (K 0 3) 479 6 = m := by
    unfold rbgD fgtD xui zfD
    grind (splits := 40)
  have e7 : ∀ k, (k = 7 ∨ k = 16 ∨ k = 47 ∨ k = 3) → rbgD D m (K 0 3) 479 k = 0 := fun k hk => by
    unfold rbgD fgtD xui zfD
    grind (splits := 40)
  have e9 : ∀ k, (k = 0 ∨ k = 1) → rbgD D m (K 0 3) 499 k = 0 := fun k hk => by
    unfold rbgD fgtD xui zfD
    grind (splits := 40)
  have c := h.2.1
  refine ⟨⟨?_, ?_, ?_, ⟨by omega, by omega⟩, ?_, ?_, FV.rf⟩, e7 16 (by omega), e9 0 (by omega), e9 1 (by omega), e7 47 (by omega), fun k hk => ⟨ez _ _ (by omega), ez _ _ (by omega)⟩, fun a k q => rbgD_o (by omega) (by omega) (by omega) (by omega) (by omega) (by omega) (by omega)⟩
  · refine ⟨(e480 0 (by omega)).trans rfl, (e480 1 (by omega)).trans rfl, (e480 2 (by omega)).trans rfl, (e480 3 (by omega)).trans rfl, fun i hi => ?_, fun i hi => ?_, fun i hi => ?_, fun i hi => ?_, fun i hi => ?_, fun i hi => ?_, fun i hi => ?_⟩
    · rw [e480 _ (by omega), if_neg (by omega)]; rfl
    · rw [e480 _ (by omega), if_neg (by omega)]; rfl
    · rw [e480 _ (by omega), if_neg (by omega)]; rfl
    · rw [e480 _ (by omega), if_neg (by omega)]; rfl
    · rw [e480 _ (by omega), if_neg (by omega)]; rfl
    · exact absurd (show (i : Int) < 0 from hi) (by omega)
    · rw [e480 _ (by omega), if_neg (by omega)]; rfl
  · refine ⟨e6, e7 7 (by omega), fun i hi => ?_, fun i hi => ?_, fun i hi => ?_, fun i hi => ?_, fun i hi => ?_, fun i hi => ?_, fun i hi => ?_, fun i hi => ?_⟩
    · rw [ez _ _ (by omega)]; rfl
    · rw [ez _ _ (by omega)]; rfl
    · rw [ez _ _ (by omega)]; rfl
    · rw [ez _ _ (by omega)]; rfl
    · rw [ez _ _ (by omega)]; rfl
    · rw [rbgD_o (by omega) (by omega) (by omega) (by omega) (by omega) (by omega) (by omega)]; exact c.2.2.2.2.2.2.2.1 i hi
    · rw [rbgD_o (by omega) (by omega) (by omega) (by omega) (by omega) (by omega) (by omega)]; exact c.2.2.2.2.2.2.2.2.1 i hi
    · rw [ez _ _ (by omega)]; rfl
  · rw [rbgD_o (by omega) (by omega) (by omega) (by omega) (by omega) (by omega) (by omega)]; exact h.2.2.1
  · intro k hk
    rw [rbgD_o (by omega) (by omega) (by omega) (by omega) (by omega) (by omega) (by omega)]; exact h.2.2.2.2.1 k hk
  · exact ⟨Nat.zero_le _, e7 3 (by omega), fun i u hu => by cases hu⟩
set_option maxHeartbeats 1000000 in
theorem r_cn_E {n : Nat} {R : Nat → Nat → Option Nat} {K D D1 : KK} {b : Int} {B : Nat → Int} {U : UU} (hR : RF R) (hV : RV 0 K b B U D1 D1) (hI : KI K) (hF : FQ D D1) (m l : Int) (hm0 : 1 ≤ m) (hm1 : m ≤ 9) : XX (XC 1) 182 (XP (some (.inl (bi (1 ≤ m ∧ m ≤ 9)))) (xS n) R (fun D' => if 1 ≤ m ∧ m ≤ 9 then RV 0 (bgnK K m) 0 B [] D' D' ∧ RBgn D D' else PV K b B U D D')) 46 [some (.inr (some 479)), some (.inl m), some (.inl (K 0 3)), some (.inl l)] [] (xS n, R, zfD 480 480 0 125 D1) := by
  refine xx_aload_n (q := 47) rfl rfl rfl ?_
  refine xx_getR (q := 50) rfl rfl rfl xS_479 (Nat.le_of_ble_eq_true rfl) rfl (hR.1 479 1 rfl) ?_
  refine xx_iconst (q := 51) rfl rfl (by decide) ?_
  refine xx_iload_n (q := 52) rfl rfl rfl ?_
  refine xx_isz (q := 53) rfl rfl xS_480 (by omega) (by omega) rfl ?_
  refine xx_aload_n (q := 54) rfl rfl rfl ?_
  refine xx_iload_n (q := 55) rfl rfl rfl ?_
  refine xx_puz (q := 58) rfl rfl rfl xS_479 (Nat.le_of_ble_eq_true rfl) (Nat.le_of_ble_eq_true rfl) (fun h => by cases h) (Or.inl rfl) rfl ?_
  refine xx_aload_n (q := 59) rfl rfl rfl ?_
  refine xx_iconst (q := 60) rfl rfl (by decide) ?_
  refine xx_puz (q := 63) rfl rfl rfl xS_479 (Nat.le_of_ble_eq_true rfl) (Nat.le_of_ble_eq_true rfl) (fun h => by cases h) (Or.inl rfl) rfl ?_
  refine xx_aload_n (q := 64) rfl rfl rfl ?_
  obtain ⟨D4, hx4, he4⟩ := r_forgetsLocks (n := n) (D := (xui (xui (xui (zfD 480 480 0 125 D1) 480 2 (K 0 3)) 479 6 m) 479 7 0)) hR
  subst he4
  refine xx_callV (q := 67) (As := []) (rest := []) rfl rfl rfl (Or.inl rfl) rfl rfl (Nat.le_of_ble_eq_true rfl) xS_479 (XCm hx4 rfl) rfl ?_
  refine xx_aload_n (q := 68) rfl rfl rfl ?_
  refine xx_iconst (q := 69) rfl rfl (by decide) ?_
  refine xx_puz (q := 72) rfl rfl rfl xS_479 (Nat.le_of_ble_eq_true rfl) (Nat.le_of_ble_eq_true rfl) (fun h => by cases h) (Or.inl rfl) rfl ?_
  refine xx_aload_n (q := 73) rfl rfl rfl ?_
  refine xx_getR (q := 76) rfl rfl rfl xS_479 (Nat.le_of_ble_eq_true rfl) rfl (hR.1 479 30 rfl) ?_
  refine xx_iconst (q := 77) rfl rfl (by decide) ?_
  refine xx_iconst (q := 78) rfl rfl (by decide) ?_
  refine xx_isz (q := 79) rfl rfl xS_499 (by omega) (by omega) rfl ?_
  refine xx_aload_n (q := 80) rfl rfl rfl ?_
  refine xx_getR (q := 83) rfl rfl rfl xS_479 (Nat.le_of_ble_eq_true rfl) rfl (hR.1 479 30 rfl) ?_
  refine xx_iconst (q := 84) rfl rfl (by decide) ?_
  refine xx_iconst (q := 85) rfl rfl (by decide) ?_
  refine xx_isz (q := 86) rfl rfl xS_499 (by omega) (by omega) rfl ?_
  refine xx_aload_n (q := 87) rfl rfl rfl ?_
  refine xx_iconst (q := 88) rfl rfl (by decide) ?_
  refine xx_puz (q := 91) rfl rfl rfl xS_479 (Nat.le_of_ble_eq_true rfl) (Nat.le_of_ble_eq_true rfl) (fun h => by cases h) (Or.inl rfl) rfl ?_
  refine xx_aload_n (q := 92) rfl rfl rfl ?_
  refine xx_iconst (q := 93) rfl rfl (by decide) ?_
  refine xx_puz (q := 96) rfl rfl rfl xS_479 (Nat.le_of_ble_eq_true rfl) (Nat.le_of_ble_eq_true rfl) (fun h => by cases h) (Or.inl rfl) rfl ?_
  refine xx_iconst (q := 97) rfl rfl (by decide) ?_
  refine xx_iret rfl (Or.inr rfl) ⟨congrArg (fun z => some (Sum.inl z)) (bi_t ⟨hm0, hm1⟩).symm, _, rfl, ?_⟩
  show (if 1 ≤ m ∧ m ≤ 9 then _ else _)
  rw [if_pos ⟨hm0, hm1⟩]
  obtain ⟨r1, r2⟩ := rbg_RV hV hI hm0 hm1
  exact ⟨r1, r2.1, r2.2.1, r2.2.2.1, r2.2.2.2.1, r2.2.2.2.2.1, fun a k q => (r2.2.2.2.2.2 a k q).trans (hF a k (by unfold restQ; omega))⟩
theorem r_canal {n : Nat} {R : Nat → Nat → Option Nat} {K D : KK} {b : Int} {B : Nat → Int} {U : UU} (hR : RF R) (hV : RV 0 K b B U D D) (hI : KI K) (m : Int) : ∃ D', XC 2 182 [.inr (some 479), .inl m] (xS n, R, D) (some (.inl (bi (1 ≤ m ∧ m ≤ 9)))) (xS n, R, D') ∧ (if 1 ≤ m ∧ m ≤ 9 then RV 0 (bgnK K m) 0 B [] D' D' ∧ RBgn D D' else PV K b B U D D') := by
  refine XE_of (Nat.le_of_ble_eq_true rfl) (Nat.le_of_ble_eq_true rfl) (loc := [_, _, _, _]) rfl ?_
  refine xx_aload_n (q := 1) rfl rfl rfl ?_
  refine xx_iconst (q := 2) rfl rfl (by decide) ?_
  refine xr_puz (PV K b B U D) (q := 5) rfl rfl rfl xS_479 (Nat.le_of_ble_eq_true rfl) (Nat.le_of_ble_eq_true rfl) (fun h => by cases h) (Or.inl rfl) ⟨hV.u (by decide), FQ.rf.up (by unfold restQ; omega)⟩ (fun D1 hP0 => ?_)
  refine xx_aload_n (q := 6) rfl rfl rfl ?_
  refine xx_iload_n (q := 7) rfl rfl rfl ?_
  refine xx_iconst (q := 8) rfl rfl (by decide) ?_
  refine xx_bipush (q := 10) rfl rfl (by decide) ?_
  refine xx_callV (q := 13) (As := [_, _, _]) (rest := []) rfl rfl rfl (Or.inl rfl) rfl rfl (Nat.le_of_ble_eq_true rfl) xS_479 (XCm (r_isIn m 1 9) rfl) rfl ?_
  refine xx_ifb_ne (q := 18) (q2 := 16) rfl rfl rfl (fun h13 => ?_) (fun h13 => ?_)
  · refine xx_aload_n (q := 19) rfl rfl rfl ?_
    refine xx_getR (q := 22) rfl rfl rfl xS_479 (Nat.le_of_ble_eq_true rfl) rfl (hR.1 479 1 rfl) ?_
    refine xx_iconst (q := 23) rfl rfl (by decide) ?_
    refine xx_iaz (v := K 0 3) (q := 24) rfl rfl xS_480 (by omega) (by omega) (rv_d hP0.1) ?_
    refine xx_istore_n (q := 25) (loc2 := [_, _, _, _]) rfl rfl (Nat.le_of_ble_eq_true rfl) rfl ?_
    refine xx_iconst (q := 26) rfl rfl (by decide) ?_
    refine xx_istore_n (q := 27) (loc2 := [_, _, _, _]) rfl rfl (Nat.le_of_ble_eq_true rfl) rfl ?_
    refine r_cn_1 hR m (K 0 3) 125 _ 0 (by omega) (by omega) (fun l2 => ?_)
    exact r_cn_E hR hP0.1 hI hP0.2 m l2 h13.1 h13.2
  · refine xx_iconst (q := 17) rfl rfl (by decide) ?_
    refine xx_iret rfl (Or.inl rfl) ⟨congrArg (fun z => some (Sum.inl z)) (bi_f h13).symm, _, rfl, ?_⟩
    show (if 1 ≤ m ∧ m ≤ 9 then _ else _)
    rw [if_neg h13]
    exact hP0
