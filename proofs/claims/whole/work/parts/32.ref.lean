/-! The reference keeps rows and writes into its book. -/
def tU (t : Int) (K : KK) (b : Int) (U : UU) : UU := if t = 0 then kepU K b U else U
def tb (t b : Int) : Int := if t = 0 then notb b else b
def tB (t : Int) (K : KK) (b : Int) (B : Nat → Int) (s l c a : Int) : Nat → Int := if t = 0 then notB b B (K 0 1) s l c a else B
theorem RV.bk {t : Int} {K : KK} {b : Int} {B : Nat → Int} {U : UU} {D0 D : KK} {w : Int} {j : Nat} (h : RV t K b B U D0 D) : RV t K b (fset B j w) U D0 (xui D 496 j w) := ⟨by rw [show xui D 496 j w 480 = D 480 from funext (fun k => xui_a (by omega))]; exact h.1, h.2.1.up (fun x k h1 h2 h3 h4 h5 h6 => xui_a (by omega)) (fun _ _ _ => rfl), (xui_a (by omega)).trans h.2.2.1, h.2.2.2.1, fun k hk => by
  rw [xui_f]
  unfold fset
  rw [h.2.2.2.2.1 k hk], h.2.2.2.2.2.1.up (fun k => xui_a (by omega)) (xui_a (by omega)), h.2.2.2.2.2.2.up (by omega)⟩
set_option maxHeartbeats 1000000 in
theorem r_notes {n : Nat} {R : Nat → Nat → Option Nat} {t : Int} {K D0 D : KK} {b : Int} {B : Nat → Int} {U : UU} (hR : RF R) (hV : RV t K b B U D0 D) (hI : KI K) (s l c a : Int) : ∃ D', XC 1 230 [.inr (some 479), .inl s, .inl l, .inl c, .inl a] (xS n, R, D) none (xS n, R, D') ∧ RV t K (tb t b) (tB t K b B s l c a) U D0 D' := by
  have hb0 := hV.2.2.2.1
  refine XE_of (Nat.le_of_ble_eq_true rfl) (Nat.le_of_ble_eq_true rfl) (loc := [_, _, _, _, _, _]) rfl ?_
  refine xx_aload_n (q := 1) rfl rfl rfl ?_
  refine xx_gez (q := 4) rfl rfl rfl xS_479 (Nat.le_of_ble_eq_true rfl) rfl (rv_t hV) ?_
  refine xx_if_ne (q := 19) (q2 := 7) rfl rfl rfl (fun h4 => ?_) (fun h4 => ?_)
  · refine xx_vret rfl rfl ⟨rfl, _, rfl, ?_⟩
    have e1 : tb t b = b := if_neg h4
    have e2 : tB t K b B s l c a = B := if_neg h4
    rw [e1, e2]
    exact hV
  · refine xx_aload_n (q := 8) rfl rfl rfl ?_
    refine xx_getR (q := 11) rfl rfl rfl xS_479 (Nat.le_of_ble_eq_true rfl) rfl (hR.1 479 1 rfl) ?_
    refine xx_iconst (q := 12) rfl rfl (by decide) ?_
    refine xx_iaz (v := b) (q := 13) rfl rfl xS_480 (by omega) (by omega) (rv_b hV) ?_
    have hb1 := hV.2.2.2.1
    refine xx_sipush (q := 16) rfl rfl (by decide) ?_
    refine xx_icmp_ne (q := 20) (q2 := 19) rfl rfl rfl (fun h16 => ?_) (fun h16 => ?_)
    · refine xx_iconst (q := 21) rfl rfl (by decide) ?_
      refine xx_aload_n (q := 22) rfl rfl rfl ?_
      refine xx_getR (q := 25) rfl rfl rfl xS_479 (Nat.le_of_ble_eq_true rfl) rfl (hR.1 479 1 rfl) ?_
      refine xx_iconst (q := 26) rfl rfl (by decide) ?_
      refine xx_iaz (v := b) (q := 27) rfl rfl xS_480 (by omega) (by omega) (rv_b hV) ?_
      have hb2 := hV.2.2.2.1
      refine xx_imulR (q := 28) rfl rfl (by omega) (by omega) ?_
      refine xx_istore (q := 30) (loc2 := [_, _, _, _, _, _]) rfl rfl (Nat.le_of_ble_eq_true rfl) rfl ?_
      refine xx_aload_n (q := 31) rfl rfl rfl ?_
      refine xx_getR (q := 34) rfl rfl rfl xS_479 (Nat.le_of_ble_eq_true rfl) rfl (hR.1 479 22 rfl) ?_
      refine xx_iload (q := 36) rfl rfl rfl ?_
      refine xx_aload_n (q := 37) rfl rfl rfl ?_
      refine xx_getR (q := 40) rfl rfl rfl xS_479 (Nat.le_of_ble_eq_true rfl) rfl (hR.1 479 1 rfl) ?_
      refine xx_iconst (q := 41) rfl rfl (by decide) ?_
      refine xx_iaz (v := K 0 1) (q := 42) rfl rfl xS_480 (by omega) (by omega) (rv_h hV) ?_
      refine xr_isz (RV t K b (fset B (5 * b).toNat (K 0 1)) U D0) (q := 43) rfl rfl xS_496 (by omega) (by omega) (hV.bk) (fun D4 hV4 => ?_)
      refine xx_aload_n (q := 44) rfl rfl rfl ?_
      refine xx_getR (q := 47) rfl rfl rfl xS_479 (Nat.le_of_ble_eq_true rfl) rfl (hR.1 479 22 rfl) ?_
      refine xx_iload (q := 49) rfl rfl rfl ?_
      refine xx_iconst (q := 50) rfl rfl (by decide) ?_
      refine xx_iaddR (q := 51) rfl rfl (by omega) (by omega) ?_
      refine xx_iload_n (q := 52) rfl rfl rfl ?_
      refine xr_isz (RV t K b (fset (fset B (5 * b).toNat (K 0 1)) ((5 * b) + 1).toNat s) U D0) (q := 53) rfl rfl xS_496 (by omega) (by omega) (hV4.bk) (fun D6 hV6 => ?_)
      refine xx_aload_n (q := 54) rfl rfl rfl ?_
      refine xx_getR (q := 57) rfl rfl rfl xS_479 (Nat.le_of_ble_eq_true rfl) rfl (hR.1 479 22 rfl) ?_
      refine xx_iload (q := 59) rfl rfl rfl ?_
      refine xx_iconst (q := 60) rfl rfl (by decide) ?_
      refine xx_iaddR (q := 61) rfl rfl (by omega) (by omega) ?_
      refine xx_iload_n (q := 62) rfl rfl rfl ?_
      refine xr_isz (RV t K b (fset (fset (fset B (5 * b).toNat (K 0 1)) ((5 * b) + 1).toNat s) ((5 * b) + 2).toNat l) U D0) (q := 63) rfl rfl xS_496 (by omega) (by omega) (hV6.bk) (fun D8 hV8 => ?_)
      refine xx_aload_n (q := 64) rfl rfl rfl ?_
      refine xx_getR (q := 67) rfl rfl rfl xS_479 (Nat.le_of_ble_eq_true rfl) rfl (hR.1 479 22 rfl) ?_
      refine xx_iload (q := 69) rfl rfl rfl ?_
      refine xx_iconst (q := 70) rfl rfl (by decide) ?_
      refine xx_iaddR (q := 71) rfl rfl (by omega) (by omega) ?_
      refine xx_iload_n (q := 72) rfl rfl rfl ?_
      refine xr_isz (RV t K b (fset (fset (fset (fset B (5 * b).toNat (K 0 1)) ((5 * b) + 1).toNat s) ((5 * b) + 2).toNat l) ((5 * b) + 3).toNat c) U D0) (q := 73) rfl rfl xS_496 (by omega) (by omega) (hV8.bk) (fun D10 hV10 => ?_)
      refine xx_aload_n (q := 74) rfl rfl rfl ?_
      refine xx_getR (q := 77) rfl rfl rfl xS_479 (Nat.le_of_ble_eq_true rfl) rfl (hR.1 479 22 rfl) ?_
      refine xx_iload (q := 79) rfl rfl rfl ?_
      refine xx_iconst (q := 80) rfl rfl (by decide) ?_
      refine xx_iaddR (q := 81) rfl rfl (by omega) (by omega) ?_
      refine xx_iload (q := 83) rfl rfl rfl ?_
      refine xr_isz (RV t K b (fset (fset (fset (fset (fset B (5 * b).toNat (K 0 1)) ((5 * b) + 1).toNat s) ((5 * b) + 2).toNat l) ((5 * b) + 3).toNat c) ((5 * b) + 4).toNat a) U D0) (q := 84) rfl rfl xS_496 (by omega) (by omega) (hV10.bk) (fun D12 hV12 => ?_)
      refine xx_aload_n (q := 85) rfl rfl rfl ?_
      refine xx_getR (q := 88) rfl rfl rfl xS_479 (Nat.le_of_ble_eq_true rfl) rfl (hR.1 479 1 rfl) ?_
      refine xx_iconst (q := 89) rfl rfl (by decide) ?_
      refine xx_aload_n (q := 90) rfl rfl rfl ?_
      refine xx_getR (q := 93) rfl rfl rfl xS_479 (Nat.le_of_ble_eq_true rfl) rfl (hR.1 479 1 rfl) ?_
      refine xx_iconst (q := 94) rfl rfl (by decide) ?_
      refine xx_iaz (v := b) (q := 95) rfl rfl xS_480 (by omega) (by omega) (rv_b hV12) ?_
      have hb13 := hV12.2.2.2.1
      refine xx_iconst (q := 96) rfl rfl (by decide) ?_
      refine xx_iaddR (q := 97) rfl rfl (by omega) (by omega) ?_
      refine xr_isz (RV t K (b + 1) (fset (fset (fset (fset (fset B (5 * b).toNat (K 0 1)) ((5 * b) + 1).toNat s) ((5 * b) + 2).toNat l) ((5 * b) + 3).toNat c) ((5 * b) + 4).toNat a) U D0) (q := 98) rfl rfl xS_480 (by omega) (by omega) (rs_b hV12 (by omega)) (fun D15 hV15 => ?_)
      refine xx_vret rfl rfl ⟨rfl, _, rfl, ?_⟩
      have e1 : tb t b = b + 1 := by unfold tb notb; rw [if_pos h4, if_pos (by omega)]
      have e2 : tB t K b B s l c a = fset (fset (fset (fset (fset B (5 * b).toNat (K 0 1)) ((5 * b) + 1).toNat s) ((5 * b) + 2).toNat l) ((5 * b) + 3).toNat c) ((5 * b) + 4).toNat a := by unfold tB notB; rw [if_pos h4, if_pos (by omega), Int.mul_comm b 5]
      rw [e1, e2]
      exact hV15
    · refine xx_vret rfl rfl ⟨rfl, _, rfl, ?_⟩
      have e1 : tb t b = b := by unfold tb notb; rw [if_pos h4, if_neg (by omega)]
      have e2 : tB t K b B s l c a = B := by unfold tB notB; rw [if_pos h4, if_neg (by omega)]
      rw [e1, e2]
      exact hV
set_option maxHeartbeats 1000000 in
theorem r_keep_S {n : Nat} {R : Nat → Nat → Option Nat} {Q : XQ} (hR : RF R) : ∀ (k : Nat) (D : KK) (l : Int), 0 ≤ l → l + k = 1125 → D 479 3 = 9 → (∀ E l2, (∀ x : Nat, x < 1125 → l ≤ (x : Int) → E 481 x = D 481 (x + 125)) → (∀ x : Nat, ((x : Int) < l ∨ 1125 ≤ x) → E 481 x = D 481 x) → (∀ a x, a ≠ 481 → E a x = D a x) → XX (XC 0) 164 Q 61 [some (.inr (some 479)), some (.inl l2)] [] (xS n, R, E)) → XX (XC 0) 164 (Q) 29 [some (.inr (some 479)), some (.inl l)] [] (xS n, R, D) := by
  intro k
  induction k using Nat.strongRecOn with
  | ind k ih =>
  intro D l h1 hk h3 kx
  refine xx_iload_n (q := 30) rfl rfl rfl ?_
  refine xx_bipush (q := 32) rfl rfl (by decide) ?_
  refine xx_aload_n (q := 33) rfl rfl rfl ?_
  refine xx_gez (q := 36) rfl rfl rfl xS_479 (Nat.le_of_ble_eq_true rfl) rfl h3 ?_
  refine xx_imulR (q := 37) rfl rfl (by omega) (by omega) ?_
  refine xx_icmp_ge (q := 61) (q2 := 40) rfl rfl rfl (fun h37 => ?_) (fun h37 => ?_)
  · obtain rfl : k = 0 := by omega
    exact kx D _ (fun x q1 q2 => by omega) (fun x q => rfl) (fun a x q => rfl)
  · obtain ⟨k, rfl⟩ : ∃ k2, k = k2 + 1 := ⟨k - 1, by omega⟩
    refine xx_aload_n (q := 41) rfl rfl rfl ?_
    refine xx_getR (q := 44) rfl rfl rfl xS_479 (Nat.le_of_ble_eq_true rfl) rfl (hR.1 479 2 rfl) ?_
    refine xx_iload_n (q := 45) rfl rfl rfl ?_
    refine xx_aload_n (q := 46) rfl rfl rfl ?_
    refine xx_getR (q := 49) rfl rfl rfl xS_479 (Nat.le_of_ble_eq_true rfl) rfl (hR.1 479 2 rfl) ?_
    refine xx_iload_n (q := 50) rfl rfl rfl ?_
    refine xx_bipush (q := 52) rfl rfl (by decide) ?_
    refine xx_iaddR (q := 53) rfl rfl (by omega) (by omega) ?_
    refine xx_iaz (q := 54) rfl rfl xS_481 (by omega) (by omega) rfl ?_
    refine xx_isz (q := 55) rfl rfl xS_481 (by omega) (by omega) rfl ?_
    refine xx_incz (q := 58) (loc2 := [_, _]) rfl rfl rfl (by omega) (by omega) rfl rfl ?_
    refine xx_goto (q := 29) rfl rfl ?_
    refine ih k (by omega) _ _ (by omega) (by omega) h3 (fun E l2 g1 g2 g3 => kx E l2 (fun x q1 q2 => ?_) (fun x q => ?_) (fun a x q => (g3 a x q).trans (xui_a q)))
    · rcases Classical.em ((x : Int) = l) with e | e
      · rw [g2 x (by omega)]
        rw [show l.toNat = x by omega, xui_s, show (l + 125).toNat = x + 125 by omega]
      · rw [g1 x q1 (by omega), xui_j (by omega)]
    · rw [g2 x (by omega), xui_j (by omega)]
set_option maxHeartbeats 1000000 in
theorem r_keep_C {n : Nat} {R : Nat → Nat → Option Nat} {Q : XQ} (hR : RF R) (u : Nat) (hu9 : u ≤ 9) : ∀ (k : Nat) (D : KK) (l : Int), 0 ≤ l → l + k = 125 → D 479 3 = (u : Int) → (∀ E l2, (∀ x : Nat, x < 125 → l ≤ (x : Int) → E 481 (125 * u + x) = D 480 x) → (∀ x : Nat, ((x : Int) < 125 * u + l ∨ 125 * u + 125 ≤ x) → E 481 x = D 481 x) → (∀ a x, a ≠ 481 → E a x = D a x) → XX (XC 0) 164 Q 95 [some (.inr (some 479)), some (.inl l2)] [] (xS n, R, E)) → XX (XC 0) 164 (Q) 63 [some (.inr (some 479)), some (.inl l)] [] (xS n, R, D) := by
  intro k
  induction k using Nat.strongRecOn with
  | ind k ih =>
  intro D l h1 hk h3 kx
  refine xx_iload_n (q := 64) rfl rfl rfl ?_
  refine xx_bipush (q := 66) rfl rfl (by decide) ?_
  refine xx_icmp_ge (q := 95) (q2 := 69) rfl rfl rfl (fun h66 => ?_) (fun h66 => ?_)
  · obtain rfl : k = 0 := by omega
    exact kx D _ (fun x q1 q2 => by omega) (fun x q => rfl) (fun a x q => rfl)
  · obtain ⟨k, rfl⟩ : ∃ k2, k = k2 + 1 := ⟨k - 1, by omega⟩
    refine xx_aload_n (q := 70) rfl rfl rfl ?_
    refine xx_getR (q := 73) rfl rfl rfl xS_479 (Nat.le_of_ble_eq_true rfl) rfl (hR.1 479 2 rfl) ?_
    refine xx_bipush (q := 75) rfl rfl (by decide) ?_
    refine xx_aload_n (q := 76) rfl rfl rfl ?_
    refine xx_gez (q := 79) rfl rfl rfl xS_479 (Nat.le_of_ble_eq_true rfl) rfl h3 ?_
    refine xx_imulR (q := 80) rfl rfl (by omega) (by omega) ?_
    refine xx_iload_n (q := 81) rfl rfl rfl ?_
    refine xx_iaddR (q := 82) rfl rfl (by omega) (by omega) ?_
    refine xx_aload_n (q := 83) rfl rfl rfl ?_
    refine xx_getR (q := 86) rfl rfl rfl xS_479 (Nat.le_of_ble_eq_true rfl) rfl (hR.1 479 1 rfl) ?_
    refine xx_iload_n (q := 87) rfl rfl rfl ?_
    refine xx_iaz (q := 88) rfl rfl xS_480 (by omega) (by omega) rfl ?_
    refine xx_isz (q := 89) rfl rfl xS_481 (by omega) (by omega) rfl ?_
    refine xx_incz (q := 92) (loc2 := [_, _]) rfl rfl rfl (by omega) (by omega) rfl rfl ?_
    refine xx_goto (q := 63) rfl rfl ?_
    refine ih k (by omega) _ _ (by omega) (by omega) h3 (fun E l2 g1 g2 g3 => kx E l2 (fun x q1 q2 => ?_) (fun x q => ?_) (fun a x q => (g3 a x q).trans (xui_a q)))
    · rcases Classical.em ((x : Int) = l) with e | e
      · rw [g2 (125 * u + x) (by omega)]
        rw [show (125 * (u : Int) + l).toNat = 125 * u + x by omega, xui_s, show l.toNat = x by omega]
      · rw [g1 x q1 (by omega), xui_a (by omega)]
    · rw [g2 x (by omega), xui_j (by omega)]
theorem RW_eq {K : KK} {b : Int} {f g : Nat → Int} (h : RW K b f) (e : ∀ j, j < 125 → g j = f j) (h6 : K 13 0 ≤ 6) : RW K b g := by
  obtain ⟨a1, a2, a3, a4, a5, a6, a7, a8, a9, a10, a11⟩ := h
  exact ⟨(e _ (by omega)).trans a1, (e _ (by omega)).trans a2, (e _ (by omega)).trans a3, (e _ (by omega)).trans a4, fun i hi => (e _ (by omega)).trans (a5 i hi), fun i hi => (e _ (by omega)).trans (a6 i hi), fun i hi => (e _ (by omega)).trans (a7 i hi), fun i hi => (e _ (by omega)).trans (a8 i hi), fun i hi => (e _ (by omega)).trans (a9 i hi), fun i hi => (e _ (by omega)).trans (a10 i hi), fun i hi => (e _ (by omega)).trans (a11 i hi)⟩
theorem RU_keep {K : KK} {b : Int} {U : UU} {D E F : KK} {u : Nat} (hI : KI K) (hb : 0 ≤ b ∧ b ≤ 150) (h : RU U D) (hr : RW K b (D 480)) (hu : u = U.length ∨ (U.length = 10 ∧ u = 9)) (hu9 : u ≤ 9) (hE : (u = U.length ∧ ∀ x, E 481 x = D 481 x) ∨ (U.length = 10 ∧ ∀ x : Nat, x < 1125 → E 481 x = D 481 (x + 125))) (hF : ∀ x : Nat, x < 125 → F 481 (125 * u + x) = D 480 x) (hF2 : ∀ x : Nat, x < 125 * u → F 481 x = E 481 x) (hF3 : F 479 3 = (u : Int) + 1) : RU (kepU K b U) F := by
  obtain ⟨h1, h2, h3⟩ := h
  have hlen : (kepU K b U).length = u + 1 := by
    unfold kepU
    rw [List.length_take, List.length_cons]
    omega
  refine ⟨by omega, by rw [hF3, hlen]; omega, fun i w hi => ?_⟩
  have hi10 : i < u + 1 := by
    have := (List.getElem?_eq_some_iff.mp hi).1
    omega
  rw [hlen]
  unfold kepU at hi
  rw [List.getElem?_take, if_pos (by omega)] at hi
  cases i with
  | zero =>
    obtain rfl : (K, b) = w := Option.some.inj hi
    exact ⟨hI, hb, RW_eq hr (fun j hj => by
      show F 481 (125 * (u + 1 - 1 - 0) + j) = _
      rw [show 125 * (u + 1 - 1 - 0) + j = 125 * u + j by omega]
      exact hF j hj) (ki_B hI).2⟩
  | succ i =>
    have hi2 : U[i]? = some w := hi
    obtain ⟨q1, q2, q3⟩ := h3 i w hi2
    refine ⟨q1, q2, RW_eq q3 (fun j hj => ?_) (ki_B q1).2⟩
    show F 481 (125 * (u + 1 - 1 - (i + 1)) + j) = D 481 (125 * (U.length - 1 - i) + j)
    rw [hF2 _ (by omega)]
    rcases hE with ⟨e1, e2⟩ | ⟨e1, e2⟩
    · rw [e2]
      congr 1
      omega
    · rw [e2 _ (by omega)]
      congr 1
      omega
theorem r_keep_F {t : Int} {K : KK} {b : Int} {B : Nat → Int} {U : UU} {D0 D E F : KK} {u : Nat} (hV : RV t K b B U D0 D) (hI : KI K) (ht : t = 0) (hu : u = U.length ∨ (U.length = 10 ∧ u = 9)) (hu9 : u ≤ 9) (hE : (u = U.length ∧ ∀ x, E 481 x = D 481 x) ∨ (U.length = 10 ∧ ∀ x : Nat, x < 1125 → E 481 x = D 481 (x + 125))) (hF : ∀ x : Nat, x < 125 → F 481 (125 * u + x) = D 480 x) (hF2 : ∀ x : Nat, x < 125 * u → F 481 x = E 481 x) (hF4 : ∀ a x, a ≠ 481 → (a = 479 → x ≠ 3) → F a x = D a x) : RV t K b B (tU t K b U) D0 (xui F 479 3 ((u : Int) + 1)) := by
  have e : tU t K b U = kepU K b U := if_pos ht
  rw [e]
  have g : ∀ a x, a ≠ 481 → (a = 479 → x ≠ 3) → xui F 479 3 ((u : Int) + 1) a x = D a x := fun a x q1 q2 => (show xui F 479 3 ((u : Int) + 1) a x = F a x from if_neg (fun r => q2 r.1 r.2)).trans (hF4 a x q1 q2)
  refine ⟨?_, hV.2.1.up (fun a k h1 h2 h3 h4 h5 h6 => g a k h2 h6) (fun _ _ _ => rfl), (g 479 5 (by omega) (by omega)).trans hV.2.2.1, hV.2.2.2.1, fun k hk => (g 496 k (by omega) (by omega)).trans (hV.2.2.2.2.1 k hk), ?_, fun a k h1 h2 h3 h4 h5 h6 => (g a k h2 h6).trans (hV.2.2.2.2.2.2 a k h1 h2 h3 h4 h5 h6)⟩
  · rw [show xui F 479 3 ((u : Int) + 1) 480 = D 480 from funext (fun k => g 480 k (by omega) (by omega))]
    exact hV.1
  · exact RU_keep hI hV.2.2.2.1 hV.2.2.2.2.2.1 hV.1 hu hu9 hE (fun x q => (xui_a (by omega)).trans (hF x q)) (fun x q => (xui_a (by omega)).trans (hF2 x q)) xui_s
set_option maxHeartbeats 1000000 in
theorem r_keep_E {n : Nat} {R : Nat → Nat → Option Nat} {F : KK} {P : KK → Prop} (hR : RF R) (l : Int) {u : Nat} (hu : F 479 3 = (u : Int)) (hu9 : u ≤ 9) (hP : P (xui F 479 3 ((u : Int) + 1))) : XX (XC 0) 164 (XP none (xS n) R P) 95 [some (.inr (some 479)), some (.inl l)] [] (xS n, R, F) := by
  refine xx_aload_n (q := 96) rfl rfl rfl ?_
  refine xx_aload_n (q := 97) rfl rfl rfl ?_
  refine xx_gez (q := 100) rfl rfl rfl xS_479 (Nat.le_of_ble_eq_true rfl) rfl hu ?_
  refine xx_iconst (q := 101) rfl rfl (by decide) ?_
  refine xx_iaddR (q := 102) rfl rfl (by omega) (by omega) ?_
  refine xx_puz (q := 105) rfl rfl rfl xS_479 (Nat.le_of_ble_eq_true rfl) (Nat.le_of_ble_eq_true rfl) (fun h => by cases h) (Or.inl rfl) rfl ?_
  exact xx_vret rfl rfl ⟨rfl, _, rfl, hP⟩
set_option maxHeartbeats 1000000 in
theorem r_keepsAhead {n : Nat} {R : Nat → Nat → Option Nat} {t : Int} {K D0 D : KK} {b : Int} {B : Nat → Int} {U : UU} (hR : RF R) (hV : RV t K b B U D0 D) (hI : KI K) : ∃ D', XC 1 164 [.inr (some 479)] (xS n, R, D) none (xS n, R, D') ∧ RV t K b B (tU t K b U) D0 D' := by
  have hU10 := hV.2.2.2.2.2.1.1
  refine XE_of (Nat.le_of_ble_eq_true rfl) (Nat.le_of_ble_eq_true rfl) (loc := [_, _]) rfl ?_
  refine xx_aload_n (q := 1) rfl rfl rfl ?_
  refine xx_gez (q := 4) rfl rfl rfl xS_479 (Nat.le_of_ble_eq_true rfl) rfl (rv_t hV) ?_
  refine xx_if_eq (q := 8) (q2 := 7) rfl rfl rfl (fun h4 => ?_) (fun h4 => ?_)
  · refine xx_aload_n (q := 9) rfl rfl rfl ?_
    refine xx_gez (q := 12) rfl rfl rfl xS_479 (Nat.le_of_ble_eq_true rfl) rfl hV.2.2.2.2.2.1.2.1 ?_
    refine xx_bipush (q := 14) rfl rfl (by decide) ?_
    refine xx_icmp_ne (q := 61) (q2 := 17) rfl rfl rfl (fun h14 => ?_) (fun h14 => ?_)
    · refine xx_iconst (q := 62) rfl rfl (by decide) ?_
      refine xx_istore_n (q := 63) (loc2 := [_, _]) rfl rfl (Nat.le_of_ble_eq_true rfl) rfl ?_
      refine r_keep_C hR U.length (by omega) 125 D 0 (by omega) (by omega) hV.2.2.2.2.2.1.2.1 (fun E l2 g1 g2 g3 => ?_)
      exact r_keep_E hR _ ((g3 479 3 (by omega)).trans hV.2.2.2.2.2.1.2.1) (by omega) (r_keep_F hV hI h4 (u := U.length) (E := D) (F := E) (Or.inl rfl) (by omega) (Or.inl ⟨rfl, fun x => rfl⟩) (fun x q => g1 x q (by omega)) (fun x q => g2 x (by omega)) (fun a x q _ => g3 a x q))
    · refine xx_aload_n (q := 18) rfl rfl rfl ?_
      refine xx_aload_n (q := 19) rfl rfl rfl ?_
      refine xx_gez (q := 22) rfl rfl rfl xS_479 (Nat.le_of_ble_eq_true rfl) rfl hV.2.2.2.2.2.1.2.1 ?_
      refine xx_iconst (q := 23) rfl rfl (by decide) ?_
      refine xx_isubR (q := 24) rfl rfl (by omega) (by omega) ?_
      refine xx_puz (q := 27) rfl rfl rfl xS_479 (Nat.le_of_ble_eq_true rfl) (Nat.le_of_ble_eq_true rfl) (fun h => by cases h) (Or.inl rfl) rfl ?_
      refine xx_iconst (q := 28) rfl rfl (by decide) ?_
      refine xx_istore_n (q := 29) (loc2 := [_, _]) rfl rfl (Nat.le_of_ble_eq_true rfl) rfl ?_
      have hu10 : U.length = 10 := by omega
      have hu9 : (U.length : Int) - 1 = ((9 : Nat) : Int) := by omega
      rw [hu9]
      refine r_keep_S hR 1125 _ 0 (by omega) (by omega) rfl (fun E l2 g1 g2 g3 => ?_)
      refine xx_iconst (q := 62) rfl rfl (by decide) ?_
      refine xx_istore_n (q := 63) (loc2 := [_, _]) rfl rfl (Nat.le_of_ble_eq_true rfl) rfl ?_
      refine r_keep_C hR 9 (by omega) 125 E 0 (by omega) (by omega) ((g3 479 3 (by omega)).trans xui_s) (fun F l3 f1 f2 f3 => ?_)
      exact r_keep_E hR _ ((f3 479 3 (by omega)).trans ((g3 479 3 (by omega)).trans xui_s)) (by omega) (r_keep_F hV hI h4 (u := 9) (E := E) (F := F) (Or.inr ⟨hu10, rfl⟩) (by omega) (Or.inr ⟨hu10, fun x q => (g1 x q (by omega)).trans (xui_a (by omega))⟩) (fun x q => (f1 x q (by omega)).trans ((g3 480 x (by omega)).trans (xui_a (by omega)))) (fun x q => f2 x (by omega)) (fun a x q q2 => (f3 a x q).trans ((g3 a x q).trans (if_neg (fun r => q2 r.1 r.2)))))
  · refine xx_vret rfl rfl ⟨rfl, _, rfl, ?_⟩
    have e : tU t K b U = U := if_neg h4
    rw [e]
    exact hV
