/-! The reference in thought. -/
def restR (b k : Nat) : Prop := b < 479 ∨ (b = 479 ∧ (k = 6 ∨ k = 7 ∨ k = 16 ∨ k = 24 ∨ k = 44 ∨ k = 45 ∨ k = 47 ∨ k = 63)) ∨ (483 ≤ b ∧ b ≤ 495) ∨ (497 ≤ b ∧ b ≤ 507) ∨ b = 515
def FZ (D E : KK) : Prop := ∀ b k, restR b k → E b k = D b k
theorem FZ.rf {D : KK} : FZ D D := fun _ _ _ => rfl
theorem FZ.trans {D E F : KK} (h : FZ D E) (g : FZ E F) : FZ D F := fun b k q => (g b k q).trans (h b k q)
theorem FV.fz {D E : KK} (h : FV D E) : FZ D E := fun b k q => by unfold restR at q; exact h b k (by omega) (by omega) (by omega) (by omega) (by omega) (by omega)
theorem FW.fz {D E : KK} (h : FW D E) : FZ D E := fun b k q => by unfold restR at q; exact h b k (by omega) (by omega) (by omega) (by omega) (by omega) (by omega)
theorem RCf.fz {K D E : KK} (h : RCf K D) (g : FZ D E) : RCf K E := by
  obtain ⟨h0, h1, h2, h3, h4, h5, h6, h7, h8, h9⟩ := h
  have q : ∀ b k, (b = 479 ∧ (k = 6 ∨ k = 7)) ∨ (483 ≤ b ∧ b ≤ 495) → E b k = D b k := fun b k q => g b k (by unfold restR; omega)
  exact ⟨(q _ _ (by omega)).trans h0, (q _ _ (by omega)).trans h1, fun i hi => (q _ _ (by omega)).trans (h2 i hi), fun i hi => (q _ _ (by omega)).trans (h3 i hi), fun i hi => (q _ _ (by omega)).trans (h4 i hi), fun i hi => (q _ _ (by omega)).trans (h5 i hi), fun i hi => (q _ _ (by omega)).trans (h6 i hi), fun i hi => (q _ _ (by omega)).trans (h7 i hi), fun i hi => (q _ _ (by omega)).trans (h8 i hi), fun i hi => (q _ _ (by omega)).trans (h9 i hi)⟩
/-- K stands in the row that waits, L is thought -/
def RT (K : KK) (b : Int) (B : Nat → Int) (U : UU) (L D0 D : KK) : Prop := RV 1 L b B U D D ∧ RCf K D ∧ RW K b (D 482) ∧ FZ D0 D
theorem RT.step {K L M : KK} {b : Int} {B : Nat → Int} {U : UU} {D0 D E : KK} (h : RT K b B U L D0 D) (g : RV 1 M b B U D E) : RT K b B U M D0 E := ⟨g.me, h.2.1.fz g.2.2.2.2.2.2.fz, by rw [show E 482 = D 482 from funext (fun k => g.2.2.2.2.2.2 482 k (by omega) (by omega) (by omega) (by omega) (by omega) (by omega))]; exact h.2.2.1, h.2.2.2.trans g.2.2.2.2.2.2.fz⟩
/-- other scratch changes -/
theorem RT.scr {K L : KK} {b : Int} {B : Nat → Int} {U : UU} {D0 D E : KK} (h : RT K b B U L D0 D) (g : ∀ x k, (x = 479 → k = 3 ∨ k = 5 ∨ k = 6 ∨ k = 7 ∨ k = 16 ∨ k = 24 ∨ k = 44 ∨ k = 45 ∨ k = 47 ∨ k = 63) → (x < 510 ∨ x = 515) → E x k = D x k) : RT K b B U L D0 E := by
  have hz : FZ D E := fun b k q => by unfold restR at q; exact g b k (by omega) (by omega)
  exact ⟨h.1.self (fun x k h1 h2 h3 => g x k (by omega) (by omega)), h.2.1.fz hz, by rw [show E 482 = D 482 from funext (fun k => g 482 k (by omega) (by omega))]; exact h.2.2.1, h.2.2.2.trans hz⟩
theorem RT.law {K L : KK} {b : Int} {B : Nat → Int} {U : UU} {D0 D : KK} (h : RT K b B U L D0 D) : ∀ x k, 499 ≤ x → x ≤ 505 → D x k = D0 x k := fun x k h1 h2 => h.2.2.2 x k (by unfold restR; omega)
set_option maxHeartbeats 1000000 in
theorem r_think_L {n : Nat} {R : Nat → Nat → Option Nat} {Q : XQ} (hR : RF R) : ∀ (k : Nat) (D : KK) (l : Int), 0 ≤ l → l + k = 125 → (∀ E l2, (∀ x : Nat, x < 125 → l ≤ (x : Int) → E 482 x = D 480 x) → (∀ x : Nat, (x : Int) < l → E 482 x = D 482 x) → (∀ a x, a ≠ 482 → E a x = D a x) → XX (XC 0) 166 Q 26 [some (.inr (some 479)), some (.inl l2)] [] (xS n, R, E)) → XX (XC 0) 166 (Q) 2 [some (.inr (some 479)), some (.inl l)] [] (xS n, R, D) := by
  intro k
  induction k using Nat.strongRecOn with
  | ind k ih =>
  intro D l h1 hk kx
  refine xx_iload_n (q := 3) rfl rfl rfl ?_
  refine xx_bipush (q := 5) rfl rfl (by decide) ?_
  refine xx_icmp_ge (q := 26) (q2 := 8) rfl rfl rfl (fun h5 => ?_) (fun h5 => ?_)
  · obtain rfl : k = 0 := by omega
    exact kx D _ (fun x q1 q2 => by omega) (fun x q => rfl) (fun a x q => rfl)
  · obtain ⟨k, rfl⟩ : ∃ k2, k = k2 + 1 := ⟨k - 1, by omega⟩
    refine xx_aload_n (q := 9) rfl rfl rfl ?_
    refine xx_getR (q := 12) rfl rfl rfl xS_479 (Nat.le_of_ble_eq_true rfl) rfl (hR.1 479 4 rfl) ?_
    refine xx_iload_n (q := 13) rfl rfl rfl ?_
    refine xx_aload_n (q := 14) rfl rfl rfl ?_
    refine xx_getR (q := 17) rfl rfl rfl xS_479 (Nat.le_of_ble_eq_true rfl) rfl (hR.1 479 1 rfl) ?_
    refine xx_iload_n (q := 18) rfl rfl rfl ?_
    refine xx_iaz (q := 19) rfl rfl xS_480 (by omega) (by omega) rfl ?_
    refine xx_isz (q := 20) rfl rfl xS_482 (by omega) (by omega) rfl ?_
    refine xx_incz (q := 23) (loc2 := [_, _]) rfl rfl rfl (by omega) (by omega) rfl rfl ?_
    refine xx_goto (q := 2) rfl rfl ?_
    refine ih k (by omega) _ _ (by omega) (by omega) (fun E l2 g1 g2 g3 => kx E l2 (fun x q1 q2 => ?_) (fun x q => ?_) (fun a x q => (g3 a x q).trans (xui_a q)))
    · rcases Classical.em ((x : Int) = l) with e | e
      · rw [g2 x (by omega), show l.toNat = x by omega, xui_s]
      · rw [g1 x q1 (by omega), xui_a (by omega)]
    · rw [g2 x (by omega), xui_j (by omega)]
theorem RV.t {t s : Int} {K : KK} {b : Int} {B : Nat → Int} {U : UU} {D0 D E : KK} (h : RV t K b B U D0 D) (g : ∀ x k, x ≠ 482 → (x = 479 → k ≠ 5) → E x k = D x k) (hs : E 479 5 = s) : RV s K b B U E E := by
  refine ⟨by rw [show E 480 = D 480 from funext (fun k => g _ _ (by omega) (by omega))]; exact h.1, h.2.1.fz (fun b k q => by unfold restR at q; exact g b k (by omega) (by omega)), hs, h.2.2.2.1, fun k hk => (g _ _ (by omega) (by omega)).trans (h.2.2.2.2.1 k hk), h.2.2.2.2.2.1.up (fun k => g _ _ (by omega) (by omega)) (g _ _ (by omega) (by omega)), FV.rf⟩
theorem r_thinks {n : Nat} {R : Nat → Nat → Option Nat} {t : Int} {K D0 D : KK} {b : Int} {B : Nat → Int} {U : UU} (hR : RF R) (hV : RV t K b B U D0 D) (hI : KI K) : ∃ D', XC 1 166 [.inr (some 479)] (xS n, R, D) none (xS n, R, D') ∧ RT K b B U K D D' := by
  refine XE_of (Nat.le_of_ble_eq_true rfl) (Nat.le_of_ble_eq_true rfl) (loc := [_, _]) rfl ?_
  refine xx_iconst (q := 1) rfl rfl (by decide) ?_
  refine xx_istore_n (q := 2) (loc2 := [_, _]) rfl rfl (Nat.le_of_ble_eq_true rfl) rfl ?_
  refine r_think_L hR 125 D 0 (by omega) (by omega) (fun E l2 g1 g2 g3 => ?_)
  refine xx_aload_n (q := 27) rfl rfl rfl ?_
  refine xx_iconst (q := 28) rfl rfl (by decide) ?_
  refine xx_puz (q := 31) rfl rfl rfl xS_479 (Nat.le_of_ble_eq_true rfl) (Nat.le_of_ble_eq_true rfl) (fun h => by cases h) (Or.inr ⟨rfl, by omega⟩) rfl ?_
  refine xx_vret rfl rfl ⟨rfl, _, rfl, ?_⟩
  have hg : ∀ a x, a ≠ 482 → (a = 479 → x ≠ 5) → xui E 479 5 1 a x = D a x := fun a x q1 q2 => (show xui E 479 5 1 a x = E a x from if_neg (fun r => q2 r.1 r.2)).trans (g3 a x q1)
  have hz : FZ D (xui E 479 5 1) := fun b k q => by unfold restR at q; exact hg b k (by omega) (by omega)
  exact ⟨hV.t hg xui_s, hV.2.1.fz hz, RW_eq hV.1 (fun j hj => (xui_a (by omega)).trans (g1 j hj (by omega))) (ki_B hI).2, hz⟩
set_option maxHeartbeats 1000000 in
theorem r_anew_L {n : Nat} {R : Nat → Nat → Option Nat} {Q : XQ} (hR : RF R) : ∀ (k : Nat) (D : KK) (l : Int), 0 ≤ l → l + k = 125 → (∀ E l2, (∀ x : Nat, x < 125 → l ≤ (x : Int) → E 480 x = D 482 x) → (∀ x : Nat, (x : Int) < l → E 480 x = D 480 x) → (∀ a x, a ≠ 480 → E a x = D a x) → XX (XC 0) 167 Q 26 [some (.inr (some 479)), some (.inl l2)] [] (xS n, R, E)) → XX (XC 0) 167 (Q) 2 [some (.inr (some 479)), some (.inl l)] [] (xS n, R, D) := by
  intro k
  induction k using Nat.strongRecOn with
  | ind k ih =>
  intro D l h1 hk kx
  refine xx_iload_n (q := 3) rfl rfl rfl ?_
  refine xx_bipush (q := 5) rfl rfl (by decide) ?_
  refine xx_icmp_ge (q := 26) (q2 := 8) rfl rfl rfl (fun h5 => ?_) (fun h5 => ?_)
  · obtain rfl : k = 0 := by omega
    exact kx D _ (fun x q1 q2 => by omega) (fun x q => rfl) (fun a x q => rfl)
  · obtain ⟨k, rfl⟩ : ∃ k2, k = k2 + 1 := ⟨k - 1, by omega⟩
    refine xx_aload_n (q := 9) rfl rfl rfl ?_
    refine xx_getR (q := 12) rfl rfl rfl xS_479 (Nat.le_of_ble_eq_true rfl) rfl (hR.1 479 1 rfl) ?_
    refine xx_iload_n (q := 13) rfl rfl rfl ?_
    refine xx_aload_n (q := 14) rfl rfl rfl ?_
    refine xx_getR (q := 17) rfl rfl rfl xS_479 (Nat.le_of_ble_eq_true rfl) rfl (hR.1 479 4 rfl) ?_
    refine xx_iload_n (q := 18) rfl rfl rfl ?_
    refine xx_iaz (q := 19) rfl rfl xS_482 (by omega) (by omega) rfl ?_
    refine xx_isz (q := 20) rfl rfl xS_480 (by omega) (by omega) rfl ?_
    refine xx_incz (q := 23) (loc2 := [_, _]) rfl rfl rfl (by omega) (by omega) rfl rfl ?_
    refine xx_goto (q := 2) rfl rfl ?_
    refine ih k (by omega) _ _ (by omega) (by omega) (fun E l2 g1 g2 g3 => kx E l2 (fun x q1 q2 => ?_) (fun x q => ?_) (fun a x q => (g3 a x q).trans (xui_a q)))
    · rcases Classical.em ((x : Int) = l) with e | e
      · rw [g2 x (by omega), show l.toNat = x by omega, xui_s]
      · rw [g1 x q1 (by omega), xui_a (by omega)]
    · rw [g2 x (by omega), xui_j (by omega)]
theorem r_thinksAnew {n : Nat} {R : Nat → Nat → Option Nat} {K L D0 D : KK} {b : Int} {B : Nat → Int} {U : UU} (hR : RF R) (hT : RT K b B U L D0 D) (hI : KI K) : ∃ D', XC 1 167 [.inr (some 479)] (xS n, R, D) none (xS n, R, D') ∧ RT K b B U K D0 D' ∧ ∀ a x, a ≠ 480 → D' a x = D a x := by
  refine XE_of (Nat.le_of_ble_eq_true rfl) (Nat.le_of_ble_eq_true rfl) (loc := [_, _]) rfl ?_
  refine xx_iconst (q := 1) rfl rfl (by decide) ?_
  refine xx_istore_n (q := 2) (loc2 := [_, _]) rfl rfl (Nat.le_of_ble_eq_true rfl) rfl ?_
  refine r_anew_L hR 125 D 0 (by omega) (by omega) (fun E l2 g1 g2 g3 => ?_)
  refine xx_vret rfl rfl ⟨rfl, _, rfl, ?_⟩
  have hz : FZ D E := fun b k q => by unfold restR at q; exact g3 b k (by omega)
  refine ⟨?_, g3⟩
  exact ⟨⟨RW_eq hT.2.2.1 (fun j hj => g1 j hj (by omega)) (ki_B hI).2, hT.2.1.fz hz, (g3 _ _ (by omega)).trans hT.1.2.2.1, hT.1.2.2.2.1, fun k hk => (g3 _ _ (by omega)).trans (hT.1.2.2.2.2.1 k hk), hT.1.2.2.2.2.2.1.up (fun k => g3 _ _ (by omega)) (g3 _ _ (by omega)), FV.rf⟩, hT.2.1.fz hz, by rw [show E 482 = D 482 from funext (fun k => g3 _ _ (by omega))]; exact hT.2.2.1, hT.2.2.2.trans hz⟩
theorem r_endsThought {n : Nat} {R : Nat → Nat → Option Nat} {K L D0 D : KK} {b : Int} {B : Nat → Int} {U : UU} (hR : RF R) (hT : RT K b B U L D0 D) (hI : KI K) : ∃ D', XC 2 168 [.inr (some 479)] (xS n, R, D) none (xS n, R, D') ∧ RV 0 K b B U D' D' ∧ FZ D0 D' ∧ ∀ a x, a ≠ 480 → (a = 479 → x ≠ 5) → D' a x = D a x := by
  refine XE_of (Nat.le_of_ble_eq_true rfl) (Nat.le_of_ble_eq_true rfl) (loc := [_]) rfl ?_
  refine xx_aload_n (q := 1) rfl rfl rfl ?_
  obtain ⟨D1, hx1, hT1, hA1⟩ := r_thinksAnew (n := n) hR hT hI
  refine xx_callV (q := 4) (As := []) (rest := []) rfl rfl rfl (Or.inl rfl) rfl rfl (Nat.le_of_ble_eq_true rfl) xS_479 (XCm hx1 rfl) rfl ?_
  refine xx_aload_n (q := 5) rfl rfl rfl ?_
  refine xx_iconst (q := 6) rfl rfl (by decide) ?_
  refine xx_puz (q := 9) rfl rfl rfl xS_479 (Nat.le_of_ble_eq_true rfl) (Nat.le_of_ble_eq_true rfl) (fun h => by cases h) (Or.inr ⟨rfl, by omega⟩) rfl ?_
  refine xx_vret rfl rfl ⟨rfl, _, rfl, ?_, ?_⟩
  · exact hT1.1.t (fun x k q1 q2 => if_neg (fun r => q2 r.1 r.2)) xui_s
  · refine ⟨hT1.2.2.2.trans (fun b k q => if_neg (fun r => by unfold restR at q; omega)), fun a x h1 h2 => ?_⟩
    exact (show xui D1 479 5 0 a x = D1 a x from if_neg (fun r => h2 r.1 r.2)).trans (hA1 a x h1)
