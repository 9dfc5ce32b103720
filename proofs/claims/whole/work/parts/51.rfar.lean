/-! The reference in thought: how far; a row of presents. -/
theorem rpb_1 {K : KK} {G : LwF} {boat up wth b : Int} : rpb 1 K G boat up wth b = b := by
  unfold rpb tb
  split
  · rfl
  · rfl
theorem rpB_1 {K : KK} {G : LwF} {boat up wth b : Int} {B : Nat → Int} : rpB 1 K G boat up wth b B = B := by
  unfold rpB tB
  split
  · rfl
  · rfl
theorem rpU_1 {K : KK} {G : LwF} {boat up wth b : Int} {U : UU} : rpU 1 K G boat up wth b U = U := by
  unfold rpU tU
  split
  · rfl
  · rfl
def mesF (K : KK) (boat up : Int) : Int := if up = 0 then K 0 0 - K 14 boat.toNat else K 14 boat.toNat
theorem lck_e {K : KK} {p up : Int} (h : 0 ≤ lckF K p up) : (up = 0 ∧ lckF K p up = p ∧ p < K 0 0) ∨ (¬ up = 0 ∧ lckF K p up = p - 1 ∧ 1 ≤ p) := by grind [lckF]
theorem pasK_14 {K : KK} {boat up : Int} : pasK K boat up (-1) 14 boat.toNat = (if up = 0 then lckF K (K 14 boat.toNat) up + 1 else lckF K (K 14 boat.toNat) up) := by
  unfold pasK
  rw [xui_a (by decide), if_pos rfl]
  exact xui_s
theorem mes_s {K : KK} {G : LwF} {boat up : Int} (h : ¬ pasR K G boat up (-1) < 0) : 1 ≤ mesF K boat up ∧ mesF (pasT K G boat up (-1)) boat up = mesF K boat up - 1 := by
  have h0 : refF K G boat up (-1) = 0 := Classical.not_not.mp (fun q => h (pasR_lt.mpr q))
  have h1 := refF_0 h0
  have h2 := lck_e h1.2.1.1
  have h3 : pasT K G boat up (-1) = pasK K boat up (-1) := if_pos h0
  have h4 := pasT_k (K := K) (G := G) (boat := boat) (up := up) (wth := -1) (o := 0) (Or.inl rfl)
  unfold mesF
  rw [h4, h3, pasK_14]
  rcases h2 with ⟨q1, q2, q3⟩ | ⟨q1, q2, q3⟩
  · rw [if_pos q1, if_pos q1, if_pos q1]; omega
  · rw [if_neg q1, if_neg q1, if_neg q1]; omega
theorem mes_9 {K : KK} {boat up : Int} (h : KI K) : mesF K boat up ≤ 9 := by
  have h1 := ki_L h
  have h2 := ki_14 h boat.toNat
  unfold mesF
  split <;> omega
theorem pasT_n {K : KK} {G : LwF} {boat up wth : Int} (h : pasR K G boat up wth < 0) : pasT K G boat up wth = K := if_neg (pasR_lt.mp h)
theorem farL_n {G : LwF} {boat up : Int} {k : Nat} {K : KK} {w g : Int} (h : w < 0) : farL G boat up k K w g = (g, w, K) := by
  cases k with
  | zero => rfl
  | succ k => exact if_pos h
set_option maxHeartbeats 1000000 in
theorem r_far_L {n : Nat} {R : Nat → Nat → Option Nat} {K D0 S : KK} {b : Int} {B : Nat → Int} {U : UU} (hR : RF R) {G : LwF} (hG : RLG G n R D0) (boat up : Int) (hb0 : 0 ≤ boat) : ∀ (k : Nat) (L D : KK) (g : Int) (x : Option XV), RT K b B U L D0 D → KI L → boat < L 13 0 → D 479 54 = 0 → (∀ x k, 510 ≤ x → (x = 479 → k ≠ 54 ∧ k ≠ 3 ∧ k ≠ 5 ∧ k ≠ 6 ∧ k ≠ 7) → D x k = S x k) → mesF L boat up ≤ k → 0 ≤ g → g + k = 9 → XX (XC 8) 263 (XP (some (.inl (farL G boat up k (pasT L G boat up (-1)) (pasR L G boat up (-1)) g).1)) (xS n) R (fun D' => RT K b B U (farL G boat up k (pasT L G boat up (-1)) (pasR L G boat up (-1)) g).2.2 D0 D' ∧ (∀ x k, 510 ≤ x → (x = 479 → k ≠ 54 ∧ k ≠ 3 ∧ k ≠ 5 ∧ k ≠ 6 ∧ k ≠ 7) → D' x k = S x k) ∧ D' 479 54 = (farL G boat up k (pasT L G boat up (-1)) (pasR L G boat up (-1)) g).2.1)) 7 [some (.inr (some 479)), some (.inl boat), some (.inl up), some (.inl g), x] [] (xS n, R, D) := by
  intro k
  induction k using Nat.strongRecOn with
  | ind k ih =>
  intro L D g x hT hI hb1 hw0 hS hm h1 hk
  refine xx_aload_n (q := 8) rfl rfl rfl ?_
  refine xx_gez (q := 11) rfl rfl rfl xS_479 (Nat.le_of_ble_eq_true rfl) rfl hw0 ?_
  refine xx_if_ne (q := 44) (q2 := 14) rfl rfl rfl (fun h11 => (by exfalso; omega)) (fun _ => ?_)
  refine xx_aload_n (q := 15) rfl rfl rfl ?_
  refine xx_iload_n (q := 16) rfl rfl rfl ?_
  refine xx_iload_n (q := 17) rfl rfl rfl ?_
  refine xx_iconst (q := 18) rfl rfl (by decide) ?_
  obtain ⟨D1, hx1, hv1⟩ := r_passes (n := n) hR hT.1 hI (RLG.fr hG hT.law) boat up (-1) (by omega) hb1
  rw [rpb_1, rpB_1, rpU_1] at hv1
  have hT1 := hT.step hv1
  have hI1 : KI (pasT L G boat up (-1)) := pasT_I hI
  refine xx_callV (q := 21) (As := [_, _, _]) (rest := []) rfl rfl rfl (Or.inl rfl) rfl rfl (Nat.le_of_ble_eq_true rfl) xS_479 (XCm hx1 rfl) rfl ?_
  refine xx_istore (q := 23) (loc2 := [_, _, _, _, _]) rfl rfl (Nat.le_of_ble_eq_true rfl) rfl ?_
  refine xx_iload (q := 25) rfl rfl rfl ?_
  refine xx_if_lt (q := 35) (q2 := 28) rfl rfl rfl (fun h25 => ?_) (fun h25 => ?_)
  · refine xx_aload_n (q := 36) rfl rfl rfl ?_
    refine xx_iload (q := 38) rfl rfl rfl ?_
    refine xx_puz (q := 41) rfl rfl rfl xS_479 (Nat.le_of_ble_eq_true rfl) (Nat.le_of_ble_eq_true rfl) (fun h => by cases h) (Or.inl rfl) rfl ?_
    refine xx_goto (q := 7) rfl rfl ?_
    refine xx_aload_n (q := 8) rfl rfl rfl ?_
    refine xx_gez (q := 11) rfl rfl rfl xS_479 (Nat.le_of_ble_eq_true rfl) rfl xui_s ?_
    refine xx_if_ne (q := 44) (q2 := 14) rfl rfl rfl (fun _ => ?_) (fun h11_3 => (by exfalso; omega))
    refine xx_iload_n (q := 45) rfl rfl rfl ?_
    rw [farL_n h25, pasT_n h25]
    refine xx_iret rfl trivial ⟨rfl, _, rfl, RT.scr (by have h := hT1; rw [pasT_n h25] at h; exact h) (fun x k h1 h2 => if_neg (fun r => by have := h1 r.1; omega)), ?_, xui_s⟩
    exact fun x k h1 h2 => (show xui D1 479 54 _ x k = D1 x k from if_neg (fun r => by have := h2 r.1; omega)).trans ((hv1.2.2.2.2.2.2 x k (by omega) (by omega) (by omega) (by omega) (by omega) (by omega)).trans (hS x k h1 h2))
  · refine xx_iload_n (q := 29) rfl rfl rfl ?_
    refine xx_iconst (q := 30) rfl rfl (by decide) ?_
    refine xx_iaddR (q := 31) rfl rfl (by omega) (by omega) ?_
    refine xx_istore_n (q := 32) (loc2 := [_, _, _, _, _]) rfl rfl (Nat.le_of_ble_eq_true rfl) rfl ?_
    refine xx_goto (q := 41) rfl rfl ?_
    refine xx_goto (q := 7) rfl rfl ?_
    have hms := mes_s (K := L) (G := G) (boat := boat) (up := up) (by omega)
    obtain ⟨k, rfl⟩ : ∃ k2, k = k2 + 1 := ⟨k - 1, by omega⟩
    rw [show farL G boat up (k + 1) (pasT L G boat up (-1)) (pasR L G boat up (-1)) g = farL G boat up k (pasT (pasT L G boat up (-1)) G boat up (-1)) (pasR (pasT L G boat up (-1)) G boat up (-1)) (g + 1) from if_neg (by omega)]
    exact ih k (by omega) _ _ _ _ hT1 hI1 (by rw [pasT_k (Or.inr rfl)]; exact hb1) ((hv1.2.2.2.2.2.2 479 54 (by omega) (by omega) (by omega) (by omega) (by omega) (by omega)).trans hw0) (fun x k q1 q2 => (hv1.2.2.2.2.2.2 x k (by omega) (by omega) (by omega) (by omega) (by omega) (by omega)).trans (hS x k q1 q2)) (by omega) (by omega) (by omega)
set_option maxHeartbeats 1000000 in
theorem r_goesFar {n : Nat} {R : Nat → Nat → Option Nat} {K L D0 D : KK} {b : Int} {B : Nat → Int} {U : UU} (hR : RF R) (hT : RT K b B U L D0 D) (hI : KI L) {G : LwF} (hG : RLG G n R D0) (boat up : Int) (hb0 : 0 ≤ boat) (hb1 : boat < L 13 0) : ∃ D', XC 9 263 [.inr (some 479), .inl boat, .inl up] (xS n, R, D) (some (.inl ((farF L G boat up).1))) (xS n, R, D') ∧ RT K b B U (farF L G boat up).2.2 D0 D' ∧ (∀ x k, 510 ≤ x → D' x k = D x k) ∧ D' 479 54 = (farF L G boat up).2.1 := by
  refine XE_of (Nat.le_of_ble_eq_true rfl) (Nat.le_of_ble_eq_true rfl) (loc := [_, _, _, _, _]) rfl ?_
  refine xx_iconst (q := 1) rfl rfl (by decide) ?_
  refine xx_istore_n (q := 2) (loc2 := [_, _, _, _, _]) rfl rfl (Nat.le_of_ble_eq_true rfl) rfl ?_
  refine xx_aload_n (q := 3) rfl rfl rfl ?_
  refine xx_iconst (q := 4) rfl rfl (by decide) ?_
  refine xx_puz (q := 7) rfl rfl rfl xS_479 (Nat.le_of_ble_eq_true rfl) (Nat.le_of_ble_eq_true rfl) (fun h => by cases h) (Or.inl rfl) rfl ?_
  refine XP_mono (fun D2 h => ⟨h.1, fun x k q => h.2.1 x k q (by omega), h.2.2⟩) (r_far_L (S := D) hR hG boat up hb0 9 L _ 0 _ (hT.scr (fun x k h1 h2 => if_neg (fun r => by have := h1 r.1; omega))) hI hb1 xui_s (fun x k q1 q2 => xui_a (by omega)) (mes_9 hI) (by omega) (by omega))
