/-! What waits, what settles: the reference. -/
abbrev RgS (bs : List Int) (D0 : KK) (s : Sg) (o : Int) (P : List Int) (D : KK) : Prop := RgO bs D0 s o (some P) D
def nW (w : Int) : List Int → Nat
  | [] => 0
  | a :: P => if a = w then nW w P + 1 else 0
def wtN (op : Int) : Nat → Sg → Sg
  | 0, s => s
  | k + 1, s => wtN op k (wtS op s)
theorem PnR.push {P : List Int} {D : KK} (h : PnR P D) (w : Int) : PnR (w :: P) (xui (xui D 506 P.length w) 479 41 ((P.length : Int) + 1)) := by
  refine ⟨xui_s.trans (by rw [List.length_cons]; omega), fun i hi => ?_⟩
  rw [List.length_cons] at hi ⊢
  rw [xui_a (by omega)]
  cases i with
  | zero => rw [show P.length + 1 - 1 - 0 = P.length by omega]; exact xui_s
  | succ i =>
    rw [xui_j (by omega), show P.length + 1 - 1 - (i + 1) = P.length - 1 - i by omega]
    exact h.2 i (by omega)
theorem PnR.pop {P : List Int} {w : Int} {D E : KK} (h : PnR (w :: P) D) (g : E 479 41 = (P.length : Int)) (g2 : ∀ k, E 506 k = D 506 k) : PnR P E := by
  refine ⟨g, fun i hi => ?_⟩
  have := h.2 (i + 1) (by rw [List.length_cons]; omega)
  rw [List.length_cons, show P.length + 1 - 1 - (i + 1) = P.length - 1 - i by omega] at this
  rw [g2]
  exact this
theorem RgO.pend {bs : List Int} {D0 D E : KK} {s : Sg} {o o2 : Int} {P : Option (List Int)} {P2 : List Int} (h : RgO bs D0 s o P D) (hp : PnR P2 E) (ho : E 479 39 = o2) (g : ∀ x k, (x = 479 → k ≠ 39 ∧ k ≠ 41) → x ≠ 506 → E x k = D x k) : RgS bs D0 s o2 P2 E := by
  obtain ⟨h1, h2, h3, h4, h5, h6, h7, h8⟩ := h
  exact ⟨h1.fr (fun k q => g _ _ (by omega) (by omega)), h2, h3, (g _ _ (by omega) (by omega)).trans h4, fun j hj => ⟨(g _ _ (by omega) (by omega)).trans (h5 j hj).1, (g _ _ (by omega) (by omega)).trans (h5 j hj).2⟩, ho, hp, fun x k q1 q2 q3 => (g x k (by omega) q3).trans (h8 x k q1 q2 q3)⟩
set_option maxHeartbeats 1000000 in
theorem r_waits {n : Nat} {R : Nat → Nat → Option Nat} {D0 D : KK} {bs : List Int} {s : Sg} {o : Int} {P : List Int} (hR : RF R) (hS : RgS bs D0 s o P D) (w : Int) (hl : P.length < 40) : ∃ D', XC 1 209 [.inr (some 479), .inl w] (xS n, R, D) none (xS n, R, D') ∧ RgS bs D0 s o (w :: P) D' := by
  refine XE_of (Nat.le_of_ble_eq_true rfl) (Nat.le_of_ble_eq_true rfl) (loc := [_, _]) rfl ?_
  refine xx_aload_n (q := 1) rfl rfl rfl ?_
  refine xx_getR (q := 4) rfl rfl rfl xS_479 (Nat.le_of_ble_eq_true rfl) rfl (hR.1 479 40 rfl) ?_
  refine xx_aload_n (q := 5) rfl rfl rfl ?_
  refine xx_gez (q := 8) rfl rfl rfl xS_479 (Nat.le_of_ble_eq_true rfl) rfl (hS.2.2.2.2.2.2.1.1) ?_
  refine xx_iload_n (q := 9) rfl rfl rfl ?_
  refine xx_isz (q := 10) rfl rfl xS_506 (by omega) (by omega) rfl ?_
  refine xx_aload_n (q := 11) rfl rfl rfl ?_
  refine xx_aload_n (q := 12) rfl rfl rfl ?_
  refine xx_gez (q := 15) rfl rfl rfl xS_479 (Nat.le_of_ble_eq_true rfl) rfl ((xui_a (by omega)).trans (hS.2.2.2.2.2.2.1.1)) ?_
  refine xx_iconst (q := 16) rfl rfl (by decide) ?_
  refine xx_iaddR (q := 17) rfl rfl (by omega) (by omega) ?_
  refine xx_puz (q := 20) rfl rfl rfl xS_479 (Nat.le_of_ble_eq_true rfl) (Nat.le_of_ble_eq_true rfl) (fun h => by cases h) (Or.inl rfl) rfl ?_
  refine xx_vret rfl rfl ⟨rfl, _, rfl, ?_⟩
  rw [show ((P.length : Nat) : Int).toNat = P.length by omega]
  exact hS.pend (hS.2.2.2.2.2.2.1.push w) ((xui_j (by omega)).trans ((xui_a (by omega)).trans hS.2.2.2.2.2.1)) (fun x k q1 q2 => (if_neg (fun r => by have := q1 r.1; omega)).trans (xui_a q2))
set_option maxHeartbeats 4000000 in
theorem r_st_L {n : Nat} {R : Nat → Nat → Option Nat} {D0 : KK} {bs : List Int} (hR : RF R) (N : Nat) (hN : N ≤ 401) (w op : Int) (hop : opR op = (w, 0)) : ∀ (k : Nat) (P : List Int) (s : Sg) (o : Int) (D : KK), RgS bs D0 s o P D → szS s + P.length ≤ N → P.length = k → P.length ≤ 39 → -1000 ≤ o - P.length → o ≤ 100 → XX (XC 1) 210 (XP none (xS n) R (fun D' => RgS bs D0 (wtN op (nW w P) s) (o - (if w = 9 then (nW w P : Int) else 0)) (P.drop (nW w P)) D')) 0 [some (.inr (some 479)), some (.inl w)] [] (xS n, R, D) := by
  intro k
  induction k using Nat.strongRecOn with
  | ind k ih =>
  intro P s o D hS hz hk hp39 ho0 ho1
  have hoo : D 479 39 = o := hS.2.2.2.2.2.1
  refine xx_aload_n (q := 1) rfl rfl rfl ?_
  refine xx_gez (q := 4) rfl rfl rfl xS_479 (Nat.le_of_ble_eq_true rfl) rfl hS.2.2.2.2.2.2.1.1 ?_
  refine xx_if_le (q := 57) (q2 := 7) rfl rfl rfl (fun h4 => ?_) (fun h4 => ?_)
  · have e1 : nW w P = 0 := by
      cases P with
      | nil => rfl
      | cons a P => exact if_neg (fun q => by rw [List.length_cons] at h4; omega)
    rw [e1]
    exact xx_vret rfl rfl ⟨rfl, _, rfl, by rw [show o - (if w = 9 then ((0 : Nat) : Int) else 0) = o by split <;> omega]; exact hS⟩
  · refine xx_aload_n (q := 8) rfl rfl rfl ?_
    refine xx_getR (q := 11) rfl rfl rfl xS_479 (Nat.le_of_ble_eq_true rfl) rfl (hR.1 479 40 rfl) ?_
    refine xx_aload_n (q := 12) rfl rfl rfl ?_
    refine xx_gez (q := 15) rfl rfl rfl xS_479 (Nat.le_of_ble_eq_true rfl) rfl hS.2.2.2.2.2.2.1.1 ?_
    refine xx_iconst (q := 16) rfl rfl (by decide) ?_
    refine xx_isubR (q := 17) rfl rfl (by omega) (by omega) ?_
    refine xx_iaz (v := P.getD 0 0) (q := 18) rfl rfl xS_506 (by omega) (by omega) (by rw [show ((P.length : Int) - 1).toNat = P.length - 1 - 0 by omega]; exact hS.2.2.2.2.2.2.1.2 0 (by omega)) ?_
    refine xx_iload_n (q := 19) rfl rfl rfl ?_
    refine xx_icmp_ne (q := 57) (q2 := 22) rfl rfl rfl (fun h19 => ?_) (fun h19 => ?_)
    · have e1 : nW w P = 0 := by
        cases P with
        | nil => rfl
        | cons a P => exact if_neg (fun q => h19 q)
      rw [e1]
      exact xx_vret rfl rfl ⟨rfl, _, rfl, by rw [show o - (if w = 9 then ((0 : Nat) : Int) else 0) = o by split <;> omega]; exact hS⟩
    · obtain ⟨PT, hPT⟩ : ∃ PT, P = w :: PT := by
        cases P with
        | nil => rw [List.length_nil] at h4; omega
        | cons a PT => exact ⟨PT, congrArg (· :: PT) h19⟩
      have hPa : w = w := rfl
      have hPl : (P.length : Int) = PT.length + 1 := by rw [hPT, List.length_cons]; omega
      refine xx_aload_n (q := 23) rfl rfl rfl ?_
      refine xx_aload_n (q := 24) rfl rfl rfl ?_
      refine xx_gez (q := 27) rfl rfl rfl xS_479 (Nat.le_of_ble_eq_true rfl) rfl hS.2.2.2.2.2.2.1.1 ?_
      refine xx_iconst (q := 28) rfl rfl (by decide) ?_
      refine xx_isubR (q := 29) rfl rfl (by omega) (by omega) ?_
      refine xr_puz (RgS bs D0 s o PT) (q := 32) rfl rfl rfl xS_479 (Nat.le_of_ble_eq_true rfl) (Nat.le_of_ble_eq_true rfl) (fun h => by cases h) (Or.inl rfl) (hS.pend (PnR.pop (by rw [← hPT]; exact hS.2.2.2.2.2.2.1) (xui_s.trans (by omega)) (fun k => xui_a (by omega))) ((xui_j (by omega)).trans hS.2.2.2.2.2.1) (fun x k q1 q2 => if_neg (fun r => by have := q1 r.1; omega))) (fun D2 hS2 => ?_)
      refine xx_aload_n (q := 33) rfl rfl rfl ?_
      refine xx_iload_n (q := 34) rfl rfl rfl ?_
      refine xx_iconst (q := 35) rfl rfl (by decide) ?_
      have hlt3 : s.2.length < 400 := by have := hS.hd.2.2.2; unfold szS at hz; omega
      obtain ⟨D3, hx3, hS3⟩ := r_emits (n := n) hR hS2 op w 0 hop hlt3
      have hsw := sz_wt (op := op) hlt3
      refine xx_callV (q := 38) (As := [_, _]) (rest := []) rfl rfl rfl (Or.inl rfl) rfl rfl (Nat.le_of_ble_eq_true rfl) xS_479 (XCm hx3 rfl) rfl ?_
      refine xx_iload_n (q := 39) rfl rfl rfl ?_
      refine xx_bipush (q := 41) rfl rfl (by decide) ?_
      refine xx_icmp_ne (q := 0) (q2 := 44) rfl rfl rfl (fun h41 => ?_) (fun h41 => ?_)
      · have e1 : nW w P = nW w PT + 1 := by rw [hPT]; exact if_pos hPa
        have e2 : P.drop (nW w P) = PT.drop (nW w PT) := by rw [e1, hPT]; rfl
        have e3 : wtN op (nW w P) s = wtN op (nW w PT) (wtS op s) := by rw [e1]; rfl
        have hpl : P.length = PT.length + 1 := by rw [hPT, List.length_cons]
        have e4 : o - (if w = 9 then (nW w P : Int) else 0) = o - (if w = 9 then (nW w PT : Int) else 0) := by rw [e1]; rw [if_neg (by omega), if_neg (by omega)]
        rw [e2, e3, e4]
        exact ih PT.length (by omega) PT (wtS op s) _ _ hS3 (by omega) rfl (by omega) (by omega) (by omega)
      · refine xx_aload_n (q := 45) rfl rfl rfl ?_
        refine xx_aload_n (q := 46) rfl rfl rfl ?_
        refine xx_gez (q := 49) rfl rfl rfl xS_479 (Nat.le_of_ble_eq_true rfl) rfl hS3.2.2.2.2.2.1 ?_
        refine xx_iconst (q := 50) rfl rfl (by decide) ?_
        refine xx_isubR (q := 51) rfl rfl (by omega) (by omega) ?_
        refine xr_puz (RgS bs D0 (wtS op s) (o - 1) PT) (q := 54) rfl rfl rfl xS_479 (Nat.le_of_ble_eq_true rfl) (Nat.le_of_ble_eq_true rfl) (fun h => by cases h) (Or.inl rfl) (hS3.pend (hS3.2.2.2.2.2.2.1.fr (xui_j (by omega)) (fun k => xui_a (by omega))) xui_s (fun x k q1 q2 => if_neg (fun r => by have := q1 r.1; omega))) (fun D5 hS5 => ?_)
        refine xx_goto (q := 0) rfl rfl ?_
        have e1 : nW w P = nW w PT + 1 := by rw [hPT]; exact if_pos hPa
        have e2 : P.drop (nW w P) = PT.drop (nW w PT) := by rw [e1, hPT]; rfl
        have e3 : wtN op (nW w P) s = wtN op (nW w PT) (wtS op s) := by rw [e1]; rfl
        have hpl : P.length = PT.length + 1 := by rw [hPT, List.length_cons]
        have e4 : o - (if w = 9 then (nW w P : Int) else 0) = o - 1 - (if w = 9 then (nW w PT : Int) else 0) := by rw [e1]; rw [if_pos (by omega), if_pos (by omega)]; omega
        rw [e2, e3, e4]
        exact ih PT.length (by omega) PT (wtS op s) _ _ hS5 (by omega) rfl (by omega) (by omega) (by omega)
theorem r_settles {n : Nat} {R : Nat → Nat → Option Nat} {D0 D : KK} {bs : List Int} {s : Sg} {o : Int} {P : List Int} (hR : RF R) (hS : RgS bs D0 s o P D) (N : Nat) (hN : N ≤ 401) (hz : szS s + P.length ≤ N) (hp : P.length ≤ 39) (ho0 : 0 ≤ o) (ho1 : o ≤ 100) (w op : Int) (hop : opR op = (w, 0)) : ∃ D', XC 2 210 [.inr (some 479), .inl w] (xS n, R, D) none (xS n, R, D') ∧ RgS bs D0 (wtN op (nW w P) s) (o - (if w = 9 then (nW w P : Int) else 0)) (P.drop (nW w P)) D' := by
  refine XE_of (Nat.le_of_ble_eq_true rfl) (Nat.le_of_ble_eq_true rfl) (loc := [_, _]) rfl ?_
  exact r_st_L hR N hN w op hop P.length P s o D hS hz rfl hp (by omega) ho1
