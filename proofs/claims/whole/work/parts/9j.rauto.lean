/-! A condition, step by step: the reference. -/
def cW (w : Int) : List Int → Int
  | [] => 0
  | a :: P => (if a = w then 1 else 0) + cW w P
theorem cW_b (w : Int) : ∀ P : List Int, 0 ≤ cW w P ∧ cW w P ≤ P.length
  | [] => ⟨Int.le_refl _, Int.le_refl _⟩
  | a :: P => by
    have := cW_b w P
    unfold cW
    rw [List.length_cons]
    split <;> omega
theorem cW_d (w v : Int) : ∀ P : List Int, cW w (P.drop (nW v P)) = cW w P - (if v = w then (nW v P : Int) else 0)
  | [] => by show (0 : Int) = 0 - (if v = w then ((0 : Nat) : Int) else 0); split <;> omega
  | a :: P => by
    have ih := cW_d w v P
    unfold nW
    split
    · next q =>
      rw [show (a :: P).drop (nW v P + 1) = P.drop (nW v P) from rfl, ih]
      show _ = (if a = w then 1 else 0) + cW w P - _
      rw [q]
      split <;> omega
    · show _ = cW w (a :: P) - (if v = w then ((0 : Nat) : Int) else 0)
      split
      · show cW w (a :: P) = _; omega
      · show cW w (a :: P) = _; omega
def oP (P : List Int) : Int := cW 9 P + cW 12 P
theorem oP_c (a : Int) (P : List Int) : oP (a :: P) = (if a = 9 then 1 else 0) + (if a = 12 then 1 else 0) + oP P := by
  show (if a = 9 then 1 else 0) + cW 9 P + ((if a = 12 then 1 else 0) + cW 12 P) = _ + (cW 9 P + cW 12 P)
  omega
theorem oP_b (P : List Int) : 0 ≤ oP P ∧ oP P ≤ P.length := by
  have : ∀ P : List Int, 0 ≤ cW 9 P + cW 12 P ∧ cW 9 P + cW 12 P ≤ P.length := by
    intro P
    induction P with
    | nil => exact ⟨Int.le_refl _, Int.le_refl _⟩
    | cons a P ih =>
      show 0 ≤ (if a = 9 then 1 else 0) + cW 9 P + ((if a = 12 then 1 else 0) + cW 12 P) ∧ (if a = 9 then 1 else 0) + cW 9 P + ((if a = 12 then 1 else 0) + cW 12 P) ≤ _
      rw [List.length_cons]
      split <;> split <;> omega
  exact this P
theorem oP_d9 (P : List Int) : oP (P.drop (nW 9 P)) = oP P - (nW 9 P : Int) := by
  unfold oP
  rw [cW_d, cW_d, if_pos rfl, if_neg (by omega)]
  omega
theorem oP_d (v : Int) (h : v ≠ 9) (h2 : v ≠ 12) (P : List Int) : oP (P.drop (nW v P)) = oP P := by
  unfold oP
  rw [cW_d, cW_d, if_neg h, if_neg h2]
  omega
theorem nW_l (w : Int) : ∀ P : List Int, nW w P ≤ P.length
  | [] => Nat.le_refl _
  | a :: P => by
    have := nW_l w P
    unfold nW
    rw [List.length_cons]
    split <;> omega
theorem wtN_1 {op : Int} : ∀ (j : Nat) (s : Sg), (wtN op j s).1 = s.1
  | 0, _ => rfl
  | j + 1, s => wtN_1 j (wtS op s)
theorem wtN_z {op : Int} : ∀ (j : Nat) (s : Sg), s.2.length + j ≤ 400 → szS (wtN op j s) = szS s + j
  | 0, _, _ => rfl
  | j + 1, s, h => by
    have hl : s.2.length < 400 := by omega
    have e := wt_l (op := op) hl
    have e2 : (wtS op s).2.length = s.2.length + 1 := by rw [e]; exact List.length_append
    show szS (wtN op j (wtS op s)) = _
    rw [wtN_z j _ (by omega), sz_wt hl]
    omega
theorem wtN_k {op : Int} {j : Nat} {s : Sg} : kdS (wtN op j s) = kdS s := congrArg kdT (wtN_1 j s)
def AU (bs : List Int) (D0 : KK) (Q : XQ) (n : Nat) (R : Nat → Nat → Option Nat) (N : Nat) (due : Int) (P : List Int) (s : Sg) : Prop := P.length ≤ 30 → szS s + P.length ≤ N → ∀ (D : KK) (x : Option XV), RgS bs D0 s (oP P) P D → XX (XC 7) 211 Q 9 [some (.inr (some 479)), some (.inl (cW 12 P)), some (.inl due), x] [] (xS n, R, D)
def QF (D0 : KK) (Q : XQ) (n : Nat) (R : Nat → Nat → Option Nat) (t : Tt) : Prop := ∀ D, RgF t.1 t.2.1 D0 D → Q (some (.inl (-1))) (xS n, R, D)
set_option maxHeartbeats 1000000 in
theorem au_not {n : Nat} {R : Nat → Nat → Option Nat} {D0 : KK} {bs : List Int} {Q : XQ} (hR : RF R) (hT : TpR bs D0) (hl4 : bs.length ≤ 400) (hby : ∀ j, 0 ≤ bs.getD j 0 ∧ bs.getD j 0 ≤ 255) (hW : WdR D0) (N : Nat) (hN : N ≤ 401) (P : List Int) (s : Sg) (hk : kdS s = 306) (ho : oP P < 8) (hp9 : P.length < 30) (kx : AU bs D0 Q n R N 1 (9 :: P) (stS s)) : AU bs D0 Q n R N 1 P s := by
  intro hp hz D x hS
  have hob := oP_b P
  have hcb := cW_b 12 P
  refine xx_iload_n (q := 10) rfl rfl rfl ?_
  refine xx_if_eq (q := 108) (q2 := 13) rfl rfl rfl (fun h10 => (by exfalso; omega)) (fun _ => ?_)
  refine xx_aload_n (q := 14) rfl rfl rfl ?_
  refine xx_iconst (q := 15) rfl rfl (by decide) ?_
  refine xx_callV (q := 18) (As := [_]) (rest := []) rfl rfl rfl (Or.inl rfl) rfl rfl (Nat.le_of_ble_eq_true rfl) xS_479 (XCm (r_isWord (n := n) hR hS 306 5 (by decide) (by decide) (by decide +kernel)) rfl) rfl ?_
  refine xx_istore_n (q := 19) (loc2 := [_, _, _, _]) rfl rfl (Nat.le_of_ble_eq_true rfl) rfl ?_
  refine xx_iload_n (q := 20) rfl rfl rfl ?_
  refine xx_ifb_ne (q := 32) (q2 := 23) rfl rfl rfl (fun _ => ?_) (fun h20 => (by exfalso; (exact h20 hk)))
  refine xx_aload_n (q := 33) rfl rfl rfl ?_
  refine xx_gez (q := 36) rfl rfl rfl xS_479 (Nat.le_of_ble_eq_true rfl) rfl hS.2.2.2.2.2.1 ?_
  refine xx_bipush (q := 38) rfl rfl (by decide) ?_
  refine xx_icmp_ne (q := 47) (q2 := 41) rfl rfl rfl (fun _ => ?_) (fun h38 => (by exfalso; omega))
  refine xx_aload_n (q := 48) rfl rfl rfl ?_
  refine xx_aload_n (q := 49) rfl rfl rfl ?_
  refine xx_gez (q := 52) rfl rfl rfl xS_479 (Nat.le_of_ble_eq_true rfl) rfl hS.2.2.2.2.2.1 ?_
  refine xx_iconst (q := 53) rfl rfl (by decide) ?_
  refine xx_iaddR (q := 54) rfl rfl (by omega) (by omega) ?_
  refine xr_puz (RgS bs D0 s ((oP P) + 1) P) (q := 57) rfl rfl rfl xS_479 (Nat.le_of_ble_eq_true rfl) (Nat.le_of_ble_eq_true rfl) (fun h => by cases h) (Or.inl rfl) (hS.pend (hS.2.2.2.2.2.2.1.fr (xui_j (by omega)) (fun k => xui_a (by omega))) xui_s (fun x k q1 q2 => if_neg (fun r => by have := q1 r.1; omega))) (fun D2 hS2 => ?_)
  refine xx_iload_n (q := 58) rfl rfl rfl ?_
  refine xx_ifb_ne (q := 65) (q2 := 61) rfl rfl rfl (fun _ => ?_) (fun h58 => (by exfalso; (exact h58 hk)))
  refine xx_aload_n (q := 66) rfl rfl rfl ?_
  refine xx_iload_n (q := 67) rfl rfl rfl ?_
  refine xx_ifb_eq (q := 75) (q2 := 70) rfl rfl rfl (fun h67 => (by exfalso; (exact h67 hk))) (fun _ => ?_)
  refine xx_bipush (q := 72) rfl rfl (by decide) ?_
  refine xx_goto (q := 77) rfl rfl ?_
  obtain ⟨D3, hx3, hS3⟩ := r_waits (n := n) hR hS2 9 (by omega)
  refine xx_callV (q := 80) (As := [_]) (rest := []) rfl rfl rfl (Or.inl rfl) rfl rfl (Nat.le_of_ble_eq_true rfl) xS_479 (XCm hx3 rfl) rfl ?_
  refine xx_aload_n (q := 81) rfl rfl rfl ?_
  obtain ⟨D4, hx4, hS4, hs4⟩ := r_nexT (n := n) hR hT hl4 hby hW hS3 (by omega)
  refine xx_callV (q := 84) (As := []) (rest := []) rfl rfl rfl (Or.inl rfl) rfl rfl (Nat.le_of_ble_eq_true rfl) xS_479 (XCm hx4 rfl) rfl ?_
  refine xx_goto (q := 9) rfl rfl ?_
  have e : oP P + 1 = oP (9 :: P) := by rw [oP_c, if_pos rfl, if_neg (by omega)]; omega
  have e2 : cW 12 P = cW 12 (9 :: P) := by show _ = (if (9 : Int) = 12 then 1 else 0) + cW 12 P; rw [if_neg (by omega)]; omega
  rw [e] at hS4
  rw [e2]
  exact kx (by rw [List.length_cons]; omega) (by rw [List.length_cons]; omega) _ _ hS4
set_option maxHeartbeats 1000000 in
theorem au_br {n : Nat} {R : Nat → Nat → Option Nat} {D0 : KK} {bs : List Int} {Q : XQ} (hR : RF R) (hT : TpR bs D0) (hl4 : bs.length ≤ 400) (hby : ∀ j, 0 ≤ bs.getD j 0 ∧ bs.getD j 0 ≤ 255) (hW : WdR D0) (N : Nat) (hN : N ≤ 401) (P : List Int) (s : Sg) (hk : kdS s = 40) (ho : oP P < 8) (hp9 : P.length < 30) (kx : AU bs D0 Q n R N 1 (12 :: P) (stS s)) : AU bs D0 Q n R N 1 P s := by
  intro hp hz D x hS
  have hob := oP_b P
  have hcb := cW_b 12 P
  refine xx_iload_n (q := 10) rfl rfl rfl ?_
  refine xx_if_eq (q := 108) (q2 := 13) rfl rfl rfl (fun h10 => (by exfalso; omega)) (fun _ => ?_)
  refine xx_aload_n (q := 14) rfl rfl rfl ?_
  refine xx_iconst (q := 15) rfl rfl (by decide) ?_
  refine xx_callV (q := 18) (As := [_]) (rest := []) rfl rfl rfl (Or.inl rfl) rfl rfl (Nat.le_of_ble_eq_true rfl) xS_479 (XCm (r_isWord (n := n) hR hS 306 5 (by decide) (by decide) (by decide +kernel)) rfl) rfl ?_
  refine xx_istore_n (q := 19) (loc2 := [_, _, _, _]) rfl rfl (Nat.le_of_ble_eq_true rfl) rfl ?_
  refine xx_iload_n (q := 20) rfl rfl rfl ?_
  refine xx_ifb_ne (q := 32) (q2 := 23) rfl rfl rfl (fun h20 => (by exfalso; omega)) (fun _ => ?_)
  refine xx_aload_n (q := 24) rfl rfl rfl ?_
  refine xx_bipush (q := 26) rfl rfl (by decide) ?_
  refine xx_callV (q := 29) (As := [_]) (rest := []) rfl rfl rfl (Or.inl rfl) rfl rfl (Nat.le_of_ble_eq_true rfl) xS_479 (XCm (r_isSign (n := n) hR hS 40 (by omega)) rfl) rfl ?_
  refine xx_ifb_eq (q := 87) (q2 := 32) rfl rfl rfl (fun h29 => (by exfalso; (exact h29 hk))) (fun _ => ?_)
  refine xx_aload_n (q := 33) rfl rfl rfl ?_
  refine xx_gez (q := 36) rfl rfl rfl xS_479 (Nat.le_of_ble_eq_true rfl) rfl hS.2.2.2.2.2.1 ?_
  refine xx_bipush (q := 38) rfl rfl (by decide) ?_
  refine xx_icmp_ne (q := 47) (q2 := 41) rfl rfl rfl (fun _ => ?_) (fun h38 => (by exfalso; omega))
  refine xx_aload_n (q := 48) rfl rfl rfl ?_
  refine xx_aload_n (q := 49) rfl rfl rfl ?_
  refine xx_gez (q := 52) rfl rfl rfl xS_479 (Nat.le_of_ble_eq_true rfl) rfl hS.2.2.2.2.2.1 ?_
  refine xx_iconst (q := 53) rfl rfl (by decide) ?_
  refine xx_iaddR (q := 54) rfl rfl (by omega) (by omega) ?_
  refine xr_puz (RgS bs D0 s ((oP P) + 1) P) (q := 57) rfl rfl rfl xS_479 (Nat.le_of_ble_eq_true rfl) (Nat.le_of_ble_eq_true rfl) (fun h => by cases h) (Or.inl rfl) (hS.pend (hS.2.2.2.2.2.2.1.fr (xui_j (by omega)) (fun k => xui_a (by omega))) xui_s (fun x k q1 q2 => if_neg (fun r => by have := q1 r.1; omega))) (fun D2 hS2 => ?_)
  refine xx_iload_n (q := 58) rfl rfl rfl ?_
  refine xx_ifb_ne (q := 65) (q2 := 61) rfl rfl rfl (fun h58 => (by exfalso; omega)) (fun _ => ?_)
  refine xx_iload_n (q := 62) rfl rfl rfl ?_
  refine xx_iconst (q := 63) rfl rfl (by decide) ?_
  refine xx_iaddR (q := 64) rfl rfl (by omega) (by omega) ?_
  refine xx_istore_n (q := 65) (loc2 := [_, _, _, _]) rfl rfl (Nat.le_of_ble_eq_true rfl) rfl ?_
  refine xx_aload_n (q := 66) rfl rfl rfl ?_
  refine xx_iload_n (q := 67) rfl rfl rfl ?_
  refine xx_ifb_eq (q := 75) (q2 := 70) rfl rfl rfl (fun _ => ?_) (fun h67 => (by exfalso; omega))
  refine xx_bipush (q := 77) rfl rfl (by decide) ?_
  obtain ⟨D3, hx3, hS3⟩ := r_waits (n := n) hR hS2 12 (by omega)
  refine xx_callV (q := 80) (As := [_]) (rest := []) rfl rfl rfl (Or.inl rfl) rfl rfl (Nat.le_of_ble_eq_true rfl) xS_479 (XCm hx3 rfl) rfl ?_
  refine xx_aload_n (q := 81) rfl rfl rfl ?_
  obtain ⟨D4, hx4, hS4, hs4⟩ := r_nexT (n := n) hR hT hl4 hby hW hS3 (by omega)
  refine xx_callV (q := 84) (As := []) (rest := []) rfl rfl rfl (Or.inl rfl) rfl rfl (Nat.le_of_ble_eq_true rfl) xS_479 (XCm hx4 rfl) rfl ?_
  refine xx_goto (q := 9) rfl rfl ?_
  have e : oP P + 1 = oP (12 :: P) := by rw [oP_c, if_neg (by omega), if_pos rfl]; omega
  have e2 : cW 12 P + 1 = cW 12 (12 :: P) := by show _ = (if (12 : Int) = 12 then 1 else 0) + cW 12 P; rw [if_pos rfl]; omega
  rw [e] at hS4
  rw [e2]
  exact kx (by rw [List.length_cons]; omega) (by rw [List.length_cons]; omega) _ _ hS4
set_option maxHeartbeats 1000000 in
theorem au_3n {n : Nat} {R : Nat → Nat → Option Nat} {D0 : KK} {bs : List Int} {Q : XQ} (hR : RF R) (hT : TpR bs D0) (hl4 : bs.length ≤ 400) (hby : ∀ j, 0 ≤ bs.getD j 0 ∧ bs.getD j 0 ≤ 255) (hW : WdR D0) (N : Nat) (hN : N ≤ 401) (P : List Int) (s : Sg) (hk : kdS s = 306) (ho : oP P = 8) (kq : QF D0 Q n R (wrS 3 s).1) : AU bs D0 Q n R N 1 P s := by
  intro hp hz D x hS
  have hob := oP_b P
  have hcb := cW_b 12 P
  refine xx_iload_n (q := 10) rfl rfl rfl ?_
  refine xx_if_eq (q := 108) (q2 := 13) rfl rfl rfl (fun h10 => (by exfalso; omega)) (fun _ => ?_)
  refine xx_aload_n (q := 14) rfl rfl rfl ?_
  refine xx_iconst (q := 15) rfl rfl (by decide) ?_
  refine xx_callV (q := 18) (As := [_]) (rest := []) rfl rfl rfl (Or.inl rfl) rfl rfl (Nat.le_of_ble_eq_true rfl) xS_479 (XCm (r_isWord (n := n) hR hS 306 5 (by decide) (by decide) (by decide +kernel)) rfl) rfl ?_
  refine xx_istore_n (q := 19) (loc2 := [_, _, _, _]) rfl rfl (Nat.le_of_ble_eq_true rfl) rfl ?_
  refine xx_iload_n (q := 20) rfl rfl rfl ?_
  refine xx_ifb_ne (q := 32) (q2 := 23) rfl rfl rfl (fun _ => ?_) (fun h20 => (by exfalso; (exact h20 hk)))
  refine xx_aload_n (q := 33) rfl rfl rfl ?_
  refine xx_gez (q := 36) rfl rfl rfl xS_479 (Nat.le_of_ble_eq_true rfl) rfl hS.2.2.2.2.2.1 ?_
  refine xx_bipush (q := 38) rfl rfl (by decide) ?_
  refine xx_icmp_ne (q := 47) (q2 := 41) rfl rfl rfl (fun h38 => (by exfalso; omega)) (fun _ => ?_)
  refine xx_aload_n (q := 42) rfl rfl rfl ?_
  refine xx_iconst (q := 43) rfl rfl (by decide) ?_
  obtain ⟨D1, hx1, hF1⟩ := r_errs (n := n) hR hS 3
  refine xx_callV (q := 46) (As := [_]) (rest := []) rfl rfl rfl (Or.inl rfl) rfl rfl (Nat.le_of_ble_eq_true rfl) xS_479 (XCm hx1 rfl) rfl ?_
  exact xx_iret rfl trivial (kq _ hF1)
set_option maxHeartbeats 1000000 in
theorem au_3b {n : Nat} {R : Nat → Nat → Option Nat} {D0 : KK} {bs : List Int} {Q : XQ} (hR : RF R) (hT : TpR bs D0) (hl4 : bs.length ≤ 400) (hby : ∀ j, 0 ≤ bs.getD j 0 ∧ bs.getD j 0 ≤ 255) (hW : WdR D0) (N : Nat) (hN : N ≤ 401) (P : List Int) (s : Sg) (hk : kdS s = 40) (ho : oP P = 8) (kq : QF D0 Q n R (wrS 3 s).1) : AU bs D0 Q n R N 1 P s := by
  intro hp hz D x hS
  have hob := oP_b P
  have hcb := cW_b 12 P
  refine xx_iload_n (q := 10) rfl rfl rfl ?_
  refine xx_if_eq (q := 108) (q2 := 13) rfl rfl rfl (fun h10 => (by exfalso; omega)) (fun _ => ?_)
  refine xx_aload_n (q := 14) rfl rfl rfl ?_
  refine xx_iconst (q := 15) rfl rfl (by decide) ?_
  refine xx_callV (q := 18) (As := [_]) (rest := []) rfl rfl rfl (Or.inl rfl) rfl rfl (Nat.le_of_ble_eq_true rfl) xS_479 (XCm (r_isWord (n := n) hR hS 306 5 (by decide) (by decide) (by decide +kernel)) rfl) rfl ?_
  refine xx_istore_n (q := 19) (loc2 := [_, _, _, _]) rfl rfl (Nat.le_of_ble_eq_true rfl) rfl ?_
  refine xx_iload_n (q := 20) rfl rfl rfl ?_
  refine xx_ifb_ne (q := 32) (q2 := 23) rfl rfl rfl (fun h20 => (by exfalso; omega)) (fun _ => ?_)
  refine xx_aload_n (q := 24) rfl rfl rfl ?_
  refine xx_bipush (q := 26) rfl rfl (by decide) ?_
  refine xx_callV (q := 29) (As := [_]) (rest := []) rfl rfl rfl (Or.inl rfl) rfl rfl (Nat.le_of_ble_eq_true rfl) xS_479 (XCm (r_isSign (n := n) hR hS 40 (by omega)) rfl) rfl ?_
  refine xx_ifb_eq (q := 87) (q2 := 32) rfl rfl rfl (fun h29 => (by exfalso; (exact h29 hk))) (fun _ => ?_)
  refine xx_aload_n (q := 33) rfl rfl rfl ?_
  refine xx_gez (q := 36) rfl rfl rfl xS_479 (Nat.le_of_ble_eq_true rfl) rfl hS.2.2.2.2.2.1 ?_
  refine xx_bipush (q := 38) rfl rfl (by decide) ?_
  refine xx_icmp_ne (q := 47) (q2 := 41) rfl rfl rfl (fun h38 => (by exfalso; omega)) (fun _ => ?_)
  refine xx_aload_n (q := 42) rfl rfl rfl ?_
  refine xx_iconst (q := 43) rfl rfl (by decide) ?_
  obtain ⟨D1, hx1, hF1⟩ := r_errs (n := n) hR hS 3
  refine xx_callV (q := 46) (As := [_]) (rest := []) rfl rfl rfl (Or.inl rfl) rfl rfl (Nat.le_of_ble_eq_true rfl) xS_479 (XCm hx1 rfl) rfl ?_
  exact xx_iret rfl trivial (kq _ hF1)
set_option maxHeartbeats 1000000 in
theorem au_and {n : Nat} {R : Nat → Nat → Option Nat} {D0 : KK} {bs : List Int} {Q : XQ} (hR : RF R) (hT : TpR bs D0) (hl4 : bs.length ≤ 400) (hby : ∀ j, 0 ≤ bs.getD j 0 ∧ bs.getD j 0 ≤ 255) (hW : WdR D0) (N : Nat) (hN : N ≤ 401) (P : List Int) (s : Sg) (hk : kdS s = 305) (hp2 : (P.drop (nW 10 P)).length < 30) (kx : AU bs D0 Q n R N 1 (10 :: P.drop (nW 10 P)) (stS (wtN (-27) (nW 10 P) s))) : AU bs D0 Q n R N 0 P s := by
  intro hp hz D x hS
  have hob := oP_b P
  have hcb := cW_b 12 P
  refine xx_iload_n (q := 10) rfl rfl rfl ?_
  refine xx_if_eq (q := 108) (q2 := 13) rfl rfl rfl (fun _ => ?_) (fun h10 => (by exfalso; omega))
  refine xx_aload_n (q := 109) rfl rfl rfl ?_
  refine xx_iconst (q := 110) rfl rfl (by decide) ?_
  refine xx_callV (q := 113) (As := [_]) (rest := []) rfl rfl rfl (Or.inl rfl) rfl rfl (Nat.le_of_ble_eq_true rfl) xS_479 (XCm (r_isWord (n := n) hR hS 305 4 (by decide) (by decide) (by decide +kernel)) rfl) rfl ?_
  refine xx_ifb_eq (q := 137) (q2 := 116) rfl rfl rfl (fun h113 => (by exfalso; (exact h113 hk))) (fun _ => ?_)
  refine xx_aload_n (q := 117) rfl rfl rfl ?_
  refine xx_bipush (q := 119) rfl rfl (by decide) ?_
  have hlb1 : s.2.length + P.length ≤ 400 := by have h1 := hS.hd.2.2.2; have h2 := hz; unfold szS at h2; omega
  obtain ⟨D1, hx1, hS1⟩ := r_settles (n := n) hR hS N hN hz (by omega) (by omega) (by omega) 10 (-27) (by decide +kernel)
  have hnl1 := nW_l 10 P
  have hzz1 : szS (wtN (-27) (nW 10 P) s) + (P.drop (nW 10 P)).length ≤ N := by rw [wtN_z _ _ (by omega), List.length_drop]; have h2 := hz; omega
  have hdl1 : (P.drop (nW 10 P)).length ≤ P.length := by rw [List.length_drop]; omega
  rw [if_neg (by omega), Int.sub_zero] at hS1
  refine xx_callV (q := 122) (As := [_]) (rest := []) rfl rfl rfl (Or.inl rfl) rfl rfl (Nat.le_of_ble_eq_true rfl) xS_479 (XCm hx1 rfl) rfl ?_
  refine xx_aload_n (q := 123) rfl rfl rfl ?_
  refine xx_bipush (q := 125) rfl rfl (by decide) ?_
  obtain ⟨D2, hx2, hS2⟩ := r_waits (n := n) hR hS1 10 (by omega)
  refine xx_callV (q := 128) (As := [_]) (rest := []) rfl rfl rfl (Or.inl rfl) rfl rfl (Nat.le_of_ble_eq_true rfl) xS_479 (XCm hx2 rfl) rfl ?_
  refine xx_aload_n (q := 129) rfl rfl rfl ?_
  obtain ⟨D3, hx3, hS3, hs3⟩ := r_nexT (n := n) hR hT hl4 hby hW hS2 (by rw [wtN_k]; omega)
  refine xx_callV (q := 132) (As := []) (rest := []) rfl rfl rfl (Or.inl rfl) rfl rfl (Nat.le_of_ble_eq_true rfl) xS_479 (XCm hx3 rfl) rfl ?_
  refine xx_iconst (q := 133) rfl rfl (by decide) ?_
  refine xx_istore_n (q := 134) (loc2 := [_, _, _, _]) rfl rfl (Nat.le_of_ble_eq_true rfl) rfl ?_
  refine xx_goto (q := 9) rfl rfl ?_
  have eo1 := oP_d 10 (by omega) (by omega) P
  have eo2 := oP_d 11 (by omega) (by omega) (P.drop (nW 10 P))
  have ec1 := cW_d 12 10 P
  rw [if_neg (by omega), Int.sub_zero] at ec1
  have ec2 := cW_d 12 11 (P.drop (nW 10 P))
  rw [if_neg (by omega), Int.sub_zero] at ec2
  have e : oP P = oP (10 :: P.drop (nW 10 P)) := by rw [oP_c, if_neg (by omega), if_neg (by omega)]; omega
  have e2 : cW 12 P = cW 12 (10 :: P.drop (nW 10 P)) := by show _ = (if (10 : Int) = 12 then 1 else 0) + cW 12 (P.drop (nW 10 P)); rw [if_neg (by omega)]; omega
  rw [e] at hS3
  rw [e2]
  exact kx (by rw [List.length_cons]; omega) (by rw [List.length_cons]; omega) _ _ hS3
set_option maxHeartbeats 1000000 in
theorem au_or {n : Nat} {R : Nat → Nat → Option Nat} {D0 : KK} {bs : List Int} {Q : XQ} (hR : RF R) (hT : TpR bs D0) (hl4 : bs.length ≤ 400) (hby : ∀ j, 0 ≤ bs.getD j 0 ∧ bs.getD j 0 ≤ 255) (hW : WdR D0) (N : Nat) (hN : N ≤ 401) (P : List Int) (s : Sg) (hk : kdS s = 304) (hp2 : ((P.drop (nW 10 P)).drop (nW 11 (P.drop (nW 10 P)))).length < 30) (kx : AU bs D0 Q n R N 1 (11 :: (P.drop (nW 10 P)).drop (nW 11 (P.drop (nW 10 P)))) (stS (wtN (-28) (nW 11 (P.drop (nW 10 P))) (wtN (-27) (nW 10 P) s)))) : AU bs D0 Q n R N 0 P s := by
  intro hp hz D x hS
  have hob := oP_b P
  have hcb := cW_b 12 P
  refine xx_iload_n (q := 10) rfl rfl rfl ?_
  refine xx_if_eq (q := 108) (q2 := 13) rfl rfl rfl (fun _ => ?_) (fun h10 => (by exfalso; omega))
  refine xx_aload_n (q := 109) rfl rfl rfl ?_
  refine xx_iconst (q := 110) rfl rfl (by decide) ?_
  refine xx_callV (q := 113) (As := [_]) (rest := []) rfl rfl rfl (Or.inl rfl) rfl rfl (Nat.le_of_ble_eq_true rfl) xS_479 (XCm (r_isWord (n := n) hR hS 305 4 (by decide) (by decide) (by decide +kernel)) rfl) rfl ?_
  refine xx_ifb_eq (q := 137) (q2 := 116) rfl rfl rfl (fun _ => ?_) (fun h113 => (by exfalso; omega))
  refine xx_aload_n (q := 138) rfl rfl rfl ?_
  refine xx_iconst (q := 139) rfl rfl (by decide) ?_
  refine xx_callV (q := 142) (As := [_]) (rest := []) rfl rfl rfl (Or.inl rfl) rfl rfl (Nat.le_of_ble_eq_true rfl) xS_479 (XCm (r_isWord (n := n) hR hS 304 3 (by decide) (by decide) (by decide +kernel)) rfl) rfl ?_
  refine xx_ifb_eq (q := 172) (q2 := 145) rfl rfl rfl (fun h142 => (by exfalso; (exact h142 hk))) (fun _ => ?_)
  refine xx_aload_n (q := 146) rfl rfl rfl ?_
  refine xx_bipush (q := 148) rfl rfl (by decide) ?_
  have hlb1 : s.2.length + P.length ≤ 400 := by have h1 := hS.hd.2.2.2; have h2 := hz; unfold szS at h2; omega
  obtain ⟨D1, hx1, hS1⟩ := r_settles (n := n) hR hS N hN hz (by omega) (by omega) (by omega) 10 (-27) (by decide +kernel)
  have hnl1 := nW_l 10 P
  have hzz1 : szS (wtN (-27) (nW 10 P) s) + (P.drop (nW 10 P)).length ≤ N := by rw [wtN_z _ _ (by omega), List.length_drop]; have h2 := hz; omega
  have hdl1 : (P.drop (nW 10 P)).length ≤ P.length := by rw [List.length_drop]; omega
  rw [if_neg (by omega), Int.sub_zero] at hS1
  refine xx_callV (q := 151) (As := [_]) (rest := []) rfl rfl rfl (Or.inl rfl) rfl rfl (Nat.le_of_ble_eq_true rfl) xS_479 (XCm hx1 rfl) rfl ?_
  have eo1 := oP_d 10 (by omega) (by omega) P
  have eo2 := oP_d 11 (by omega) (by omega) (P.drop (nW 10 P))
  have ec1 := cW_d 12 10 P
  rw [if_neg (by omega), Int.sub_zero] at ec1
  have ec2 := cW_d 12 11 (P.drop (nW 10 P))
  rw [if_neg (by omega), Int.sub_zero] at ec2
  refine xx_aload_n (q := 152) rfl rfl rfl ?_
  refine xx_bipush (q := 154) rfl rfl (by decide) ?_
  have hlb2 : (wtN (-27) (nW 10 P) s).2.length + (P.drop (nW 10 P)).length ≤ 400 := by have h1 := hS1.hd.2.2.2; have h2 := hzz1; unfold szS at h2; omega
  obtain ⟨D2, hx2, hS2⟩ := r_settles (n := n) hR hS1 N hN hzz1 (by omega) (by omega) (by omega) 11 (-28) (by decide +kernel)
  have hnl2 := nW_l 11 (P.drop (nW 10 P))
  have hzz2 : szS (wtN (-28) (nW 11 (P.drop (nW 10 P))) (wtN (-27) (nW 10 P) s)) + ((P.drop (nW 10 P)).drop (nW 11 (P.drop (nW 10 P)))).length ≤ N := by rw [wtN_z _ _ (by omega), List.length_drop]; have h2 := hzz1; omega
  have hdl2 : ((P.drop (nW 10 P)).drop (nW 11 (P.drop (nW 10 P)))).length ≤ (P.drop (nW 10 P)).length := by rw [List.length_drop]; omega
  rw [if_neg (by omega), Int.sub_zero] at hS2
  refine xx_callV (q := 157) (As := [_]) (rest := []) rfl rfl rfl (Or.inl rfl) rfl rfl (Nat.le_of_ble_eq_true rfl) xS_479 (XCm hx2 rfl) rfl ?_
  refine xx_aload_n (q := 158) rfl rfl rfl ?_
  refine xx_bipush (q := 160) rfl rfl (by decide) ?_
  obtain ⟨D3, hx3, hS3⟩ := r_waits (n := n) hR hS2 11 (by omega)
  refine xx_callV (q := 163) (As := [_]) (rest := []) rfl rfl rfl (Or.inl rfl) rfl rfl (Nat.le_of_ble_eq_true rfl) xS_479 (XCm hx3 rfl) rfl ?_
  refine xx_aload_n (q := 164) rfl rfl rfl ?_
  obtain ⟨D4, hx4, hS4, hs4⟩ := r_nexT (n := n) hR hT hl4 hby hW hS3 (by rw [wtN_k, wtN_k]; omega)
  refine xx_callV (q := 167) (As := []) (rest := []) rfl rfl rfl (Or.inl rfl) rfl rfl (Nat.le_of_ble_eq_true rfl) xS_479 (XCm hx4 rfl) rfl ?_
  refine xx_iconst (q := 168) rfl rfl (by decide) ?_
  refine xx_istore_n (q := 169) (loc2 := [_, _, _, _]) rfl rfl (Nat.le_of_ble_eq_true rfl) rfl ?_
  refine xx_goto (q := 9) rfl rfl ?_
  have e : oP P = oP (11 :: (P.drop (nW 10 P)).drop (nW 11 (P.drop (nW 10 P)))) := by rw [oP_c, if_neg (by omega), if_neg (by omega)]; omega
  have e2 : cW 12 P = cW 12 (11 :: (P.drop (nW 10 P)).drop (nW 11 (P.drop (nW 10 P)))) := by show _ = (if (11 : Int) = 12 then 1 else 0) + cW 12 ((P.drop (nW 10 P)).drop (nW 11 (P.drop (nW 10 P)))); rw [if_neg (by omega)]; omega
  rw [e] at hS4
  rw [e2]
  exact kx (by rw [List.length_cons]; omega) (by rw [List.length_cons]; omega) _ _ hS4
set_option maxHeartbeats 1000000 in
theorem au_end {n : Nat} {R : Nat → Nat → Option Nat} {D0 : KK} {bs : List Int} {Q : XQ} (hR : RF R) (hT : TpR bs D0) (hl4 : bs.length ≤ 400) (hby : ∀ j, 0 ≤ bs.getD j 0 ∧ bs.getD j 0 ≤ 255) (hW : WdR D0) (N : Nat) (hN : N ≤ 401) (P : List Int) (s : Sg) (hk : ¬ kdS s = 305) (hk2 : ¬ kdS s = 304) (hb : cW 12 P = 0) (kx : ∀ D, RgS bs D0 (wtN (-28) (nW 11 (P.drop (nW 10 P))) (wtN (-27) (nW 10 P) s)) (oP P) ((P.drop (nW 10 P)).drop (nW 11 (P.drop (nW 10 P)))) D → szS (wtN (-28) (nW 11 (P.drop (nW 10 P))) (wtN (-27) (nW 10 P) s)) + ((P.drop (nW 10 P)).drop (nW 11 (P.drop (nW 10 P)))).length ≤ N → Q (some (.inl 0)) (xS n, R, D)) : AU bs D0 Q n R N 0 P s := by
  intro hp hz D x hS
  have hob := oP_b P
  have hcb := cW_b 12 P
  refine xx_iload_n (q := 10) rfl rfl rfl ?_
  refine xx_if_eq (q := 108) (q2 := 13) rfl rfl rfl (fun _ => ?_) (fun h10 => (by exfalso; omega))
  refine xx_aload_n (q := 109) rfl rfl rfl ?_
  refine xx_iconst (q := 110) rfl rfl (by decide) ?_
  refine xx_callV (q := 113) (As := [_]) (rest := []) rfl rfl rfl (Or.inl rfl) rfl rfl (Nat.le_of_ble_eq_true rfl) xS_479 (XCm (r_isWord (n := n) hR hS 305 4 (by decide) (by decide) (by decide +kernel)) rfl) rfl ?_
  refine xx_ifb_eq (q := 137) (q2 := 116) rfl rfl rfl (fun _ => ?_) (fun h113 => (by exfalso; (exact hk h113)))
  refine xx_aload_n (q := 138) rfl rfl rfl ?_
  refine xx_iconst (q := 139) rfl rfl (by decide) ?_
  refine xx_callV (q := 142) (As := [_]) (rest := []) rfl rfl rfl (Or.inl rfl) rfl rfl (Nat.le_of_ble_eq_true rfl) xS_479 (XCm (r_isWord (n := n) hR hS 304 3 (by decide) (by decide) (by decide +kernel)) rfl) rfl ?_
  refine xx_ifb_eq (q := 172) (q2 := 145) rfl rfl rfl (fun _ => ?_) (fun h142 => (by exfalso; (exact hk2 h142)))
  refine xx_aload_n (q := 173) rfl rfl rfl ?_
  refine xx_bipush (q := 175) rfl rfl (by decide) ?_
  have hlb1 : s.2.length + P.length ≤ 400 := by have h1 := hS.hd.2.2.2; have h2 := hz; unfold szS at h2; omega
  obtain ⟨D1, hx1, hS1⟩ := r_settles (n := n) hR hS N hN hz (by omega) (by omega) (by omega) 10 (-27) (by decide +kernel)
  have hnl1 := nW_l 10 P
  have hzz1 : szS (wtN (-27) (nW 10 P) s) + (P.drop (nW 10 P)).length ≤ N := by rw [wtN_z _ _ (by omega), List.length_drop]; have h2 := hz; omega
  have hdl1 : (P.drop (nW 10 P)).length ≤ P.length := by rw [List.length_drop]; omega
  rw [if_neg (by omega), Int.sub_zero] at hS1
  refine xx_callV (q := 178) (As := [_]) (rest := []) rfl rfl rfl (Or.inl rfl) rfl rfl (Nat.le_of_ble_eq_true rfl) xS_479 (XCm hx1 rfl) rfl ?_
  refine xx_aload_n (q := 179) rfl rfl rfl ?_
  refine xx_bipush (q := 181) rfl rfl (by decide) ?_
  have eo1 := oP_d 10 (by omega) (by omega) P
  have eo2 := oP_d 11 (by omega) (by omega) (P.drop (nW 10 P))
  have ec1 := cW_d 12 10 P
  rw [if_neg (by omega), Int.sub_zero] at ec1
  have ec2 := cW_d 12 11 (P.drop (nW 10 P))
  rw [if_neg (by omega), Int.sub_zero] at ec2
  have hlb2 : (wtN (-27) (nW 10 P) s).2.length + (P.drop (nW 10 P)).length ≤ 400 := by have h1 := hS1.hd.2.2.2; have h2 := hzz1; unfold szS at h2; omega
  obtain ⟨D2, hx2, hS2⟩ := r_settles (n := n) hR hS1 N hN hzz1 (by omega) (by omega) (by omega) 11 (-28) (by decide +kernel)
  have hnl2 := nW_l 11 (P.drop (nW 10 P))
  have hzz2 : szS (wtN (-28) (nW 11 (P.drop (nW 10 P))) (wtN (-27) (nW 10 P) s)) + ((P.drop (nW 10 P)).drop (nW 11 (P.drop (nW 10 P)))).length ≤ N := by rw [wtN_z _ _ (by omega), List.length_drop]; have h2 := hzz1; omega
  have hdl2 : ((P.drop (nW 10 P)).drop (nW 11 (P.drop (nW 10 P)))).length ≤ (P.drop (nW 10 P)).length := by rw [List.length_drop]; omega
  rw [if_neg (by omega), Int.sub_zero] at hS2
  refine xx_callV (q := 184) (As := [_]) (rest := []) rfl rfl rfl (Or.inl rfl) rfl rfl (Nat.le_of_ble_eq_true rfl) xS_479 (XCm hx2 rfl) rfl ?_
  refine xx_iload_n (q := 185) rfl rfl rfl ?_
  refine xx_if_ne (q := 190) (q2 := 188) rfl rfl rfl (fun h185 => (by exfalso; omega)) (fun _ => ?_)
  refine xx_iconst (q := 189) rfl rfl (by decide) ?_
  exact xx_iret rfl trivial (kx _ hS2 hzz2)
set_option maxHeartbeats 1000000 in
theorem au_x {n : Nat} {R : Nat → Nat → Option Nat} {D0 : KK} {bs : List Int} {Q : XQ} (hR : RF R) (hT : TpR bs D0) (hl4 : bs.length ≤ 400) (hby : ∀ j, 0 ≤ bs.getD j 0 ∧ bs.getD j 0 ≤ 255) (hW : WdR D0) (N : Nat) (hN : N ≤ 401) (P : List Int) (s : Sg) (hk : ¬ kdS s = 305) (hk2 : ¬ kdS s = 304) (hk3 : ¬ kdS s = 41) (hb : cW 12 P ≠ 0) (kq : QF D0 Q n R (wrS 1 (wtN (-28) (nW 11 (P.drop (nW 10 P))) (wtN (-27) (nW 10 P) s))).1) : AU bs D0 Q n R N 0 P s := by
  intro hp hz D x hS
  have hob := oP_b P
  have hcb := cW_b 12 P
  refine xx_iload_n (q := 10) rfl rfl rfl ?_
  refine xx_if_eq (q := 108) (q2 := 13) rfl rfl rfl (fun _ => ?_) (fun h10 => (by exfalso; omega))
  refine xx_aload_n (q := 109) rfl rfl rfl ?_
  refine xx_iconst (q := 110) rfl rfl (by decide) ?_
  refine xx_callV (q := 113) (As := [_]) (rest := []) rfl rfl rfl (Or.inl rfl) rfl rfl (Nat.le_of_ble_eq_true rfl) xS_479 (XCm (r_isWord (n := n) hR hS 305 4 (by decide) (by decide) (by decide +kernel)) rfl) rfl ?_
  refine xx_ifb_eq (q := 137) (q2 := 116) rfl rfl rfl (fun _ => ?_) (fun h113 => (by exfalso; (exact hk h113)))
  refine xx_aload_n (q := 138) rfl rfl rfl ?_
  refine xx_iconst (q := 139) rfl rfl (by decide) ?_
  refine xx_callV (q := 142) (As := [_]) (rest := []) rfl rfl rfl (Or.inl rfl) rfl rfl (Nat.le_of_ble_eq_true rfl) xS_479 (XCm (r_isWord (n := n) hR hS 304 3 (by decide) (by decide) (by decide +kernel)) rfl) rfl ?_
  refine xx_ifb_eq (q := 172) (q2 := 145) rfl rfl rfl (fun _ => ?_) (fun h142 => (by exfalso; (exact hk2 h142)))
  refine xx_aload_n (q := 173) rfl rfl rfl ?_
  refine xx_bipush (q := 175) rfl rfl (by decide) ?_
  have hlb1 : s.2.length + P.length ≤ 400 := by have h1 := hS.hd.2.2.2; have h2 := hz; unfold szS at h2; omega
  obtain ⟨D1, hx1, hS1⟩ := r_settles (n := n) hR hS N hN hz (by omega) (by omega) (by omega) 10 (-27) (by decide +kernel)
  have hnl1 := nW_l 10 P
  have hzz1 : szS (wtN (-27) (nW 10 P) s) + (P.drop (nW 10 P)).length ≤ N := by rw [wtN_z _ _ (by omega), List.length_drop]; have h2 := hz; omega
  have hdl1 : (P.drop (nW 10 P)).length ≤ P.length := by rw [List.length_drop]; omega
  rw [if_neg (by omega), Int.sub_zero] at hS1
  refine xx_callV (q := 178) (As := [_]) (rest := []) rfl rfl rfl (Or.inl rfl) rfl rfl (Nat.le_of_ble_eq_true rfl) xS_479 (XCm hx1 rfl) rfl ?_
  refine xx_aload_n (q := 179) rfl rfl rfl ?_
  refine xx_bipush (q := 181) rfl rfl (by decide) ?_
  have eo1 := oP_d 10 (by omega) (by omega) P
  have eo2 := oP_d 11 (by omega) (by omega) (P.drop (nW 10 P))
  have ec1 := cW_d 12 10 P
  rw [if_neg (by omega), Int.sub_zero] at ec1
  have ec2 := cW_d 12 11 (P.drop (nW 10 P))
  rw [if_neg (by omega), Int.sub_zero] at ec2
  have hlb2 : (wtN (-27) (nW 10 P) s).2.length + (P.drop (nW 10 P)).length ≤ 400 := by have h1 := hS1.hd.2.2.2; have h2 := hzz1; unfold szS at h2; omega
  obtain ⟨D2, hx2, hS2⟩ := r_settles (n := n) hR hS1 N hN hzz1 (by omega) (by omega) (by omega) 11 (-28) (by decide +kernel)
  have hnl2 := nW_l 11 (P.drop (nW 10 P))
  have hzz2 : szS (wtN (-28) (nW 11 (P.drop (nW 10 P))) (wtN (-27) (nW 10 P) s)) + ((P.drop (nW 10 P)).drop (nW 11 (P.drop (nW 10 P)))).length ≤ N := by rw [wtN_z _ _ (by omega), List.length_drop]; have h2 := hzz1; omega
  have hdl2 : ((P.drop (nW 10 P)).drop (nW 11 (P.drop (nW 10 P)))).length ≤ (P.drop (nW 10 P)).length := by rw [List.length_drop]; omega
  rw [if_neg (by omega), Int.sub_zero] at hS2
  refine xx_callV (q := 184) (As := [_]) (rest := []) rfl rfl rfl (Or.inl rfl) rfl rfl (Nat.le_of_ble_eq_true rfl) xS_479 (XCm hx2 rfl) rfl ?_
  refine xx_iload_n (q := 185) rfl rfl rfl ?_
  refine xx_if_ne (q := 190) (q2 := 188) rfl rfl rfl (fun _ => ?_) (fun h185 => (by exfalso; omega))
  refine xx_aload_n (q := 191) rfl rfl rfl ?_
  refine xx_bipush (q := 193) rfl rfl (by decide) ?_
  refine xx_callV (q := 196) (As := [_]) (rest := []) rfl rfl rfl (Or.inl rfl) rfl rfl (Nat.le_of_ble_eq_true rfl) xS_479 (XCm (r_isSign (n := n) hR hS2 41 (by omega)) rfl) rfl ?_
  refine xx_ifb_ne (q := 205) (q2 := 199) rfl rfl rfl (fun h196 => (by exfalso; (rw [wtN_k, wtN_k] at h196; exact hk3 h196))) (fun _ => ?_)
  refine xx_aload_n (q := 200) rfl rfl rfl ?_
  refine xx_iconst (q := 201) rfl rfl (by decide) ?_
  obtain ⟨D3, hx3, hF3⟩ := r_errs (n := n) hR hS2 1
  refine xx_callV (q := 204) (As := [_]) (rest := []) rfl rfl rfl (Or.inl rfl) rfl rfl (Nat.le_of_ble_eq_true rfl) xS_479 (XCm hx3 rfl) rfl ?_
  exact xx_iret rfl trivial (kq _ hF3)
set_option maxHeartbeats 1000000 in
theorem au_cl {n : Nat} {R : Nat → Nat → Option Nat} {D0 : KK} {bs : List Int} {Q : XQ} (hR : RF R) (hT : TpR bs D0) (hl4 : bs.length ≤ 400) (hby : ∀ j, 0 ≤ bs.getD j 0 ∧ bs.getD j 0 ≤ 255) (hW : WdR D0) (N : Nat) (hN : N ≤ 401) (P : List Int) (s : Sg) (hk : kdS s = 41) (P3 : List Int) (hP3 : (P.drop (nW 10 P)).drop (nW 11 (P.drop (nW 10 P))) = 12 :: P3) (kx : AU bs D0 Q n R N 0 (P3.drop (nW 9 P3)) (stS (wtN (-29) (nW 9 P3) (wtN (-28) (nW 11 (P.drop (nW 10 P))) (wtN (-27) (nW 10 P) s))))) : AU bs D0 Q n R N 0 P s := by
  intro hp hz D x hS
  have hob := oP_b P
  have hcb := cW_b 12 P
  refine xx_iload_n (q := 10) rfl rfl rfl ?_
  refine xx_if_eq (q := 108) (q2 := 13) rfl rfl rfl (fun _ => ?_) (fun h10 => (by exfalso; omega))
  refine xx_aload_n (q := 109) rfl rfl rfl ?_
  refine xx_iconst (q := 110) rfl rfl (by decide) ?_
  refine xx_callV (q := 113) (As := [_]) (rest := []) rfl rfl rfl (Or.inl rfl) rfl rfl (Nat.le_of_ble_eq_true rfl) xS_479 (XCm (r_isWord (n := n) hR hS 305 4 (by decide) (by decide) (by decide +kernel)) rfl) rfl ?_
  refine xx_ifb_eq (q := 137) (q2 := 116) rfl rfl rfl (fun _ => ?_) (fun h113 => (by exfalso; omega))
  refine xx_aload_n (q := 138) rfl rfl rfl ?_
  refine xx_iconst (q := 139) rfl rfl (by decide) ?_
  refine xx_callV (q := 142) (As := [_]) (rest := []) rfl rfl rfl (Or.inl rfl) rfl rfl (Nat.le_of_ble_eq_true rfl) xS_479 (XCm (r_isWord (n := n) hR hS 304 3 (by decide) (by decide) (by decide +kernel)) rfl) rfl ?_
  refine xx_ifb_eq (q := 172) (q2 := 145) rfl rfl rfl (fun _ => ?_) (fun h142 => (by exfalso; omega))
  refine xx_aload_n (q := 173) rfl rfl rfl ?_
  refine xx_bipush (q := 175) rfl rfl (by decide) ?_
  have hlb1 : s.2.length + P.length ≤ 400 := by have h1 := hS.hd.2.2.2; have h2 := hz; unfold szS at h2; omega
  obtain ⟨D1, hx1, hS1⟩ := r_settles (n := n) hR hS N hN hz (by omega) (by omega) (by omega) 10 (-27) (by decide +kernel)
  have hnl1 := nW_l 10 P
  have hzz1 : szS (wtN (-27) (nW 10 P) s) + (P.drop (nW 10 P)).length ≤ N := by rw [wtN_z _ _ (by omega), List.length_drop]; have h2 := hz; omega
  have hdl1 : (P.drop (nW 10 P)).length ≤ P.length := by rw [List.length_drop]; omega
  rw [if_neg (by omega), Int.sub_zero] at hS1
  refine xx_callV (q := 178) (As := [_]) (rest := []) rfl rfl rfl (Or.inl rfl) rfl rfl (Nat.le_of_ble_eq_true rfl) xS_479 (XCm hx1 rfl) rfl ?_
  refine xx_aload_n (q := 179) rfl rfl rfl ?_
  refine xx_bipush (q := 181) rfl rfl (by decide) ?_
  have eo1 := oP_d 10 (by omega) (by omega) P
  have eo2 := oP_d 11 (by omega) (by omega) (P.drop (nW 10 P))
  have ec1 := cW_d 12 10 P
  rw [if_neg (by omega), Int.sub_zero] at ec1
  have ec2 := cW_d 12 11 (P.drop (nW 10 P))
  rw [if_neg (by omega), Int.sub_zero] at ec2
  have hP3l : ((P.drop (nW 10 P)).drop (nW 11 (P.drop (nW 10 P)))).length = P3.length + 1 := by rw [hP3, List.length_cons]
  have hc3 : cW 12 P = 1 + cW 12 P3 := by rw [← ec1, ← ec2, hP3]; exact congrArg (· + cW 12 P3) (if_pos rfl)
  have hcb3 := cW_b 12 P3
  have hlb2 : (wtN (-27) (nW 10 P) s).2.length + (P.drop (nW 10 P)).length ≤ 400 := by have h1 := hS1.hd.2.2.2; have h2 := hzz1; unfold szS at h2; omega
  obtain ⟨D2, hx2, hS2⟩ := r_settles (n := n) hR hS1 N hN hzz1 (by omega) (by omega) (by omega) 11 (-28) (by decide +kernel)
  have hnl2 := nW_l 11 (P.drop (nW 10 P))
  have hzz2 : szS (wtN (-28) (nW 11 (P.drop (nW 10 P))) (wtN (-27) (nW 10 P) s)) + ((P.drop (nW 10 P)).drop (nW 11 (P.drop (nW 10 P)))).length ≤ N := by rw [wtN_z _ _ (by omega), List.length_drop]; have h2 := hzz1; omega
  have hdl2 : ((P.drop (nW 10 P)).drop (nW 11 (P.drop (nW 10 P)))).length ≤ (P.drop (nW 10 P)).length := by rw [List.length_drop]; omega
  rw [if_neg (by omega), Int.sub_zero] at hS2
  refine xx_callV (q := 184) (As := [_]) (rest := []) rfl rfl rfl (Or.inl rfl) rfl rfl (Nat.le_of_ble_eq_true rfl) xS_479 (XCm hx2 rfl) rfl ?_
  refine xx_iload_n (q := 185) rfl rfl rfl ?_
  refine xx_if_ne (q := 190) (q2 := 188) rfl rfl rfl (fun _ => ?_) (fun h185 => (by exfalso; omega))
  refine xx_aload_n (q := 191) rfl rfl rfl ?_
  refine xx_bipush (q := 193) rfl rfl (by decide) ?_
  refine xx_callV (q := 196) (As := [_]) (rest := []) rfl rfl rfl (Or.inl rfl) rfl rfl (Nat.le_of_ble_eq_true rfl) xS_479 (XCm (r_isSign (n := n) hR hS2 41 (by omega)) rfl) rfl ?_
  refine xx_ifb_ne (q := 205) (q2 := 199) rfl rfl rfl (fun _ => ?_) (fun h196 => (by exfalso; (rw [wtN_k, wtN_k] at h196; exact h196 hk)))
  refine xx_aload_n (q := 206) rfl rfl rfl ?_
  refine xx_aload_n (q := 207) rfl rfl rfl ?_
  refine xx_gez (q := 210) rfl rfl rfl xS_479 (Nat.le_of_ble_eq_true rfl) rfl hS2.2.2.2.2.2.2.1.1 ?_
  refine xx_iconst (q := 211) rfl rfl (by decide) ?_
  refine xx_isubR (q := 212) rfl rfl (by omega) (by omega) ?_
  refine xr_puz (RgS bs D0 (wtN (-28) (nW 11 (P.drop (nW 10 P))) (wtN (-27) (nW 10 P) s)) (oP P) P3) (q := 215) rfl rfl rfl xS_479 (Nat.le_of_ble_eq_true rfl) (Nat.le_of_ble_eq_true rfl) (fun h => by cases h) (Or.inl rfl) (hS2.pend (PnR.pop (w := 12) (by rw [← hP3]; exact hS2.2.2.2.2.2.2.1) (xui_s.trans (by omega)) (fun k => xui_a (by omega))) ((xui_j (by omega)).trans hS2.2.2.2.2.2.1) (fun x k q1 q2 => if_neg (fun r => by have := q1 r.1; omega))) (fun D4 hS4 => ?_)
  refine xx_iload_n (q := 216) rfl rfl rfl ?_
  refine xx_iconst (q := 217) rfl rfl (by decide) ?_
  refine xx_isubR (q := 218) rfl rfl (by omega) (by omega) ?_
  refine xx_istore_n (q := 219) (loc2 := [_, _, _, _]) rfl rfl (Nat.le_of_ble_eq_true rfl) rfl ?_
  refine xx_aload_n (q := 220) rfl rfl rfl ?_
  refine xx_aload_n (q := 221) rfl rfl rfl ?_
  refine xx_gez (q := 224) rfl rfl rfl xS_479 (Nat.le_of_ble_eq_true rfl) rfl hS4.2.2.2.2.2.1 ?_
  refine xx_iconst (q := 225) rfl rfl (by decide) ?_
  refine xx_isubR (q := 226) rfl rfl (by omega) (by omega) ?_
  refine xr_puz (RgS bs D0 (wtN (-28) (nW 11 (P.drop (nW 10 P))) (wtN (-27) (nW 10 P) s)) ((oP P) - 1) P3) (q := 229) rfl rfl rfl xS_479 (Nat.le_of_ble_eq_true rfl) (Nat.le_of_ble_eq_true rfl) (fun h => by cases h) (Or.inl rfl) (hS4.pend (hS4.2.2.2.2.2.2.1.fr (xui_j (by omega)) (fun k => xui_a (by omega))) xui_s (fun x k q1 q2 => if_neg (fun r => by have := q1 r.1; omega))) (fun D7 hS7 => ?_)
  have eo3 : oP P - 1 = oP P3 := by rw [← eo1, ← eo2, hP3, oP_c, if_neg (by omega), if_pos rfl]; omega
  rw [eo3] at hS7
  have hob3 := oP_b P3
  have hz3 : szS (wtN (-28) (nW 11 (P.drop (nW 10 P))) (wtN (-27) (nW 10 P) s)) + P3.length ≤ N := by omega
  refine xx_aload_n (q := 230) rfl rfl rfl ?_
  refine xx_bipush (q := 232) rfl rfl (by decide) ?_
  have hlb8 : (wtN (-28) (nW 11 (P.drop (nW 10 P))) (wtN (-27) (nW 10 P) s)).2.length + P3.length ≤ 400 := by have h1 := hS7.hd.2.2.2; have h2 := hz3; unfold szS at h2; omega
  obtain ⟨D8, hx8, hS8⟩ := r_settles (n := n) hR hS7 N hN hz3 (by omega) (by omega) (by omega) 9 (-29) (by decide +kernel)
  have hnl8 := nW_l 9 P3
  have hzz8 : szS (wtN (-29) (nW 9 P3) (wtN (-28) (nW 11 (P.drop (nW 10 P))) (wtN (-27) (nW 10 P) s))) + (P3.drop (nW 9 P3)).length ≤ N := by rw [wtN_z _ _ (by omega), List.length_drop]; have h2 := hz3; omega
  have hdl8 : (P3.drop (nW 9 P3)).length ≤ P3.length := by rw [List.length_drop]; omega
  rw [if_pos rfl] at hS8
  refine xx_callV (q := 235) (As := [_]) (rest := []) rfl rfl rfl (Or.inl rfl) rfl rfl (Nat.le_of_ble_eq_true rfl) xS_479 (XCm hx8 rfl) rfl ?_
  refine xx_aload_n (q := 236) rfl rfl rfl ?_
  obtain ⟨D9, hx9, hS9, hs9⟩ := r_nexT (n := n) hR hT hl4 hby hW hS8 (by rw [wtN_k, wtN_k, wtN_k]; omega)
  refine xx_callV (q := 239) (As := []) (rest := []) rfl rfl rfl (Or.inl rfl) rfl rfl (Nat.le_of_ble_eq_true rfl) xS_479 (XCm hx9 rfl) rfl ?_
  refine xx_goto (q := 9) rfl rfl ?_
  have e9 := oP_d9 P3
  have ec9 := cW_d 12 9 P3
  rw [if_neg (by omega), Int.sub_zero] at ec9
  rw [← e9] at hS9
  rw [show cW 12 P - 1 = cW 12 (P3.drop (nW 9 P3)) by omega]
  exact kx (by omega) (by omega) _ _ hS9
set_option maxHeartbeats 1000000 in
theorem au_cmpG {n : Nat} {R : Nat → Nat → Option Nat} {D0 : KK} {bs : List Int} {Q : XQ} (hR : RF R) (hT : TpR bs D0) (hl4 : bs.length ≤ 400) (hby : ∀ j, 0 ≤ bs.getD j 0 ∧ bs.getD j 0 ≤ 255) (hW : WdR D0) (N : Nat) (hN : N ≤ 401) (P : List Int) (s : Sg) (hwh : D0 479 37 = 0) (hk : ¬ kdS s = 306) (hk2 : ¬ kdS s = 40) (kx : (cmF 0 s).1.1 = 0 → AU bs D0 Q n R N 0 (P.drop (nW 9 P)) (wtN (-29) (nW 9 P) (cmF 0 s))) (kq : (cmF 0 s).1.1 ≠ 0 → QF D0 Q n R (cmF 0 s).1) : AU bs D0 Q n R N 1 P s := by
  intro hp hz D x hS
  have hob := oP_b P
  have hcb := cW_b 12 P
  refine xx_iload_n (q := 10) rfl rfl rfl ?_
  refine xx_if_eq (q := 108) (q2 := 13) rfl rfl rfl (fun h10 => (by exfalso; omega)) (fun _ => ?_)
  refine xx_aload_n (q := 14) rfl rfl rfl ?_
  refine xx_iconst (q := 15) rfl rfl (by decide) ?_
  refine xx_callV (q := 18) (As := [_]) (rest := []) rfl rfl rfl (Or.inl rfl) rfl rfl (Nat.le_of_ble_eq_true rfl) xS_479 (XCm (r_isWord (n := n) hR hS 306 5 (by decide) (by decide) (by decide +kernel)) rfl) rfl ?_
  refine xx_istore_n (q := 19) (loc2 := [_, _, _, _]) rfl rfl (Nat.le_of_ble_eq_true rfl) rfl ?_
  refine xx_iload_n (q := 20) rfl rfl rfl ?_
  refine xx_ifb_ne (q := 32) (q2 := 23) rfl rfl rfl (fun h20 => (by exfalso; (exact hk h20))) (fun _ => ?_)
  refine xx_aload_n (q := 24) rfl rfl rfl ?_
  refine xx_bipush (q := 26) rfl rfl (by decide) ?_
  refine xx_callV (q := 29) (As := [_]) (rest := []) rfl rfl rfl (Or.inl rfl) rfl rfl (Nat.le_of_ble_eq_true rfl) xS_479 (XCm (r_isSign (n := n) hR hS 40 (by omega)) rfl) rfl ?_
  refine xx_ifb_eq (q := 87) (q2 := 32) rfl rfl rfl (fun _ => ?_) (fun h29 => (by exfalso; (exact hk2 h29)))
  refine xx_aload_n (q := 88) rfl rfl rfl ?_
  obtain ⟨z1, D1, hx1, hq1⟩ := r_cmpG (n := n) hR hT hl4 hby hW hwh (N - P.length) (by omega) hS (by omega)
  refine xx_callV (q := 91) (As := []) (rest := []) rfl rfl rfl (Or.inl rfl) rfl rfl (Nat.le_of_ble_eq_true rfl) xS_479 (XCm hx1 rfl) rfl ?_
  refine xx_iconst (q := 92) rfl rfl (by decide) ?_
  refine xx_icmp_ne (q := 97) (q2 := 95) rfl rfl rfl (fun h92 => ?_) (fun h92 => ?_)
  · replace hq1 := hq1.resolve_right (fun q => h92 q.2.1)
    have hzq : szS (cmF 0 s) + P.length ≤ N := by have := hq1.2.2.2; omega
    replace kx := kx hq1.1
    refine xx_aload_n (q := 98) rfl rfl rfl ?_
    refine xx_bipush (q := 100) rfl rfl (by decide) ?_
    have hlb2 : (cmF 0 s).2.length + P.length ≤ 400 := by have h1 := hq1.2.2.1.hd.2.2.2; have h2 := hzq; unfold szS at h2; omega
    obtain ⟨D2, hx2, hS2⟩ := r_settles (n := n) hR hq1.2.2.1 N hN hzq (by omega) (by omega) (by omega) 9 (-29) (by decide +kernel)
    have hnl2 := nW_l 9 P
    have hzz2 : szS (wtN (-29) (nW 9 P) (cmF 0 s)) + (P.drop (nW 9 P)).length ≤ N := by rw [wtN_z _ _ (by omega), List.length_drop]; have h2 := hzq; omega
    have hdl2 : (P.drop (nW 9 P)).length ≤ P.length := by rw [List.length_drop]; omega
    rw [if_pos rfl] at hS2
    refine xx_callV (q := 103) (As := [_]) (rest := []) rfl rfl rfl (Or.inl rfl) rfl rfl (Nat.le_of_ble_eq_true rfl) xS_479 (XCm hx2 rfl) rfl ?_
    refine xx_iconst (q := 104) rfl rfl (by decide) ?_
    refine xx_istore_n (q := 105) (loc2 := [_, _, _, _]) rfl rfl (Nat.le_of_ble_eq_true rfl) rfl ?_
    refine xx_goto (q := 9) rfl rfl ?_
    have e9 := oP_d9 P
    have ec9 := cW_d 12 9 P
    rw [if_neg (by omega), Int.sub_zero] at ec9
    rw [← e9] at hS2
    rw [← ec9]
    exact kx (by omega) hzz2 _ _ hS2
  · refine xx_iconst (q := 96) rfl rfl (by decide) ?_
    replace hq1 := hq1.resolve_left (fun q => by have := q.2.1; omega)
    exact xx_iret rfl trivial (kq hq1.1 _ hq1.2.2)
set_option maxHeartbeats 1000000 in
theorem au_cmpH {n : Nat} {R : Nat → Nat → Option Nat} {D0 : KK} {bs : List Int} {Q : XQ} (hR : RF R) (hT : TpR bs D0) (hl4 : bs.length ≤ 400) (hby : ∀ j, 0 ≤ bs.getD j 0 ∧ bs.getD j 0 ≤ 255) (hW : WdR D0) (N : Nat) (hN : N ≤ 401) (P : List Int) (s : Sg) (hwh : D0 479 37 = 1) (hk : ¬ kdS s = 306) (hk2 : ¬ kdS s = 40) (kx : (cmF 1 s).1.1 = 0 → AU bs D0 Q n R N 0 (P.drop (nW 9 P)) (wtN (-29) (nW 9 P) (cmF 1 s))) (kq : (cmF 1 s).1.1 ≠ 0 → QF D0 Q n R (cmF 1 s).1) : AU bs D0 Q n R N 1 P s := by
  intro hp hz D x hS
  have hob := oP_b P
  have hcb := cW_b 12 P
  refine xx_iload_n (q := 10) rfl rfl rfl ?_
  refine xx_if_eq (q := 108) (q2 := 13) rfl rfl rfl (fun h10 => (by exfalso; omega)) (fun _ => ?_)
  refine xx_aload_n (q := 14) rfl rfl rfl ?_
  refine xx_iconst (q := 15) rfl rfl (by decide) ?_
  refine xx_callV (q := 18) (As := [_]) (rest := []) rfl rfl rfl (Or.inl rfl) rfl rfl (Nat.le_of_ble_eq_true rfl) xS_479 (XCm (r_isWord (n := n) hR hS 306 5 (by decide) (by decide) (by decide +kernel)) rfl) rfl ?_
  refine xx_istore_n (q := 19) (loc2 := [_, _, _, _]) rfl rfl (Nat.le_of_ble_eq_true rfl) rfl ?_
  refine xx_iload_n (q := 20) rfl rfl rfl ?_
  refine xx_ifb_ne (q := 32) (q2 := 23) rfl rfl rfl (fun h20 => (by exfalso; (exact hk h20))) (fun _ => ?_)
  refine xx_aload_n (q := 24) rfl rfl rfl ?_
  refine xx_bipush (q := 26) rfl rfl (by decide) ?_
  refine xx_callV (q := 29) (As := [_]) (rest := []) rfl rfl rfl (Or.inl rfl) rfl rfl (Nat.le_of_ble_eq_true rfl) xS_479 (XCm (r_isSign (n := n) hR hS 40 (by omega)) rfl) rfl ?_
  refine xx_ifb_eq (q := 87) (q2 := 32) rfl rfl rfl (fun _ => ?_) (fun h29 => (by exfalso; (exact hk2 h29)))
  refine xx_aload_n (q := 88) rfl rfl rfl ?_
  obtain ⟨z1, D1, hx1, hq1⟩ := r_cmpH (n := n) hR hT hl4 hby hW hwh (N - P.length) (by omega) hS (by omega)
  refine xx_callV (q := 91) (As := []) (rest := []) rfl rfl rfl (Or.inl rfl) rfl rfl (Nat.le_of_ble_eq_true rfl) xS_479 (XCm hx1 rfl) rfl ?_
  refine xx_iconst (q := 92) rfl rfl (by decide) ?_
  refine xx_icmp_ne (q := 97) (q2 := 95) rfl rfl rfl (fun h92 => ?_) (fun h92 => ?_)
  · replace hq1 := hq1.resolve_right (fun q => h92 q.2.1)
    have hzq : szS (cmF 1 s) + P.length ≤ N := by have := hq1.2.2.2; omega
    replace kx := kx hq1.1
    refine xx_aload_n (q := 98) rfl rfl rfl ?_
    refine xx_bipush (q := 100) rfl rfl (by decide) ?_
    have hlb2 : (cmF 1 s).2.length + P.length ≤ 400 := by have h1 := hq1.2.2.1.hd.2.2.2; have h2 := hzq; unfold szS at h2; omega
    obtain ⟨D2, hx2, hS2⟩ := r_settles (n := n) hR hq1.2.2.1 N hN hzq (by omega) (by omega) (by omega) 9 (-29) (by decide +kernel)
    have hnl2 := nW_l 9 P
    have hzz2 : szS (wtN (-29) (nW 9 P) (cmF 1 s)) + (P.drop (nW 9 P)).length ≤ N := by rw [wtN_z _ _ (by omega), List.length_drop]; have h2 := hzq; omega
    have hdl2 : (P.drop (nW 9 P)).length ≤ P.length := by rw [List.length_drop]; omega
    rw [if_pos rfl] at hS2
    refine xx_callV (q := 103) (As := [_]) (rest := []) rfl rfl rfl (Or.inl rfl) rfl rfl (Nat.le_of_ble_eq_true rfl) xS_479 (XCm hx2 rfl) rfl ?_
    refine xx_iconst (q := 104) rfl rfl (by decide) ?_
    refine xx_istore_n (q := 105) (loc2 := [_, _, _, _]) rfl rfl (Nat.le_of_ble_eq_true rfl) rfl ?_
    refine xx_goto (q := 9) rfl rfl ?_
    have e9 := oP_d9 P
    have ec9 := cW_d 12 9 P
    rw [if_neg (by omega), Int.sub_zero] at ec9
    rw [← e9] at hS2
    rw [← ec9]
    exact kx (by omega) hzz2 _ _ hS2
  · refine xx_iconst (q := 96) rfl rfl (by decide) ?_
    replace hq1 := hq1.resolve_left (fun q => by have := q.2.1; omega)
    exact xx_iret rfl trivial (kq hq1.1 _ hq1.2.2)
