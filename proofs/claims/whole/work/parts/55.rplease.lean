/-! The reference: whom to please. -/
theorem r_nextShare {n : Nat} {R : Nat → Nat → Option Nat} {D : KK} (hR : RF R) (nn : Int) (hn1 : 1 ≤ nn) (hn9 : nn ≤ 9) (hD : ∀ j : Nat, (j : Int) < nn → 0 ≤ D 510 j ∧ D 510 j ≤ 99) : ∃ D', XC 1 266 [.inr (some 479), .inl nn] (xS n, R, D) (some (.inl (if (nfL (D 510) (nn - 1).toNat (D 510 (nn - 1).toNat)).1 < 0 then 0 else 1))) (xS n, R, D') ∧ ((nfL (D 510) (nn - 1).toNat (D 510 (nn - 1).toNat)).1 < 0 → D' = D) ∧ (0 ≤ (nfL (D 510) (nn - 1).toNat (D 510 (nn - 1).toNat)).1 → (∀ j, D' 510 j = nxF (D 510) (nfL (D 510) (nn - 1).toNat (D 510 (nn - 1).toNat)).1 (nfL (D 510) (nn - 1).toNat (D 510 (nn - 1).toNat)).2 nn j) ∧ ∀ x j, x ≠ 510 → D' x j = D x j) := by
  refine XE_of (Nat.le_of_ble_eq_true rfl) (Nat.le_of_ble_eq_true rfl) (loc := [_, _, _, _, _]) rfl ?_
  refine xx_aload_n (q := 1) rfl rfl rfl ?_
  refine xx_getR (q := 4) rfl rfl rfl xS_479 (Nat.le_of_ble_eq_true rfl) rfl (hR.1 479 55 rfl) ?_
  refine xx_iload_n (q := 5) rfl rfl rfl ?_
  refine xx_iconst (q := 6) rfl rfl (by decide) ?_
  refine xx_isubR (q := 7) rfl rfl (by omega) (by omega) ?_
  refine xx_iaz (v := D 510 (nn - 1).toNat) (q := 8) rfl rfl xS_510 (by omega) (by omega) rfl ?_
  have hb1 := hD (nn - 1).toNat (by omega)
  refine xx_istore_n (q := 9) (loc2 := [_, _, _, _, _]) rfl rfl (Nat.le_of_ble_eq_true rfl) rfl ?_
  refine xx_iload_n (q := 10) rfl rfl rfl ?_
  refine xx_iconst (q := 11) rfl rfl (by decide) ?_
  refine xx_isubR (q := 12) rfl rfl (by omega) (by omega) ?_
  refine xx_istore_n (q := 13) (loc2 := [_, _, _, _, _]) rfl rfl (Nat.le_of_ble_eq_true rfl) rfl ?_
  exact XP_mono (fun D2 h => h) (r_nx_F hR nn hn1 hn9 hD (nn - 1).toNat (D 510 (nn - 1).toNat) (nn - 2) _ (by omega) (by omega) (by omega) (by omega))
/-- the next row of amounts, as lists -/
theorem r_next {n N : Nat} {R : Nat → Nat → Option Nat} {D : KK} (hR : RF R) (hN : N ≤ 8) (hD : ∀ j : Nat, j ≤ N → 0 ≤ D 510 j ∧ D 510 j ≤ 99) : ∃ D' r, XC 1 266 [.inr (some 479), .inl ((N : Int) + 1)] (xS n, R, D) (some (.inl r)) (xS n, R, D') ∧ ((nl (sfx (D 510) (N + 1) 0) = none ∧ r = 0 ∧ D' = D) ∨ (nl (sfx (D 510) (N + 1) 0) = some (sfx (D' 510) (N + 1) 0) ∧ r = 1 ∧ ∀ x j, x ≠ 510 → D' x j = D x j)) := by
  obtain ⟨D', h1, h2, h3⟩ := r_nextShare (n := n) hR ((N : Int) + 1) (by omega) (by omega) (D := D) (fun j hj => hD j (by omega))
  have e : ((N : Int) + 1 - 1).toNat = N := by omega
  rw [e] at h1 h2 h3
  rcases nl_nf0 (sh := D 510) (n := N) (fun j hj => (hD j hj).1) with ⟨q1, q2⟩ | ⟨q1, q2⟩
  · rw [if_pos q2] at h1
    exact ⟨D', _, h1, Or.inl ⟨q1, rfl, h2 q2⟩⟩
  · rw [if_neg (by omega)] at h1
    refine ⟨D', _, h1, Or.inr ⟨?_, rfl, (h3 q1).2⟩⟩
    rw [q2]
    congr 1
    exact sfx_c _ _ (fun j _ _ => ((h3 q1).1 j).symm)
theorem sum_b : ∀ (l : List Int), (∀ x ∈ l, 0 ≤ x) → 0 ≤ l.sum ∧ ∀ x ∈ l, x ≤ l.sum
  | [], _ => ⟨Int.le_refl _, fun x hx => by cases hx⟩
  | a :: l, h => by
    obtain ⟨h1, h2⟩ := sum_b l (fun x hx => h x (List.mem_cons_of_mem _ hx))
    have h3 := h a List.mem_cons_self
    rw [List.sum_cons]
    refine ⟨by omega, fun x hx => ?_⟩
    rcases List.mem_cons.mp hx with rfl | q
    · omega
    · have := h2 x q; omega
theorem sfx_m {f : Nat → Int} : ∀ k p j, p ≤ j → j < p + k → f j ∈ sfx f k p
  | 0, _, _, h1, h2 => by omega
  | k + 1, p, j, h1, h2 => by
    rcases Classical.em (j = p) with rfl | q
    · exact List.mem_cons_self
    · exact List.mem_cons_of_mem _ (sfx_m k (p + 1) j (by omega) (by omega))
theorem sfx_b {f : Nat → Int} {k j : Nat} (h : ∀ x ∈ sfx f k 0, 0 ≤ x) (hs : (sfx f k 0).sum ≤ 99) (hj : j < k) : 0 ≤ f j ∧ f j ≤ 99 := by
  have h1 := sfx_m (f := f) k 0 j (by omega) (by omega)
  have h2 := (sum_b _ h).2 _ h1
  exact ⟨h _ h1, by omega⟩
set_option maxHeartbeats 1000000 in
theorem r_cp_L {n N : Nat} {R : Nat → Nat → Option Nat} {K D0 S : KK} {b : Int} {B : Nat → Int} {U : UU} (hR : RF R) (hI : KI K) {G Hh : LwF} (hG : RLG G n R D0) (hH : RLH Hh n R D0) (boat good up all : Int) (hb0 : 0 ≤ boat) (hbc : boat < K 13 0) (hg0 : 0 ≤ good) (hg1 : good ≤ 3) (hN : N ≤ 8) (hpl : ¬ up = 0 → K 14 boat.toNat ≤ K 0 0) (hm : (N : Int) + 1 ≤ mesF K boat up) (hall : all ≤ K 17 (boat * 4 + good).toNat) : ∀ (k : Nat) (r : List Int) (t : List (List Int)) (D : KK) (x : Option XV), t.length = k → RT K b B U K D0 D → chE (r :: t) none → (∀ r2 ∈ r :: t, (r2.sum = all ∧ r2.length = N + 1) ∧ ∀ x ∈ r2, 0 ≤ x) → sfx (D 510) (N + 1) 0 = r → (∀ x j, 511 ≤ x → D x j = S x j) → XX (XC 9) 268 (XP (some (.inl (bi (((r :: t).find? (cmbB G Hh boat good up K)).isSome = true)))) (xS n) R (fun D' => RT K b B U K D0 D' ∧ (∀ l, (r :: t).find? (cmbB G Hh boat good up K) = some l → sfx (D' 510) (N + 1) 0 = l) ∧ ∀ x j, 511 ≤ x → D' x j = S x j)) 11 [some (.inr (some 479)), some (.inl boat), some (.inl good), some (.inl up), some (.inl ((N : Int) + 1)), some (.inl all), some (.inl 1), x] [] (xS n, R, D) := by
  intro k
  induction k using Nat.strongRecOn with
  | ind k ih =>
  intro r t D x hk hT hch hgd hr hF
  have h17 := ki_17 hI (boat * 4 + good).toNat
  have hg := hgd r List.mem_cons_self
  have hsfx0 : sfx (fun j => if j ≤ N then D 510 j else 0) (N + 1) 0 = r := by rw [← hr]; exact sfx_c _ _ (fun j _ q => if_pos (by omega))
  have hDb : ∀ j : Nat, j ≤ N → 0 ≤ D 510 j ∧ D 510 j ≤ 99 := fun j hj => sfx_b (by rw [hr]; exact hg.2) (by rw [hr, hg.1.1]; omega) (by omega)
  have hsh0 : ∀ j : Nat, 0 ≤ (fun j => if j ≤ N then D 510 j else 0) j := fun j => by
    show 0 ≤ if j ≤ N then D 510 j else 0
    split
    · exact (hDb j (by assumption)).1
    · exact Int.le_refl _
  have eN : ((N : Int) + 1).toNat = N + 1 := by omega
  have hsm : smF (fun j => if j ≤ N then D 510 j else 0) ((N : Int) + 1).toNat 0 ≤ K 17 (boat * 4 + good).toNat := by
    have e2 := sfx_sum (sh := fun j => if j ≤ N then D 510 j else 0) (N + 1) 0
    rw [eN]
    rw [hsfx0, hg.1.1] at e2
    exact e2 ▸ hall
  have hcm : cmbL G Hh boat good up (fun j => if j ≤ N then D 510 j else 0) ((N : Int) + 1).toNat 0 K = cmbB G Hh boat good up K r := by
    have e2 := sfx_cmb (G := G) (Hh := Hh) (boat := boat) (good := good) (up := up) (sh := fun j => if j ≤ N then D 510 j else 0) (N + 1) 0 K
    rw [eN]
    rw [hsfx0] at e2
    exact e2
  refine xx_iload (q := 13) rfl rfl rfl ?_
  refine xx_if_eq (q := 49) (q2 := 16) rfl rfl rfl (fun h13 => (by exfalso; omega)) (fun _ => ?_)
  refine xx_aload_n (q := 17) rfl rfl rfl ?_
  refine xx_iload_n (q := 18) rfl rfl rfl ?_
  refine xx_iload_n (q := 19) rfl rfl rfl ?_
  refine xx_iload_n (q := 20) rfl rfl rfl ?_
  refine xx_iload (q := 22) rfl rfl rfl ?_
  obtain ⟨D1, hx1, M1, hT1, hIm1, hs1⟩ := r_comesBy (n := n) hR hT hI hG hH boat good up ((N : Int) + 1) hb0 hbc hg0 hg1 (by omega) (by omega) (fun j => if j ≤ N then D 510 j else 0) hsh0 (fun j hj => (if_pos (show j ≤ N by omega)).symm) hpl hm hsm
  rw [hcm] at hx1
  refine xx_callV (q := 25) (As := [_, _, _, _]) (rest := []) rfl rfl rfl (Or.inl rfl) rfl rfl (Nat.le_of_ble_eq_true rfl) xS_479 (XCm hx1 rfl) rfl ?_
  refine xx_istore (q := 27) (loc2 := [_, _, _, _, _, _, _, _]) rfl rfl (Nat.le_of_ble_eq_true rfl) rfl ?_
  refine xx_aload_n (q := 28) rfl rfl rfl ?_
  obtain ⟨D2, hx2, hT2, hA2⟩ := r_thinksAnew (n := n) hR hT1 hI
  refine xx_callV (q := 31) (As := []) (rest := []) rfl rfl rfl (Or.inl rfl) rfl rfl (Nat.le_of_ble_eq_true rfl) xS_479 (XCm hx2 rfl) rfl ?_
  refine xx_iload (q := 33) rfl rfl rfl ?_
  refine xx_ifb_eq (q := 38) (q2 := 36) rfl rfl rfl (fun h33 => ?_) (fun h33 => ?_)
  · refine xx_aload_n (q := 39) rfl rfl rfl ?_
    refine xx_iload (q := 41) rfl rfl rfl ?_
    have hkeep : ∀ x j, 510 ≤ x → D2 x j = D x j := fun x j q => (hA2 x j (by omega)).trans (hs1 x j q)
    obtain ⟨D3, rr3, hx3, hnx⟩ := r_next (n := n) (D := D2) hR hN (fun j hj => by rw [hkeep 510 j (by omega)]; exact hDb j hj)
    refine xx_callV (q := 44) (As := [_]) (rest := []) rfl rfl rfl (Or.inl rfl) rfl rfl (Nat.le_of_ble_eq_true rfl) xS_479 (XCm hx3 rfl) rfl ?_
    refine xx_istore (q := 46) (loc2 := [_, _, _, _, _, _, _, _]) rfl rfl (Nat.le_of_ble_eq_true rfl) rfl ?_
    refine xx_goto (q := 11) rfl rfl ?_
    have e : (r :: t).find? (cmbB G Hh boat good up K) = t.find? (cmbB G Hh boat good up K) := by rw [List.find?_cons, eq_false_of_ne_true h33]
    rw [e]
    have hsf : sfx (D2 510) (N + 1) 0 = r := by rw [← hr]; exact sfx_c _ _ (fun j _ _ => hkeep 510 j (by omega))
    rw [hsf] at hnx
    rcases hnx with ⟨q1, q2, q3⟩ | ⟨q1, q2, q3⟩
    · have et : t = [] := by
        cases t with
        | nil => rfl
        | cons y t2 =>
          have h9 : nl r = some y := hch.1
          rw [q1] at h9
          cases h9
      subst et
      subst q2
      refine xx_iload (q := 13) rfl rfl rfl ?_
      refine xx_if_eq (q := 49) (q2 := 16) rfl rfl rfl (fun _ => ?_) (fun h => (by exfalso; omega))
      refine xx_iconst (q := 50) rfl rfl (by decide) ?_
      rw [q3]
      exact xx_iret rfl (Or.inl rfl) ⟨congrArg (fun z => some (Sum.inl z)) (bi_f (by intro q; cases q)).symm, _, rfl, hT2, fun l hl => (by cases hl), fun x j q => (hkeep x j (by omega)).trans (hF x j q)⟩
    · subst q2
      cases t with
      | nil =>
        have h9 : nl r = none := hch
        rw [h9] at q1
        cases q1
      | cons y t2 =>
        have h9 : nl r = some y := hch.1
        rw [h9] at q1
        refine ih t2.length (by rw [← hk]; show _ < t2.length + 1; omega) y t2 _ _ rfl (hT2.scr (fun x j q5 q6 => q3 x j (by omega))) hch.2 (fun r2 hr2 => hgd r2 (List.mem_cons_of_mem _ hr2)) (Option.some.inj q1).symm (fun x j q => (q3 x j (by omega)).trans ((hkeep x j (by omega)).trans (hF x j q)))
  · refine xx_iconst (q := 37) rfl rfl (by decide) ?_
    have e : (r :: t).find? (cmbB G Hh boat good up K) = some r := by rw [List.find?_cons, h33]
    rw [e]
    refine xx_iret rfl (Or.inr rfl) ⟨congrArg (fun z => some (Sum.inl z)) (bi_t rfl).symm, _, rfl, hT2, fun l hl => ?_, fun x j q => (hA2 x j (by omega)).trans ((hs1 x j (by omega)).trans (hF x j q))⟩
    obtain rfl := Option.some.inj hl
    rw [← hr]
    exact sfx_c _ _ (fun j _ _ => (hA2 510 j (by omega)).trans (hs1 510 j (by omega)))
