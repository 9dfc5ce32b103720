/-! Shared passings: the reference. -/
theorem gsw {l : List Int} {p q t : Nat} (hp : p < l.length) (hq : q < l.length) : (swp l p q).getD t 0 = if t = q then l.getD p 0 else if t = p then l.getD q 0 else l.getD t 0 := by
  unfold swp
  rw [gs_l _ _ _ _ (by rw [List.length_set]; exact hq), gs_l _ _ _ _ hp]
def InS (br : Int → Int) (l : List Int) (i k : Nat) : Prop := (∀ a b, a < b → b ≤ i → a ≠ k → b ≠ k → br (l.getD a 0) ≤ br (l.getD b 0)) ∧ ∀ b, k < b → b ≤ i → br (l.getD k 0) ≤ br (l.getD b 0)
def SoT (br : Int → Int) (l : List Int) (i : Nat) : Prop := ∀ a b, a < b → b ≤ i → br (l.getD a 0) ≤ br (l.getD b 0)
theorem InS_s {br : Int → Int} {l : List Int} {i k : Nat} (h : InS br l i (k + 1)) (hlt : br (l.getD (k + 1) 0) < br (l.getD k 0)) (hk : k + 1 ≤ i) (hi : i < l.length) : InS br (swp l (k + 1) k) i k := by
  refine ⟨fun a b h1 h2 h3 h4 => ?_, fun b h1 h2 => ?_⟩
  · rw [gsw (by omega) (by omega), gsw (by omega) (by omega), if_neg h3, if_neg h4]
    rcases Classical.em (a = k + 1) with q | q
    · rw [if_pos q, if_neg (by omega)]; exact h.1 k b (by omega) h2 (by omega) (by omega)
    · rw [if_neg q]
      rcases Classical.em (b = k + 1) with r | r
      · rw [if_pos r]; exact h.1 a k (by omega) (by omega) q (by omega)
      · rw [if_neg r]; exact h.1 a b h1 h2 q r
  · rw [gsw (by omega) (by omega), gsw (by omega) (by omega), if_pos rfl, if_neg (by omega)]
    rcases Classical.em (b = k + 1) with r | r
    · rw [if_pos r]; omega
    · rw [if_neg r]; exact h.2 b (by omega) h2
theorem InS_e {br : Int → Int} {l : List Int} {i k : Nat} (h : InS br l i k) (he : k = 0 ∨ br (l.getD (k - 1) 0) ≤ br (l.getD k 0)) : SoT br l i := by
  intro a b h1 h2
  rcases Classical.em (b = k) with q | q
  · have e : br (l.getD (k - 1) 0) ≤ br (l.getD k 0) := by omega
    rw [q]
    rcases Classical.em (a = k - 1) with r | r
    · rw [r]; exact e
    · exact Int.le_trans (h.1 a (k - 1) (by omega) (by omega) (by omega) (by omega)) e
  · rcases Classical.em (a = k) with r | r
    · rw [r]; exact h.2 b (by omega) h2
    · exact h.1 a b h1 h2 r q
theorem InS_0 {br : Int → Int} {l : List Int} {i : Nat} (h : SoT br l (i - 1)) : InS br l i i := ⟨fun a b h1 h2 h3 h4 => h a b h1 (by omega), fun b h1 h2 => by omega⟩
def BdL (B : Int) (l : List Int) : Prop := ∀ j, j < l.length → 0 ≤ l.getD j 0 ∧ l.getD j 0 < B
theorem BdL_swp {B : Int} {l : List Int} {p q : Nat} (h : BdL B l) (hp : p < l.length) (hq : q < l.length) : BdL B (swp l p q) := by
  intro j hj
  rw [swp_len] at hj
  rw [gsw hp hq]
  split
  · exact h p hp
  · split
    · exact h q hq
    · exact h j hj
theorem swp_perm {l : List Int} {p q : Nat} (hp : p < l.length) (hq : q < l.length) : (swp l p q).Perm l := by
  have h := List.set_set_perm (as := l) hp hq
  unfold swp
  simpa [List.getD, hp, hq] using h
set_option maxHeartbeats 4000000 in
theorem r_so_I {n : Nat} {R : Nat → Nat → Option Nat} {K D0 : KK} {b : Int} {B : Nat → Int} {U : UU} {Q : XQ} (hR : RF R) (hV0 : RV 0 K b B U D0 D0) (hI : KI K) (N : Nat) (hN : N ≤ 6) (i : Nat) (hi : i < N) : ∀ (k : Nat) (l : List Int) (D : KK), LnR l D → l.length = N → BdL (K 13 0) l → InS (brK K) l i k → k ≤ i → (∀ x k, x ≠ 513 → D x k = D0 x k) → (∀ (l2 : List Int) (D2 : KK) (k2 : Int), LnR l2 D2 → l2.Perm l → BdL (K 13 0) l2 → SoT (brK K) l2 i → (∀ x k, x ≠ 513 → D2 x k = D0 x k) → XX (XC 1) 287 Q 54 [some (.inr (some 479)), some (.inl (N : Int)), some (.inl (i : Int)), some (.inl k2)] [] (xS n, R, D2)) → XX (XC 1) 287 (Q) 9 [some (.inr (some 479)), some (.inl (N : Int)), some (.inl (i : Int)), some (.inl (k : Int))] [] (xS n, R, D) := by
  intro k
  induction k using Nat.strongRecOn with
  | ind k ih =>
  intro l D hL hl hbd hS hk hF kx
  have hV : RV 0 K b B U D D := hV0.self2 (fun x k q => hF x k (by omega))
  have hbB := ki_B hI
  have hl6 : l.length ≤ 6 := by omega
  refine xx_iload_n (q := 10) rfl rfl rfl ?_
  refine xx_if_le (q := 54) (q2 := 13) rfl rfl rfl (fun h10 => ?_) (fun h10 => ?_)
  · obtain rfl : k = 0 := by omega
    exact kx l D 0 hL (List.Perm.refl _) hbd (InS_e hS (Or.inl rfl)) hF
  · refine xx_aload_n (q := 14) rfl rfl rfl ?_
    refine xx_getR (q := 17) rfl rfl rfl xS_479 (Nat.le_of_ble_eq_true rfl) rfl (hR.1 479 14 rfl) ?_
    refine xx_aload_n (q := 18) rfl rfl rfl ?_
    refine xx_getR (q := 21) rfl rfl rfl xS_479 (Nat.le_of_ble_eq_true rfl) rfl (hR.1 479 60 rfl) ?_
    refine xx_iload_n (q := 22) rfl rfl rfl ?_
    refine xx_iaz (v := l.getD ((k : Int)).toNat 0) (q := 23) rfl rfl xS_513 (by omega) (by omega) (hL.z (by omega) (by omega)) ?_
    have hbd1 := hbd ((k : Int)).toNat (by omega)
    refine xx_iaz (v := K 16 (l.getD ((k : Int)).toNat 0).toNat) (q := 24) rfl rfl xS_489 (by omega) (by omega) (rv_489 hV (p := l.getD ((k : Int)).toNat 0) (by omega) (by omega)) ?_
    have hb2 : 0 ≤ K 16 (l.getD ((k : Int)).toNat 0).toNat ∧ K 16 (l.getD ((k : Int)).toNat 0).toNat ≤ 9 := by have h := ki_16 hI (l.getD ((k : Int)).toNat 0).toNat; exact h
    refine xx_aload_n (q := 25) rfl rfl rfl ?_
    refine xx_getR (q := 28) rfl rfl rfl xS_479 (Nat.le_of_ble_eq_true rfl) rfl (hR.1 479 14 rfl) ?_
    refine xx_aload_n (q := 29) rfl rfl rfl ?_
    refine xx_getR (q := 32) rfl rfl rfl xS_479 (Nat.le_of_ble_eq_true rfl) rfl (hR.1 479 60 rfl) ?_
    refine xx_iload_n (q := 33) rfl rfl rfl ?_
    refine xx_iconst (q := 34) rfl rfl (by decide) ?_
    refine xx_isubR (q := 35) rfl rfl (by omega) (by omega) ?_
    refine xx_iaz (v := l.getD ((k : Int) - 1).toNat 0) (q := 36) rfl rfl xS_513 (by omega) (by omega) (hL.z (by omega) (by omega)) ?_
    have hbd3 := hbd ((k : Int) - 1).toNat (by omega)
    refine xx_iaz (v := K 16 (l.getD ((k : Int) - 1).toNat 0).toNat) (q := 37) rfl rfl xS_489 (by omega) (by omega) (rv_489 hV (p := l.getD ((k : Int) - 1).toNat 0) (by omega) (by omega)) ?_
    have hb4 : 0 ≤ K 16 (l.getD ((k : Int) - 1).toNat 0).toNat ∧ K 16 (l.getD ((k : Int) - 1).toNat 0).toNat ≤ 9 := by have h := ki_16 hI (l.getD ((k : Int) - 1).toNat 0).toNat; exact h
    refine xx_icmp_ge (q := 54) (q2 := 40) rfl rfl rfl (fun h37 => ?_) (fun h37 => ?_)
    · refine kx l D _ hL (List.Perm.refl _) hbd (InS_e hS (Or.inr ?_)) hF
      rw [show (k : Int).toNat = k by omega, show ((k : Int) - 1).toNat = k - 1 by omega] at h37
      exact (show brK K (l.getD (k - 1) 0) ≤ brK K (l.getD k 0) from by unfold brK; omega)
    · refine xx_aload_n (q := 41) rfl rfl rfl ?_
      refine xx_iload_n (q := 42) rfl rfl rfl ?_
      refine xx_iload_n (q := 43) rfl rfl rfl ?_
      refine xx_iconst (q := 44) rfl rfl (by decide) ?_
      refine xx_isubR (q := 45) rfl rfl (by omega) (by omega) ?_
      obtain ⟨D5, hx5, hL5, hF5⟩ := r_changes (n := n) hR l hL hl6 (k : Int) ((k : Int) - 1) (by omega) (by omega) (by omega) (by omega)
      refine xx_callV (q := 48) (As := [_, _]) (rest := []) rfl rfl rfl (Or.inl rfl) rfl rfl (Nat.le_of_ble_eq_true rfl) xS_479 (XCm hx5 rfl) rfl ?_
      refine xx_incz (q := 51) (loc2 := [_, _, _, _]) rfl rfl rfl (by omega) (by omega) rfl rfl ?_
      refine xx_goto (q := 9) rfl rfl ?_
      obtain ⟨k, rfl⟩ : ∃ k2, k = k2 + 1 := ⟨k - 1, by omega⟩
      have hLz := hL5
      rw [show ((k + 1 : Nat) : Int).toNat = k + 1 by omega, show (((k + 1 : Nat) : Int) - 1).toNat = k by omega] at hLz h37
      rw [show ((k + 1 : Nat) : Int) + (-1) = (k : Int) by omega]
      exact ih k (by omega) _ _ hLz (by rw [swp_len]; exact hl) (BdL_swp hbd (by omega) (by omega)) (InS_s hS (show brK K (l.getD (k + 1) 0) < brK K (l.getD k 0) from by unfold brK; omega) hk (by omega)) (by omega) (fun x j q => (hF5 x j q).trans (hF x j q)) (fun l2 D2 k2 q1 q2 q3 q4 q5 => kx l2 D2 k2 q1 (q2.trans (swp_perm (by omega) (by omega))) q3 q4 q5)
set_option maxHeartbeats 1000000 in
theorem r_so_O {n : Nat} {R : Nat → Nat → Option Nat} {K D0 : KK} {b : Int} {B : Nat → Int} {U : UU} (hR : RF R) (hV0 : RV 0 K b B U D0 D0) (hI : KI K) (N : Nat) (hN : N ≤ 6) : ∀ (k : Nat) (l : List Int) (D : KK) (i : Nat) (x : Option XV), LnR l D → l.length = N → BdL (K 13 0) l → SoT (brK K) l (i - 1) → (∀ x k, x ≠ 513 → D x k = D0 x k) → 1 ≤ i → i + k = N → XX (XC 1) 287 (XP none (xS n) R (fun D' => ∃ l2, LnR l2 D' ∧ l2.Perm l ∧ BdL (K 13 0) l2 ∧ SrtB (brK K) l2 ∧ ∀ x k, x ≠ 513 → D' x k = D0 x k)) 2 [some (.inr (some 479)), some (.inl (N : Int)), some (.inl (i : Int)), x] [] (xS n, R, D) := by
  intro k
  induction k using Nat.strongRecOn with
  | ind k ih =>
  intro l D i x hL hl hbd hS hF hi1 hk
  refine xx_iload_n (q := 3) rfl rfl rfl ?_
  refine xx_iload_n (q := 4) rfl rfl rfl ?_
  refine xx_icmp_ge (q := 60) (q2 := 7) rfl rfl rfl (fun h4 => ?_) (fun h4 => ?_)
  · obtain rfl : k = 0 := by omega
    exact xx_vret rfl rfl ⟨rfl, _, rfl, l, hL, List.Perm.refl _, hbd, fun a c q1 q2 => hS a c q1 (by omega), hF⟩
  · obtain ⟨k, rfl⟩ : ∃ k2, k = k2 + 1 := ⟨k - 1, by omega⟩
    refine xx_iload_n (q := 8) rfl rfl rfl ?_
    refine xx_istore_n (q := 9) (loc2 := [_, _, _, _]) rfl rfl (Nat.le_of_ble_eq_true rfl) rfl ?_
    refine r_so_I hR hV0 hI N hN i (by omega) i l D hL hl hbd (InS_0 hS) (Nat.le_refl _) hF (fun l2 D2 k2 q1 q2 q3 q4 q5 => ?_)
    refine xx_incz (q := 57) (loc2 := [_, _, _, _]) rfl rfl rfl (by omega) (by omega) rfl rfl ?_
    refine xx_goto (q := 2) rfl rfl ?_
    rw [show (i : Int) + 1 = ((i + 1 : Nat) : Int) by omega]
    refine XP_mono (fun D3 h => ?_) (ih k (by omega) l2 D2 (i + 1) _ q1 (q2.length_eq.trans hl) q3 (by rw [show i + 1 - 1 = i by omega]; exact q4) q5 (by omega) (by omega))
    obtain ⟨l3, a1, a2, a3⟩ := h
    exact ⟨l3, a1, a2.trans q2, a3⟩
set_option maxHeartbeats 1000000 in
theorem r_sorts {n : Nat} {R : Nat → Nat → Option Nat} {K D : KK} {b : Int} {B : Nat → Int} {U : UU} (hR : RF R) (hV0 : RV 0 K b B U D D) (hI : KI K) (l : List Int) (hL : LnR l D) (hl1 : 1 ≤ l.length) (hl6 : l.length ≤ 6) (hbd : BdL (K 13 0) l) : ∃ D', XC 2 287 [.inr (some 479), .inl (l.length : Int)] (xS n, R, D) none (xS n, R, D') ∧ ∃ l2, LnR l2 D' ∧ l2.Perm l ∧ BdL (K 13 0) l2 ∧ SrtB (brK K) l2 ∧ ∀ x k, x ≠ 513 → D' x k = D x k := by
  refine XE_of (Nat.le_of_ble_eq_true rfl) (Nat.le_of_ble_eq_true rfl) (loc := [_, _, _, _]) rfl ?_
  refine xx_iconst (q := 1) rfl rfl (by decide) ?_
  refine xx_istore_n (q := 2) (loc2 := [_, _, _, _]) rfl rfl (Nat.le_of_ble_eq_true rfl) rfl ?_
  exact r_so_O hR hV0 hI l.length hl6 (l.length - 1) l D 1 _ hL rfl hbd (fun a c q1 q2 => by omega) (fun _ _ _ => rfl) (Nat.le_refl _) (by omega)
abbrev onP (K : KK) (l : List Int) : Prop := ∀ j, j < l.length → K 14 (l.getD j 0).toNat = K 14 (l.getD 0 0).toNat
set_option maxHeartbeats 1000000 in
theorem r_ai_L {n : Nat} {R : Nat → Nat → Option Nat} {K D0 D : KK} {b : Int} {B : Nat → Int} {U : UU} (hR : RF R) (hV : RV 0 K b B U D0 D) (hI : KI K) (l : List Int) (hL : LnR l D) (hl1 : 1 ≤ l.length) (hl6 : l.length ≤ 6) (hbd : BdL (K 13 0) l) : ∀ (k : Nat) (i : Int), (∀ j : Nat, (j : Int) < i → K 14 (l.getD j 0).toNat = K 14 (l.getD 0 0).toNat) → 1 ≤ i → i + k = (l.length : Int) → XX (XC 0) 288 (fun r2 m2 => r2 = some (.inl (bi (onP K l))) ∧ m2 = (xS n, R, D)) 2 [some (.inr (some 479)), some (.inl (l.length : Int)), some (.inl i)] [] (xS n, R, D) := by
  intro k
  induction k using Nat.strongRecOn with
  | ind k ih =>
  intro i hA h1 hk
  have hbB := ki_B hI
  refine xx_iload_n (q := 3) rfl rfl rfl ?_
  refine xx_iload_n (q := 4) rfl rfl rfl ?_
  refine xx_icmp_ge (q := 46) (q2 := 7) rfl rfl rfl (fun h4 => ?_) (fun h4 => ?_)
  · refine xx_iconst (q := 47) rfl rfl (by decide) ?_
    exact xx_iret rfl (Or.inr rfl) ⟨congrArg (fun z => some (Sum.inl z)) (bi_t (fun j hj => hA j (by omega))).symm, rfl⟩
  · obtain ⟨k, rfl⟩ : ∃ k2, k = k2 + 1 := ⟨k - 1, by omega⟩
    refine xx_aload_n (q := 8) rfl rfl rfl ?_
    refine xx_getR (q := 11) rfl rfl rfl xS_479 (Nat.le_of_ble_eq_true rfl) rfl (hR.1 479 1 rfl) ?_
    refine xx_bipush (q := 13) rfl rfl (by decide) ?_
    refine xx_aload_n (q := 14) rfl rfl rfl ?_
    refine xx_getR (q := 17) rfl rfl rfl xS_479 (Nat.le_of_ble_eq_true rfl) rfl (hR.1 479 60 rfl) ?_
    refine xx_iload_n (q := 18) rfl rfl rfl ?_
    refine xx_iaz (v := l.getD (i).toNat 0) (q := 19) rfl rfl xS_513 (by omega) (by omega) (hL.z (by omega) (by omega)) ?_
    have hbd1 := hbd (i).toNat (by omega)
    refine xx_iaddR (q := 20) rfl rfl (by omega) (by omega) ?_
    refine xx_iaz (v := K 14 (l.getD (i).toNat 0).toNat) (q := 21) rfl rfl xS_480 (by omega) (by omega) (rv_14 hV (p := l.getD (i).toNat 0) (by omega) (by omega)) ?_
    have hb2 : 0 ≤ K 14 (l.getD (i).toNat 0).toNat ∧ K 14 (l.getD (i).toNat 0).toNat ≤ 9 := by have h := ki_14 hI (l.getD (i).toNat 0).toNat; exact h
    refine xx_aload_n (q := 22) rfl rfl rfl ?_
    refine xx_getR (q := 25) rfl rfl rfl xS_479 (Nat.le_of_ble_eq_true rfl) rfl (hR.1 479 1 rfl) ?_
    refine xx_bipush (q := 27) rfl rfl (by decide) ?_
    refine xx_aload_n (q := 28) rfl rfl rfl ?_
    refine xx_getR (q := 31) rfl rfl rfl xS_479 (Nat.le_of_ble_eq_true rfl) rfl (hR.1 479 60 rfl) ?_
    refine xx_iconst (q := 32) rfl rfl (by decide) ?_
    refine xx_iaz (v := l.getD 0 0) (q := 33) rfl rfl xS_513 (by omega) (by omega) (hL 0 (by omega)) ?_
    have hbd3 := hbd 0 (by omega)
    refine xx_iaddR (q := 34) rfl rfl (by omega) (by omega) ?_
    refine xx_iaz (v := K 14 (l.getD 0 0).toNat) (q := 35) rfl rfl xS_480 (by omega) (by omega) (rv_14 hV (p := l.getD 0 0) (by omega) (by omega)) ?_
    have hb4 : 0 ≤ K 14 (l.getD 0 0).toNat ∧ K 14 (l.getD 0 0).toNat ≤ 9 := by have h := ki_14 hI (l.getD 0 0).toNat; exact h
    refine xx_icmp_eq (q := 40) (q2 := 38) rfl rfl rfl (fun h35 => ?_) (fun h35 => ?_)
    · refine xx_incz (q := 43) (loc2 := [_, _, _]) rfl rfl rfl (by omega) (by omega) rfl rfl ?_
      refine xx_goto (q := 2) rfl rfl ?_
      refine ih k (by omega) _ (fun j hj => ?_) (by omega) (by omega)
      rcases Classical.em (j = i.toNat) with e | e
      · rw [e]; exact h35
      · exact hA j (by omega)
    · refine xx_iconst (q := 39) rfl rfl (by decide) ?_
      exact xx_iret rfl (Or.inl rfl) ⟨congrArg (fun z => some (Sum.inl z)) (bi_f (fun q => h35 (q i.toNat (by omega)))).symm, rfl⟩
set_option maxHeartbeats 1000000 in
theorem r_areInOnePool {n : Nat} {R : Nat → Nat → Option Nat} {K D0 D : KK} {b : Int} {B : Nat → Int} {U : UU} (hR : RF R) (hV : RV 0 K b B U D0 D) (hI : KI K) (l : List Int) (hL : LnR l D) (hl1 : 1 ≤ l.length) (hl6 : l.length ≤ 6) (hbd : BdL (K 13 0) l) : XC 1 288 [.inr (some 479), .inl (l.length : Int)] (xS n, R, D) (some (.inl (bi (onP K l)))) (xS n, R, D) := by
  refine XC_of (Nat.le_of_ble_eq_true rfl) (Nat.le_of_ble_eq_true rfl) (loc := [_, _, _]) rfl ?_
  refine xx_iconst (q := 1) rfl rfl (by decide) ?_
  refine xx_istore_n (q := 2) (loc2 := [_, _, _]) rfl rfl (Nat.le_of_ble_eq_true rfl) rfl ?_
  exact r_ai_L hR hV hI l hL hl1 hl6 hbd (l.length - 1) 1 (fun j hj => by rw [show j = 0 by omega]) (by omega) (by omega)
