/-! Orders: the reference. -/
def farS (G : LwF) (up : Int) : List Int → KK → Int × KK
  | [], K => (0, K)
  | b :: r, K => ((farF K G b up).1 + (farS G up r (farF K G b up).2.2).1, (farS G up r (farF K G b up).2.2).2)
theorem farL_k {G : LwF} {boat up : Int} {o : Nat} (h : o = 0 ∨ o = 13) : ∀ (k : Nat) (K : KK) (w g : Int), (farL G boat up k K w g).2.2 o 0 = K o 0
  | 0, _, _, _ => rfl
  | k + 1, K, w, g => by
    unfold farL
    split
    · rfl
    · rw [farL_k h k]; exact pasT_k h
theorem farF_k {K : KK} {G : LwF} {boat up : Int} {o : Nat} (h : o = 0 ∨ o = 13) : (farF K G boat up).2.2 o 0 = K o 0 := (farL_k h _ _ _ _).trans (pasT_k h)
theorem farF_I {K : KK} {G : LwF} {boat up : Int} (h : KI K) : KI (farF K G boat up).2.2 := farL_I _ _ _ _ (pasT_I h)
theorem farS_b {G : LwF} {up : Int} : ∀ (l : List Int) (K : KK), 0 ≤ (farS G up l K).1 ∧ (farS G up l K).1 ≤ 9 * (l.length : Int)
  | [], K => ⟨by show (0 : Int) ≤ 0; omega, by show (0 : Int) ≤ 9 * 0; omega⟩
  | b :: r, K => by
    have h1 := farF_g (K := K) (G := G) (boat := b) (up := up)
    have h2 := farS_b (G := G) (up := up) r (farF K G b up).2.2
    show 0 ≤ (farF K G b up).1 + (farS G up r (farF K G b up).2.2).1 ∧ (farF K G b up).1 + (farS G up r (farF K G b up).2.2).1 ≤ 9 * (((b :: r).length : Nat) : Int)
    rw [List.length_cons]
    omega
theorem gd_app {l r : List Int} {b : Int} : (l ++ b :: r).getD l.length 0 = b := by simp [List.getD]
set_option maxHeartbeats 4000000 in
theorem r_fl_L {n : Nat} {R : Nat → Nat → Option Nat} {K Dz D0 : KK} {b : Int} {B : Nat → Int} {U : UU} (hR : RF R) (hI : KI K) {G : LwF} (hG : RLG G n R Dz) (hlw : ∀ x k, 499 ≤ x → x ≤ 505 → D0 x k = Dz x k) (up : Int) {S : KK} : ∀ (k : Nat) (p r : List Int) (L D : KK) (sum : Int), RT K b B U L D0 D → KI L → L 13 0 = K 13 0 → (p ++ r).length ≤ 6 → (∀ c ∈ r, 0 ≤ c ∧ c < K 13 0) → LnR (p ++ r) D → (∀ x k, 510 ≤ x → D x k = S x k) → 0 ≤ sum → sum ≤ 9 * (p.length : Int) → r.length = k → XX (XC 9) 284 (XP (some (.inl (sum + (farS G up r L).1))) (xS n) R (fun D' => RT K b B U K D0 D' ∧ ∀ x k, 510 ≤ x → D' x k = S x k)) 5 [some (.inr (some 479)), some (.inl (((p ++ r).length : Nat) : Int)), some (.inl up), some (.inl sum), some (.inl (p.length : Int))] [] (xS n, R, D) := by
  intro k
  induction k using Nat.strongRecOn with
  | ind k ih =>
  intro p r L D sum hT hJ hB hl6 hr hL hS hs0 hs1 hk
  have hbB := ki_B hI
  have hlp : (p ++ r).length = p.length + r.length := List.length_append
  refine xx_iload (q := 7) rfl rfl rfl ?_
  refine xx_iload_n (q := 8) rfl rfl rfl ?_
  refine xx_icmp_ge (q := 32) (q2 := 11) rfl rfl rfl (fun h8 => ?_) (fun h8 => ?_)
  · refine xx_aload_n (q := 33) rfl rfl rfl ?_
    obtain ⟨D1, hx1, hT1, hA1⟩ := r_thinksAnew (n := n) hR hT hI
    refine xx_callV (q := 36) (As := []) (rest := []) rfl rfl rfl (Or.inl rfl) rfl rfl (Nat.le_of_ble_eq_true rfl) xS_479 (XCm hx1 rfl) rfl ?_
    refine xx_iload_n (q := 37) rfl rfl rfl ?_
    cases r with
    | cons bb r => exfalso; have : (p ++ bb :: r).length = p.length + (r.length + 1) := List.length_append; omega
    | nil =>
      exact xx_iret rfl trivial ⟨congrArg (fun z => some (Sum.inl z)) (show sum = sum + 0 by omega), _, rfl, hT1, fun x k q => (hA1 x k (by omega)).trans (hS x k q)⟩
  · obtain ⟨bb, r, rfl⟩ : ∃ bb r2, r = bb :: r2 := by
      cases r with
      | nil => exfalso; have : (p ++ ([] : List Int)).length = p.length + 0 := List.length_append; omega
      | cons bb r => exact ⟨bb, r, rfl⟩
    have hbb : (p ++ bb :: r).getD (p.length : Int).toNat 0 = bb := gd_app
    have hbr := hr bb (List.mem_cons_self ..)
    refine xx_iload_n (q := 12) rfl rfl rfl ?_
    refine xx_aload_n (q := 13) rfl rfl rfl ?_
    refine xx_aload_n (q := 14) rfl rfl rfl ?_
    refine xx_getR (q := 17) rfl rfl rfl xS_479 (Nat.le_of_ble_eq_true rfl) rfl (hR.1 479 60 rfl) ?_
    refine xx_iload (q := 19) rfl rfl rfl ?_
    refine xx_iaz (v := bb) (q := 20) rfl rfl xS_513 (by omega) (by omega) ((hL.z (by omega) (by omega)).trans hbb) ?_
    refine xx_iload_n (q := 21) rfl rfl rfl ?_
    obtain ⟨D2, hx2, hT2, ho2, hw2⟩ := r_goesFar (n := n) hR hT hJ (RLG.fr hG hlw) bb up (by omega) (by omega)
    have hg2 := farF_g (K := L) (G := G) (boat := bb) (up := up)
    refine xx_callV (q := 24) (As := [_, _]) (rest := [_]) rfl rfl rfl (Or.inl rfl) rfl rfl (Nat.le_of_ble_eq_true rfl) xS_479 (XCm hx2 rfl) rfl ?_
    refine xx_iaddR (q := 25) rfl rfl (by omega) (by omega) ?_
    refine xx_istore_n (q := 26) (loc2 := [_, _, _, _, _]) rfl rfl (Nat.le_of_ble_eq_true rfl) rfl ?_
    refine xx_incz (q := 29) (loc2 := [_, _, _, _, _]) rfl rfl rfl (by omega) (by omega) rfl rfl ?_
    refine xx_goto (q := 5) rfl rfl ?_
    have e1 : p ++ bb :: r = (p ++ [bb]) ++ r := by rw [List.append_assoc]; rfl
    have e2 : (p.length : Int) + 1 = (((p ++ [bb]).length : Nat) : Int) := by rw [List.length_append]; rfl
    have e3 : sum + (farS G up (bb :: r) L).1 = (sum + (farF L G bb up).1) + (farS G up r (farF L G bb up).2.2).1 := by show sum + ((farF L G bb up).1 + (farS G up r (farF L G bb up).2.2).1) = _; omega
    rw [e3, e2, e1]
    exact ih r.length (by rw [List.length_cons] at hk; omega) (p ++ [bb]) r _ _ _ hT2 (farF_I hJ) ((farF_k (Or.inr rfl)).trans hB) (by rw [← e1]; exact hl6) (fun c hc => hr c (List.mem_cons_of_mem _ hc)) (by rw [← e1]; exact hL.fr (fun k => ho2 513 k (by omega))) (fun x k q => (ho2 x k q).trans (hS x k q)) (by omega) (by omega) rfl
set_option maxHeartbeats 1000000 in
theorem r_farOfLine {n : Nat} {R : Nat → Nat → Option Nat} {K Dz D0 : KK} {b : Int} {B : Nat → Int} {U : UU} (hR : RF R) (hI : KI K) {G : LwF} (hG : RLG G n R Dz) (hlw : ∀ x k, 499 ≤ x → x ≤ 505 → D0 x k = Dz x k) (up : Int) {D : KK} (l : List Int) (hT : RT K b B U K D0 D) (hl6 : l.length ≤ 6) (hl : ∀ c ∈ l, 0 ≤ c ∧ c < K 13 0) (hL : LnR l D) : ∃ D', XC 10 284 [.inr (some 479), .inl (l.length : Int), .inl up] (xS n, R, D) (some (.inl ((farS G up l K).1))) (xS n, R, D') ∧ RT K b B U K D0 D' ∧ ∀ x k, 510 ≤ x → D' x k = D x k := by
  refine XE_of (Nat.le_of_ble_eq_true rfl) (Nat.le_of_ble_eq_true rfl) (loc := [_, _, _, _, _]) rfl ?_
  refine xx_iconst (q := 1) rfl rfl (by decide) ?_
  refine xx_istore_n (q := 2) (loc2 := [_, _, _, _, _]) rfl rfl (Nat.le_of_ble_eq_true rfl) rfl ?_
  refine xx_iconst (q := 3) rfl rfl (by decide) ?_
  refine xx_istore (q := 5) (loc2 := [_, _, _, _, _]) rfl rfl (Nat.le_of_ble_eq_true rfl) rfl ?_
  have h := r_fl_L (S := D) (D0 := D0) hR hI hG hlw up l.length [] l K D 0 hT hI rfl hl6 hl hL (fun _ _ _ => rfl) (by omega) (by show (0 : Int) ≤ 9 * 0; omega) rfl
  rw [Int.zero_add] at h
  exact h
def fldR (G : LwF) (up : Int) (K : KK) : List (List Int) → Int × List Int → Int × List Int
  | [], a => a
  | l :: r, a => fldR G up K r (if a.1 < (farS G up l K).1 then ((farS G up l K).1, l) else a)
def BlR (l : List Int) (D : KK) : Prop := ∀ j, j < l.length → D 514 j = l.getD j 0
theorem nxI_lnT {k : Nat} {l : List Int} {r : List (List Int)} (h : lnT (k + 1) l = some r) : (nxI l (l.length - 1) < 0 ∧ r = [l]) ∨ (¬ nxI l (l.length - 1) < 0 ∧ ∃ r2, lnT k (nxS l (nxI l (l.length - 1)).toNat) = some r2 ∧ r = l :: r2) := by
  unfold lnT at h
  split at h
  · next q => exact Or.inl ⟨q, (Option.some.inj h).symm⟩
  · next q =>
    refine Or.inr ⟨q, ?_⟩
    split at h
    · cases h
    · next r2 e => exact ⟨r2, e, (Option.some.inj h).symm⟩
theorem swp_mem {l : List Int} {i j : Nat} {c : Int} (hi : i < l.length) (hj : j < l.length) (h : c ∈ swp l i j) : c ∈ l := by
  unfold swp at h
  rcases List.mem_or_eq_of_mem_set h with h | h
  · rcases List.mem_or_eq_of_mem_set h with h | h
    · exact h
    · rw [h]; simp [List.getD, hj]
  · rw [h]; simp [List.getD, hi]
theorem nxV_mem {N i : Nat} {c : Int} : ∀ (f k : Nat) (l : List Int), l.length = N → c ∈ nxV N i f k l → c ∈ l
  | 0, _, _, _, h => h
  | f + 1, k, l, hl, h => by
    unfold nxV at h
    split at h
    · exact swp_mem (by omega) (by omega) (nxV_mem f (k + 1) _ (by rw [swp_len]; exact hl) h)
    · exact h
theorem nxJ_b (l : List Int) (v : Int) : ∀ k : Nat, 0 < k → nxJ l v k < k
  | 0, h => absurd h (Nat.lt_irrefl _)
  | k + 1, _ => by
    unfold nxJ
    split
    · rcases Nat.eq_zero_or_pos k with e | e
      · subst e; exact Nat.lt_succ_self _
      · have := nxJ_b l v k e; omega
    · omega
theorem nxS_mem {l : List Int} {i : Nat} {c : Int} (hi : i < l.length) (h : c ∈ nxS l i) : c ∈ l := by
  unfold nxS at h
  have hj := nxJ_b l (l.getD i 0) l.length (by omega)
  exact swp_mem hi hj (nxV_mem _ _ _ swp_len h)
set_option maxHeartbeats 1000000 in
theorem r_or_C {n : Nat} {R : Nat → Nat → Option Nat} {S : KK} {Q : XQ} (hR : RF R) (s up w best v : Int) (hv : best < v) (l : List Int) (hL : LnR l S) (hl6 : l.length ≤ 6) : ∀ (k : Nat) (D : KK) (i : Int), (∀ j : Nat, (j : Int) < i → D 514 j = l.getD j 0) → (∀ x k, x ≠ 514 → D x k = S x k) → 0 ≤ i → i + k = (l.length : Int) → (∀ (D2 : KK) (i2 : Int), BlR l D2 → (∀ x k, x ≠ 514 → D2 x k = S x k) → XX (XC 10) 286 Q 114 [some (.inr (some 479)), some (.inl s), some (.inl up), some (.inl w), some (.inl (l.length : Int)), some (.inl best), some (.inl 1), some (.inl v), some (.inl i2)] [] (xS n, R, D2)) → XX (XC 10) 286 (Q) 80 [some (.inr (some 479)), some (.inl s), some (.inl up), some (.inl w), some (.inl (l.length : Int)), some (.inl best), some (.inl 1), some (.inl v), some (.inl i)] [] (xS n, R, D) := by
  intro k
  induction k using Nat.strongRecOn with
  | ind k ih =>
  intro D i hB hS h0 hk kx
  refine xx_iload (q := 82) rfl rfl rfl ?_
  refine xx_iload (q := 84) rfl rfl rfl ?_
  refine xx_icmp_ge (q := 114) (q2 := 87) rfl rfl rfl (fun h84 => ?_) (fun h84 => ?_)
  · obtain rfl : k = 0 := by omega
    exact kx D i (fun j hj => hB j (by omega)) hS
  · obtain ⟨k, rfl⟩ : ∃ k2, k = k2 + 1 := ⟨k - 1, by omega⟩
    refine xx_iload (q := 89) rfl rfl rfl ?_
    refine xx_iload (q := 91) rfl rfl rfl ?_
    refine xx_icmp_le (q := 114) (q2 := 94) rfl rfl rfl (fun h91 => (by exfalso; omega)) (fun _ => ?_)
    refine xx_aload_n (q := 95) rfl rfl rfl ?_
    refine xx_getR (q := 98) rfl rfl rfl xS_479 (Nat.le_of_ble_eq_true rfl) rfl (hR.1 479 61 rfl) ?_
    refine xx_iload (q := 100) rfl rfl rfl ?_
    refine xx_aload_n (q := 101) rfl rfl rfl ?_
    refine xx_getR (q := 104) rfl rfl rfl xS_479 (Nat.le_of_ble_eq_true rfl) rfl (hR.1 479 60 rfl) ?_
    refine xx_iload (q := 106) rfl rfl rfl ?_
    refine xx_iaz (v := l.getD (i).toNat 0) (q := 107) rfl rfl xS_513 (by omega) (by omega) ((hS 513 _ (by omega)).trans (hL.z (by omega) (by omega))) ?_
    refine xr_isz (fun d => (∀ j : Nat, (j : Int) < i + 1 → d 514 j = l.getD j 0) ∧ ∀ x k, x ≠ 514 → d x k = S x k) (q := 108) rfl rfl xS_514 (by omega) (by omega) ⟨fun j hj => (by rcases Classical.em (j = i.toNat) with e | q; (rw [e]; exact xui_s); (rw [xui_j q]; exact hB j (by omega))), fun x k q => (xui_a q).trans (hS x k q)⟩ (fun D2 hD2 => ?_)
    refine xx_incz (q := 111) (loc2 := [_, _, _, _, _, _, _, _, _]) rfl rfl rfl (by omega) (by omega) rfl rfl ?_
    refine xx_goto (q := 80) rfl rfl ?_
    exact ih k (by omega) D2 _ hD2.1 hD2.2 (by omega) (by omega) kx
set_option maxHeartbeats 1000000 in
theorem r_or_N {n : Nat} {R : Nat → Nat → Option Nat} {D : KK} {Q : XQ} (hR : RF R) (s up w best v i : Int) (l : List Int) (hL : LnR l D) (hl1 : 1 ≤ l.length) (hl6 : l.length ≤ 6) (kx0 : nxI l (l.length - 1) < 0 → ∀ (bs : Int) (D3 : KK), bs = (if best < v then v else best) → (∀ x k, x ≠ 513 → D3 x k = D x k) → XX (XC 10) 286 Q 141 [some (.inr (some 479)), some (.inl s), some (.inl up), some (.inl w), some (.inl (l.length : Int)), some (.inl bs), some (.inl 0), some (.inl v), some (.inl i)] [] (xS n, R, D3)) (kx1 : ¬ nxI l (l.length - 1) < 0 → ∀ (bs : Int) (D3 : KK), bs = (if best < v then v else best) → LnR (nxS l (nxI l (l.length - 1)).toNat) D3 → (∀ x k, x ≠ 513 → D3 x k = D x k) → XX (XC 10) 286 Q 63 [some (.inr (some 479)), some (.inl s), some (.inl up), some (.inl w), some (.inl (l.length : Int)), some (.inl bs), some (.inl 1), some (.inl v), some (.inl i)] [] (xS n, R, D3)) : XX (XC 10) 286 Q 114 [some (.inr (some 479)), some (.inl s), some (.inl up), some (.inl w), some (.inl (l.length : Int)), some (.inl best), some (.inl 1), some (.inl v), some (.inl i)] [] (xS n, R, D) := by
  refine xx_iload (q := 116) rfl rfl rfl ?_
  refine xx_iload (q := 118) rfl rfl rfl ?_
  refine xx_icmp_le (q := 126) (q2 := 121) rfl rfl rfl (fun h118 => ?_) (fun h118 => ?_)
  · refine xx_iload (q := 128) rfl rfl rfl ?_
    refine xx_istore (q := 130) (loc2 := [_, _, _, _, _, _, _, _, _]) rfl rfl (Nat.le_of_ble_eq_true rfl) rfl ?_
    refine xx_aload_n (q := 131) rfl rfl rfl ?_
    refine xx_iload (q := 133) rfl rfl rfl ?_
    obtain ⟨D1, hx1, hL1, hF1⟩ := r_nextLine (n := n) hR l hL hl1 hl6
    refine xx_callV (q := 136) (As := [_]) (rest := []) rfl rfl rfl (Or.inl rfl) rfl rfl (Nat.le_of_ble_eq_true rfl) xS_479 (XCm hx1 rfl) rfl ?_
    refine xx_istore (q := 138) (loc2 := [_, _, _, _, _, _, _, _, _]) rfl rfl (Nat.le_of_ble_eq_true rfl) rfl ?_
    refine xx_goto (q := 63) rfl rfl ?_
    have hbs : best = if best < v then v else best := by split <;> omega
    rcases Classical.em (nxI l (l.length - 1) < 0) with q | q
    · rw [if_pos q]
      refine xx_iload (q := 65) rfl rfl rfl ?_
      refine xx_if_eq (q := 141) (q2 := 68) rfl rfl rfl (fun _ => ?_) (fun h65 => (by exfalso; omega))
      exact kx0 q _ D1 hbs hF1
    · rw [if_neg q]
      rw [if_neg q] at hL1
      exact kx1 q _ D1 hbs hL1 hF1
  · refine xx_iload (q := 123) rfl rfl rfl ?_
    refine xx_goto (q := 128) rfl rfl ?_
    refine xx_istore (q := 130) (loc2 := [_, _, _, _, _, _, _, _, _]) rfl rfl (Nat.le_of_ble_eq_true rfl) rfl ?_
    refine xx_aload_n (q := 131) rfl rfl rfl ?_
    refine xx_iload (q := 133) rfl rfl rfl ?_
    obtain ⟨D2, hx2, hL2, hF2⟩ := r_nextLine (n := n) hR l hL hl1 hl6
    refine xx_callV (q := 136) (As := [_]) (rest := []) rfl rfl rfl (Or.inl rfl) rfl rfl (Nat.le_of_ble_eq_true rfl) xS_479 (XCm hx2 rfl) rfl ?_
    refine xx_istore (q := 138) (loc2 := [_, _, _, _, _, _, _, _, _]) rfl rfl (Nat.le_of_ble_eq_true rfl) rfl ?_
    refine xx_goto (q := 63) rfl rfl ?_
    have hbs : v = if best < v then v else best := by split <;> omega
    rcases Classical.em (nxI l (l.length - 1) < 0) with q | q
    · rw [if_pos q]
      refine xx_iload (q := 65) rfl rfl rfl ?_
      refine xx_if_eq (q := 141) (q2 := 68) rfl rfl rfl (fun _ => ?_) (fun h65 => (by exfalso; omega))
      exact kx0 q _ D2 hbs hF2
    · rw [if_neg q]
      rw [if_neg q] at hL2
      exact kx1 q _ D2 hbs hL2 hF2
theorem r_or_Q {n : Nat} {R : Nat → Nat → Option Nat} {D : KK} {Q : XQ} (s up w best v : Int) (l : List Int) (hl1 : 1 ≤ l.length) (hv : ¬ best < v) (kx : XX (XC 10) 286 Q 114 [some (.inr (some 479)), some (.inl s), some (.inl up), some (.inl w), some (.inl (l.length : Int)), some (.inl best), some (.inl 1), some (.inl v), some (.inl 0)] [] (xS n, R, D)) : XX (XC 10) 286 Q 80 [some (.inr (some 479)), some (.inl s), some (.inl up), some (.inl w), some (.inl (l.length : Int)), some (.inl best), some (.inl 1), some (.inl v), some (.inl 0)] [] (xS n, R, D) := by
  refine xx_iload (q := 82) rfl rfl rfl ?_
  refine xx_iload (q := 84) rfl rfl rfl ?_
  refine xx_icmp_ge (q := 114) (q2 := 87) rfl rfl rfl (fun h84 => (by exfalso; omega)) (fun _ => ?_)
  refine xx_iload (q := 89) rfl rfl rfl ?_
  refine xx_iload (q := 91) rfl rfl rfl ?_
  refine xx_icmp_le (q := 114) (q2 := 94) rfl rfl rfl (fun _ => ?_) (fun h91 => (by exfalso; omega))
  exact kx
theorem BlR.fr {l : List Int} {D E : KK} (h : BlR l D) (g : ∀ k, E 514 k = D 514 k) : BlR l E := fun k hk => (g k).trans (h k hk)
set_option maxHeartbeats 4000000 in
theorem r_or_L {n : Nat} {R : Nat → Nat → Option Nat} {K Dz D0 : KK} {b : Int} {B : Nat → Int} {U : UU} {Q : XQ} (hR : RF R) (hI : KI K) {G : LwF} (hG : RLG G n R Dz) (hlw : ∀ x k, 499 ≤ x → x ≤ 505 → D0 x k = Dz x k) (up : Int) (s w : Int) (N : Nat) : ∀ (k : Nat) (l : List Int) (D : KK) (best : Int) (bl : List Int) (rs : List (List Int)) (x y : Option XV), lnT k l = some rs → RT K b B U K D0 D → LnR l D → 1 ≤ l.length → l.length ≤ 6 → l.length = N → (∀ c ∈ l, 0 ≤ c ∧ c < K 13 0) → BlR bl D → -1 ≤ best → best ≤ 1000 → (∀ (D2 : KK) (x2 y2 : Option XV), RT K b B U K D0 D2 → BlR (fldR G up K rs (best, bl)).2 D2 → XX (XC 10) 286 Q 141 [some (.inr (some 479)), some (.inl s), some (.inl up), some (.inl w), some (.inl (N : Int)), some (.inl (fldR G up K rs (best, bl)).1), some (.inl 0), x2, y2] [] (xS n, R, D2)) → XX (XC 10) 286 (Q) 63 [some (.inr (some 479)), some (.inl s), some (.inl up), some (.inl w), some (.inl (l.length : Int)), some (.inl best), some (.inl 1), x, y] [] (xS n, R, D) := by
  intro k
  induction k using Nat.strongRecOn with
  | ind k ih =>
  intro l D best bl rs x y hln hT hL hl1 hl6 hN hlm hBl hb0 hb1 kx
  have hN2 := hN
  subst hN
  refine xx_iload (q := 65) rfl rfl rfl ?_
  refine xx_if_eq (q := 141) (q2 := 68) rfl rfl rfl (fun h65 => (by exfalso; omega)) (fun _ => ?_)
  refine xx_aload_n (q := 69) rfl rfl rfl ?_
  refine xx_iload (q := 71) rfl rfl rfl ?_
  refine xx_iload_n (q := 72) rfl rfl rfl ?_
  obtain ⟨D1, hx1, hT1, hS1⟩ := r_farOfLine (n := n) hR hI hG hlw up l hT hl6 hlm hL
  have hfb := farS_b (G := G) (up := up) l K
  refine xx_callV (q := 75) (As := [_, _]) (rest := []) rfl rfl rfl (Or.inl rfl) rfl rfl (Nat.le_of_ble_eq_true rfl) xS_479 (XCm hx1 rfl) rfl ?_
  refine xx_istore (q := 77) (loc2 := [_, _, _, _, _, _, _, _, _]) rfl rfl (Nat.le_of_ble_eq_true rfl) rfl ?_
  refine xx_iconst (q := 78) rfl rfl (by decide) ?_
  refine xx_istore (q := 80) (loc2 := [_, _, _, _, _, _, _, _, _]) rfl rfl (Nat.le_of_ble_eq_true rfl) rfl ?_
  obtain ⟨k, rfl⟩ : ∃ k2, k = k2 + 1 := ⟨k - 1, by rcases Nat.eq_zero_or_pos k with e | e; (subst e; cases hln); omega⟩
  rcases Classical.em (best < (farS G up l K).1) with hv | hv
  · refine r_or_C (S := D1) hR s up w best (farS G up l K).1 hv l (hL.fr (fun k => hS1 513 k (by omega))) hl6 l.length _ 0 (fun j hj => by omega) (fun _ _ _ => rfl) (by omega) (by omega) (fun D2 i2 hB2 hS2 => ?_)
    refine r_or_N hR s up w best (farS G up l K).1 i2 l ((hL.fr (fun k => hS1 513 k (by omega))).fr (fun k => hS2 513 k (by omega))) hl1 hl6 (fun q bs D3 hbs hF3 => ?_) (fun q bs D3 hbs hL3 hF3 => ?_)
    · rcases nxI_lnT hln with ⟨_, e⟩ | ⟨q2, _⟩
      · subst e
        have e2 : fldR G up K [l] (best, bl) = (bs, l) := by show (if best < (farS G up l K).1 then ((farS G up l K).1, l) else (best, bl)) = _; rw [hbs]; have ebr : (if best < (farS G up l K).1 then ((farS G up l K).1, l) else (best, bl)) = ((farS G up l K).1, l) := if_pos hv; rw [ebr]; rw [if_pos hv]
        have := kx D3 (some (.inl (farS G up l K).1)) (some (.inl i2)) (hT1.scr (fun x k q1 q2 => (hF3 x k (by omega)).trans (hS2 x k (by omega)))) (by rw [e2]; exact BlR.fr hB2 (fun k => hF3 514 k (by omega)))
        rw [e2] at this
        exact this
      · exact absurd q q2
    · rcases nxI_lnT hln with ⟨q2, _⟩ | ⟨_, r2, e, e2⟩
      · exact absurd q2 q
      · subst e2
        have e3 : fldR G up K (l :: r2) (best, bl) = fldR G up K r2 (bs, l) := by show fldR G up K r2 (if best < (farS G up l K).1 then ((farS G up l K).1, l) else (best, bl)) = _; rw [hbs]; have ebr : (if best < (farS G up l K).1 then ((farS G up l K).1, l) else (best, bl)) = ((farS G up l K).1, l) := if_pos hv; rw [ebr]; rw [if_pos hv]
        rw [e3] at kx
        have hib := nxI_b l (l.length - 1)
        rw [show ((l.length : Nat) : Int) = (((nxS l (nxI l (l.length - 1)).toNat).length : Nat) : Int) by rw [nxS_len]]
        refine ih k (by omega) (nxS l (nxI l (l.length - 1)).toNat) D3 bs l r2 _ _ e (hT1.scr (fun x k q1 q2 => (hF3 x k (by omega)).trans (hS2 x k (by omega)))) hL3 (by rw [nxS_len]; exact hl1) (by rw [nxS_len]; exact hl6) nxS_len (fun c hc => hlm c (nxS_mem (by omega) hc)) (BlR.fr hB2 (fun k => hF3 514 k (by omega))) (by omega) (by omega) ?_
        exact kx
  · refine r_or_Q s up w best (farS G up l K).1 l hl1 hv ?_
    refine r_or_N hR s up w best (farS G up l K).1 0 l (hL.fr (fun k => hS1 513 k (by omega))) hl1 hl6 (fun q bs D3 hbs hF3 => ?_) (fun q bs D3 hbs hL3 hF3 => ?_)
    · rcases nxI_lnT hln with ⟨_, e⟩ | ⟨q2, _⟩
      · subst e
        have e2 : fldR G up K [l] (best, bl) = (bs, bl) := by show (if best < (farS G up l K).1 then ((farS G up l K).1, l) else (best, bl)) = _; rw [hbs]; have ebr : (if best < (farS G up l K).1 then ((farS G up l K).1, l) else (best, bl)) = (best, bl) := if_neg hv; rw [ebr]; rw [if_neg hv]
        have := kx D3 (some (.inl (farS G up l K).1)) (some (.inl 0)) (hT1.scr (fun x k q1 q2 => (hF3 x k (by omega)).trans (rfl))) (by rw [e2]; exact BlR.fr (hBl.fr (fun k => hS1 514 k (by omega))) (fun k => hF3 514 k (by omega)))
        rw [e2] at this
        exact this
      · exact absurd q q2
    · rcases nxI_lnT hln with ⟨q2, _⟩ | ⟨_, r2, e, e2⟩
      · exact absurd q2 q
      · subst e2
        have e3 : fldR G up K (l :: r2) (best, bl) = fldR G up K r2 (bs, bl) := by show fldR G up K r2 (if best < (farS G up l K).1 then ((farS G up l K).1, l) else (best, bl)) = _; rw [hbs]; have ebr : (if best < (farS G up l K).1 then ((farS G up l K).1, l) else (best, bl)) = (best, bl) := if_neg hv; rw [ebr]; rw [if_neg hv]
        rw [e3] at kx
        have hib := nxI_b l (l.length - 1)
        rw [show ((l.length : Nat) : Int) = (((nxS l (nxI l (l.length - 1)).toNat).length : Nat) : Int) by rw [nxS_len]]
        refine ih k (by omega) (nxS l (nxI l (l.length - 1)).toNat) D3 bs bl r2 _ _ e (hT1.scr (fun x k q1 q2 => (hF3 x k (by omega)).trans (rfl))) hL3 (by rw [nxS_len]; exact hl1) (by rw [nxS_len]; exact hl6) nxS_len (fun c hc => hlm c (nxS_mem (by omega) hc)) (BlR.fr (hBl.fr (fun k => hS1 514 k (by omega))) (fun k => hF3 514 k (by omega))) (by omega) (by omega) ?_
        exact kx
