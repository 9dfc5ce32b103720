/-! Rows that are filled; the fewest presents; pulls that would explain what was seen. -/
def xfl (D : KK) (a N : Nat) (v : Int) : KK := fun b k => if b = a ∧ k < N then v else D b k
theorem xfl_a {D : KK} {a N b k : Nat} {v : Int} (h : ¬ b = a) : xfl D a N v b k = D b k := if_neg (fun q => h q.1)
theorem xfl_s {D : KK} {a N k : Nat} {v : Int} (h : k < N) : xfl D a N v a k = v := if_pos ⟨rfl, h⟩
set_option maxHeartbeats 1000000 in
theorem j_fill_L {n a N : Nat} {R : Nat → Nat → Option Nat} {D : KK} (v : Int) (hN : N ≤ 100000) (hs : (xS n)[a]? = some (0, N)) : ∀ (k : Nat) (E : KK) (z : Int), 0 ≤ z → z + k = N → (E = fun (x k : Nat) => if x = a ∧ (k : Int) < z then v else D x k) → XX (XC 0) 314 (fun r2 m2 => r2 = none ∧ m2 = (xS n, R, xfl D a N v)) 5 [some (.inr (some a)), some (.inl v), some (.inl z), some (.inl (N : Int))] [] (xS n, R, E) := by
  intro k
  induction k using Nat.strongRecOn with
  | ind k ih =>
  intro E z h1 hk hE
  refine xx_iload_n (q := 6) rfl rfl rfl ?_
  refine xx_iload_n (q := 7) rfl rfl rfl ?_
  refine xx_icmp_ge (q := 20) (q2 := 10) rfl rfl rfl (fun h7 => ?_) (fun h7 => ?_)
  · obtain rfl : k = 0 := by omega
    have e : E = xfl D a N v := by
      funext x k
      rw [hE]
      unfold xfl
      have : (x = a ∧ (k : Int) < z) = (x = a ∧ k < N) := propext ⟨fun q => ⟨q.1, by omega⟩, fun q => ⟨q.1, by omega⟩⟩
      simp only [this]
    rw [e]
    exact xx_vret rfl rfl ⟨rfl, rfl⟩
  · obtain ⟨k, rfl⟩ : ∃ k2, k = k2 + 1 := ⟨k - 1, by omega⟩
    refine xx_aload_n (q := 11) rfl rfl rfl ?_
    refine xx_iload_n (q := 12) rfl rfl rfl ?_
    refine xx_iload_n (q := 13) rfl rfl rfl ?_
    refine xx_isz (q := 14) rfl rfl hs (by omega) (by omega) rfl ?_
    refine xx_incz (q := 17) (loc2 := [_, _, _, _]) rfl rfl rfl (by omega) (by omega) rfl rfl ?_
    refine xx_goto (q := 5) rfl rfl ?_
    refine ih k (by omega) _ _ (by omega) (by omega) ?_
    funext x j
    show (if x = a ∧ j = z.toNat then v else E x j) = _
    rw [hE]
    grind
theorem j_fill {n a N : Nat} {R : Nat → Nat → Option Nat} {D : KK} (v : Int) (hN : N ≤ 100000) (hs : (xS n)[a]? = some (0, N)) : XC 1 314 [.inr (some a), .inl v] (xS n, R, D) none (xS n, R, xfl D a N v) := by
  refine XC_of (Nat.le_of_ble_eq_true rfl) (Nat.le_of_ble_eq_true rfl) (loc := [_, _, _, _]) rfl ?_
  refine xx_iconst (q := 1) rfl rfl (by decide) ?_
  refine xx_istore_n (q := 2) (loc2 := [_, _, _, _]) rfl rfl (Nat.le_of_ble_eq_true rfl) rfl ?_
  refine xx_aload_n (q := 3) rfl rfl rfl ?_
  refine xx_alen (q := 4) rfl rfl hs (by decide) (by omega) ?_
  refine xx_istore_n (q := 5) (loc2 := [_, _, _, _]) rfl rfl (Nat.le_of_ble_eq_true rfl) rfl ?_
  exact j_fill_L v hN hs N D 0 (by omega) (by omega) (by funext x k; rw [if_neg (fun q => by omega)])
def fewL (G Hh : LwF) (boat good pool : Int) (K : KK) : Nat → Int → Int × OL
  | 0, _ => (-1, none)
  | k + 1, a => match plsF G Hh boat good pool 9 K a with
    | some l => (a, some l)
    | none => fewL G Hh boat good pool K k (a + 1)
def fewF (G Hh : LwF) (boat good pool : Int) (K : KK) : Int × OL := fewL G Hh boat good pool K (mnF 6 (K 17 (boat * 4 + good).toNat) + 1).toNat 0
theorem gvn_c {f g : Nat → Int} {k : Nat} (h : f k = g k) : ∀ l, gvn l f k = gvn l g k
  | [] => h
  | (lock, a) :: l => by
    show (if k = lock.toNat then a else gvn l f k) = if k = lock.toNat then a else gvn l g k
    rw [gvn_c h l]
def FA (D E : KK) : Prop := ∀ b k, (b < 279 ∨ b = 283 ∨ 474 ≤ b) → b ≠ 10 → b ≠ 14 → E b k = D b k
theorem FA.rf {D : KK} : FA D D := fun _ _ _ _ _ => rfl
theorem FA.trans {D E F : KK} (h : FA D E) (g : FA E F) : FA D F := fun b k h1 h2 h3 => (g b k h1 h2 h3).trans (h b k h1 h2 h3)
set_option maxHeartbeats 1000000 in
theorem c_few_L {n : Nat} {R : Nat → Nat → Option Nat} {D0 K : KK} (hR : RF R) {G Hh : LwF} (boat good pool M : Int) (hb0 : 0 ≤ boat) (hb1 : boat < K 13 0) (hg0 : 0 ≤ good) (hg1 : good ≤ 3) (hM : M ≤ 6) (hI : KI K) : ∀ (k : Nat) (D : KK) (a : Int), CK 27 K D → LwG G n R D → LwH Hh n R D → FA D0 D → 0 ≤ a → a + k = M + 1 → XX (XC 15) 108 (XP (some (.inl (fewL G Hh boat good pool K k a).1)) (xS n) R (fun D' => FA D0 D' ∧ ∀ l, (fewL G Hh boat good pool K k a).2 = some l → ∀ k, k < 9 → D' 280 k = gvn l (fun _ => 0) k)) 19 [some (.inr (some 279)), some (.inr (some 27)), some (.inl boat), some (.inl good), some (.inl pool), some (.inl M), some (.inl a)] [] (xS n, R, D) := by
  intro k
  induction k using Nat.strongRecOn with
  | ind k ih =>
  intro D a hK hGl hHl hF h1 hk
  have hc4 : isC 284 := isT_C (isT_k (s := 0) (by omega))
  refine xx_iload (q := 21) rfl rfl rfl ?_
  refine xx_iload (q := 23) rfl rfl rfl ?_
  refine xx_icmp_gt (q := 63) (q2 := 26) rfl rfl rfl (fun h23 => ?_) (fun h23 => ?_)
  · refine xx_iconst (q := 64) rfl rfl (by decide) ?_
    obtain rfl : k = 0 := by omega
    exact xx_iret rfl trivial ⟨rfl, _, rfl, hF, fun l hl => by cases hl⟩
  · obtain ⟨k, rfl⟩ : ∃ k2, k = k2 + 1 := ⟨k - 1, by omega⟩
    refine xx_aload_n (q := 27) rfl rfl rfl ?_
    refine xx_aload_n (q := 28) rfl rfl rfl ?_
    obtain ⟨D1, hx1, hK1, hG1⟩ := c_start (n := n) hR isC_27 (by decide) hK hI
    refine xx_callV (q := 31) (As := [_]) (rest := []) rfl rfl rfl (Or.inl rfl) rfl rfl (Nat.le_of_ble_eq_true rfl) xS_279 (XCm hx1 rfl) rfl ?_
    refine xx_pop (q := 32) rfl rfl ?_
    refine xx_aload_n (q := 33) rfl rfl rfl ?_
    refine xx_getR (q := 36) rfl rfl rfl xS_279 (Nat.le_of_ble_eq_true rfl) rfl (hR.1 279 4 rfl) ?_
    refine xx_iconst (q := 37) rfl rfl (by decide) ?_
    refine xx_callS (q := 40) (As := [_, _]) (rest := []) rfl rfl rfl (Or.inl rfl) rfl rfl (Nat.le_of_ble_eq_true rfl) (XCm (j_fill (n := n) (D := D1) 0 (N := 9) (by decide) xS_280) rfl) rfl ?_
    refine xx_aload_n (q := 41) rfl rfl rfl ?_
    refine xx_iconst (q := 42) rfl rfl (by decide) ?_
    refine xx_iload_n (q := 43) rfl rfl rfl ?_
    refine xx_iload_n (q := 44) rfl rfl rfl ?_
    refine xx_iload (q := 46) rfl rfl rfl ?_
    refine xx_iload (q := 48) rfl rfl rfl ?_
    have hfx2 : ∀ b k, b ≠ 280 → (xfl D1 280 9 0) b k = D1 b k := fun b k h => xfl_a h
    have hls2 : ∀ b k, b < 279 → b ≠ 10 → b ≠ 14 → (xfl D1 280 9 0) b k = D b k := fun b k h1 h2 h3 => (hfx2 b k (by omega)).trans (hG1 b k (by omega) h2 h3)
    obtain ⟨D2, hx2, hF2, hg2⟩ := c_pls (n := n) hR boat good pool hb0 hg0 hg1 9 0 a K (xfl D1 280 9 0) (by omega) (by omega) (by omega) hI hb1 (CK_fr hK1 (fun o k ho => hfx2 _ _ (by omega))) (LawS.fr hGl (fun b k q1 q2 => hls2 b k (by omega) (by omega) (by omega))) (LawS.fr hHl (fun b k q1 q2 => hls2 b k (by omega) (by omega) (by omega)))
    refine xx_callV (q := 51) (As := [_, _, _, _, _]) (rest := []) rfl rfl rfl (Or.inl rfl) rfl rfl (Nat.le_of_ble_eq_true rfl) xS_279 (XCm hx2 rfl) rfl ?_
    refine xx_ifb_eq (q := 57) (q2 := 54) rfl rfl rfl (fun h51 => ?_) (fun h51 => ?_)
    · refine xx_incz (q := 60) (loc2 := [_, _, _, _, _, _, _]) rfl rfl rfl (by omega) (by omega) rfl rfl ?_
      refine xx_goto (q := 19) rfl rfl ?_
      have hno : plsF G Hh boat good pool 9 K a = none := Option.not_isSome_iff_eq_none.mp h51
      have e : fewL G Hh boat good pool K (k + 1) a = fewL G Hh boat good pool K k (a + 1) := by rw [fewL.eq_2, hno]
      rw [e]
      have hfz : FA D D2 := (fun b k h1 h2 h3 => (hF2 b k (by omega) h2 h3 (by omega)).trans ((hfx2 b k (by omega)).trans (hG1 b k (by omega) h2 h3)))
      exact ih k (by omega) _ _ (CK_fr hK (fun o k ho => hfz _ _ (by omega) (by omega) (by omega))) (LawS.fr hGl (fun b k q1 q2 => hfz b k (by omega) (by omega) (by omega))) (LawS.fr hHl (fun b k q1 q2 => hfz b k (by omega) (by omega) (by omega))) (hF.trans hfz) (by omega) (by omega)
    · refine xx_iload (q := 56) rfl rfl rfl ?_
      obtain ⟨ll, hll⟩ := Option.isSome_iff_exists.mp h51
      have e : fewL G Hh boat good pool K (k + 1) a = (a, some ll) := by unfold fewL; rw [hll]
      rw [e]
      refine xx_iret rfl trivial ⟨rfl, _, rfl, hF.trans (fun b k h1 h2 h3 => (hF2 b k (by omega) h2 h3 (by omega)).trans ((hfx2 b k (by omega)).trans (hG1 b k (by omega) h2 h3))), fun l hl k hk => ?_⟩
      cases hl
      rw [hg2, hll]
      exact gvn_c (g := fun _ => 0) (show xfl D1 280 9 0 280 k = 0 from xfl_s hk) ll
set_option maxHeartbeats 1000000 in
theorem c_few {n : Nat} {R : Nat → Nat → Option Nat} {D K : KK} (hR : RF R) {G Hh : LwF} (boat good pool : Int) (hb0 : 0 ≤ boat) (hb1 : boat < K 13 0) (hg0 : 0 ≤ good) (hg1 : good ≤ 3) (hI : KI K) (hK : CK 27 K D) (hG : LwG G n R D) (hH : LwH Hh n R D) : ∃ D', XC 16 108 [.inr (some 279), .inr (some 27), .inl boat, .inl good, .inl pool] (xS n, R, D) (some (.inl ((fewF G Hh boat good pool K).1))) (xS n, R, D') ∧ FA D D' ∧ ∀ l, (fewF G Hh boat good pool K).2 = some l → ∀ k, k < 9 → D' 280 k = gvn l (fun _ => 0) k := by
  have hbB := ki_B hI
  have hb17 := ki_17 hI (boat * 4 + good).toNat
  have hb1x := hb1
  refine XE_of (Nat.le_of_ble_eq_true rfl) (Nat.le_of_ble_eq_true rfl) (loc := [_, _, _, _, _, _, _]) rfl ?_
  refine xx_bipush (q := 2) rfl rfl (by decide) ?_
  refine xx_aload_n (q := 3) rfl rfl rfl ?_
  refine xx_getR (q := 6) rfl rfl rfl (xSc_0 isC_27) (Nat.le_of_ble_eq_true rfl) rfl (rc_fleet hR isC_27) ?_
  refine xx_iload_n (q := 7) rfl rfl rfl ?_
  refine xx_iload_n (q := 8) rfl rfl rfl ?_
  refine xx_callV (q := 11) (As := [_, _]) (rest := [_]) rfl rfl rfl (Or.inl rfl) rfl rfl (Nat.le_of_ble_eq_true rfl) (xSc_13 isC_27) (XCm (c_cargoOf hR isC_27 hK hI boat good (by omega) (by omega) (by omega) (by omega)) rfl) rfl ?_
  refine xx_minF (q := 14) rfl rfl rfl (Nat.le_of_ble_eq_true rfl) ?_
  have hb1 := mnF_sp 6 (K 17 (boat * 4 + good).toNat)
  refine xx_istore (q := 16) (loc2 := [_, _, _, _, _, _, _]) rfl rfl (Nat.le_of_ble_eq_true rfl) rfl ?_
  refine xx_iconst (q := 17) rfl rfl (by decide) ?_
  refine xx_istore (q := 19) (loc2 := [_, _, _, _, _, _, _]) rfl rfl (Nat.le_of_ble_eq_true rfl) rfl ?_
  exact c_few_L hR boat good pool _ hb0 hb1x hg0 hg1 (by omega) hI _ D 0 hK hG hH FA.rf (by omega) (by omega)
def asdL : Nat → KK → KK → Int → Bool
  | 0, _, _, _ => true
  | k + 1, K1, K, p => if K1 1 p.toNat = K 1 p.toNat then asdL k K1 K (p + 1) else false
def asdB (K1 K : KK) : Bool := asdL (K 0 0 + 1).toNat K1 K 0
set_option maxHeartbeats 1000000 in
theorem c_asd_L {n c : Nat} {R : Nat → Nat → Option Nat} {D K1 K : KK} (hR : RF R) (hc : isC c) (hK1 : CK c K1 D) (hI1 : KI K1) (hK : CK 27 K D) (hI : KI K) : ∀ (k : Nat) (p : Int), 0 ≤ p → p + k = K 0 0 + 1 → XX (XC 0) 112 (fun r2 m2 => r2 = some (.inl (bi (asdL k K1 K p = true))) ∧ m2 = (xS n, R, D)) 2 [some (.inr (some c)), some (.inr (some 27)), some (.inl p)] [] (xS n, R, D) := by
  intro k
  induction k using Nat.strongRecOn with
  | ind k ih =>
  intro p h1 hk
  have hbL := ki_L hI
  refine xx_iload_n (q := 3) rfl rfl rfl ?_
  refine xx_aload_n (q := 4) rfl rfl rfl ?_
  refine xx_gez (v := K 0 0) (q := 7) rfl rfl rfl (xSc_0 isC_27) (Nat.le_of_ble_eq_true rfl) rfl (hK 0 0 (Nat.le_of_ble_eq_true rfl)) ?_
  have hb1 : 1 ≤ K 0 0 ∧ K 0 0 ≤ 9 := by have h := ki_L hI; exact h
  refine xx_icmp_gt (q := 33) (q2 := 10) rfl rfl rfl (fun h7 => ?_) (fun h7 => ?_)
  · refine xx_iconst (q := 34) rfl rfl (by decide) ?_
    obtain rfl : k = 0 := by omega
    exact xx_iret rfl (Or.inr rfl) ⟨congrArg (fun z => some (Sum.inl z)) (bi_t rfl).symm, rfl⟩
  · obtain ⟨k, rfl⟩ : ∃ k2, k = k2 + 1 := ⟨k - 1, by omega⟩
    refine xx_aload_n (q := 11) rfl rfl rfl ?_
    refine xx_getR (q := 14) rfl rfl rfl (xSc_0 hc) (Nat.le_of_ble_eq_true rfl) rfl (rc_depth hR hc) ?_
    refine xx_iload_n (q := 15) rfl rfl rfl ?_
    refine xx_iaz (v := K1 1 (p).toNat) (q := 16) rfl rfl (xSc_1 hc) (by omega) (by omega) (ck_a hK1 (o := 1) (N := 10) rfl (by omega) (by omega)) ?_
    have hb2 : 0 ≤ K1 1 (p).toNat ∧ K1 1 (p).toNat ≤ 999 := by have h := ki_1 hI1 (p).toNat; exact h
    refine xx_aload_n (q := 17) rfl rfl rfl ?_
    refine xx_getR (q := 20) rfl rfl rfl (xSc_0 isC_27) (Nat.le_of_ble_eq_true rfl) rfl (rc_depth hR isC_27) ?_
    refine xx_iload_n (q := 21) rfl rfl rfl ?_
    refine xx_iaz (v := K 1 (p).toNat) (q := 22) rfl rfl (xSc_1 isC_27) (by omega) (by omega) (ck_a hK (o := 1) (N := 10) rfl (by omega) (by omega)) ?_
    have hb3 : 0 ≤ K 1 (p).toNat ∧ K 1 (p).toNat ≤ 999 := by have h := ki_1 hI (p).toNat; exact h
    refine xx_icmp_eq (q := 27) (q2 := 25) rfl rfl rfl (fun h22 => ?_) (fun h22 => ?_)
    · refine xx_incz (q := 30) (loc2 := [_, _, _]) rfl rfl rfl (by omega) (by omega) rfl rfl ?_
      refine xx_goto (q := 2) rfl rfl ?_
      have e : asdL (k + 1) K1 K p = asdL k K1 K (p + 1) := if_pos h22
      rw [e]
      exact ih k (by omega) _ (by omega) (by omega)
    · refine xx_iconst (q := 26) rfl rfl (by decide) ?_
      have e : asdL (k + 1) K1 K p = false := if_neg h22
      rw [e]
      exact xx_iret rfl (Or.inl rfl) ⟨congrArg (fun z => some (Sum.inl z)) (bi_f (by intro q; cases q)).symm, rfl⟩
set_option maxHeartbeats 1000000 in
theorem c_isAsDeep {n c : Nat} {R : Nat → Nat → Option Nat} {D K1 K : KK} (hR : RF R) (hc : isC c) (hK1 : CK c K1 D) (hI1 : KI K1) (hK : CK 27 K D) (hI : KI K) : XC 1 112 [.inr (some c), .inr (some 27)] (xS n, R, D) (some (.inl (bi (asdB K1 K = true)))) (xS n, R, D) := by
  have hbL := ki_L hI
  refine XC_of (Nat.le_of_ble_eq_true rfl) (Nat.le_of_ble_eq_true rfl) (loc := [_, _, _]) rfl ?_
  refine xx_iconst (q := 1) rfl rfl (by decide) ?_
  refine xx_istore_n (q := 2) (loc2 := [_, _, _]) rfl rfl (Nat.le_of_ble_eq_true rfl) rfl ?_
  exact c_asd_L hR hc hK1 hI1 hK hI (K 0 0 + 1).toNat 0 (by omega) (by omega)
