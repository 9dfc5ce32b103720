/-! Who pulled: the class. -/
def sdK (K : KK) (sn : Nat → Int) : KK := fun o k => if o = 1 then sn k else K o k
theorem sdK_I {K : KK} {sn : Nat → Int} (h : KI K) (h2 : ∀ k, 0 ≤ sn k ∧ sn k ≤ 999) : KI (sdK K sn) := fun o k => by
  rcases Classical.em (o = 1) with rfl | q
  · exact h2 k
  · rw [show sdK K sn o k = K o k from if_neg q]; exact h o k
def fndS (K1 K : KK) (lock m : Int) (s : Int × Int × Int) : Int × Int × Int := if asdB K1 K = true then (s.1 + 1, if s.2.1 = -1 then (lock, m) else s.2) else s
def fndM (K : KK) (lock : Int) : Nat → KK → Int → Int × Int × Int → Int × Int × Int
  | 0, _, _, s => s
  | k + 1, K1, m, s => if K1 1 lock.toNat < K1 2 lock.toNat then s else fndM K lock k (flowF K1 lock (K1 2 lock.toNat)) (m + 1) (fndS (flowF K1 lock (K1 2 lock.toNat)) K lock m s)
def fndL (K : KK) (sn : Nat → Int) : Nat → Int → Int × Int × Int → Int × Int × Int
  | 0, _, s => s
  | k + 1, lock, s => fndL K sn k (lock + 1) (fndM K lock 20 (sdK K sn) 1 s)
def fndF (K : KK) (sn : Nat → Int) : Int × Int × Int := fndL K sn (K 0 0).toNat 0 (0, -1, -1)
theorem fndS_b {K1 K : KK} {lock m : Int} {s : Int × Int × Int} : s.1 ≤ (fndS K1 K lock m s).1 ∧ (fndS K1 K lock m s).1 ≤ s.1 + 1 := by
  unfold fndS
  split
  · exact ⟨by show s.1 ≤ s.1 + 1; omega, Int.le_refl _⟩
  · exact ⟨Int.le_refl _, by omega⟩
theorem fndM_b {K : KK} {lock : Int} : ∀ (k : Nat) (K1 : KK) (m : Int) (s : Int × Int × Int), s.1 ≤ (fndM K lock k K1 m s).1 ∧ (fndM K lock k K1 m s).1 ≤ s.1 + k
  | 0, _, _, s => ⟨Int.le_refl _, by show s.1 ≤ s.1 + 0; omega⟩
  | k + 1, K1, m, s => by
    unfold fndM
    split
    · exact ⟨Int.le_refl _, by omega⟩
    · have h1 := fndS_b (K1 := flowF K1 lock (K1 2 lock.toNat)) (K := K) (lock := lock) (m := m) (s := s)
      have h2 := fndM_b (K := K) (lock := lock) k (flowF K1 lock (K1 2 lock.toNat)) (m + 1) (fndS (flowF K1 lock (K1 2 lock.toNat)) K lock m s)
      omega
set_option maxHeartbeats 1000000 in
theorem c_fnd_M {n : Nat} {R : Nat → Nat → Option Nat} {D0 K : KK} {Q : XQ} (hR : RF R) (lock : Int) (h0 : 0 ≤ lock) (hlk0 : lock < K 0 0) (hI : KI K) : ∀ (k : Nat) (K1 D : KK) (m ww pl pt : Int), CK 284 K1 D → KI K1 → CK 27 K D → FA D0 D → D 279 2 = pl → D 279 3 = pt → 0 ≤ ww → ww + k ≤ 1000 → 1 ≤ m → m + k = 21 → lock < K1 0 0 → (∀ (D2 : KK) (m2 : Int) (w2 : Unit), CK 27 K D2 → FA D0 D2 → D2 279 2 = (fndM K lock k K1 m (ww, pl, pt)).2.1 → D2 279 3 = (fndM K lock k K1 m (ww, pl, pt)).2.2 → XX (XC 3) 111 Q 133 [some (.inr (some 279)), some (.inr (some 27)), some (.inr (some 22)), some (.inl (fndM K lock k K1 m (ww, pl, pt)).1), some (.inl lock), some (.inr (some 284)), some (.inl m2)] [] (xS n, R, D2)) → XX (XC 3) 111 (Q) 51 [some (.inr (some 279)), some (.inr (some 27)), some (.inr (some 22)), some (.inl ww), some (.inl lock), some (.inr (some 284)), some (.inl m)] [] (xS n, R, D) := by
  intro k
  induction k using Nat.strongRecOn with
  | ind k ih =>
  intro K1 D m ww pl pt hK1 hI1 hK hF hp2 hp3 h1 h2 hm1 hk hlk kx
  have hc4 : isC 284 := isT_C (isT_k (s := 0) (by omega))
  have hbL := ki_L hI
  have hbL1 := ki_L hI1
  refine xx_iload (q := 53) rfl rfl rfl ?_
  refine xx_bipush (q := 55) rfl rfl (by decide) ?_
  refine xx_icmp_gt (q := 133) (q2 := 58) rfl rfl rfl (fun h55 => ?_) (fun h55 => ?_)
  · obtain rfl : k = 0 := by omega
    exact kx _ _ () hK hF hp2 hp3
  · refine xx_aload (q := 60) rfl rfl rfl ?_
    refine xx_getR (q := 63) rfl rfl rfl (xSc_0 hc4) (Nat.le_of_ble_eq_true rfl) rfl (rc_depth hR hc4) ?_
    refine xx_iload (q := 65) rfl rfl rfl ?_
    refine xx_iaz (v := K1 1 (lock).toNat) (q := 66) rfl rfl (xSc_1 hc4) (by omega) (by omega) (ck_a hK1 (o := 1) (N := 10) rfl (by omega) (by omega)) ?_
    have hb1 : 0 ≤ K1 1 (lock).toNat ∧ K1 1 (lock).toNat ≤ 999 := by have h := ki_1 hI1 (lock).toNat; exact h
    refine xx_aload (q := 68) rfl rfl rfl ?_
    refine xx_getR (q := 71) rfl rfl rfl (xSc_0 hc4) (Nat.le_of_ble_eq_true rfl) rfl (rc_fill hR hc4) ?_
    refine xx_iload (q := 73) rfl rfl rfl ?_
    refine xx_iaz (v := K1 2 (lock).toNat) (q := 74) rfl rfl (xSc_2 hc4) (by omega) (by omega) (ck_a hK1 (o := 2) (N := 9) rfl (by omega) (by omega)) ?_
    have hb2 : 1 ≤ K1 2 (lock).toNat ∧ K1 2 (lock).toNat ≤ 50 := by have h := ki_2 hI1 (lock).toNat; exact h
    refine xx_icmp_lt (q := 133) (q2 := 77) rfl rfl rfl (fun h74 => ?_) (fun h74 => ?_)
    · obtain ⟨k, rfl⟩ : ∃ k2, k = k2 + 1 := ⟨k - 1, by omega⟩
      have e2 : fndM K lock (k + 1) K1 m (ww, pl, pt) = (ww, pl, pt) := if_pos h74
      rw [e2] at kx
      exact kx _ _ () hK hF hp2 hp3
    · refine xx_aload (q := 79) rfl rfl rfl ?_
      refine xx_iload (q := 81) rfl rfl rfl ?_
      refine xx_aload (q := 83) rfl rfl rfl ?_
      refine xx_getR (q := 86) rfl rfl rfl (xSc_0 hc4) (Nat.le_of_ble_eq_true rfl) rfl (rc_fill hR hc4) ?_
      refine xx_iload (q := 88) rfl rfl rfl ?_
      refine xx_iaz (v := K1 2 (lock).toNat) (q := 89) rfl rfl (xSc_2 hc4) (by omega) (by omega) (ck_a hK1 (o := 2) (N := 9) rfl (by omega) (by omega)) ?_
      have hb3 : 1 ≤ K1 2 (lock).toNat ∧ K1 2 (lock).toNat ≤ 50 := by have h := ki_2 hI1 (lock).toNat; exact h
      obtain ⟨D4, hx4, hK4, hG4⟩ := c_flow (n := n) hR hc4 hK1 hI1 lock (K1 2 (lock).toNat) (by omega) (by omega) (by omega) (by omega) (by omega)
      have hF4 := Fr.rf.trans hG4
      have hI4 : KI (flowF K1 lock (K1 2 (lock).toNat)) := flowF_I hI1 (by omega) (by omega)
      refine xx_callV (q := 92) (As := [_, _]) (rest := []) rfl rfl rfl (Or.inl rfl) rfl rfl (Nat.le_of_ble_eq_true rfl) (xSc_0 hc4) (XCm hx4 rfl) rfl ?_
      refine xx_aload (q := 94) rfl rfl rfl ?_
      refine xx_aload_n (q := 95) rfl rfl rfl ?_
      have hKb5 : CK 27 K D4 := CK_fr hK (fun o k ho => hF4 _ _ (by omega) (by omega) (by omega))
      refine xx_callS (q := 98) (As := [_, _]) (rest := []) rfl rfl rfl (Or.inl rfl) rfl rfl (Nat.le_of_ble_eq_true rfl) (XCm (c_isAsDeep (n := n) hR hc4 hK4 hI4 hKb5 hI) rfl) rfl ?_
      refine xx_ifb_ne (q := 104) (q2 := 101) rfl rfl rfl (fun h98 => ?_) (fun h98 => ?_)
      · refine xx_incz (q := 107) (loc2 := [_, _, _, _, _, _, _]) rfl rfl rfl (by omega) (by omega) rfl rfl ?_
        refine xx_aload_n (q := 108) rfl rfl rfl ?_
        refine xx_gez (q := 111) rfl rfl rfl xS_279 (Nat.le_of_ble_eq_true rfl) rfl ((hF4 279 2 (by omega) (by omega) (by omega)).trans hp2) ?_
        refine xx_iconst (q := 112) rfl rfl (by decide) ?_
        refine xx_icmp_ne (q := 127) (q2 := 115) rfl rfl rfl (fun h112 => ?_) (fun h112 => ?_)
        · refine xx_incz (q := 130) (loc2 := [_, _, _, _, _, _, _]) rfl rfl rfl (by omega) (by omega) rfl rfl ?_
          refine xx_goto (q := 51) rfl rfl ?_
          obtain ⟨k, rfl⟩ : ∃ k2, k = k2 + 1 := ⟨k - 1, by omega⟩
          have e : fndS (flowF K1 lock (K1 2 lock.toNat)) K lock m (ww, pl, pt) = (ww + 1, pl, pt) := by unfold fndS; rw [if_pos h98]; exact congrArg (Prod.mk _) (if_neg h112)
          have e2 : fndM K lock (k + 1) K1 m (ww, pl, pt) = fndM K lock k (flowF K1 lock (K1 2 lock.toNat)) (m + 1) (fndS (flowF K1 lock (K1 2 lock.toNat)) K lock m (ww, pl, pt)) := if_neg h74
          rw [e] at e2
          rw [e2] at kx
          have hfz : FA D D4 := (fun b k h1 h2 h3 => hF4 b k (by omega) h2 h3)
          exact ih k (by omega) _ _ _ (ww + 1) pl pt (hK4) hI4 (CK_fr hK (fun o k ho => hfz _ _ (by omega) (by omega) (by omega))) (hF.trans hfz) ((hF4 279 2 (by omega) (by omega) (by omega)).trans hp2) ((hF4 279 3 (by omega) (by omega) (by omega)).trans hp3) (by omega) (by omega) (by omega) (by omega) (by rw [flowF_k (by decide) (by omega)]; exact hlk) kx
        · refine xx_aload_n (q := 116) rfl rfl rfl ?_
          refine xx_iload (q := 118) rfl rfl rfl ?_
          refine xx_puz (q := 121) rfl rfl rfl xS_279 (Nat.le_of_ble_eq_true rfl) (Nat.le_of_ble_eq_true rfl) (fun h => by cases h) (Or.inl rfl) rfl ?_
          refine xx_aload_n (q := 122) rfl rfl rfl ?_
          refine xx_iload (q := 124) rfl rfl rfl ?_
          refine xx_puz (q := 127) rfl rfl rfl xS_279 (Nat.le_of_ble_eq_true rfl) (Nat.le_of_ble_eq_true rfl) (fun h => by cases h) (Or.inl rfl) rfl ?_
          refine xx_incz (q := 130) (loc2 := [_, _, _, _, _, _, _]) rfl rfl rfl (by omega) (by omega) rfl rfl ?_
          refine xx_goto (q := 51) rfl rfl ?_
          obtain ⟨k, rfl⟩ : ∃ k2, k = k2 + 1 := ⟨k - 1, by omega⟩
          have e : fndS (flowF K1 lock (K1 2 lock.toNat)) K lock m (ww, pl, pt) = (ww + 1, lock, m) := by unfold fndS; rw [if_pos h98]; exact congrArg (Prod.mk _) (if_pos h112)
          have e2 : fndM K lock (k + 1) K1 m (ww, pl, pt) = fndM K lock k (flowF K1 lock (K1 2 lock.toNat)) (m + 1) (fndS (flowF K1 lock (K1 2 lock.toNat)) K lock m (ww, pl, pt)) := if_neg h74
          rw [e] at e2
          rw [e2] at kx
          have hfz : FA D (xui (xui D4 279 2 lock) 279 3 m) := (fun b k h1 h2 h3 => (xui_a (by omega)).trans ((xui_a (by omega)).trans (hF4 b k (by omega) h2 h3)))
          exact ih k (by omega) _ _ _ (ww + 1) lock m (CK_fr hK4 (fun o k ho => (xui_a (by omega)).trans (xui_a (by omega)))) hI4 (CK_fr hK (fun o k ho => hfz _ _ (by omega) (by omega) (by omega))) (hF.trans hfz) ((xui_j (by decide)).trans xui_s) (xui_s) (by omega) (by omega) (by omega) (by omega) (by rw [flowF_k (by decide) (by omega)]; exact hlk) kx
      · refine xx_goto (q := 127) rfl rfl ?_
        refine xx_incz (q := 130) (loc2 := [_, _, _, _, _, _, _]) rfl rfl rfl (by omega) (by omega) rfl rfl ?_
        refine xx_goto (q := 51) rfl rfl ?_
        obtain ⟨k, rfl⟩ : ∃ k2, k = k2 + 1 := ⟨k - 1, by omega⟩
        have e : fndS (flowF K1 lock (K1 2 lock.toNat)) K lock m (ww, pl, pt) = (ww, pl, pt) := if_neg h98
        have e2 : fndM K lock (k + 1) K1 m (ww, pl, pt) = fndM K lock k (flowF K1 lock (K1 2 lock.toNat)) (m + 1) (fndS (flowF K1 lock (K1 2 lock.toNat)) K lock m (ww, pl, pt)) := if_neg h74
        rw [e] at e2
        rw [e2] at kx
        have hfz : FA D D4 := (fun b k h1 h2 h3 => hF4 b k (by omega) h2 h3)
        exact ih k (by omega) _ _ _ ww pl pt (hK4) hI4 (CK_fr hK (fun o k ho => hfz _ _ (by omega) (by omega) (by omega))) (hF.trans hfz) ((hF4 279 2 (by omega) (by omega) (by omega)).trans hp2) ((hF4 279 3 (by omega) (by omega) (by omega)).trans hp3) (by omega) (by omega) (by omega) (by omega) (by rw [flowF_k (by decide) (by omega)]; exact hlk) kx
theorem CK_seen {K D : KK} {sn : Nat → Int} (h : CK 284 K D) (hs : ∀ k, k < 10 → D 22 k = sn k) : CK 284 (sdK K sn) (xcp D 22 0 (284 + 1) 0 10) := by
  intro o k hk
  rcases Classical.em (o = 1) with rfl | q
  · have hk2 : k < 10 := hk
    show (if 284 + 1 = 284 + 1 ∧ 0 ≤ k ∧ k < 0 + 10 then D 22 (0 + (k - 0)) else _) = sn k
    rw [if_pos ⟨rfl, by omega, by omega⟩, show 0 + (k - 0) = k by omega]
    exact hs k hk2
  · have e : cln (sdK K sn) o = cln K o := by
      unfold cln
      rfl
    rw [e] at hk
    rw [show xcp D 22 0 (284 + 1) 0 10 (284 + o) k = D (284 + o) k from if_neg (fun r => q (by omega)), show sdK K sn o k = K o k from if_neg q]
    exact h o k hk
set_option maxHeartbeats 1000000 in
theorem c_fnd_L {n : Nat} {R : Nat → Nat → Option Nat} {D0 K : KK} (hR : RF R) (hI : KI K) (sn : Nat → Int) (hsn : ∀ k, 0 ≤ sn k ∧ sn k ≤ 999) (hs0 : ∀ k, k < 10 → D0 22 k = sn k) : ∀ (k : Nat) (D : KK) (ww lock pl pt : Int) (x y : Option XV), CK 27 K D → FA D0 D → (∀ k, k < 10 → D 22 k = sn k) → D 279 2 = pl → D 279 3 = pt → 0 ≤ ww → ww ≤ 20 * lock → 0 ≤ lock → lock + k = K 0 0 → XX (XC 3) 111 (XP (some (.inl (fndL K sn k lock (ww, pl, pt)).1)) (xS n) R (fun D' => FA D0 D' ∧ D' 279 2 = (fndL K sn k lock (ww, pl, pt)).2.1 ∧ D' 279 3 = (fndL K sn k lock (ww, pl, pt)).2.2)) 15 [some (.inr (some 279)), some (.inr (some 27)), some (.inr (some 22)), some (.inl ww), some (.inl lock), x, y] [] (xS n, R, D) := by
  intro k
  induction k using Nat.strongRecOn with
  | ind k ih =>
  intro D ww lock pl pt x y hK hF hs hp2 hp3 hw0 hw1 h1 hk
  have hc4 : isC 284 := isT_C (isT_k (s := 0) (by omega))
  have hbL := ki_L hI
  refine xx_iload (q := 17) rfl rfl rfl ?_
  refine xx_aload_n (q := 18) rfl rfl rfl ?_
  refine xx_gez (v := K 0 0) (q := 21) rfl rfl rfl (xSc_0 isC_27) (Nat.le_of_ble_eq_true rfl) rfl (hK 0 0 (Nat.le_of_ble_eq_true rfl)) ?_
  have hb1 : 1 ≤ K 0 0 ∧ K 0 0 ≤ 9 := by have h := ki_L hI; exact h
  refine xx_icmp_ge (q := 139) (q2 := 24) rfl rfl rfl (fun h21 => ?_) (fun h21 => ?_)
  · refine xx_iload_n (q := 140) rfl rfl rfl ?_
    obtain rfl : k = 0 := by omega
    exact xx_iret rfl trivial ⟨rfl, _, rfl, hF, hp2, hp3⟩
  · obtain ⟨k, rfl⟩ : ∃ k2, k = k2 + 1 := ⟨k - 1, by omega⟩
    have h21x : lock < K 0 0 := by omega
    refine xx_aload_n (q := 25) rfl rfl rfl ?_
    refine xx_aload_n (q := 26) rfl rfl rfl ?_
    obtain ⟨D2, hx2, hK2, hG2⟩ := c_start (n := n) hR isC_27 (by decide) hK hI
    refine xx_callV (q := 29) (As := [_]) (rest := []) rfl rfl rfl (Or.inl rfl) rfl rfl (Nat.le_of_ble_eq_true rfl) xS_279 (XCm hx2 rfl) rfl ?_
    refine xx_astore (q := 31) (loc2 := [_, _, _, _, _, _, _]) rfl rfl (Nat.le_of_ble_eq_true rfl) rfl ?_
    refine xx_aload_n (q := 32) rfl rfl rfl ?_
    refine xx_iconst (q := 33) rfl rfl (by decide) ?_
    refine xx_aload (q := 35) rfl rfl rfl ?_
    refine xx_getR (q := 38) rfl rfl rfl (xSc_0 hc4) (Nat.le_of_ble_eq_true rfl) rfl (rc_depth hR hc4) ?_
    refine xx_iconst (q := 39) rfl rfl (by decide) ?_
    refine xx_aload (q := 41) rfl rfl rfl ?_
    refine xx_getR (q := 44) rfl rfl rfl (xSc_0 hc4) (Nat.le_of_ble_eq_true rfl) rfl (rc_depth hR hc4) ?_
    refine xx_alen (q := 45) rfl rfl (xSc_1 hc4) (by decide) (Nat.le_of_ble_eq_true rfl) ?_
    refine xx_copy (q := 48) (zn := 10) (dn := 0) (sn := 0) rfl rfl rfl xS_22 (xSc_1 hc4) rfl rfl rfl (by decide) (by decide) (Nat.le_of_ble_eq_true rfl) ?_
    have hK3 := CK_seen hK2 (fun k hk => (hG2 22 k (by omega) (by omega) (by omega)).trans (hs k hk))
    refine xx_iconst (q := 49) rfl rfl (by decide) ?_
    refine xx_istore (q := 51) (loc2 := [_, _, _, _, _, _, _]) rfl rfl (Nat.le_of_ble_eq_true rfl) rfl ?_
    have hfz : FA D (xcp D2 22 0 (284 + 1) 0 10) := fun b k h1 h2 h3 => (show xcp D2 22 0 (284 + 1) 0 10 b k = D2 b k from if_neg (fun r => by omega)).trans (hG2 b k (by omega) h2 h3)
    have hb2 := fndM_b (K := K) (lock := lock) 20 (sdK K sn) 1 (ww, pl, pt)
    refine c_fnd_M hR lock h1 (by omega) hI 20 _ _ 1 ww pl pt hK3 (sdK_I hI hsn) (CK_fr hK (fun o k ho => hfz _ _ (by omega) (by omega) (by omega))) (hF.trans hfz) ((show xcp D2 22 0 (284 + 1) 0 10 279 2 = D2 279 2 from rfl).trans ((hG2 279 2 (by omega) (by omega) (by omega)).trans hp2)) ((show xcp D2 22 0 (284 + 1) 0 10 279 3 = D2 279 3 from rfl).trans ((hG2 279 3 (by omega) (by omega) (by omega)).trans hp3)) (by omega) (by omega) (by omega) (by omega) (show lock < sdK K sn 0 0 from h21x) (fun D2 m2 _ hK2 hF2 hq2 hq3 => ?_)
    refine xx_incz (q := 136) (loc2 := [_, _, _, _, _, _, _]) rfl rfl rfl (by omega) (by omega) rfl rfl ?_
    refine xx_goto (q := 15) rfl rfl ?_
    exact ih k (by omega) D2 (fndM K lock 20 (sdK K sn) 1 (ww, pl, pt)).1 (lock + 1) (fndM K lock 20 (sdK K sn) 1 (ww, pl, pt)).2.1 (fndM K lock 20 (sdK K sn) 1 (ww, pl, pt)).2.2 _ _ hK2 hF2 (fun k hk => (hF2 22 k (by omega) (by omega) (by omega)).trans (hs0 k hk)) hq2 hq3 (by omega) (by omega) (by omega) (by omega)
theorem XX_mono {C : XCal} {i : Nat} {Q Q2 : XQ} {pc : Nat} {loc : XLc} {st : List XV} {m : XM} (h : ∀ r m2, Q r m2 → Q2 r m2) (k : XX C i Q pc loc st m) : XX C i Q2 pc loc st m := by
  obtain ⟨n, k⟩ := k
  refine ⟨n, ?_⟩
  induction n generalizing pc loc st m with
  | zero => exact k.elim
  | succ n ih =>
    obtain ⟨op, len, h1, h2⟩ := k
    refine ⟨op, len, h1, ?_⟩
    rcases xsem_st op h2 with ⟨r, m2, h3, h4⟩ | ⟨p2, l2, s2, m2, h3, h4⟩
    · exact h4 _ _ _ (h _ _ h3)
    · exact h4 _ _ _ (fun _ _ _ _ _ q => q) (ih h3)
theorem XP_mono {C : XCal} {i : Nat} {v : Option XV} {S : List (Nat × Nat)} {R : Nat → Nat → Option Nat} {P P2 : KK → Prop} {pc : Nat} {loc : XLc} {st : List XV} {m : XM} (h : ∀ D, P D → P2 D) (k : XX C i (XP v S R P) pc loc st m) : XX C i (XP v S R P2) pc loc st m := XX_mono (fun r m2 q => ⟨q.1, q.2.choose, q.2.choose_spec.1, h _ q.2.choose_spec.2⟩) k
set_option maxHeartbeats 1000000 in
theorem c_findPulls {n : Nat} {R : Nat → Nat → Option Nat} {D K : KK} (hR : RF R) (hI : KI K) (sn : Nat → Int) (hsn : ∀ k, 0 ≤ sn k ∧ sn k ≤ 999) (hs0 : ∀ k, k < 10 → D 22 k = sn k) (hK : CK 27 K D) : ∃ D', XC 4 111 [.inr (some 279), .inr (some 27), .inr (some 22)] (xS n, R, D) (some (.inl ((fndF K sn).1))) (xS n, R, D') ∧ FA D D' ∧ D' 279 2 = (fndF K sn).2.1 ∧ D' 279 3 = (fndF K sn).2.2 := by
  have hbL := ki_L hI
  refine XE_of (Nat.le_of_ble_eq_true rfl) (Nat.le_of_ble_eq_true rfl) (loc := [_, _, _, _, _, _, _]) rfl ?_
  refine xx_iconst (q := 1) rfl rfl (by decide) ?_
  refine xx_istore_n (q := 2) (loc2 := [_, _, _, _, _, _, _]) rfl rfl (Nat.le_of_ble_eq_true rfl) rfl ?_
  refine xx_aload_n (q := 3) rfl rfl rfl ?_
  refine xx_iconst (q := 4) rfl rfl (by decide) ?_
  refine xx_puz (q := 7) rfl rfl rfl xS_279 (Nat.le_of_ble_eq_true rfl) (Nat.le_of_ble_eq_true rfl) (fun h => by cases h) (Or.inl rfl) rfl ?_
  refine xx_aload_n (q := 8) rfl rfl rfl ?_
  refine xx_iconst (q := 9) rfl rfl (by decide) ?_
  refine xx_puz (q := 12) rfl rfl rfl xS_279 (Nat.le_of_ble_eq_true rfl) (Nat.le_of_ble_eq_true rfl) (fun h => by cases h) (Or.inl rfl) rfl ?_
  refine xx_iconst (q := 13) rfl rfl (by decide) ?_
  refine xx_istore (q := 15) (loc2 := [_, _, _, _, _, _, _]) rfl rfl (Nat.le_of_ble_eq_true rfl) rfl ?_
  have hfz : FA D (xui (xui D 279 2 (-1)) 279 3 (-1)) := fun b k h1 h2 h3 => (xui_a (by omega)).trans (xui_a (by omega))
  exact XP_mono (fun D2 h => ⟨hfz.trans h.1, h.2⟩) (c_fnd_L hR hI sn hsn (fun k hk => (hfz 22 k (by omega) (by omega) (by omega)).trans (hs0 k hk)) (K 0 0).toNat _ 0 0 (-1) (-1) _ _ (CK_fr hK (fun o k ho => hfz _ _ (by omega) (by omega) (by omega))) FA.rf (fun k hk => (hfz 22 k (by omega) (by omega) (by omega)).trans (hs0 k hk)) rfl rfl (by omega) (by omega) (by omega) (by omega))
