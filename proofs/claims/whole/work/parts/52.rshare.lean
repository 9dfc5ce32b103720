/-! The reference: rows of presents. -/
def cmbL (G Hh : LwF) (boat good up : Int) (sh : Nat → Int) : Nat → Int → KK → Bool
  | 0, _, _ => true
  | k + 1, i, K => if pasR (if sh i.toNat ≤ 0 then K else givK K Hh boat good (sh i.toNat) (lckF K (K 14 boat.toNat) up)) G boat up (-1) < 0 then false else cmbL G Hh boat good up sh k (i + 1) (pasT (if sh i.toNat ≤ 0 then K else givK K Hh boat good (sh i.toNat) (lckF K (K 14 boat.toNat) up)) G boat up (-1))
def smF (sh : Nat → Int) : Nat → Int → Int
  | 0, _ => 0
  | k + 1, i => sh i.toNat + smF sh k (i + 1)
theorem smF_n {sh : Nat → Int} (h : ∀ j, 0 ≤ sh j) : ∀ (k : Nat) (i : Int), 0 ≤ smF sh k i
  | 0, _ => Int.le_refl _
  | k + 1, i => by
    have h1 := h i.toNat
    have h2 := smF_n h k (i + 1)
    show 0 ≤ sh i.toNat + smF sh k (i + 1)
    omega
theorem mes_l {K : KK} {boat up : Int} (hI : KI K) (h : 1 ≤ mesF K boat up) : (0 ≤ lckF K (K 14 boat.toNat) up ∧ lckF K (K 14 boat.toNat) up < K 0 0) ∧ (lckF K (K 14 boat.toNat) up = K 14 boat.toNat ∨ lckF K (K 14 boat.toNat) up + 1 = K 14 boat.toNat) ∨ (¬ up = 0 ∧ K 0 0 < K 14 boat.toNat) := by
  have h2 := ki_14 hI boat.toNat
  unfold mesF at h
  unfold lckF
  split at h
  · next q => left; rw [if_pos q, if_pos ⟨h2.1, by omega⟩]; omega
  · next q =>
    rcases Classical.em (K 14 boat.toNat ≤ K 0 0) with r | r
    · left; rw [if_neg q, if_pos ⟨by omega, by omega⟩]; omega
    · right; exact ⟨q, by omega⟩
theorem pasK_17 {K : KK} {boat up wth : Int} {j : Nat} : pasK K boat up wth 17 j = K 17 j := by
  unfold pasK
  rw [xui_a (by decide)]
  split
  · rw [xui_a (by decide)]; exact flowF_k (by decide) (by omega)
  · rw [xui_a (by decide), xui_a (by decide)]; exact flowF_k (by decide) (by omega)
theorem pasT_17 {K : KK} {G : LwF} {boat up wth : Int} {j : Nat} : pasT K G boat up wth 17 j = K 17 j := by
  unfold pasT
  split
  · exact pasK_17
  · rfl
theorem givK_k {K : KK} {Hh : LwF} {boat good amount lock : Int} {o j : Nat} (h : o ≠ 8 ∧ o ≠ 10 ∧ o ≠ 12 ∧ o ≠ 17) : givK K Hh boat good amount lock o j = K o j := (xui_a (by omega)).trans (rcvF_k (by omega) (by omega) (by omega))
theorem givK_17 {K : KK} {Hh : LwF} {boat good amount lock : Int} : givK K Hh boat good amount lock 17 (boat * 4 + good).toNat = K 17 (boat * 4 + good).toNat - amount := xui_s
theorem mes_giv {K : KK} {Hh : LwF} {boat good amount lock b2 up : Int} : mesF (givK K Hh boat good amount lock) b2 up = mesF K b2 up := by
  unfold mesF
  rw [givK_k (by omega), givK_k (by omega)]
theorem lk_giv {K : KK} {Hh : LwF} {boat good amount lock p up : Int} : lckF (givK K Hh boat good amount lock) p up = lckF K p up := by
  unfold lckF
  rw [givK_k (by omega)]
theorem pas_le {K : KK} {G : LwF} {boat up : Int} (h : ¬ pasR K G boat up (-1) < 0) (q : ¬ up = 0) : (pasT K G boat up (-1)) 14 boat.toNat ≤ K 14 boat.toNat := by
  have h0 : refF K G boat up (-1) = 0 := Classical.not_not.mp (fun q => h (pasR_lt.mpr q))
  have h1 := refF_0 h0
  have h2 := lck_e h1.2.1.1
  have h3 : pasT K G boat up (-1) = pasK K boat up (-1) := if_pos h0
  rw [h3, pasK_14, if_neg q]
  omega
set_option maxHeartbeats 1000000 in
theorem r_cmb_L {n : Nat} {R : Nat → Nat → Option Nat} {K D0 S : KK} {b : Int} {B : Nat → Int} {U : UU} (hR : RF R) {G Hh : LwF} (hG : RLG G n R D0) (hH : RLH Hh n R D0) (boat good up nn : Int) (hb0 : 0 ≤ boat) (hg0 : 0 ≤ good) (hg1 : good ≤ 3) (hn9 : nn ≤ 9) (sh : Nat → Int) (hsh0 : ∀ j, 0 ≤ sh j) (hS0 : ∀ j : Nat, (j : Int) < nn → S 510 j = sh j) : ∀ (k : Nat) (L D : KK) (i : Int) (x : Option XV), RT K b B U L D0 D → KI L → boat < L 13 0 → (∀ x k, 510 ≤ x → D x k = S x k) → (¬ up = 0 → L 14 boat.toNat ≤ L 0 0) → 0 ≤ i → i + k = nn → (k : Int) ≤ mesF L boat up ∧ smF sh k i ≤ L 17 (boat * 4 + good).toNat → XX (XC 8) 267 (XP (some (.inl (bi (cmbL G Hh boat good up sh k i L = true)))) (xS n) R (fun D' => ∃ M, RT K b B U M D0 D' ∧ KI M ∧ ∀ x k, 510 ≤ x → D' x k = S x k)) 3 [some (.inr (some 479)), some (.inl boat), some (.inl good), some (.inl up), some (.inl nn), some (.inl i), x] [] (xS n, R, D) := by
  intro k
  induction k using Nat.strongRecOn with
  | ind k ih =>
  intro L D i x hT hI hbc hS hpl h1 hk hm2
  refine xx_iload (q := 5) rfl rfl rfl ?_
  refine xx_iload (q := 7) rfl rfl rfl ?_
  refine xx_icmp_ge (q := 70) (q2 := 10) rfl rfl rfl (fun h7 => ?_) (fun h7 => ?_)
  · refine xx_iconst (q := 71) rfl rfl (by decide) ?_
    obtain rfl : k = 0 := by omega
    exact xx_iret rfl (Or.inr rfl) ⟨congrArg (fun z => some (Sum.inl z)) (bi_t rfl).symm, _, rfl, L, hT, hI, hS⟩
  · obtain ⟨k, rfl⟩ : ∃ k2, k = k2 + 1 := ⟨k - 1, by omega⟩
    obtain ⟨hmm, hcg⟩ := hm2
    have hbB := ki_B hI
    have hbL := ki_L hI
    have hs1 := smF_n hsh0 k (i + 1)
    have hs2 : smF sh (k + 1) i = sh i.toNat + smF sh k (i + 1) := rfl
    have hsh : ∀ j : Nat, (j : Int) < nn → D 510 j = sh j := fun j hj => (hS 510 j (by omega)).trans (hS0 j hj)
    have hb17 := ki_17 hI (boat * 4 + good).toNat
    have hml := (mes_l hI (up := up) (boat := boat) (by omega)).resolve_right (fun q => by have := hpl q.1; omega)
    refine xx_aload_n (q := 11) rfl rfl rfl ?_
    refine xx_aload_n (q := 12) rfl rfl rfl ?_
    refine xx_getR (q := 15) rfl rfl rfl xS_479 (Nat.le_of_ble_eq_true rfl) rfl (hR.1 479 1 rfl) ?_
    refine xx_bipush (q := 17) rfl rfl (by decide) ?_
    refine xx_iload_n (q := 18) rfl rfl rfl ?_
    refine xx_iaddR (q := 19) rfl rfl (by omega) (by omega) ?_
    refine xx_iaz (v := L 14 (boat).toNat) (q := 20) rfl rfl xS_480 (by omega) (by omega) (rv_14 hT.1 (p := boat) (by omega) (by omega)) ?_
    have hb1 : 0 ≤ L 14 (boat).toNat ∧ L 14 (boat).toNat ≤ 9 := by have h := ki_14 hI (boat).toNat; exact h
    refine xx_iload_n (q := 21) rfl rfl rfl ?_
    refine xx_callV (q := 24) (As := [_, _]) (rest := []) rfl rfl rfl (Or.inl rfl) rfl rfl (Nat.le_of_ble_eq_true rfl) xS_479 (XCm (r_lockFrom hR hT.1 hI (L 14 (boat).toNat) up (by omega) (by omega)) rfl) rfl ?_
    have hb2 := lckF_b L (L 14 (boat).toNat) up
    refine xx_istore (q := 26) (loc2 := [_, _, _, _, _, _, _]) rfl rfl (Nat.le_of_ble_eq_true rfl) rfl ?_
    refine xx_aload_n (q := 27) rfl rfl rfl ?_
    refine xx_getR (q := 30) rfl rfl rfl xS_479 (Nat.le_of_ble_eq_true rfl) rfl (hR.1 479 55 rfl) ?_
    refine xx_iload (q := 32) rfl rfl rfl ?_
    refine xx_iaz (v := sh (i).toNat) (q := 33) rfl rfl xS_510 (by omega) (by omega) (hsh _ (by omega)) ?_
    have hbs3 := hsh0 (i).toNat
    refine xx_if_le (q := 52) (q2 := 36) rfl rfl rfl (fun h33 => ?_) (fun h33 => ?_)
    · refine xx_aload_n (q := 53) rfl rfl rfl ?_
      refine xx_iload_n (q := 54) rfl rfl rfl ?_
      refine xx_iload_n (q := 55) rfl rfl rfl ?_
      refine xx_iconst (q := 56) rfl rfl (by decide) ?_
      obtain ⟨D4, hx4, hv4⟩ := r_passes (n := n) hR hT.1 hI (RLG.fr hG hT.law) boat up (-1) (by omega) hbc
      rw [rpb_1, rpB_1, rpU_1] at hv4
      have hT4 := hT.step hv4
      have hI4 : KI (pasT L G boat up (-1)) := pasT_I hI
      refine xx_callV (q := 59) (As := [_, _, _]) (rest := []) rfl rfl rfl (Or.inl rfl) rfl rfl (Nat.le_of_ble_eq_true rfl) xS_479 (XCm hx4 rfl) rfl ?_
      refine xx_if_ge (q := 64) (q2 := 62) rfl rfl rfl (fun h59 => ?_) (fun h59 => ?_)
      · refine xx_incz (q := 67) (loc2 := [_, _, _, _, _, _, _]) rfl rfl rfl (by omega) (by omega) rfl rfl ?_
        refine xx_goto (q := 3) rfl rfl ?_
        have h59x : ¬ pasR (L) G boat up (-1) < 0 := by omega
        have hx0 : (if sh i.toNat ≤ 0 then L else givK L Hh boat good (sh i.toNat) (lckF L (L 14 boat.toNat) up)) = L := if_pos h33
        have hms := mes_s (K := L) (G := G) (boat := boat) (up := up) (by omega)
        rw [show cmbL G Hh boat good up sh (k + 1) i L = cmbL G Hh boat good up sh k (i + 1) (pasT L G boat up (-1)) from by rw [cmbL.eq_2, hx0]; exact if_neg h59x]
        have hS2 : ∀ x k, 510 ≤ x → D4 x k = S x k := fun x k q1 => (hv4.2.2.2.2.2.2 x k (by omega) (by omega) (by omega) (by omega) (by omega) (by omega)).trans (hS x k q1)
        exact ih k (by omega) _ _ _ _ hT4 hI4 (by rw [pasT_k (Or.inr rfl)]; exact hbc) hS2 (fun q => by have h9 := hpl q; rw [show (pasT (L) G boat up (-1)) 0 0 = L 0 0 from (pasT_k (Or.inl rfl))]; have h8 : (pasT (L) G boat up (-1)) 14 boat.toNat ≤ L 14 boat.toNat := pas_le h59x q; omega) (by omega) (by omega) ⟨by omega, by rw [pasT_17]; omega⟩
      · refine xx_iconst (q := 63) rfl rfl (by decide) ?_
        have h59x : pasR (L) G boat up (-1) < 0 := by omega
        have hx0 : (if sh i.toNat ≤ 0 then L else givK L Hh boat good (sh i.toNat) (lckF L (L 14 boat.toNat) up)) = L := if_pos h33
        rw [show cmbL G Hh boat good up sh (k + 1) i L = false from by rw [cmbL.eq_2, hx0]; exact if_pos h59x]
        exact xx_iret rfl (Or.inl rfl) ⟨congrArg (fun z => some (Sum.inl z)) (bi_f (by intro q; cases q)).symm, _, rfl, _, hT4, hI4, fun x k q1 => (hv4.2.2.2.2.2.2 x k (by omega) (by omega) (by omega) (by omega) (by omega) (by omega)).trans (hS x k q1)⟩
    · refine xx_aload_n (q := 37) rfl rfl rfl ?_
      refine xx_iload_n (q := 38) rfl rfl rfl ?_
      refine xx_iload_n (q := 39) rfl rfl rfl ?_
      refine xx_aload_n (q := 40) rfl rfl rfl ?_
      refine xx_getR (q := 43) rfl rfl rfl xS_479 (Nat.le_of_ble_eq_true rfl) rfl (hR.1 479 55 rfl) ?_
      refine xx_iload (q := 45) rfl rfl rfl ?_
      refine xx_iaz (v := sh (i).toNat) (q := 46) rfl rfl xS_510 (by omega) (by omega) (hsh _ (by omega)) ?_
      have hbs5 := hsh0 (i).toNat
      refine xx_iload (q := 48) rfl rfl rfl ?_
      have hcn6 : canF L boat good (sh (i).toNat) (lckF L (L 14 (boat).toNat) up) := ⟨⟨hb0, hbc⟩, hml.1, ⟨hg0, hg1⟩, hml.2, ⟨by omega, by omega⟩, by omega⟩
      obtain ⟨D6, hx6, hv6⟩ := r_gives (n := n) hR hT.1 hI (RLH.fr hH hT.law) boat good (sh (i).toNat) (lckF L (L 14 (boat).toNat) up) hcn6
      have hT6 := hT.step hv6
      have hI6 : KI (givK L Hh boat good (sh (i).toNat) (lckF L (L 14 (boat).toNat) up)) := givK_I hI hcn6
      refine xx_callV (q := 51) (As := [_, _, _, _]) (rest := []) rfl rfl rfl (Or.inl rfl) rfl rfl (Nat.le_of_ble_eq_true rfl) xS_479 (XCm hx6 rfl) rfl ?_
      refine xx_pop (q := 52) rfl rfl ?_
      refine xx_aload_n (q := 53) rfl rfl rfl ?_
      refine xx_iload_n (q := 54) rfl rfl rfl ?_
      refine xx_iload_n (q := 55) rfl rfl rfl ?_
      refine xx_iconst (q := 56) rfl rfl (by decide) ?_
      obtain ⟨D7, hx7, hv7⟩ := r_passes (n := n) hR hT6.1 hI6 (RLG.fr hG hT6.law) boat up (-1) (by omega) (by rw [givK_k (by omega)]; exact hbc)
      rw [rpb_1, rpB_1, rpU_1] at hv7
      have hT7 := hT6.step hv7
      have hI7 : KI (pasT (givK L Hh boat good (sh (i).toNat) (lckF L (L 14 (boat).toNat) up)) G boat up (-1)) := pasT_I hI6
      refine xx_callV (q := 59) (As := [_, _, _]) (rest := []) rfl rfl rfl (Or.inl rfl) rfl rfl (Nat.le_of_ble_eq_true rfl) xS_479 (XCm hx7 rfl) rfl ?_
      refine xx_if_ge (q := 64) (q2 := 62) rfl rfl rfl (fun h59 => ?_) (fun h59 => ?_)
      · refine xx_incz (q := 67) (loc2 := [_, _, _, _, _, _, _]) rfl rfl rfl (by omega) (by omega) rfl rfl ?_
        refine xx_goto (q := 3) rfl rfl ?_
        have h59x : ¬ pasR (givK L Hh boat good (sh i.toNat) (lckF L (L 14 boat.toNat) up)) G boat up (-1) < 0 := by omega
        have hx0 : (if sh i.toNat ≤ 0 then L else givK L Hh boat good (sh i.toNat) (lckF L (L 14 boat.toNat) up)) = givK L Hh boat good (sh i.toNat) (lckF L (L 14 boat.toNat) up) := if_neg h33
        have hms := mes_s (K := givK L Hh boat good (sh i.toNat) (lckF L (L 14 boat.toNat) up)) (G := G) (boat := boat) (up := up) (by omega)
        rw [mes_giv] at hms
        rw [show cmbL G Hh boat good up sh (k + 1) i L = cmbL G Hh boat good up sh k (i + 1) (pasT (givK L Hh boat good (sh (i).toNat) (lckF L (L 14 (boat).toNat) up)) G boat up (-1)) from by rw [cmbL.eq_2, hx0]; exact if_neg h59x]
        have hS2 : ∀ x k, 510 ≤ x → D7 x k = S x k := fun x k q1 => (hv7.2.2.2.2.2.2 x k (by omega) (by omega) (by omega) (by omega) (by omega) (by omega)).trans ((hv6.2.2.2.2.2.2 x k (by omega) (by omega) (by omega) (by omega) (by omega) (by omega)).trans (hS x k q1))
        exact ih k (by omega) _ _ _ _ hT7 hI7 (by rw [pasT_k (Or.inr rfl), givK_k (by omega)]; exact hbc) hS2 (fun q => by have h9 := hpl q; rw [show (pasT (givK L Hh boat good (sh i.toNat) (lckF L (L 14 boat.toNat) up)) G boat up (-1)) 0 0 = L 0 0 from (pasT_k (Or.inl rfl)).trans (givK_k (by omega))]; have h8 : (pasT (givK L Hh boat good (sh i.toNat) (lckF L (L 14 boat.toNat) up)) G boat up (-1)) 14 boat.toNat ≤ L 14 boat.toNat := Int.le_trans (pas_le h59x q) (Int.le_of_eq (givK_k (by omega))); omega) (by omega) (by omega) ⟨by omega, by rw [pasT_17, givK_17]; omega⟩
      · refine xx_iconst (q := 63) rfl rfl (by decide) ?_
        have h59x : pasR (givK L Hh boat good (sh i.toNat) (lckF L (L 14 boat.toNat) up)) G boat up (-1) < 0 := by omega
        have hx0 : (if sh i.toNat ≤ 0 then L else givK L Hh boat good (sh i.toNat) (lckF L (L 14 boat.toNat) up)) = givK L Hh boat good (sh i.toNat) (lckF L (L 14 boat.toNat) up) := if_neg h33
        rw [show cmbL G Hh boat good up sh (k + 1) i L = false from by rw [cmbL.eq_2, hx0]; exact if_pos h59x]
        exact xx_iret rfl (Or.inl rfl) ⟨congrArg (fun z => some (Sum.inl z)) (bi_f (by intro q; cases q)).symm, _, rfl, _, hT7, hI7, fun x k q1 => (hv7.2.2.2.2.2.2 x k (by omega) (by omega) (by omega) (by omega) (by omega) (by omega)).trans ((hv6.2.2.2.2.2.2 x k (by omega) (by omega) (by omega) (by omega) (by omega) (by omega)).trans (hS x k q1))⟩
theorem r_comesBy {n : Nat} {R : Nat → Nat → Option Nat} {K L D0 D : KK} {b : Int} {B : Nat → Int} {U : UU} (hR : RF R) (hT : RT K b B U L D0 D) (hI : KI L) {G Hh : LwF} (hG : RLG G n R D0) (hH : RLH Hh n R D0) (boat good up nn : Int) (hb0 : 0 ≤ boat) (hb1 : boat < L 13 0) (hg0 : 0 ≤ good) (hg1 : good ≤ 3) (hn0 : 0 ≤ nn) (hn9 : nn ≤ 9) (sh : Nat → Int) (hsh0 : ∀ j, 0 ≤ sh j) (hsh : ∀ j : Nat, (j : Int) < nn → D 510 j = sh j) (hpl : ¬ up = 0 → L 14 boat.toNat ≤ L 0 0) (hm : nn ≤ mesF L boat up) (hsm : smF sh nn.toNat 0 ≤ L 17 (boat * 4 + good).toNat) : ∃ D', XC 9 267 [.inr (some 479), .inl boat, .inl good, .inl up, .inl nn] (xS n, R, D) (some (.inl (bi (cmbL G Hh boat good up sh nn.toNat 0 L = true)))) (xS n, R, D') ∧ ∃ M, RT K b B U M D0 D' ∧ KI M ∧ ∀ x k, 510 ≤ x → D' x k = D x k := by
  refine XE_of (Nat.le_of_ble_eq_true rfl) (Nat.le_of_ble_eq_true rfl) (loc := [_, _, _, _, _, _, _]) rfl ?_
  refine xx_iconst (q := 1) rfl rfl (by decide) ?_
  refine xx_istore (q := 3) (loc2 := [_, _, _, _, _, _, _]) rfl rfl (Nat.le_of_ble_eq_true rfl) rfl ?_
  exact r_cmb_L hR hG hH boat good up nn hb0 hg0 hg1 hn9 sh hsh0 hsh nn.toNat L D 0 _ hT hI hb1 (fun _ _ _ => rfl) hpl (by omega) (by omega) ⟨by omega, hsm⟩
/-- where the next row of amounts changes -/
def nfL (sh : Nat → Int) : Nat → Int → Int × Int
  | 0, bh => (-1, bh)
  | k + 1, bh => if bh = 0 then nfL sh k (bh + sh k) else ((k : Int), bh)
def nxF (sh : Nat → Int) (i bh nn : Int) : Nat → Int := fun j => if (j : Int) = nn - 1 then bh - 1 else if (j : Int) = i then sh j + 1 else if i < j ∧ (j : Int) < nn then 0 else sh j
def fsF (sh : Nat → Int) (nn all : Int) : Nat → Int := fun j => if (j : Int) = nn - 1 then all else if (j : Int) < nn then 0 else sh j
set_option maxHeartbeats 1000000 in
theorem r_fs_L {n : Nat} {R : Nat → Nat → Option Nat} {D : KK} (hR : RF R) (nn all : Int) (hn1 : 1 ≤ nn) (hn9 : nn ≤ 9) : ∀ (k : Nat) (E : KK) (l : Int), 0 ≤ l → l + k = nn → (∀ j : Nat, E 510 j = if (j : Int) < l then 0 else D 510 j) → (∀ x j, x ≠ 510 → E x j = D x j) → XX (XC 0) 265 (XP none (xS n) R (fun D' => (∀ j, D' 510 j = fsF (D 510) nn all j) ∧ ∀ x j, x ≠ 510 → D' x j = D x j)) 2 [some (.inr (some 479)), some (.inl nn), some (.inl all), some (.inl l)] [] (xS n, R, E) := by
  intro k
  induction k using Nat.strongRecOn with
  | ind k ih =>
  intro E l h1 hk hE hF
  refine xx_iload_n (q := 3) rfl rfl rfl ?_
  refine xx_iload_n (q := 4) rfl rfl rfl ?_
  refine xx_icmp_ge (q := 20) (q2 := 7) rfl rfl rfl (fun h4 => ?_) (fun h4 => ?_)
  · refine xx_aload_n (q := 21) rfl rfl rfl ?_
    refine xx_getR (q := 24) rfl rfl rfl xS_479 (Nat.le_of_ble_eq_true rfl) rfl (hR.1 479 55 rfl) ?_
    refine xx_iload_n (q := 25) rfl rfl rfl ?_
    refine xx_iconst (q := 26) rfl rfl (by decide) ?_
    refine xx_isubR (q := 27) rfl rfl (by omega) (by omega) ?_
    refine xx_iload_n (q := 28) rfl rfl rfl ?_
    refine xx_isz (q := 29) rfl rfl xS_510 (by omega) (by omega) rfl ?_
    obtain rfl : k = 0 := by omega
    refine xx_vret rfl rfl ⟨rfl, _, rfl, fun j => ?_, fun x j hx => (xui_a hx).trans (hF x j hx)⟩
    rw [xui_f]
    unfold fset fsF
    rw [hE j]
    grind
  · obtain ⟨k, rfl⟩ : ∃ k2, k = k2 + 1 := ⟨k - 1, by omega⟩
    refine xx_aload_n (q := 8) rfl rfl rfl ?_
    refine xx_getR (q := 11) rfl rfl rfl xS_479 (Nat.le_of_ble_eq_true rfl) rfl (hR.1 479 55 rfl) ?_
    refine xx_iload_n (q := 12) rfl rfl rfl ?_
    refine xx_iconst (q := 13) rfl rfl (by decide) ?_
    refine xx_isz (q := 14) rfl rfl xS_510 (by omega) (by omega) rfl ?_
    refine xx_incz (q := 17) (loc2 := [_, _, _, _]) rfl rfl rfl (by omega) (by omega) rfl rfl ?_
    refine xx_goto (q := 2) rfl rfl ?_
    refine ih k (by omega) _ _ (by omega) (by omega) (fun j => ?_) (fun x j hx => (xui_a hx).trans (hF x j hx))
    rw [xui_f]
    unfold fset
    rw [hE j]
    rcases Classical.em (j = l.toNat) with q | q
    · rw [if_pos q, if_pos (by omega)]
    · rw [if_neg q]
      rcases Classical.em ((j : Int) < l) with r | r
      · rw [if_pos r, if_pos (by omega)]
      · rw [if_neg r, if_neg (by omega)]
theorem r_firstShare {n : Nat} {R : Nat → Nat → Option Nat} {D : KK} (hR : RF R) (nn all : Int) (hn1 : 1 ≤ nn) (hn9 : nn ≤ 9) : ∃ D', XC 1 265 [.inr (some 479), .inl nn, .inl all] (xS n, R, D) none (xS n, R, D') ∧ (∀ j, D' 510 j = fsF (D 510) nn all j) ∧ ∀ x j, x ≠ 510 → D' x j = D x j := by
  refine XE_of (Nat.le_of_ble_eq_true rfl) (Nat.le_of_ble_eq_true rfl) (loc := [_, _, _, _]) rfl ?_
  refine xx_iconst (q := 1) rfl rfl (by decide) ?_
  refine xx_istore_n (q := 2) (loc2 := [_, _, _, _]) rfl rfl (Nat.le_of_ble_eq_true rfl) rfl ?_
  exact r_fs_L hR nn all hn1 hn9 nn.toNat D 0 (by omega) (by omega) (fun j => (if_neg (by omega)).symm) (fun _ _ _ => rfl)
set_option maxHeartbeats 1000000 in
theorem r_nx_Z {n : Nat} {R : Nat → Nat → Option Nat} {D : KK} (hR : RF R) (nn i bh : Int) (hn1 : 1 ≤ nn) (hn9 : nn ≤ 9) (hi0 : 0 ≤ i) (hi1 : i + 1 < nn) (hbh : -100000 ≤ bh) (hbh2 : bh ≤ 100000) : ∀ (k : Nat) (E : KK) (l : Int), i + 1 ≤ l → l + k = nn → (∀ j : Nat, E 510 j = if (j : Int) = i then D 510 j + 1 else if i < (j : Int) ∧ (j : Int) < l then 0 else D 510 j) → (∀ x j, x ≠ 510 → E x j = D x j) → XX (XC 0) 266 (XP (some (.inl 1)) (xS n) R (fun D' => (∀ j, D' 510 j = nxF (D 510) i bh nn j) ∧ ∀ x j, x ≠ 510 → D' x j = D x j)) 62 [some (.inr (some 479)), some (.inl nn), some (.inl bh), some (.inl i), some (.inl l)] [] (xS n, R, E) := by
  intro k
  induction k using Nat.strongRecOn with
  | ind k ih =>
  intro E l h1 hk hE hF
  refine xx_iload (q := 64) rfl rfl rfl ?_
  refine xx_iload_n (q := 65) rfl rfl rfl ?_
  refine xx_icmp_ge (q := 82) (q2 := 68) rfl rfl rfl (fun h65 => ?_) (fun h65 => ?_)
  · refine xx_aload_n (q := 83) rfl rfl rfl ?_
    refine xx_getR (q := 86) rfl rfl rfl xS_479 (Nat.le_of_ble_eq_true rfl) rfl (hR.1 479 55 rfl) ?_
    refine xx_iload_n (q := 87) rfl rfl rfl ?_
    refine xx_iconst (q := 88) rfl rfl (by decide) ?_
    refine xx_isubR (q := 89) rfl rfl (by omega) (by omega) ?_
    refine xx_iload_n (q := 90) rfl rfl rfl ?_
    refine xx_iconst (q := 91) rfl rfl (by decide) ?_
    refine xx_isubR (q := 92) rfl rfl (by omega) (by omega) ?_
    refine xx_isz (q := 93) rfl rfl xS_510 (by omega) (by omega) rfl ?_
    refine xx_iconst (q := 94) rfl rfl (by decide) ?_
    obtain rfl : k = 0 := by omega
    refine xx_iret rfl (Or.inr rfl) ⟨rfl, _, rfl, fun j => ?_, fun x j hx => (xui_a hx).trans (hF x j hx)⟩
    rw [xui_f]
    unfold fset nxF
    rw [hE j]
    rcases Classical.em ((j : Int) = nn - 1) with q | q
    · rw [if_pos (show j = (nn - 1).toNat by omega), if_pos q]
    · rw [if_neg (show ¬ j = (nn - 1).toNat by omega), if_neg q]
      rcases Classical.em ((j : Int) = i) with r | r
      · rw [if_pos r, if_pos r]
      · rw [if_neg r, if_neg r]
        have e : (i < (j : Int) ∧ (j : Int) < l) = (i < (j : Int) ∧ (j : Int) < nn) := propext ⟨fun q => ⟨q.1, by omega⟩, fun q => ⟨q.1, by omega⟩⟩
        simp only [e]
  · obtain ⟨k, rfl⟩ : ∃ k2, k = k2 + 1 := ⟨k - 1, by omega⟩
    refine xx_aload_n (q := 69) rfl rfl rfl ?_
    refine xx_getR (q := 72) rfl rfl rfl xS_479 (Nat.le_of_ble_eq_true rfl) rfl (hR.1 479 55 rfl) ?_
    refine xx_iload (q := 74) rfl rfl rfl ?_
    refine xx_iconst (q := 75) rfl rfl (by decide) ?_
    refine xx_isz (q := 76) rfl rfl xS_510 (by omega) (by omega) rfl ?_
    refine xx_incz (q := 79) (loc2 := [_, _, _, _, _]) rfl rfl rfl (by omega) (by omega) rfl rfl ?_
    refine xx_goto (q := 62) rfl rfl ?_
    refine ih k (by omega) _ _ (by omega) (by omega) (fun j => ?_) (fun x j hx => (xui_a hx).trans (hF x j hx))
    rw [xui_f]
    unfold fset
    rw [hE j]
    rcases Classical.em ((j : Int) = l) with q | q
    · rw [if_pos (show j = l.toNat by omega), if_neg (show ¬ (j : Int) = i by omega), if_pos (show i < (j : Int) ∧ (j : Int) < l + 1 by omega)]
    · rw [if_neg (show ¬ j = l.toNat by omega)]
      have e : (i < (j : Int) ∧ (j : Int) < l) = (i < (j : Int) ∧ (j : Int) < l + 1) := propext ⟨fun q => ⟨q.1, by omega⟩, fun q => ⟨q.1, by omega⟩⟩
      simp only [e]
set_option maxHeartbeats 1000000 in
theorem r_nx_F {n : Nat} {R : Nat → Nat → Option Nat} {D : KK} (hR : RF R) (nn : Int) (hn1 : 1 ≤ nn) (hn9 : nn ≤ 9) (hD : ∀ j : Nat, (j : Int) < nn → 0 ≤ D 510 j ∧ D 510 j ≤ 99) : ∀ (k : Nat) (bh i : Int) (x : Option XV), i + 1 = k → i + 1 < nn → 0 ≤ bh → bh + 99 * (k : Int) ≤ 1000 → XX (XC 0) 266 (XP (some (.inl (if (nfL (D 510) k bh).1 < 0 then 0 else 1))) (xS n) R (fun D' => ((nfL (D 510) k bh).1 < 0 → D' = D) ∧ (0 ≤ (nfL (D 510) k bh).1 → (∀ j, D' 510 j = nxF (D 510) (nfL (D 510) k bh).1 (nfL (D 510) k bh).2 nn j) ∧ ∀ x j, x ≠ 510 → D' x j = D x j))) 13 [some (.inr (some 479)), some (.inl nn), some (.inl bh), some (.inl i), x] [] (xS n, R, D) := by
  intro k
  induction k using Nat.strongRecOn with
  | ind k ih =>
  intro bh i x hk hi2 hb0 hb1
  refine xx_iload_n (q := 14) rfl rfl rfl ?_
  refine xx_if_lt (q := 37) (q2 := 17) rfl rfl rfl (fun h14 => ?_) (fun h14 => ?_)
  · refine xx_iload_n (q := 38) rfl rfl rfl ?_
    refine xx_if_ge (q := 43) (q2 := 41) rfl rfl rfl (fun h38 => (by exfalso; omega)) (fun _ => ?_)
    refine xx_iconst (q := 42) rfl rfl (by decide) ?_
    obtain rfl : k = 0 := by omega
    exact xx_iret rfl (Or.inl rfl) ⟨rfl, _, rfl, fun _ => rfl, fun q => by exfalso; have : (0 : Int) ≤ -1 := q; omega⟩
  · refine xx_iload_n (q := 18) rfl rfl rfl ?_
    refine xx_if_ne (q := 37) (q2 := 21) rfl rfl rfl (fun h18 => ?_) (fun h18 => ?_)
    · refine xx_iload_n (q := 38) rfl rfl rfl ?_
      refine xx_if_ge (q := 43) (q2 := 41) rfl rfl rfl (fun _ => ?_) (fun h38 => (by exfalso; omega))
      refine xx_aload_n (q := 44) rfl rfl rfl ?_
      refine xx_getR (q := 47) rfl rfl rfl xS_479 (Nat.le_of_ble_eq_true rfl) rfl (hR.1 479 55 rfl) ?_
      refine xx_iload_n (q := 48) rfl rfl rfl ?_
      refine xx_aload_n (q := 49) rfl rfl rfl ?_
      refine xx_getR (q := 52) rfl rfl rfl xS_479 (Nat.le_of_ble_eq_true rfl) rfl (hR.1 479 55 rfl) ?_
      refine xx_iload_n (q := 53) rfl rfl rfl ?_
      refine xx_iaz (v := D 510 (i).toNat) (q := 54) rfl rfl xS_510 (by omega) (by omega) rfl ?_
      have hb1 := hD (i).toNat (by omega)
      refine xx_iconst (q := 55) rfl rfl (by decide) ?_
      refine xx_iaddR (q := 56) rfl rfl (by omega) (by omega) ?_
      refine xx_isz (q := 57) rfl rfl xS_510 (by omega) (by omega) rfl ?_
      refine xx_iload_n (q := 58) rfl rfl rfl ?_
      refine xx_iconst (q := 59) rfl rfl (by decide) ?_
      refine xx_iaddR (q := 60) rfl rfl (by omega) (by omega) ?_
      refine xx_istore (q := 62) (loc2 := [_, _, _, _, _]) rfl rfl (Nat.le_of_ble_eq_true rfl) rfl ?_
      obtain ⟨k, rfl⟩ : ∃ k2, k = k2 + 1 := ⟨k - 1, by omega⟩
      obtain rfl : i = (k : Int) := by omega
      rw [show nfL (D 510) (k + 1) bh = ((k : Int), bh) from if_neg h18]
      rw [if_neg (show ¬ (((k : Int), bh) : Int × Int).1 < 0 by show ¬ (k : Int) < 0; omega)]
      refine XP_mono (fun D2 h => ⟨fun q => by exfalso; have : (k : Int) < 0 := q; omega, fun _ => h⟩) (r_nx_Z hR nn (k : Int) bh hn1 hn9 (by omega) (by omega) (by omega) (by omega) (nn - 1 - k).toNat _ _ (by omega) (by omega) (fun j => ?_) (fun x j hx => xui_a hx))
      rw [xui_f]
      unfold fset
      grind
    · obtain ⟨k, rfl⟩ : ∃ k2, k = k2 + 1 := ⟨k - 1, by omega⟩
      refine xx_iload_n (q := 22) rfl rfl rfl ?_
      refine xx_aload_n (q := 23) rfl rfl rfl ?_
      refine xx_getR (q := 26) rfl rfl rfl xS_479 (Nat.le_of_ble_eq_true rfl) rfl (hR.1 479 55 rfl) ?_
      refine xx_iload_n (q := 27) rfl rfl rfl ?_
      refine xx_iaz (v := D 510 (i).toNat) (q := 28) rfl rfl xS_510 (by omega) (by omega) rfl ?_
      have hb3 := hD (i).toNat (by omega)
      refine xx_iaddR (q := 29) rfl rfl (by omega) (by omega) ?_
      refine xx_istore_n (q := 30) (loc2 := [_, _, _, _, _]) rfl rfl (Nat.le_of_ble_eq_true rfl) rfl ?_
      refine xx_iload_n (q := 31) rfl rfl rfl ?_
      refine xx_iconst (q := 32) rfl rfl (by decide) ?_
      refine xx_isubR (q := 33) rfl rfl (by omega) (by omega) ?_
      refine xx_istore_n (q := 34) (loc2 := [_, _, _, _, _]) rfl rfl (Nat.le_of_ble_eq_true rfl) rfl ?_
      refine xx_goto (q := 13) rfl rfl ?_
      rw [show nfL (D 510) (k + 1) bh = nfL (D 510) k (bh + D 510 i.toNat) from by rw [show i.toNat = k by omega]; exact if_pos h18]
      exact ih k (by omega) _ _ _ (by omega) (by omega) (by omega) (by omega)
