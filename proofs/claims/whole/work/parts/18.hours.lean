/-! Pulls, hours, rain and tides: in thought (T) and with a record (N). -/
def lekL : Nat → KK → Int → KK
  | 0, K, _ => K
  | k + 1, K, l => lekL k (flowF K l (mnF (K 3 l.toNat) (K 1 l.toNat))) (l + 1)
theorem lekL_I : ∀ (k : Nat) (K : KK) (l : Int), KI K → KI (lekL k K l)
  | 0, K, l, h => h
  | k + 1, K, l, h => by
    have h1 := ki_3 h l.toNat
    have h2 := ki_1 h l.toNat
    have h3 := mnF_sp (K 3 l.toNat) (K 1 l.toNat)
    exact lekL_I k _ _ (flowF_I h (by omega) (by omega))
theorem lekL_k : ∀ (k : Nat) (K : KK) (l : Int) (o j : Nat), o ≠ 1 → (o = 0 → j ≠ 2) → lekL k K l o j = K o j
  | 0, K, l, o, j, h, h2 => rfl
  | k + 1, K, l, o, j, h, h2 => (lekL_k k _ _ o j h h2).trans (flowF_k h h2)
def tidK (K : KK) : KK := comeF (xui K 0 2 (nrm (K 0 2 - K 6 3))) (K 0 0) (K 6 3)
abbrev tidP (K : KK) : Prop := ¬ K 6 2 ≤ 0 ∧ xrem (nrm (K 0 1 + 1)) (K 6 2) = 0
def tidT (K : KK) : KK := if tidP K then tidK K else K
theorem tidK_I {K : KK} (h : KI K) : KI (tidK K) := comeF_I (KI_up h (nrm_lo _) (nrm_hi _)) (ki_6 h 3).1
theorem tidT_I {K : KK} (h : KI K) : KI (tidT K) := by
  unfold tidT
  split
  · exact tidK_I h
  · exact h
theorem tidK_k {K : KK} {o j : Nat} (h : o ≠ 1) (h2 : o = 0 → j ≠ 2) : tidK K o j = K o j := (comeL_k _ _ _ _ o j h h2).trans (if_neg (fun q => h2 q.1 q.2))
theorem tidT_k {K : KK} {o j : Nat} (h : o ≠ 1) (h2 : o = 0 → j ≠ 2) : tidT K o j = K o j := by
  unfold tidT
  split
  · exact tidK_k h h2
  · rfl
def gosT (K : KK) : KK := if K 6 4 = 1 then gspF K else K
theorem gosT_I {K : KK} (h : KI K) : KI (gosT K) := by
  unfold gosT
  split
  · exact gspL_I _ _ _ h
  · exact h
def aftT (K : KK) : KK := xui (clmF (gosT K)) 0 1 (nrm (K 0 1 + 1))
theorem aftT_I {K : KK} (h : KI K) : KI (aftT K) := KI_up (clmL_I _ _ _ (gosT_I h)) (nrm_lo _) (nrm_hi _)
def hrT (K : KK) : KK := aftT (tidT (lekL (K 0 0).toNat K 0))
theorem hrT_I {K : KK} (h : KI K) : KI (hrT K) := aftT_I (tidT_I (lekL_I _ _ _ h))
/-- the draw and whether it rains -/
def drwF (K : KK) : Int := nrm (nrm (K 0 3 * 1664525) + 1013904223)
abbrev ranP (K : KK) : Prop := 0 < K 6 0 ∧ xrem (xushr (drwF K) 8) 1000 < K 6 0
def ranK (K : KK) : KK := if 0 < K 6 0 then (if xrem (xushr (drwF K) 8) 1000 < K 6 0 then comeF (xui K 0 3 (drwF K)) 0 (K 6 1) else xui K 0 3 (drwF K)) else K
theorem ranK_I {K : KK} (h : KI K) : KI (ranK K) := by
  unfold ranK
  have h1 : KI (xui K 0 3 (drwF K)) := KI_up h (nrm_lo _) (nrm_hi _)
  split
  · split
    · exact comeF_I h1 (ki_6 h 1).1
    · exact h1
  · exact h
theorem ranK_k {K : KK} {o j : Nat} (h : o ≠ 1) (h2 : o = 0 → j ≠ 2 ∧ j ≠ 3) : ranK K o j = K o j := by
  unfold ranK
  have e : xui K 0 3 (drwF K) o j = K o j := if_neg (fun q => (h2 q.1).2 q.2)
  split
  · split
    · exact (comeL_k _ _ _ _ o j h (fun q => (h2 q).1)).trans e
    · exact e
  · rfl
/-- an hour with a record: the book's lines -/
def ranb (K : KK) (b : Int) : Int := if ranP K then notb b else b
def ranB (K : KK) (b : Int) (B : Nat → Int) : Nat → Int := if ranP K then notB b B (K 0 1) 3 (-1) (-1) (K 6 1) else B
def tidb (K : KK) (b : Int) : Int := if tidP K then notb b else b
def tidB (K : KK) (b : Int) (B : Nat → Int) : Nat → Int := if tidP K then notB b B (K 0 1) 4 (-1) (-1) (K 6 3) else B
def lekK (K : KK) : KK := lekL ((ranK K) 0 0).toNat (ranK K) 0
def hrK (K : KK) : KK := aftT (tidT (lekK K))
def hrb (K : KK) (b : Int) : Int := tidb (lekK K) (ranb K b)
def hrB (K : KK) (b : Int) (B : Nat → Int) : Nat → Int := tidB (lekK K) (ranb K b) (ranB K b B)
theorem hrK_I {K : KK} (h : KI K) : KI (hrK K) := aftT_I (tidT_I (lekL_I _ _ _ (ranK_I h)))
def pulN : Nat → KK → Int → Nat
  | 0, _, _ => 0
  | k + 1, K, lock => if K 1 lock.toNat < K 2 lock.toNat then 0 else pulN k (flowF K lock (K 2 lock.toNat)) lock + 1
def pulL : Nat → KK → Int → KK
  | 0, K, _ => K
  | k + 1, K, lock => if K 1 lock.toNat < K 2 lock.toNat then K else pulL k (flowF K lock (K 2 lock.toNat)) lock
theorem pulL_I : ∀ (k : Nat) (K : KK) (lock : Int), KI K → KI (pulL k K lock)
  | 0, K, l, h => h
  | k + 1, K, l, h => by
    have h1 := ki_2 h l.toNat
    show KI (if K 1 l.toNat < K 2 l.toNat then K else pulL k (flowF K l (K 2 l.toNat)) l)
    split
    · exact h
    · exact pulL_I k _ _ (flowF_I h (by omega) (by omega))
theorem pulL_k : ∀ (k : Nat) (K : KK) (l : Int) (o j : Nat), o ≠ 1 → (o = 0 → j ≠ 2) → pulL k K l o j = K o j
  | 0, K, l, o, j, h, h2 => rfl
  | k + 1, K, l, o, j, h, h2 => by
    show (if K 1 l.toNat < K 2 l.toNat then K else pulL k (flowF K l (K 2 l.toNat)) l) o j = _
    split
    · rfl
    · exact (pulL_k k _ _ o j h h2).trans (flowF_k h h2)
theorem pulN_le : ∀ (k : Nat) (K : KK) (l : Int), pulN k K l ≤ k
  | 0, _, _ => Nat.le_refl _
  | k + 1, K, l => by
    show (if K 1 l.toNat < K 2 l.toNat then 0 else pulN k (flowF K l (K 2 l.toNat)) l + 1) ≤ k + 1
    split
    · omega
    · have := pulN_le k (flowF K l (K 2 l.toNat)) l
      omega
abbrev pulP (K : KK) (lock m : Int) : Prop := (0 ≤ lock ∧ lock < K 0 0) ∧ (1 ≤ m ∧ m ≤ 9)
def pulR (K : KK) (lock m : Int) : Int := if pulP K lock m then (pulN m.toNat K lock : Int) else -1
def pulT (K : KK) (lock m : Int) : KK := if pulP K lock m then pulL m.toNat K lock else K
theorem pulT_I {K : KK} {lock m : Int} (h : KI K) : KI (pulT K lock m) := by
  unfold pulT
  split
  · exact pulL_I _ _ _ h
  · exact h
abbrev waiP (K : KK) (m : Int) : Prop := (1 ≤ m ∧ m ≤ 100) ∧ nrm (K 0 1 + m) ≤ 9999
def hrsT : Nat → KK → KK
  | 0, K => K
  | k + 1, K => hrsT k (hrT K)
theorem hrsT_I : ∀ (k : Nat) (K : KK), KI K → KI (hrsT k K)
  | 0, _, h => h
  | k + 1, _, h => hrsT_I k _ (hrT_I h)
def waiT (K : KK) (m : Int) : KK := if waiP K m then hrsT m.toNat K else K
theorem waiT_I {K : KK} {m : Int} (h : KI K) : KI (waiT K m) := by
  unfold waiT
  split
  · exact hrsT_I _ _ h
  · exact h
theorem xushr_8 (a : Int) : 0 ≤ xushr a 8 ∧ xushr a 8 < 16777216 := by
  have e : xushr a 8 = ((Int32.ofInt a).toUInt32 >>> 8).toInt32.toInt := rfl
  rw [e]
  have h : ((Int32.ofInt a).toUInt32 >>> 8).toNat < 16777216 := by
    rw [UInt32.toNat_shiftRight]
    have := (Int32.ofInt a).toUInt32.toNat_lt
    show _ >>> (8 % 32) < _
    rw [Nat.shiftRight_eq_div_pow, show 2 ^ (8 % 32) = 256 from by decide]
    omega
  generalize (Int32.ofInt a).toUInt32 >>> 8 = x at h ⊢
  have e2 : x.toInt32.toInt = (x.toNat : Int) := by
    show x.toBitVec.toInt = _
    rw [BitVec.toInt_eq_toNat_of_lt]
    · rfl
    · show 2 * x.toNat < 2 ^ 32
      omega
  rw [e2]
  omega
set_option maxHeartbeats 1000000 in
theorem c_rainT {n c : Nat} {R : Nat → Nat → Option Nat} {D K : KK} (hR : RF R) (ht : isT c) (hK : CK c K D) (hI : KI K) : XC 1 21 [.inr (some c)] (xS n, R, D) (some (.inl 0)) (xS n, R, D) := by
  have hc := isT_C ht
  have hn := isT_N ht
  refine XC_of (Nat.le_of_ble_eq_true rfl) (Nat.le_of_ble_eq_true rfl) (loc := [_]) rfl ?_
  refine xx_aload_n (q := 1) rfl rfl rfl ?_
  refine xx_getR (q := 4) rfl rfl rfl (xSc_0 hc) (Nat.le_of_ble_eq_true rfl) rfl (rc_book hR ht) ?_
  refine xx_ifnullN (q := 16) rfl rfl ?_
  refine xx_iconst (q := 17) rfl rfl (by decide) ?_
  exact xx_iret rfl (Or.inl rfl) ⟨congrArg (fun z => some (Sum.inl z)) (by rfl), rfl⟩
set_option maxHeartbeats 1000000 in
theorem c_tideT {n c : Nat} {R : Nat → Nat → Option Nat} {D K : KK} (hR : RF R) (ht : isT c) (hK : CK c K D) (hI : KI K) : ∃ D', XC 3 22 [.inr (some c)] (xS n, R, D) none (xS n, R, D') ∧ CK c (tidT K) D' ∧ Fr c D D' := by
  have hc := isT_C ht
  have hn := isT_N ht
  have hbL := ki_L hI
  have hb6 := ki_6 hI 3
  refine XE_of (Nat.le_of_ble_eq_true rfl) (Nat.le_of_ble_eq_true rfl) (loc := [_, _]) rfl ?_
  refine xx_aload_n (q := 1) rfl rfl rfl ?_
  refine xx_getR (q := 4) rfl rfl rfl (xSc_0 hc) (Nat.le_of_ble_eq_true rfl) rfl (rc_weather hR hc) ?_
  refine xx_iconst (q := 5) rfl rfl (by decide) ?_
  refine xx_iaz (v := K 6 2) (q := 6) rfl rfl (xSc_6 hc) (by omega) (by omega) (ck_a hK (o := 6) (N := 5) rfl (by omega) (by omega)) ?_
  have hb1 : 0 ≤ K 6 2 ∧ K 6 2 ≤ 1000 := by have h := ki_6 hI 2; exact h
  refine xx_istore_n (q := 7) (loc2 := [_, _]) rfl rfl (Nat.le_of_ble_eq_true rfl) rfl ?_
  refine xx_iload_n (q := 8) rfl rfl rfl ?_
  refine xx_if_le (q := 22) (q2 := 11) rfl rfl rfl (fun h8 => ?_) (fun h8 => ?_)
  · refine xx_vret rfl rfl ⟨rfl, _, rfl, ?_⟩
    refine ⟨?_, Fr.rf⟩
    have e : tidT K = K := by unfold tidT; rw [if_neg (fun q => q.1 h8)]
    rw [e]
    exact hK
  · refine xx_aload_n (q := 12) rfl rfl rfl ?_
    refine xx_gez (v := K 0 1) (q := 15) rfl rfl rfl (xSc_0 hc) (Nat.le_of_ble_eq_true rfl) rfl (hK 0 1 (Nat.le_of_ble_eq_true rfl)) ?_
    refine xx_iconst (q := 16) rfl rfl (by decide) ?_
    refine xx_iadd (q := 17) rfl rfl ?_
    refine xx_iload_n (q := 18) rfl rfl rfl ?_
    refine xx_irem (q := 19) rfl rfl (by omega) ?_
    refine xx_if_eq (q := 23) (q2 := 22) rfl rfl rfl (fun h19 => ?_) (fun h19 => ?_)
    · refine xx_aload_n (q := 24) rfl rfl rfl ?_
      refine xx_dup (q := 25) rfl rfl ?_
      refine xx_gez (v := K 0 2) (q := 28) rfl rfl rfl (xSc_0 hc) (Nat.le_of_ble_eq_true rfl) rfl (hK 0 2 (Nat.le_of_ble_eq_true rfl)) ?_
      refine xx_aload_n (q := 29) rfl rfl rfl ?_
      refine xx_getR (q := 32) rfl rfl rfl (xSc_0 hc) (Nat.le_of_ble_eq_true rfl) rfl (rc_weather hR hc) ?_
      refine xx_iconst (q := 33) rfl rfl (by decide) ?_
      refine xx_iaz (v := K 6 3) (q := 34) rfl rfl (xSc_6 hc) (by omega) (by omega) (ck_a hK (o := 6) (N := 5) rfl (by omega) (by omega)) ?_
      have hb2 : 0 ≤ K 6 3 ∧ K 6 3 ≤ 1000 := by have h := ki_6 hI 3; exact h
      refine xx_isub (q := 35) rfl rfl ?_
      refine xc_puz (o := 0) hK Fr.rf (q := 38) rfl rfl rfl (xSc_0 hc) (Nat.le_of_ble_eq_true rfl) (Nat.le_of_ble_eq_true rfl) (fun h => by cases h) (Or.inl rfl) (by decide) (by decide) (fun D3 hK3 hF3 => ?_)
      have hI3 : KI (xui K 0 2 (nrm ((K 0 2) - (K 6 3)))) := KI_up hI (nrm_lo _) (nrm_hi _)
      refine xx_aload_n (q := 39) rfl rfl rfl ?_
      refine xx_aload_n (q := 40) rfl rfl rfl ?_
      refine xx_gez (v := K 0 0) (q := 43) rfl rfl rfl (xSc_0 hc) (Nat.le_of_ble_eq_true rfl) rfl (hK3 0 0 (Nat.le_of_ble_eq_true rfl)) ?_
      have hb4 : 1 ≤ K 0 0 ∧ K 0 0 ≤ 9 := by have h := ki_L hI3; exact h
      refine xx_aload_n (q := 44) rfl rfl rfl ?_
      refine xx_getR (q := 47) rfl rfl rfl (xSc_0 hc) (Nat.le_of_ble_eq_true rfl) rfl (rc_weather hR hc) ?_
      refine xx_iconst (q := 48) rfl rfl (by decide) ?_
      refine xx_iaz (v := K 6 3) (q := 49) rfl rfl (xSc_6 hc) (by omega) (by omega) (ck_a hK3 (o := 6) (N := 5) rfl (by omega) (by omega)) ?_
      have hb5 : 0 ≤ K 6 3 ∧ K 6 3 ≤ 1000 := by have h := ki_6 hI3 3; exact h
      have hL7 : (xui K 0 2 (nrm ((K 0 2) - (K 6 3)))) 0 0 = K 0 0 := rfl
      have hL8 : (xui K 0 2 (nrm ((K 0 2) - (K 6 3)))) 13 0 = K 13 0 := rfl
      obtain ⟨D6, hx6, hK6, hG6⟩ := c_comeInto (n := n) hR hc hK3 hI3 (K 0 0) (K 6 3) (by omega) (by omega) (by omega) (by omega)
      have hF6 := hF3.trans hG6
      have hI6 : KI (comeF (xui K 0 2 (nrm ((K 0 2) - (K 6 3)))) (K 0 0) (K 6 3)) := comeF_I hI3 (by omega)
      refine xx_callV (q := 52) (As := [_, _]) (rest := []) rfl rfl rfl (Or.inl rfl) rfl rfl (Nat.le_of_ble_eq_true rfl) (xSc_0 hc) (XCm hx6 rfl) rfl ?_
      refine xx_aload_n (q := 53) rfl rfl rfl ?_
      refine xx_iconst (q := 54) rfl rfl (by decide) ?_
      refine xx_iconst (q := 55) rfl rfl (by decide) ?_
      refine xx_iconst (q := 56) rfl rfl (by decide) ?_
      refine xx_aload_n (q := 57) rfl rfl rfl ?_
      refine xx_getR (q := 60) rfl rfl rfl (xSc_0 hc) (Nat.le_of_ble_eq_true rfl) rfl (rc_weather hR hc) ?_
      refine xx_iconst (q := 61) rfl rfl (by decide) ?_
      refine xx_iaz (v := K 6 3) (q := 62) rfl rfl (xSc_6 hc) (by omega) (by omega) ((ck_a hK6 (o := 6) (N := 5) rfl (by omega) (by omega)).trans (comeL_k _ _ _ _ _ _ (by decide) (by omega))) ?_
      have hb9 : 0 ≤ K 6 3 ∧ K 6 3 ≤ 1000 := by rw [← show (comeF (xui K 0 2 (nrm ((K 0 2) - (K 6 3)))) (K 0 0) (K 6 3)) 6 3 = K 6 3 from comeL_k _ _ _ _ _ _ (by decide) (by omega)]; exact ki_6 hI6 3
      obtain ⟨D10, hx10, hK10, hG10⟩ := c_noteT (n := n) hR ht hK6 hI6 4 (-1) (-1) (K 6 3)
      have hF10 := hF6.trans hG10
      refine xx_callV (q := 65) (As := [_, _, _, _]) (rest := []) rfl rfl rfl (Or.inl rfl) rfl rfl (Nat.le_of_ble_eq_true rfl) (xSc_0 hc) (XCm hx10 rfl) rfl ?_
      refine xx_vret rfl rfl ⟨rfl, _, rfl, ?_⟩
      refine ⟨?_, hF10⟩
      have e : tidT K = (comeF (xui K 0 2 (nrm ((K 0 2) - (K 6 3)))) (K 0 0) (K 6 3)) := by unfold tidT; rw [if_pos ⟨h8, h19⟩]; rfl
      rw [e]
      exact hK10
    · refine xx_vret rfl rfl ⟨rfl, _, rfl, ?_⟩
      refine ⟨?_, Fr.rf⟩
      have e : tidT K = K := by unfold tidT; rw [if_neg (fun q => h19 q.2)]
      rw [e]
      exact hK
set_option maxHeartbeats 1000000 in
theorem c_lek_T {n c : Nat} {R : Nat → Nat → Option Nat} {D0 : KK} {Q : XQ} (hR : RF R) (ht : isT c) (r : Int) : ∀ (k : Nat) (K D : KK) (l : Int), CK c K D → KI K → Fr c D0 D → 0 ≤ l → l + k = K 0 0 → (∀ D2 l2, CK c (lekL k K l) D2 → KI (lekL k K l) → Fr c D0 D2 → XX (XC 5) 18 Q 41 [some (.inr (some c)), some (.inl r), some (.inl l2)] [] (xS n, R, D2)) → XX (XC 5) 18 (Q) 7 [some (.inr (some c)), some (.inl r), some (.inl l)] [] (xS n, R, D) := by
  intro k
  induction k using Nat.strongRecOn with
  | ind k ih =>
  intro K D l hK hI hF h1 hk kx
  have hc := isT_C ht
  have hbL := ki_L hI
  refine xx_iload_n (q := 8) rfl rfl rfl ?_
  refine xx_aload_n (q := 9) rfl rfl rfl ?_
  refine xx_gez (v := K 0 0) (q := 12) rfl rfl rfl (xSc_0 hc) (Nat.le_of_ble_eq_true rfl) rfl (hK 0 0 (Nat.le_of_ble_eq_true rfl)) ?_
  have hb1 : 1 ≤ K 0 0 ∧ K 0 0 ≤ 9 := by have h := ki_L hI; exact h
  refine xx_icmp_ge (q := 41) (q2 := 15) rfl rfl rfl (fun h12 => ?_) (fun h12 => ?_)
  · obtain rfl : k = 0 := by omega
    exact kx _ _ hK hI hF
  · obtain ⟨k, rfl⟩ : ∃ k2, k = k2 + 1 := ⟨k - 1, by omega⟩
    refine xx_aload_n (q := 16) rfl rfl rfl ?_
    refine xx_iload_n (q := 17) rfl rfl rfl ?_
    refine xx_aload_n (q := 18) rfl rfl rfl ?_
    refine xx_getR (q := 21) rfl rfl rfl (xSc_0 hc) (Nat.le_of_ble_eq_true rfl) rfl (rc_leak hR hc) ?_
    refine xx_iload_n (q := 22) rfl rfl rfl ?_
    refine xx_iaz (v := K 3 (l).toNat) (q := 23) rfl rfl (xSc_3 hc) (by omega) (by omega) (ck_a hK (o := 3) (N := 9) rfl (by omega) (by omega)) ?_
    have hb2 : 0 ≤ K 3 (l).toNat ∧ K 3 (l).toNat ≤ 9 := by have h := ki_3 hI (l).toNat; exact h
    refine xx_aload_n (q := 24) rfl rfl rfl ?_
    refine xx_getR (q := 27) rfl rfl rfl (xSc_0 hc) (Nat.le_of_ble_eq_true rfl) rfl (rc_depth hR hc) ?_
    refine xx_iload_n (q := 28) rfl rfl rfl ?_
    refine xx_iaz (v := K 1 (l).toNat) (q := 29) rfl rfl (xSc_1 hc) (by omega) (by omega) (ck_a hK (o := 1) (N := 10) rfl (by omega) (by omega)) ?_
    have hb3 : 0 ≤ K 1 (l).toNat ∧ K 1 (l).toNat ≤ 999 := by have h := ki_1 hI (l).toNat; exact h
    refine xx_minF (q := 32) rfl rfl rfl (Nat.le_of_ble_eq_true rfl) ?_
    have hb4 := mnF_sp (K 3 (l).toNat) (K 1 (l).toNat)
    obtain ⟨D5, hx5, hK5, hG5⟩ := c_flow (n := n) hR hc hK hI l (mnF (K 3 (l).toNat) (K 1 (l).toNat)) (by omega) (by omega) (by omega) (by omega) (by omega)
    have hF5 := hF.trans hG5
    have hI5 : KI (flowF K l (mnF (K 3 (l).toNat) (K 1 (l).toNat))) := flowF_I hI (by omega) (by omega)
    refine xx_callV (q := 35) (As := [_, _]) (rest := []) rfl rfl rfl (Or.inl rfl) rfl rfl (Nat.le_of_ble_eq_true rfl) (xSc_0 hc) (XCm hx5 rfl) rfl ?_
    refine xx_incz (q := 38) (loc2 := [_, _, _]) rfl rfl rfl (by omega) (by omega) rfl rfl ?_
    refine xx_goto (q := 7) rfl rfl ?_
    exact ih k (by omega) _ _ _ hK5 hI5 hF5 (by omega) (by rw [flowF_k (by decide) (by omega)]; omega) kx
set_option maxHeartbeats 1000000 in
theorem c_hrest_T {n c : Nat} {R : Nat → Nat → Option Nat} {D0 K D : KK} (hR : RF R) (ht : isT c) (r l : Int) (hr : r = 0 ∨ r = 1) (hK : CK c K D) (hI : KI K) (hF : Fr c D0 D) : XX (XC 5) 18 (XP (some (.inl r)) (xS n) R (fun D' => CK c (aftT (tidT K)) D' ∧ Fr c D0 D')) 41 [some (.inr (some c)), some (.inl r), some (.inl l)] [] (xS n, R, D) := by
  have hc := isT_C ht

  refine xx_aload_n (q := 42) rfl rfl rfl ?_
  obtain ⟨D1, hx1, hK1, hG1⟩ := c_tideT (n := n) hR ht hK hI
  have hF1 := hF.trans hG1
  have hI1 : KI (tidT K) := tidT_I hI
  refine xx_callV (q := 45) (As := []) (rest := []) rfl rfl rfl (Or.inl rfl) rfl rfl (Nat.le_of_ble_eq_true rfl) (xSc_0 hc) (XCm hx1 rfl) rfl ?_
  refine xx_aload_n (q := 46) rfl rfl rfl ?_
  refine xx_getR (q := 49) rfl rfl rfl (xSc_0 hc) (Nat.le_of_ble_eq_true rfl) rfl (rc_weather hR hc) ?_
  refine xx_iconst (q := 50) rfl rfl (by decide) ?_
  refine xx_iaz (v := K 6 4) (q := 51) rfl rfl (xSc_6 hc) (by omega) (by omega) ((ck_a hK1 (o := 6) (N := 5) rfl (by omega) (by omega)).trans (tidT_k (by decide) (by omega))) ?_
  have hb2 : 0 ≤ K 6 4 ∧ K 6 4 ≤ 1000 := by rw [← show (tidT K) 6 4 = K 6 4 from tidT_k (by decide) (by omega)]; exact ki_6 hI1 4
  refine xx_iconst (q := 52) rfl rfl (by decide) ?_
  refine xx_icmp_ne (q := 73) (q2 := 55) rfl rfl rfl (fun h52 => ?_) (fun h52 => ?_)
  · refine xx_aload_n (q := 74) rfl rfl rfl ?_
    refine xx_getR (q := 77) rfl rfl rfl (xSc_0 hc) (Nat.le_of_ble_eq_true rfl) rfl (rc_keepers hR hc) ?_
    refine xx_aload_n (q := 78) rfl rfl rfl ?_
    refine xx_gez (v := K 0 0) (q := 81) rfl rfl rfl (xSc_0 hc) (Nat.le_of_ble_eq_true rfl) rfl ((hK1 0 0 (Nat.le_of_ble_eq_true rfl)).trans (tidT_k (by decide) (by omega))) ?_
    have hb3 : 1 ≤ K 0 0 ∧ K 0 0 ≤ 9 := by rw [← show (tidT K) 0 0 = K 0 0 from tidT_k (by decide) (by omega)]; exact ki_L hI1
    have hL5 : (tidT K) 0 0 = K 0 0 := tidT_k (by decide) (by omega)
    have hL6 : (tidT K) 13 0 = K 13 0 := tidT_k (by decide) (by omega)
    obtain ⟨D4, hx4, hK4, hG4⟩ := c_calmDown (n := n) hR hc hK1 hI1 (K 0 0) (by omega)
    have hF4 := hF1.trans hG4
    have hI4 : KI (clmF (tidT K)) := clmL_I _ _ _ hI1
    refine xx_callV (q := 84) (As := [_]) (rest := []) rfl rfl rfl (Or.inl rfl) rfl rfl (Nat.le_of_ble_eq_true rfl) (xSc_7 hc) (XCm hx4 rfl) rfl ?_
    refine xx_aload_n (q := 85) rfl rfl rfl ?_
    refine xx_dup (q := 86) rfl rfl ?_
    refine xx_gez (v := K 0 1) (q := 89) rfl rfl rfl (xSc_0 hc) (Nat.le_of_ble_eq_true rfl) rfl ((hK4 0 1 (Nat.le_of_ble_eq_true rfl)).trans ((clmL_k _ _ _ _ _ (by decide)).trans (tidT_k (by decide) (by omega)))) ?_
    refine xx_iconst (q := 90) rfl rfl (by decide) ?_
    refine xx_iadd (q := 91) rfl rfl ?_
    refine xc_puz (o := 0) hK4 hF4 (q := 94) rfl rfl rfl (xSc_0 hc) (Nat.le_of_ble_eq_true rfl) (Nat.le_of_ble_eq_true rfl) (fun h => by cases h) (Or.inl rfl) (by decide) (by decide) (fun D7 hK7 hF7 => ?_)
    have hI7 : KI (xui (clmF (tidT K)) 0 1 (nrm ((K 0 1) + 1))) := KI_up hI4 (nrm_lo _) (nrm_hi _)
    refine xx_iload_n (q := 95) rfl rfl rfl ?_
    refine xx_iret rfl hr ⟨rfl, _, rfl, ?_⟩
    have e : aftT (tidT K) = (xui (clmF (tidT K)) 0 1 (nrm ((K 0 1) + 1))) := by
      unfold aftT gosT
      rw [if_neg (fun q => h52 ((tidT_k (by decide) (by omega)).symm.trans q)), tidT_k (by decide) (by omega)]
    rw [e]
    exact ⟨hK7, hF7⟩
  · refine xx_aload_n (q := 56) rfl rfl rfl ?_
    refine xx_getR (q := 59) rfl rfl rfl (xSc_0 hc) (Nat.le_of_ble_eq_true rfl) rfl (rc_keepers hR hc) ?_
    refine xx_aload_n (q := 60) rfl rfl rfl ?_
    refine xx_gez (v := K 0 0) (q := 63) rfl rfl rfl (xSc_0 hc) (Nat.le_of_ble_eq_true rfl) rfl ((hK1 0 0 (Nat.le_of_ble_eq_true rfl)).trans (tidT_k (by decide) (by omega))) ?_
    have hb8 : 1 ≤ K 0 0 ∧ K 0 0 ≤ 9 := by rw [← show (tidT K) 0 0 = K 0 0 from tidT_k (by decide) (by omega)]; exact ki_L hI1
    refine xx_aload_n (q := 64) rfl rfl rfl ?_
    refine xx_getR (q := 67) rfl rfl rfl (xSc_0 hc) (Nat.le_of_ble_eq_true rfl) rfl (rc_fleet hR hc) ?_
    refine xx_gez (v := K 13 0) (q := 70) rfl rfl rfl (xSc_13 hc) (Nat.le_of_ble_eq_true rfl) rfl ((hK1 13 0 (Nat.le_of_ble_eq_true rfl)).trans (tidT_k (by decide) (by omega))) ?_
    have hb9 : 0 ≤ K 13 0 ∧ K 13 0 ≤ 6 := by rw [← show (tidT K) 13 0 = K 13 0 from tidT_k (by decide) (by omega)]; exact ki_B hI1
    have hL11 : (tidT K) 0 0 = K 0 0 := tidT_k (by decide) (by omega)
    have hL12 : (tidT K) 13 0 = K 13 0 := tidT_k (by decide) (by omega)
    obtain ⟨D10, hx10, hK10, hG10⟩ := c_gossip (n := n) hR hc hK1 hI1 (K 0 0) (K 13 0) (by omega) (by omega)
    have hF10 := hF1.trans hG10
    have hI10 : KI (gspF (tidT K)) := gspL_I _ _ _ hI1
    refine xx_callV (q := 73) (As := [_, _]) (rest := []) rfl rfl rfl (Or.inl rfl) rfl rfl (Nat.le_of_ble_eq_true rfl) (xSc_7 hc) (XCm hx10 rfl) rfl ?_
    refine xx_aload_n (q := 74) rfl rfl rfl ?_
    refine xx_getR (q := 77) rfl rfl rfl (xSc_0 hc) (Nat.le_of_ble_eq_true rfl) rfl (rc_keepers hR hc) ?_
    refine xx_aload_n (q := 78) rfl rfl rfl ?_
    refine xx_gez (v := K 0 0) (q := 81) rfl rfl rfl (xSc_0 hc) (Nat.le_of_ble_eq_true rfl) rfl ((hK10 0 0 (Nat.le_of_ble_eq_true rfl)).trans ((gspL_k _ _ _ _ _ (by decide)).trans (tidT_k (by decide) (by omega)))) ?_
    have hb13 : 1 ≤ K 0 0 ∧ K 0 0 ≤ 9 := by rw [← show (gspF (tidT K)) 0 0 = K 0 0 from (gspL_k _ _ _ _ _ (by decide)).trans (tidT_k (by decide) (by omega))]; exact ki_L hI10
    have hL15 : (gspF (tidT K)) 0 0 = K 0 0 := (gspL_k _ _ _ _ _ (by decide)).trans (tidT_k (by decide) (by omega))
    have hL16 : (gspF (tidT K)) 13 0 = K 13 0 := (gspL_k _ _ _ _ _ (by decide)).trans (tidT_k (by decide) (by omega))
    obtain ⟨D14, hx14, hK14, hG14⟩ := c_calmDown (n := n) hR hc hK10 hI10 (K 0 0) (by omega)
    have hF14 := hF10.trans hG14
    have hI14 : KI (clmF (gspF (tidT K))) := clmL_I _ _ _ hI10
    refine xx_callV (q := 84) (As := [_]) (rest := []) rfl rfl rfl (Or.inl rfl) rfl rfl (Nat.le_of_ble_eq_true rfl) (xSc_7 hc) (XCm hx14 rfl) rfl ?_
    refine xx_aload_n (q := 85) rfl rfl rfl ?_
    refine xx_dup (q := 86) rfl rfl ?_
    refine xx_gez (v := K 0 1) (q := 89) rfl rfl rfl (xSc_0 hc) (Nat.le_of_ble_eq_true rfl) rfl ((hK14 0 1 (Nat.le_of_ble_eq_true rfl)).trans ((clmL_k _ _ _ _ _ (by decide)).trans ((gspL_k _ _ _ _ _ (by decide)).trans (tidT_k (by decide) (by omega))))) ?_
    refine xx_iconst (q := 90) rfl rfl (by decide) ?_
    refine xx_iadd (q := 91) rfl rfl ?_
    refine xc_puz (o := 0) hK14 hF14 (q := 94) rfl rfl rfl (xSc_0 hc) (Nat.le_of_ble_eq_true rfl) (Nat.le_of_ble_eq_true rfl) (fun h => by cases h) (Or.inl rfl) (by decide) (by decide) (fun D17 hK17 hF17 => ?_)
    have hI17 : KI (xui (clmF (gspF (tidT K))) 0 1 (nrm ((K 0 1) + 1))) := KI_up hI14 (nrm_lo _) (nrm_hi _)
    refine xx_iload_n (q := 95) rfl rfl rfl ?_
    refine xx_iret rfl hr ⟨rfl, _, rfl, ?_⟩
    have e : aftT (tidT K) = (xui (clmF (gspF (tidT K))) 0 1 (nrm ((K 0 1) + 1))) := by
      unfold aftT gosT
      rw [if_pos (show tidT K 6 4 = 1 from (tidT_k (by decide) (by omega)).trans h52), tidT_k (by decide) (by omega)]
    rw [e]
    exact ⟨hK17, hF17⟩
