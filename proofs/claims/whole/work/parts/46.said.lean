/-! What was said: the class. -/
abbrev YY : Type := Int × (Nat → Int) × (Nat → Int) × (Nat → Int)
def YC (Y : YY) (D : KK) : Prop := D 18 0 = Y.1 ∧ ∀ i : Nat, (i : Int) < Y.1 → D 19 i = Y.2.1 i ∧ D 20 i = Y.2.2.1 i ∧ D 21 i = Y.2.2.2 i
def YI (Y : YY) : Prop := (0 ≤ Y.1 ∧ Y.1 ≤ 12) ∧ ∀ i, 0 ≤ Y.2.2.2 i ∧ Y.2.2.2 i ≤ 999
def lowL (Y : YY) (pool : Int) : Nat → Int → Int → Int
  | 0, _, v => v
  | k + 1, i, v => lowL Y pool k (i + 1) (if Y.2.1 i.toNat = pool ∧ Y.2.2.1 i.toNat = 0 then mxF v (Y.2.2.2 i.toNat) else v)
def higL (Y : YY) (pool : Int) : Nat → Int → Int → Int
  | 0, _, v => v
  | k + 1, i, v => higL Y pool k (i + 1) (if Y.2.1 i.toNat = pool ∧ Y.2.2.1 i.toNat = 1 then mnF v (Y.2.2.2 i.toNat) else v)
def lowF (Y : YY) (pool : Int) : Int := lowL Y pool Y.1.toNat 0 0
def higF (Y : YY) (pool : Int) : Int := higL Y pool Y.1.toNat 0 999
theorem lowL_b {Y : YY} (hY : YI Y) (pool : Int) : ∀ (k : Nat) (i v : Int), 0 ≤ v → v ≤ 999 → 0 ≤ lowL Y pool k i v ∧ lowL Y pool k i v ≤ 999
  | 0, _, _, h1, h2 => ⟨h1, h2⟩
  | k + 1, i, v, h1, h2 => by
    have h3 := hY.2 i.toNat
    have h4 := mxF_sp v (Y.2.2.2 i.toNat)
    unfold lowL
    split
    · exact lowL_b hY pool k _ _ (by omega) (by omega)
    · exact lowL_b hY pool k _ _ h1 h2
theorem higL_b {Y : YY} (hY : YI Y) (pool : Int) : ∀ (k : Nat) (i v : Int), 0 ≤ v → v ≤ 999 → 0 ≤ higL Y pool k i v ∧ higL Y pool k i v ≤ 999
  | 0, _, _, h1, h2 => ⟨h1, h2⟩
  | k + 1, i, v, h1, h2 => by
    have h3 := hY.2 i.toNat
    have h4 := mnF_sp v (Y.2.2.2 i.toNat)
    unfold higL
    split
    · exact higL_b hY pool k _ _ (by omega) (by omega)
    · exact higL_b hY pool k _ _ h1 h2
theorem lowF_b {Y : YY} (hY : YI Y) (pool : Int) : 0 ≤ lowF Y pool ∧ lowF Y pool ≤ 999 := lowL_b hY pool _ _ _ (by omega) (by omega)
theorem higF_b {Y : YY} (hY : YI Y) (pool : Int) : 0 ≤ higF Y pool ∧ higF Y pool ≤ 999 := higL_b hY pool _ _ _ (by omega) (by omega)
/-- the sums of the least and the greatest; none where they cross -/
def rngL (Y : YY) : Nat → Int → Int → Int → Option (Int × Int)
  | 0, _, l, h => some (l, h)
  | k + 1, i, l, h => if higF Y i < lowF Y i then none else rngL Y k (i + 1) (l + lowF Y i) (h + higF Y i)
def rngF (K : KK) (Y : YY) (pool : Int) (least : Prop) [Decidable least] : Int := match rngL Y (K 0 0 + 1).toNat 0 0 0 with
  | none => -1
  | some (l, h) => if watF K < l ∨ h < watF K then -1 else if least then mxF (lowF Y pool) (watF K - (h - higF Y pool)) else mnF (higF Y pool) (watF K - (l - lowF Y pool))
theorem rngL_b {Y : YY} (hY : YI Y) : ∀ (k : Nat) (i l h : Int) (r : Int × Int), 0 ≤ l → 0 ≤ h → l ≤ 999 * i → h ≤ 999 * i → rngL Y k i l h = some r → (0 ≤ r.1 ∧ r.1 ≤ 999 * (i + k)) ∧ (0 ≤ r.2 ∧ r.2 ≤ 999 * (i + k))
  | 0, i, l, h, r, h1, h2, h3, h4, e => by
    obtain rfl : (l, h) = r := Option.some.inj e
    exact ⟨⟨h1, by show l ≤ 999 * (i + 0); omega⟩, ⟨h2, by show h ≤ 999 * (i + 0); omega⟩⟩
  | k + 1, i, l, h, r, h1, h2, h3, h4, e => by
    have q1 := lowF_b hY i
    have q2 := higF_b hY i
    unfold rngL at e
    split at e
    · cases e
    · have := rngL_b hY k (i + 1) _ _ r (by omega) (by omega) (by omega) (by omega) e
      omega
set_option maxHeartbeats 1000000 in
theorem c_lowest_L {n : Nat} {R : Nat → Nat → Option Nat} {D : KK} {Y : YY} (hR : RF R) (hC : YC Y D) (hY : YI Y) (p : Int) : ∀ (k : Nat) (v i : Int), 0 ≤ i → i + k = Y.1 → 0 ≤ v → v ≤ 999 → XX (XC 0) 46 (fun r2 m2 => r2 = some (.inl (lowL Y p k i v)) ∧ m2 = (xS n, R, D)) 4 [some (.inr (some 18)), some (.inl p), some (.inl v), some (.inl i)] [] (xS n, R, D) := by
  intro k
  induction k using Nat.strongRecOn with
  | ind k ih =>
  intro v i h1 hk hv0 hv1
  have hy1 := hY.1
  refine xx_iload_n (q := 5) rfl rfl rfl ?_
  refine xx_aload_n (q := 6) rfl rfl rfl ?_
  refine xx_gez (q := 9) rfl rfl rfl xS_18 (Nat.le_of_ble_eq_true rfl) rfl hC.1 ?_
  refine xx_icmp_ge (q := 48) (q2 := 12) rfl rfl rfl (fun h9 => ?_) (fun h9 => ?_)
  · refine xx_iload_n (q := 49) rfl rfl rfl ?_
    obtain rfl : k = 0 := by omega
    exact xx_iret rfl trivial ⟨rfl, rfl⟩
  · obtain ⟨k, rfl⟩ : ∃ k2, k = k2 + 1 := ⟨k - 1, by omega⟩
    refine xx_aload_n (q := 13) rfl rfl rfl ?_
    refine xx_getR (q := 16) rfl rfl rfl xS_18 (Nat.le_of_ble_eq_true rfl) rfl (hR.1 18 1 rfl) ?_
    refine xx_iload_n (q := 17) rfl rfl rfl ?_
    refine xx_iaz (v := Y.2.1 (i).toNat) (q := 18) rfl rfl xS_19 (by omega) (by omega) ((hC.2 _ (by omega)).1) ?_
    refine xx_iload_n (q := 19) rfl rfl rfl ?_
    refine xx_icmp_ne (q := 42) (q2 := 22) rfl rfl rfl (fun h19 => ?_) (fun h19 => ?_)
    · refine xx_incz (q := 45) (loc2 := [_, _, _, _]) rfl rfl rfl (by omega) (by omega) rfl rfl ?_
      refine xx_goto (q := 4) rfl rfl ?_
      rw [show lowL Y p (k + 1) i v = lowL Y p k (i + 1) v from congrArg (lowL Y p k (i + 1)) (if_neg (fun q => h19 q.1))]
      exact ih k (by omega) _ _ (by omega) (by omega) (by omega) (by omega)
    · refine xx_aload_n (q := 23) rfl rfl rfl ?_
      refine xx_getR (q := 26) rfl rfl rfl xS_18 (Nat.le_of_ble_eq_true rfl) rfl (hR.1 18 2 rfl) ?_
      refine xx_iload_n (q := 27) rfl rfl rfl ?_
      refine xx_iaz (v := Y.2.2.1 (i).toNat) (q := 28) rfl rfl xS_20 (by omega) (by omega) ((hC.2 _ (by omega)).2.1) ?_
      refine xx_if_ne (q := 42) (q2 := 31) rfl rfl rfl (fun h28 => ?_) (fun h28 => ?_)
      · refine xx_incz (q := 45) (loc2 := [_, _, _, _]) rfl rfl rfl (by omega) (by omega) rfl rfl ?_
        refine xx_goto (q := 4) rfl rfl ?_
        rw [show lowL Y p (k + 1) i v = lowL Y p k (i + 1) v from congrArg (lowL Y p k (i + 1)) (if_neg (fun q => h28 q.2))]
        exact ih k (by omega) _ _ (by omega) (by omega) (by omega) (by omega)
      · refine xx_iload_n (q := 32) rfl rfl rfl ?_
        refine xx_aload_n (q := 33) rfl rfl rfl ?_
        refine xx_getR (q := 36) rfl rfl rfl xS_18 (Nat.le_of_ble_eq_true rfl) rfl (hR.1 18 3 rfl) ?_
        refine xx_iload_n (q := 37) rfl rfl rfl ?_
        refine xx_iaz (v := Y.2.2.2 (i).toNat) (q := 38) rfl rfl xS_21 (by omega) (by omega) ((hC.2 _ (by omega)).2.2) ?_
        have hb1 := hY.2 (i).toNat
        refine xx_maxF (q := 41) rfl rfl rfl (Nat.le_of_ble_eq_true rfl) ?_
        have hb2 := mxF_sp v (Y.2.2.2 (i).toNat)
        refine xx_istore_n (q := 42) (loc2 := [_, _, _, _]) rfl rfl (Nat.le_of_ble_eq_true rfl) rfl ?_
        refine xx_incz (q := 45) (loc2 := [_, _, _, _]) rfl rfl rfl (by omega) (by omega) rfl rfl ?_
        refine xx_goto (q := 4) rfl rfl ?_
        rw [show lowL Y p (k + 1) i v = lowL Y p k (i + 1) (mxF v (Y.2.2.2 (i).toNat)) from congrArg (lowL Y p k (i + 1)) (if_pos ⟨h19, h28⟩)]
        exact ih k (by omega) _ _ (by omega) (by omega) (by omega) (by omega)
theorem c_lowest {n : Nat} {R : Nat → Nat → Option Nat} {D : KK} {Y : YY} (hR : RF R) (hC : YC Y D) (hY : YI Y) (p : Int) : XC 1 46 [.inr (some 18), .inl p] (xS n, R, D) (some (.inl (lowF Y p))) (xS n, R, D) := by
  have hy1 := hY.1
  refine XC_of (Nat.le_of_ble_eq_true rfl) (Nat.le_of_ble_eq_true rfl) (loc := [_, _, _, _]) rfl ?_
  refine xx_iconst (q := 1) rfl rfl (by decide) ?_
  refine xx_istore_n (q := 2) (loc2 := [_, _, _, _]) rfl rfl (Nat.le_of_ble_eq_true rfl) rfl ?_
  refine xx_iconst (q := 3) rfl rfl (by decide) ?_
  refine xx_istore_n (q := 4) (loc2 := [_, _, _, _]) rfl rfl (Nat.le_of_ble_eq_true rfl) rfl ?_
  exact c_lowest_L hR hC hY p Y.1.toNat 0 0 (by omega) (by omega) (by omega) (by omega)
set_option maxHeartbeats 1000000 in
theorem c_highest_L {n : Nat} {R : Nat → Nat → Option Nat} {D : KK} {Y : YY} (hR : RF R) (hC : YC Y D) (hY : YI Y) (p : Int) : ∀ (k : Nat) (v i : Int), 0 ≤ i → i + k = Y.1 → 0 ≤ v → v ≤ 999 → XX (XC 0) 47 (fun r2 m2 => r2 = some (.inl (higL Y p k i v)) ∧ m2 = (xS n, R, D)) 6 [some (.inr (some 18)), some (.inl p), some (.inl v), some (.inl i)] [] (xS n, R, D) := by
  intro k
  induction k using Nat.strongRecOn with
  | ind k ih =>
  intro v i h1 hk hv0 hv1
  have hy1 := hY.1
  refine xx_iload_n (q := 7) rfl rfl rfl ?_
  refine xx_aload_n (q := 8) rfl rfl rfl ?_
  refine xx_gez (q := 11) rfl rfl rfl xS_18 (Nat.le_of_ble_eq_true rfl) rfl hC.1 ?_
  refine xx_icmp_ge (q := 51) (q2 := 14) rfl rfl rfl (fun h11 => ?_) (fun h11 => ?_)
  · refine xx_iload_n (q := 52) rfl rfl rfl ?_
    obtain rfl : k = 0 := by omega
    exact xx_iret rfl trivial ⟨rfl, rfl⟩
  · obtain ⟨k, rfl⟩ : ∃ k2, k = k2 + 1 := ⟨k - 1, by omega⟩
    refine xx_aload_n (q := 15) rfl rfl rfl ?_
    refine xx_getR (q := 18) rfl rfl rfl xS_18 (Nat.le_of_ble_eq_true rfl) rfl (hR.1 18 1 rfl) ?_
    refine xx_iload_n (q := 19) rfl rfl rfl ?_
    refine xx_iaz (v := Y.2.1 (i).toNat) (q := 20) rfl rfl xS_19 (by omega) (by omega) ((hC.2 _ (by omega)).1) ?_
    refine xx_iload_n (q := 21) rfl rfl rfl ?_
    refine xx_icmp_ne (q := 45) (q2 := 24) rfl rfl rfl (fun h21 => ?_) (fun h21 => ?_)
    · refine xx_incz (q := 48) (loc2 := [_, _, _, _]) rfl rfl rfl (by omega) (by omega) rfl rfl ?_
      refine xx_goto (q := 6) rfl rfl ?_
      rw [show higL Y p (k + 1) i v = higL Y p k (i + 1) v from congrArg (higL Y p k (i + 1)) (if_neg (fun q => h21 q.1))]
      exact ih k (by omega) _ _ (by omega) (by omega) (by omega) (by omega)
    · refine xx_aload_n (q := 25) rfl rfl rfl ?_
      refine xx_getR (q := 28) rfl rfl rfl xS_18 (Nat.le_of_ble_eq_true rfl) rfl (hR.1 18 2 rfl) ?_
      refine xx_iload_n (q := 29) rfl rfl rfl ?_
      refine xx_iaz (v := Y.2.2.1 (i).toNat) (q := 30) rfl rfl xS_20 (by omega) (by omega) ((hC.2 _ (by omega)).2.1) ?_
      refine xx_iconst (q := 31) rfl rfl (by decide) ?_
      refine xx_icmp_ne (q := 45) (q2 := 34) rfl rfl rfl (fun h31 => ?_) (fun h31 => ?_)
      · refine xx_incz (q := 48) (loc2 := [_, _, _, _]) rfl rfl rfl (by omega) (by omega) rfl rfl ?_
        refine xx_goto (q := 6) rfl rfl ?_
        rw [show higL Y p (k + 1) i v = higL Y p k (i + 1) v from congrArg (higL Y p k (i + 1)) (if_neg (fun q => h31 q.2))]
        exact ih k (by omega) _ _ (by omega) (by omega) (by omega) (by omega)
      · refine xx_iload_n (q := 35) rfl rfl rfl ?_
        refine xx_aload_n (q := 36) rfl rfl rfl ?_
        refine xx_getR (q := 39) rfl rfl rfl xS_18 (Nat.le_of_ble_eq_true rfl) rfl (hR.1 18 3 rfl) ?_
        refine xx_iload_n (q := 40) rfl rfl rfl ?_
        refine xx_iaz (v := Y.2.2.2 (i).toNat) (q := 41) rfl rfl xS_21 (by omega) (by omega) ((hC.2 _ (by omega)).2.2) ?_
        have hb1 := hY.2 (i).toNat
        refine xx_minF (q := 44) rfl rfl rfl (Nat.le_of_ble_eq_true rfl) ?_
        have hb2 := mnF_sp v (Y.2.2.2 (i).toNat)
        refine xx_istore_n (q := 45) (loc2 := [_, _, _, _]) rfl rfl (Nat.le_of_ble_eq_true rfl) rfl ?_
        refine xx_incz (q := 48) (loc2 := [_, _, _, _]) rfl rfl rfl (by omega) (by omega) rfl rfl ?_
        refine xx_goto (q := 6) rfl rfl ?_
        rw [show higL Y p (k + 1) i v = higL Y p k (i + 1) (mnF v (Y.2.2.2 (i).toNat)) from congrArg (higL Y p k (i + 1)) (if_pos ⟨h21, h31⟩)]
        exact ih k (by omega) _ _ (by omega) (by omega) (by omega) (by omega)
theorem c_highest {n : Nat} {R : Nat → Nat → Option Nat} {D : KK} {Y : YY} (hR : RF R) (hC : YC Y D) (hY : YI Y) (p : Int) : XC 1 47 [.inr (some 18), .inl p] (xS n, R, D) (some (.inl (higF Y p))) (xS n, R, D) := by
  have hy1 := hY.1
  refine XC_of (Nat.le_of_ble_eq_true rfl) (Nat.le_of_ble_eq_true rfl) (loc := [_, _, _, _]) rfl ?_
  refine xx_sipush (q := 3) rfl rfl (by decide) ?_
  refine xx_istore_n (q := 4) (loc2 := [_, _, _, _]) rfl rfl (Nat.le_of_ble_eq_true rfl) rfl ?_
  refine xx_iconst (q := 5) rfl rfl (by decide) ?_
  refine xx_istore_n (q := 6) (loc2 := [_, _, _, _]) rfl rfl (Nat.le_of_ble_eq_true rfl) rfl ?_
  exact c_highest_L hR hC hY p Y.1.toNat 999 0 (by omega) (by omega) (by omega) (by omega)
def rngE (Y : YY) (pool all : Int) (least : Prop) [Decidable least] (o : Option (Int × Int)) : Int := match o with
  | none => -1
  | some r => if all < r.1 ∨ r.2 < all then -1 else if least then mxF (lowF Y pool) (all - (r.2 - higF Y pool)) else mnF (higF Y pool) (all - (r.1 - lowF Y pool))
set_option maxHeartbeats 1000000 in
theorem c_bnd_L {n : Nat} {R : Nat → Nat → Option Nat} {D : KK} {Y : YY} (hR : RF R) (hC : YC Y D) (hY : YI Y) {K : KK} (hK : CK 27 K D) (hI : KI K) (pool least all : Int) (hp0 : 0 ≤ pool) (ha0 : 0 ≤ all) (ha1 : all ≤ 20000) : ∀ (k : Nat) (l h i : Int), 0 ≤ l → 0 ≤ h → l ≤ 999 * i → h ≤ 999 * i → 0 ≤ i → i + k = K 0 0 + 1 → XX (XC 2) 45 (fun r2 m2 => r2 = some (.inl (rngE Y pool all (¬ least = 0) (rngL Y k i l h))) ∧ m2 = (xS n, R, D)) 15 [some (.inr (some 18)), some (.inr (some 27)), some (.inl pool), some (.inl least), some (.inl all), some (.inl l), some (.inl h), some (.inl i)] [] (xS n, R, D) := by
  intro k
  induction k using Nat.strongRecOn with
  | ind k ih =>
  intro l h i hl0 hh0 hl1 hh1 h1 hk
  have hbL := ki_L hI
  have hlp := lowF_b hY pool
  have hhp := higF_b hY pool
  refine xx_iload (q := 17) rfl rfl rfl ?_
  refine xx_aload_n (q := 18) rfl rfl rfl ?_
  refine xx_gez (v := K 0 0) (q := 21) rfl rfl rfl (xSc_0 isC_27) (Nat.le_of_ble_eq_true rfl) rfl (hK 0 0 (Nat.le_of_ble_eq_true rfl)) ?_
  have hb1 : 1 ≤ K 0 0 ∧ K 0 0 ≤ 9 := by have h := ki_L hI; exact h
  refine xx_icmp_gt (q := 69) (q2 := 24) rfl rfl rfl (fun h21 => ?_) (fun h21 => ?_)
  · refine xx_iload (q := 71) rfl rfl rfl ?_
    refine xx_iload (q := 73) rfl rfl rfl ?_
    refine xx_icmp_gt (q := 83) (q2 := 76) rfl rfl rfl (fun h73 => ?_) (fun h73 => ?_)
    · refine xx_iconst (q := 84) rfl rfl (by decide) ?_
      obtain rfl : k = 0 := by omega
      show XX _ _ (fun r2 m2 => r2 = some (.inl (if all < l ∨ h < all then (-1 : Int) else if ¬ least = 0 then mxF (lowF Y pool) (all - (h - higF Y pool)) else mnF (higF Y pool) (all - (l - lowF Y pool)))) ∧ m2 = (xS n, R, D)) _ _ _ _
      rw [if_pos (Or.inl (by omega))]
      exact xx_iret rfl trivial ⟨rfl, rfl⟩
    · refine xx_iload (q := 78) rfl rfl rfl ?_
      refine xx_iload (q := 80) rfl rfl rfl ?_
      refine xx_icmp_ge (q := 85) (q2 := 83) rfl rfl rfl (fun h80 => ?_) (fun h80 => ?_)
      · refine xx_iload_n (q := 86) rfl rfl rfl ?_
        refine xx_if_eq (q := 109) (q2 := 89) rfl rfl rfl (fun h86 => ?_) (fun h86 => ?_)
        · refine xx_aload_n (q := 110) rfl rfl rfl ?_
          refine xx_iload_n (q := 111) rfl rfl rfl ?_
          refine xx_callV (q := 114) (As := [_]) (rest := []) rfl rfl rfl (Or.inl rfl) rfl rfl (Nat.le_of_ble_eq_true rfl) xS_18 (XCm (c_highest hR hC hY pool) rfl) rfl ?_
          have hb2 := higF_b hY pool
          refine xx_iload (q := 116) rfl rfl rfl ?_
          refine xx_iload (q := 118) rfl rfl rfl ?_
          refine xx_aload_n (q := 119) rfl rfl rfl ?_
          refine xx_iload_n (q := 120) rfl rfl rfl ?_
          refine xx_callV (q := 123) (As := [_]) (rest := [_, _, _]) rfl rfl rfl (Or.inl rfl) rfl rfl (Nat.le_of_ble_eq_true rfl) xS_18 (XCm (c_lowest hR hC hY pool) rfl) rfl ?_
          have hb3 := lowF_b hY pool
          refine xx_isubR (q := 124) rfl rfl (by omega) (by omega) ?_
          refine xx_isubR (q := 125) rfl rfl (by omega) (by omega) ?_
          refine xx_minF (q := 128) rfl rfl rfl (Nat.le_of_ble_eq_true rfl) ?_
          have hb4 := mnF_sp (higF Y pool) (all - (l - (lowF Y pool)))
          obtain rfl : k = 0 := by omega
          show XX _ _ (fun r2 m2 => r2 = some (.inl (if all < l ∨ h < all then (-1 : Int) else if ¬ least = 0 then mxF (lowF Y pool) (all - (h - higF Y pool)) else mnF (higF Y pool) (all - (l - lowF Y pool)))) ∧ m2 = (xS n, R, D)) _ _ _ _
          rw [if_neg (fun q => by omega), if_neg (fun q => q h86)]
          exact xx_iret rfl trivial ⟨rfl, rfl⟩
        · refine xx_aload_n (q := 90) rfl rfl rfl ?_
          refine xx_iload_n (q := 91) rfl rfl rfl ?_
          refine xx_callV (q := 94) (As := [_]) (rest := []) rfl rfl rfl (Or.inl rfl) rfl rfl (Nat.le_of_ble_eq_true rfl) xS_18 (XCm (c_lowest hR hC hY pool) rfl) rfl ?_
          have hb5 := lowF_b hY pool
          refine xx_iload (q := 96) rfl rfl rfl ?_
          refine xx_iload (q := 98) rfl rfl rfl ?_
          refine xx_aload_n (q := 99) rfl rfl rfl ?_
          refine xx_iload_n (q := 100) rfl rfl rfl ?_
          refine xx_callV (q := 103) (As := [_]) (rest := [_, _, _]) rfl rfl rfl (Or.inl rfl) rfl rfl (Nat.le_of_ble_eq_true rfl) xS_18 (XCm (c_highest hR hC hY pool) rfl) rfl ?_
          have hb6 := higF_b hY pool
          refine xx_isubR (q := 104) rfl rfl (by omega) (by omega) ?_
          refine xx_isubR (q := 105) rfl rfl (by omega) (by omega) ?_
          refine xx_maxF (q := 108) rfl rfl rfl (Nat.le_of_ble_eq_true rfl) ?_
          have hb7 := mxF_sp (lowF Y pool) (all - (h - (higF Y pool)))
          obtain rfl : k = 0 := by omega
          show XX _ _ (fun r2 m2 => r2 = some (.inl (if all < l ∨ h < all then (-1 : Int) else if ¬ least = 0 then mxF (lowF Y pool) (all - (h - higF Y pool)) else mnF (higF Y pool) (all - (l - lowF Y pool)))) ∧ m2 = (xS n, R, D)) _ _ _ _
          rw [if_neg (fun q => by omega), if_pos h86]
          exact xx_iret rfl trivial ⟨rfl, rfl⟩
      · refine xx_iconst (q := 84) rfl rfl (by decide) ?_
        obtain rfl : k = 0 := by omega
        show XX _ _ (fun r2 m2 => r2 = some (.inl (if all < l ∨ h < all then (-1 : Int) else if ¬ least = 0 then mxF (lowF Y pool) (all - (h - higF Y pool)) else mnF (higF Y pool) (all - (l - lowF Y pool)))) ∧ m2 = (xS n, R, D)) _ _ _ _
        rw [if_pos (Or.inr (by omega))]
        exact xx_iret rfl trivial ⟨rfl, rfl⟩
  · obtain ⟨k, rfl⟩ : ∃ k2, k = k2 + 1 := ⟨k - 1, by omega⟩
    refine xx_aload_n (q := 25) rfl rfl rfl ?_
    refine xx_iload (q := 27) rfl rfl rfl ?_
    refine xx_callV (q := 30) (As := [_]) (rest := []) rfl rfl rfl (Or.inl rfl) rfl rfl (Nat.le_of_ble_eq_true rfl) xS_18 (XCm (c_lowest hR hC hY i) rfl) rfl ?_
    have hb8 := lowF_b hY i
    refine xx_aload_n (q := 31) rfl rfl rfl ?_
    refine xx_iload (q := 33) rfl rfl rfl ?_
    refine xx_callV (q := 36) (As := [_]) (rest := [_]) rfl rfl rfl (Or.inl rfl) rfl rfl (Nat.le_of_ble_eq_true rfl) xS_18 (XCm (c_highest hR hC hY i) rfl) rfl ?_
    have hb9 := higF_b hY i
    refine xx_icmp_le (q := 41) (q2 := 39) rfl rfl rfl (fun h36 => ?_) (fun h36 => ?_)
    · refine xx_iload (q := 43) rfl rfl rfl ?_
      refine xx_aload_n (q := 44) rfl rfl rfl ?_
      refine xx_iload (q := 46) rfl rfl rfl ?_
      refine xx_callV (q := 49) (As := [_]) (rest := [_]) rfl rfl rfl (Or.inl rfl) rfl rfl (Nat.le_of_ble_eq_true rfl) xS_18 (XCm (c_lowest hR hC hY i) rfl) rfl ?_
      have hb10 := lowF_b hY i
      refine xx_iaddR (q := 50) rfl rfl (by omega) (by omega) ?_
      refine xx_istore (q := 52) (loc2 := [_, _, _, _, _, _, _, _]) rfl rfl (Nat.le_of_ble_eq_true rfl) rfl ?_
      refine xx_iload (q := 54) rfl rfl rfl ?_
      refine xx_aload_n (q := 55) rfl rfl rfl ?_
      refine xx_iload (q := 57) rfl rfl rfl ?_
      refine xx_callV (q := 60) (As := [_]) (rest := [_]) rfl rfl rfl (Or.inl rfl) rfl rfl (Nat.le_of_ble_eq_true rfl) xS_18 (XCm (c_highest hR hC hY i) rfl) rfl ?_
      have hb11 := higF_b hY i
      refine xx_iaddR (q := 61) rfl rfl (by omega) (by omega) ?_
      refine xx_istore (q := 63) (loc2 := [_, _, _, _, _, _, _, _]) rfl rfl (Nat.le_of_ble_eq_true rfl) rfl ?_
      refine xx_incz (q := 66) (loc2 := [_, _, _, _, _, _, _, _]) rfl rfl rfl (by omega) (by omega) rfl rfl ?_
      refine xx_goto (q := 15) rfl rfl ?_
      rw [show rngL Y (k + 1) i l h = rngL Y k (i + 1) (l + lowF Y i) (h + higF Y i) from if_neg (by omega)]
      exact ih k (by omega) _ _ _ (by omega) (by omega) (by omega) (by omega) (by omega) (by omega)
    · refine xx_iconst (q := 40) rfl rfl (by decide) ?_
      rw [show rngL Y (k + 1) i l h = none from if_pos (by omega)]
      exact xx_iret rfl trivial ⟨rfl, rfl⟩
theorem c_bound {n : Nat} {R : Nat → Nat → Option Nat} {D : KK} {Y : YY} (hR : RF R) (hC : YC Y D) (hY : YI Y) {K : KK} (hK : CK 27 K D) (hI : KI K) (pool least : Int) (hp0 : 0 ≤ pool) : XC 3 45 [.inr (some 18), .inr (some 27), .inl pool, .inl least] (xS n, R, D) (some (.inl (rngE Y pool (watF K) (¬ least = 0) (rngL Y (K 0 0 + 1).toNat 0 0 0)))) (xS n, R, D) := by
  have hbL := ki_L hI
  refine XC_of (Nat.le_of_ble_eq_true rfl) (Nat.le_of_ble_eq_true rfl) (loc := [_, _, _, _, _, _, _, _]) rfl ?_
  refine xx_aload_n (q := 1) rfl rfl rfl ?_
  refine xx_callV (q := 4) (As := []) (rest := []) rfl rfl rfl (Or.inl rfl) rfl rfl (Nat.le_of_ble_eq_true rfl) (xSc_0 isC_27) (XCm (c_allWater hR isC_27 hK hI) rfl) rfl ?_
  have hb1 := watF_b hI
  refine xx_istore (q := 6) (loc2 := [_, _, _, _, _, _, _, _]) rfl rfl (Nat.le_of_ble_eq_true rfl) rfl ?_
  refine xx_iconst (q := 7) rfl rfl (by decide) ?_
  refine xx_istore (q := 9) (loc2 := [_, _, _, _, _, _, _, _]) rfl rfl (Nat.le_of_ble_eq_true rfl) rfl ?_
  refine xx_iconst (q := 10) rfl rfl (by decide) ?_
  refine xx_istore (q := 12) (loc2 := [_, _, _, _, _, _, _, _]) rfl rfl (Nat.le_of_ble_eq_true rfl) rfl ?_
  refine xx_iconst (q := 13) rfl rfl (by decide) ?_
  refine xx_istore (q := 15) (loc2 := [_, _, _, _, _, _, _, _]) rfl rfl (Nat.le_of_ble_eq_true rfl) rfl ?_
  exact c_bnd_L hR hC hY hK hI pool least _ hp0 (by omega) (by omega) (K 0 0 + 1).toNat 0 0 0 (by omega) (by omega) (by omega) (by omega) (by omega) (by omega)
theorem xdiv_le {a f : Int} (h0 : 0 ≤ a) (h1 : 0 < f) (h2 : a < 2147483648) : 0 ≤ xdiv a f ∧ xdiv a f * f ≤ a ∧ xdiv a f ≤ a := by
  have e : xdiv a f = a / f := by
    unfold xdiv
    rw [Int.tdiv_eq_ediv_of_nonneg h0]
    have q1 := Int.ediv_nonneg h0 (Int.le_of_lt h1)
    have q2 := Int.ediv_le_self f h0
    exact nrm_id ⟨by omega, by omega⟩
  rw [e]
  exact ⟨Int.ediv_nonneg h0 (Int.le_of_lt h1), Int.ediv_mul_le a (by omega), Int.ediv_le_self f h0⟩
def mndP (K : KK) (nd : Nat → Int) (l taken : Int) : Int := xdiv (mxF 0 (nd (l + 1).toNat + taken - K 1 (l + 1).toNat) + mxF 1 (K 2 l.toNat) - 1) (mxF 1 (K 2 l.toNat))
def mndL (K : KK) (nd : Nat → Int) : Nat → Int → Int → Int → (Nat → Int) → Int × Int × (Nat → Int)
  | 0, _, taken, all, f => (taken, all, f)
  | k + 1, l, taken, all, f => mndL K nd k (l - 1) (mndP K nd l taken * mxF 1 (K 2 l.toNat)) (all + mndP K nd l taken) (fset f l.toNat (mndP K nd l taken))
theorem mndP_b {K : KK} {nd : Nat → Int} (hI : KI K) (hn : ∀ k, 0 ≤ nd k ∧ nd k ≤ 999) (l taken : Int) (h0 : 0 ≤ taken) (h1 : taken ≤ 100000) : 0 ≤ mndP K nd l taken ∧ mndP K nd l taken ≤ taken + 1100 ∧ 0 ≤ mndP K nd l taken * mxF 1 (K 2 l.toNat) ∧ mndP K nd l taken * mxF 1 (K 2 l.toNat) ≤ taken + 1100 := by
  have q1 := hn (l + 1).toNat
  have q2 := ki_1 hI (l + 1).toNat
  have q3 := ki_2 hI l.toNat
  have q4 := mxF_sp 0 (nd (l + 1).toNat + taken - K 1 (l + 1).toNat)
  have q5 := mxF_sp 1 (K 2 l.toNat)
  have q6 := xdiv_le (a := mxF 0 (nd (l + 1).toNat + taken - K 1 (l + 1).toNat) + mxF 1 (K 2 l.toNat) - 1) (f := mxF 1 (K 2 l.toNat)) (by omega) (by omega) (by omega)
  have q7 := Int.mul_nonneg q6.1 (show (0 : Int) ≤ mxF 1 (K 2 l.toNat) by omega)
  unfold mndP
  omega
set_option maxHeartbeats 1000000 in
theorem c_mnd_L {n : Nat} {R : Nat → Nat → Option Nat} {K : KK} (hR : RF R) (hI : KI K) (nd : Nat → Int) (hndI : ∀ k, 0 ≤ nd k ∧ nd k ≤ 999) {D0 : KK} : ∀ (k : Nat) (D : KK) (all taken l : Int) (f : Nat → Int) (x y : Option XV), CK 27 K D → (∀ j, j < 10 → D 23 j = nd j) → (∀ j, j < 9 → D 24 j = f j) → (∀ b j, b ≠ 24 → D b j = D0 b j) → 0 ≤ taken → taken + 1100 * (k : Int) ≤ 20000 → 0 ≤ all → all + 20000 * (k : Int) ≤ 1000000 → l + 1 = k → l ≤ 8 → XX (XC 0) 48 (XP (some (.inl (if K 1 0 - (mndL K nd k l taken all f).1 < nd 0 then -1 else (mndL K nd k l taken all f).2.1))) (xS n) R (fun D' => (∀ j, j < 9 → D' 24 j = (mndL K nd k l taken all f).2.2 j) ∧ ∀ b j, b ≠ 24 → D' b j = D0 b j)) 12 [some (.inr (some 18)), some (.inr (some 27)), some (.inl all), some (.inl taken), some (.inl l), x, y] [] (xS n, R, D) := by
  intro k
  induction k using Nat.strongRecOn with
  | ind k ih =>
  intro D all taken l f x y hK hnd hf hF ht0 ht1 ha0 ha1 hk hl8
  have hbL := ki_L hI
  refine xx_iload (q := 14) rfl rfl rfl ?_
  refine xx_if_lt (q := 101) (q2 := 17) rfl rfl rfl (fun h14 => ?_) (fun h14 => ?_)
  · refine xx_aload_n (q := 102) rfl rfl rfl ?_
    refine xx_getR (q := 105) rfl rfl rfl (xSc_0 isC_27) (Nat.le_of_ble_eq_true rfl) rfl (rc_depth hR isC_27) ?_
    refine xx_iconst (q := 106) rfl rfl (by decide) ?_
    refine xx_iaz (v := K 1 0) (q := 107) rfl rfl (xSc_1 isC_27) (by omega) (by omega) (ck_a hK (o := 1) (N := 10) rfl (by omega) (by omega)) ?_
    have hb1 : 0 ≤ K 1 0 ∧ K 1 0 ≤ 999 := by have h := ki_1 hI 0; exact h
    refine xx_iload_n (q := 108) rfl rfl rfl ?_
    refine xx_isubR (q := 109) rfl rfl (by omega) (by omega) ?_
    refine xx_aload_n (q := 110) rfl rfl rfl ?_
    refine xx_getR (q := 113) rfl rfl rfl xS_18 (Nat.le_of_ble_eq_true rfl) rfl (hR.1 18 5 rfl) ?_
    refine xx_iconst (q := 114) rfl rfl (by decide) ?_
    refine xx_iaz (v := nd 0) (q := 115) rfl rfl xS_23 (by omega) (by omega) (hnd _ (by omega)) ?_
    have hb2 := hndI 0
    refine xx_icmp_ge (q := 122) (q2 := 118) rfl rfl rfl (fun h115 => ?_) (fun h115 => ?_)
    · refine xx_iload_n (q := 123) rfl rfl rfl ?_
      obtain rfl : k = 0 := by omega
      exact xx_iret rfl trivial ⟨congrArg (fun z => some (Sum.inl z)) (if_neg (by show ¬ K 1 0 - taken < nd 0; omega)).symm, _, rfl, hf, hF⟩
    · refine xx_iconst (q := 119) rfl rfl (by decide) ?_
      refine xx_goto (q := 123) rfl rfl ?_
      obtain rfl : k = 0 := by omega
      exact xx_iret rfl trivial ⟨congrArg (fun z => some (Sum.inl z)) (if_pos (by show K 1 0 - taken < nd 0; omega)).symm, _, rfl, hf, hF⟩
  · obtain ⟨k, rfl⟩ : ∃ k2, k = k2 + 1 := ⟨k - 1, by omega⟩
    have hmp := mndP_b hI hndI l taken ht0 (by omega)
    refine xx_iconst (q := 18) rfl rfl (by decide) ?_
    refine xx_aload_n (q := 19) rfl rfl rfl ?_
    refine xx_getR (q := 22) rfl rfl rfl xS_18 (Nat.le_of_ble_eq_true rfl) rfl (hR.1 18 5 rfl) ?_
    refine xx_iload (q := 24) rfl rfl rfl ?_
    refine xx_iconst (q := 25) rfl rfl (by decide) ?_
    refine xx_iaddR (q := 26) rfl rfl (by omega) (by omega) ?_
    refine xx_iaz (v := nd (l + 1).toNat) (q := 27) rfl rfl xS_23 (by omega) (by omega) (hnd _ (by omega)) ?_
    have hb3 := hndI (l + 1).toNat
    refine xx_iload_n (q := 28) rfl rfl rfl ?_
    refine xx_iaddR (q := 29) rfl rfl (by omega) (by omega) ?_
    refine xx_aload_n (q := 30) rfl rfl rfl ?_
    refine xx_getR (q := 33) rfl rfl rfl (xSc_0 isC_27) (Nat.le_of_ble_eq_true rfl) rfl (rc_depth hR isC_27) ?_
    refine xx_iload (q := 35) rfl rfl rfl ?_
    refine xx_iconst (q := 36) rfl rfl (by decide) ?_
    refine xx_iaddR (q := 37) rfl rfl (by omega) (by omega) ?_
    refine xx_iaz (v := K 1 (l + 1).toNat) (q := 38) rfl rfl (xSc_1 isC_27) (by omega) (by omega) (ck_a hK (o := 1) (N := 10) rfl (by omega) (by omega)) ?_
    have hb4 : 0 ≤ K 1 (l + 1).toNat ∧ K 1 (l + 1).toNat ≤ 999 := by have h := ki_1 hI (l + 1).toNat; exact h
    refine xx_isubR (q := 39) rfl rfl (by omega) (by omega) ?_
    refine xx_maxF (q := 42) rfl rfl rfl (Nat.le_of_ble_eq_true rfl) ?_
    have hb5 := mxF_sp 0 (((nd (l + 1).toNat) + taken) - (K 1 (l + 1).toNat))
    refine xx_istore (q := 44) (loc2 := [_, _, _, _, _, _, _]) rfl rfl (Nat.le_of_ble_eq_true rfl) rfl ?_
    refine xx_iconst (q := 45) rfl rfl (by decide) ?_
    refine xx_aload_n (q := 46) rfl rfl rfl ?_
    refine xx_getR (q := 49) rfl rfl rfl (xSc_0 isC_27) (Nat.le_of_ble_eq_true rfl) rfl (rc_fill hR isC_27) ?_
    refine xx_iload (q := 51) rfl rfl rfl ?_
    refine xx_iaz (v := K 2 (l).toNat) (q := 52) rfl rfl (xSc_2 isC_27) (by omega) (by omega) (ck_a hK (o := 2) (N := 9) rfl (by omega) (by omega)) ?_
    have hb6 : 1 ≤ K 2 (l).toNat ∧ K 2 (l).toNat ≤ 50 := by have h := ki_2 hI (l).toNat; exact h
    refine xx_maxF (q := 55) rfl rfl rfl (Nat.le_of_ble_eq_true rfl) ?_
    have hb7 := mxF_sp 1 (K 2 (l).toNat)
    refine xx_istore (q := 57) (loc2 := [_, _, _, _, _, _, _]) rfl rfl (Nat.le_of_ble_eq_true rfl) rfl ?_
    refine xx_aload_n (q := 58) rfl rfl rfl ?_
    refine xx_getR (q := 61) rfl rfl rfl xS_18 (Nat.le_of_ble_eq_true rfl) rfl (hR.1 18 6 rfl) ?_
    refine xx_iload (q := 63) rfl rfl rfl ?_
    refine xx_iload (q := 65) rfl rfl rfl ?_
    refine xx_iload (q := 67) rfl rfl rfl ?_
    refine xx_iaddR (q := 68) rfl rfl (by omega) (by omega) ?_
    refine xx_iconst (q := 69) rfl rfl (by decide) ?_
    refine xx_isubR (q := 70) rfl rfl (by omega) (by omega) ?_
    refine xx_iload (q := 72) rfl rfl rfl ?_
    refine xx_idiv (q := 73) rfl rfl (by omega) ?_
    refine xx_isz (q := 74) rfl rfl xS_24 (by omega) (by omega) rfl ?_
    change XX _ _ _ _ _ _ (xS n, R, xui D 24 (l).toNat (mndP K nd l taken))
    refine xx_aload_n (q := 75) rfl rfl rfl ?_
    refine xx_getR (q := 78) rfl rfl rfl xS_18 (Nat.le_of_ble_eq_true rfl) rfl (hR.1 18 6 rfl) ?_
    refine xx_iload (q := 80) rfl rfl rfl ?_
    refine xx_iaz (v := mndP K nd l taken) (q := 81) rfl rfl xS_24 (by omega) (by omega) xui_s ?_
    refine xx_iload (q := 83) rfl rfl rfl ?_
    have hmq := hmp.2.2
    refine xx_imulR (q := 84) rfl rfl (by omega) (by omega) ?_
    refine xx_istore_n (q := 85) (loc2 := [_, _, _, _, _, _, _]) rfl rfl (Nat.le_of_ble_eq_true rfl) rfl ?_
    refine xx_iload_n (q := 86) rfl rfl rfl ?_
    refine xx_aload_n (q := 87) rfl rfl rfl ?_
    refine xx_getR (q := 90) rfl rfl rfl xS_18 (Nat.le_of_ble_eq_true rfl) rfl (hR.1 18 6 rfl) ?_
    refine xx_iload (q := 92) rfl rfl rfl ?_
    refine xx_iaz (v := mndP K nd l taken) (q := 93) rfl rfl xS_24 (by omega) (by omega) xui_s ?_
    refine xx_iaddR (q := 94) rfl rfl (by omega) (by omega) ?_
    refine xx_istore_n (q := 95) (loc2 := [_, _, _, _, _, _, _]) rfl rfl (Nat.le_of_ble_eq_true rfl) rfl ?_
    refine xx_incz (q := 98) (loc2 := [_, _, _, _, _, _, _]) rfl rfl rfl (by omega) (by omega) rfl rfl ?_
    refine xx_goto (q := 12) rfl rfl ?_
    exact ih k (by omega) _ _ _ _ _ _ _ (CK_fr hK (fun o j ho => xui_a (by omega))) (fun j hj => (xui_a (by omega)).trans (hnd j hj)) (fun j hj => by rw [xui_f]; unfold fset; rw [hf j hj]) (fun b j hb => (xui_a hb).trans (hF b j hb)) (by omega) (by omega) (by omega) (by omega) (by omega) (by omega)
set_option maxHeartbeats 1000000 in
theorem c_fewestPulls {n : Nat} {R : Nat → Nat → Option Nat} {K : KK} (hR : RF R) (hI : KI K) (nd : Nat → Int) (hndI : ∀ k, 0 ≤ nd k ∧ nd k ≤ 999) {D : KK} (hK : CK 27 K D) (hnd : ∀ j, j < 10 → D 23 j = nd j) : ∃ D', XC 1 48 [.inr (some 18), .inr (some 27)] (xS n, R, D) (some (.inl (if K 1 0 - (mndL K nd (K 0 0).toNat (K 0 0 - 1) 0 0 (D 24)).1 < nd 0 then -1 else (mndL K nd (K 0 0).toNat (K 0 0 - 1) 0 0 (D 24)).2.1))) (xS n, R, D') ∧ (∀ j, j < 9 → D' 24 j = (mndL K nd (K 0 0).toNat (K 0 0 - 1) 0 0 (D 24)).2.2 j) ∧ ∀ b j, b ≠ 24 → D' b j = D b j := by
  have hbL := ki_L hI
  refine XE_of (Nat.le_of_ble_eq_true rfl) (Nat.le_of_ble_eq_true rfl) (loc := [_, _, _, _, _, _, _]) rfl ?_
  refine xx_iconst (q := 1) rfl rfl (by decide) ?_
  refine xx_istore_n (q := 2) (loc2 := [_, _, _, _, _, _, _]) rfl rfl (Nat.le_of_ble_eq_true rfl) rfl ?_
  refine xx_iconst (q := 3) rfl rfl (by decide) ?_
  refine xx_istore_n (q := 4) (loc2 := [_, _, _, _, _, _, _]) rfl rfl (Nat.le_of_ble_eq_true rfl) rfl ?_
  refine xx_aload_n (q := 5) rfl rfl rfl ?_
  refine xx_gez (v := K 0 0) (q := 8) rfl rfl rfl (xSc_0 isC_27) (Nat.le_of_ble_eq_true rfl) rfl (hK 0 0 (Nat.le_of_ble_eq_true rfl)) ?_
  have hb1 : 1 ≤ K 0 0 ∧ K 0 0 ≤ 9 := by have h := ki_L hI; exact h
  refine xx_iconst (q := 9) rfl rfl (by decide) ?_
  refine xx_isubR (q := 10) rfl rfl (by omega) (by omega) ?_
  refine xx_istore (q := 12) (loc2 := [_, _, _, _, _, _, _]) rfl rfl (Nat.le_of_ble_eq_true rfl) rfl ?_
  exact c_mnd_L hR hI nd hndI (K 0 0).toNat D 0 0 _ (D 24) _ _ hK hnd (fun _ _ => rfl) (fun _ _ _ => rfl) (by omega) (by omega) (by omega) (by omega) (by omega) (by omega)
