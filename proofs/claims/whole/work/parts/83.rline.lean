/-! Lines of boats: the reference. -/
def bitF (s : Int) : Nat → Int → List Int
  | 0, _ => []
  | k + 1, b => if xand (xshr s b) 1 = 0 then bitF s k (b + 1) else b :: bitF s k (b + 1)
def onL : Nat → Int → Int → Option Int
  | 0, _, _ => none
  | k + 1, v, n => if v = 0 then some n else onL k (xand v (nrm (v - 1))) (n + 1)
def swp (l : List Int) (i j : Nat) : List Int := (l.set i (l.getD j 0)).set j (l.getD i 0)
def nxI (l : List Int) : Nat → Int
  | 0 => -1
  | k + 1 => if l.getD (k + 1) 0 < l.getD k 0 then nxI l k else (k : Int)
def nxJ (l : List Int) (v : Int) : Nat → Nat
  | 0 => 0
  | k + 1 => if l.getD k 0 < v then nxJ l v k else k
def nxV (N i : Nat) : Nat → Nat → List Int → List Int
  | 0, _, l => l
  | f + 1, c, l => if i + 1 + c + c + 1 < N then nxV N i f (c + 1) (swp l (i + 1 + c) (N - 1 - c)) else l
def nxS (l : List Int) (i : Nat) : List Int := nxV l.length i l.length 0 (swp l i (nxJ l (l.getD i 0) l.length))
def lnT : Nat → List Int → Option (List (List Int))
  | 0, _ => none
  | k + 1, l => if nxI l (l.length - 1) < 0 then some [l] else match lnT k (nxS l (nxI l (l.length - 1)).toNat) with
    | none => none
    | some r => some (l :: r)
theorem gs_l : ∀ (l : List Int) (i j : Nat) (v : Int), i < l.length → (l.set i v).getD j 0 = if j = i then v else l.getD j 0
  | [], _, _, _, h => absurd h (Nat.not_lt_zero _)
  | a :: l, 0, 0, v, _ => rfl
  | a :: l, 0, j + 1, v, _ => rfl
  | a :: l, i + 1, 0, v, _ => rfl
  | a :: l, i + 1, j + 1, v, h => by
    show (l.set i v).getD j 0 = if j + 1 = i + 1 then v else l.getD j 0
    rw [gs_l l i j v (by rw [List.length_cons] at h; omega)]
    rcases Classical.em (j = i) with q | q
    · rw [if_pos q, if_pos (by omega)]
    · rw [if_neg q, if_neg (by omega)]
theorem swp_len {l : List Int} {i j : Nat} : (swp l i j).length = l.length := by unfold swp; rw [List.length_set, List.length_set]
theorem nxV_len {N i : Nat} : ∀ (f c : Nat) (l : List Int), (nxV N i f c l).length = l.length
  | 0, _, _ => rfl
  | f + 1, c, l => by
    unfold nxV
    split
    · rw [nxV_len f, swp_len]
    · rfl
theorem nxS_len {l : List Int} {i : Nat} : (nxS l i).length = l.length := by unfold nxS; rw [nxV_len, swp_len]
def LnR (l : List Int) (D : KK) : Prop := ∀ j, j < l.length → D 513 j = l.getD j 0
theorem LnR.z {l : List Int} {D : KK} (h : LnR l D) {z : Int} (h0 : 0 ≤ z) (h1 : z < (l.length : Int)) : D 513 z.toNat = l.getD z.toNat 0 := h _ (by omega)
theorem LnR_swp {l : List Int} {D : KK} {i j : Nat} (h : LnR l D) (hi : i < l.length) (hj : j < l.length) : LnR (swp l i j) (xui (xui D 513 i (l.getD j 0)) 513 j (l.getD i 0)) := by
  intro k hk
  rw [swp_len] at hk
  unfold swp
  rw [gs_l _ _ _ _ (by rw [List.length_set]; exact hj), gs_l _ _ _ _ hi]
  rcases Classical.em (k = j) with q | q
  · rw [if_pos q, q, xui_s]
  · rw [if_neg q, xui_j q]
    rcases Classical.em (k = i) with r | r
    · rw [if_pos r, r, xui_s]
    · rw [if_neg r, xui_j r]; exact h k hk
theorem LnR.app {l : List Int} {D : KK} {v : Int} (h : LnR l D) : LnR (l ++ [v]) (xui D 513 l.length v) := by
  intro k hk
  rw [List.length_append] at hk
  rcases Classical.em (k = l.length) with q | q
  · rw [q, xui_s]; simp [List.getD]
  · have hk2 : k < l.length := by simp at hk; omega
    rw [xui_j q, h k hk2]; simp [List.getD, List.getElem?_append, hk2]
theorem LnR.fr {l : List Int} {D E : KK} (h : LnR l D) (g : ∀ k, E 513 k = D 513 k) : LnR l E := fun k hk => (g k).trans (h k hk)
set_option maxHeartbeats 1000000 in
theorem r_one_L {m : XM} (s r : Int) : ∀ (k : Nat) (v c : Int), onL k v c = some r → 0 ≤ c → c + k ≤ 100 → XX (XC 0) 163 (fun r2 m2 => r2 = some (.inl r) ∧ m2 = m) 4 [some (.inr (some 479)), some (.inl s), some (.inl c), some (.inl v)] [] m := by
  intro k
  induction k using Nat.strongRecOn with
  | ind k ih =>
  intro v c ho h0 h1
  refine xx_iload_n (q := 5) rfl rfl rfl ?_
  refine xx_if_eq (q := 21) (q2 := 8) rfl rfl rfl (fun h5 => ?_) (fun h5 => ?_)
  · refine xx_iload_n (q := 22) rfl rfl rfl ?_
    obtain ⟨k, rfl⟩ : ∃ k2, k = k2 + 1 := ⟨k - 1, by rcases Nat.eq_zero_or_pos k with e | e; (subst e; cases ho); omega⟩
    unfold onL at ho
    rw [if_pos h5] at ho
    exact xx_iret rfl trivial ⟨congrArg (fun z => some (Sum.inl z)) (Option.some.inj ho), rfl⟩
  · refine xx_iload_n (q := 9) rfl rfl rfl ?_
    refine xx_iconst (q := 10) rfl rfl (by decide) ?_
    refine xx_iaddR (q := 11) rfl rfl (by omega) (by omega) ?_
    refine xx_istore_n (q := 12) (loc2 := [_, _, _, _]) rfl rfl (Nat.le_of_ble_eq_true rfl) rfl ?_
    refine xx_iload_n (q := 13) rfl rfl rfl ?_
    refine xx_iload_n (q := 14) rfl rfl rfl ?_
    refine xx_iconst (q := 15) rfl rfl (by decide) ?_
    refine xx_isub (q := 16) rfl rfl ?_
    refine xx_iand (q := 17) rfl rfl ?_
    refine xx_istore_n (q := 18) (loc2 := [_, _, _, _]) rfl rfl (Nat.le_of_ble_eq_true rfl) rfl ?_
    refine xx_goto (q := 4) rfl rfl ?_
    obtain ⟨k, rfl⟩ : ∃ k2, k = k2 + 1 := ⟨k - 1, by rcases Nat.eq_zero_or_pos k with e | e; (subst e; cases ho); omega⟩
    unfold onL at ho
    rw [if_neg h5] at ho
    exact ih k (by omega) _ _ ho (by omega) (by omega)
set_option maxHeartbeats 1000000 in
theorem r_ones {m : XM} (s r : Int) (ho : onL 8 s 0 = some r) : XC 1 163 [.inr (some 479), .inl s] m (some (.inl r)) m := by
  refine XC_of (Nat.le_of_ble_eq_true rfl) (Nat.le_of_ble_eq_true rfl) (loc := [_, _, _, _]) rfl ?_
  refine xx_iconst (q := 1) rfl rfl (by decide) ?_
  refine xx_istore_n (q := 2) (loc2 := [_, _, _, _]) rfl rfl (Nat.le_of_ble_eq_true rfl) rfl ?_
  refine xx_iload_n (q := 3) rfl rfl rfl ?_
  refine xx_istore_n (q := 4) (loc2 := [_, _, _, _]) rfl rfl (Nat.le_of_ble_eq_true rfl) rfl ?_
  exact r_one_L s r 8 s 0 ho (by omega) (by omega)
set_option maxHeartbeats 1000000 in
theorem r_tk_L {n : Nat} {R : Nat → Nat → Option Nat} {K D0 : KK} (hR : RF R) (hI : KI K) (hB0 : D0 479 7 = K 13 0) (s : Int) : ∀ (k : Nat) (l : List Int) (D : KK) (b : Int), LnR l D → (∀ x k, x ≠ 513 → D x k = D0 x k) → 0 ≤ b → b + k = K 13 0 → (l.length : Int) ≤ b → XX (XC 0) 281 (XP (some (.inl (((l ++ bitF s k b).length : Nat) : Int))) (xS n) R (fun D' => LnR (l ++ bitF s k b) D' ∧ ∀ x k, x ≠ 513 → D' x k = D0 x k)) 4 [some (.inr (some 479)), some (.inl s), some (.inl (l.length : Int)), some (.inl b)] [] (xS n, R, D) := by
  intro k
  induction k using Nat.strongRecOn with
  | ind k ih =>
  intro l D b hL hF h0 hk hlb
  have hbB := ki_B hI
  refine xx_iload_n (q := 5) rfl rfl rfl ?_
  refine xx_aload_n (q := 6) rfl rfl rfl ?_
  refine xx_gez (q := 9) rfl rfl rfl xS_479 (Nat.le_of_ble_eq_true rfl) rfl ((hF 479 7 (by omega)).trans hB0) ?_
  refine xx_icmp_ge (q := 40) (q2 := 12) rfl rfl rfl (fun h9 => ?_) (fun h9 => ?_)
  · refine xx_iload_n (q := 41) rfl rfl rfl ?_
    obtain rfl : k = 0 := by omega
    rw [show l ++ bitF s 0 b = l from List.append_nil l]
    exact xx_iret rfl trivial ⟨rfl, _, rfl, hL, hF⟩
  · obtain ⟨k, rfl⟩ : ∃ k2, k = k2 + 1 := ⟨k - 1, by omega⟩
    refine xx_iload_n (q := 13) rfl rfl rfl ?_
    refine xx_iload_n (q := 14) rfl rfl rfl ?_
    refine xx_ishr (q := 15) rfl rfl ?_
    refine xx_iconst (q := 16) rfl rfl (by decide) ?_
    refine xx_iand (q := 17) rfl rfl ?_
    refine xx_if_ne (q := 23) (q2 := 20) rfl rfl rfl (fun h17 => ?_) (fun h17 => ?_)
    · refine xx_aload_n (q := 24) rfl rfl rfl ?_
      refine xx_getR (q := 27) rfl rfl rfl xS_479 (Nat.le_of_ble_eq_true rfl) rfl (hR.1 479 60 rfl) ?_
      refine xx_iload_n (q := 28) rfl rfl rfl ?_
      refine xx_iload_n (q := 29) rfl rfl rfl ?_
      refine xr_isz (fun d => LnR (l ++ [b]) d ∧ ∀ x k, x ≠ 513 → d x k = D0 x k) (q := 30) rfl rfl xS_513 (by omega) (by omega) ⟨by rw [show ((l.length : Nat) : Int).toNat = l.length by omega]; exact hL.app, fun x k q => (xui_a q).trans (hF x k q)⟩ (fun D2 hL2 => ?_)
      refine xx_iload_n (q := 31) rfl rfl rfl ?_
      refine xx_iconst (q := 32) rfl rfl (by decide) ?_
      refine xx_iaddR (q := 33) rfl rfl (by omega) (by omega) ?_
      refine xx_istore_n (q := 34) (loc2 := [_, _, _, _]) rfl rfl (Nat.le_of_ble_eq_true rfl) rfl ?_
      refine xx_incz (q := 37) (loc2 := [_, _, _, _]) rfl rfl rfl (by omega) (by omega) rfl rfl ?_
      refine xx_goto (q := 4) rfl rfl ?_
      have e : bitF s (k + 1) b = b :: bitF s k (b + 1) := if_neg h17
      rw [e, show l ++ b :: bitF s k (b + 1) = (l ++ [b]) ++ bitF s k (b + 1) by rw [List.append_assoc]; rfl]
      have e3 : (l.length : Int) + 1 = (((l ++ [b]).length : Nat) : Int) := by rw [List.length_append]; rfl
      rw [e3]
      exact ih k (by omega) _ _ _ hL2.1 hL2.2 (by omega) (by omega) (by omega)
    · refine xx_goto (q := 34) rfl rfl ?_
      refine xx_incz (q := 37) (loc2 := [_, _, _, _]) rfl rfl rfl (by omega) (by omega) rfl rfl ?_
      refine xx_goto (q := 4) rfl rfl ?_
      rw [show bitF s (k + 1) b = bitF s k (b + 1) from if_pos h17]
      exact ih k (by omega) _ _ _ hL hF (by omega) (by omega) (by omega)
set_option maxHeartbeats 1000000 in
theorem r_takesSet {n : Nat} {R : Nat → Nat → Option Nat} {K D : KK} (hR : RF R) (hI : KI K) (hB0 : D 479 7 = K 13 0) (s : Int) : ∃ D', XC 1 281 [.inr (some 479), .inl s] (xS n, R, D) (some (.inl (((bitF s (K 13 0).toNat 0).length : Nat) : Int))) (xS n, R, D') ∧ LnR (bitF s (K 13 0).toNat 0) D' ∧ ∀ x k, x ≠ 513 → D' x k = D x k := by
  have hbB := ki_B hI
  refine XE_of (Nat.le_of_ble_eq_true rfl) (Nat.le_of_ble_eq_true rfl) (loc := [_, _, _, _]) rfl ?_
  refine xx_iconst (q := 1) rfl rfl (by decide) ?_
  refine xx_istore_n (q := 2) (loc2 := [_, _, _, _]) rfl rfl (Nat.le_of_ble_eq_true rfl) rfl ?_
  refine xx_iconst (q := 3) rfl rfl (by decide) ?_
  refine xx_istore_n (q := 4) (loc2 := [_, _, _, _]) rfl rfl (Nat.le_of_ble_eq_true rfl) rfl ?_
  exact r_tk_L hR hI hB0 s (K 13 0).toNat [] D 0 (fun j hj => absurd hj (Nat.not_lt_zero _)) (fun _ _ _ => rfl) (by omega) (by omega) (by show (0 : Int) ≤ 0; omega)
set_option maxHeartbeats 1000000 in
theorem r_changes {n : Nat} {R : Nat → Nat → Option Nat} {D : KK} (hR : RF R) (l : List Int) (hL : LnR l D) (hl6 : l.length ≤ 6) (i j : Int) (hi0 : 0 ≤ i) (hi1 : i < (l.length : Int)) (hj0 : 0 ≤ j) (hj1 : j < (l.length : Int)) : ∃ D', XC 1 282 [.inr (some 479), .inl i, .inl j] (xS n, R, D) none (xS n, R, D') ∧ LnR (swp l i.toNat j.toNat) D' ∧ ∀ x k, x ≠ 513 → D' x k = D x k := by
  refine XE_of (Nat.le_of_ble_eq_true rfl) (Nat.le_of_ble_eq_true rfl) (loc := [_, _, _, _]) rfl ?_
  refine xx_aload_n (q := 1) rfl rfl rfl ?_
  refine xx_getR (q := 4) rfl rfl rfl xS_479 (Nat.le_of_ble_eq_true rfl) rfl (hR.1 479 60 rfl) ?_
  refine xx_iload_n (q := 5) rfl rfl rfl ?_
  refine xx_iaz (v := l.getD (i).toNat 0) (q := 6) rfl rfl xS_513 (by omega) (by omega) (hL.z (by omega) (by omega)) ?_
  refine xx_istore_n (q := 7) (loc2 := [_, _, _, _]) rfl rfl (Nat.le_of_ble_eq_true rfl) rfl ?_
  refine xx_aload_n (q := 8) rfl rfl rfl ?_
  refine xx_getR (q := 11) rfl rfl rfl xS_479 (Nat.le_of_ble_eq_true rfl) rfl (hR.1 479 60 rfl) ?_
  refine xx_iload_n (q := 12) rfl rfl rfl ?_
  refine xx_aload_n (q := 13) rfl rfl rfl ?_
  refine xx_getR (q := 16) rfl rfl rfl xS_479 (Nat.le_of_ble_eq_true rfl) rfl (hR.1 479 60 rfl) ?_
  refine xx_iload_n (q := 17) rfl rfl rfl ?_
  refine xx_iaz (v := l.getD (j).toNat 0) (q := 18) rfl rfl xS_513 (by omega) (by omega) (hL.z (by omega) (by omega)) ?_
  refine xx_isz (q := 19) rfl rfl xS_513 (by omega) (by omega) rfl ?_
  refine xx_aload_n (q := 20) rfl rfl rfl ?_
  refine xx_getR (q := 23) rfl rfl rfl xS_479 (Nat.le_of_ble_eq_true rfl) rfl (hR.1 479 60 rfl) ?_
  refine xx_iload_n (q := 24) rfl rfl rfl ?_
  refine xx_iload_n (q := 25) rfl rfl rfl ?_
  refine xx_isz (q := 26) rfl rfl xS_513 (by omega) (by omega) rfl ?_
  refine xx_vret rfl rfl ⟨rfl, _, rfl, ?_⟩
  exact ⟨LnR_swp hL (by omega) (by omega), fun x k q => (xui_a q).trans (xui_a q)⟩
set_option maxHeartbeats 1000000 in
theorem r_nx_A {n : Nat} {R : Nat → Nat → Option Nat} {D : KK} {Q : XQ} (hR : RF R) (l : List Int) (hL : LnR l D) (hl6 : l.length ≤ 6) : ∀ (k : Nat) (i : Int), i + 1 = k → i + 1 < (l.length : Int) → XX (XC 1) 283 Q 32 [some (.inr (some 479)), some (.inl (l.length : Int)), some (.inl (nxI l k)), none, none] [] (xS n, R, D) → XX (XC 1) 283 (Q) 4 [some (.inr (some 479)), some (.inl (l.length : Int)), some (.inl i), none, none] [] (xS n, R, D) := by
  intro k
  induction k using Nat.strongRecOn with
  | ind k ih =>
  intro i hk hi kx
  refine xx_iload_n (q := 5) rfl rfl rfl ?_
  refine xx_if_lt (q := 32) (q2 := 8) rfl rfl rfl (fun h5 => ?_) (fun h5 => ?_)
  · obtain rfl : k = 0 := by omega
    rw [show i = nxI l 0 by show i = -1; omega]
    exact kx
  · refine xx_aload_n (q := 9) rfl rfl rfl ?_
    refine xx_getR (q := 12) rfl rfl rfl xS_479 (Nat.le_of_ble_eq_true rfl) rfl (hR.1 479 60 rfl) ?_
    refine xx_iload_n (q := 13) rfl rfl rfl ?_
    refine xx_iaz (v := l.getD (i).toNat 0) (q := 14) rfl rfl xS_513 (by omega) (by omega) (hL.z (by omega) (by omega)) ?_
    refine xx_aload_n (q := 15) rfl rfl rfl ?_
    refine xx_getR (q := 18) rfl rfl rfl xS_479 (Nat.le_of_ble_eq_true rfl) rfl (hR.1 479 60 rfl) ?_
    refine xx_iload_n (q := 19) rfl rfl rfl ?_
    refine xx_iconst (q := 20) rfl rfl (by decide) ?_
    refine xx_iaddR (q := 21) rfl rfl (by omega) (by omega) ?_
    refine xx_iaz (v := l.getD (i + 1).toNat 0) (q := 22) rfl rfl xS_513 (by omega) (by omega) (hL.z (by omega) (by omega)) ?_
    refine xx_icmp_le (q := 32) (q2 := 25) rfl rfl rfl (fun h22 => ?_) (fun h22 => ?_)
    · obtain ⟨k, rfl⟩ : ∃ k2, k = k2 + 1 := ⟨k - 1, by omega⟩
      have ei : i.toNat = k := by omega
      have ei1 : (i + 1).toNat = k + 1 := by omega
      rw [ei, ei1] at h22
      rw [show i = nxI l (k + 1) from (show i = (k : Int) by omega).trans (if_neg (by omega)).symm]
      exact kx
    · refine xx_iload_n (q := 26) rfl rfl rfl ?_
      refine xx_iconst (q := 27) rfl rfl (by decide) ?_
      refine xx_isubR (q := 28) rfl rfl (by omega) (by omega) ?_
      refine xx_istore_n (q := 29) (loc2 := [_, _, _, _, _]) rfl rfl (Nat.le_of_ble_eq_true rfl) rfl ?_
      refine xx_goto (q := 4) rfl rfl ?_
      obtain ⟨k, rfl⟩ : ∃ k2, k = k2 + 1 := ⟨k - 1, by omega⟩
      have ei : i.toNat = k := by omega
      have ei1 : (i + 1).toNat = k + 1 := by omega
      rw [ei, ei1] at h22
      rw [show nxI l (k + 1) = nxI l k from if_pos (by omega)] at kx
      exact ih k (by omega) _ (by omega) (by omega) kx
set_option maxHeartbeats 1000000 in
theorem r_nx_B {n : Nat} {R : Nat → Nat → Option Nat} {D : KK} {Q : XQ} (hR : RF R) (l : List Int) (hL : LnR l D) (hl6 : l.length ≤ 6) (i : Int) (hi0 : 0 ≤ i) (hi1 : i < (l.length : Int)) : ∀ (k : Nat) (j : Int), j + 1 = k → i ≤ j → j < (l.length : Int) → (i ≤ (nxJ l (l.getD i.toNat 0) k : Nat) → ((nxJ l (l.getD i.toNat 0) k : Nat) : Int) < (l.length : Int) → XX (XC 1) 283 Q 64 [some (.inr (some 479)), some (.inl (l.length : Int)), some (.inl i), some (.inl ((nxJ l (l.getD i.toNat 0) k : Nat) : Int)), none] [] (xS n, R, D)) → XX (XC 1) 283 (Q) 42 [some (.inr (some 479)), some (.inl (l.length : Int)), some (.inl i), some (.inl j), none] [] (xS n, R, D) := by
  intro k
  induction k using Nat.strongRecOn with
  | ind k ih =>
  intro j hk hij hj kx
  refine xx_aload_n (q := 43) rfl rfl rfl ?_
  refine xx_getR (q := 46) rfl rfl rfl xS_479 (Nat.le_of_ble_eq_true rfl) rfl (hR.1 479 60 rfl) ?_
  refine xx_iload_n (q := 47) rfl rfl rfl ?_
  refine xx_iaz (v := l.getD (j).toNat 0) (q := 48) rfl rfl xS_513 (by omega) (by omega) (hL.z (by omega) (by omega)) ?_
  refine xx_aload_n (q := 49) rfl rfl rfl ?_
  refine xx_getR (q := 52) rfl rfl rfl xS_479 (Nat.le_of_ble_eq_true rfl) rfl (hR.1 479 60 rfl) ?_
  refine xx_iload_n (q := 53) rfl rfl rfl ?_
  refine xx_iaz (v := l.getD (i).toNat 0) (q := 54) rfl rfl xS_513 (by omega) (by omega) (hL.z (by omega) (by omega)) ?_
  refine xx_icmp_ge (q := 64) (q2 := 57) rfl rfl rfl (fun h54 => ?_) (fun h54 => ?_)
  · obtain ⟨k, rfl⟩ : ∃ k2, k = k2 + 1 := ⟨k - 1, by omega⟩
    have ej : j.toNat = k := by omega
    rw [ej] at h54
    have e : nxJ l (l.getD i.toNat 0) (k + 1) = k := if_neg (by omega)
    rw [e] at kx
    rw [show j = (k : Int) by omega]
    exact kx (by omega) (by omega)
  · refine xx_iload_n (q := 58) rfl rfl rfl ?_
    refine xx_iconst (q := 59) rfl rfl (by decide) ?_
    refine xx_isubR (q := 60) rfl rfl (by omega) (by omega) ?_
    refine xx_istore_n (q := 61) (loc2 := [_, _, _, _, _]) rfl rfl (Nat.le_of_ble_eq_true rfl) rfl ?_
    refine xx_goto (q := 42) rfl rfl ?_
    obtain ⟨k, rfl⟩ : ∃ k2, k = k2 + 1 := ⟨k - 1, by omega⟩
    have ej : j.toNat = k := by omega
    rw [ej] at h54
    have e : nxJ l (l.getD i.toNat 0) (k + 1) = nxJ l (l.getD i.toNat 0) k := if_pos (by omega)
    rw [e] at kx
    have hne : ¬ (k : Int) = i := fun q => by rw [show i.toNat = k by omega] at h54; omega
    exact ih k (by omega) _ (by omega) (by omega) (by omega) kx
set_option maxHeartbeats 1000000 in
theorem r_nx_C {n : Nat} {R : Nat → Nat → Option Nat} {D0 : KK} (hR : RF R) (N : Nat) (hN : N ≤ 6) (i j : Int) (hi0 : 0 ≤ i) (hi1 : i < (N : Int)) : ∀ (k : Nat) (l : List Int) (D : KK) (c : Nat), LnR l D → (∀ x k, x ≠ 513 → D x k = D0 x k) → l.length = N → c + k = N → XX (XC 1) 283 (XP (some (.inl 1)) (xS n) R (fun D' => LnR (nxV N i.toNat k c l) D' ∧ ∀ x k, x ≠ 513 → D' x k = D0 x k)) 73 [some (.inr (some 479)), some (.inl (N : Int)), some (.inl i), some (.inl j), some (.inl (c : Int))] [] (xS n, R, D) := by
  intro k
  induction k using Nat.strongRecOn with
  | ind k ih =>
  intro l D c hL hF hl hk
  have hl6 : l.length ≤ 6 := by omega
  have hlN : (l.length : Int) = N := by omega
  refine xx_iload_n (q := 74) rfl rfl rfl ?_
  refine xx_iconst (q := 75) rfl rfl (by decide) ?_
  refine xx_iaddR (q := 76) rfl rfl (by omega) (by omega) ?_
  refine xx_iload (q := 78) rfl rfl rfl ?_
  refine xx_iaddR (q := 79) rfl rfl (by omega) (by omega) ?_
  refine xx_iload_n (q := 80) rfl rfl rfl ?_
  refine xx_iconst (q := 81) rfl rfl (by decide) ?_
  refine xx_isubR (q := 82) rfl rfl (by omega) (by omega) ?_
  refine xx_iload (q := 84) rfl rfl rfl ?_
  refine xx_isubR (q := 85) rfl rfl (by omega) (by omega) ?_
  refine xx_icmp_ge (q := 110) (q2 := 88) rfl rfl rfl (fun h85 => ?_) (fun h85 => ?_)
  · refine xx_iconst (q := 111) rfl rfl (by decide) ?_
    refine xx_iret rfl (Or.inr rfl) ⟨rfl, _, rfl, ?_, hF⟩
    cases k with
    | zero => exact hL
    | succ k =>
      rw [show nxV N i.toNat (k + 1) c l = l from if_neg (by omega)]
      exact hL
  · refine xx_aload_n (q := 89) rfl rfl rfl ?_
    refine xx_iload_n (q := 90) rfl rfl rfl ?_
    refine xx_iconst (q := 91) rfl rfl (by decide) ?_
    refine xx_iaddR (q := 92) rfl rfl (by omega) (by omega) ?_
    refine xx_iload (q := 94) rfl rfl rfl ?_
    refine xx_iaddR (q := 95) rfl rfl (by omega) (by omega) ?_
    refine xx_iload_n (q := 96) rfl rfl rfl ?_
    refine xx_iconst (q := 97) rfl rfl (by decide) ?_
    refine xx_isubR (q := 98) rfl rfl (by omega) (by omega) ?_
    refine xx_iload (q := 100) rfl rfl rfl ?_
    refine xx_isubR (q := 101) rfl rfl (by omega) (by omega) ?_
    obtain ⟨D1, hx1, hL1, hF1⟩ := r_changes (n := n) hR l hL hl6 ((i + 1) + (c : Int)) (((N : Int) - 1) - (c : Int)) (by omega) (by omega) (by omega) (by omega)
    refine xx_callV (q := 104) (As := [_, _]) (rest := []) rfl rfl rfl (Or.inl rfl) rfl rfl (Nat.le_of_ble_eq_true rfl) xS_479 (XCm hx1 rfl) rfl ?_
    refine xx_incz (q := 107) (loc2 := [_, _, _, _, _]) rfl rfl rfl (by omega) (by omega) rfl rfl ?_
    refine xx_goto (q := 73) rfl rfl ?_
    obtain ⟨k, rfl⟩ : ∃ k2, k = k2 + 1 := ⟨k - 1, by omega⟩
    have e : nxV N i.toNat (k + 1) c l = nxV N i.toNat k (c + 1) (swp l (i.toNat + 1 + c) (N - 1 - c)) := if_pos (by omega)
    rw [e]
    have hLz := hL1
    rw [show ((i + 1) + (c : Int)).toNat = i.toNat + 1 + c by omega, show (((N : Int) - 1) - (c : Int)).toNat = N - 1 - c by omega] at hLz
    rw [show (c : Int) + 1 = ((c + 1 : Nat) : Int) by omega]
    exact ih k (by omega) _ _ (c + 1) hLz (fun x k q => (hF1 x k q).trans (hF x k q)) (by rw [swp_len]; exact hl) (by omega)
theorem nxI_b (l : List Int) : ∀ k : Nat, -1 ≤ nxI l k ∧ nxI l k < k
  | 0 => ⟨by show (-1 : Int) ≤ -1; omega, by show (-1 : Int) < 0; omega⟩
  | k + 1 => by
    have h := nxI_b l k
    unfold nxI
    split
    · omega
    · omega
set_option maxHeartbeats 1000000 in
theorem r_nextLine {n : Nat} {R : Nat → Nat → Option Nat} {D : KK} (hR : RF R) (l : List Int) (hL : LnR l D) (hl1 : 1 ≤ l.length) (hl6 : l.length ≤ 6) : ∃ D', XC 2 283 [.inr (some 479), .inl (l.length : Int)] (xS n, R, D) (some (.inl (if nxI l (l.length - 1) < 0 then 0 else 1))) (xS n, R, D') ∧ LnR (if nxI l (l.length - 1) < 0 then l else nxS l (nxI l (l.length - 1)).toNat) D' ∧ ∀ x k, x ≠ 513 → D' x k = D x k := by
  refine XE_of (Nat.le_of_ble_eq_true rfl) (Nat.le_of_ble_eq_true rfl) (loc := [_, _, _, _, _]) rfl ?_
  have hnb := nxI_b l (l.length - 1)
  refine xx_iload_n (q := 1) rfl rfl rfl ?_
  refine xx_iconst (q := 2) rfl rfl (by decide) ?_
  refine xx_isubR (q := 3) rfl rfl (by omega) (by omega) ?_
  refine xx_istore_n (q := 4) (loc2 := [_, _, _, _, _]) rfl rfl (Nat.le_of_ble_eq_true rfl) rfl ?_
  refine r_nx_A hR l hL hl6 (l.length - 1) _ (by omega) (by omega) ?_
  refine xx_iload_n (q := 33) rfl rfl rfl ?_
  refine xx_if_ge (q := 38) (q2 := 36) rfl rfl rfl (fun h33 => ?_) (fun h33 => ?_)
  · refine xx_iload_n (q := 39) rfl rfl rfl ?_
    refine xx_iconst (q := 40) rfl rfl (by decide) ?_
    refine xx_isubR (q := 41) rfl rfl (by omega) (by omega) ?_
    refine xx_istore_n (q := 42) (loc2 := [_, _, _, _, _]) rfl rfl (Nat.le_of_ble_eq_true rfl) rfl ?_
    have q33 : ¬ nxI l (l.length - 1) < 0 := by omega
    rw [if_neg q33, if_neg q33]
    refine r_nx_B hR l hL hl6 (nxI l (l.length - 1)) (by omega) (by omega) l.length _ (by omega) (by omega) (by omega) (fun hj0 hj1 => ?_)
    refine xx_aload_n (q := 65) rfl rfl rfl ?_
    refine xx_iload_n (q := 66) rfl rfl rfl ?_
    refine xx_iload_n (q := 67) rfl rfl rfl ?_
    obtain ⟨D1, hx1, hL1, hF1⟩ := r_changes (n := n) hR l hL hl6 (nxI l (l.length - 1)) ((nxJ l (l.getD (nxI l (l.length - 1)).toNat 0) l.length : Nat) : Int) (by omega) (by omega) (by omega) (by omega)
    refine xx_callV (q := 70) (As := [_, _]) (rest := []) rfl rfl rfl (Or.inl rfl) rfl rfl (Nat.le_of_ble_eq_true rfl) xS_479 (XCm hx1 rfl) rfl ?_
    refine xx_iconst (q := 71) rfl rfl (by decide) ?_
    refine xx_istore (q := 73) (loc2 := [_, _, _, _, _]) rfl rfl (Nat.le_of_ble_eq_true rfl) rfl ?_
    have hLz := hL1
    rw [show (((nxJ l (l.getD (nxI l (l.length - 1)).toNat 0) l.length : Nat) : Int)).toNat = nxJ l (l.getD (nxI l (l.length - 1)).toNat 0) l.length by omega] at hLz
    exact r_nx_C hR l.length hl6 _ _ (by omega) (by omega) l.length _ _ 0 hLz hF1 swp_len (by omega)
  · refine xx_iconst (q := 37) rfl rfl (by decide) ?_
    have q33 : nxI l (l.length - 1) < 0 := by omega
    rw [if_pos q33, if_pos q33]
    exact xx_iret rfl (Or.inl rfl) ⟨rfl, _, rfl, hL, fun _ _ _ => rfl⟩
