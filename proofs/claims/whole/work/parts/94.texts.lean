/-! The two texts of the class. -/
def WDS : List Int := [108, 101, 116, 32, 104, 111, 108, 100, 32, 108, 105, 107, 101, 32, 119, 104, 101, 110, 32, 111, 114, 32, 97, 110, 100, 32, 110, 111, 116, 32, 108, 105, 107, 105, 110, 103, 32, 109, 111, 111, 100, 32, 114, 105, 118, 97, 108, 32, 108, 111, 99, 107, 32, 104, 111, 117, 114, 32, 100, 114, 97, 117, 103, 104, 116, 32, 97, 98, 111, 118, 101, 32, 98, 101, 108, 111, 119, 32, 117, 112, 32, 112, 97, 115, 115, 101, 115, 32, 116, 119, 111, 32, 103, 111, 111, 100, 32, 97, 109, 111, 117, 110, 116, 32, 116, 97, 115, 116, 101, 32, 112, 114, 101, 115, 101, 110, 116, 115, 32, 112, 97, 115, 115, 32, 103, 105, 118, 101, 32, 112, 117, 108, 108, 32, 119, 97, 105, 116, 32, 100, 111, 119, 110, 32, 119, 105, 116, 104, 32, 111, 102, 32, 116, 111, 32, 98, 121, 32]
def SGS : List Int := [59, 43, 45, 42, 47, 40, 41, 60, 61, 62]
def StrD (D : KK) : Prop := (∀ j, j < 158 → D 3 j = WDS.getD j 0) ∧ (∀ j, j < 10 → D 4 j = SGS.getD j 0) ∧ D 1 1 = 0 ∧ D 2 1 = 0
theorem StrD.fr {D E : KK} (h : StrD D) (g : ∀ x k, 1 ≤ x → x ≤ 4 → E x k = D x k) : StrD E := ⟨fun j hj => (g 3 j (by omega) (by omega)).trans (h.1 j hj), fun j hj => (g 4 j (by omega) (by omega)).trans (h.2.1 j hj), (g 1 1 (by omega) (by omega)).trans h.2.2.1, (g 2 1 (by omega) (by omega)).trans h.2.2.2⟩
theorem WDS_b : ∀ j, j < 158 → 0 ≤ WDS.getD j 0 ∧ WDS.getD j 0 ≤ 127 ∧ xi2c (xand (WDS.getD j 0) 255) = WDS.getD j 0 := by decide +kernel
theorem SGS_b : ∀ j, j < 10 → 0 ≤ SGS.getD j 0 ∧ SGS.getD j 0 ≤ 127 := by decide +kernel
theorem i2_b : ∀ c : Nat, c < 256 → xi2c (c : Int) = (c : Int) ∧ (c < 128 → xi2b (c : Int) = (c : Int)) ∧ (128 ≤ c → xi2b (c : Int) < 0) := by decide +kernel
abbrev sgP (c : Int) : Prop := c = 59 ∨ c = 43 ∨ c = 45 ∨ c = 42 ∨ c = 47 ∨ c = 40 ∨ c = 41 ∨ c = 60 ∨ c = 61 ∨ c = 62
set_option maxHeartbeats 1000000 in
theorem j_coder1 {n : Nat} {R : Nat → Nat → Option Nat} {D : KK} (hR : RF R) (hs : StrD D) : XC 1 307 [.inr (some 1)] (xS n, R, D) (some (.inl 0)) (xS n, R, D) := by
  refine XC_of (Nat.le_of_ble_eq_true rfl) (Nat.le_of_ble_eq_true rfl) (loc := [_]) rfl ?_
  refine xx_gets (q := 3) rfl rfl rfl ?_
  refine xx_if_eq (q := 13) (q2 := 6) rfl rfl rfl (fun h3 => (by exfalso; omega)) (fun _ => ?_)
  refine xx_aload_n (q := 7) rfl rfl rfl ?_
  refine xx_gez (q := 10) rfl rfl rfl xS_1 (Nat.le_of_ble_eq_true rfl) rfl rfl ?_
  refine xx_goto (q := 14) rfl rfl ?_
  rw [hs.2.2.1]
  exact xx_iret rfl ⟨by omega, by omega⟩ ⟨congrArg (fun z => some (Sum.inl z)) (by rfl), rfl⟩
set_option maxHeartbeats 1000000 in
theorem j_lat1 {n : Nat} {R : Nat → Nat → Option Nat} {D : KK} (hR : RF R) (hs : StrD D) : XC 1 308 [.inr (some 1)] (xS n, R, D) (some (.inl 1)) (xS n, R, D) := by
  refine XC_of (Nat.le_of_ble_eq_true rfl) (Nat.le_of_ble_eq_true rfl) (loc := [_]) rfl ?_
  refine xx_gets (q := 3) rfl rfl rfl ?_
  refine xx_if_eq (q := 17) (q2 := 6) rfl rfl rfl (fun h3 => (by exfalso; omega)) (fun _ => ?_)
  refine xx_aload_n (q := 7) rfl rfl rfl ?_
  refine xx_gez (q := 10) rfl rfl rfl xS_1 (Nat.le_of_ble_eq_true rfl) rfl rfl ?_
  refine xx_if_ne (q := 17) (q2 := 13) rfl rfl rfl (fun h10 => (by exfalso; (exact h10 hs.2.2.1))) (fun _ => ?_)
  refine xx_iconst (q := 14) rfl rfl (by decide) ?_
  refine xx_goto (q := 18) rfl rfl ?_
  exact xx_iret rfl (Or.inr rfl) ⟨congrArg (fun z => some (Sum.inl z)) (by rfl), rfl⟩
set_option maxHeartbeats 1000000 in
theorem j_coder2 {n : Nat} {R : Nat → Nat → Option Nat} {D : KK} (hR : RF R) (hs : StrD D) : XC 1 307 [.inr (some 2)] (xS n, R, D) (some (.inl 0)) (xS n, R, D) := by
  refine XC_of (Nat.le_of_ble_eq_true rfl) (Nat.le_of_ble_eq_true rfl) (loc := [_]) rfl ?_
  refine xx_gets (q := 3) rfl rfl rfl ?_
  refine xx_if_eq (q := 13) (q2 := 6) rfl rfl rfl (fun h3 => (by exfalso; omega)) (fun _ => ?_)
  refine xx_aload_n (q := 7) rfl rfl rfl ?_
  refine xx_gez (q := 10) rfl rfl rfl xS_2 (Nat.le_of_ble_eq_true rfl) rfl rfl ?_
  refine xx_goto (q := 14) rfl rfl ?_
  rw [hs.2.2.2]
  exact xx_iret rfl ⟨by omega, by omega⟩ ⟨congrArg (fun z => some (Sum.inl z)) (by rfl), rfl⟩
set_option maxHeartbeats 1000000 in
theorem j_lat2 {n : Nat} {R : Nat → Nat → Option Nat} {D : KK} (hR : RF R) (hs : StrD D) : XC 1 308 [.inr (some 2)] (xS n, R, D) (some (.inl 1)) (xS n, R, D) := by
  refine XC_of (Nat.le_of_ble_eq_true rfl) (Nat.le_of_ble_eq_true rfl) (loc := [_]) rfl ?_
  refine xx_gets (q := 3) rfl rfl rfl ?_
  refine xx_if_eq (q := 17) (q2 := 6) rfl rfl rfl (fun h3 => (by exfalso; omega)) (fun _ => ?_)
  refine xx_aload_n (q := 7) rfl rfl rfl ?_
  refine xx_gez (q := 10) rfl rfl rfl xS_2 (Nat.le_of_ble_eq_true rfl) rfl rfl ?_
  refine xx_if_ne (q := 17) (q2 := 13) rfl rfl rfl (fun h10 => (by exfalso; (exact h10 hs.2.2.2))) (fun _ => ?_)
  refine xx_iconst (q := 14) rfl rfl (by decide) ?_
  refine xx_goto (q := 18) rfl rfl ?_
  exact xx_iret rfl (Or.inr rfl) ⟨congrArg (fun z => some (Sum.inl z)) (by rfl), rfl⟩
set_option maxHeartbeats 1000000 in
theorem j_len1 {n : Nat} {R : Nat → Nat → Option Nat} {D : KK} (hR : RF R) (hs : StrD D) : XC 2 303 [.inr (some 1)] (xS n, R, D) (some (.inl 158)) (xS n, R, D) := by
  refine XC_of (Nat.le_of_ble_eq_true rfl) (Nat.le_of_ble_eq_true rfl) (loc := [_]) rfl ?_
  refine xx_aload_n (q := 1) rfl rfl rfl ?_
  refine xx_getR (q := 4) rfl rfl rfl xS_1 (Nat.le_of_ble_eq_true rfl) rfl (hR.1 1 0 rfl) ?_
  refine xx_alen (q := 5) rfl rfl xS_3 (by decide) (Nat.le_of_ble_eq_true rfl) ?_
  refine xx_aload_n (q := 6) rfl rfl rfl ?_
  refine xx_callV (q := 9) (As := []) (rest := [_]) rfl rfl rfl (Or.inl rfl) rfl rfl (Nat.le_of_ble_eq_true rfl) xS_1 (XCm (j_coder1 (n := n) hR hs) rfl) rfl ?_
  refine xx_ishr (q := 10) rfl rfl ?_
  exact xx_iret rfl trivial ⟨congrArg (fun z => some (Sum.inl z)) (by decide +kernel), rfl⟩
set_option maxHeartbeats 1000000 in
theorem j_len2 {n : Nat} {R : Nat → Nat → Option Nat} {D : KK} (hR : RF R) (hs : StrD D) : XC 2 303 [.inr (some 2)] (xS n, R, D) (some (.inl 10)) (xS n, R, D) := by
  refine XC_of (Nat.le_of_ble_eq_true rfl) (Nat.le_of_ble_eq_true rfl) (loc := [_]) rfl ?_
  refine xx_aload_n (q := 1) rfl rfl rfl ?_
  refine xx_getR (q := 4) rfl rfl rfl xS_2 (Nat.le_of_ble_eq_true rfl) rfl (hR.1 2 0 rfl) ?_
  refine xx_alen (q := 5) rfl rfl xS_4 (by decide) (Nat.le_of_ble_eq_true rfl) ?_
  refine xx_aload_n (q := 6) rfl rfl rfl ?_
  refine xx_callV (q := 9) (As := []) (rest := [_]) rfl rfl rfl (Or.inl rfl) rfl rfl (Nat.le_of_ble_eq_true rfl) xS_2 (XCm (j_coder2 (n := n) hR hs) rfl) rfl ?_
  refine xx_ishr (q := 10) rfl rfl ?_
  exact xx_iret rfl trivial ⟨congrArg (fun z => some (Sum.inl z)) (by decide +kernel), rfl⟩
theorem j_char1 {n : Nat} {R : Nat → Nat → Option Nat} {D : KK} (hR : RF R) (hs : StrD D) (i : Int) (h0 : 0 ≤ i) (h1 : i < 158) : XC 1 310 [.inr (some 3), .inl i] (xS n, R, D) (some (.inl (WDS.getD i.toNat 0))) (xS n, R, D) := by
  refine XC_of (Nat.le_of_ble_eq_true rfl) (Nat.le_of_ble_eq_true rfl) (loc := [_, _]) rfl ?_
  refine xx_iload_n (q := 1) rfl rfl rfl ?_
  refine xx_aload_n (q := 2) rfl rfl rfl ?_
  refine xx_alen (q := 3) rfl rfl xS_3 (by decide) (Nat.le_of_ble_eq_true rfl) ?_
  refine xx_chki (q := 6) rfl rfl rfl (by omega) (by omega) (Nat.le_of_ble_eq_true rfl) ?_
  refine xx_aload_n (q := 7) rfl rfl rfl ?_
  refine xx_iload_n (q := 8) rfl rfl rfl ?_
  refine xx_baz (q := 9) rfl rfl xS_3 (by omega) (by omega) rfl ?_
  rw [hs.1 i.toNat (by omega)]
  have hwb := WDS_b i.toNat (by omega)
  refine xx_sipush (q := 12) rfl rfl (by decide) ?_
  refine xx_iand (q := 13) rfl rfl ?_
  refine xx_i2c (q := 14) rfl rfl ?_
  rw [hwb.2.2]
  exact xx_iret rfl ⟨by omega, by omega⟩ ⟨rfl, rfl⟩
theorem j_charAt {n : Nat} {R : Nat → Nat → Option Nat} {D : KK} (hR : RF R) (hs : StrD D) (i : Int) (h0 : 0 ≤ i) (h1 : i < 158) : XC 2 304 [.inr (some 1), .inl i] (xS n, R, D) (some (.inl (WDS.getD i.toNat 0))) (xS n, R, D) := by
  refine XC_of (Nat.le_of_ble_eq_true rfl) (Nat.le_of_ble_eq_true rfl) (loc := [_, _]) rfl ?_
  refine xx_aload_n (q := 1) rfl rfl rfl ?_
  refine xx_callV (q := 4) (As := []) (rest := []) rfl rfl rfl (Or.inl rfl) rfl rfl (Nat.le_of_ble_eq_true rfl) xS_1 (XCm (j_lat1 (n := n) hR hs) rfl) rfl ?_
  refine xx_if_eq (q := 16) (q2 := 7) rfl rfl rfl (fun h4 => (by exfalso; omega)) (fun _ => ?_)
  refine xx_aload_n (q := 8) rfl rfl rfl ?_
  refine xx_getR (q := 11) rfl rfl rfl xS_1 (Nat.le_of_ble_eq_true rfl) rfl (hR.1 1 0 rfl) ?_
  refine xx_iload_n (q := 12) rfl rfl rfl ?_
  refine xx_callS (q := 15) (As := [_, _]) (rest := []) rfl rfl rfl (Or.inl rfl) rfl rfl (Nat.le_of_ble_eq_true rfl) (XCm (j_char1 (n := n) hR hs i h0 h1) rfl) rfl ?_
  have hwb := WDS_b i.toNat (by omega)
  exact xx_iret rfl ⟨by omega, by omega⟩ ⟨rfl, rfl⟩
def ixL (c : Int) : Nat → Int → Int
  | 0, _ => -1
  | k + 1, j => if SGS.getD j.toNat 0 = c then j else ixL c k (j + 1)
theorem ixL_s : ∀ c : Nat, c < 256 → (0 ≤ ixL (xi2b (c : Int)) 10 0 ↔ sgP (c : Int)) := by decide +kernel
set_option maxHeartbeats 1000000 in
theorem j_ix_L {n : Nat} {R : Nat → Nat → Option Nat} {D : KK} (hR : RF R) (hs : StrD D) (c a : Int) : ∀ (k : Nat) (j : Int), 0 ≤ j → j + k = 10 → XX (XC 0) 313 (fun r2 m2 => r2 = some (.inl (ixL c k j)) ∧ m2 = (xS n, R, D)) 7 [some (.inr (some 4)), some (.inl a), some (.inl 0), some (.inl 10), some (.inl c), some (.inl j)] [] (xS n, R, D) := by
  intro k
  induction k using Nat.strongRecOn with
  | ind k ih =>
  intro j h0 hk
  refine xx_iload (q := 9) rfl rfl rfl ?_
  refine xx_iload_n (q := 10) rfl rfl rfl ?_
  refine xx_icmp_ge (q := 31) (q2 := 13) rfl rfl rfl (fun h10 => ?_) (fun h10 => ?_)
  · refine xx_iconst (q := 32) rfl rfl (by decide) ?_
    obtain rfl : k = 0 := by omega
    exact xx_iret rfl trivial ⟨rfl, rfl⟩
  · obtain ⟨k, rfl⟩ : ∃ k2, k = k2 + 1 := ⟨k - 1, by omega⟩
    refine xx_aload_n (q := 14) rfl rfl rfl ?_
    refine xx_iload (q := 16) rfl rfl rfl ?_
    refine xx_baz (q := 17) rfl rfl xS_4 (by omega) (by omega) rfl ?_
    rw [hs.2.1 j.toNat (by omega)]
    refine xx_iload (q := 19) rfl rfl rfl ?_
    refine xx_icmp_ne (q := 25) (q2 := 22) rfl rfl rfl (fun h19 => ?_) (fun h19 => ?_)
    · refine xx_incz (q := 28) (loc2 := [_, _, _, _, _, _]) rfl rfl rfl (by omega) (by omega) rfl rfl ?_
      refine xx_goto (q := 7) rfl rfl ?_
      rw [show ixL c (k + 1) j = ixL c k (j + 1) from if_neg h19]
      exact ih k (by omega) _ (by omega) (by omega)
    · refine xx_iload (q := 24) rfl rfl rfl ?_
      exact xx_iret rfl trivial ⟨congrArg (fun z => some (Sum.inl z)) (if_pos h19).symm, rfl⟩
set_option maxHeartbeats 1000000 in
theorem j_ixc {n : Nat} {R : Nat → Nat → Option Nat} {D : KK} (hR : RF R) (hs : StrD D) (a : Int) : XC 1 313 [.inr (some 4), .inl a, .inl 0, .inl 10] (xS n, R, D) (some (.inl (ixL (xi2b a) 10 0))) (xS n, R, D) := by
  refine XC_of (Nat.le_of_ble_eq_true rfl) (Nat.le_of_ble_eq_true rfl) (loc := [_, _, _, _, _, _]) rfl ?_
  refine xx_iload_n (q := 1) rfl rfl rfl ?_
  refine xx_i2b (q := 2) rfl rfl ?_
  refine xx_istore (q := 4) (loc2 := [_, _, _, _, _, _]) rfl rfl (Nat.le_of_ble_eq_true rfl) rfl ?_
  refine xx_iload_n (q := 5) rfl rfl rfl ?_
  refine xx_istore (q := 7) (loc2 := [_, _, _, _, _, _]) rfl rfl (Nat.le_of_ble_eq_true rfl) rfl ?_
  exact j_ix_L hR hs _ a 10 0 (by omega) (by omega)
set_option maxHeartbeats 1000000 in
theorem j_can {n : Nat} {R : Nat → Nat → Option Nat} {D : KK} (a : Int) (h0 : 0 ≤ a) (h1 : a ≤ 255) : XC 1 311 [.inl a] (xS n, R, D) (some (.inl 1)) (xS n, R, D) := by
  refine XC_of (Nat.le_of_ble_eq_true rfl) (Nat.le_of_ble_eq_true rfl) (loc := [_]) rfl ?_
  refine xx_iload_n (q := 1) rfl rfl rfl ?_
  refine xx_if_lt (q := 15) (q2 := 4) rfl rfl rfl (fun h1 => (by exfalso; omega)) (fun _ => ?_)
  refine xx_iload_n (q := 5) rfl rfl rfl ?_
  refine xx_sipush (q := 8) rfl rfl (by decide) ?_
  refine xx_icmp_gt (q := 15) (q2 := 11) rfl rfl rfl (fun h8 => (by exfalso; omega)) (fun _ => ?_)
  refine xx_iconst (q := 12) rfl rfl (by decide) ?_
  refine xx_goto (q := 16) rfl rfl ?_
  exact xx_iret rfl (Or.inr rfl) ⟨congrArg (fun z => some (Sum.inl z)) (by rfl), rfl⟩
theorem j_ixo {n : Nat} {R : Nat → Nat → Option Nat} {D : KK} (hR : RF R) (hs : StrD D) (a : Int) (h0 : 0 ≤ a) (h1 : a ≤ 255) : XC 2 312 [.inr (some 4), .inl a, .inl 0, .inl 10] (xS n, R, D) (some (.inl (ixL (xi2b a) 10 0))) (xS n, R, D) := by
  refine XC_of (Nat.le_of_ble_eq_true rfl) (Nat.le_of_ble_eq_true rfl) (loc := [_, _, _, _]) rfl ?_
  refine xx_iload_n (q := 1) rfl rfl rfl ?_
  refine xx_callS (q := 4) (As := [_]) (rest := []) rfl rfl rfl (Or.inl rfl) rfl rfl (Nat.le_of_ble_eq_true rfl) (XCm (j_can (n := n) (R := R) (D := D) a h0 h1) rfl) rfl ?_
  refine xx_if_ne (q := 9) (q2 := 7) rfl rfl rfl (fun _ => ?_) (fun h4 => (by exfalso; omega))
  refine xx_iload_n (q := 10) rfl rfl rfl ?_
  refine xx_iconst (q := 11) rfl rfl (by decide) ?_
  refine xx_maxF (q := 14) rfl rfl rfl (Nat.le_of_ble_eq_true rfl) ?_
  have hb1 := mxF_sp 0 0
  refine xx_istore_n (q := 15) (loc2 := [_, _, _, _]) rfl rfl (Nat.le_of_ble_eq_true rfl) rfl ?_
  refine xx_iload_n (q := 16) rfl rfl rfl ?_
  refine xx_aload_n (q := 17) rfl rfl rfl ?_
  refine xx_alen (q := 18) rfl rfl xS_4 (by decide) (Nat.le_of_ble_eq_true rfl) ?_
  refine xx_minF (q := 21) rfl rfl rfl (Nat.le_of_ble_eq_true rfl) ?_
  have hb2 := mnF_sp 10 10
  refine xx_istore_n (q := 22) (loc2 := [_, _, _, _]) rfl rfl (Nat.le_of_ble_eq_true rfl) rfl ?_
  rw [show mxF 0 0 = 0 from by decide, show mnF 10 ((10 : Nat) : Int) = 10 from by decide]
  refine xx_iload_n (q := 23) rfl rfl rfl ?_
  refine xx_iload_n (q := 24) rfl rfl rfl ?_
  refine xx_icmp_lt (q := 29) (q2 := 27) rfl rfl rfl (fun _ => ?_) (fun h24 => (by exfalso; omega))
  refine xx_aload_n (q := 30) rfl rfl rfl ?_
  refine xx_iload_n (q := 31) rfl rfl rfl ?_
  refine xx_iload_n (q := 32) rfl rfl rfl ?_
  refine xx_iload_n (q := 33) rfl rfl rfl ?_
  refine xx_callS (q := 36) (As := [_, _, _, _]) (rest := []) rfl rfl rfl (Or.inl rfl) rfl rfl (Nat.le_of_ble_eq_true rfl) (XCm (j_ixc (n := n) hR hs a) rfl) rfl ?_
  exact xx_iret rfl trivial ⟨rfl, rfl⟩
set_option maxHeartbeats 1000000 in
theorem j_ix2 {n : Nat} {R : Nat → Nat → Option Nat} {D : KK} (hR : RF R) (hs : StrD D) (a : Int) (h0 : 0 ≤ a) (h1 : a ≤ 255) : XC 3 306 [.inr (some 2), .inl a, .inl 0] (xS n, R, D) (some (.inl (ixL (xi2b a) 10 0))) (xS n, R, D) := by
  refine XC_of (Nat.le_of_ble_eq_true rfl) (Nat.le_of_ble_eq_true rfl) (loc := [_, _, _]) rfl ?_
  refine xx_aload_n (q := 1) rfl rfl rfl ?_
  refine xx_callV (q := 4) (As := []) (rest := []) rfl rfl rfl (Or.inl rfl) rfl rfl (Nat.le_of_ble_eq_true rfl) xS_2 (XCm (j_lat2 (n := n) hR hs) rfl) rfl ?_
  refine xx_if_eq (q := 23) (q2 := 7) rfl rfl rfl (fun h4 => (by exfalso; omega)) (fun _ => ?_)
  refine xx_aload_n (q := 8) rfl rfl rfl ?_
  refine xx_getR (q := 11) rfl rfl rfl xS_2 (Nat.le_of_ble_eq_true rfl) rfl (hR.1 2 0 rfl) ?_
  refine xx_iload_n (q := 12) rfl rfl rfl ?_
  refine xx_iload_n (q := 13) rfl rfl rfl ?_
  refine xx_aload_n (q := 14) rfl rfl rfl ?_
  refine xx_callV (q := 17) (As := []) (rest := [_, _, _]) rfl rfl rfl (Or.inl rfl) rfl rfl (Nat.le_of_ble_eq_true rfl) xS_2 (XCm (j_len2 (n := n) hR hs) rfl) rfl ?_
  refine xx_callS (q := 20) (As := [_, _, _, _]) (rest := []) rfl rfl rfl (Or.inl rfl) rfl rfl (Nat.le_of_ble_eq_true rfl) (XCm (j_ixo (n := n) hR hs a h0 h1) rfl) rfl ?_
  refine xx_goto (q := 36) rfl rfl ?_
  exact xx_iret rfl trivial ⟨congrArg (fun z => some (Sum.inl z)) (by rfl), rfl⟩
set_option maxHeartbeats 1000000 in
theorem j_ix1 {n : Nat} {R : Nat → Nat → Option Nat} {D : KK} (hR : RF R) (hs : StrD D) (a : Int) (h0 : 0 ≤ a) (h1 : a ≤ 255) : XC 4 305 [.inr (some 2), .inl a] (xS n, R, D) (some (.inl (ixL (xi2b a) 10 0))) (xS n, R, D) := by
  refine XC_of (Nat.le_of_ble_eq_true rfl) (Nat.le_of_ble_eq_true rfl) (loc := [_, _]) rfl ?_
  refine xx_aload_n (q := 1) rfl rfl rfl ?_
  refine xx_iload_n (q := 2) rfl rfl rfl ?_
  refine xx_iconst (q := 3) rfl rfl (by decide) ?_
  refine xx_callV (q := 6) (As := [_, _]) (rest := []) rfl rfl rfl (Or.inl rfl) rfl rfl (Nat.le_of_ble_eq_true rfl) xS_2 (XCm (j_ix2 (n := n) hR hs a h0 h1) rfl) rfl ?_
  exact xx_iret rfl trivial ⟨congrArg (fun z => some (Sum.inl z)) (by rfl), rfl⟩
