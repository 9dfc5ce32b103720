/-! A law is read and taken: the class. -/
def RdP (lw dr cd : Nat) (al : List Tk) (R : Nat → Nat → Option Nat) (D0 : KK) (c : Int × Sg) (n : Nat) : XQ := fun r m2 => ∃ (z : Int) (R2 : Nat → Nat → Option Nat) (D2 : KK), r = some (.inl z) ∧ m2 = (xS n, R2, D2) ∧ z = (if c.2.1.1 = 0 then c.1 else -1) ∧ TS al c.2.1 D2 ∧ (∀ x k, (x = 474 → k ≠ 1 ∧ k ≠ 2 ∧ k ≠ 8) → (x = lw → k ≠ 0 ∧ k ≠ 2 ∧ k ≠ 4) → x ≠ dr → D2 x k = D0 x k) ∧ (if c.2.1.1 = 0 then (R2 = xur (xur R lw 3 (some dr)) lw 5 (some cd) ∧ D2 lw 0 = c.1 ∧ D2 lw 2 = (c.2.2.length : Int) ∧ ∀ j, j < c.2.2.length → D2 dr j = c.2.2.getD j 0) else (R2 = R ∧ D2 lw 0 = D0 lw 0 ∧ D2 lw 2 = D0 lw 2))
theorem lwL_b {h : Int} : ∀ (k : Nat) (r : Int) (s : Sg), r ≤ (lwL h k r s).1 ∧ (lwL h k r s).1 ≤ r + k
  | 0, r, _ => ⟨Int.le_refl _, by show r ≤ r + 0; omega⟩
  | k + 1, r, s => by
    unfold lwL
    split
    · exact ⟨Int.le_refl _, by omega⟩
    · have := lwL_b (h := h) k (r + 1) (liF h r s); omega
set_option maxHeartbeats 1000000 in
theorem c_rdG_L {n dr : Nat} {R : Nat → Nat → Option Nat} {D0 : KK} {al : List Tk} {Q : XQ} (hR : RF R) (hdr : R 7 5 = some dr) (hdr2 : dr = 8 ∨ dr = 9) (hh : D0 7 1 = 0) : ∀ (k : Nat) (s : Sg) (D : KK) (r : Int), LwS 7 dr al D0 s D → 0 ≤ r → r + k = 17 → (∀ (D2 : KK) (i2 : Int), LwS 7 dr al D0 (lwL 0 k r s).2 D2 → XX (XC 33) 66 Q 40 [some (.inr (some 7)), some (.inr (some 474)), some (.inl (lwL 0 k r s).1), some (.inl i2)] [] (xS n, R, D2)) → XX (XC 33) 66 (Q) 9 [some (.inr (some 7)), some (.inr (some 474)), some (.inl r), some (.inl r)] [] (xS n, R, D) := by
  intro k
  induction k using Nat.strongRecOn with
  | ind k ih =>
  intro s D r hS h0 hk kx
  have hsdr := sh_cc (n := n) hdr2
  refine xx_iload_n (q := 10) rfl rfl rfl ?_
  refine xx_bipush (q := 12) rfl rfl (by decide) ?_
  refine xx_icmp_gt (q := 40) (q2 := 15) rfl rfl rfl (fun h12 => ?_) (fun h12 => ?_)
  · obtain rfl : k = 0 := by omega
    exact kx D r hS
  · refine xx_aload_n (q := 16) rfl rfl rfl ?_
    have hkb1 := kdT_b hS.1
    change 0 ≤ kdS s ∧ kdS s ≤ 400 at hkb1
    refine xx_callV (q := 19) (As := []) (rest := []) rfl rfl rfl (Or.inl rfl) rfl rfl (Nat.le_of_ble_eq_true rfl) xS_474 (XCm (c_kindS (n := n) (s := s) hR hS.1) rfl) rfl ?_
    refine xx_sipush (q := 22) rfl rfl (by decide) ?_
    refine xx_icmp_eq (q := 40) (q2 := 25) rfl rfl rfl (fun h22 => ?_) (fun h22 => ?_)
    · obtain ⟨k, rfl⟩ : ∃ k2, k = k2 + 1 := ⟨k - 1, by omega⟩
      rw [show lwL 0 (k + 1) r s = (r, s) from if_pos h22] at kx
      exact kx D r hS
    · refine xx_aload_n (q := 26) rfl rfl rfl ?_
      refine xx_aload_n (q := 27) rfl rfl rfl ?_
      refine xx_iload_n (q := 28) rfl rfl rfl ?_
      obtain ⟨D2, hx2, hS2⟩ := c_liG (n := n) hR hdr hdr2 hh hS r
      refine xx_callV (q := 31) (As := [_, _]) (rest := []) rfl rfl rfl (Or.inl rfl) rfl rfl (Nat.le_of_ble_eq_true rfl) xS_7 (XCm hx2 rfl) rfl ?_
      refine xx_incz (q := 34) (loc2 := [_, _, _, _]) rfl rfl rfl (by omega) (by omega) rfl rfl ?_
      refine xx_incz (q := 37) (loc2 := [_, _, _, _]) rfl rfl rfl (by omega) (by omega) rfl rfl ?_
      refine xx_goto (q := 9) rfl rfl ?_
      obtain ⟨k, rfl⟩ : ∃ k2, k = k2 + 1 := ⟨k - 1, by omega⟩
      rw [show lwL 0 (k + 1) r s = lwL 0 k (r + 1) (liF 0 r s) from if_neg h22] at kx
      exact ih k (by omega) _ _ _ hS2 (by omega) (by omega) kx
set_option maxHeartbeats 1000000 in
theorem c_rdG_E {n dr cd : Nat} {R : Nat → Nat → Option Nat} {D0 D : KK} {al : List Tk} (hdr : R 7 5 = some dr) (hcd : R 7 3 = some cd) (hdr2 : dr = 8 ∨ dr = 9) (c : Int × Sg) (hS : LwS 7 dr al D0 c.2 D) (i : Int) : XX (XC 33) 66 (RdP 7 dr cd al R D0 c n) 40 [some (.inr (some 7)), some (.inr (some 474)), some (.inl c.1), some (.inl i)] [] (xS n, R, D) := by
  refine xx_aload_n (q := 41) rfl rfl rfl ?_
  refine xx_gez (q := 44) rfl rfl rfl xS_474 (Nat.le_of_ble_eq_true rfl) rfl hS.1.1 ?_
  refine xx_if_eq (q := 49) (q2 := 47) rfl rfl rfl (fun h44 => ?_) (fun h44 => ?_)
  · refine xx_aload_n (q := 50) rfl rfl rfl ?_
    refine xx_getR (q := 53) rfl rfl rfl xS_7 (Nat.le_of_ble_eq_true rfl) rfl (hcd) ?_
    refine xx_astore_n (q := 54) (loc2 := [_, _, _, _]) rfl rfl (Nat.le_of_ble_eq_true rfl) rfl ?_
    refine xx_aload_n (q := 55) rfl rfl rfl ?_
    refine xx_aload_n (q := 56) rfl rfl rfl ?_
    refine xx_getR (q := 59) rfl rfl rfl xS_7 (Nat.le_of_ble_eq_true rfl) rfl (hdr) ?_
    refine xx_putR (q := 62) rfl rfl rfl xS_7 (Nat.le_of_ble_eq_true rfl) (Nat.le_of_ble_eq_true rfl) (fun h => by cases h) rfl ?_
    refine xx_aload_n (q := 63) rfl rfl rfl ?_
    refine xx_aload_n (q := 64) rfl rfl rfl ?_
    refine xx_putR (q := 67) rfl rfl rfl xS_7 (Nat.le_of_ble_eq_true rfl) (Nat.le_of_ble_eq_true rfl) (fun h => by cases h) rfl ?_
    refine xx_aload_n (q := 68) rfl rfl rfl ?_
    refine xx_aload_n (q := 69) rfl rfl rfl ?_
    refine xx_gez (q := 72) rfl rfl rfl xS_7 (Nat.le_of_ble_eq_true rfl) rfl hS.2.1 ?_
    refine xx_puz (q := 75) rfl rfl rfl xS_7 (Nat.le_of_ble_eq_true rfl) (Nat.le_of_ble_eq_true rfl) (fun h => by cases h) (Or.inl rfl) rfl ?_
    refine xx_aload_n (q := 76) rfl rfl rfl ?_
    refine xx_iload_n (q := 77) rfl rfl rfl ?_
    refine xx_puz (q := 80) rfl rfl rfl xS_7 (Nat.le_of_ble_eq_true rfl) (Nat.le_of_ble_eq_true rfl) (fun h => by cases h) (Or.inl rfl) rfl ?_
    refine xx_iload_n (q := 81) rfl rfl rfl ?_
    have hx : ∀ x k, (x = 7 → k ≠ 0 ∧ k ≠ 2) → xui (xui D 7 2 (c.2.2.length : Int)) 7 0 c.1 x k = D x k := fun x k q => (if_neg (fun r => (q r.1).1 r.2)).trans (if_neg (fun r => (q r.1).2 r.2))
    refine xx_iret rfl trivial ⟨_, _, _, rfl, rfl, (if_pos h44).symm, ?_, fun x k q1 q2 q3 => (hx x k (by omega)).trans (hS.2.2.2.2 x k q1 (by omega) q3), ?_⟩
    · obtain ⟨t1, t2, ⟨m, e1, e2⟩, t4, t5, t6⟩ := hS.1
      exact ⟨(hx _ _ (by omega)).trans t1, (hx _ _ (by omega)).trans t2, ⟨m, e1, (hx _ _ (by omega)).trans e2⟩, t4, t5.fr (fun x k q => hx x k (by omega)), t6⟩
    · rw [if_pos h44]
      exact ⟨rfl, xui_s, (xui_j (by omega)).trans xui_s, fun j hj => (hx _ _ (by omega)).trans (hS.2.2.2.1 j hj)⟩
  · refine xx_iconst (q := 48) rfl rfl (by decide) ?_
    exact xx_iret rfl trivial ⟨_, R, _, rfl, rfl, (if_neg h44).symm, hS.1, fun x k q1 q2 q3 => hS.2.2.2.2 x k q1 (by omega) q3, by rw [if_neg h44]; exact ⟨rfl, hS.2.2.2.2 7 0 (by omega) (by omega) (by omega), hS.2.2.2.2 7 2 (by omega) (by omega) (by omega)⟩⟩
theorem c_rdG {n dr cd : Nat} {R : Nat → Nat → Option Nat} {D : KK} {al : List Tk} {t : Tt} (hR : RF R) (hdr : R 7 5 = some dr) (hcd : R 7 3 = some cd) (hdr2 : dr = 8 ∨ dr = 9) (hh : D 7 1 = 0) (hT : TS al t D) : ∃ r m2, XC 34 66 [.inr (some 7), .inr (some 474)] (xS n, R, D) r m2 ∧ RdP 7 dr cd al R D (lwF 0 t) n r m2 := by
  refine XR_of (Nat.le_of_ble_eq_true rfl) (Nat.le_of_ble_eq_true rfl) (loc := [_, _, _, _]) rfl ?_
  refine xx_aload_n (q := 1) rfl rfl rfl ?_
  refine xx_iconst (q := 2) rfl rfl (by decide) ?_
  refine xx_puz (q := 5) rfl rfl rfl xS_7 (Nat.le_of_ble_eq_true rfl) (Nat.le_of_ble_eq_true rfl) (fun h => by cases h) (Or.inl rfl) rfl ?_
  refine xx_iconst (q := 6) rfl rfl (by decide) ?_
  refine xx_istore_n (q := 7) (loc2 := [_, _, _, _]) rfl rfl (Nat.le_of_ble_eq_true rfl) rfl ?_
  refine xx_iconst (q := 8) rfl rfl (by decide) ?_
  refine xx_istore_n (q := 9) (loc2 := [_, _, _, _]) rfl rfl (Nat.le_of_ble_eq_true rfl) rfl ?_
  have hx : ∀ x k, (x = 7 → k ≠ 4) → xui D 7 4 0 x k = D x k := fun x k q => if_neg (fun r => q r.1 r.2)
  have hS : LwS 7 dr al D (t, []) (xui D 7 4 0) := by
    obtain ⟨t1, t2, ⟨m, e1, e2⟩, t4, t5, t6⟩ := hT
    exact ⟨⟨(hx _ _ (by omega)).trans t1, (hx _ _ (by omega)).trans t2, ⟨m, e1, (hx _ _ (by omega)).trans e2⟩, t4, t5.fr (fun x k q => hx x k (by omega)), t6⟩, xui_s, Nat.zero_le _, fun j hj => absurd hj (Nat.not_lt_zero _), fun x k q1 q2 q3 => hx x k q2⟩
  exact c_rdG_L hR hdr hdr2 hh 17 _ _ 0 hS (by omega) (by omega) (fun D2 i2 hS2 => c_rdG_E hdr hcd hdr2 _ hS2 i2)
set_option maxHeartbeats 1000000 in
theorem c_rdH_L {n dr : Nat} {R : Nat → Nat → Option Nat} {D0 : KK} {al : List Tk} {Q : XQ} (hR : RF R) (hdr : R 11 5 = some dr) (hdr2 : dr = 12 ∨ dr = 13) (hh : D0 11 1 = 1) : ∀ (k : Nat) (s : Sg) (D : KK) (r : Int), LwS 11 dr al D0 s D → 0 ≤ r → r + k = 17 → (∀ (D2 : KK) (i2 : Int), LwS 11 dr al D0 (lwL 1 k r s).2 D2 → XX (XC 33) 66 Q 40 [some (.inr (some 11)), some (.inr (some 474)), some (.inl (lwL 1 k r s).1), some (.inl i2)] [] (xS n, R, D2)) → XX (XC 33) 66 (Q) 9 [some (.inr (some 11)), some (.inr (some 474)), some (.inl r), some (.inl r)] [] (xS n, R, D) := by
  intro k
  induction k using Nat.strongRecOn with
  | ind k ih =>
  intro s D r hS h0 hk kx
  have hsdr := sh_ch (n := n) hdr2
  refine xx_iload_n (q := 10) rfl rfl rfl ?_
  refine xx_bipush (q := 12) rfl rfl (by decide) ?_
  refine xx_icmp_gt (q := 40) (q2 := 15) rfl rfl rfl (fun h12 => ?_) (fun h12 => ?_)
  · obtain rfl : k = 0 := by omega
    exact kx D r hS
  · refine xx_aload_n (q := 16) rfl rfl rfl ?_
    have hkb1 := kdT_b hS.1
    change 0 ≤ kdS s ∧ kdS s ≤ 400 at hkb1
    refine xx_callV (q := 19) (As := []) (rest := []) rfl rfl rfl (Or.inl rfl) rfl rfl (Nat.le_of_ble_eq_true rfl) xS_474 (XCm (c_kindS (n := n) (s := s) hR hS.1) rfl) rfl ?_
    refine xx_sipush (q := 22) rfl rfl (by decide) ?_
    refine xx_icmp_eq (q := 40) (q2 := 25) rfl rfl rfl (fun h22 => ?_) (fun h22 => ?_)
    · obtain ⟨k, rfl⟩ : ∃ k2, k = k2 + 1 := ⟨k - 1, by omega⟩
      rw [show lwL 1 (k + 1) r s = (r, s) from if_pos h22] at kx
      exact kx D r hS
    · refine xx_aload_n (q := 26) rfl rfl rfl ?_
      refine xx_aload_n (q := 27) rfl rfl rfl ?_
      refine xx_iload_n (q := 28) rfl rfl rfl ?_
      obtain ⟨D2, hx2, hS2⟩ := c_liH (n := n) hR hdr hdr2 hh hS r
      refine xx_callV (q := 31) (As := [_, _]) (rest := []) rfl rfl rfl (Or.inl rfl) rfl rfl (Nat.le_of_ble_eq_true rfl) xS_11 (XCm hx2 rfl) rfl ?_
      refine xx_incz (q := 34) (loc2 := [_, _, _, _]) rfl rfl rfl (by omega) (by omega) rfl rfl ?_
      refine xx_incz (q := 37) (loc2 := [_, _, _, _]) rfl rfl rfl (by omega) (by omega) rfl rfl ?_
      refine xx_goto (q := 9) rfl rfl ?_
      obtain ⟨k, rfl⟩ : ∃ k2, k = k2 + 1 := ⟨k - 1, by omega⟩
      rw [show lwL 1 (k + 1) r s = lwL 1 k (r + 1) (liF 1 r s) from if_neg h22] at kx
      exact ih k (by omega) _ _ _ hS2 (by omega) (by omega) kx
set_option maxHeartbeats 1000000 in
theorem c_rdH_E {n dr cd : Nat} {R : Nat → Nat → Option Nat} {D0 D : KK} {al : List Tk} (hdr : R 11 5 = some dr) (hcd : R 11 3 = some cd) (hdr2 : dr = 12 ∨ dr = 13) (c : Int × Sg) (hS : LwS 11 dr al D0 c.2 D) (i : Int) : XX (XC 33) 66 (RdP 11 dr cd al R D0 c n) 40 [some (.inr (some 11)), some (.inr (some 474)), some (.inl c.1), some (.inl i)] [] (xS n, R, D) := by
  refine xx_aload_n (q := 41) rfl rfl rfl ?_
  refine xx_gez (q := 44) rfl rfl rfl xS_474 (Nat.le_of_ble_eq_true rfl) rfl hS.1.1 ?_
  refine xx_if_eq (q := 49) (q2 := 47) rfl rfl rfl (fun h44 => ?_) (fun h44 => ?_)
  · refine xx_aload_n (q := 50) rfl rfl rfl ?_
    refine xx_getR (q := 53) rfl rfl rfl xS_11 (Nat.le_of_ble_eq_true rfl) rfl (hcd) ?_
    refine xx_astore_n (q := 54) (loc2 := [_, _, _, _]) rfl rfl (Nat.le_of_ble_eq_true rfl) rfl ?_
    refine xx_aload_n (q := 55) rfl rfl rfl ?_
    refine xx_aload_n (q := 56) rfl rfl rfl ?_
    refine xx_getR (q := 59) rfl rfl rfl xS_11 (Nat.le_of_ble_eq_true rfl) rfl (hdr) ?_
    refine xx_putR (q := 62) rfl rfl rfl xS_11 (Nat.le_of_ble_eq_true rfl) (Nat.le_of_ble_eq_true rfl) (fun h => by cases h) rfl ?_
    refine xx_aload_n (q := 63) rfl rfl rfl ?_
    refine xx_aload_n (q := 64) rfl rfl rfl ?_
    refine xx_putR (q := 67) rfl rfl rfl xS_11 (Nat.le_of_ble_eq_true rfl) (Nat.le_of_ble_eq_true rfl) (fun h => by cases h) rfl ?_
    refine xx_aload_n (q := 68) rfl rfl rfl ?_
    refine xx_aload_n (q := 69) rfl rfl rfl ?_
    refine xx_gez (q := 72) rfl rfl rfl xS_11 (Nat.le_of_ble_eq_true rfl) rfl hS.2.1 ?_
    refine xx_puz (q := 75) rfl rfl rfl xS_11 (Nat.le_of_ble_eq_true rfl) (Nat.le_of_ble_eq_true rfl) (fun h => by cases h) (Or.inl rfl) rfl ?_
    refine xx_aload_n (q := 76) rfl rfl rfl ?_
    refine xx_iload_n (q := 77) rfl rfl rfl ?_
    refine xx_puz (q := 80) rfl rfl rfl xS_11 (Nat.le_of_ble_eq_true rfl) (Nat.le_of_ble_eq_true rfl) (fun h => by cases h) (Or.inl rfl) rfl ?_
    refine xx_iload_n (q := 81) rfl rfl rfl ?_
    have hx : ∀ x k, (x = 11 → k ≠ 0 ∧ k ≠ 2) → xui (xui D 11 2 (c.2.2.length : Int)) 11 0 c.1 x k = D x k := fun x k q => (if_neg (fun r => (q r.1).1 r.2)).trans (if_neg (fun r => (q r.1).2 r.2))
    refine xx_iret rfl trivial ⟨_, _, _, rfl, rfl, (if_pos h44).symm, ?_, fun x k q1 q2 q3 => (hx x k (by omega)).trans (hS.2.2.2.2 x k q1 (by omega) q3), ?_⟩
    · obtain ⟨t1, t2, ⟨m, e1, e2⟩, t4, t5, t6⟩ := hS.1
      exact ⟨(hx _ _ (by omega)).trans t1, (hx _ _ (by omega)).trans t2, ⟨m, e1, (hx _ _ (by omega)).trans e2⟩, t4, t5.fr (fun x k q => hx x k (by omega)), t6⟩
    · rw [if_pos h44]
      exact ⟨rfl, xui_s, (xui_j (by omega)).trans xui_s, fun j hj => (hx _ _ (by omega)).trans (hS.2.2.2.1 j hj)⟩
  · refine xx_iconst (q := 48) rfl rfl (by decide) ?_
    exact xx_iret rfl trivial ⟨_, R, _, rfl, rfl, (if_neg h44).symm, hS.1, fun x k q1 q2 q3 => hS.2.2.2.2 x k q1 (by omega) q3, by rw [if_neg h44]; exact ⟨rfl, hS.2.2.2.2 11 0 (by omega) (by omega) (by omega), hS.2.2.2.2 11 2 (by omega) (by omega) (by omega)⟩⟩
theorem c_rdH {n dr cd : Nat} {R : Nat → Nat → Option Nat} {D : KK} {al : List Tk} {t : Tt} (hR : RF R) (hdr : R 11 5 = some dr) (hcd : R 11 3 = some cd) (hdr2 : dr = 12 ∨ dr = 13) (hh : D 11 1 = 1) (hT : TS al t D) : ∃ r m2, XC 34 66 [.inr (some 11), .inr (some 474)] (xS n, R, D) r m2 ∧ RdP 11 dr cd al R D (lwF 1 t) n r m2 := by
  refine XR_of (Nat.le_of_ble_eq_true rfl) (Nat.le_of_ble_eq_true rfl) (loc := [_, _, _, _]) rfl ?_
  refine xx_aload_n (q := 1) rfl rfl rfl ?_
  refine xx_iconst (q := 2) rfl rfl (by decide) ?_
  refine xx_puz (q := 5) rfl rfl rfl xS_11 (Nat.le_of_ble_eq_true rfl) (Nat.le_of_ble_eq_true rfl) (fun h => by cases h) (Or.inl rfl) rfl ?_
  refine xx_iconst (q := 6) rfl rfl (by decide) ?_
  refine xx_istore_n (q := 7) (loc2 := [_, _, _, _]) rfl rfl (Nat.le_of_ble_eq_true rfl) rfl ?_
  refine xx_iconst (q := 8) rfl rfl (by decide) ?_
  refine xx_istore_n (q := 9) (loc2 := [_, _, _, _]) rfl rfl (Nat.le_of_ble_eq_true rfl) rfl ?_
  have hx : ∀ x k, (x = 11 → k ≠ 4) → xui D 11 4 0 x k = D x k := fun x k q => if_neg (fun r => q r.1 r.2)
  have hS : LwS 11 dr al D (t, []) (xui D 11 4 0) := by
    obtain ⟨t1, t2, ⟨m, e1, e2⟩, t4, t5, t6⟩ := hT
    exact ⟨⟨(hx _ _ (by omega)).trans t1, (hx _ _ (by omega)).trans t2, ⟨m, e1, (hx _ _ (by omega)).trans e2⟩, t4, t5.fr (fun x k q => hx x k (by omega)), t6⟩, xui_s, Nat.zero_le _, fun j hj => absurd hj (Nat.not_lt_zero _), fun x k q1 q2 q3 => hx x k q2⟩
  exact c_rdH_L hR hdr hdr2 hh 17 _ _ 0 hS (by omega) (by omega) (fun D2 i2 hS2 => c_rdH_E hdr hcd hdr2 _ hS2 i2)
