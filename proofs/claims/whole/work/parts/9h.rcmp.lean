/-! Sums, comparisons: the reference. -/
theorem nw_ts {s : Sg} {lo hi : Int} : (nwS lo hi s).1.2.2.length ≤ s.1.2.2.length := by
  have h : ∀ t : Tt, t.2.2 = s.1.2.2 → (stT t).2.2.length ≤ s.1.2.2.length := fun t e => by
    have := st_le (s := (t, s.2))
    rw [← e]
    exact this
  unfold nwS nwT
  refine h _ ?_
  split
  · split
    · rfl
    · exact wr_ts (s := s) (k := 2)
  · exact wr_ts (s := s) (k := 1)
theorem prL_ts {h : Int} : ∀ (k : Nat) (s : Sg), (prL h k s).1.2.2.length ≤ s.1.2.2.length
  | 0, s => Nat.le_refl _
  | k + 1, s => by
    unfold prL
    split
    · exact Nat.le_trans (prL_ts k _) (Nat.le_trans (un_ts (h := h) (s := stS s)) st_le)
    · split
      · exact Nat.le_trans (prL_ts k _) (Nat.le_trans (nw_ts (s := stS s)) st_le)
      · exact Nat.le_refl _
theorem pr_ts {h : Int} {s : Sg} : (prF h s).1.2.2.length ≤ s.1.2.2.length := Nat.le_trans (prL_ts 400 _) un_ts
theorem smL_ts {h : Int} : ∀ (k : Nat) (s : Sg), (smL h k s).1.2.2.length ≤ s.1.2.2.length
  | 0, s => Nat.le_refl _
  | k + 1, s => by
    unfold smL
    split
    · exact Nat.le_trans (smL_ts k _) (Nat.le_trans (pr_ts (h := h) (s := stS s)) st_le)
    · exact Nat.le_refl _
theorem sm_ts {h : Int} {s : Sg} : (smS h s).1.2.2.length ≤ s.1.2.2.length := Nat.le_trans (smL_ts 400 _) pr_ts
set_option maxHeartbeats 4000000 in
theorem r_smG_L {n : Nat} {R : Nat → Nat → Option Nat} {D0 : KK} {bs : List Int} {o : Int} {P : Option (List Int)} (hR : RF R) (hT : TpR bs D0) (hl4 : bs.length ≤ 400) (hby : ∀ j, 0 ≤ bs.getD j 0 ∧ bs.getD j 0 ≤ 255) (hW : WdR D0) (hwh : D0 479 37 = 0) (N : Nat) (hN : N ≤ 401) : ∀ (k : Nat) (s : Sg) (D : KK) (x : Option XV), RgO bs D0 s o P D → szS s ≤ N → s.1.2.2.length ≤ k + 1 → XX (XC 5) 207 (RgX bs D0 N (smL 0 k s) o P n R) 10 [some (.inr (some 479)), x] [] (xS n, R, D) := by
  intro k
  induction k using Nat.strongRecOn with
  | ind k ih =>
  intro s D x hS hz hlk
  refine xx_aload_n (q := 11) rfl rfl rfl ?_
  refine xx_bipush (q := 13) rfl rfl (by decide) ?_
  refine xx_callV (q := 16) (As := [_]) (rest := []) rfl rfl rfl (Or.inl rfl) rfl rfl (Nat.le_of_ble_eq_true rfl) xS_479 (XCm (r_isSign (n := n) hR hS 43 (by omega)) rfl) rfl ?_
  refine xx_ifb_ne (q := 28) (q2 := 19) rfl rfl rfl (fun h16 => ?_) (fun h16 => ?_)
  · obtain ⟨hK, hw, hkd, hl1⟩ := hS.hd
    have hvs : D 479 28 = kdS s := by rw [hkd]; exact (hK.2.2.2.2.1 (by omega)).2
    refine xx_aload_n (q := 29) rfl rfl rfl ?_
    refine xx_gez (q := 32) rfl rfl rfl xS_479 (Nat.le_of_ble_eq_true rfl) rfl rfl ?_
    refine xx_bipush (q := 34) rfl rfl (by decide) ?_
    refine xx_icmp_ne (q := 41) (q2 := 37) rfl rfl rfl (fun h34 => (by exfalso; omega)) (fun _ => ?_)
    refine xx_iconst (q := 38) rfl rfl (by decide) ?_
    refine xx_goto (q := 42) rfl rfl ?_
    refine xx_istore_n (q := 43) (loc2 := [_, _]) rfl rfl (Nat.le_of_ble_eq_true rfl) rfl ?_
    refine xx_aload_n (q := 44) rfl rfl rfl ?_
    have hne : kdS s ≠ 258 := by omega
    obtain ⟨D1, hx1, hS1, hs1⟩ := r_nexT (n := n) hR hT hl4 hby hW hS (hne)
    refine xx_callV (q := 47) (As := []) (rest := []) rfl rfl rfl (Or.inl rfl) rfl rfl (Nat.le_of_ble_eq_true rfl) xS_479 (XCm hx1 rfl) rfl ?_
    refine xx_aload_n (q := 48) rfl rfl rfl ?_
    obtain ⟨z2, D2, hx2, hq2⟩ := r_prodG (n := n) hR hT hl4 hby hW hwh (N - 1) (by omega) hS1 (by omega)
    refine xx_callV (q := 51) (As := []) (rest := []) rfl rfl rfl (Or.inl rfl) rfl rfl (Nat.le_of_ble_eq_true rfl) xS_479 (XCm hx2 rfl) rfl ?_
    refine xx_iconst (q := 52) rfl rfl (by decide) ?_
    refine xx_icmp_ne (q := 57) (q2 := 55) rfl rfl rfl (fun h52 => ?_) (fun h52 => ?_)
    · replace hq2 := hq2.resolve_right (fun q => h52 q.2.1)
      refine xx_aload_n (q := 58) rfl rfl rfl ?_
      refine xx_iload_n (q := 59) rfl rfl rfl ?_
      refine xx_iconst (q := 60) rfl rfl (by decide) ?_
      have hlt3 : (prF 0 (stS s)).2.length < 400 := by have := hq2.2.2.1.hd.2.2.2; have hzz := hq2.2.2.2; unfold szS at hzz; omega
      obtain ⟨D3, hx3, hS3⟩ := r_emits (n := n) hR hq2.2.2.1 (-20) 2 0 (by first | rfl | decide) hlt3
      have hsw3 := sz_wt (op := -20) hlt3
      refine xx_callV (q := 63) (As := [_, _]) (rest := []) rfl rfl rfl (Or.inl rfl) rfl rfl (Nat.le_of_ble_eq_true rfl) xS_479 (XCm hx3 rfl) rfl ?_
      refine xx_goto (q := 10) rfl rfl ?_
      obtain ⟨k, rfl⟩ : ∃ k2, k = k2 + 1 := ⟨k - 1, by have := hS.l2 hne; omega⟩
      have e2 : smL 0 (k + 1) s = smL 0 k (wtS (-20) (prF 0 (stS s))) := (if_pos (Or.inl h16)).trans (by rw [show (if kdS s = 43 then (-20 : Int) else -21) = -20 from if_pos (by omega)])
      rw [e2]
      have hsl : (wtS (-20) (prF 0 (stS s))).1.2.2.length ≤ k + 1 := by
        have hu := pr_ts (h := 0) (s := stS s)
        have hsl2 := st_l2 (hS.l2 hne)
        show (prF 0 (stS s)).1.2.2.length ≤ k + 1
        omega
      exact ih k (by omega) _ _ _ hS3 (by omega) hsl
    · refine xx_iconst (q := 56) rfl rfl (by decide) ?_
      obtain ⟨k, rfl⟩ : ∃ k2, k = k2 + 1 := ⟨k - 1, by have := hS.l2 hne; omega⟩
      refine xx_iret rfl trivial ⟨_, _, rfl, rfl, ?_⟩
      replace hq2 := hq2.resolve_left (fun q => by have := q.2.1; omega)
      have e2 : smL 0 (k + 1) s = wtS (-20) (prF 0 (stS s)) := (if_pos (Or.inl h16)).trans ((by rw [show (if kdS s = 43 then (-20 : Int) else -21) = -20 from if_pos (by omega)] : smL 0 k _ = _).trans (smL_d (s := wtS (-20) (prF 0 (stS s))) hq2.1 k))
      rw [e2]
      exact Or.inr ⟨hq2.1, rfl, hq2.2.2⟩
  · refine xx_aload_n (q := 20) rfl rfl rfl ?_
    refine xx_bipush (q := 22) rfl rfl (by decide) ?_
    refine xx_callV (q := 25) (As := [_]) (rest := []) rfl rfl rfl (Or.inl rfl) rfl rfl (Nat.le_of_ble_eq_true rfl) xS_479 (XCm (r_isSign (n := n) hR hS 45 (by omega)) rfl) rfl ?_
    refine xx_ifb_eq (q := 66) (q2 := 28) rfl rfl rfl (fun h25 => ?_) (fun h25 => ?_)
    · refine xx_iconst (q := 67) rfl rfl (by decide) ?_
      refine xx_iret rfl trivial ⟨_, _, rfl, rfl, ?_⟩
      rw [show smL 0 k s = s from by cases k with | zero => rfl | succ k => exact if_neg (fun q => q.elim h16 h25)]
      exact Or.inl ⟨hS.2.2.1, rfl, hS, hz⟩
    · obtain ⟨hK, hw, hkd, hl1⟩ := hS.hd
      have hvs : D 479 28 = kdS s := by rw [hkd]; exact (hK.2.2.2.2.1 (by omega)).2
      refine xx_aload_n (q := 29) rfl rfl rfl ?_
      refine xx_gez (q := 32) rfl rfl rfl xS_479 (Nat.le_of_ble_eq_true rfl) rfl rfl ?_
      refine xx_bipush (q := 34) rfl rfl (by decide) ?_
      refine xx_icmp_ne (q := 41) (q2 := 37) rfl rfl rfl (fun _ => ?_) (fun h34 => (by exfalso; omega))
      refine xx_iconst (q := 42) rfl rfl (by decide) ?_
      refine xx_istore_n (q := 43) (loc2 := [_, _]) rfl rfl (Nat.le_of_ble_eq_true rfl) rfl ?_
      refine xx_aload_n (q := 44) rfl rfl rfl ?_
      have hne : kdS s ≠ 258 := by omega
      obtain ⟨D4, hx4, hS4, hs4⟩ := r_nexT (n := n) hR hT hl4 hby hW hS (hne)
      refine xx_callV (q := 47) (As := []) (rest := []) rfl rfl rfl (Or.inl rfl) rfl rfl (Nat.le_of_ble_eq_true rfl) xS_479 (XCm hx4 rfl) rfl ?_
      refine xx_aload_n (q := 48) rfl rfl rfl ?_
      obtain ⟨z5, D5, hx5, hq5⟩ := r_prodG (n := n) hR hT hl4 hby hW hwh (N - 1) (by omega) hS4 (by omega)
      refine xx_callV (q := 51) (As := []) (rest := []) rfl rfl rfl (Or.inl rfl) rfl rfl (Nat.le_of_ble_eq_true rfl) xS_479 (XCm hx5 rfl) rfl ?_
      refine xx_iconst (q := 52) rfl rfl (by decide) ?_
      refine xx_icmp_ne (q := 57) (q2 := 55) rfl rfl rfl (fun h52 => ?_) (fun h52 => ?_)
      · replace hq5 := hq5.resolve_right (fun q => h52 q.2.1)
        refine xx_aload_n (q := 58) rfl rfl rfl ?_
        refine xx_iload_n (q := 59) rfl rfl rfl ?_
        refine xx_iconst (q := 60) rfl rfl (by decide) ?_
        have hlt6 : (prF 0 (stS s)).2.length < 400 := by have := hq5.2.2.1.hd.2.2.2; have hzz := hq5.2.2.2; unfold szS at hzz; omega
        obtain ⟨D6, hx6, hS6⟩ := r_emits (n := n) hR hq5.2.2.1 (-21) 3 0 (by first | rfl | decide) hlt6
        have hsw6 := sz_wt (op := -21) hlt6
        refine xx_callV (q := 63) (As := [_, _]) (rest := []) rfl rfl rfl (Or.inl rfl) rfl rfl (Nat.le_of_ble_eq_true rfl) xS_479 (XCm hx6 rfl) rfl ?_
        refine xx_goto (q := 10) rfl rfl ?_
        obtain ⟨k, rfl⟩ : ∃ k2, k = k2 + 1 := ⟨k - 1, by have := hS.l2 hne; omega⟩
        have e2 : smL 0 (k + 1) s = smL 0 k (wtS (-21) (prF 0 (stS s))) := (if_pos (Or.inr h25)).trans (by rw [show (if kdS s = 43 then (-20 : Int) else -21) = -21 from if_neg (by omega)])
        rw [e2]
        have hsl : (wtS (-21) (prF 0 (stS s))).1.2.2.length ≤ k + 1 := by
          have hu := pr_ts (h := 0) (s := stS s)
          have hsl2 := st_l2 (hS.l2 hne)
          show (prF 0 (stS s)).1.2.2.length ≤ k + 1
          omega
        exact ih k (by omega) _ _ _ hS6 (by omega) hsl
      · refine xx_iconst (q := 56) rfl rfl (by decide) ?_
        obtain ⟨k, rfl⟩ : ∃ k2, k = k2 + 1 := ⟨k - 1, by have := hS.l2 hne; omega⟩
        refine xx_iret rfl trivial ⟨_, _, rfl, rfl, ?_⟩
        replace hq5 := hq5.resolve_left (fun q => by have := q.2.1; omega)
        have e2 : smL 0 (k + 1) s = wtS (-21) (prF 0 (stS s)) := (if_pos (Or.inr h25)).trans ((by rw [show (if kdS s = 43 then (-20 : Int) else -21) = -21 from if_neg (by omega)] : smL 0 k _ = _).trans (smL_d (s := wtS (-21) (prF 0 (stS s))) hq5.1 k))
        rw [e2]
        exact Or.inr ⟨hq5.1, rfl, hq5.2.2⟩
theorem r_sumG {n : Nat} {R : Nat → Nat → Option Nat} {D0 D : KK} {bs : List Int} {s : Sg} {o : Int} {P : Option (List Int)} (hR : RF R) (hT : TpR bs D0) (hl4 : bs.length ≤ 400) (hby : ∀ j, 0 ≤ bs.getD j 0 ∧ bs.getD j 0 ≤ 255) (hW : WdR D0) (hwh : D0 479 37 = 0) (N : Nat) (hN : N ≤ 401) (hS : RgO bs D0 s o P D) (hz : szS s ≤ N) : ∃ z D', XC 6 207 [.inr (some 479)] (xS n, R, D) (some (.inl z)) (xS n, R, D') ∧ RgQ bs D0 N (smS 0 s) o P z D' := by
  refine XG_of (Nat.le_of_ble_eq_true rfl) (Nat.le_of_ble_eq_true rfl) (loc := [_, _]) rfl ?_
  refine xx_aload_n (q := 1) rfl rfl rfl ?_
  obtain ⟨z1, D1, hx1, hq1⟩ := r_prodG (n := n) hR hT hl4 hby hW hwh N hN hS hz
  refine xx_callV (q := 4) (As := []) (rest := []) rfl rfl rfl (Or.inl rfl) rfl rfl (Nat.le_of_ble_eq_true rfl) xS_479 (XCm hx1 rfl) rfl ?_
  refine xx_iconst (q := 5) rfl rfl (by decide) ?_
  refine xx_icmp_ne (q := 10) (q2 := 8) rfl rfl rfl (fun h5 => ?_) (fun h5 => ?_)
  · replace hq1 := hq1.resolve_right (fun q => h5 q.2.1)
    exact r_smG_L hR hT hl4 hby hW hwh N hN 400 _ _ _ hq1.2.2.1 hq1.2.2.2 (by have := pr_ts (h := 0) (s := s); unfold szS at hz; omega)
  · refine xx_iconst (q := 9) rfl rfl (by decide) ?_
    refine xx_iret rfl trivial ⟨_, _, rfl, rfl, ?_⟩
    replace hq1 := hq1.resolve_left (fun q => by have := q.2.1; omega)
    rw [show smS 0 s = prF 0 s from smL_d hq1.1 400]
    exact Or.inr ⟨hq1.1, rfl, hq1.2.2⟩
set_option maxHeartbeats 2000000 in
theorem r_cmpG {n : Nat} {R : Nat → Nat → Option Nat} {D0 D : KK} {bs : List Int} {s : Sg} {o : Int} {P : Option (List Int)} (hR : RF R) (hT : TpR bs D0) (hl4 : bs.length ≤ 400) (hby : ∀ j, 0 ≤ bs.getD j 0 ∧ bs.getD j 0 ≤ 255) (hW : WdR D0) (hwh : D0 479 37 = 0) (N : Nat) (hN : N ≤ 401) (hS : RgO bs D0 s o P D) (hz : szS s ≤ N) : ∃ z D', XC 7 208 [.inr (some 479)] (xS n, R, D) (some (.inl z)) (xS n, R, D') ∧ RgQ bs D0 N (cmF 0 s) o P z D' := by
  refine XG_of (Nat.le_of_ble_eq_true rfl) (Nat.le_of_ble_eq_true rfl) (loc := [_, _]) rfl ?_
  refine xx_aload_n (q := 1) rfl rfl rfl ?_
  obtain ⟨z1, D1, hx1, hq1⟩ := r_sumG (n := n) hR hT hl4 hby hW hwh N hN hS hz
  refine xx_callV (q := 4) (As := []) (rest := []) rfl rfl rfl (Or.inl rfl) rfl rfl (Nat.le_of_ble_eq_true rfl) xS_479 (XCm hx1 rfl) rfl ?_
  refine xx_iconst (q := 5) rfl rfl (by decide) ?_
  refine xx_icmp_ne (q := 10) (q2 := 8) rfl rfl rfl (fun h5 => ?_) (fun h5 => ?_)
  · replace hq1 := hq1.resolve_right (fun q => h5 q.2.1)
    have hzq := hq1.2.2.2
    refine xx_aload_n (q := 11) rfl rfl rfl ?_
    refine xx_bipush (q := 13) rfl rfl (by decide) ?_
    refine xx_callV (q := 16) (As := [_]) (rest := []) rfl rfl rfl (Or.inl rfl) rfl rfl (Nat.le_of_ble_eq_true rfl) xS_479 (XCm (r_isSign (n := n) hR hq1.2.2.1 60 (by omega)) rfl) rfl ?_
    refine xx_ifb_ne (q := 43) (q2 := 19) rfl rfl rfl (fun h16 => ?_) (fun h16 => ?_)
    · obtain ⟨hK, hw, hkd, hl1⟩ := hq1.2.2.1.hd
      have hkc : kdS (smS 0 s) = 60 ∨ kdS (smS 0 s) = 61 ∨ kdS (smS 0 s) = 62 := by omega
      have hvs : D1 479 28 = kdS (smS 0 s) := by rw [hkd]; exact (hK.2.2.2.2.1 (by omega)).2
      have hne : kdS (smS 0 s) ≠ 258 := by omega
      have e3 : tk3 (smS 0 s) = stS (smS 0 s) := if_pos hkc
      refine xx_aload_n (q := 44) rfl rfl rfl ?_
      refine xx_gez (q := 47) rfl rfl rfl xS_479 (Nat.le_of_ble_eq_true rfl) rfl rfl ?_
      refine xx_bipush (q := 49) rfl rfl (by decide) ?_
      refine xx_icmp_ne (q := 57) (q2 := 52) rfl rfl rfl (fun h49 => (by exfalso; omega)) (fun _ => ?_)
      refine xx_bipush (q := 54) rfl rfl (by decide) ?_
      refine xx_goto (q := 73) rfl rfl ?_
      refine xx_istore_n (q := 74) (loc2 := [_, _]) rfl rfl (Nat.le_of_ble_eq_true rfl) rfl ?_
      refine xx_aload_n (q := 75) rfl rfl rfl ?_
      obtain ⟨D2, hx2, hS2, hs2⟩ := r_nexT (n := n) hR hT hl4 hby hW hq1.2.2.1 (hne)
      refine xx_callV (q := 78) (As := []) (rest := []) rfl rfl rfl (Or.inl rfl) rfl rfl (Nat.le_of_ble_eq_true rfl) xS_479 (XCm hx2 rfl) rfl ?_
      refine xx_aload_n (q := 79) rfl rfl rfl ?_
      obtain ⟨z3, D3, hx3, hq3⟩ := r_sumG (n := n) hR hT hl4 hby hW hwh (N - 1) (by omega) hS2 (by omega)
      refine xx_callV (q := 82) (As := []) (rest := []) rfl rfl rfl (Or.inl rfl) rfl rfl (Nat.le_of_ble_eq_true rfl) xS_479 (XCm hx3 rfl) rfl ?_
      refine xx_iconst (q := 83) rfl rfl (by decide) ?_
      refine xx_icmp_ne (q := 88) (q2 := 86) rfl rfl rfl (fun h83 => ?_) (fun h83 => ?_)
      · replace hq3 := hq3.resolve_right (fun q => h83 q.2.1)
        have hzq2 := hq3.2.2.2
        refine xx_aload_n (q := 89) rfl rfl rfl ?_
        refine xx_iload_n (q := 90) rfl rfl rfl ?_
        refine xx_iconst (q := 91) rfl rfl (by decide) ?_
        have hlt4 : (smS 0 (stS (smS 0 s))).2.length < 400 := by have := hq3.2.2.1.hd.2.2.2; have hzz := hq3.2.2.2; unfold szS at hzz; omega
        obtain ⟨D4, hx4, hS4⟩ := r_emits (n := n) hR hq3.2.2.1 (-24) 6 0 (by first | rfl | decide) hlt4
        have hsw4 := sz_wt (op := -24) hlt4
        refine xx_callV (q := 94) (As := [_, _]) (rest := []) rfl rfl rfl (Or.inl rfl) rfl rfl (Nat.le_of_ble_eq_true rfl) xS_479 (XCm hx4 rfl) rfl ?_
        refine xx_iconst (q := 95) rfl rfl (by decide) ?_
        refine xx_iret rfl trivial ⟨_, _, rfl, rfl, ?_⟩
        have e : cmF 0 s = wtS (-24) (smS 0 (stS (smS 0 s))) := by unfold cmF; rw [e3, show kdS (smS 0 s) = 60 from by omega]; rfl
        rw [e]
        exact Or.inl ⟨hS4.2.2.1, rfl, hS4, by omega⟩
      · refine xx_iconst (q := 87) rfl rfl (by decide) ?_
        refine xx_iret rfl trivial ⟨_, _, rfl, rfl, ?_⟩
        replace hq3 := hq3.resolve_left (fun q => by have := q.2.1; omega)
        have e : (cmF 0 s).1 = (smS 0 (stS (smS 0 s))).1 := by unfold cmF; rw [e3]; rfl
        exact Or.inr ⟨by rw [e]; exact hq3.1, rfl, by rw [e]; exact hq3.2.2⟩
    · refine xx_aload_n (q := 20) rfl rfl rfl ?_
      refine xx_bipush (q := 22) rfl rfl (by decide) ?_
      refine xx_callV (q := 25) (As := [_]) (rest := []) rfl rfl rfl (Or.inl rfl) rfl rfl (Nat.le_of_ble_eq_true rfl) xS_479 (XCm (r_isSign (n := n) hR hq1.2.2.1 61 (by omega)) rfl) rfl ?_
      refine xx_ifb_ne (q := 43) (q2 := 28) rfl rfl rfl (fun h25 => ?_) (fun h25 => ?_)
      · obtain ⟨hK, hw, hkd, hl1⟩ := hq1.2.2.1.hd
        have hkc : kdS (smS 0 s) = 60 ∨ kdS (smS 0 s) = 61 ∨ kdS (smS 0 s) = 62 := by omega
        have hvs : D1 479 28 = kdS (smS 0 s) := by rw [hkd]; exact (hK.2.2.2.2.1 (by omega)).2
        have hne : kdS (smS 0 s) ≠ 258 := by omega
        have e3 : tk3 (smS 0 s) = stS (smS 0 s) := if_pos hkc
        refine xx_aload_n (q := 44) rfl rfl rfl ?_
        refine xx_gez (q := 47) rfl rfl rfl xS_479 (Nat.le_of_ble_eq_true rfl) rfl rfl ?_
        refine xx_bipush (q := 49) rfl rfl (by decide) ?_
        refine xx_icmp_ne (q := 57) (q2 := 52) rfl rfl rfl (fun _ => ?_) (fun h49 => (by exfalso; omega))
        refine xx_aload_n (q := 58) rfl rfl rfl ?_
        refine xx_gez (q := 61) rfl rfl rfl xS_479 (Nat.le_of_ble_eq_true rfl) rfl rfl ?_
        refine xx_bipush (q := 63) rfl rfl (by decide) ?_
        refine xx_icmp_ne (q := 71) (q2 := 66) rfl rfl rfl (fun h63 => (by exfalso; omega)) (fun _ => ?_)
        refine xx_bipush (q := 68) rfl rfl (by decide) ?_
        refine xx_goto (q := 73) rfl rfl ?_
        refine xx_istore_n (q := 74) (loc2 := [_, _]) rfl rfl (Nat.le_of_ble_eq_true rfl) rfl ?_
        refine xx_aload_n (q := 75) rfl rfl rfl ?_
        obtain ⟨D5, hx5, hS5, hs5⟩ := r_nexT (n := n) hR hT hl4 hby hW hq1.2.2.1 (hne)
        refine xx_callV (q := 78) (As := []) (rest := []) rfl rfl rfl (Or.inl rfl) rfl rfl (Nat.le_of_ble_eq_true rfl) xS_479 (XCm hx5 rfl) rfl ?_
        refine xx_aload_n (q := 79) rfl rfl rfl ?_
        obtain ⟨z6, D6, hx6, hq6⟩ := r_sumG (n := n) hR hT hl4 hby hW hwh (N - 1) (by omega) hS5 (by omega)
        refine xx_callV (q := 82) (As := []) (rest := []) rfl rfl rfl (Or.inl rfl) rfl rfl (Nat.le_of_ble_eq_true rfl) xS_479 (XCm hx6 rfl) rfl ?_
        refine xx_iconst (q := 83) rfl rfl (by decide) ?_
        refine xx_icmp_ne (q := 88) (q2 := 86) rfl rfl rfl (fun h83 => ?_) (fun h83 => ?_)
        · replace hq6 := hq6.resolve_right (fun q => h83 q.2.1)
          have hzq2 := hq6.2.2.2
          refine xx_aload_n (q := 89) rfl rfl rfl ?_
          refine xx_iload_n (q := 90) rfl rfl rfl ?_
          refine xx_iconst (q := 91) rfl rfl (by decide) ?_
          have hlt7 : (smS 0 (stS (smS 0 s))).2.length < 400 := by have := hq6.2.2.1.hd.2.2.2; have hzz := hq6.2.2.2; unfold szS at hzz; omega
          obtain ⟨D7, hx7, hS7⟩ := r_emits (n := n) hR hq6.2.2.1 (-25) 7 0 (by first | rfl | decide) hlt7
          have hsw7 := sz_wt (op := -25) hlt7
          refine xx_callV (q := 94) (As := [_, _]) (rest := []) rfl rfl rfl (Or.inl rfl) rfl rfl (Nat.le_of_ble_eq_true rfl) xS_479 (XCm hx7 rfl) rfl ?_
          refine xx_iconst (q := 95) rfl rfl (by decide) ?_
          refine xx_iret rfl trivial ⟨_, _, rfl, rfl, ?_⟩
          have e : cmF 0 s = wtS (-25) (smS 0 (stS (smS 0 s))) := by unfold cmF; rw [e3, show kdS (smS 0 s) = 61 from by omega]; rfl
          rw [e]
          exact Or.inl ⟨hS7.2.2.1, rfl, hS7, by omega⟩
        · refine xx_iconst (q := 87) rfl rfl (by decide) ?_
          refine xx_iret rfl trivial ⟨_, _, rfl, rfl, ?_⟩
          replace hq6 := hq6.resolve_left (fun q => by have := q.2.1; omega)
          have e : (cmF 0 s).1 = (smS 0 (stS (smS 0 s))).1 := by unfold cmF; rw [e3]; rfl
          exact Or.inr ⟨by rw [e]; exact hq6.1, rfl, by rw [e]; exact hq6.2.2⟩
      · refine xx_aload_n (q := 29) rfl rfl rfl ?_
        refine xx_bipush (q := 31) rfl rfl (by decide) ?_
        refine xx_callV (q := 34) (As := [_]) (rest := []) rfl rfl rfl (Or.inl rfl) rfl rfl (Nat.le_of_ble_eq_true rfl) xS_479 (XCm (r_isSign (n := n) hR hq1.2.2.1 62 (by omega)) rfl) rfl ?_
        refine xx_ifb_ne (q := 43) (q2 := 37) rfl rfl rfl (fun h34 => ?_) (fun h34 => ?_)
        · obtain ⟨hK, hw, hkd, hl1⟩ := hq1.2.2.1.hd
          have hkc : kdS (smS 0 s) = 60 ∨ kdS (smS 0 s) = 61 ∨ kdS (smS 0 s) = 62 := by omega
          have hvs : D1 479 28 = kdS (smS 0 s) := by rw [hkd]; exact (hK.2.2.2.2.1 (by omega)).2
          have hne : kdS (smS 0 s) ≠ 258 := by omega
          have e3 : tk3 (smS 0 s) = stS (smS 0 s) := if_pos hkc
          refine xx_aload_n (q := 44) rfl rfl rfl ?_
          refine xx_gez (q := 47) rfl rfl rfl xS_479 (Nat.le_of_ble_eq_true rfl) rfl rfl ?_
          refine xx_bipush (q := 49) rfl rfl (by decide) ?_
          refine xx_icmp_ne (q := 57) (q2 := 52) rfl rfl rfl (fun _ => ?_) (fun h49 => (by exfalso; omega))
          refine xx_aload_n (q := 58) rfl rfl rfl ?_
          refine xx_gez (q := 61) rfl rfl rfl xS_479 (Nat.le_of_ble_eq_true rfl) rfl rfl ?_
          refine xx_bipush (q := 63) rfl rfl (by decide) ?_
          refine xx_icmp_ne (q := 71) (q2 := 66) rfl rfl rfl (fun _ => ?_) (fun h63 => (by exfalso; omega))
          refine xx_bipush (q := 73) rfl rfl (by decide) ?_
          refine xx_istore_n (q := 74) (loc2 := [_, _]) rfl rfl (Nat.le_of_ble_eq_true rfl) rfl ?_
          refine xx_aload_n (q := 75) rfl rfl rfl ?_
          obtain ⟨D8, hx8, hS8, hs8⟩ := r_nexT (n := n) hR hT hl4 hby hW hq1.2.2.1 (hne)
          refine xx_callV (q := 78) (As := []) (rest := []) rfl rfl rfl (Or.inl rfl) rfl rfl (Nat.le_of_ble_eq_true rfl) xS_479 (XCm hx8 rfl) rfl ?_
          refine xx_aload_n (q := 79) rfl rfl rfl ?_
          obtain ⟨z9, D9, hx9, hq9⟩ := r_sumG (n := n) hR hT hl4 hby hW hwh (N - 1) (by omega) hS8 (by omega)
          refine xx_callV (q := 82) (As := []) (rest := []) rfl rfl rfl (Or.inl rfl) rfl rfl (Nat.le_of_ble_eq_true rfl) xS_479 (XCm hx9 rfl) rfl ?_
          refine xx_iconst (q := 83) rfl rfl (by decide) ?_
          refine xx_icmp_ne (q := 88) (q2 := 86) rfl rfl rfl (fun h83 => ?_) (fun h83 => ?_)
          · replace hq9 := hq9.resolve_right (fun q => h83 q.2.1)
            have hzq2 := hq9.2.2.2
            refine xx_aload_n (q := 89) rfl rfl rfl ?_
            refine xx_iload_n (q := 90) rfl rfl rfl ?_
            refine xx_iconst (q := 91) rfl rfl (by decide) ?_
            have hlt10 : (smS 0 (stS (smS 0 s))).2.length < 400 := by have := hq9.2.2.1.hd.2.2.2; have hzz := hq9.2.2.2; unfold szS at hzz; omega
            obtain ⟨D10, hx10, hS10⟩ := r_emits (n := n) hR hq9.2.2.1 (-26) 8 0 (by first | rfl | decide) hlt10
            have hsw10 := sz_wt (op := -26) hlt10
            refine xx_callV (q := 94) (As := [_, _]) (rest := []) rfl rfl rfl (Or.inl rfl) rfl rfl (Nat.le_of_ble_eq_true rfl) xS_479 (XCm hx10 rfl) rfl ?_
            refine xx_iconst (q := 95) rfl rfl (by decide) ?_
            refine xx_iret rfl trivial ⟨_, _, rfl, rfl, ?_⟩
            have e : cmF 0 s = wtS (-26) (smS 0 (stS (smS 0 s))) := by unfold cmF; rw [e3, show kdS (smS 0 s) = 62 from by omega]; rfl
            rw [e]
            exact Or.inl ⟨hS10.2.2.1, rfl, hS10, by omega⟩
          · refine xx_iconst (q := 87) rfl rfl (by decide) ?_
            refine xx_iret rfl trivial ⟨_, _, rfl, rfl, ?_⟩
            replace hq9 := hq9.resolve_left (fun q => by have := q.2.1; omega)
            have e : (cmF 0 s).1 = (smS 0 (stS (smS 0 s))).1 := by unfold cmF; rw [e3]; rfl
            exact Or.inr ⟨by rw [e]; exact hq9.1, rfl, by rw [e]; exact hq9.2.2⟩
        · refine xx_aload_n (q := 38) rfl rfl rfl ?_
          refine xx_iconst (q := 39) rfl rfl (by decide) ?_
          obtain ⟨D11, hx11, hF11⟩ := r_errs (n := n) hR hq1.2.2.1 1
          refine xx_callV (q := 42) (As := [_]) (rest := []) rfl rfl rfl (Or.inl rfl) rfl rfl (Nat.le_of_ble_eq_true rfl) xS_479 (XCm hx11 rfl) rfl ?_
          refine xx_iret rfl trivial ⟨_, _, rfl, rfl, ?_⟩
          have hd : (wrS 1 (smS 0 s)).1.1 ≠ 0 := by rw [show (wrS 1 (smS 0 s)).1 = _ from if_pos hq1.2.2.1.2.2.1]; exact (by decide : (1 : Int) ≠ 0)
          have e3 : tk3 (smS 0 s) = wrS 1 (smS 0 s) := if_neg (fun q => q.elim h16 (fun q => q.elim h25 h34))
          have e : (cmF 0 s).1 = (wrS 1 (smS 0 s)).1 := by unfold cmF; rw [e3, sm_d hd]; rfl
          exact Or.inr ⟨by rw [e]; exact hd, rfl, by rw [e]; exact hF11⟩
  · refine xx_iconst (q := 9) rfl rfl (by decide) ?_
    refine xx_iret rfl trivial ⟨_, _, rfl, rfl, ?_⟩
    replace hq1 := hq1.resolve_left (fun q => by have := q.2.1; omega)
    have e : (cmF 0 s).1 = (smS 0 s).1 := by unfold cmF; rw [tk3_d hq1.1, sm_d hq1.1]; rfl
    exact Or.inr ⟨by rw [e]; exact hq1.1, rfl, by rw [e]; exact hq1.2.2⟩
set_option maxHeartbeats 4000000 in
theorem r_smH_L {n : Nat} {R : Nat → Nat → Option Nat} {D0 : KK} {bs : List Int} {o : Int} {P : Option (List Int)} (hR : RF R) (hT : TpR bs D0) (hl4 : bs.length ≤ 400) (hby : ∀ j, 0 ≤ bs.getD j 0 ∧ bs.getD j 0 ≤ 255) (hW : WdR D0) (hwh : D0 479 37 = 1) (N : Nat) (hN : N ≤ 401) : ∀ (k : Nat) (s : Sg) (D : KK) (x : Option XV), RgO bs D0 s o P D → szS s ≤ N → s.1.2.2.length ≤ k + 1 → XX (XC 5) 207 (RgX bs D0 N (smL 1 k s) o P n R) 10 [some (.inr (some 479)), x] [] (xS n, R, D) := by
  intro k
  induction k using Nat.strongRecOn with
  | ind k ih =>
  intro s D x hS hz hlk
  refine xx_aload_n (q := 11) rfl rfl rfl ?_
  refine xx_bipush (q := 13) rfl rfl (by decide) ?_
  refine xx_callV (q := 16) (As := [_]) (rest := []) rfl rfl rfl (Or.inl rfl) rfl rfl (Nat.le_of_ble_eq_true rfl) xS_479 (XCm (r_isSign (n := n) hR hS 43 (by omega)) rfl) rfl ?_
  refine xx_ifb_ne (q := 28) (q2 := 19) rfl rfl rfl (fun h16 => ?_) (fun h16 => ?_)
  · obtain ⟨hK, hw, hkd, hl1⟩ := hS.hd
    have hvs : D 479 28 = kdS s := by rw [hkd]; exact (hK.2.2.2.2.1 (by omega)).2
    refine xx_aload_n (q := 29) rfl rfl rfl ?_
    refine xx_gez (q := 32) rfl rfl rfl xS_479 (Nat.le_of_ble_eq_true rfl) rfl rfl ?_
    refine xx_bipush (q := 34) rfl rfl (by decide) ?_
    refine xx_icmp_ne (q := 41) (q2 := 37) rfl rfl rfl (fun h34 => (by exfalso; omega)) (fun _ => ?_)
    refine xx_iconst (q := 38) rfl rfl (by decide) ?_
    refine xx_goto (q := 42) rfl rfl ?_
    refine xx_istore_n (q := 43) (loc2 := [_, _]) rfl rfl (Nat.le_of_ble_eq_true rfl) rfl ?_
    refine xx_aload_n (q := 44) rfl rfl rfl ?_
    have hne : kdS s ≠ 258 := by omega
    obtain ⟨D1, hx1, hS1, hs1⟩ := r_nexT (n := n) hR hT hl4 hby hW hS (hne)
    refine xx_callV (q := 47) (As := []) (rest := []) rfl rfl rfl (Or.inl rfl) rfl rfl (Nat.le_of_ble_eq_true rfl) xS_479 (XCm hx1 rfl) rfl ?_
    refine xx_aload_n (q := 48) rfl rfl rfl ?_
    obtain ⟨z2, D2, hx2, hq2⟩ := r_prodH (n := n) hR hT hl4 hby hW hwh (N - 1) (by omega) hS1 (by omega)
    refine xx_callV (q := 51) (As := []) (rest := []) rfl rfl rfl (Or.inl rfl) rfl rfl (Nat.le_of_ble_eq_true rfl) xS_479 (XCm hx2 rfl) rfl ?_
    refine xx_iconst (q := 52) rfl rfl (by decide) ?_
    refine xx_icmp_ne (q := 57) (q2 := 55) rfl rfl rfl (fun h52 => ?_) (fun h52 => ?_)
    · replace hq2 := hq2.resolve_right (fun q => h52 q.2.1)
      refine xx_aload_n (q := 58) rfl rfl rfl ?_
      refine xx_iload_n (q := 59) rfl rfl rfl ?_
      refine xx_iconst (q := 60) rfl rfl (by decide) ?_
      have hlt3 : (prF 1 (stS s)).2.length < 400 := by have := hq2.2.2.1.hd.2.2.2; have hzz := hq2.2.2.2; unfold szS at hzz; omega
      obtain ⟨D3, hx3, hS3⟩ := r_emits (n := n) hR hq2.2.2.1 (-20) 2 0 (by first | rfl | decide) hlt3
      have hsw3 := sz_wt (op := -20) hlt3
      refine xx_callV (q := 63) (As := [_, _]) (rest := []) rfl rfl rfl (Or.inl rfl) rfl rfl (Nat.le_of_ble_eq_true rfl) xS_479 (XCm hx3 rfl) rfl ?_
      refine xx_goto (q := 10) rfl rfl ?_
      obtain ⟨k, rfl⟩ : ∃ k2, k = k2 + 1 := ⟨k - 1, by have := hS.l2 hne; omega⟩
      have e2 : smL 1 (k + 1) s = smL 1 k (wtS (-20) (prF 1 (stS s))) := (if_pos (Or.inl h16)).trans (by rw [show (if kdS s = 43 then (-20 : Int) else -21) = -20 from if_pos (by omega)])
      rw [e2]
      have hsl : (wtS (-20) (prF 1 (stS s))).1.2.2.length ≤ k + 1 := by
        have hu := pr_ts (h := 1) (s := stS s)
        have hsl2 := st_l2 (hS.l2 hne)
        show (prF 1 (stS s)).1.2.2.length ≤ k + 1
        omega
      exact ih k (by omega) _ _ _ hS3 (by omega) hsl
    · refine xx_iconst (q := 56) rfl rfl (by decide) ?_
      obtain ⟨k, rfl⟩ : ∃ k2, k = k2 + 1 := ⟨k - 1, by have := hS.l2 hne; omega⟩
      refine xx_iret rfl trivial ⟨_, _, rfl, rfl, ?_⟩
      replace hq2 := hq2.resolve_left (fun q => by have := q.2.1; omega)
      have e2 : smL 1 (k + 1) s = wtS (-20) (prF 1 (stS s)) := (if_pos (Or.inl h16)).trans ((by rw [show (if kdS s = 43 then (-20 : Int) else -21) = -20 from if_pos (by omega)] : smL 1 k _ = _).trans (smL_d (s := wtS (-20) (prF 1 (stS s))) hq2.1 k))
      rw [e2]
      exact Or.inr ⟨hq2.1, rfl, hq2.2.2⟩
  · refine xx_aload_n (q := 20) rfl rfl rfl ?_
    refine xx_bipush (q := 22) rfl rfl (by decide) ?_
    refine xx_callV (q := 25) (As := [_]) (rest := []) rfl rfl rfl (Or.inl rfl) rfl rfl (Nat.le_of_ble_eq_true rfl) xS_479 (XCm (r_isSign (n := n) hR hS 45 (by omega)) rfl) rfl ?_
    refine xx_ifb_eq (q := 66) (q2 := 28) rfl rfl rfl (fun h25 => ?_) (fun h25 => ?_)
    · refine xx_iconst (q := 67) rfl rfl (by decide) ?_
      refine xx_iret rfl trivial ⟨_, _, rfl, rfl, ?_⟩
      rw [show smL 1 k s = s from by cases k with | zero => rfl | succ k => exact if_neg (fun q => q.elim h16 h25)]
      exact Or.inl ⟨hS.2.2.1, rfl, hS, hz⟩
    · obtain ⟨hK, hw, hkd, hl1⟩ := hS.hd
      have hvs : D 479 28 = kdS s := by rw [hkd]; exact (hK.2.2.2.2.1 (by omega)).2
      refine xx_aload_n (q := 29) rfl rfl rfl ?_
      refine xx_gez (q := 32) rfl rfl rfl xS_479 (Nat.le_of_ble_eq_true rfl) rfl rfl ?_
      refine xx_bipush (q := 34) rfl rfl (by decide) ?_
      refine xx_icmp_ne (q := 41) (q2 := 37) rfl rfl rfl (fun _ => ?_) (fun h34 => (by exfalso; omega))
      refine xx_iconst (q := 42) rfl rfl (by decide) ?_
      refine xx_istore_n (q := 43) (loc2 := [_, _]) rfl rfl (Nat.le_of_ble_eq_true rfl) rfl ?_
      refine xx_aload_n (q := 44) rfl rfl rfl ?_
      have hne : kdS s ≠ 258 := by omega
      obtain ⟨D4, hx4, hS4, hs4⟩ := r_nexT (n := n) hR hT hl4 hby hW hS (hne)
      refine xx_callV (q := 47) (As := []) (rest := []) rfl rfl rfl (Or.inl rfl) rfl rfl (Nat.le_of_ble_eq_true rfl) xS_479 (XCm hx4 rfl) rfl ?_
      refine xx_aload_n (q := 48) rfl rfl rfl ?_
      obtain ⟨z5, D5, hx5, hq5⟩ := r_prodH (n := n) hR hT hl4 hby hW hwh (N - 1) (by omega) hS4 (by omega)
      refine xx_callV (q := 51) (As := []) (rest := []) rfl rfl rfl (Or.inl rfl) rfl rfl (Nat.le_of_ble_eq_true rfl) xS_479 (XCm hx5 rfl) rfl ?_
      refine xx_iconst (q := 52) rfl rfl (by decide) ?_
      refine xx_icmp_ne (q := 57) (q2 := 55) rfl rfl rfl (fun h52 => ?_) (fun h52 => ?_)
      · replace hq5 := hq5.resolve_right (fun q => h52 q.2.1)
        refine xx_aload_n (q := 58) rfl rfl rfl ?_
        refine xx_iload_n (q := 59) rfl rfl rfl ?_
        refine xx_iconst (q := 60) rfl rfl (by decide) ?_
        have hlt6 : (prF 1 (stS s)).2.length < 400 := by have := hq5.2.2.1.hd.2.2.2; have hzz := hq5.2.2.2; unfold szS at hzz; omega
        obtain ⟨D6, hx6, hS6⟩ := r_emits (n := n) hR hq5.2.2.1 (-21) 3 0 (by first | rfl | decide) hlt6
        have hsw6 := sz_wt (op := -21) hlt6
        refine xx_callV (q := 63) (As := [_, _]) (rest := []) rfl rfl rfl (Or.inl rfl) rfl rfl (Nat.le_of_ble_eq_true rfl) xS_479 (XCm hx6 rfl) rfl ?_
        refine xx_goto (q := 10) rfl rfl ?_
        obtain ⟨k, rfl⟩ : ∃ k2, k = k2 + 1 := ⟨k - 1, by have := hS.l2 hne; omega⟩
        have e2 : smL 1 (k + 1) s = smL 1 k (wtS (-21) (prF 1 (stS s))) := (if_pos (Or.inr h25)).trans (by rw [show (if kdS s = 43 then (-20 : Int) else -21) = -21 from if_neg (by omega)])
        rw [e2]
        have hsl : (wtS (-21) (prF 1 (stS s))).1.2.2.length ≤ k + 1 := by
          have hu := pr_ts (h := 1) (s := stS s)
          have hsl2 := st_l2 (hS.l2 hne)
          show (prF 1 (stS s)).1.2.2.length ≤ k + 1
          omega
        exact ih k (by omega) _ _ _ hS6 (by omega) hsl
      · refine xx_iconst (q := 56) rfl rfl (by decide) ?_
        obtain ⟨k, rfl⟩ : ∃ k2, k = k2 + 1 := ⟨k - 1, by have := hS.l2 hne; omega⟩
        refine xx_iret rfl trivial ⟨_, _, rfl, rfl, ?_⟩
        replace hq5 := hq5.resolve_left (fun q => by have := q.2.1; omega)
        have e2 : smL 1 (k + 1) s = wtS (-21) (prF 1 (stS s)) := (if_pos (Or.inr h25)).trans ((by rw [show (if kdS s = 43 then (-20 : Int) else -21) = -21 from if_neg (by omega)] : smL 1 k _ = _).trans (smL_d (s := wtS (-21) (prF 1 (stS s))) hq5.1 k))
        rw [e2]
        exact Or.inr ⟨hq5.1, rfl, hq5.2.2⟩
theorem r_sumH {n : Nat} {R : Nat → Nat → Option Nat} {D0 D : KK} {bs : List Int} {s : Sg} {o : Int} {P : Option (List Int)} (hR : RF R) (hT : TpR bs D0) (hl4 : bs.length ≤ 400) (hby : ∀ j, 0 ≤ bs.getD j 0 ∧ bs.getD j 0 ≤ 255) (hW : WdR D0) (hwh : D0 479 37 = 1) (N : Nat) (hN : N ≤ 401) (hS : RgO bs D0 s o P D) (hz : szS s ≤ N) : ∃ z D', XC 6 207 [.inr (some 479)] (xS n, R, D) (some (.inl z)) (xS n, R, D') ∧ RgQ bs D0 N (smS 1 s) o P z D' := by
  refine XG_of (Nat.le_of_ble_eq_true rfl) (Nat.le_of_ble_eq_true rfl) (loc := [_, _]) rfl ?_
  refine xx_aload_n (q := 1) rfl rfl rfl ?_
  obtain ⟨z1, D1, hx1, hq1⟩ := r_prodH (n := n) hR hT hl4 hby hW hwh N hN hS hz
  refine xx_callV (q := 4) (As := []) (rest := []) rfl rfl rfl (Or.inl rfl) rfl rfl (Nat.le_of_ble_eq_true rfl) xS_479 (XCm hx1 rfl) rfl ?_
  refine xx_iconst (q := 5) rfl rfl (by decide) ?_
  refine xx_icmp_ne (q := 10) (q2 := 8) rfl rfl rfl (fun h5 => ?_) (fun h5 => ?_)
  · replace hq1 := hq1.resolve_right (fun q => h5 q.2.1)
    exact r_smH_L hR hT hl4 hby hW hwh N hN 400 _ _ _ hq1.2.2.1 hq1.2.2.2 (by have := pr_ts (h := 1) (s := s); unfold szS at hz; omega)
  · refine xx_iconst (q := 9) rfl rfl (by decide) ?_
    refine xx_iret rfl trivial ⟨_, _, rfl, rfl, ?_⟩
    replace hq1 := hq1.resolve_left (fun q => by have := q.2.1; omega)
    rw [show smS 1 s = prF 1 s from smL_d hq1.1 400]
    exact Or.inr ⟨hq1.1, rfl, hq1.2.2⟩
set_option maxHeartbeats 2000000 in
theorem r_cmpH {n : Nat} {R : Nat → Nat → Option Nat} {D0 D : KK} {bs : List Int} {s : Sg} {o : Int} {P : Option (List Int)} (hR : RF R) (hT : TpR bs D0) (hl4 : bs.length ≤ 400) (hby : ∀ j, 0 ≤ bs.getD j 0 ∧ bs.getD j 0 ≤ 255) (hW : WdR D0) (hwh : D0 479 37 = 1) (N : Nat) (hN : N ≤ 401) (hS : RgO bs D0 s o P D) (hz : szS s ≤ N) : ∃ z D', XC 7 208 [.inr (some 479)] (xS n, R, D) (some (.inl z)) (xS n, R, D') ∧ RgQ bs D0 N (cmF 1 s) o P z D' := by
  refine XG_of (Nat.le_of_ble_eq_true rfl) (Nat.le_of_ble_eq_true rfl) (loc := [_, _]) rfl ?_
  refine xx_aload_n (q := 1) rfl rfl rfl ?_
  obtain ⟨z1, D1, hx1, hq1⟩ := r_sumH (n := n) hR hT hl4 hby hW hwh N hN hS hz
  refine xx_callV (q := 4) (As := []) (rest := []) rfl rfl rfl (Or.inl rfl) rfl rfl (Nat.le_of_ble_eq_true rfl) xS_479 (XCm hx1 rfl) rfl ?_
  refine xx_iconst (q := 5) rfl rfl (by decide) ?_
  refine xx_icmp_ne (q := 10) (q2 := 8) rfl rfl rfl (fun h5 => ?_) (fun h5 => ?_)
  · replace hq1 := hq1.resolve_right (fun q => h5 q.2.1)
    have hzq := hq1.2.2.2
    refine xx_aload_n (q := 11) rfl rfl rfl ?_
    refine xx_bipush (q := 13) rfl rfl (by decide) ?_
    refine xx_callV (q := 16) (As := [_]) (rest := []) rfl rfl rfl (Or.inl rfl) rfl rfl (Nat.le_of_ble_eq_true rfl) xS_479 (XCm (r_isSign (n := n) hR hq1.2.2.1 60 (by omega)) rfl) rfl ?_
    refine xx_ifb_ne (q := 43) (q2 := 19) rfl rfl rfl (fun h16 => ?_) (fun h16 => ?_)
    · obtain ⟨hK, hw, hkd, hl1⟩ := hq1.2.2.1.hd
      have hkc : kdS (smS 1 s) = 60 ∨ kdS (smS 1 s) = 61 ∨ kdS (smS 1 s) = 62 := by omega
      have hvs : D1 479 28 = kdS (smS 1 s) := by rw [hkd]; exact (hK.2.2.2.2.1 (by omega)).2
      have hne : kdS (smS 1 s) ≠ 258 := by omega
      have e3 : tk3 (smS 1 s) = stS (smS 1 s) := if_pos hkc
      refine xx_aload_n (q := 44) rfl rfl rfl ?_
      refine xx_gez (q := 47) rfl rfl rfl xS_479 (Nat.le_of_ble_eq_true rfl) rfl rfl ?_
      refine xx_bipush (q := 49) rfl rfl (by decide) ?_
      refine xx_icmp_ne (q := 57) (q2 := 52) rfl rfl rfl (fun h49 => (by exfalso; omega)) (fun _ => ?_)
      refine xx_bipush (q := 54) rfl rfl (by decide) ?_
      refine xx_goto (q := 73) rfl rfl ?_
      refine xx_istore_n (q := 74) (loc2 := [_, _]) rfl rfl (Nat.le_of_ble_eq_true rfl) rfl ?_
      refine xx_aload_n (q := 75) rfl rfl rfl ?_
      obtain ⟨D2, hx2, hS2, hs2⟩ := r_nexT (n := n) hR hT hl4 hby hW hq1.2.2.1 (hne)
      refine xx_callV (q := 78) (As := []) (rest := []) rfl rfl rfl (Or.inl rfl) rfl rfl (Nat.le_of_ble_eq_true rfl) xS_479 (XCm hx2 rfl) rfl ?_
      refine xx_aload_n (q := 79) rfl rfl rfl ?_
      obtain ⟨z3, D3, hx3, hq3⟩ := r_sumH (n := n) hR hT hl4 hby hW hwh (N - 1) (by omega) hS2 (by omega)
      refine xx_callV (q := 82) (As := []) (rest := []) rfl rfl rfl (Or.inl rfl) rfl rfl (Nat.le_of_ble_eq_true rfl) xS_479 (XCm hx3 rfl) rfl ?_
      refine xx_iconst (q := 83) rfl rfl (by decide) ?_
      refine xx_icmp_ne (q := 88) (q2 := 86) rfl rfl rfl (fun h83 => ?_) (fun h83 => ?_)
      · replace hq3 := hq3.resolve_right (fun q => h83 q.2.1)
        have hzq2 := hq3.2.2.2
        refine xx_aload_n (q := 89) rfl rfl rfl ?_
        refine xx_iload_n (q := 90) rfl rfl rfl ?_
        refine xx_iconst (q := 91) rfl rfl (by decide) ?_
        have hlt4 : (smS 1 (stS (smS 1 s))).2.length < 400 := by have := hq3.2.2.1.hd.2.2.2; have hzz := hq3.2.2.2; unfold szS at hzz; omega
        obtain ⟨D4, hx4, hS4⟩ := r_emits (n := n) hR hq3.2.2.1 (-24) 6 0 (by first | rfl | decide) hlt4
        have hsw4 := sz_wt (op := -24) hlt4
        refine xx_callV (q := 94) (As := [_, _]) (rest := []) rfl rfl rfl (Or.inl rfl) rfl rfl (Nat.le_of_ble_eq_true rfl) xS_479 (XCm hx4 rfl) rfl ?_
        refine xx_iconst (q := 95) rfl rfl (by decide) ?_
        refine xx_iret rfl trivial ⟨_, _, rfl, rfl, ?_⟩
        have e : cmF 1 s = wtS (-24) (smS 1 (stS (smS 1 s))) := by unfold cmF; rw [e3, show kdS (smS 1 s) = 60 from by omega]; rfl
        rw [e]
        exact Or.inl ⟨hS4.2.2.1, rfl, hS4, by omega⟩
      · refine xx_iconst (q := 87) rfl rfl (by decide) ?_
        refine xx_iret rfl trivial ⟨_, _, rfl, rfl, ?_⟩
        replace hq3 := hq3.resolve_left (fun q => by have := q.2.1; omega)
        have e : (cmF 1 s).1 = (smS 1 (stS (smS 1 s))).1 := by unfold cmF; rw [e3]; rfl
        exact Or.inr ⟨by rw [e]; exact hq3.1, rfl, by rw [e]; exact hq3.2.2⟩
    · refine xx_aload_n (q := 20) rfl rfl rfl ?_
      refine xx_bipush (q := 22) rfl rfl (by decide) ?_
      refine xx_callV (q := 25) (As := [_]) (rest := []) rfl rfl rfl (Or.inl rfl) rfl rfl (Nat.le_of_ble_eq_true rfl) xS_479 (XCm (r_isSign (n := n) hR hq1.2.2.1 61 (by omega)) rfl) rfl ?_
      refine xx_ifb_ne (q := 43) (q2 := 28) rfl rfl rfl (fun h25 => ?_) (fun h25 => ?_)
      · obtain ⟨hK, hw, hkd, hl1⟩ := hq1.2.2.1.hd
        have hkc : kdS (smS 1 s) = 60 ∨ kdS (smS 1 s) = 61 ∨ kdS (smS 1 s) = 62 := by omega
        have hvs : D1 479 28 = kdS (smS 1 s) := by rw [hkd]; exact (hK.2.2.2.2.1 (by omega)).2
        have hne : kdS (smS 1 s) ≠ 258 := by omega
        have e3 : tk3 (smS 1 s) = stS (smS 1 s) := if_pos hkc
        refine xx_aload_n (q := 44) rfl rfl rfl ?_
        refine xx_gez (q := 47) rfl rfl rfl xS_479 (Nat.le_of_ble_eq_true rfl) rfl rfl ?_
        refine xx_bipush (q := 49) rfl rfl (by decide) ?_
        refine xx_icmp_ne (q := 57) (q2 := 52) rfl rfl rfl (fun _ => ?_) (fun h49 => (by exfalso; omega))
        refine xx_aload_n (q := 58) rfl rfl rfl ?_
        refine xx_gez (q := 61) rfl rfl rfl xS_479 (Nat.le_of_ble_eq_true rfl) rfl rfl ?_
        refine xx_bipush (q := 63) rfl rfl (by decide) ?_
        refine xx_icmp_ne (q := 71) (q2 := 66) rfl rfl rfl (fun h63 => (by exfalso; omega)) (fun _ => ?_)
        refine xx_bipush (q := 68) rfl rfl (by decide) ?_
        refine xx_goto (q := 73) rfl rfl ?_
        refine xx_istore_n (q := 74) (loc2 := [_, _]) rfl rfl (Nat.le_of_ble_eq_true rfl) rfl ?_
        refine xx_aload_n (q := 75) rfl rfl rfl ?_
        obtain ⟨D5, hx5, hS5, hs5⟩ := r_nexT (n := n) hR hT hl4 hby hW hq1.2.2.1 (hne)
        refine xx_callV (q := 78) (As := []) (rest := []) rfl rfl rfl (Or.inl rfl) rfl rfl (Nat.le_of_ble_eq_true rfl) xS_479 (XCm hx5 rfl) rfl ?_
        refine xx_aload_n (q := 79) rfl rfl rfl ?_
        obtain ⟨z6, D6, hx6, hq6⟩ := r_sumH (n := n) hR hT hl4 hby hW hwh (N - 1) (by omega) hS5 (by omega)
        refine xx_callV (q := 82) (As := []) (rest := []) rfl rfl rfl (Or.inl rfl) rfl rfl (Nat.le_of_ble_eq_true rfl) xS_479 (XCm hx6 rfl) rfl ?_
        refine xx_iconst (q := 83) rfl rfl (by decide) ?_
        refine xx_icmp_ne (q := 88) (q2 := 86) rfl rfl rfl (fun h83 => ?_) (fun h83 => ?_)
        · replace hq6 := hq6.resolve_right (fun q => h83 q.2.1)
          have hzq2 := hq6.2.2.2
          refine xx_aload_n (q := 89) rfl rfl rfl ?_
          refine xx_iload_n (q := 90) rfl rfl rfl ?_
          refine xx_iconst (q := 91) rfl rfl (by decide) ?_
          have hlt7 : (smS 1 (stS (smS 1 s))).2.length < 400 := by have := hq6.2.2.1.hd.2.2.2; have hzz := hq6.2.2.2; unfold szS at hzz; omega
          obtain ⟨D7, hx7, hS7⟩ := r_emits (n := n) hR hq6.2.2.1 (-25) 7 0 (by first | rfl | decide) hlt7
          have hsw7 := sz_wt (op := -25) hlt7
          refine xx_callV (q := 94) (As := [_, _]) (rest := []) rfl rfl rfl (Or.inl rfl) rfl rfl (Nat.le_of_ble_eq_true rfl) xS_479 (XCm hx7 rfl) rfl ?_
          refine xx_iconst (q := 95) rfl rfl (by decide) ?_
          refine xx_iret rfl trivial ⟨_, _, rfl, rfl, ?_⟩
          have e : cmF 1 s = wtS (-25) (smS 1 (stS (smS 1 s))) := by unfold cmF; rw [e3, show kdS (smS 1 s) = 61 from by omega]; rfl
          rw [e]
          exact Or.inl ⟨hS7.2.2.1, rfl, hS7, by omega⟩
        · refine xx_iconst (q := 87) rfl rfl (by decide) ?_
          refine xx_iret rfl trivial ⟨_, _, rfl, rfl, ?_⟩
          replace hq6 := hq6.resolve_left (fun q => by have := q.2.1; omega)
          have e : (cmF 1 s).1 = (smS 1 (stS (smS 1 s))).1 := by unfold cmF; rw [e3]; rfl
          exact Or.inr ⟨by rw [e]; exact hq6.1, rfl, by rw [e]; exact hq6.2.2⟩
      · refine xx_aload_n (q := 29) rfl rfl rfl ?_
        refine xx_bipush (q := 31) rfl rfl (by decide) ?_
        refine xx_callV (q := 34) (As := [_]) (rest := []) rfl rfl rfl (Or.inl rfl) rfl rfl (Nat.le_of_ble_eq_true rfl) xS_479 (XCm (r_isSign (n := n) hR hq1.2.2.1 62 (by omega)) rfl) rfl ?_
        refine xx_ifb_ne (q := 43) (q2 := 37) rfl rfl rfl (fun h34 => ?_) (fun h34 => ?_)
        · obtain ⟨hK, hw, hkd, hl1⟩ := hq1.2.2.1.hd
          have hkc : kdS (smS 1 s) = 60 ∨ kdS (smS 1 s) = 61 ∨ kdS (smS 1 s) = 62 := by omega
          have hvs : D1 479 28 = kdS (smS 1 s) := by rw [hkd]; exact (hK.2.2.2.2.1 (by omega)).2
          have hne : kdS (smS 1 s) ≠ 258 := by omega
          have e3 : tk3 (smS 1 s) = stS (smS 1 s) := if_pos hkc
          refine xx_aload_n (q := 44) rfl rfl rfl ?_
          refine xx_gez (q := 47) rfl rfl rfl xS_479 (Nat.le_of_ble_eq_true rfl) rfl rfl ?_
          refine xx_bipush (q := 49) rfl rfl (by decide) ?_
          refine xx_icmp_ne (q := 57) (q2 := 52) rfl rfl rfl (fun _ => ?_) (fun h49 => (by exfalso; omega))
          refine xx_aload_n (q := 58) rfl rfl rfl ?_
          refine xx_gez (q := 61) rfl rfl rfl xS_479 (Nat.le_of_ble_eq_true rfl) rfl rfl ?_
          refine xx_bipush (q := 63) rfl rfl (by decide) ?_
          refine xx_icmp_ne (q := 71) (q2 := 66) rfl rfl rfl (fun _ => ?_) (fun h63 => (by exfalso; omega))
          refine xx_bipush (q := 73) rfl rfl (by decide) ?_
          refine xx_istore_n (q := 74) (loc2 := [_, _]) rfl rfl (Nat.le_of_ble_eq_true rfl) rfl ?_
          refine xx_aload_n (q := 75) rfl rfl rfl ?_
          obtain ⟨D8, hx8, hS8, hs8⟩ := r_nexT (n := n) hR hT hl4 hby hW hq1.2.2.1 (hne)
          refine xx_callV (q := 78) (As := []) (rest := []) rfl rfl rfl (Or.inl rfl) rfl rfl (Nat.le_of_ble_eq_true rfl) xS_479 (XCm hx8 rfl) rfl ?_
          refine xx_aload_n (q := 79) rfl rfl rfl ?_
          obtain ⟨z9, D9, hx9, hq9⟩ := r_sumH (n := n) hR hT hl4 hby hW hwh (N - 1) (by omega) hS8 (by omega)
          refine xx_callV (q := 82) (As := []) (rest := []) rfl rfl rfl (Or.inl rfl) rfl rfl (Nat.le_of_ble_eq_true rfl) xS_479 (XCm hx9 rfl) rfl ?_
          refine xx_iconst (q := 83) rfl rfl (by decide) ?_
          refine xx_icmp_ne (q := 88) (q2 := 86) rfl rfl rfl (fun h83 => ?_) (fun h83 => ?_)
          · replace hq9 := hq9.resolve_right (fun q => h83 q.2.1)
            have hzq2 := hq9.2.2.2
            refine xx_aload_n (q := 89) rfl rfl rfl ?_
            refine xx_iload_n (q := 90) rfl rfl rfl ?_
            refine xx_iconst (q := 91) rfl rfl (by decide) ?_
            have hlt10 : (smS 1 (stS (smS 1 s))).2.length < 400 := by have := hq9.2.2.1.hd.2.2.2; have hzz := hq9.2.2.2; unfold szS at hzz; omega
            obtain ⟨D10, hx10, hS10⟩ := r_emits (n := n) hR hq9.2.2.1 (-26) 8 0 (by first | rfl | decide) hlt10
            have hsw10 := sz_wt (op := -26) hlt10
            refine xx_callV (q := 94) (As := [_, _]) (rest := []) rfl rfl rfl (Or.inl rfl) rfl rfl (Nat.le_of_ble_eq_true rfl) xS_479 (XCm hx10 rfl) rfl ?_
            refine xx_iconst (q := 95) rfl rfl (by decide) ?_
            refine xx_iret rfl trivial ⟨_, _, rfl, rfl, ?_⟩
            have e : cmF 1 s = wtS (-26) (smS 1 (stS (smS 1 s))) := by unfold cmF; rw [e3, show kdS (smS 1 s) = 62 from by omega]; rfl
            rw [e]
            exact Or.inl ⟨hS10.2.2.1, rfl, hS10, by omega⟩
          · refine xx_iconst (q := 87) rfl rfl (by decide) ?_
            refine xx_iret rfl trivial ⟨_, _, rfl, rfl, ?_⟩
            replace hq9 := hq9.resolve_left (fun q => by have := q.2.1; omega)
            have e : (cmF 1 s).1 = (smS 1 (stS (smS 1 s))).1 := by unfold cmF; rw [e3]; rfl
            exact Or.inr ⟨by rw [e]; exact hq9.1, rfl, by rw [e]; exact hq9.2.2⟩
        · refine xx_aload_n (q := 38) rfl rfl rfl ?_
          refine xx_iconst (q := 39) rfl rfl (by decide) ?_
          obtain ⟨D11, hx11, hF11⟩ := r_errs (n := n) hR hq1.2.2.1 1
          refine xx_callV (q := 42) (As := [_]) (rest := []) rfl rfl rfl (Or.inl rfl) rfl rfl (Nat.le_of_ble_eq_true rfl) xS_479 (XCm hx11 rfl) rfl ?_
          refine xx_iret rfl trivial ⟨_, _, rfl, rfl, ?_⟩
          have hd : (wrS 1 (smS 1 s)).1.1 ≠ 0 := by rw [show (wrS 1 (smS 1 s)).1 = _ from if_pos hq1.2.2.1.2.2.1]; exact (by decide : (1 : Int) ≠ 0)
          have e3 : tk3 (smS 1 s) = wrS 1 (smS 1 s) := if_neg (fun q => q.elim h16 (fun q => q.elim h25 h34))
          have e : (cmF 1 s).1 = (wrS 1 (smS 1 s)).1 := by unfold cmF; rw [e3, sm_d hd]; rfl
          exact Or.inr ⟨by rw [e]; exact hd, rfl, by rw [e]; exact hF11⟩
  · refine xx_iconst (q := 9) rfl rfl (by decide) ?_
    refine xx_iret rfl trivial ⟨_, _, rfl, rfl, ?_⟩
    replace hq1 := hq1.resolve_left (fun q => by have := q.2.1; omega)
    have e : (cmF 1 s).1 = (smS 1 s).1 := by unfold cmF; rw [tk3_d hq1.1, sm_d hq1.1]; rfl
    exact Or.inr ⟨by rw [e]; exact hq1.1, rfl, by rw [e]; exact hq1.2.2⟩
