/-! Sums, comparisons: the reference. -/
def RgX (bs : List Int) (D0 : KK) (N : Nat) (s : Sg) (o : Int) (P : Option (List Int)) (n : Nat) (R : Nat → Nat → Option Nat) : XQ := fun r m2 => ∃ z D', r = some (.inl z) ∧ m2 = (xS n, R, D') ∧ RgQ bs D0 N s o P z D'
theorem XG_of {d i : Nat} {args : List XV} {m : XM} {bs : List Int} {D0 : KK} {N : Nat} {s : Sg} {o : Int} {P : Option (List Int)} {n : Nat} {R : Nat → Nat → Option Nat} (hi : i < 316) (ha : args.length ≤ xml i) {loc : XLc} (hl : xent i args = loc) (h : XX (XC d) i (RgX bs D0 N s o P n R) 0 loc [] m) : ∃ z D', XC (d + 1) i args m (some (.inl z)) (xS n, R, D') ∧ RgQ bs D0 N s o P z D' := by
  obtain ⟨r, m2, h1, z, D', rfl, rfl, h2⟩ := XR_of hi ha hl h
  exact ⟨z, D', h1, h2⟩
theorem kd_d {s : Sg} (h : s.1.1 ≠ 0) : kdS s = 258 := if_neg h
theorem wr_d {s : Sg} {k : Int} (h : s.1.1 ≠ 0) : wrS k s = s := congrArg (fun t => (t, s.2)) (if_neg h)
theorem un_d {h : Int} {s : Sg} (q : s.1.1 ≠ 0) : unF h s = s := by
  unfold unF
  rw [kd_d q, if_neg (by omega), if_neg (by unfold ftP; split <;> omega), wr_d q]
theorem prL_d {h : Int} {s : Sg} (q : s.1.1 ≠ 0) : ∀ k : Nat, prL h k s = s
  | 0 => rfl
  | k + 1 => by unfold prL; rw [kd_d q, if_neg (by omega), if_neg (by omega)]
theorem pr_d {h : Int} {s : Sg} (q : s.1.1 ≠ 0) : prF h s = s := by unfold prF; rw [un_d q, prL_d q]
theorem smL_d {h : Int} {s : Sg} (q : s.1.1 ≠ 0) : ∀ k : Nat, smL h k s = s
  | 0 => rfl
  | k + 1 => by unfold smL; rw [kd_d q, if_neg (by omega)]
theorem sm_d {h : Int} {s : Sg} (q : s.1.1 ≠ 0) : smS h s = s := by unfold smS; rw [pr_d q, smL_d q]
theorem tk3_d {s : Sg} (q : s.1.1 ≠ 0) : tk3 s = s := by unfold tk3; rw [kd_d q, if_neg (by omega), wr_d q]
theorem cm_d {h : Int} {s : Sg} (q : s.1.1 ≠ 0) : (cmF h s).1 = s.1 := by unfold cmF; rw [sm_d q, tk3_d q, sm_d q]; rfl
theorem RgO.l2 {bs : List Int} {D0 D : KK} {s : Sg} {o : Int} {P : Option (List Int)} (h : RgO bs D0 s o P D) (hk : kdS s ≠ 258) : 2 ≤ s.1.2.2.length := by
  obtain ⟨_, _, hkd, _⟩ := h.hd
  obtain ⟨⟨t, r, e, _, _⟩, h2, _⟩ := h
  have et : hdT s.1 = t := by unfold hdT; rw [e]; rfl
  rw [hkd, et] at hk
  rw [e] at h2 ⊢
  obtain ⟨_, ⟨_, q⟩ | ⟨_, _, hrn⟩⟩ := wfL_c h2
  · exact absurd q hk
  · rw [List.length_cons]
    cases r with
    | nil => exact absurd rfl hrn
    | cons u r => rw [List.length_cons]; omega
theorem sz_wt {s : Sg} {op : Int} (h : s.2.length < 400) : szS (wtS op s) = szS s + 1 := by
  rw [wt_l h]
  unfold szS
  show (s.2 ++ [op]).length + s.1.2.2.length = s.2.length + s.1.2.2.length + 1
  rw [List.length_append]
  show s.2.length + 1 + s.1.2.2.length = _
  omega
theorem r_canAskG {n : Nat} {R : Nat → Nat → Option Nat} {D0 D : KK} {bs : List Int} {s : Sg} {o : Int} {P : Option (List Int)} (hR : RF R) (hT : TpR bs D0) (hl4 : bs.length ≤ 400) (hby : ∀ j, 0 ≤ bs.getD j 0 ∧ bs.getD j 0 ≤ 255) (hW : WdR D0) (hwh : D0 479 37 = 0) (N : Nat) (hN : N ≤ 401) (hS : RgO bs D0 s o P D) (hz : szS s ≤ N) (a : Int) : XC 2 204 [.inr (some 479), .inl a] (xS n, R, D) (some (.inl (bi (6 ≤ a ∧ a ≤ 16)))) (xS n, R, D) := by
  refine XC_of (Nat.le_of_ble_eq_true rfl) (Nat.le_of_ble_eq_true rfl) (loc := [_, _]) rfl ?_
  refine xx_aload_n (q := 1) rfl rfl rfl ?_
  refine xx_gez (q := 4) rfl rfl rfl xS_479 (Nat.le_of_ble_eq_true rfl) rfl ((hS.2.2.2.2.2.2.2 479 37 (by omega) (by omega) (by omega)).trans hwh) ?_
  refine xx_if_ne (q := 17) (q2 := 7) rfl rfl rfl (fun h4 => (by exfalso; omega)) (fun _ => ?_)
  refine xx_aload_n (q := 8) rfl rfl rfl ?_
  refine xx_iload_n (q := 9) rfl rfl rfl ?_
  refine xx_bipush (q := 11) rfl rfl (by decide) ?_
  refine xx_bipush (q := 13) rfl rfl (by decide) ?_
  refine xx_callV (q := 16) (As := [_, _, _]) (rest := []) rfl rfl rfl (Or.inl rfl) rfl rfl (Nat.le_of_ble_eq_true rfl) xS_479 (XCm (r_isIn a 6 16) rfl) rfl ?_
  exact xx_iret rfl (bi_01 _) ⟨congrArg (fun z => some (Sum.inl z)) (by grind [bi]), rfl⟩
set_option maxHeartbeats 2000000 in
theorem r_unitG {n : Nat} {R : Nat → Nat → Option Nat} {D0 D : KK} {bs : List Int} {s : Sg} {o : Int} {P : Option (List Int)} (hR : RF R) (hT : TpR bs D0) (hl4 : bs.length ≤ 400) (hby : ∀ j, 0 ≤ bs.getD j 0 ∧ bs.getD j 0 ≤ 255) (hW : WdR D0) (hwh : D0 479 37 = 0) (N : Nat) (hN : N ≤ 401) (hS : RgO bs D0 s o P D) (hz : szS s ≤ N) : ∃ z D', XC 4 205 [.inr (some 479)] (xS n, R, D) (some (.inl z)) (xS n, R, D') ∧ RgQ bs D0 N (unF 0 s) o P z D' := by
  obtain ⟨hK, hw, hkd, hl1⟩ := hS.hd
  refine XG_of (Nat.le_of_ble_eq_true rfl) (Nat.le_of_ble_eq_true rfl) (loc := [_, _]) rfl ?_
  refine xx_aload_n (q := 1) rfl rfl rfl ?_
  refine xx_gez (q := 4) rfl rfl rfl xS_479 (Nat.le_of_ble_eq_true rfl) rfl rfl ?_
  refine xx_iconst (q := 5) rfl rfl (by decide) ?_
  refine xx_icmp_ne (q := 23) (q2 := 8) rfl rfl rfl (fun h5 => ?_) (fun h5 => ?_)
  · refine xx_iconst (q := 24) rfl rfl (by decide) ?_
    refine xx_istore_n (q := 25) (loc2 := [_, _]) rfl rfl (Nat.le_of_ble_eq_true rfl) rfl ?_
    refine xx_iload_n (q := 26) rfl rfl rfl ?_
    refine xx_if_ne (q := 43) (q2 := 29) rfl rfl rfl (fun h26 => (by exfalso; omega)) (fun _ => ?_)
    refine xx_aload_n (q := 30) rfl rfl rfl ?_
    refine xx_gez (q := 33) rfl rfl rfl xS_479 (Nat.le_of_ble_eq_true rfl) rfl rfl ?_
    refine xx_iconst (q := 34) rfl rfl (by decide) ?_
    refine xx_icmp_eq (q := 43) (q2 := 37) rfl rfl rfl (fun h34 => ?_) (fun h34 => ?_)
    · have hyN : (hdT s.1).1 = 256 := (tok_n hK hw).mp h34
      have hne0 : kdS s ≠ 258 := by rw [hkd]; omega
      have hl2 := hS.l2 hne0
      have hlt : s.2.length < 400 := by unfold szS at hz; omega
      have hvv := (hK.2.2.2.1 hyN).2
      have hvb : 0 ≤ (hdT s.1).2.2 := by rcases hw with e | e | ⟨_, e, _⟩ | ⟨e, _⟩ | e <;> omega
      have hoN : opR (vlT s.1) = (0, D 479 28) := by
        rw [hvv]
        exact if_pos hvb
      refine xx_aload_n (q := 44) rfl rfl rfl ?_
      refine xx_iload_n (q := 45) rfl rfl rfl ?_
      refine xx_if_eq (q := 52) (q2 := 48) rfl rfl rfl (fun _ => ?_) (fun h45 => (by exfalso; omega))
      refine xx_iconst (q := 53) rfl rfl (by decide) ?_
      refine xx_iload_n (q := 54) rfl rfl rfl ?_
      refine xx_if_eq (q := 67) (q2 := 57) rfl rfl rfl (fun _ => ?_) (fun h54 => (by exfalso; omega))
      refine xx_aload_n (q := 68) rfl rfl rfl ?_
      refine xx_gez (q := 71) rfl rfl rfl xS_479 (Nat.le_of_ble_eq_true rfl) rfl rfl ?_
      obtain ⟨D1, hx1, hS1⟩ := r_emits (n := n) hR hS (vlT s.1) 0 (D 479 28) (hoN) (by omega)
      have hsw : szS (wtS (vlT s.1) s) = szS s + 1 := sz_wt (by omega)
      have hne : kdS (wtS (vlT s.1) s) ≠ 258 := hne0
      refine xx_callV (q := 74) (As := [_, _]) (rest := []) rfl rfl rfl (Or.inl rfl) rfl rfl (Nat.le_of_ble_eq_true rfl) xS_479 (XCm hx1 rfl) rfl ?_
      refine xx_aload_n (q := 75) rfl rfl rfl ?_
      obtain ⟨D2, hx2, hS2, hs2⟩ := r_nexT (n := n) hR hT hl4 hby hW hS1 (hne)
      refine xx_callV (q := 78) (As := []) (rest := []) rfl rfl rfl (Or.inl rfl) rfl rfl (Nat.le_of_ble_eq_true rfl) xS_479 (XCm hx2 rfl) rfl ?_
      refine xx_iconst (q := 79) rfl rfl (by decide) ?_
      refine xx_iret rfl trivial ⟨_, _, rfl, rfl, ?_⟩
      rw [show unF 0 s = stS (wtS (vlT s.1) s) from if_pos (by rw [hkd]; exact hyN)]
      exact Or.inl ⟨hS2.2.2.1, rfl, hS2, by omega⟩
    · have hnA : ¬ ftP 0 ((hdT s.1).1 - 307) := fun q => by
        have h2k : ¬ (300 ≤ (hdT s.1).1 ∧ (hdT s.1).1 ≤ 330) := fun r => h5 ((tok_2 hK hw).mpr r)
        rcases q with q | q
        · omega
        · revert q; split <;> (intro q; omega)
      refine xx_aload_n (q := 38) rfl rfl rfl ?_
      refine xx_iconst (q := 39) rfl rfl (by decide) ?_
      obtain ⟨D3, hx3, hF3⟩ := r_errs (n := n) hR hS 1
      refine xx_callV (q := 42) (As := [_]) (rest := []) rfl rfl rfl (Or.inl rfl) rfl rfl (Nat.le_of_ble_eq_true rfl) xS_479 (XCm hx3 rfl) rfl ?_
      refine xx_iret rfl trivial ⟨_, _, rfl, rfl, ?_⟩
      rw [show unF 0 s = wrS 1 s from (if_neg (by rw [hkd]; exact fun q => h34 ((tok_n hK hw).mpr q))).trans (if_neg (by rw [hkd]; exact hnA))]
      exact Or.inr ⟨by rw [show (wrS 1 s).1 = _ from if_pos hS.2.2.1]; exact (by decide : (1 : Int) ≠ 0), rfl, hF3⟩
  · refine xx_aload_n (q := 9) rfl rfl rfl ?_
    refine xx_aload_n (q := 10) rfl rfl rfl ?_
    refine xx_gez (q := 13) rfl rfl rfl xS_479 (Nat.le_of_ble_eq_true rfl) rfl rfl ?_
    refine xx_callV (q := 16) (As := [_]) (rest := []) rfl rfl rfl (Or.inl rfl) rfl rfl (Nat.le_of_ble_eq_true rfl) xS_479 (XCm (r_canAskG (n := n) hR hT hl4 hby hW hwh N hN hS hz (D 479 28)) rfl) rfl ?_
    refine xx_ifb_eq (q := 23) (q2 := 19) rfl rfl rfl (fun h16 => ?_) (fun h16 => ?_)
    · refine xx_iconst (q := 24) rfl rfl (by decide) ?_
      refine xx_istore_n (q := 25) (loc2 := [_, _]) rfl rfl (Nat.le_of_ble_eq_true rfl) rfl ?_
      refine xx_iload_n (q := 26) rfl rfl rfl ?_
      refine xx_if_ne (q := 43) (q2 := 29) rfl rfl rfl (fun h26 => (by exfalso; omega)) (fun _ => ?_)
      refine xx_aload_n (q := 30) rfl rfl rfl ?_
      refine xx_gez (q := 33) rfl rfl rfl xS_479 (Nat.le_of_ble_eq_true rfl) rfl rfl ?_
      refine xx_iconst (q := 34) rfl rfl (by decide) ?_
      refine xx_icmp_eq (q := 43) (q2 := 37) rfl rfl rfl (fun h34 => ?_) (fun h34 => ?_)
      · have hyN : (hdT s.1).1 = 256 := (tok_n hK hw).mp h34
        have hne0 : kdS s ≠ 258 := by rw [hkd]; omega
        have hl2 := hS.l2 hne0
        have hlt : s.2.length < 400 := by unfold szS at hz; omega
        have hvv := (hK.2.2.2.1 hyN).2
        have hvb : 0 ≤ (hdT s.1).2.2 := by rcases hw with e | e | ⟨_, e, _⟩ | ⟨e, _⟩ | e <;> omega
        have hoN : opR (vlT s.1) = (0, D 479 28) := by
          rw [hvv]
          exact if_pos hvb
        refine xx_aload_n (q := 44) rfl rfl rfl ?_
        refine xx_iload_n (q := 45) rfl rfl rfl ?_
        refine xx_if_eq (q := 52) (q2 := 48) rfl rfl rfl (fun _ => ?_) (fun h45 => (by exfalso; omega))
        refine xx_iconst (q := 53) rfl rfl (by decide) ?_
        refine xx_iload_n (q := 54) rfl rfl rfl ?_
        refine xx_if_eq (q := 67) (q2 := 57) rfl rfl rfl (fun _ => ?_) (fun h54 => (by exfalso; omega))
        refine xx_aload_n (q := 68) rfl rfl rfl ?_
        refine xx_gez (q := 71) rfl rfl rfl xS_479 (Nat.le_of_ble_eq_true rfl) rfl rfl ?_
        obtain ⟨D4, hx4, hS4⟩ := r_emits (n := n) hR hS (vlT s.1) 0 (D 479 28) (hoN) (by omega)
        have hsw : szS (wtS (vlT s.1) s) = szS s + 1 := sz_wt (by omega)
        have hne : kdS (wtS (vlT s.1) s) ≠ 258 := hne0
        refine xx_callV (q := 74) (As := [_, _]) (rest := []) rfl rfl rfl (Or.inl rfl) rfl rfl (Nat.le_of_ble_eq_true rfl) xS_479 (XCm hx4 rfl) rfl ?_
        refine xx_aload_n (q := 75) rfl rfl rfl ?_
        obtain ⟨D5, hx5, hS5, hs5⟩ := r_nexT (n := n) hR hT hl4 hby hW hS4 (hne)
        refine xx_callV (q := 78) (As := []) (rest := []) rfl rfl rfl (Or.inl rfl) rfl rfl (Nat.le_of_ble_eq_true rfl) xS_479 (XCm hx5 rfl) rfl ?_
        refine xx_iconst (q := 79) rfl rfl (by decide) ?_
        refine xx_iret rfl trivial ⟨_, _, rfl, rfl, ?_⟩
        rw [show unF 0 s = stS (wtS (vlT s.1) s) from if_pos (by rw [hkd]; exact hyN)]
        exact Or.inl ⟨hS5.2.2.1, rfl, hS5, by omega⟩
      · have hnA : ¬ ftP 0 ((hdT s.1).1 - 307) := fun q => by
          have h2k := (tok_2 hK hw).mp h5
          have hvw := (hK.2.2.2.2.2 h2k.1).2
          have hca := canA ((hdT s.1).1 - 300).toNat (by omega)
          rw [show ((((hdT s.1).1 - 300).toNat : Nat) : Int) - 7 = (hdT s.1).1 - 307 by omega] at hca
          apply h16
          rw [hvw]
          exact (hca.1).mpr q
        refine xx_aload_n (q := 38) rfl rfl rfl ?_
        refine xx_iconst (q := 39) rfl rfl (by decide) ?_
        obtain ⟨D6, hx6, hF6⟩ := r_errs (n := n) hR hS 1
        refine xx_callV (q := 42) (As := [_]) (rest := []) rfl rfl rfl (Or.inl rfl) rfl rfl (Nat.le_of_ble_eq_true rfl) xS_479 (XCm hx6 rfl) rfl ?_
        refine xx_iret rfl trivial ⟨_, _, rfl, rfl, ?_⟩
        rw [show unF 0 s = wrS 1 s from (if_neg (by rw [hkd]; exact fun q => h34 ((tok_n hK hw).mpr q))).trans (if_neg (by rw [hkd]; exact hnA))]
        exact Or.inr ⟨by rw [show (wrS 1 s).1 = _ from if_pos hS.2.2.1]; exact (by decide : (1 : Int) ≠ 0), rfl, hF6⟩
    · refine xx_iconst (q := 20) rfl rfl (by decide) ?_
      refine xx_goto (q := 24) rfl rfl ?_
      refine xx_istore_n (q := 25) (loc2 := [_, _]) rfl rfl (Nat.le_of_ble_eq_true rfl) rfl ?_
      refine xx_iload_n (q := 26) rfl rfl rfl ?_
      refine xx_if_ne (q := 43) (q2 := 29) rfl rfl rfl (fun _ => ?_) (fun h26 => (by exfalso; omega))
      have h2k := (tok_2 hK hw).mp h5
      have hvw := (hK.2.2.2.2.2 h2k.1).2
      have hca := canA ((hdT s.1).1 - 300).toNat (by omega)
      have hyA : ftP 0 ((hdT s.1).1 - 307) := by
        rw [hvw] at h16
        have h := (hca.1).mp h16
        rw [show ((((hdT s.1).1 - 300).toNat : Nat) : Int) - 7 = (hdT s.1).1 - 307 by omega] at h
        exact h
      have hne0 : kdS s ≠ 258 := by rw [hkd]; omega
      have hl2 := hS.l2 hne0
      have hlt : s.2.length < 400 := by unfold szS at hz; omega
      have hoA : opR (-1 - (kdS s - 307)) = (1, D 479 28 - 6) := by
        have hf : 0 ≤ (hdT s.1).1 - 307 ∧ (hdT s.1).1 - 307 < 15 := by
          rcases hyA with q | q
          · omega
          · revert q; split <;> (intro q; omega)
        have h := wmp_f ((hdT s.1).1 - 307).toNat (by omega)
        rw [show ((((hdT s.1).1 - 307).toNat : Nat) : Int) = (hdT s.1).1 - 307 by omega, show 307 + ((hdT s.1).1 - 307) = (hdT s.1).1 by omega] at h
        rw [hkd]
        exact Prod.ext h.2 (by rw [← h.1, hvw])
      refine xx_aload_n (q := 44) rfl rfl rfl ?_
      refine xx_iload_n (q := 45) rfl rfl rfl ?_
      refine xx_if_eq (q := 52) (q2 := 48) rfl rfl rfl (fun h45 => (by exfalso; omega)) (fun _ => ?_)
      refine xx_iconst (q := 49) rfl rfl (by decide) ?_
      refine xx_goto (q := 53) rfl rfl ?_
      refine xx_iload_n (q := 54) rfl rfl rfl ?_
      refine xx_if_eq (q := 67) (q2 := 57) rfl rfl rfl (fun h54 => (by exfalso; omega)) (fun _ => ?_)
      refine xx_aload_n (q := 58) rfl rfl rfl ?_
      refine xx_gez (q := 61) rfl rfl rfl xS_479 (Nat.le_of_ble_eq_true rfl) rfl rfl ?_
      refine xx_bipush (q := 63) rfl rfl (by decide) ?_
      refine xx_isubR (q := 64) rfl rfl (by omega) (by omega) ?_
      refine xx_goto (q := 71) rfl rfl ?_
      obtain ⟨D7, hx7, hS7⟩ := r_emits (n := n) hR hS (-1 - (kdS s - 307)) 1 ((D 479 28) - 6) (hoA) (by omega)
      have hsw : szS (wtS (-1 - (kdS s - 307)) s) = szS s + 1 := sz_wt (by omega)
      have hne : kdS (wtS (-1 - (kdS s - 307)) s) ≠ 258 := hne0
      refine xx_callV (q := 74) (As := [_, _]) (rest := []) rfl rfl rfl (Or.inl rfl) rfl rfl (Nat.le_of_ble_eq_true rfl) xS_479 (XCm hx7 rfl) rfl ?_
      refine xx_aload_n (q := 75) rfl rfl rfl ?_
      obtain ⟨D8, hx8, hS8, hs8⟩ := r_nexT (n := n) hR hT hl4 hby hW hS7 (hne)
      refine xx_callV (q := 78) (As := []) (rest := []) rfl rfl rfl (Or.inl rfl) rfl rfl (Nat.le_of_ble_eq_true rfl) xS_479 (XCm hx8 rfl) rfl ?_
      refine xx_iconst (q := 79) rfl rfl (by decide) ?_
      refine xx_iret rfl trivial ⟨_, _, rfl, rfl, ?_⟩
      rw [show unF 0 s = stS (wtS (-1 - (kdS s - 307)) s) from (if_neg (by rw [hkd]; omega)).trans (if_pos (by rw [hkd]; exact hyA))]
      exact Or.inl ⟨hS8.2.2.1, rfl, hS8, by omega⟩
theorem st_ts {s : Sg} : (stS s).1.2.2.length = (if 1 < s.1.2.2.length then s.1.2.2.length - 1 else s.1.2.2.length) := by
  unfold stS stT
  show (if 1 < s.1.2.2.length then s.1.2.2.tail else s.1.2.2).length = _
  split
  · rw [List.length_tail]
  · rfl
theorem wr_ts {s : Sg} {k : Int} : (wrS k s).1.2.2 = s.1.2.2 := by
  unfold wrS wrT
  show (if s.1.1 = 0 then (k, (hdT s.1).2.1, s.1.2.2) else s.1).2.2 = _
  split <;> rfl
theorem st_le {s : Sg} : (stS s).1.2.2.length ≤ s.1.2.2.length := by
  rw [st_ts]
  split <;> omega
theorem st_l2 {s : Sg} (h : 2 ≤ s.1.2.2.length) : (stS s).1.2.2.length + 1 = s.1.2.2.length := by
  rw [st_ts, if_pos (by omega)]
  omega
theorem un_ts {h : Int} {s : Sg} : (unF h s).1.2.2.length ≤ s.1.2.2.length := by
  unfold unF
  split
  · exact st_le (s := wtS (vlT s.1) s)
  · split
    · exact st_le (s := wtS (-1 - (kdS s - 307)) s)
    · rw [wr_ts]; exact Nat.le_refl _
set_option maxHeartbeats 4000000 in
theorem r_prG_L {n : Nat} {R : Nat → Nat → Option Nat} {D0 : KK} {bs : List Int} {o : Int} {P : Option (List Int)} (hR : RF R) (hT : TpR bs D0) (hl4 : bs.length ≤ 400) (hby : ∀ j, 0 ≤ bs.getD j 0 ∧ bs.getD j 0 ≤ 255) (hW : WdR D0) (hwh : D0 479 37 = 0) (N : Nat) (hN : N ≤ 401) : ∀ (k : Nat) (s : Sg) (D : KK) (x : Option XV), RgO bs D0 s o P D → szS s ≤ N → s.1.2.2.length ≤ k + 1 → XX (XC 4) 206 (RgX bs D0 N (prL 0 k s) o P n R) 10 [some (.inr (some 479)), x] [] (xS n, R, D) := by
  intro k
  induction k using Nat.strongRecOn with
  | ind k ih =>
  intro s D x hS hz hlk
  refine xx_aload_n (q := 11) rfl rfl rfl ?_
  refine xx_bipush (q := 13) rfl rfl (by decide) ?_
  refine xx_callV (q := 16) (As := [_]) (rest := []) rfl rfl rfl (Or.inl rfl) rfl rfl (Nat.le_of_ble_eq_true rfl) xS_479 (XCm (r_isSign (n := n) hR hS 42 (by omega)) rfl) rfl ?_
  refine xx_ifb_ne (q := 28) (q2 := 19) rfl rfl rfl (fun h16 => ?_) (fun h16 => ?_)
  · refine xx_aload_n (q := 29) rfl rfl rfl ?_
    refine xx_bipush (q := 31) rfl rfl (by decide) ?_
    refine xx_callV (q := 34) (As := [_]) (rest := []) rfl rfl rfl (Or.inl rfl) rfl rfl (Nat.le_of_ble_eq_true rfl) xS_479 (XCm (r_isSign (n := n) hR hS 42 (by omega)) rfl) rfl ?_
    refine xx_istore_n (q := 35) (loc2 := [_, _]) rfl rfl (Nat.le_of_ble_eq_true rfl) rfl ?_
    refine xx_aload_n (q := 36) rfl rfl rfl ?_
    have hne : kdS s ≠ 258 := by omega
    obtain ⟨D1, hx1, hS1, hs1⟩ := r_nexT (n := n) hR hT hl4 hby hW hS (hne)
    obtain ⟨hK2, hw2, hkd2, hl2⟩ := hS1.hd
    refine xx_callV (q := 39) (As := []) (rest := []) rfl rfl rfl (Or.inl rfl) rfl rfl (Nat.le_of_ble_eq_true rfl) xS_479 (XCm hx1 rfl) rfl ?_
    refine xx_iload_n (q := 40) rfl rfl rfl ?_
    refine xx_ifb_ne (q := 57) (q2 := 43) rfl rfl rfl (fun _ => ?_) (fun h40 => (by exfalso; (exact h40 h16)))
    refine xx_iload_n (q := 58) rfl rfl rfl ?_
    refine xx_ifb_ne (q := 74) (q2 := 61) rfl rfl rfl (fun _ => ?_) (fun h58 => (by exfalso; (exact h58 h16)))
    refine xx_aload_n (q := 75) rfl rfl rfl ?_
    obtain ⟨z2, D2, hx2, hq2⟩ := r_unitG (n := n) hR hT hl4 hby hW hwh (N - 1) (by omega) hS1 (by omega)
    refine xx_callV (q := 78) (As := []) (rest := []) rfl rfl rfl (Or.inl rfl) rfl rfl (Nat.le_of_ble_eq_true rfl) xS_479 (XCm hx2 rfl) rfl ?_
    refine xx_iconst (q := 79) rfl rfl (by decide) ?_
    refine xx_icmp_ne (q := 84) (q2 := 82) rfl rfl rfl (fun h79 => ?_) (fun h79 => ?_)
    · replace hq2 := hq2.resolve_right (fun q => h79 q.2.1)
      refine xx_aload_n (q := 85) rfl rfl rfl ?_
      refine xx_iload_n (q := 86) rfl rfl rfl ?_
      refine xx_ifb_eq (q := 93) (q2 := 89) rfl rfl rfl (fun h86 => (by exfalso; (exact h86 h16))) (fun _ => ?_)
      refine xx_iconst (q := 90) rfl rfl (by decide) ?_
      refine xx_goto (q := 94) rfl rfl ?_
      refine xx_iconst (q := 95) rfl rfl (by decide) ?_
      have hlt3 : (unF 0 (stS s)).2.length < 400 := by have := hq2.2.2.1.hd.2.2.2; have hzz := hq2.2.2.2; unfold szS at hzz; omega
      obtain ⟨D3, hx3, hS3⟩ := r_emits (n := n) hR hq2.2.2.1 (-22) 4 0 (by first | rfl | decide) hlt3
      have hsw3 := sz_wt (op := -22) hlt3
      refine xx_callV (q := 98) (As := [_, _]) (rest := []) rfl rfl rfl (Or.inl rfl) rfl rfl (Nat.le_of_ble_eq_true rfl) xS_479 (XCm hx3 rfl) rfl ?_
      refine xx_goto (q := 10) rfl rfl ?_
      obtain ⟨k, rfl⟩ : ∃ k2, k = k2 + 1 := ⟨k - 1, by have := hS.l2 hne; omega⟩
      have e2 : prL 0 (k + 1) s = prL 0 k (wtS (-22) (unF 0 (stS s))) := if_pos h16
      rw [e2]
      have hsl : (wtS (-22) (unF 0 (stS s))).1.2.2.length ≤ k + 1 := by
        have hu := un_ts (h := 0) (s := stS s)
        have hsl2 := st_l2 (hS.l2 hne)
        show (unF 0 (stS s)).1.2.2.length ≤ k + 1
        omega
      exact ih k (by omega) _ _ _ hS3 (by omega) hsl
    · refine xx_iconst (q := 83) rfl rfl (by decide) ?_
      obtain ⟨k, rfl⟩ : ∃ k2, k = k2 + 1 := ⟨k - 1, by have := hS.l2 hne; omega⟩
      refine xx_iret rfl trivial ⟨_, _, rfl, rfl, ?_⟩
      replace hq2 := hq2.resolve_left (fun q => by have := q.2.1; omega)
      have e2 : prL 0 (k + 1) s = wtS (-22) (unF 0 (stS s)) := (if_pos h16).trans (prL_d (s := wtS (-22) (unF 0 (stS s))) hq2.1 k)
      rw [e2]
      exact Or.inr ⟨hq2.1, rfl, hq2.2.2⟩
  · refine xx_aload_n (q := 20) rfl rfl rfl ?_
    refine xx_bipush (q := 22) rfl rfl (by decide) ?_
    refine xx_callV (q := 25) (As := [_]) (rest := []) rfl rfl rfl (Or.inl rfl) rfl rfl (Nat.le_of_ble_eq_true rfl) xS_479 (XCm (r_isSign (n := n) hR hS 47 (by omega)) rfl) rfl ?_
    refine xx_ifb_eq (q := 101) (q2 := 28) rfl rfl rfl (fun h25 => ?_) (fun h25 => ?_)
    · refine xx_iconst (q := 102) rfl rfl (by decide) ?_
      refine xx_iret rfl trivial ⟨_, _, rfl, rfl, ?_⟩
      rw [show prL 0 k s = s from by cases k with | zero => rfl | succ k => exact (if_neg h16).trans (if_neg h25)]
      exact Or.inl ⟨hS.2.2.1, rfl, hS, hz⟩
    · refine xx_aload_n (q := 29) rfl rfl rfl ?_
      refine xx_bipush (q := 31) rfl rfl (by decide) ?_
      refine xx_callV (q := 34) (As := [_]) (rest := []) rfl rfl rfl (Or.inl rfl) rfl rfl (Nat.le_of_ble_eq_true rfl) xS_479 (XCm (r_isSign (n := n) hR hS 42 (by omega)) rfl) rfl ?_
      refine xx_istore_n (q := 35) (loc2 := [_, _]) rfl rfl (Nat.le_of_ble_eq_true rfl) rfl ?_
      refine xx_aload_n (q := 36) rfl rfl rfl ?_
      have hne : kdS s ≠ 258 := by omega
      obtain ⟨D4, hx4, hS4, hs4⟩ := r_nexT (n := n) hR hT hl4 hby hW hS (hne)
      obtain ⟨hK2, hw2, hkd2, hl2⟩ := hS4.hd
      refine xx_callV (q := 39) (As := []) (rest := []) rfl rfl rfl (Or.inl rfl) rfl rfl (Nat.le_of_ble_eq_true rfl) xS_479 (XCm hx4 rfl) rfl ?_
      refine xx_iload_n (q := 40) rfl rfl rfl ?_
      refine xx_ifb_ne (q := 57) (q2 := 43) rfl rfl rfl (fun h40 => (by exfalso; (exact h16 h40))) (fun _ => ?_)
      refine xx_aload_n (q := 44) rfl rfl rfl ?_
      refine xx_gez (q := 47) rfl rfl rfl xS_479 (Nat.le_of_ble_eq_true rfl) rfl rfl ?_
      refine xx_iconst (q := 48) rfl rfl (by decide) ?_
      refine xx_icmp_eq (q := 57) (q2 := 51) rfl rfl rfl (fun h48 => ?_) (fun h48 => ?_)
      · refine xx_iload_n (q := 58) rfl rfl rfl ?_
        refine xx_ifb_ne (q := 74) (q2 := 61) rfl rfl rfl (fun h58 => (by exfalso; (exact h16 h58))) (fun _ => ?_)
        refine xx_aload_n (q := 62) rfl rfl rfl ?_
        refine xx_gez (q := 65) rfl rfl rfl xS_479 (Nat.le_of_ble_eq_true rfl) rfl rfl ?_
        refine xx_if_ne (q := 74) (q2 := 68) rfl rfl rfl (fun h65 => ?_) (fun h65 => ?_)
        · have hv3 := (hK2.2.2.2.1 ((tok_n hK2 hw2).mp h48)).2
          have hk7 := (tok_n hK2 hw2).mp h48
          have hvb : 0 ≤ (hdT (stS s).1).2.2 ∧ (hdT (stS s).1).2.2 ≤ 9999 := by rcases hw2 with e | e | ⟨_, e⟩ | ⟨e, _⟩ | e <;> first | exact e | (exfalso; omega)
          have hv4 : vlT (stS s).1 = D4 479 28 := hv3.symm
          have hv5 : 0 ≤ vlT (stS s).1 ∧ vlT (stS s).1 ≤ 9999 := hvb
          refine xx_aload_n (q := 75) rfl rfl rfl ?_
          have hk6 : kdS (stS s) = 256 := by rw [hkd2]; exact (tok_n hK2 hw2).mp h48
          obtain ⟨z5, D5, hx5, hq5⟩ := r_unitG (n := n) hR hT hl4 hby hW hwh (N - 1) (by omega) hS4 (by omega)
          refine xx_callV (q := 78) (As := []) (rest := []) rfl rfl rfl (Or.inl rfl) rfl rfl (Nat.le_of_ble_eq_true rfl) xS_479 (XCm hx5 rfl) rfl ?_
          refine xx_iconst (q := 79) rfl rfl (by decide) ?_
          refine xx_icmp_ne (q := 84) (q2 := 82) rfl rfl rfl (fun h79 => ?_) (fun h79 => ?_)
          · replace hq5 := hq5.resolve_right (fun q => h79 q.2.1)
            refine xx_aload_n (q := 85) rfl rfl rfl ?_
            refine xx_iload_n (q := 86) rfl rfl rfl ?_
            refine xx_ifb_eq (q := 93) (q2 := 89) rfl rfl rfl (fun _ => ?_) (fun h86 => (by exfalso; (exact h16 h86)))
            refine xx_iconst (q := 94) rfl rfl (by decide) ?_
            refine xx_iconst (q := 95) rfl rfl (by decide) ?_
            have hlt6 : (unF 0 (stS s)).2.length < 400 := by have := hq5.2.2.1.hd.2.2.2; have hzz := hq5.2.2.2; unfold szS at hzz; omega
            obtain ⟨D6, hx6, hS6⟩ := r_emits (n := n) hR hq5.2.2.1 (-23) 5 0 (by first | rfl | decide) hlt6
            have hsw6 := sz_wt (op := -23) hlt6
            refine xx_callV (q := 98) (As := [_, _]) (rest := []) rfl rfl rfl (Or.inl rfl) rfl rfl (Nat.le_of_ble_eq_true rfl) xS_479 (XCm hx6 rfl) rfl ?_
            refine xx_goto (q := 10) rfl rfl ?_
            obtain ⟨k, rfl⟩ : ∃ k2, k = k2 + 1 := ⟨k - 1, by have := hS.l2 hne; omega⟩
            have e3 : unF 0 (stS s) = wtS (vlT (stS s).1) (nwS 1 9999 (stS s)) := by
              rw [show unF 0 (stS s) = stS (wtS (vlT (stS s).1) (stS s)) from if_pos hk6, show nwS 1 9999 (stS s) = (stT (stS s).1, (stS s).2) from congrArg (fun t => (stT t, (stS s).2)) ((if_pos hk6).trans (if_pos ⟨by omega, by omega⟩))]
              rfl
            have e2 : prL 0 (k + 1) s = prL 0 k (wtS (-23) (unF 0 (stS s))) := (if_neg h16).trans ((if_pos h25).trans (by rw [e3]))
            rw [e2]
            have hsl : (wtS (-23) (unF 0 (stS s))).1.2.2.length ≤ k + 1 := by
              have hu := un_ts (h := 0) (s := stS s)
              have hsl2 := st_l2 (hS.l2 hne)
              show (unF 0 (stS s)).1.2.2.length ≤ k + 1
              omega
            exact ih k (by omega) _ _ _ hS6 (by omega) hsl
          · refine xx_iconst (q := 83) rfl rfl (by decide) ?_
            obtain ⟨k, rfl⟩ : ∃ k2, k = k2 + 1 := ⟨k - 1, by have := hS.l2 hne; omega⟩
            exfalso
            rcases hq5 with q | q
            · have := q.2.1; omega
            · exact q.1 (by rw [show unF 0 (stS s) = stS (wtS (vlT (stS s).1) (stS s)) from if_pos hk6]; exact hS4.2.2.1)
        · refine xx_aload_n (q := 69) rfl rfl rfl ?_
          refine xx_iconst (q := 70) rfl rfl (by decide) ?_
          obtain ⟨D7, hx7, hF7⟩ := r_errs (n := n) hR hS4 2
          refine xx_callV (q := 73) (As := [_]) (rest := []) rfl rfl rfl (Or.inl rfl) rfl rfl (Nat.le_of_ble_eq_true rfl) xS_479 (XCm hx7 rfl) rfl ?_
          obtain ⟨k, rfl⟩ : ∃ k2, k = k2 + 1 := ⟨k - 1, by have := hS.l2 hne; omega⟩
          refine xx_iret rfl trivial ⟨_, _, rfl, rfl, ?_⟩
          have e1 : nwS 1 9999 (stS s) = (stT (wrT 2 (stS s).1), (stS s).2) := congrArg (fun t => (stT t, (stS s).2)) ((if_pos (hkd2.trans ((tok_n hK2 hw2).mp h48))).trans (if_neg (fun q => by have hv0 := (hK2.2.2.2.1 ((tok_n hK2 hw2).mp h48)).2; have : vlT (stS s).1 = 0 := hv0.symm.trans h65; omega)))
          have hd : (wrT 2 (stS s).1).1 ≠ 0 := by rw [show wrT 2 (stS s).1 = _ from if_pos hS4.2.2.1]; exact (by decide : (2 : Int) ≠ 0)
          have e2 : prL 0 (k + 1) s = wtS (-23) (wtS (vlT (stS s).1) (nwS 1 9999 (stS s))) := (if_neg h16).trans ((if_pos h25).trans (prL_d (by rw [e1]; exact hd) k))
          rw [e2, e1]
          exact Or.inr ⟨hd, rfl, hF7⟩
      · refine xx_aload_n (q := 52) rfl rfl rfl ?_
        refine xx_iconst (q := 53) rfl rfl (by decide) ?_
        obtain ⟨D8, hx8, hF8⟩ := r_errs (n := n) hR hS4 1
        refine xx_callV (q := 56) (As := [_]) (rest := []) rfl rfl rfl (Or.inl rfl) rfl rfl (Nat.le_of_ble_eq_true rfl) xS_479 (XCm hx8 rfl) rfl ?_
        obtain ⟨k, rfl⟩ : ∃ k2, k = k2 + 1 := ⟨k - 1, by have := hS.l2 hne; omega⟩
        refine xx_iret rfl trivial ⟨_, _, rfl, rfl, ?_⟩
        have e1 : nwS 1 9999 (stS s) = (stT (wrT 1 (stS s).1), (stS s).2) := congrArg (fun t => (stT t, (stS s).2)) (if_neg (fun q => h48 ((tok_n hK2 hw2).mpr (hkd2.symm.trans q))))
        have hd : (wrT 1 (stS s).1).1 ≠ 0 := by rw [show wrT 1 (stS s).1 = _ from if_pos hS4.2.2.1]; exact (by decide : (1 : Int) ≠ 0)
        have e2 : prL 0 (k + 1) s = wtS (-23) (wtS (vlT (stS s).1) (nwS 1 9999 (stS s))) := (if_neg h16).trans ((if_pos h25).trans (prL_d (by rw [e1]; exact hd) k))
        rw [e2, e1]
        exact Or.inr ⟨hd, rfl, hF8⟩
theorem r_prodG {n : Nat} {R : Nat → Nat → Option Nat} {D0 D : KK} {bs : List Int} {s : Sg} {o : Int} {P : Option (List Int)} (hR : RF R) (hT : TpR bs D0) (hl4 : bs.length ≤ 400) (hby : ∀ j, 0 ≤ bs.getD j 0 ∧ bs.getD j 0 ≤ 255) (hW : WdR D0) (hwh : D0 479 37 = 0) (N : Nat) (hN : N ≤ 401) (hS : RgO bs D0 s o P D) (hz : szS s ≤ N) : ∃ z D', XC 5 206 [.inr (some 479)] (xS n, R, D) (some (.inl z)) (xS n, R, D') ∧ RgQ bs D0 N (prF 0 s) o P z D' := by
  refine XG_of (Nat.le_of_ble_eq_true rfl) (Nat.le_of_ble_eq_true rfl) (loc := [_, _]) rfl ?_
  refine xx_aload_n (q := 1) rfl rfl rfl ?_
  obtain ⟨z1, D1, hx1, hq1⟩ := r_unitG (n := n) hR hT hl4 hby hW hwh N hN hS hz
  refine xx_callV (q := 4) (As := []) (rest := []) rfl rfl rfl (Or.inl rfl) rfl rfl (Nat.le_of_ble_eq_true rfl) xS_479 (XCm hx1 rfl) rfl ?_
  refine xx_iconst (q := 5) rfl rfl (by decide) ?_
  refine xx_icmp_ne (q := 10) (q2 := 8) rfl rfl rfl (fun h5 => ?_) (fun h5 => ?_)
  · replace hq1 := hq1.resolve_right (fun q => h5 q.2.1)
    exact r_prG_L hR hT hl4 hby hW hwh N hN 400 _ _ _ hq1.2.2.1 hq1.2.2.2 (by have := un_ts (h := 0) (s := s); unfold szS at hz; omega)
  · refine xx_iconst (q := 9) rfl rfl (by decide) ?_
    refine xx_iret rfl trivial ⟨_, _, rfl, rfl, ?_⟩
    replace hq1 := hq1.resolve_left (fun q => by have := q.2.1; omega)
    rw [show prF 0 s = unF 0 s from prL_d hq1.1 400]
    exact Or.inr ⟨hq1.1, rfl, hq1.2.2⟩
theorem r_canAskH {n : Nat} {R : Nat → Nat → Option Nat} {D0 D : KK} {bs : List Int} {s : Sg} {o : Int} {P : Option (List Int)} (hR : RF R) (hT : TpR bs D0) (hl4 : bs.length ≤ 400) (hby : ∀ j, 0 ≤ bs.getD j 0 ∧ bs.getD j 0 ≤ 255) (hW : WdR D0) (hwh : D0 479 37 = 1) (N : Nat) (hN : N ≤ 401) (hS : RgO bs D0 s o P D) (hz : szS s ≤ N) (a : Int) : XC 2 204 [.inr (some 479), .inl a] (xS n, R, D) (some (.inl (bi ((6 ≤ a ∧ a ≤ 10) ∨ (18 ≤ a ∧ a ≤ 21))))) (xS n, R, D) := by
  refine XC_of (Nat.le_of_ble_eq_true rfl) (Nat.le_of_ble_eq_true rfl) (loc := [_, _]) rfl ?_
  refine xx_aload_n (q := 1) rfl rfl rfl ?_
  refine xx_gez (q := 4) rfl rfl rfl xS_479 (Nat.le_of_ble_eq_true rfl) rfl ((hS.2.2.2.2.2.2.2 479 37 (by omega) (by omega) (by omega)).trans hwh) ?_
  refine xx_if_ne (q := 17) (q2 := 7) rfl rfl rfl (fun _ => ?_) (fun h4 => (by exfalso; omega))
  refine xx_aload_n (q := 18) rfl rfl rfl ?_
  refine xx_iload_n (q := 19) rfl rfl rfl ?_
  refine xx_bipush (q := 21) rfl rfl (by decide) ?_
  refine xx_bipush (q := 23) rfl rfl (by decide) ?_
  refine xx_callV (q := 26) (As := [_, _, _]) (rest := []) rfl rfl rfl (Or.inl rfl) rfl rfl (Nat.le_of_ble_eq_true rfl) xS_479 (XCm (r_isIn a 6 10) rfl) rfl ?_
  refine xx_ifb_ne (q := 41) (q2 := 29) rfl rfl rfl (fun h26 => ?_) (fun h26 => ?_)
  · refine xx_iconst (q := 42) rfl rfl (by decide) ?_
    refine xx_goto (q := 46) rfl rfl ?_
    exact xx_iret rfl (Or.inr rfl) ⟨congrArg (fun z => some (Sum.inl z)) (by grind [bi]), rfl⟩
  · refine xx_aload_n (q := 30) rfl rfl rfl ?_
    refine xx_iload_n (q := 31) rfl rfl rfl ?_
    refine xx_bipush (q := 33) rfl rfl (by decide) ?_
    refine xx_bipush (q := 35) rfl rfl (by decide) ?_
    refine xx_callV (q := 38) (As := [_, _, _]) (rest := []) rfl rfl rfl (Or.inl rfl) rfl rfl (Nat.le_of_ble_eq_true rfl) xS_479 (XCm (r_isIn a 18 21) rfl) rfl ?_
    refine xx_ifb_eq (q := 45) (q2 := 41) rfl rfl rfl (fun h38 => ?_) (fun h38 => ?_)
    · refine xx_iconst (q := 46) rfl rfl (by decide) ?_
      exact xx_iret rfl (Or.inl rfl) ⟨congrArg (fun z => some (Sum.inl z)) (by grind [bi]), rfl⟩
    · refine xx_iconst (q := 42) rfl rfl (by decide) ?_
      refine xx_goto (q := 46) rfl rfl ?_
      exact xx_iret rfl (Or.inr rfl) ⟨congrArg (fun z => some (Sum.inl z)) (by grind [bi]), rfl⟩
set_option maxHeartbeats 2000000 in
theorem r_unitH {n : Nat} {R : Nat → Nat → Option Nat} {D0 D : KK} {bs : List Int} {s : Sg} {o : Int} {P : Option (List Int)} (hR : RF R) (hT : TpR bs D0) (hl4 : bs.length ≤ 400) (hby : ∀ j, 0 ≤ bs.getD j 0 ∧ bs.getD j 0 ≤ 255) (hW : WdR D0) (hwh : D0 479 37 = 1) (N : Nat) (hN : N ≤ 401) (hS : RgO bs D0 s o P D) (hz : szS s ≤ N) : ∃ z D', XC 4 205 [.inr (some 479)] (xS n, R, D) (some (.inl z)) (xS n, R, D') ∧ RgQ bs D0 N (unF 1 s) o P z D' := by
  obtain ⟨hK, hw, hkd, hl1⟩ := hS.hd
  refine XG_of (Nat.le_of_ble_eq_true rfl) (Nat.le_of_ble_eq_true rfl) (loc := [_, _]) rfl ?_
  refine xx_aload_n (q := 1) rfl rfl rfl ?_
  refine xx_gez (q := 4) rfl rfl rfl xS_479 (Nat.le_of_ble_eq_true rfl) rfl rfl ?_
  refine xx_iconst (q := 5) rfl rfl (by decide) ?_
  refine xx_icmp_ne (q := 23) (q2 := 8) rfl rfl rfl (fun h5 => ?_) (fun h5 => ?_)
  · refine xx_iconst (q := 24) rfl rfl (by decide) ?_
    refine xx_istore_n (q := 25) (loc2 := [_, _]) rfl rfl (Nat.le_of_ble_eq_true rfl) rfl ?_
    refine xx_iload_n (q := 26) rfl rfl rfl ?_
    refine xx_if_ne (q := 43) (q2 := 29) rfl rfl rfl (fun h26 => (by exfalso; omega)) (fun _ => ?_)
    refine xx_aload_n (q := 30) rfl rfl rfl ?_
    refine xx_gez (q := 33) rfl rfl rfl xS_479 (Nat.le_of_ble_eq_true rfl) rfl rfl ?_
    refine xx_iconst (q := 34) rfl rfl (by decide) ?_
    refine xx_icmp_eq (q := 43) (q2 := 37) rfl rfl rfl (fun h34 => ?_) (fun h34 => ?_)
    · have hyN : (hdT s.1).1 = 256 := (tok_n hK hw).mp h34
      have hne0 : kdS s ≠ 258 := by rw [hkd]; omega
      have hl2 := hS.l2 hne0
      have hlt : s.2.length < 400 := by unfold szS at hz; omega
      have hvv := (hK.2.2.2.1 hyN).2
      have hvb : 0 ≤ (hdT s.1).2.2 := by rcases hw with e | e | ⟨_, e, _⟩ | ⟨e, _⟩ | e <;> omega
      have hoN : opR (vlT s.1) = (0, D 479 28) := by
        rw [hvv]
        exact if_pos hvb
      refine xx_aload_n (q := 44) rfl rfl rfl ?_
      refine xx_iload_n (q := 45) rfl rfl rfl ?_
      refine xx_if_eq (q := 52) (q2 := 48) rfl rfl rfl (fun _ => ?_) (fun h45 => (by exfalso; omega))
      refine xx_iconst (q := 53) rfl rfl (by decide) ?_
      refine xx_iload_n (q := 54) rfl rfl rfl ?_
      refine xx_if_eq (q := 67) (q2 := 57) rfl rfl rfl (fun _ => ?_) (fun h54 => (by exfalso; omega))
      refine xx_aload_n (q := 68) rfl rfl rfl ?_
      refine xx_gez (q := 71) rfl rfl rfl xS_479 (Nat.le_of_ble_eq_true rfl) rfl rfl ?_
      obtain ⟨D1, hx1, hS1⟩ := r_emits (n := n) hR hS (vlT s.1) 0 (D 479 28) (hoN) (by omega)
      have hsw : szS (wtS (vlT s.1) s) = szS s + 1 := sz_wt (by omega)
      have hne : kdS (wtS (vlT s.1) s) ≠ 258 := hne0
      refine xx_callV (q := 74) (As := [_, _]) (rest := []) rfl rfl rfl (Or.inl rfl) rfl rfl (Nat.le_of_ble_eq_true rfl) xS_479 (XCm hx1 rfl) rfl ?_
      refine xx_aload_n (q := 75) rfl rfl rfl ?_
      obtain ⟨D2, hx2, hS2, hs2⟩ := r_nexT (n := n) hR hT hl4 hby hW hS1 (hne)
      refine xx_callV (q := 78) (As := []) (rest := []) rfl rfl rfl (Or.inl rfl) rfl rfl (Nat.le_of_ble_eq_true rfl) xS_479 (XCm hx2 rfl) rfl ?_
      refine xx_iconst (q := 79) rfl rfl (by decide) ?_
      refine xx_iret rfl trivial ⟨_, _, rfl, rfl, ?_⟩
      rw [show unF 1 s = stS (wtS (vlT s.1) s) from if_pos (by rw [hkd]; exact hyN)]
      exact Or.inl ⟨hS2.2.2.1, rfl, hS2, by omega⟩
    · have hnA : ¬ ftP 1 ((hdT s.1).1 - 307) := fun q => by
        have h2k : ¬ (300 ≤ (hdT s.1).1 ∧ (hdT s.1).1 ≤ 330) := fun r => h5 ((tok_2 hK hw).mpr r)
        rcases q with q | q
        · omega
        · revert q; split <;> (intro q; omega)
      refine xx_aload_n (q := 38) rfl rfl rfl ?_
      refine xx_iconst (q := 39) rfl rfl (by decide) ?_
      obtain ⟨D3, hx3, hF3⟩ := r_errs (n := n) hR hS 1
      refine xx_callV (q := 42) (As := [_]) (rest := []) rfl rfl rfl (Or.inl rfl) rfl rfl (Nat.le_of_ble_eq_true rfl) xS_479 (XCm hx3 rfl) rfl ?_
      refine xx_iret rfl trivial ⟨_, _, rfl, rfl, ?_⟩
      rw [show unF 1 s = wrS 1 s from (if_neg (by rw [hkd]; exact fun q => h34 ((tok_n hK hw).mpr q))).trans (if_neg (by rw [hkd]; exact hnA))]
      exact Or.inr ⟨by rw [show (wrS 1 s).1 = _ from if_pos hS.2.2.1]; exact (by decide : (1 : Int) ≠ 0), rfl, hF3⟩
  · refine xx_aload_n (q := 9) rfl rfl rfl ?_
    refine xx_aload_n (q := 10) rfl rfl rfl ?_
    refine xx_gez (q := 13) rfl rfl rfl xS_479 (Nat.le_of_ble_eq_true rfl) rfl rfl ?_
    refine xx_callV (q := 16) (As := [_]) (rest := []) rfl rfl rfl (Or.inl rfl) rfl rfl (Nat.le_of_ble_eq_true rfl) xS_479 (XCm (r_canAskH (n := n) hR hT hl4 hby hW hwh N hN hS hz (D 479 28)) rfl) rfl ?_
    refine xx_ifb_eq (q := 23) (q2 := 19) rfl rfl rfl (fun h16 => ?_) (fun h16 => ?_)
    · refine xx_iconst (q := 24) rfl rfl (by decide) ?_
      refine xx_istore_n (q := 25) (loc2 := [_, _]) rfl rfl (Nat.le_of_ble_eq_true rfl) rfl ?_
      refine xx_iload_n (q := 26) rfl rfl rfl ?_
      refine xx_if_ne (q := 43) (q2 := 29) rfl rfl rfl (fun h26 => (by exfalso; omega)) (fun _ => ?_)
      refine xx_aload_n (q := 30) rfl rfl rfl ?_
      refine xx_gez (q := 33) rfl rfl rfl xS_479 (Nat.le_of_ble_eq_true rfl) rfl rfl ?_
      refine xx_iconst (q := 34) rfl rfl (by decide) ?_
      refine xx_icmp_eq (q := 43) (q2 := 37) rfl rfl rfl (fun h34 => ?_) (fun h34 => ?_)
      · have hyN : (hdT s.1).1 = 256 := (tok_n hK hw).mp h34
        have hne0 : kdS s ≠ 258 := by rw [hkd]; omega
        have hl2 := hS.l2 hne0
        have hlt : s.2.length < 400 := by unfold szS at hz; omega
        have hvv := (hK.2.2.2.1 hyN).2
        have hvb : 0 ≤ (hdT s.1).2.2 := by rcases hw with e | e | ⟨_, e, _⟩ | ⟨e, _⟩ | e <;> omega
        have hoN : opR (vlT s.1) = (0, D 479 28) := by
          rw [hvv]
          exact if_pos hvb
        refine xx_aload_n (q := 44) rfl rfl rfl ?_
        refine xx_iload_n (q := 45) rfl rfl rfl ?_
        refine xx_if_eq (q := 52) (q2 := 48) rfl rfl rfl (fun _ => ?_) (fun h45 => (by exfalso; omega))
        refine xx_iconst (q := 53) rfl rfl (by decide) ?_
        refine xx_iload_n (q := 54) rfl rfl rfl ?_
        refine xx_if_eq (q := 67) (q2 := 57) rfl rfl rfl (fun _ => ?_) (fun h54 => (by exfalso; omega))
        refine xx_aload_n (q := 68) rfl rfl rfl ?_
        refine xx_gez (q := 71) rfl rfl rfl xS_479 (Nat.le_of_ble_eq_true rfl) rfl rfl ?_
        obtain ⟨D4, hx4, hS4⟩ := r_emits (n := n) hR hS (vlT s.1) 0 (D 479 28) (hoN) (by omega)
        have hsw : szS (wtS (vlT s.1) s) = szS s + 1 := sz_wt (by omega)
        have hne : kdS (wtS (vlT s.1) s) ≠ 258 := hne0
        refine xx_callV (q := 74) (As := [_, _]) (rest := []) rfl rfl rfl (Or.inl rfl) rfl rfl (Nat.le_of_ble_eq_true rfl) xS_479 (XCm hx4 rfl) rfl ?_
        refine xx_aload_n (q := 75) rfl rfl rfl ?_
        obtain ⟨D5, hx5, hS5, hs5⟩ := r_nexT (n := n) hR hT hl4 hby hW hS4 (hne)
        refine xx_callV (q := 78) (As := []) (rest := []) rfl rfl rfl (Or.inl rfl) rfl rfl (Nat.le_of_ble_eq_true rfl) xS_479 (XCm hx5 rfl) rfl ?_
        refine xx_iconst (q := 79) rfl rfl (by decide) ?_
        refine xx_iret rfl trivial ⟨_, _, rfl, rfl, ?_⟩
        rw [show unF 1 s = stS (wtS (vlT s.1) s) from if_pos (by rw [hkd]; exact hyN)]
        exact Or.inl ⟨hS5.2.2.1, rfl, hS5, by omega⟩
      · have hnA : ¬ ftP 1 ((hdT s.1).1 - 307) := fun q => by
          have h2k := (tok_2 hK hw).mp h5
          have hvw := (hK.2.2.2.2.2 h2k.1).2
          have hca := canA ((hdT s.1).1 - 300).toNat (by omega)
          rw [show ((((hdT s.1).1 - 300).toNat : Nat) : Int) - 7 = (hdT s.1).1 - 307 by omega] at hca
          apply h16
          rw [hvw]
          exact (hca.2).mpr q
        refine xx_aload_n (q := 38) rfl rfl rfl ?_
        refine xx_iconst (q := 39) rfl rfl (by decide) ?_
        obtain ⟨D6, hx6, hF6⟩ := r_errs (n := n) hR hS 1
        refine xx_callV (q := 42) (As := [_]) (rest := []) rfl rfl rfl (Or.inl rfl) rfl rfl (Nat.le_of_ble_eq_true rfl) xS_479 (XCm hx6 rfl) rfl ?_
        refine xx_iret rfl trivial ⟨_, _, rfl, rfl, ?_⟩
        rw [show unF 1 s = wrS 1 s from (if_neg (by rw [hkd]; exact fun q => h34 ((tok_n hK hw).mpr q))).trans (if_neg (by rw [hkd]; exact hnA))]
        exact Or.inr ⟨by rw [show (wrS 1 s).1 = _ from if_pos hS.2.2.1]; exact (by decide : (1 : Int) ≠ 0), rfl, hF6⟩
    · refine xx_iconst (q := 20) rfl rfl (by decide) ?_
      refine xx_goto (q := 24) rfl rfl ?_
      refine xx_istore_n (q := 25) (loc2 := [_, _]) rfl rfl (Nat.le_of_ble_eq_true rfl) rfl ?_
      refine xx_iload_n (q := 26) rfl rfl rfl ?_
      refine xx_if_ne (q := 43) (q2 := 29) rfl rfl rfl (fun _ => ?_) (fun h26 => (by exfalso; omega))
      have h2k := (tok_2 hK hw).mp h5
      have hvw := (hK.2.2.2.2.2 h2k.1).2
      have hca := canA ((hdT s.1).1 - 300).toNat (by omega)
      have hyA : ftP 1 ((hdT s.1).1 - 307) := by
        rw [hvw] at h16
        have h := (hca.2).mp h16
        rw [show ((((hdT s.1).1 - 300).toNat : Nat) : Int) - 7 = (hdT s.1).1 - 307 by omega] at h
        exact h
      have hne0 : kdS s ≠ 258 := by rw [hkd]; omega
      have hl2 := hS.l2 hne0
      have hlt : s.2.length < 400 := by unfold szS at hz; omega
      have hoA : opR (-1 - (kdS s - 307)) = (1, D 479 28 - 6) := by
        have hf : 0 ≤ (hdT s.1).1 - 307 ∧ (hdT s.1).1 - 307 < 15 := by
          rcases hyA with q | q
          · omega
          · revert q; split <;> (intro q; omega)
        have h := wmp_f ((hdT s.1).1 - 307).toNat (by omega)
        rw [show ((((hdT s.1).1 - 307).toNat : Nat) : Int) = (hdT s.1).1 - 307 by omega, show 307 + ((hdT s.1).1 - 307) = (hdT s.1).1 by omega] at h
        rw [hkd]
        exact Prod.ext h.2 (by rw [← h.1, hvw])
      refine xx_aload_n (q := 44) rfl rfl rfl ?_
      refine xx_iload_n (q := 45) rfl rfl rfl ?_
      refine xx_if_eq (q := 52) (q2 := 48) rfl rfl rfl (fun h45 => (by exfalso; omega)) (fun _ => ?_)
      refine xx_iconst (q := 49) rfl rfl (by decide) ?_
      refine xx_goto (q := 53) rfl rfl ?_
      refine xx_iload_n (q := 54) rfl rfl rfl ?_
      refine xx_if_eq (q := 67) (q2 := 57) rfl rfl rfl (fun h54 => (by exfalso; omega)) (fun _ => ?_)
      refine xx_aload_n (q := 58) rfl rfl rfl ?_
      refine xx_gez (q := 61) rfl rfl rfl xS_479 (Nat.le_of_ble_eq_true rfl) rfl rfl ?_
      refine xx_bipush (q := 63) rfl rfl (by decide) ?_
      refine xx_isubR (q := 64) rfl rfl (by omega) (by omega) ?_
      refine xx_goto (q := 71) rfl rfl ?_
      obtain ⟨D7, hx7, hS7⟩ := r_emits (n := n) hR hS (-1 - (kdS s - 307)) 1 ((D 479 28) - 6) (hoA) (by omega)
      have hsw : szS (wtS (-1 - (kdS s - 307)) s) = szS s + 1 := sz_wt (by omega)
      have hne : kdS (wtS (-1 - (kdS s - 307)) s) ≠ 258 := hne0
      refine xx_callV (q := 74) (As := [_, _]) (rest := []) rfl rfl rfl (Or.inl rfl) rfl rfl (Nat.le_of_ble_eq_true rfl) xS_479 (XCm hx7 rfl) rfl ?_
      refine xx_aload_n (q := 75) rfl rfl rfl ?_
      obtain ⟨D8, hx8, hS8, hs8⟩ := r_nexT (n := n) hR hT hl4 hby hW hS7 (hne)
      refine xx_callV (q := 78) (As := []) (rest := []) rfl rfl rfl (Or.inl rfl) rfl rfl (Nat.le_of_ble_eq_true rfl) xS_479 (XCm hx8 rfl) rfl ?_
      refine xx_iconst (q := 79) rfl rfl (by decide) ?_
      refine xx_iret rfl trivial ⟨_, _, rfl, rfl, ?_⟩
      rw [show unF 1 s = stS (wtS (-1 - (kdS s - 307)) s) from (if_neg (by rw [hkd]; omega)).trans (if_pos (by rw [hkd]; exact hyA))]
      exact Or.inl ⟨hS8.2.2.1, rfl, hS8, by omega⟩
set_option maxHeartbeats 4000000 in
theorem r_prH_L {n : Nat} {R : Nat → Nat → Option Nat} {D0 : KK} {bs : List Int} {o : Int} {P : Option (List Int)} (hR : RF R) (hT : TpR bs D0) (hl4 : bs.length ≤ 400) (hby : ∀ j, 0 ≤ bs.getD j 0 ∧ bs.getD j 0 ≤ 255) (hW : WdR D0) (hwh : D0 479 37 = 1) (N : Nat) (hN : N ≤ 401) : ∀ (k : Nat) (s : Sg) (D : KK) (x : Option XV), RgO bs D0 s o P D → szS s ≤ N → s.1.2.2.length ≤ k + 1 → XX (XC 4) 206 (RgX bs D0 N (prL 1 k s) o P n R) 10 [some (.inr (some 479)), x] [] (xS n, R, D) := by
  intro k
  induction k using Nat.strongRecOn with
  | ind k ih =>
  intro s D x hS hz hlk
  refine xx_aload_n (q := 11) rfl rfl rfl ?_
  refine xx_bipush (q := 13) rfl rfl (by decide) ?_
  refine xx_callV (q := 16) (As := [_]) (rest := []) rfl rfl rfl (Or.inl rfl) rfl rfl (Nat.le_of_ble_eq_true rfl) xS_479 (XCm (r_isSign (n := n) hR hS 42 (by omega)) rfl) rfl ?_
  refine xx_ifb_ne (q := 28) (q2 := 19) rfl rfl rfl (fun h16 => ?_) (fun h16 => ?_)
  · refine xx_aload_n (q := 29) rfl rfl rfl ?_
    refine xx_bipush (q := 31) rfl rfl (by decide) ?_
    refine xx_callV (q := 34) (As := [_]) (rest := []) rfl rfl rfl (Or.inl rfl) rfl rfl (Nat.le_of_ble_eq_true rfl) xS_479 (XCm (r_isSign (n := n) hR hS 42 (by omega)) rfl) rfl ?_
    refine xx_istore_n (q := 35) (loc2 := [_, _]) rfl rfl (Nat.le_of_ble_eq_true rfl) rfl ?_
    refine xx_aload_n (q := 36) rfl rfl rfl ?_
    have hne : kdS s ≠ 258 := by omega
    obtain ⟨D1, hx1, hS1, hs1⟩ := r_nexT (n := n) hR hT hl4 hby hW hS (hne)
    obtain ⟨hK2, hw2, hkd2, hl2⟩ := hS1.hd
    refine xx_callV (q := 39) (As := []) (rest := []) rfl rfl rfl (Or.inl rfl) rfl rfl (Nat.le_of_ble_eq_true rfl) xS_479 (XCm hx1 rfl) rfl ?_
    refine xx_iload_n (q := 40) rfl rfl rfl ?_
    refine xx_ifb_ne (q := 57) (q2 := 43) rfl rfl rfl (fun _ => ?_) (fun h40 => (by exfalso; (exact h40 h16)))
    refine xx_iload_n (q := 58) rfl rfl rfl ?_
    refine xx_ifb_ne (q := 74) (q2 := 61) rfl rfl rfl (fun _ => ?_) (fun h58 => (by exfalso; (exact h58 h16)))
    refine xx_aload_n (q := 75) rfl rfl rfl ?_
    obtain ⟨z2, D2, hx2, hq2⟩ := r_unitH (n := n) hR hT hl4 hby hW hwh (N - 1) (by omega) hS1 (by omega)
    refine xx_callV (q := 78) (As := []) (rest := []) rfl rfl rfl (Or.inl rfl) rfl rfl (Nat.le_of_ble_eq_true rfl) xS_479 (XCm hx2 rfl) rfl ?_
    refine xx_iconst (q := 79) rfl rfl (by decide) ?_
    refine xx_icmp_ne (q := 84) (q2 := 82) rfl rfl rfl (fun h79 => ?_) (fun h79 => ?_)
    · replace hq2 := hq2.resolve_right (fun q => h79 q.2.1)
      refine xx_aload_n (q := 85) rfl rfl rfl ?_
      refine xx_iload_n (q := 86) rfl rfl rfl ?_
      refine xx_ifb_eq (q := 93) (q2 := 89) rfl rfl rfl (fun h86 => (by exfalso; (exact h86 h16))) (fun _ => ?_)
      refine xx_iconst (q := 90) rfl rfl (by decide) ?_
      refine xx_goto (q := 94) rfl rfl ?_
      refine xx_iconst (q := 95) rfl rfl (by decide) ?_
      have hlt3 : (unF 1 (stS s)).2.length < 400 := by have := hq2.2.2.1.hd.2.2.2; have hzz := hq2.2.2.2; unfold szS at hzz; omega
      obtain ⟨D3, hx3, hS3⟩ := r_emits (n := n) hR hq2.2.2.1 (-22) 4 0 (by first | rfl | decide) hlt3
      have hsw3 := sz_wt (op := -22) hlt3
      refine xx_callV (q := 98) (As := [_, _]) (rest := []) rfl rfl rfl (Or.inl rfl) rfl rfl (Nat.le_of_ble_eq_true rfl) xS_479 (XCm hx3 rfl) rfl ?_
      refine xx_goto (q := 10) rfl rfl ?_
      obtain ⟨k, rfl⟩ : ∃ k2, k = k2 + 1 := ⟨k - 1, by have := hS.l2 hne; omega⟩
      have e2 : prL 1 (k + 1) s = prL 1 k (wtS (-22) (unF 1 (stS s))) := if_pos h16
      rw [e2]
      have hsl : (wtS (-22) (unF 1 (stS s))).1.2.2.length ≤ k + 1 := by
        have hu := un_ts (h := 1) (s := stS s)
        have hsl2 := st_l2 (hS.l2 hne)
        show (unF 1 (stS s)).1.2.2.length ≤ k + 1
        omega
      exact ih k (by omega) _ _ _ hS3 (by omega) hsl
    · refine xx_iconst (q := 83) rfl rfl (by decide) ?_
      obtain ⟨k, rfl⟩ : ∃ k2, k = k2 + 1 := ⟨k - 1, by have := hS.l2 hne; omega⟩
      refine xx_iret rfl trivial ⟨_, _, rfl, rfl, ?_⟩
      replace hq2 := hq2.resolve_left (fun q => by have := q.2.1; omega)
      have e2 : prL 1 (k + 1) s = wtS (-22) (unF 1 (stS s)) := (if_pos h16).trans (prL_d (s := wtS (-22) (unF 1 (stS s))) hq2.1 k)
      rw [e2]
      exact Or.inr ⟨hq2.1, rfl, hq2.2.2⟩
  · refine xx_aload_n (q := 20) rfl rfl rfl ?_
    refine xx_bipush (q := 22) rfl rfl (by decide) ?_
    refine xx_callV (q := 25) (As := [_]) (rest := []) rfl rfl rfl (Or.inl rfl) rfl rfl (Nat.le_of_ble_eq_true rfl) xS_479 (XCm (r_isSign (n := n) hR hS 47 (by omega)) rfl) rfl ?_
    refine xx_ifb_eq (q := 101) (q2 := 28) rfl rfl rfl (fun h25 => ?_) (fun h25 => ?_)
    · refine xx_iconst (q := 102) rfl rfl (by decide) ?_
      refine xx_iret rfl trivial ⟨_, _, rfl, rfl, ?_⟩
      rw [show prL 1 k s = s from by cases k with | zero => rfl | succ k => exact (if_neg h16).trans (if_neg h25)]
      exact Or.inl ⟨hS.2.2.1, rfl, hS, hz⟩
    · refine xx_aload_n (q := 29) rfl rfl rfl ?_
      refine xx_bipush (q := 31) rfl rfl (by decide) ?_
      refine xx_callV (q := 34) (As := [_]) (rest := []) rfl rfl rfl (Or.inl rfl) rfl rfl (Nat.le_of_ble_eq_true rfl) xS_479 (XCm (r_isSign (n := n) hR hS 42 (by omega)) rfl) rfl ?_
      refine xx_istore_n (q := 35) (loc2 := [_, _]) rfl rfl (Nat.le_of_ble_eq_true rfl) rfl ?_
      refine xx_aload_n (q := 36) rfl rfl rfl ?_
      have hne : kdS s ≠ 258 := by omega
      obtain ⟨D4, hx4, hS4, hs4⟩ := r_nexT (n := n) hR hT hl4 hby hW hS (hne)
      obtain ⟨hK2, hw2, hkd2, hl2⟩ := hS4.hd
      refine xx_callV (q := 39) (As := []) (rest := []) rfl rfl rfl (Or.inl rfl) rfl rfl (Nat.le_of_ble_eq_true rfl) xS_479 (XCm hx4 rfl) rfl ?_
      refine xx_iload_n (q := 40) rfl rfl rfl ?_
      refine xx_ifb_ne (q := 57) (q2 := 43) rfl rfl rfl (fun h40 => (by exfalso; (exact h16 h40))) (fun _ => ?_)
      refine xx_aload_n (q := 44) rfl rfl rfl ?_
      refine xx_gez (q := 47) rfl rfl rfl xS_479 (Nat.le_of_ble_eq_true rfl) rfl rfl ?_
      refine xx_iconst (q := 48) rfl rfl (by decide) ?_
      refine xx_icmp_eq (q := 57) (q2 := 51) rfl rfl rfl (fun h48 => ?_) (fun h48 => ?_)
      · refine xx_iload_n (q := 58) rfl rfl rfl ?_
        refine xx_ifb_ne (q := 74) (q2 := 61) rfl rfl rfl (fun h58 => (by exfalso; (exact h16 h58))) (fun _ => ?_)
        refine xx_aload_n (q := 62) rfl rfl rfl ?_
        refine xx_gez (q := 65) rfl rfl rfl xS_479 (Nat.le_of_ble_eq_true rfl) rfl rfl ?_
        refine xx_if_ne (q := 74) (q2 := 68) rfl rfl rfl (fun h65 => ?_) (fun h65 => ?_)
        · have hv3 := (hK2.2.2.2.1 ((tok_n hK2 hw2).mp h48)).2
          have hk7 := (tok_n hK2 hw2).mp h48
          have hvb : 0 ≤ (hdT (stS s).1).2.2 ∧ (hdT (stS s).1).2.2 ≤ 9999 := by rcases hw2 with e | e | ⟨_, e⟩ | ⟨e, _⟩ | e <;> first | exact e | (exfalso; omega)
          have hv4 : vlT (stS s).1 = D4 479 28 := hv3.symm
          have hv5 : 0 ≤ vlT (stS s).1 ∧ vlT (stS s).1 ≤ 9999 := hvb
          refine xx_aload_n (q := 75) rfl rfl rfl ?_
          have hk6 : kdS (stS s) = 256 := by rw [hkd2]; exact (tok_n hK2 hw2).mp h48
          obtain ⟨z5, D5, hx5, hq5⟩ := r_unitH (n := n) hR hT hl4 hby hW hwh (N - 1) (by omega) hS4 (by omega)
          refine xx_callV (q := 78) (As := []) (rest := []) rfl rfl rfl (Or.inl rfl) rfl rfl (Nat.le_of_ble_eq_true rfl) xS_479 (XCm hx5 rfl) rfl ?_
          refine xx_iconst (q := 79) rfl rfl (by decide) ?_
          refine xx_icmp_ne (q := 84) (q2 := 82) rfl rfl rfl (fun h79 => ?_) (fun h79 => ?_)
          · replace hq5 := hq5.resolve_right (fun q => h79 q.2.1)
            refine xx_aload_n (q := 85) rfl rfl rfl ?_
            refine xx_iload_n (q := 86) rfl rfl rfl ?_
            refine xx_ifb_eq (q := 93) (q2 := 89) rfl rfl rfl (fun _ => ?_) (fun h86 => (by exfalso; (exact h16 h86)))
            refine xx_iconst (q := 94) rfl rfl (by decide) ?_
            refine xx_iconst (q := 95) rfl rfl (by decide) ?_
            have hlt6 : (unF 1 (stS s)).2.length < 400 := by have := hq5.2.2.1.hd.2.2.2; have hzz := hq5.2.2.2; unfold szS at hzz; omega
            obtain ⟨D6, hx6, hS6⟩ := r_emits (n := n) hR hq5.2.2.1 (-23) 5 0 (by first | rfl | decide) hlt6
            have hsw6 := sz_wt (op := -23) hlt6
            refine xx_callV (q := 98) (As := [_, _]) (rest := []) rfl rfl rfl (Or.inl rfl) rfl rfl (Nat.le_of_ble_eq_true rfl) xS_479 (XCm hx6 rfl) rfl ?_
            refine xx_goto (q := 10) rfl rfl ?_
            obtain ⟨k, rfl⟩ : ∃ k2, k = k2 + 1 := ⟨k - 1, by have := hS.l2 hne; omega⟩
            have e3 : unF 1 (stS s) = wtS (vlT (stS s).1) (nwS 1 9999 (stS s)) := by
              rw [show unF 1 (stS s) = stS (wtS (vlT (stS s).1) (stS s)) from if_pos hk6, show nwS 1 9999 (stS s) = (stT (stS s).1, (stS s).2) from congrArg (fun t => (stT t, (stS s).2)) ((if_pos hk6).trans (if_pos ⟨by omega, by omega⟩))]
              rfl
            have e2 : prL 1 (k + 1) s = prL 1 k (wtS (-23) (unF 1 (stS s))) := (if_neg h16).trans ((if_pos h25).trans (by rw [e3]))
            rw [e2]
            have hsl : (wtS (-23) (unF 1 (stS s))).1.2.2.length ≤ k + 1 := by
              have hu := un_ts (h := 1) (s := stS s)
              have hsl2 := st_l2 (hS.l2 hne)
              show (unF 1 (stS s)).1.2.2.length ≤ k + 1
              omega
            exact ih k (by omega) _ _ _ hS6 (by omega) hsl
          · refine xx_iconst (q := 83) rfl rfl (by decide) ?_
            obtain ⟨k, rfl⟩ : ∃ k2, k = k2 + 1 := ⟨k - 1, by have := hS.l2 hne; omega⟩
            exfalso
            rcases hq5 with q | q
            · have := q.2.1; omega
            · exact q.1 (by rw [show unF 1 (stS s) = stS (wtS (vlT (stS s).1) (stS s)) from if_pos hk6]; exact hS4.2.2.1)
        · refine xx_aload_n (q := 69) rfl rfl rfl ?_
          refine xx_iconst (q := 70) rfl rfl (by decide) ?_
          obtain ⟨D7, hx7, hF7⟩ := r_errs (n := n) hR hS4 2
          refine xx_callV (q := 73) (As := [_]) (rest := []) rfl rfl rfl (Or.inl rfl) rfl rfl (Nat.le_of_ble_eq_true rfl) xS_479 (XCm hx7 rfl) rfl ?_
          obtain ⟨k, rfl⟩ : ∃ k2, k = k2 + 1 := ⟨k - 1, by have := hS.l2 hne; omega⟩
          refine xx_iret rfl trivial ⟨_, _, rfl, rfl, ?_⟩
          have e1 : nwS 1 9999 (stS s) = (stT (wrT 2 (stS s).1), (stS s).2) := congrArg (fun t => (stT t, (stS s).2)) ((if_pos (hkd2.trans ((tok_n hK2 hw2).mp h48))).trans (if_neg (fun q => by have hv0 := (hK2.2.2.2.1 ((tok_n hK2 hw2).mp h48)).2; have : vlT (stS s).1 = 0 := hv0.symm.trans h65; omega)))
          have hd : (wrT 2 (stS s).1).1 ≠ 0 := by rw [show wrT 2 (stS s).1 = _ from if_pos hS4.2.2.1]; exact (by decide : (2 : Int) ≠ 0)
          have e2 : prL 1 (k + 1) s = wtS (-23) (wtS (vlT (stS s).1) (nwS 1 9999 (stS s))) := (if_neg h16).trans ((if_pos h25).trans (prL_d (by rw [e1]; exact hd) k))
          rw [e2, e1]
          exact Or.inr ⟨hd, rfl, hF7⟩
      · refine xx_aload_n (q := 52) rfl rfl rfl ?_
        refine xx_iconst (q := 53) rfl rfl (by decide) ?_
        obtain ⟨D8, hx8, hF8⟩ := r_errs (n := n) hR hS4 1
        refine xx_callV (q := 56) (As := [_]) (rest := []) rfl rfl rfl (Or.inl rfl) rfl rfl (Nat.le_of_ble_eq_true rfl) xS_479 (XCm hx8 rfl) rfl ?_
        obtain ⟨k, rfl⟩ : ∃ k2, k = k2 + 1 := ⟨k - 1, by have := hS.l2 hne; omega⟩
        refine xx_iret rfl trivial ⟨_, _, rfl, rfl, ?_⟩
        have e1 : nwS 1 9999 (stS s) = (stT (wrT 1 (stS s).1), (stS s).2) := congrArg (fun t => (stT t, (stS s).2)) (if_neg (fun q => h48 ((tok_n hK2 hw2).mpr (hkd2.symm.trans q))))
        have hd : (wrT 1 (stS s).1).1 ≠ 0 := by rw [show wrT 1 (stS s).1 = _ from if_pos hS4.2.2.1]; exact (by decide : (1 : Int) ≠ 0)
        have e2 : prL 1 (k + 1) s = wtS (-23) (wtS (vlT (stS s).1) (nwS 1 9999 (stS s))) := (if_neg h16).trans ((if_pos h25).trans (prL_d (by rw [e1]; exact hd) k))
        rw [e2, e1]
        exact Or.inr ⟨hd, rfl, hF8⟩
theorem r_prodH {n : Nat} {R : Nat → Nat → Option Nat} {D0 D : KK} {bs : List Int} {s : Sg} {o : Int} {P : Option (List Int)} (hR : RF R) (hT : TpR bs D0) (hl4 : bs.length ≤ 400) (hby : ∀ j, 0 ≤ bs.getD j 0 ∧ bs.getD j 0 ≤ 255) (hW : WdR D0) (hwh : D0 479 37 = 1) (N : Nat) (hN : N ≤ 401) (hS : RgO bs D0 s o P D) (hz : szS s ≤ N) : ∃ z D', XC 5 206 [.inr (some 479)] (xS n, R, D) (some (.inl z)) (xS n, R, D') ∧ RgQ bs D0 N (prF 1 s) o P z D' := by
  refine XG_of (Nat.le_of_ble_eq_true rfl) (Nat.le_of_ble_eq_true rfl) (loc := [_, _]) rfl ?_
  refine xx_aload_n (q := 1) rfl rfl rfl ?_
  obtain ⟨z1, D1, hx1, hq1⟩ := r_unitH (n := n) hR hT hl4 hby hW hwh N hN hS hz
  refine xx_callV (q := 4) (As := []) (rest := []) rfl rfl rfl (Or.inl rfl) rfl rfl (Nat.le_of_ble_eq_true rfl) xS_479 (XCm hx1 rfl) rfl ?_
  refine xx_iconst (q := 5) rfl rfl (by decide) ?_
  refine xx_icmp_ne (q := 10) (q2 := 8) rfl rfl rfl (fun h5 => ?_) (fun h5 => ?_)
  · replace hq1 := hq1.resolve_right (fun q => h5 q.2.1)
    exact r_prH_L hR hT hl4 hby hW hwh N hN 400 _ _ _ hq1.2.2.1 hq1.2.2.2 (by have := un_ts (h := 1) (s := s); unfold szS at hz; omega)
  · refine xx_iconst (q := 9) rfl rfl (by decide) ?_
    refine xx_iret rfl trivial ⟨_, _, rfl, rfl, ?_⟩
    replace hq1 := hq1.resolve_left (fun q => by have := q.2.1; omega)
    rw [show prF 1 s = unF 1 s from prL_d hq1.1 400]
    exact Or.inr ⟨hq1.1, rfl, hq1.2.2⟩
