/-! A plan is read: the reference, all its steps. -/
theorem r_rddeed {n : Nat} {R : Nat → Nat → Option Nat} {D0 D : KK} {bs : List Int} {Lk B a : Int} {s : Pg} (hR : RF R) (hl4 : bs.length ≤ 400) (hby : ∀ j, 0 ≤ bs.getD j 0 ∧ bs.getD j 0 ≤ 255) (hS : RpS bs Lk B D0 s (150 + a + 1) D) (ha0 : 0 ≤ a) (ha1 : a ≤ 145) (hB0 : 0 ≤ B) (hB1 : B ≤ 6) (hL0 : 0 ≤ Lk) (hL1 : Lk ≤ 9) (kd : Int) (hk : 322 ≤ kd ∧ kd ≤ 325) : ∃ z D', XC 6 219 [.inr (some 479), .inl (ddF kd)] (xS n, R, D) (some (.inl z)) (xS n, R, D') ∧ RpE bs Lk B D0 (doQ kd a Lk B s) z D' := by
  have c : kd = 322 ∨ kd = 323 ∨ kd = 324 ∨ kd = 325 := by omega
  rcases c with c | c | c | c
  · subst c; exact r_rddeed0 hR hl4 hby hS ha0 ha1 hB0 hB1 hL0 hL1
  · subst c; exact r_rddeed1 hR hl4 hby hS ha0 ha1 hB0 hB1 hL0 hL1
  · subst c; exact r_rddeed2 hR hl4 hby hS ha0 ha1 hB0 hB1 hL0 hL1
  · subst c; exact r_rddeed3 hR hl4 hby hS ha0 ha1 hB0 hB1 hL0 hL1
theorem dd_k {k : Int} (h : 322 ≤ k ∧ k ≤ 325) : ddF k = k - 322 := by
  have c : k = 322 ∨ k = 323 ∨ k = 324 ∨ k = 325 := by omega
  rcases c with c | c | c | c <;> subst c <;> rfl
theorem dd_n {k : Int} : ddF k = -1 ↔ ¬ (322 ≤ k ∧ k ≤ 325) := by
  constructor
  · intro h q
    have := dd_k q
    omega
  · intro h
    unfold ddF
    rw [if_neg (by omega), if_neg (by omega), if_neg (by omega), if_neg (by omega)]
def PlX (w : Int) (P : List PSt) (d : Nat → Int) : Prop := ∀ (j : Nat) (s : PSt), P[j]? = some s → s.1 ≤ 3 ∧ UsX w ((j : Int) * 5) s d
theorem UsX.cg {w a : Int} {s : PSt} {d e : Nat → Int} (h : UsX w a s d) (ha : 0 ≤ a) (g : ∀ j : Nat, a ≤ (j : Int) → (j : Int) < a + 5 → e j = d j) : UsX w a s e := ⟨(g _ (by omega) (by omega)).trans h.1, (g _ (by omega) (by omega)).trans h.2.1, fun q => (g _ (by omega) (by omega)).trans (h.2.2.1 q), fun q => (g _ (by omega) (by omega)).trans (h.2.2.2.1 q), fun q => (g _ (by omega) (by omega)).trans (h.2.2.2.2 q)⟩
theorem PlX.cg {w : Int} {P : List PSt} {d e : Nat → Int} (h : PlX w P d) (g : ∀ j : Nat, (j : Int) < (P.length : Int) * 5 → e j = d j) : PlX w P e := fun j s q => by
  have hj := (List.getElem?_eq_some_iff.mp q).1
  exact ⟨(h j s q).1, (h j s q).2.cg (by omega) (fun i q1 q2 => g i (by omega))⟩
theorem PlX.app {w : Int} {P : List PSt} {d e : Nat → Int} {s : PSt} (h : PlX w P d) (g : ∀ j : Nat, (j : Int) < (P.length : Int) * 5 → e j = d j) (hs : s.1 ≤ 3) (hu : UsX w ((P.length : Int) * 5) s e) : PlX w (P ++ [s]) e := by
  intro j s2 q
  rcases Nat.lt_or_ge j P.length with r | r
  · rw [List.getElem?_append_left r] at q
    exact h.cg g j s2 q
  · rw [List.getElem?_append_right r] at q
    have ej : j = P.length := by
      rcases Nat.lt_or_ge (j - P.length) 1 with z | z
      · omega
      · rw [List.getElem?_eq_none (by show 1 ≤ _; exact z)] at q; cases q
    rw [ej, Nat.sub_self] at q
    have e2 : s = s2 := Option.some.inj q
    rw [ej, ← e2]
    exact ⟨hs, hu⟩
def RqP (Lk B : Int) (D0 : KK) (c : Int × Pg) (z : Int) (D' : KK) : Prop := FRp D0 D' ∧ ((c.2.1.1 = 0 ∧ ∃ P : List PSt, z = (P.length : Int) ∧ c.1 = (P.length : Int) ∧ P.length ≤ 30 ∧ PlX 322 P c.2.2 ∧ PlX 0 P (fun j => D' 507 (150 + j)) ∧ ∀ K : KK, K 13 0 = B → K 0 0 = Lk → PlV K P) ∨ (c.2.1.1 ≠ 0 ∧ z = -1 ∧ D' 479 42 = c.2.1.1 ∧ D' 479 43 = c.2.1.2.1))
def RqQ (Lk B : Int) (D0 : KK) (c : Int × Pg) (n : Nat) (R : Nat → Nat → Option Nat) : XQ := fun r m2 => ∃ z D', r = some (.inl z) ∧ m2 = (xS n, R, D') ∧ RqP Lk B D0 c z D'
theorem RqQ_d {Lk B : Int} {D0 D : KK} {n : Nat} {R : Nat → Nat → Option Nat} {c : Int × Pg} {T : Tt} (e1 : c.2.1.1 = T.1) (e2 : c.2.1.2.1 = T.2.1) (hd : T.1 ≠ 0) (h1 : D 479 42 = T.1) (h2 : D 479 43 = T.2.1) (h3 : FRp D0 D) : RqQ Lk B D0 c n R (some (.inl (-1))) (xS n, R, D) := ⟨_, _, rfl, rfl, h3, Or.inr ⟨by rw [e1]; exact hd, rfl, by rw [e1]; exact h1, by rw [e2]; exact h2⟩⟩
theorem plQ_d {Lk B : Int} {k : Nat} {r : Int} {s : Pg} (h : s.1.1 ≠ 0) : (plQ Lk B k r s).2 = s := by
  cases k with
  | zero => rfl
  | succ k => rw [show plQ Lk B (k + 1) r s = (r, s) from if_pos (kp_d h)]
theorem plQ_s {Lk B : Int} {k : Nat} {r : Int} {s : Pg} (h : ¬ kdP s = 258) : plQ Lk B (k + 1) r s = plQ Lk B k (r + 1) (spP r Lk B s) := if_neg h
theorem spP_y {Lk B r : Int} {t : Tt} {d : Nat → Int} (hk : 322 ≤ kdT t ∧ kdT t ≤ 325) (hr : r < 30) : spP r Lk B (t, d) = exP 59 (doQ (kdT t) (r * 5) Lk B (stT t, fset d (r * 5).toNat (kdT t))) := (if_neg (fun q => q hk)).trans (if_pos hr)
theorem spP_n {Lk B r : Int} {s : Pg} (hk : ¬ (322 ≤ kdP s ∧ kdP s ≤ 325)) : spP r Lk B s = wrP 1 s := if_pos hk
theorem spP_3 {Lk B r : Int} {s : Pg} (hk : 322 ≤ kdP s ∧ kdP s ≤ 325) (hr : ¬ r < 30) : spP r Lk B s = wrP 3 s := (if_neg (fun q => q hk)).trans (if_neg hr)
set_option maxHeartbeats 4000000 in
theorem r_rp_L {n : Nat} {R : Nat → Nat → Option Nat} {D0 : KK} {bs : List Int} {Lk B : Int} (hR : RF R) (hl4 : bs.length ≤ 400) (hby : ∀ j, 0 ≤ bs.getD j 0 ∧ bs.getD j 0 ≤ 255) (hB0 : 0 ≤ B) (hB1 : B ≤ 6) (hL0 : 0 ≤ Lk) (hL1 : Lk ≤ 9) : ∀ (k : Nat) (P : List PSt) (t : Tt) (d PE : Nat → Int) (sp : Int) (D : KK), P.length + k = 30 → RpS bs Lk B D0 (t, PE) sp D → PlX 322 P d → PlX 0 P PE → (∀ K : KK, K 13 0 = B → K 0 0 = Lk → PlV K P) → XX (XC 6) 221 (RqQ Lk B D0 (plQ Lk B (k + 1) (P.length : Int) (t, d)) n R) 7 [some (.inr (some 479)), some (.inl (P.length : Int)), some (.inl (ddF (kdT t)))] [] (xS n, R, D) := by
  intro k
  induction k using Nat.strongRecOn with
  | ind k ih =>
  intro P t d PE sp D hPk hS hpc hpr hpv
  refine xx_iload_n (q := 8) rfl rfl rfl ?_
  refine xx_iconst (q := 9) rfl rfl (by decide) ?_
  refine xx_icmp_eq (q := 101) (q2 := 12) rfl rfl rfl (fun h9 => ?_) (fun h9 => ?_)
  · obtain ⟨hK, hw, hkd, hl1⟩ := hS.1.hd
    have hk0 := tok_0 hK hw
    refine xx_aload_n (q := 102) rfl rfl rfl ?_
    refine xx_gez (q := 105) rfl rfl rfl xS_479 (Nat.le_of_ble_eq_true rfl) rfl rfl ?_
    refine xx_if_ne (q := 112) (q2 := 108) rfl rfl rfl (fun h105 => ?_) (fun h105 => ?_)
    · have hne : ¬ kdP (t, d) = 258 := fun q => h105 (hk0.mpr (hkd.symm.trans q))
      refine xx_aload_n (q := 113) rfl rfl rfl ?_
      refine xx_iconst (q := 114) rfl rfl (by decide) ?_
      obtain ⟨D1, hx1, hF1⟩ := r_errs (n := n) hR hS.1 1
      refine xx_callV (q := 117) (As := [_]) (rest := []) rfl rfl rfl (Or.inl rfl) rfl rfl (Nat.le_of_ble_eq_true rfl) xS_479 (XCm hx1 rfl) rfl ?_
      have hpl := plQ_s (Lk := Lk) (B := B) (k := k) (r := (P.length : Int)) hne
      rw [spP_n (s := (t, d)) (show ¬ (322 ≤ kdP (t, d) ∧ kdP (t, d) ≤ 325) from dd_n.mp h9)] at hpl
      have hd9 : (wrT 1 t).1 ≠ 0 := wrT_0 hS.1.2.2.1 (by decide)
      exact xx_iret rfl trivial (RqQ_d (T := wrT 1 t) (by rw [hpl, plQ_d (s := wrP 1 (t, d)) hd9]; rfl) (by rw [hpl, plQ_d (s := wrP 1 (t, d)) hd9]; rfl) hd9 (hS.fl hF1).1 (hS.fl hF1).2.1 (hS.fl hF1).2.2)
    · replace hk0 : kdP (t, d) = 258 := hkd.trans (hk0.mp h105)
      refine xx_iload_n (q := 109) rfl rfl rfl ?_
      refine xx_goto (q := 117) rfl rfl ?_
      have e9 : plQ Lk B (k + 1) (P.length : Int) (t, d) = ((P.length : Int), (t, d)) := if_pos hk0
      refine xx_iret rfl trivial ⟨_, _, rfl, rfl, hS.2.2.2.2.2.2.2, Or.inl ?_⟩
      rw [e9]
      exact ⟨hS.1.2.2.1, P, rfl, rfl, by omega, hpc, hpr.cg (fun j hj => hS.2.2.2.2.2.2.1 j (by omega)), hpv⟩
  · have hkk : 322 ≤ kdT t ∧ kdT t ≤ 325 := Classical.byContradiction (fun q => h9 (dd_n.mpr q))
    have hne : ¬ kdP (t, d) = 258 := by show ¬ kdT t = 258; omega
    refine xx_iload_n (q := 13) rfl rfl rfl ?_
    refine xx_bipush (q := 15) rfl rfl (by decide) ?_
    refine xx_icmp_ne (q := 24) (q2 := 18) rfl rfl rfl (fun h15 => ?_) (fun h15 => ?_)
    · have hr : (P.length : Int) < 30 := by omega
      have hdk := dd_k hkk
      have hc1 := doQ_x (w := 322) (Lk := Lk) (B := B) (t := stT t) (d := fset d ((P.length : Int) * 5).toNat (kdT t)) hkk (show 0 ≤ (P.length : Int) * 5 by omega) (fs_s.trans (by omega))
      have hc2 := doQ_x (w := 0) (Lk := Lk) (B := B) (t := stT t) (d := fset PE ((P.length : Int) * 5).toNat (ddF (kdT t))) hkk (show 0 ≤ (P.length : Int) * 5 by omega) (fs_s.trans (by omega))
      have hpl := plQ_s (Lk := Lk) (B := B) (k := k) (r := (P.length : Int)) hne
      rw [spP_y hkk hr] at hpl
      refine xx_aload_n (q := 25) rfl rfl rfl ?_
      refine xx_sipush (q := 28) rfl rfl (by decide) ?_
      refine xx_iconst (q := 29) rfl rfl (by decide) ?_
      refine xx_iload_n (q := 30) rfl rfl rfl ?_
      refine xx_imulR (q := 31) rfl rfl (by omega) (by omega) ?_
      refine xx_iaddR (q := 32) rfl rfl (by omega) (by omega) ?_
      refine xr_puz (RpS bs Lk B D0 (t, PE) (150 + (P.length : Int) * 5)) (q := 35) rfl rfl rfl xS_479 (Nat.le_of_ble_eq_true rfl) (Nat.le_of_ble_eq_true rfl) (fun h => by cases h) (Or.inl rfl) (by rw [show (150 + (5 * (P.length : Int))) = 150 + (P.length : Int) * 5 by omega]; exact hS.spo _) (fun D3 hS3 => ?_)
      refine xx_aload_n (q := 36) rfl rfl rfl ?_
      refine xx_getR (q := 39) rfl rfl rfl xS_479 (Nat.le_of_ble_eq_true rfl) rfl (hR.1 479 46 rfl) ?_
      refine xx_aload_n (q := 40) rfl rfl rfl ?_
      refine xx_gez (q := 43) rfl rfl rfl xS_479 (Nat.le_of_ble_eq_true rfl) rfl hS3.2.2.2.2.2.1 ?_
      refine xx_iload_n (q := 44) rfl rfl rfl ?_
      refine xr_isz (RpS bs Lk B D0 (t, fset PE ((P.length : Int) * 5).toNat (ddF (kdT t))) (150 + (P.length : Int) * 5)) (q := 45) rfl rfl xS_507 (by omega) (by omega) (by rw [show (150 + (P.length : Int) * 5).toNat = 150 + ((P.length : Int) * 5).toNat by omega]; exact hS3.put ((P.length : Int) * 5).toNat _) (fun D5 hS5 => ?_)
      refine xx_aload_n (q := 46) rfl rfl rfl ?_
      refine xx_aload_n (q := 47) rfl rfl rfl ?_
      refine xx_gez (q := 50) rfl rfl rfl xS_479 (Nat.le_of_ble_eq_true rfl) rfl hS5.2.2.2.2.2.1 ?_
      refine xx_iconst (q := 51) rfl rfl (by decide) ?_
      refine xx_iaddR (q := 52) rfl rfl (by omega) (by omega) ?_
      refine xr_puz (RpS bs Lk B D0 (t, fset PE ((P.length : Int) * 5).toNat (ddF (kdT t))) (150 + (P.length : Int) * 5 + 1)) (q := 55) rfl rfl rfl xS_479 (Nat.le_of_ble_eq_true rfl) (Nat.le_of_ble_eq_true rfl) (fun h => by cases h) (Or.inl rfl) (by rw [show ((150 + (P.length : Int) * 5) + 1) = 150 + (P.length : Int) * 5 + 1 by omega]; exact hS5.spo _) (fun D7 hS7 => ?_)
      refine xx_aload_n (q := 56) rfl rfl rfl ?_
      obtain ⟨D8, hx8, hO8, hs8⟩ := r_nexT (n := n) hR hS7.2.1 hl4 hby hS7.2.2.1 hS7.1 (by show kdT t ≠ 258; omega)
      have hS8 := hS7.step (t := stT t) hO8
      refine xx_callV (q := 59) (As := []) (rest := []) rfl rfl rfl (Or.inl rfl) rfl rfl (Nat.le_of_ble_eq_true rfl) xS_479 (XCm hx8 rfl) rfl ?_
      refine xx_aload_n (q := 60) rfl rfl rfl ?_
      refine xx_iload_n (q := 61) rfl rfl rfl ?_
      obtain ⟨z9, D9, hx9, sq9, hq9⟩ := r_rddeed (n := n) (a := (P.length : Int) * 5) (s := (stT t, fset PE ((P.length : Int) * 5).toNat (ddF (kdT t)))) hR hl4 hby hS8 (by omega) (by omega) hB0 hB1 hL0 hL1 (kdT t) hkk
      refine xx_callV (q := 64) (As := [_]) (rest := []) rfl rfl rfl (Or.inl rfl) rfl rfl (Nat.le_of_ble_eq_true rfl) xS_479 (XCm hx9 rfl) rfl ?_
      refine xx_iconst (q := 65) rfl rfl (by decide) ?_
      refine xx_icmp_ne (q := 70) (q2 := 68) rfl rfl rfl (fun h65 => ?_) (fun h65 => ?_)
      · replace hq9 := hq9.resolve_right (fun q => h65 q.2.1)
        have hlv : (stpTt (kdT t) Lk B (stT t)).1 = 0 := by rw [← hc2.1]; exact hq9.1
        have hY : RpS bs Lk B D0 (stpTt (kdT t) Lk B (stT t), (doQ (kdT t) ((P.length : Int) * 5) Lk B (stT t, fset PE ((P.length : Int) * 5).toNat (ddF (kdT t)))).2) sq9 D9 := by rw [← hc2.1]; exact hq9.2.2
        refine xx_aload_n (q := 71) rfl rfl rfl ?_
        refine xx_bipush (q := 73) rfl rfl (by decide) ?_
        refine xx_callV (q := 76) (As := [_]) (rest := []) rfl rfl rfl (Or.inl rfl) rfl rfl (Nat.le_of_ble_eq_true rfl) xS_479 (XCm (r_isSign (n := n) hR hY.1 59 (by omega)) rfl) rfl ?_
        refine xx_ifb_ne (q := 85) (q2 := 79) rfl rfl rfl (fun h76 => ?_) (fun h76 => ?_)
        · refine xx_aload_n (q := 86) rfl rfl rfl ?_
          obtain ⟨D10, hx10, hO10, hs10⟩ := r_nexT (n := n) hR hY.2.1 hl4 hby hY.2.2.1 hY.1 (by show kdT (stpTt (kdT t) Lk B (stT t)) ≠ 258; have : kdT (stpTt (kdT t) Lk B (stT t)) = 59 := h76; omega)
          have hS10 := hY.step (t := stT (stpTt (kdT t) Lk B (stT t))) hO10
          refine xx_callV (q := 89) (As := []) (rest := []) rfl rfl rfl (Or.inl rfl) rfl rfl (Nat.le_of_ble_eq_true rfl) xS_479 (XCm hx10 rfl) rfl ?_
          refine xx_iload_n (q := 90) rfl rfl rfl ?_
          refine xx_iconst (q := 91) rfl rfl (by decide) ?_
          refine xx_iaddR (q := 92) rfl rfl (by omega) (by omega) ?_
          refine xx_istore_n (q := 93) (loc2 := [_, _, _]) rfl rfl (Nat.le_of_ble_eq_true rfl) rfl ?_
          refine xx_aload_n (q := 94) rfl rfl rfl ?_
          refine xx_callV (q := 97) (As := []) (rest := []) rfl rfl rfl (Or.inl rfl) rfl rfl (Nat.le_of_ble_eq_true rfl) xS_479 (XCm (r_deedOf (n := n) hR hl4 hby hS10) rfl) rfl ?_
          refine xx_istore_n (q := 98) (loc2 := [_, _, _]) rfl rfl (Nat.le_of_ble_eq_true rfl) rfl ?_
          refine xx_goto (q := 7) rfl rfl ?_
          have e9 : exP 59 (doQ (kdT t) ((P.length : Int) * 5) Lk B (stT t, fset d ((P.length : Int) * 5).toNat (kdT t))) = (stT (stpTt (kdT t) Lk B (stT t)), (doQ (kdT t) ((P.length : Int) * 5) Lk B (stT t, fset d ((P.length : Int) * 5).toNat (kdT t))).2) := by
            have e7 : exT 59 (stpTt (kdT t) Lk B (stT t)) = stT (stpTt (kdT t) Lk B (stT t)) := if_pos h76
            show (exT 59 (doQ (kdT t) ((P.length : Int) * 5) Lk B (stT t, fset d ((P.length : Int) * 5).toNat (kdT t))).1, (doQ (kdT t) ((P.length : Int) * 5) Lk B (stT t, fset d ((P.length : Int) * 5).toNat (kdT t))).2) = _
            rw [hc1.1, e7]
          have hs1 := stp_1 (k := kdT t) (Lk := Lk) (B := B) (t := stT t) hkk
          obtain ⟨k, rfl⟩ : ∃ k2, k = k2 + 1 := ⟨k - 1, by omega⟩
          rw [hpl, e9, show (P.length : Int) + 1 = ((P ++ [stpPs (kdT t) Lk B (stT t)]).length : Int) by rw [List.length_append]; rfl]
          refine ih k (by omega) (P ++ [stpPs (kdT t) Lk B (stT t)]) (stT (stpTt (kdT t) Lk B (stT t))) (doQ (kdT t) ((P.length : Int) * 5) Lk B (stT t, fset d ((P.length : Int) * 5).toNat (kdT t))).2 (doQ (kdT t) ((P.length : Int) * 5) Lk B (stT t, fset PE ((P.length : Int) * 5).toNat (ddF (kdT t)))).2 _ _ (by rw [List.length_append]; show P.length + 1 + _ = _; omega) hS10 ?_ ?_ ?_
          · exact hpc.app (fun j hj => (hc1.2.2 j (Or.inl hj)).trans (fs_n (by omega))) (by omega) hc1.2.1
          · exact hpr.app (fun j hj => (hc2.2.2 j (Or.inl hj)).trans (fs_n (by omega))) (by omega) hc2.2.1
          · intro K hK1 hK2 s2 hs2
            rcases List.mem_append.mp hs2 with q | q
            · exact hpv K hK1 hK2 s2 q
            · rw [List.mem_singleton.mp q]
              exact stp_V hkk hlv hK1 hK2
        · refine xx_aload_n (q := 80) rfl rfl rfl ?_
          refine xx_iconst (q := 81) rfl rfl (by decide) ?_
          obtain ⟨D11, hx11, hF11⟩ := r_errs (n := n) hR hY.1 1
          refine xx_callV (q := 84) (As := [_]) (rest := []) rfl rfl rfl (Or.inl rfl) rfl rfl (Nat.le_of_ble_eq_true rfl) xS_479 (XCm hx11 rfl) rfl ?_
          have hd9 : (wrT 1 (stpTt (kdT t) Lk B (stT t))).1 ≠ 0 := wrT_0 hlv (by decide)
          have e9 : (exP 59 (doQ (kdT t) ((P.length : Int) * 5) Lk B (stT t, fset d ((P.length : Int) * 5).toNat (kdT t)))).1 = wrT 1 (stpTt (kdT t) Lk B (stT t)) := by
            show exT 59 (doQ (kdT t) ((P.length : Int) * 5) Lk B (stT t, fset d ((P.length : Int) * 5).toNat (kdT t))).1 = _
            rw [hc1.1]
            exact if_neg h76
          have e8 : (exP 59 (doQ (kdT t) ((P.length : Int) * 5) Lk B (stT t, fset d ((P.length : Int) * 5).toNat (kdT t)))).1.1 ≠ 0 := by rw [e9]; exact hd9
          exact xx_iret rfl trivial (RqQ_d (T := wrT 1 (stpTt (kdT t) Lk B (stT t))) (by rw [hpl, plQ_d e8, e9]) (by rw [hpl, plQ_d e8, e9]) hd9 (hY.fl hF11).1 (hY.fl hF11).2.1 (hY.fl hF11).2.2)
      · refine xx_iconst (q := 69) rfl rfl (by decide) ?_
        replace hq9 := hq9.resolve_left (fun q => by have := q.2.1; omega)
        rw [hc2.1] at hq9
        have e9 : (exP 59 (doQ (kdT t) ((P.length : Int) * 5) Lk B (stT t, fset d ((P.length : Int) * 5).toNat (kdT t)))).1 = stpTt (kdT t) Lk B (stT t) := by
          show exT 59 (doQ (kdT t) ((P.length : Int) * 5) Lk B (stT t, fset d ((P.length : Int) * 5).toNat (kdT t))).1 = _
          rw [hc1.1]
          exact exT_d hq9.1 (by decide)
        have e8 : (exP 59 (doQ (kdT t) ((P.length : Int) * 5) Lk B (stT t, fset d ((P.length : Int) * 5).toNat (kdT t)))).1.1 ≠ 0 := by rw [e9]; exact hq9.1
        exact xx_iret rfl trivial (RqQ_d (T := stpTt (kdT t) Lk B (stT t)) (by rw [hpl, plQ_d e8, e9]) (by rw [hpl, plQ_d e8, e9]) hq9.1 hq9.2.2.1 hq9.2.2.2.1 hq9.2.2.2.2)
    · refine xx_aload_n (q := 19) rfl rfl rfl ?_
      refine xx_iconst (q := 20) rfl rfl (by decide) ?_
      obtain ⟨D12, hx12, hF12⟩ := r_errs (n := n) hR hS.1 3
      refine xx_callV (q := 23) (As := [_]) (rest := []) rfl rfl rfl (Or.inl rfl) rfl rfl (Nat.le_of_ble_eq_true rfl) xS_479 (XCm hx12 rfl) rfl ?_
      have hpl := plQ_s (Lk := Lk) (B := B) (k := k) (r := (P.length : Int)) hne
      rw [spP_3 (by exact hkk) (by omega)] at hpl
      have hd9 : (wrT 3 t).1 ≠ 0 := wrT_0 hS.1.2.2.1 (by decide)
      exact xx_iret rfl trivial (RqQ_d (T := wrT 3 t) (by rw [hpl, plQ_d (s := wrP 3 (t, d)) hd9]; rfl) (by rw [hpl, plQ_d (s := wrP 3 (t, d)) hd9]; rfl) hd9 (hS.fl hF12).1 (hS.fl hF12).2.1 (hS.fl hF12).2.2)
theorem r_readPlan {n : Nat} {R : Nat → Nat → Option Nat} {D0 D : KK} {bs : List Int} {Lk B sp : Int} {t : Tt} {PE : Nat → Int} (hR : RF R) (hl4 : bs.length ≤ 400) (hby : ∀ j, 0 ≤ bs.getD j 0 ∧ bs.getD j 0 ≤ 255) (hB0 : 0 ≤ B) (hB1 : B ≤ 6) (hL0 : 0 ≤ Lk) (hL1 : Lk ≤ 9) (hS : RpS bs Lk B D0 (t, PE) sp D) (d : Nat → Int) : ∃ z D', XC 7 221 [.inr (some 479)] (xS n, R, D) (some (.inl z)) (xS n, R, D') ∧ RqP Lk B D0 (plQ Lk B 31 0 (t, d)) z D' := by
  have hq : XX (XC 6) 221 (RqQ Lk B D0 (plQ Lk B 31 0 (t, d)) n R) 0 [some (.inr (some 479)), none, none] [] (xS n, R, D) := by
    refine xx_iconst (q := 1) rfl rfl (by decide) ?_
    refine xx_istore_n (q := 2) (loc2 := [_, _, _]) rfl rfl (Nat.le_of_ble_eq_true rfl) rfl ?_
    refine xx_aload_n (q := 3) rfl rfl rfl ?_
    refine xx_callV (q := 6) (As := []) (rest := []) rfl rfl rfl (Or.inl rfl) rfl rfl (Nat.le_of_ble_eq_true rfl) xS_479 (XCm (r_deedOf (n := n) hR hl4 hby hS) rfl) rfl ?_
    refine xx_istore_n (q := 7) (loc2 := [_, _, _]) rfl rfl (Nat.le_of_ble_eq_true rfl) rfl ?_
    exact r_rp_L hR hl4 hby hB0 hB1 hL0 hL1 30 [] t d PE sp D rfl hS (fun j s q => by cases q) (fun j s q => by cases q) (fun K _ _ s q => by cases q)
  obtain ⟨r, m2, hx, z, D', rfl, rfl, q⟩ := XR_of (i := 221) (args := [.inr (some 479)]) (Nat.le_of_ble_eq_true rfl) (Nat.le_of_ble_eq_true rfl) rfl hq
  exact ⟨z, D', hx, q⟩
def TkP (k : Nat) (D0 D : KK) : Prop := ∀ x j, D x j = if x = 507 ∧ j < k then D0 507 (150 + j) else D0 x j
theorem TkP_s {k : Nat} {D0 D : KK} (hk : k < 150) (h : TkP k D0 D) : TkP (k + 1) D0 (xui D 507 k (D0 507 (150 + k))) := by
  intro x j
  show (if x = 507 ∧ j = k then D0 507 (150 + k) else D x j) = _
  rcases Classical.em (x = 507 ∧ j = k) with q | q
  · rw [if_pos q, if_pos (by omega), q.2]
  · rw [if_neg q, h x j]
    rcases Classical.em (x = 507 ∧ j < k) with r | r
    · rw [if_pos r, if_pos (by omega)]
    · rw [if_neg r, if_neg (by omega)]
set_option maxHeartbeats 2000000 in
theorem r_tkP_L {n N : Nat} {R : Nat → Nat → Option Nat} {D0 : KK} (hR : RF R) (hN : N ≤ 30) : ∀ (k : Nat) (i : Nat) (D : KK), i + k = 5 * N → TkP i D0 D → XX (XC 0) 222 (XP none (xS n) R (fun D' => ∃ D1, TkP (5 * N) D0 D1 ∧ D' = xui D1 479 47 (N : Int))) 2 [some (.inr (some 479)), some (.inl (N : Int)), some (.inl (i : Int))] [] (xS n, R, D) := by
  intro k
  induction k using Nat.strongRecOn with
  | ind k ih =>
  intro i D hik hT
  refine xx_iload_n (q := 3) rfl rfl rfl ?_
  refine xx_iconst (q := 4) rfl rfl (by decide) ?_
  refine xx_iload_n (q := 5) rfl rfl rfl ?_
  refine xx_imulR (q := 6) rfl rfl (by omega) (by omega) ?_
  refine xx_icmp_ge (q := 31) (q2 := 9) rfl rfl rfl (fun h6 => ?_) (fun h6 => ?_)
  · refine xx_aload_n (q := 32) rfl rfl rfl ?_
    refine xx_iload_n (q := 33) rfl rfl rfl ?_
    refine xx_puz (q := 36) rfl rfl rfl xS_479 (Nat.le_of_ble_eq_true rfl) (Nat.le_of_ble_eq_true rfl) (fun h => by cases h) (Or.inl rfl) rfl ?_
    exact xx_vret rfl rfl ⟨rfl, _, rfl, D, by rw [show 5 * N = i by omega]; exact hT, rfl⟩
  · refine xx_aload_n (q := 10) rfl rfl rfl ?_
    refine xx_getR (q := 13) rfl rfl rfl xS_479 (Nat.le_of_ble_eq_true rfl) rfl (hR.1 479 46 rfl) ?_
    refine xx_iload_n (q := 14) rfl rfl rfl ?_
    refine xx_aload_n (q := 15) rfl rfl rfl ?_
    refine xx_getR (q := 18) rfl rfl rfl xS_479 (Nat.le_of_ble_eq_true rfl) rfl (hR.1 479 46 rfl) ?_
    refine xx_sipush (q := 21) rfl rfl (by decide) ?_
    refine xx_iload_n (q := 22) rfl rfl rfl ?_
    refine xx_iaddR (q := 23) rfl rfl (by omega) (by omega) ?_
    refine xx_iaz (v := D0 507 (150 + i)) (q := 24) rfl rfl xS_507 (by omega) (by omega) (by rw [show (150 + (i : Int)).toNat = 150 + i by omega]; exact (hT 507 (150 + i)).trans (if_neg (by omega))) ?_
    refine xr_isz (fun d => d = (xui D 507 i (D0 507 (150 + i)))) (q := 25) rfl rfl xS_507 (by omega) (by omega) (by rw [show ((i : Int)).toNat = i by omega]) (fun D3 hd3 => ?_)
    subst hd3
    refine xx_incz (q := 28) (loc2 := [_, _, _]) rfl rfl rfl (by omega) (by omega) rfl rfl ?_
    refine xx_goto (q := 2) rfl rfl ?_
    exact ih (k - 1) (by omega) (i + 1) _ (by omega) (TkP_s (by omega) hT)
def FTp (D0 D : KK) : Prop := ∀ x k, (x = 479 → k ≠ 47) → (x = 507 → 150 ≤ k) → D x k = D0 x k
theorem r_takesPlan {n : Nat} {R : Nat → Nat → Option Nat} {D : KK} {P : List PSt} (hR : RF R) (hl : P.length ≤ 30) (h1 : PlX 0 P (fun j => D 507 (150 + j))) : ∃ D', XC 1 222 [.inr (some 479), .inl (P.length : Int)] (xS n, R, D) none (xS n, R, D') ∧ PlR P D' ∧ FTp D D' := by
  have hx : ∃ D', XC 1 222 [.inr (some 479), .inl (P.length : Int)] (xS n, R, D) none (xS n, R, D') ∧ (∃ D1, TkP (5 * P.length) D D1 ∧ D' = xui D1 479 47 (P.length : Int)) := by
    refine XE_of (Nat.le_of_ble_eq_true rfl) (Nat.le_of_ble_eq_true rfl) (loc := [_, _, _]) rfl ?_
    refine xx_iconst (q := 1) rfl rfl (by decide) ?_
    refine xx_istore_n (q := 2) (loc2 := [_, _, _]) rfl rfl (Nat.le_of_ble_eq_true rfl) rfl ?_
    exact r_tkP_L hR hl (5 * P.length) 0 D (by omega) (fun x j => (if_neg (by omega)).symm)
  obtain ⟨D', hx, D1, a1, rfl⟩ := hx
  refine ⟨_, hx, ⟨xui_s, hl, fun j s hj => ?_⟩, fun x k q1 q2 => ?_⟩
  · have hjl := (List.getElem?_eq_some_iff.mp hj).1
    have u := (h1 j s hj).2
    have e : ∀ i : Int, 0 ≤ i → i < 5 → xui D1 479 47 (P.length : Int) 507 (5 * (j : Int) + i).toNat = D 507 (150 + ((j : Int) * 5 + i).toNat) := fun i q1 q2 => by
      rw [show xui D1 479 47 (P.length : Int) 507 (5 * (j : Int) + i).toNat = D1 507 (5 * (j : Int) + i).toNat from xui_a (by omega), a1, if_pos (by omega), show 5 * (j : Int) + i = (j : Int) * 5 + i by omega]
    have e0 := e 0 (by omega) (by omega)
    rw [Int.add_zero, Int.add_zero] at e0
    refine ⟨e0.trans (u.1.trans (by omega)), (e 1 (by omega) (by omega)).trans u.2.1, fun q => (e 2 (by omega) (by omega)).trans (u.2.2.1 q), fun q => (e 3 (by omega) (by omega)).trans (u.2.2.2.1 q), fun q => (e 4 (by omega) (by omega)).trans (u.2.2.2.2 q)⟩
  · show (if x = 479 ∧ k = 47 then _ else D1 x k) = D x k
    rw [if_neg (fun q => q1 q.1 q.2), a1, if_neg (fun q => by have := q2 q.1; omega)]
