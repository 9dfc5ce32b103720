/-! A plan is read: the reference. -/
def FRp (D0 D : KK) : Prop := ∀ x k, (x = 479 → k ≠ 25 ∧ k ≠ 26 ∧ k ≠ 27 ∧ k ≠ 28 ∧ k ≠ 38 ∧ k ≠ 39 ∧ k ≠ 41 ∧ k ≠ 42 ∧ k ≠ 43 ∧ k ≠ 48) → ((x = 504 ∨ x = 505) → k < 800) → (x = 507 → k < 150) → x ≠ 506 → D x k = D0 x k
def RpS (bs : List Int) (Lk B : Int) (D0 : KK) (s : Pg) (sp : Int) (D : KK) : Prop := RgO bs D (s.1, []) 0 none D ∧ TpR bs D ∧ WdR D ∧ D 479 6 = Lk ∧ D 479 7 = B ∧ D 479 48 = sp ∧ (∀ j, j < 150 → D 507 (150 + j) = s.2 j) ∧ FRp D0 D
def RpQ (bs : List Int) (Lk B : Int) (D0 : KK) (s : Pg) (sp : Int) (z : Int) (D : KK) : Prop := (s.1.1 = 0 ∧ z = 0 ∧ RpS bs Lk B D0 s sp D) ∨ (s.1.1 ≠ 0 ∧ z = -1 ∧ D 479 42 = s.1.1 ∧ D 479 43 = s.1.2.1 ∧ FRp D0 D)
theorem RpS.step {bs : List Int} {Lk B sp : Int} {D0 D E : KK} {s : Pg} {t : Tt} (h : RpS bs Lk B D0 s sp D) (g : RgO bs D (t, []) 0 none E) : RpS bs Lk B D0 (t, s.2) sp E := by
  have f := g.2.2.2.2.2.2.2
  obtain ⟨_, h2, h3, h4, h5, h6, h7, h8⟩ := h
  exact ⟨g.me, h2.fr (fun x k q => f x k (by omega) (by omega) (by omega)), fun j hj => (f 498 j (by omega) (by omega) (by omega)).trans (h3 j hj), (f 479 6 (by omega) (by omega) (by omega)).trans h4, (f 479 7 (by omega) (by omega) (by omega)).trans h5, (f 479 48 (by omega) (by omega) (by omega)).trans h6, fun j hj => (f 507 _ (by omega) (by omega) (by omega)).trans (h7 j hj), fun x k q1 q2 q3 q4 => (f x k (fun e => by have := q1 e; omega) q2 q4).trans (h8 x k q1 q2 q3 q4)⟩
theorem RpS.put {bs : List Int} {Lk B sp : Int} {D0 D : KK} {s : Pg} (h : RpS bs Lk B D0 s sp D) (i : Nat) (v : Int) : RpS bs Lk B D0 (s.1, fset s.2 i v) sp (xui D 507 (150 + i) v) := by
  obtain ⟨⟨g1, g2, g3, g4, g5, g6, g7, _⟩, h2, h3, h4, h5, h6, h7, h8⟩ := h
  refine ⟨⟨g1.fr (fun k q => xui_a (by omega)), g2, g3, (xui_a (by omega)).trans g4, fun j hj => absurd hj (Nat.not_lt_zero _), (xui_a (by omega)).trans g6, trivial, fun _ _ _ _ _ => rfl⟩, h2.fr (fun x k q => xui_a (by omega)), fun j hj => (xui_a (by omega)).trans (h3 j hj), (xui_a (by omega)).trans h4, (xui_a (by omega)).trans h5, (xui_a (by omega)).trans h6, fun j hj => ?_, fun x k q1 q2 q3 q4 => (if_neg (fun q => by have := q3 q.1; omega)).trans (h8 x k q1 q2 q3 q4)⟩
  show (if 507 = 507 ∧ 150 + j = 150 + i then v else D 507 (150 + j)) = if j = i then v else s.2 j
  rcases Classical.em (j = i) with e | e
  · rw [if_pos ⟨rfl, by omega⟩, if_pos e]
  · rw [if_neg (by omega), if_neg e]; exact h7 j hj
theorem RpS.spo {bs : List Int} {Lk B sp : Int} {D0 D : KK} {s : Pg} (h : RpS bs Lk B D0 s sp D) (v : Int) : RpS bs Lk B D0 s v (xui D 479 48 v) := by
  obtain ⟨⟨g1, g2, g3, g4, g5, g6, g7, _⟩, h2, h3, h4, h5, h6, h7, h8⟩ := h
  exact ⟨⟨g1.fr (fun k q => xui_j (by omega)), g2, g3, (xui_j (by omega)).trans g4, fun j hj => absurd hj (Nat.not_lt_zero _), (xui_j (by omega)).trans g6, trivial, fun _ _ _ _ _ => rfl⟩, h2.fr (fun x k q => if_neg (by omega)), fun j hj => (xui_a (by omega)).trans (h3 j hj), (xui_j (by omega)).trans h4, (xui_j (by omega)).trans h5, xui_s, fun j hj => (xui_a (by omega)).trans (h7 j hj), fun x k q1 q2 q3 q4 => (if_neg (fun q => by have := q1 q.1; omega)).trans (h8 x k q1 q2 q3 q4)⟩
theorem RpS.fl {bs : List Int} {Lk B sp f p : Int} {D0 D E : KK} {s : Pg} (h : RpS bs Lk B D0 s sp D) (g : RgF f p D E) : E 479 42 = f ∧ E 479 43 = p ∧ FRp D0 E := ⟨g.1, g.2.1, fun x k q1 q2 q3 q4 => (g.2.2 x k (fun e => by have := q1 e; omega) q2 q4).trans (h.2.2.2.2.2.2.2 x k q1 q2 q3 q4)⟩
def RpX (bs : List Int) (Lk B : Int) (D0 : KK) (s : Pg) (sp : Int) (n : Nat) (R : Nat → Nat → Option Nat) : XQ := fun r m2 => ∃ z D', r = some (.inl z) ∧ m2 = (xS n, R, D') ∧ RpQ bs Lk B D0 s sp z D'
theorem XPl_of {d i : Nat} {args : List XV} {m : XM} {bs : List Int} {Lk B : Int} {D0 : KK} {s : Pg} {sp : Int} {n : Nat} {R : Nat → Nat → Option Nat} (hi : i < 316) (ha : args.length ≤ xml i) {loc : XLc} (hl : xent i args = loc) (h : XX (XC d) i (RpX bs Lk B D0 s sp n R) 0 loc [] m) : ∃ z D', XC (d + 1) i args m (some (.inl z)) (xS n, R, D') ∧ RpQ bs Lk B D0 s sp z D' := by
  obtain ⟨r, m2, h1, z, D', rfl, rfl, h2⟩ := XR_of hi ha hl h
  exact ⟨z, D', h1, h2⟩
theorem RpQ.dd {bs : List Int} {Lk B : Int} {D0 D : KK} {s : Pg} {sp : Int} {t : Tt} (hd : t.1 ≠ 0) (h1 : D 479 42 = t.1) (h2 : D 479 43 = t.2.1) (h3 : FRp D0 D) (e1 : s.1.1 = t.1) (e2 : s.1.2.1 = t.2.1) : RpQ bs Lk B D0 s sp (-1) D := Or.inr ⟨by rw [e1]; exact hd, rfl, by rw [e1]; exact h1, by rw [e2]; exact h2, h3⟩
/-- dead stays dead -/
def DeP (s s2 : Pg) : Prop := s2.1.1 = s.1.1 ∧ s2.1.2.1 = s.1.2.1
theorem DeP.trans {a b c : Pg} (h : DeP a b) (g : DeP b c) : DeP a c := ⟨g.1.trans h.1, g.2.trans h.2⟩
theorem kp_d {s : Pg} (h : s.1.1 ≠ 0) : kdP s = 258 := if_neg h
theorem wrT_d {t : Tt} {k : Int} (h : t.1 ≠ 0) : wrT k t = t := if_neg h
theorem nwP_d {lo hi j : Int} {s : Pg} (h : s.1.1 ≠ 0) : DeP s (nwP lo hi j s) := by
  have e : nwT lo hi s.1 = stT s.1 := by unfold nwT; rw [if_neg (by rw [show kdT s.1 = 258 from if_neg h]; omega), wrT_d h]
  unfold DeP nwP
  rw [e]
  exact ⟨rfl, rfl⟩
theorem exP_d {k : Int} {s : Pg} (h : s.1.1 ≠ 0) (hk : k ≠ 258) : DeP s (exP k s) := by
  unfold DeP exP
  rw [exT_d h hk]
  exact ⟨rfl, rfl⟩
theorem wiP_d {a B : Int} {s : Pg} (h : s.1.1 ≠ 0) : DeP s (wiP a B s) := by
  unfold wiP
  rw [if_neg (by rw [kp_d h]; omega)]
  exact ⟨rfl, rfl⟩
theorem upQ_d {s : Pg} (h : s.1.1 ≠ 0) : DeP s (upQ s) := by
  unfold upQ
  rw [if_neg (by rw [kp_d h]; omega)]
  exact exP_d h (by decide)
theorem DeP.dd {a b : Pg} (h : DeP a b) (q : a.1.1 ≠ 0) : b.1.1 ≠ 0 := by rw [h.1]; exact q
set_option maxHeartbeats 2000000 in
theorem r_rdnum {n : Nat} {R : Nat → Nat → Option Nat} {D0 D : KK} {bs : List Int} {Lk B sp : Int} {s : Pg} (hR : RF R) (hl4 : bs.length ≤ 400) (hby : ∀ j, 0 ≤ bs.getD j 0 ∧ bs.getD j 0 ≤ 255) (hS : RpS bs Lk B D0 s sp D) (lo hi : Int) (h0 : 150 ≤ sp) (h1 : sp < 300) : ∃ z D', XC 4 215 [.inr (some 479), .inl lo, .inl hi] (xS n, R, D) (some (.inl z)) (xS n, R, D') ∧ RpQ bs Lk B D0 (nwP lo hi (sp - 150) s) (sp + 1) z D' := by
  obtain ⟨hK, hw, hkd, hl1⟩ := hS.1.hd
  have hk0 := tok_n hK hw
  refine XPl_of (Nat.le_of_ble_eq_true rfl) (Nat.le_of_ble_eq_true rfl) (loc := [_, _, _]) rfl ?_
  refine xx_aload_n (q := 1) rfl rfl rfl ?_
  refine xx_gez (q := 4) rfl rfl rfl xS_479 (Nat.le_of_ble_eq_true rfl) rfl rfl ?_
  refine xx_iconst (q := 5) rfl rfl (by decide) ?_
  refine xx_icmp_eq (q := 14) (q2 := 8) rfl rfl rfl (fun h5 => ?_) (fun h5 => ?_)
  · have hk6 : kdT s.1 = 256 := hkd.trans (hk0.mp h5)
    have hvv : D 479 28 = vlT s.1 := (hK.2.2.2.1 (hk0.mp h5)).2
    refine xx_aload_n (q := 15) rfl rfl rfl ?_
    refine xx_aload_n (q := 16) rfl rfl rfl ?_
    refine xx_gez (q := 19) rfl rfl rfl xS_479 (Nat.le_of_ble_eq_true rfl) rfl hvv ?_
    refine xx_iload_n (q := 20) rfl rfl rfl ?_
    refine xx_iload_n (q := 21) rfl rfl rfl ?_
    refine xx_callV (q := 24) (As := [_, _, _]) (rest := []) rfl rfl rfl (Or.inl rfl) rfl rfl (Nat.le_of_ble_eq_true rfl) xS_479 (XCm (r_isIn (vlT s.1) lo hi) rfl) rfl ?_
    refine xx_ifb_ne (q := 33) (q2 := 27) rfl rfl rfl (fun h24 => ?_) (fun h24 => ?_)
    · refine xx_aload_n (q := 34) rfl rfl rfl ?_
      refine xx_getR (q := 37) rfl rfl rfl xS_479 (Nat.le_of_ble_eq_true rfl) rfl (hR.1 479 46 rfl) ?_
      refine xx_aload_n (q := 38) rfl rfl rfl ?_
      refine xx_gez (q := 41) rfl rfl rfl xS_479 (Nat.le_of_ble_eq_true rfl) rfl hS.2.2.2.2.2.1 ?_
      refine xx_aload_n (q := 42) rfl rfl rfl ?_
      refine xx_gez (q := 45) rfl rfl rfl xS_479 (Nat.le_of_ble_eq_true rfl) rfl hvv ?_
      refine xr_isz (RpS bs Lk B D0 (((s).1), fset (s).2 (sp - 150).toNat (vlT s.1)) sp) (q := 46) rfl rfl xS_507 (by omega) (by omega) (by rw [show (sp).toNat = 150 + (sp - 150).toNat by omega]; exact hS.put (sp - 150).toNat _) (fun D2 hS2 => ?_)
      refine xx_aload_n (q := 47) rfl rfl rfl ?_
      refine xx_aload_n (q := 48) rfl rfl rfl ?_
      refine xx_gez (q := 51) rfl rfl rfl xS_479 (Nat.le_of_ble_eq_true rfl) rfl hS2.2.2.2.2.2.1 ?_
      refine xx_iconst (q := 52) rfl rfl (by decide) ?_
      refine xx_iaddR (q := 53) rfl rfl (by omega) (by omega) ?_
      refine xr_puz (RpS bs Lk B D0 ((s).1, fset (s).2 (sp - 150).toNat (vlT s.1)) (sp + 1)) (q := 56) rfl rfl rfl xS_479 (Nat.le_of_ble_eq_true rfl) (Nat.le_of_ble_eq_true rfl) (fun h => by cases h) (Or.inl rfl) (hS2.spo _) (fun D4 hS4 => ?_)
      refine xx_aload_n (q := 57) rfl rfl rfl ?_
      obtain ⟨D5, hx5, hO5, hs5⟩ := r_nexT (n := n) hR hS4.2.1 hl4 hby hS4.2.2.1 hS4.1 (by show kdT s.1 ≠ 258; omega)
      have hS5 := hS4.step (t := stT ((((s).1, fset (s).2 (sp - 150).toNat (vlT s.1))).1)) hO5
      refine xx_callV (q := 60) (As := []) (rest := []) rfl rfl rfl (Or.inl rfl) rfl rfl (Nat.le_of_ble_eq_true rfl) xS_479 (XCm hx5 rfl) rfl ?_
      refine xx_iconst (q := 61) rfl rfl (by decide) ?_
      refine xx_iret rfl trivial ⟨_, _, rfl, rfl, Or.inl ?_⟩
      have en : nwT lo hi s.1 = stT s.1 := by unfold nwT; rw [if_pos hk6, if_pos h24]
      have e2 : nwP lo hi (sp - 150) s = (stT s.1, fset s.2 (sp - 150).toNat (vlT s.1)) := by unfold nwP; rw [en]
      rw [e2]
      exact ⟨hS.1.2.2.1, rfl, hS5⟩
    · refine xx_aload_n (q := 28) rfl rfl rfl ?_
      refine xx_iconst (q := 29) rfl rfl (by decide) ?_
      obtain ⟨D6, hx6, hF6⟩ := r_errs (n := n) hR hS.1 2
      refine xx_callV (q := 32) (As := [_]) (rest := []) rfl rfl rfl (Or.inl rfl) rfl rfl (Nat.le_of_ble_eq_true rfl) xS_479 (XCm hx6 rfl) rfl ?_
      have en : nwT lo hi s.1 = stT (wrT 2 s.1) := by unfold nwT; rw [if_pos hk6, if_neg h24]
      exact xx_iret rfl trivial ⟨_, _, rfl, rfl, RpQ.dd (t := wrT 2 s.1) (wrT_0 hS.1.2.2.1 (by decide)) (hS.fl hF6).1 (hS.fl hF6).2.1 (hS.fl hF6).2.2 (by show (nwT lo hi s.1).1 = _; rw [en]; rfl) (by show (nwT lo hi s.1).2.1 = _; rw [en]; rfl)⟩
  · have hk6 : ¬ kdT s.1 = 256 := fun q => h5 (hk0.mpr (hkd.symm.trans q))
    refine xx_aload_n (q := 9) rfl rfl rfl ?_
    refine xx_iconst (q := 10) rfl rfl (by decide) ?_
    obtain ⟨D7, hx7, hF7⟩ := r_errs (n := n) hR hS.1 1
    refine xx_callV (q := 13) (As := [_]) (rest := []) rfl rfl rfl (Or.inl rfl) rfl rfl (Nat.le_of_ble_eq_true rfl) xS_479 (XCm hx7 rfl) rfl ?_
    have en : nwT lo hi s.1 = stT (wrT 1 s.1) := by unfold nwT; rw [if_neg hk6]
    exact xx_iret rfl trivial ⟨_, _, rfl, rfl, RpQ.dd (t := wrT 1 s.1) (wrT_0 hS.1.2.2.1 (by decide)) (hS.fl hF7).1 (hS.fl hF7).2.1 (hS.fl hF7).2.2 (by show (nwT lo hi s.1).1 = _; rw [en]; rfl) (by show (nwT lo hi s.1).2.1 = _; rw [en]; rfl)⟩
theorem r_rdword {n : Nat} {R : Nat → Nat → Option Nat} {D0 D : KK} {bs : List Int} {Lk B sp : Int} {s : Pg} (hR : RF R) (hl4 : bs.length ≤ 400) (hby : ∀ j, 0 ≤ bs.getD j 0 ∧ bs.getD j 0 ≤ 255) (hS : RpS bs Lk B D0 s sp D) (kk ww : Int) (hk0 : 300 ≤ kk) (hk1 : kk ≤ 330) (hk2 : wmp kk = ww) : ∃ z D', XC 4 216 [.inr (some 479), .inl ww] (xS n, R, D) (some (.inl z)) (xS n, R, D') ∧ RpQ bs Lk B D0 (exP kk s) sp z D' := by
  refine XPl_of (Nat.le_of_ble_eq_true rfl) (Nat.le_of_ble_eq_true rfl) (loc := [_, _]) rfl ?_
  refine xx_aload_n (q := 1) rfl rfl rfl ?_
  refine xx_iload_n (q := 2) rfl rfl rfl ?_
  refine xx_callV (q := 5) (As := [_]) (rest := []) rfl rfl rfl (Or.inl rfl) rfl rfl (Nat.le_of_ble_eq_true rfl) xS_479 (XCm (r_isWord (n := n) hR hS.1 kk ww hk0 hk1 hk2) rfl) rfl ?_
  refine xx_ifb_ne (q := 14) (q2 := 8) rfl rfl rfl (fun h5 => ?_) (fun h5 => ?_)
  · skip
    refine xx_aload_n (q := 15) rfl rfl rfl ?_
    obtain ⟨D1, hx1, hO1, hs1⟩ := r_nexT (n := n) hR hS.2.1 hl4 hby hS.2.2.1 hS.1 (by show kdT s.1 ≠ 258; have : kdT s.1 = kk := h5; omega)
    have hS1 := hS.step (t := stT ((s).1)) hO1
    refine xx_callV (q := 18) (As := []) (rest := []) rfl rfl rfl (Or.inl rfl) rfl rfl (Nat.le_of_ble_eq_true rfl) xS_479 (XCm hx1 rfl) rfl ?_
    refine xx_iconst (q := 19) rfl rfl (by decide) ?_
    refine xx_iret rfl trivial ⟨_, _, rfl, rfl, Or.inl ?_⟩
    rw [show exP kk s = (stT s.1, s.2) from congrArg (fun t => (t, s.2)) (if_pos h5)]
    exact ⟨hS.1.2.2.1, rfl, hS1⟩
  · refine xx_aload_n (q := 9) rfl rfl rfl ?_
    refine xx_iconst (q := 10) rfl rfl (by decide) ?_
    obtain ⟨D2, hx2, hF2⟩ := r_errs (n := n) hR hS.1 1
    refine xx_callV (q := 13) (As := [_]) (rest := []) rfl rfl rfl (Or.inl rfl) rfl rfl (Nat.le_of_ble_eq_true rfl) xS_479 (XCm hx2 rfl) rfl ?_
    have en : exT kk s.1 = wrT 1 s.1 := if_neg h5
    exact xx_iret rfl trivial ⟨_, _, rfl, rfl, RpQ.dd (t := wrT 1 s.1) (wrT_0 hS.1.2.2.1 (by decide)) (hS.fl hF2).1 (hS.fl hF2).2.1 (hS.fl hF2).2.2 (by show (exT kk s.1).1 = _; rw [en]) (by show (exT kk s.1).2.1 = _; rw [en])⟩
theorem r_rdn {n : Nat} {R : Nat → Nat → Option Nat} {D0 D : KK} {bs : List Int} {Lk B sp : Int} {s : Pg} (hR : RF R) (hl4 : bs.length ≤ 400) (hby : ∀ j, 0 ≤ bs.getD j 0 ∧ bs.getD j 0 ≤ 255) (hS : RpS bs Lk B D0 s sp D) (lo hi j sp2 : Int) (hj : sp = 150 + j) (h2 : sp2 = sp + 1) (h0 : 0 ≤ j) (h1 : j < 150) : ∃ z D', XC 4 215 [.inr (some 479), .inl lo, .inl hi] (xS n, R, D) (some (.inl z)) (xS n, R, D') ∧ RpQ bs Lk B D0 (nwP lo hi j s) sp2 z D' := by
  subst h2
  have e : j = sp - 150 := by omega
  rw [e]
  exact r_rdnum hR hl4 hby hS lo hi (by omega) (by omega)
theorem fset2 {d : Nat → Int} {j : Nat} {x y : Int} : fset (fset d j x) j y = fset d j y := by
  funext i
  unfold fset
  split
  · rfl
  · rfl
set_option maxHeartbeats 2000000 in
theorem r_rdgive {n : Nat} {R : Nat → Nat → Option Nat} {D0 D : KK} {bs : List Int} {Lk B a : Int} {s : Pg} (hR : RF R) (hl4 : bs.length ≤ 400) (hby : ∀ j, 0 ≤ bs.getD j 0 ∧ bs.getD j 0 ≤ 255) (hS : RpS bs Lk B D0 s (150 + a + 1) D) (ha0 : 0 ≤ a) (ha1 : a ≤ 145) (hB0 : 0 ≤ B) (hB1 : B ≤ 6) (hL0 : 0 ≤ Lk) (hL1 : Lk ≤ 9) : ∃ z D', XC 5 218 [.inr (some 479)] (xS n, R, D) (some (.inl z)) (xS n, R, D') ∧ RpQ bs Lk B D0 (gvP9 a Lk B s) (150 + a + 5) z D' := by
  refine XPl_of (Nat.le_of_ble_eq_true rfl) (Nat.le_of_ble_eq_true rfl) (loc := [_]) rfl ?_
  refine xx_aload_n (q := 1) rfl rfl rfl ?_
  refine xx_iconst (q := 2) rfl rfl (by decide) ?_
  refine xx_bipush (q := 4) rfl rfl (by decide) ?_
  obtain ⟨z1, D1, hx1, hq1⟩ := r_rdn (n := n) hR hl4 hby hS 1 99 (a + 1) (150 + a + 2) (by omega) (by omega) (by omega) (by omega)
  refine xx_callV (q := 7) (As := [_, _]) (rest := []) rfl rfl rfl (Or.inl rfl) rfl rfl (Nat.le_of_ble_eq_true rfl) xS_479 (XCm hx1 rfl) rfl ?_
  refine xx_iconst (q := 8) rfl rfl (by decide) ?_
  refine xx_icmp_eq (q := 31) (q2 := 11) rfl rfl rfl (fun h8 => ?_) (fun h8 => ?_)
  · refine xx_iconst (q := 32) rfl rfl (by decide) ?_
    replace hq1 := hq1.resolve_left (fun q => by have := q.2.1; omega)
    have g0 := exP_d (k := 328) hq1.1 (by decide)
    have d0 := g0.dd hq1.1
    have g1 := nwP_d (lo := 0) (hi := 3) (j := a + 2) d0
    have d1 := g1.dd d0
    have g2 := exP_d (k := 329) d1 (by decide)
    have d2 := g2.dd d1
    have g3 := nwP_d (lo := 0) (hi := (Lk - 1)) (j := a + 3) d2
    have d3 := g3.dd d2
    have g4 := exP_d (k := 330) d3 (by decide)
    have d4 := g4.dd d3
    have g5 := nwP_d (lo := 0) (hi := (B - 1)) (j := a + 4) d4
    have d5 := g5.dd d4
    exact xx_iret rfl trivial ⟨_, _, rfl, rfl, RpQ.dd (t := (nwP 1 99 (a + 1) s).1) hq1.1 hq1.2.2.1 hq1.2.2.2.1 hq1.2.2.2.2 ((g0.trans (g1.trans (g2.trans (g3.trans (g4.trans (g5)))))).1) ((g0.trans (g1.trans (g2.trans (g3.trans (g4.trans (g5)))))).2)⟩
  · replace hq1 := hq1.resolve_right (fun q => h8 q.2.1)
    refine xx_aload_n (q := 12) rfl rfl rfl ?_
    refine xx_bipush (q := 14) rfl rfl (by decide) ?_
    obtain ⟨z2, D2, hx2, hq2⟩ := r_rdword (n := n) hR hl4 hby hq1.2.2 328 26 (by decide) (by decide) (by decide +kernel)
    refine xx_callV (q := 17) (As := [_]) (rest := []) rfl rfl rfl (Or.inl rfl) rfl rfl (Nat.le_of_ble_eq_true rfl) xS_479 (XCm hx2 rfl) rfl ?_
    refine xx_iconst (q := 18) rfl rfl (by decide) ?_
    refine xx_icmp_eq (q := 31) (q2 := 21) rfl rfl rfl (fun h18 => ?_) (fun h18 => ?_)
    · refine xx_iconst (q := 32) rfl rfl (by decide) ?_
      replace hq2 := hq2.resolve_left (fun q => by have := q.2.1; omega)
      have g0 := nwP_d (lo := 0) (hi := 3) (j := a + 2) hq2.1
      have d0 := g0.dd hq2.1
      have g1 := exP_d (k := 329) d0 (by decide)
      have d1 := g1.dd d0
      have g2 := nwP_d (lo := 0) (hi := (Lk - 1)) (j := a + 3) d1
      have d2 := g2.dd d1
      have g3 := exP_d (k := 330) d2 (by decide)
      have d3 := g3.dd d2
      have g4 := nwP_d (lo := 0) (hi := (B - 1)) (j := a + 4) d3
      have d4 := g4.dd d3
      exact xx_iret rfl trivial ⟨_, _, rfl, rfl, RpQ.dd (t := (exP 328 (nwP 1 99 (a + 1) s)).1) hq2.1 hq2.2.2.1 hq2.2.2.2.1 hq2.2.2.2.2 ((g0.trans (g1.trans (g2.trans (g3.trans (g4))))).1) ((g0.trans (g1.trans (g2.trans (g3.trans (g4))))).2)⟩
    · replace hq2 := hq2.resolve_right (fun q => h18 q.2.1)
      refine xx_aload_n (q := 22) rfl rfl rfl ?_
      refine xx_iconst (q := 23) rfl rfl (by decide) ?_
      refine xx_iconst (q := 24) rfl rfl (by decide) ?_
      obtain ⟨z3, D3, hx3, hq3⟩ := r_rdn (n := n) hR hl4 hby hq2.2.2 0 3 (a + 2) (150 + a + 3) (by omega) (by omega) (by omega) (by omega)
      refine xx_callV (q := 27) (As := [_, _]) (rest := []) rfl rfl rfl (Or.inl rfl) rfl rfl (Nat.le_of_ble_eq_true rfl) xS_479 (XCm hx3 rfl) rfl ?_
      refine xx_iconst (q := 28) rfl rfl (by decide) ?_
      refine xx_icmp_ne (q := 33) (q2 := 31) rfl rfl rfl (fun h28 => ?_) (fun h28 => ?_)
      · replace hq3 := hq3.resolve_right (fun q => h28 q.2.1)
        refine xx_aload_n (q := 34) rfl rfl rfl ?_
        refine xx_bipush (q := 36) rfl rfl (by decide) ?_
        obtain ⟨z4, D4, hx4, hq4⟩ := r_rdword (n := n) hR hl4 hby hq3.2.2 329 27 (by decide) (by decide) (by decide +kernel)
        refine xx_callV (q := 39) (As := [_]) (rest := []) rfl rfl rfl (Or.inl rfl) rfl rfl (Nat.le_of_ble_eq_true rfl) xS_479 (XCm hx4 rfl) rfl ?_
        refine xx_iconst (q := 40) rfl rfl (by decide) ?_
        refine xx_icmp_eq (q := 68) (q2 := 43) rfl rfl rfl (fun h40 => ?_) (fun h40 => ?_)
        · refine xx_iconst (q := 69) rfl rfl (by decide) ?_
          replace hq4 := hq4.resolve_left (fun q => by have := q.2.1; omega)
          have g0 := nwP_d (lo := 0) (hi := (Lk - 1)) (j := a + 3) hq4.1
          have d0 := g0.dd hq4.1
          have g1 := exP_d (k := 330) d0 (by decide)
          have d1 := g1.dd d0
          have g2 := nwP_d (lo := 0) (hi := (B - 1)) (j := a + 4) d1
          have d2 := g2.dd d1
          exact xx_iret rfl trivial ⟨_, _, rfl, rfl, RpQ.dd (t := (exP 329 (nwP 0 3 (a + 2) (exP 328 (nwP 1 99 (a + 1) s)))).1) hq4.1 hq4.2.2.1 hq4.2.2.2.1 hq4.2.2.2.2 ((g0.trans (g1.trans (g2))).1) ((g0.trans (g1.trans (g2))).2)⟩
        · replace hq4 := hq4.resolve_right (fun q => h40 q.2.1)
          refine xx_aload_n (q := 44) rfl rfl rfl ?_
          refine xx_iconst (q := 45) rfl rfl (by decide) ?_
          refine xx_aload_n (q := 46) rfl rfl rfl ?_
          refine xx_gez (q := 49) rfl rfl rfl xS_479 (Nat.le_of_ble_eq_true rfl) rfl hq4.2.2.2.2.2.1 ?_
          refine xx_iconst (q := 50) rfl rfl (by decide) ?_
          refine xx_isubR (q := 51) rfl rfl (by omega) (by omega) ?_
          obtain ⟨z5, D5, hx5, hq5⟩ := r_rdn (n := n) hR hl4 hby hq4.2.2 0 (Lk - 1) (a + 3) (150 + a + 4) (by omega) (by omega) (by omega) (by omega)
          refine xx_callV (q := 54) (As := [_, _]) (rest := []) rfl rfl rfl (Or.inl rfl) rfl rfl (Nat.le_of_ble_eq_true rfl) xS_479 (XCm hx5 rfl) rfl ?_
          refine xx_iconst (q := 55) rfl rfl (by decide) ?_
          refine xx_icmp_eq (q := 68) (q2 := 58) rfl rfl rfl (fun h55 => ?_) (fun h55 => ?_)
          · refine xx_iconst (q := 69) rfl rfl (by decide) ?_
            replace hq5 := hq5.resolve_left (fun q => by have := q.2.1; omega)
            have g0 := exP_d (k := 330) hq5.1 (by decide)
            have d0 := g0.dd hq5.1
            have g1 := nwP_d (lo := 0) (hi := (B - 1)) (j := a + 4) d0
            have d1 := g1.dd d0
            exact xx_iret rfl trivial ⟨_, _, rfl, rfl, RpQ.dd (t := (nwP 0 (Lk - 1) (a + 3) (exP 329 (nwP 0 3 (a + 2) (exP 328 (nwP 1 99 (a + 1) s))))).1) hq5.1 hq5.2.2.1 hq5.2.2.2.1 hq5.2.2.2.2 ((g0.trans (g1)).1) ((g0.trans (g1)).2)⟩
          · replace hq5 := hq5.resolve_right (fun q => h55 q.2.1)
            refine xx_aload_n (q := 59) rfl rfl rfl ?_
            refine xx_bipush (q := 61) rfl rfl (by decide) ?_
            obtain ⟨z6, D6, hx6, hq6⟩ := r_rdword (n := n) hR hl4 hby hq5.2.2 330 28 (by decide) (by decide) (by decide +kernel)
            refine xx_callV (q := 64) (As := [_]) (rest := []) rfl rfl rfl (Or.inl rfl) rfl rfl (Nat.le_of_ble_eq_true rfl) xS_479 (XCm hx6 rfl) rfl ?_
            refine xx_iconst (q := 65) rfl rfl (by decide) ?_
            refine xx_icmp_ne (q := 70) (q2 := 68) rfl rfl rfl (fun h65 => ?_) (fun h65 => ?_)
            · replace hq6 := hq6.resolve_right (fun q => h65 q.2.1)
              refine xx_aload_n (q := 71) rfl rfl rfl ?_
              refine xx_iconst (q := 72) rfl rfl (by decide) ?_
              refine xx_aload_n (q := 73) rfl rfl rfl ?_
              refine xx_gez (q := 76) rfl rfl rfl xS_479 (Nat.le_of_ble_eq_true rfl) rfl hq6.2.2.2.2.2.2.1 ?_
              refine xx_iconst (q := 77) rfl rfl (by decide) ?_
              refine xx_isubR (q := 78) rfl rfl (by omega) (by omega) ?_
              obtain ⟨z7, D7, hx7, hq7⟩ := r_rdn (n := n) hR hl4 hby hq6.2.2 0 (B - 1) (a + 4) (150 + a + 5) (by omega) (by omega) (by omega) (by omega)
              refine xx_callV (q := 81) (As := [_, _]) (rest := []) rfl rfl rfl (Or.inl rfl) rfl rfl (Nat.le_of_ble_eq_true rfl) xS_479 (XCm hx7 rfl) rfl ?_
              exact xx_iret rfl trivial ⟨_, _, rfl, rfl, hq7⟩
            · refine xx_iconst (q := 69) rfl rfl (by decide) ?_
              replace hq6 := hq6.resolve_left (fun q => by have := q.2.1; omega)
              have g0 := nwP_d (lo := 0) (hi := (B - 1)) (j := a + 4) hq6.1
              have d0 := g0.dd hq6.1
              exact xx_iret rfl trivial ⟨_, _, rfl, rfl, RpQ.dd (t := (exP 330 (nwP 0 (Lk - 1) (a + 3) (exP 329 (nwP 0 3 (a + 2) (exP 328 (nwP 1 99 (a + 1) s)))))).1) hq6.1 hq6.2.2.1 hq6.2.2.2.1 hq6.2.2.2.2 ((g0).1) ((g0).2)⟩
      · refine xx_iconst (q := 32) rfl rfl (by decide) ?_
        replace hq3 := hq3.resolve_left (fun q => by have := q.2.1; omega)
        have g0 := exP_d (k := 329) hq3.1 (by decide)
        have d0 := g0.dd hq3.1
        have g1 := nwP_d (lo := 0) (hi := (Lk - 1)) (j := a + 3) d0
        have d1 := g1.dd d0
        have g2 := exP_d (k := 330) d1 (by decide)
        have d2 := g2.dd d1
        have g3 := nwP_d (lo := 0) (hi := (B - 1)) (j := a + 4) d2
        have d3 := g3.dd d2
        exact xx_iret rfl trivial ⟨_, _, rfl, rfl, RpQ.dd (t := (nwP 0 3 (a + 2) (exP 328 (nwP 1 99 (a + 1) s))).1) hq3.1 hq3.2.2.1 hq3.2.2.2.1 hq3.2.2.2.2 ((g0.trans (g1.trans (g2.trans (g3)))).1) ((g0.trans (g1.trans (g2.trans (g3)))).2)⟩
