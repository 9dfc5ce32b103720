/-! Order by its name: the reference. -/
theorem xshr_e {s : Int} (h : xok s) (B : Nat) (hB : B < 7) : xshr s (B : Int) = s / ((2 ^ B : Nat) : Int) := by
  have h2 : ∀ B : Nat, B < 7 → ((Int32.ofInt (B : Int) &&& 31).toBitVec.smod 32).toNat = B := by decide +kernel
  have e : xshr s (B : Int) = (BitVec.sshiftRight (Int32.ofInt s).toBitVec ((Int32.ofInt (B : Int) &&& 31).toBitVec.smod 32).toNat).toInt := rfl
  rw [e, h2 B hB, BitVec.toInt_sshiftRight, Int.shiftRight_eq_div_pow]
  have e3 : (Int32.ofInt s).toBitVec.toInt = s := xo_to h
  rw [e3]
theorem alP_R {K : KK} {s : Int} (hI : KI K) (h : xok s) : alP K s ↔ alR K s := by
  have hb := ki_B hI
  have h1 := xshl_B (K 13 0).toNat (by omega)
  have h2 := xshr_e h (K 13 0).toNat (by omega)
  rw [show (((K 13 0).toNat : Nat) : Int) = K 13 0 by omega] at h1 h2
  have hp : 0 < 2 ^ (K 13 0).toNat := Nat.pow_pos (by omega)
  unfold alP alR
  rw [h1, h2]
  constructor
  · rintro ⟨q1, q2⟩
    refine ⟨q1, ?_⟩
    rcases Classical.em (s < ((2 ^ (K 13 0).toNat : Nat) : Int)) with r | r
    · exact r
    · replace r := Int.not_lt.mp r
      have := Int.ediv_le_ediv (c := ((2 ^ (K 13 0).toNat : Nat) : Int)) (by omega) r
      rw [Int.ediv_self (by omega)] at this
      omega
  · rintro ⟨q1, q2⟩
    exact ⟨q1, Int.ediv_eq_zero_of_lt (by omega) q2⟩
theorem s_nat {s : Int} (h0 : 0 < s) (h1 : s < 64) : onL 8 s 0 = some (bcF s) ∧ 1 ≤ bcF s ∧ bcF s ≤ 6 ∧ (((bitF s 6 0).length : Nat) : Int) = bcF s := by
  have h := fin_1 s.toNat (by omega) (by omega)
  rw [show ((s.toNat : Nat) : Int) = s by omega] at h
  exact h
theorem s_bits {K : KK} {s : Int} (hI : KI K) (h : alR K s) : bitF s (K 13 0).toNat 0 = bitF s 6 0 := by
  have hb := ki_B hI
  have h1 := alR_64 hI h
  have h2 := h.1
  have h3 := fin_2 (K 13 0).toNat (by omega) s.toNat (by omega)
  rw [show ((s.toNat : Nat) : Int) = s by omega] at h3
  exact h3
theorem s_ord {s : Int} (h0 : 0 < s) (h1 : s < 64) (h5 : bcF s ≤ 5) : lnT 121 (bitF s 6 0) = some (pmF 6 s) ∧ pmF 6 s ≠ [] ∧ ∀ l ∈ pmF 6 s, (l.length : Int) = bcF s := by
  have h := fin_3 s.toNat (by omega) (by omega)
  rw [show ((s.toNat : Nat) : Int) = s by omega] at h
  exact h h5
theorem bit_mem (s : Int) {c : Int} : ∀ (k : Nat) (b : Int), c ∈ bitF s k b → b ≤ c ∧ c < b + k
  | 0, _, h => by cases h
  | k + 1, b, h => by
    unfold bitF at h
    split at h
    · have := bit_mem s k (b + 1) h; omega
    · rcases List.mem_cons.mp h with e | e
      · omega
      · have := bit_mem s k (b + 1) e; omega
theorem ordR_n {K : KK} {G : LwF} {s up w : Int} {a : OS} (hI : KI K) (hs : xok s) (h : ¬ alR K s ∨ (alR K s ∧ (5 < bcF s ∨ (¬ w = 0 ∧ ¬ (10 ≤ w ∧ w ≤ 9 + bcF s))))) : ordR K G s up w a = -1 := by
  unfold ordR
  rw [if_pos]
  rintro ⟨⟨q1, q2⟩, q3⟩
  rw [alP_R hI hs] at q1
  rcases h with h | ⟨h1, h⟩
  · exact h q1
  · have h2 := s_nat q1.1 (alR_64 hI q1).2
    rw [nrm_id ⟨by omega, by omega⟩] at q3
    omega
theorem ordR_y {K : KK} {G : LwF} {s up w : Int} {a : OS} (hI : KI K) (hs : xok s) (h : alR K s) (h5 : bcF s ≤ 5) (hw : w = 0 ∨ (10 ≤ w ∧ w ≤ 9 + bcF s)) : ordR K G s up w a = (if w = 0 then (fldR G up K (pmF 6 s) (-1, [])).1 else (fldR G up K (pmF 6 s) (-1, [])).2.getD (w - 10).toNat 0) ∧ (((fldR G up K (pmF 6 s) (-1, [])).2.length : Nat) : Int) = bcF s := by
  have h64 := (alR_64 hI h).2
  have h2 := s_nat h.1 h64
  obtain ⟨p1, p2, p3⟩ := s_ord h.1 h64 h5
  have hr := RelO_F (G := G) (up := up) 6 0 K s 0 (-1, a.2.1, a.2.2) (-1, a.2.1, a.2.2) (-1, none) ⟨rfl, fun _ _ => rfl, rfl⟩
  have hf := fldR_O (G := G) (up := up) (K := K) (pmF 6 s) (-1, none)
  obtain ⟨l, hl1, hl2⟩ := fldO_some (G := G) (up := up) (K := K) p2
  have hf2 : fldR G up K (pmF 6 s) (-1, []) = ((fldO G up K 0 (pmF 6 s) (-1, none)).1, l) := hf.trans (by rw [hl2]; rfl)
  obtain ⟨r1, r2, r3⟩ := hr
  rw [hl2] at r3
  rw [hf2]
  refine ⟨?_, p3 l hl1⟩
  unfold ordR
  rw [if_neg, nrm_id ⟨by omega, by omega⟩]
  · rcases hw with e | e
    · rw [if_neg (by omega), if_pos e]; exact r1
    · rw [if_pos e, if_neg (by omega)]
      have hlen := p3 l hl1
      have := r3 (w - 10).toNat (by omega)
      rw [if_neg (Nat.not_lt_zero _)] at this
      exact this
  · rw [nrm_id ⟨by omega, by omega⟩, alP_R hI hs]
    intro q
    exact q ⟨⟨h, by omega⟩, hw⟩
set_option maxHeartbeats 1000000 in
theorem r_or_E {n : Nat} {R : Nat → Nat → Option Nat} {K L D1 D D2 : KK} {b : Int} {B : Nat → Int} {U : UU} (hR : RF R) (hT : RT K b B U L D1 D2) (hI : KI K) (hP0 : PV K b B U D D1) (s up w N best res : Int) (x y : Option XV) (bl : List Int) (hBl : BlR bl D2) (hl6 : bl.length ≤ 6) (hw : w = 0 ∨ (10 ≤ w ∧ w < 10 + (bl.length : Int))) (hres : res = if w = 0 then best else bl.getD (w - 10).toNat 0) : XX (XC 10) 286 (XP (some (.inl res)) (xS n) R (PV K b B U D)) 141 [some (.inr (some 479)), some (.inl s), some (.inl up), some (.inl w), some (.inl N), some (.inl best), some (.inl 0), x, y] [] (xS n, R, D2) := by
  refine xx_aload_n (q := 142) rfl rfl rfl ?_
  obtain ⟨D1, hx1, hV1, hF1, hA1⟩ := r_endsThought (n := n) hR hT hI
  have hP1 : PV K b B U D D1 := ⟨hV1, hP0.2.trans hF1.fq⟩
  refine xx_callV (q := 145) (As := []) (rest := []) rfl rfl rfl (Or.inl rfl) rfl rfl (Nat.le_of_ble_eq_true rfl) xS_479 (XCm hx1 rfl) rfl ?_
  refine xx_iload_n (q := 146) rfl rfl rfl ?_
  refine xx_if_ne (q := 154) (q2 := 149) rfl rfl rfl (fun h146 => ?_) (fun h146 => ?_)
  · refine xx_aload_n (q := 155) rfl rfl rfl ?_
    refine xx_getR (q := 158) rfl rfl rfl xS_479 (Nat.le_of_ble_eq_true rfl) rfl (hR.1 479 61 rfl) ?_
    refine xx_iload_n (q := 159) rfl rfl rfl ?_
    refine xx_bipush (q := 161) rfl rfl (by decide) ?_
    refine xx_isubR (q := 162) rfl rfl (by omega) (by omega) ?_
    refine xx_iaz (v := bl.getD (w - 10).toNat 0) (q := 163) rfl rfl xS_514 (by omega) (by omega) ((hA1 514 _ (by omega) (by omega)).trans (hBl _ (by omega))) ?_
    exact xx_iret rfl trivial ⟨congrArg (fun z => some (Sum.inl z)) (by rw [hres]; rw [if_neg h146]), _, rfl, hP1⟩
  · refine xx_iload (q := 151) rfl rfl rfl ?_
    refine xx_goto (q := 163) rfl rfl ?_
    exact xx_iret rfl trivial ⟨congrArg (fun z => some (Sum.inl z)) (by rw [hres]; rw [if_pos h146]), _, rfl, hP1⟩
set_option maxHeartbeats 4000000 in
theorem r_order {n : Nat} {R : Nat → Nat → Option Nat} {K D : KK} {b : Int} {B : Nat → Int} {U : UU} (hR : RF R) (hV : RV 0 K b B U D D) (hI : KI K) {G : LwF} (hG : RLG G n R D) (s up w : Int) (hs : xok s) (a : OS) : ∃ D', XC 11 286 [.inr (some 479), .inl s, .inl up, .inl w] (xS n, R, D) (some (.inl (ordR K G s up w a))) (xS n, R, D') ∧ PV (K) (b) (B) (U) D D' := by
  have hbB := ki_B hI
  refine XE_of (Nat.le_of_ble_eq_true rfl) (Nat.le_of_ble_eq_true rfl) (loc := [_, _, _, _, _, _, _, _, _]) rfl ?_
  refine xx_aload_n (q := 1) rfl rfl rfl ?_
  refine xx_iconst (q := 2) rfl rfl (by decide) ?_
  refine xr_puz (PV K b B U D) (q := 5) rfl rfl rfl xS_479 (Nat.le_of_ble_eq_true rfl) (Nat.le_of_ble_eq_true rfl) (fun h => by cases h) (Or.inl rfl) ⟨hV.u (by decide), FQ.rf.up (by unfold restQ; omega)⟩ (fun D1 hP0 => ?_)
  refine xx_aload_n (q := 6) rfl rfl rfl ?_
  refine xx_iload_n (q := 7) rfl rfl rfl ?_
  refine xx_callV (q := 10) (As := [_]) (rest := []) rfl rfl rfl (Or.inl rfl) rfl rfl (Nat.le_of_ble_eq_true rfl) xS_479 (XCm (r_isSet hR hP0.1 hI s) rfl) rfl ?_
  refine xx_ifb_eq (q := 44) (q2 := 13) rfl rfl rfl (fun h10 => ?_) (fun h10 => ?_)
  · refine xx_iconst (q := 45) rfl rfl (by decide) ?_
    refine xx_iret rfl trivial ⟨congrArg (fun z => some (Sum.inl z)) (by exact (ordR_n hI hs (Or.inl h10)).symm), _, rfl, ?_⟩
    exact hP0
  · have halr := h10
    have hs64 := (alR_64 hI h10).2
    have hsn := s_nat halr.1 hs64
    refine xx_aload_n (q := 14) rfl rfl rfl ?_
    refine xx_iload_n (q := 15) rfl rfl rfl ?_
    refine xx_callV (q := 18) (As := [_]) (rest := []) rfl rfl rfl (Or.inl rfl) rfl rfl (Nat.le_of_ble_eq_true rfl) xS_479 (XCm (r_ones s (bcF s) hsn.1) rfl) rfl ?_
    refine xx_iconst (q := 19) rfl rfl (by decide) ?_
    refine xx_icmp_gt (q := 44) (q2 := 22) rfl rfl rfl (fun h19 => ?_) (fun h19 => ?_)
    · refine xx_iconst (q := 45) rfl rfl (by decide) ?_
      refine xx_iret rfl trivial ⟨congrArg (fun z => some (Sum.inl z)) (by exact (ordR_n hI hs (Or.inr ⟨h10, Or.inl (by omega)⟩)).symm), _, rfl, ?_⟩
      exact hP0
    · refine xx_iload_n (q := 23) rfl rfl rfl ?_
      refine xx_if_eq (q := 46) (q2 := 26) rfl rfl rfl (fun h23 => ?_) (fun h23 => ?_)
      · refine xx_aload_n (q := 47) rfl rfl rfl ?_
        refine xx_iload_n (q := 48) rfl rfl rfl ?_
        obtain ⟨D1, hx1, hL1, hF1⟩ := r_takesSet (n := n) hR hI (rv_B hP0.1) s
        have hbt := s_bits hI halr
        rw [hbt] at hx1 hL1
        have hP1 : PV K b B U D D1 := ⟨hP0.1.self2 (fun x k q => hF1 x k (by omega)), hP0.2.trans (fun x k q => hF1 x k (by unfold restQ at q; omega))⟩
        refine xx_callV (q := 51) (As := [_]) (rest := []) rfl rfl rfl (Or.inl rfl) rfl rfl (Nat.le_of_ble_eq_true rfl) xS_479 (XCm hx1 rfl) rfl ?_
        refine xx_istore (q := 53) (loc2 := [_, _, _, _, _, _, _, _, _]) rfl rfl (Nat.le_of_ble_eq_true rfl) rfl ?_
        refine xx_iconst (q := 54) rfl rfl (by decide) ?_
        refine xx_istore (q := 56) (loc2 := [_, _, _, _, _, _, _, _, _]) rfl rfl (Nat.le_of_ble_eq_true rfl) rfl ?_
        refine xx_aload_n (q := 57) rfl rfl rfl ?_
        obtain ⟨D2, hx2, hT2, hE2⟩ := r_thinks2 (n := n) hR hP1.1 hI
        refine xx_callV (q := 60) (As := []) (rest := []) rfl rfl rfl (Or.inl rfl) rfl rfl (Nat.le_of_ble_eq_true rfl) xS_479 (XCm hx2 rfl) rfl ?_
        refine xx_iconst (q := 61) rfl rfl (by decide) ?_
        refine xx_istore (q := 63) (loc2 := [_, _, _, _, _, _, _, _, _]) rfl rfl (Nat.le_of_ble_eq_true rfl) rfl ?_
        have h5 : bcF s ≤ 5 := by omega
        have hw : w = 0 ∨ (10 ≤ w ∧ w ≤ 9 + bcF s) := by omega
        obtain ⟨hq1, hq2⟩ := ordR_y (G := G) (up := up) (a := a) hI hs halr h5 hw
        obtain ⟨hln, _, _⟩ := s_ord halr.1 hs64 h5
        refine r_or_L (D0 := D1) hR hI hG (fun x k q1 q2 => (hP1.2 x k (by unfold restQ; omega))) up s w (bitF s 6 0).length 121 (bitF s 6 0) _ (-1) [] _ _ _ hln hT2 (hL1.fr (fun k => hE2 513 k (by omega) (by omega))) (by omega) (by omega) rfl (fun c hc => by have := bit_mem s _ _ (hbt.symm ▸ hc); omega) (fun j hj => absurd hj (Nat.not_lt_zero _)) (by omega) (by omega) (fun D2 x2 y2 hT2 hB2 => ?_)
        exact r_or_E hR hT2 hI hP1 s up w _ _ _ x2 y2 _ hB2 (by omega) (by omega) hq1
      · refine xx_aload_n (q := 27) rfl rfl rfl ?_
        refine xx_iload_n (q := 28) rfl rfl rfl ?_
        refine xx_bipush (q := 30) rfl rfl (by decide) ?_
        refine xx_bipush (q := 32) rfl rfl (by decide) ?_
        refine xx_aload_n (q := 33) rfl rfl rfl ?_
        refine xx_iload_n (q := 34) rfl rfl rfl ?_
        refine xx_callV (q := 37) (As := [_]) (rest := [_, _, _, _]) rfl rfl rfl (Or.inl rfl) rfl rfl (Nat.le_of_ble_eq_true rfl) xS_479 (XCm (r_ones s (bcF s) hsn.1) rfl) rfl ?_
        refine xx_iaddR (q := 38) rfl rfl (by omega) (by omega) ?_
        refine xx_callV (q := 41) (As := [_, _, _]) (rest := []) rfl rfl rfl (Or.inl rfl) rfl rfl (Nat.le_of_ble_eq_true rfl) xS_479 (XCm (r_isIn w 10 (9 + (bcF s))) rfl) rfl ?_
        refine xx_ifb_ne (q := 46) (q2 := 44) rfl rfl rfl (fun h41 => ?_) (fun h41 => ?_)
        · refine xx_aload_n (q := 47) rfl rfl rfl ?_
          refine xx_iload_n (q := 48) rfl rfl rfl ?_
          obtain ⟨D3, hx3, hL3, hF3⟩ := r_takesSet (n := n) hR hI (rv_B hP0.1) s
          have hbt := s_bits hI halr
          rw [hbt] at hx3 hL3
          have hP3 : PV K b B U D D3 := ⟨hP0.1.self2 (fun x k q => hF3 x k (by omega)), hP0.2.trans (fun x k q => hF3 x k (by unfold restQ at q; omega))⟩
          refine xx_callV (q := 51) (As := [_]) (rest := []) rfl rfl rfl (Or.inl rfl) rfl rfl (Nat.le_of_ble_eq_true rfl) xS_479 (XCm hx3 rfl) rfl ?_
          refine xx_istore (q := 53) (loc2 := [_, _, _, _, _, _, _, _, _]) rfl rfl (Nat.le_of_ble_eq_true rfl) rfl ?_
          refine xx_iconst (q := 54) rfl rfl (by decide) ?_
          refine xx_istore (q := 56) (loc2 := [_, _, _, _, _, _, _, _, _]) rfl rfl (Nat.le_of_ble_eq_true rfl) rfl ?_
          refine xx_aload_n (q := 57) rfl rfl rfl ?_
          obtain ⟨D4, hx4, hT4, hE4⟩ := r_thinks2 (n := n) hR hP3.1 hI
          refine xx_callV (q := 60) (As := []) (rest := []) rfl rfl rfl (Or.inl rfl) rfl rfl (Nat.le_of_ble_eq_true rfl) xS_479 (XCm hx4 rfl) rfl ?_
          refine xx_iconst (q := 61) rfl rfl (by decide) ?_
          refine xx_istore (q := 63) (loc2 := [_, _, _, _, _, _, _, _, _]) rfl rfl (Nat.le_of_ble_eq_true rfl) rfl ?_
          have h5 : bcF s ≤ 5 := by omega
          have hw : w = 0 ∨ (10 ≤ w ∧ w ≤ 9 + bcF s) := by omega
          obtain ⟨hq1, hq2⟩ := ordR_y (G := G) (up := up) (a := a) hI hs halr h5 hw
          obtain ⟨hln, _, _⟩ := s_ord halr.1 hs64 h5
          refine r_or_L (D0 := D3) hR hI hG (fun x k q1 q2 => (hP3.2 x k (by unfold restQ; omega))) up s w (bitF s 6 0).length 121 (bitF s 6 0) _ (-1) [] _ _ _ hln hT4 (hL3.fr (fun k => hE4 513 k (by omega) (by omega))) (by omega) (by omega) rfl (fun c hc => by have := bit_mem s _ _ (hbt.symm ▸ hc); omega) (fun j hj => absurd hj (Nat.not_lt_zero _)) (by omega) (by omega) (fun D2 x2 y2 hT2 hB2 => ?_)
          exact r_or_E hR hT2 hI hP3 s up w _ _ _ x2 y2 _ hB2 (by omega) (by omega) hq1
        · refine xx_iconst (q := 45) rfl rfl (by decide) ?_
          refine xx_iret rfl trivial ⟨congrArg (fun z => some (Sum.inl z)) (by exact (ordR_n hI hs (Or.inr ⟨h10, Or.inr ⟨h23, h41⟩⟩)).symm), _, rfl, ?_⟩
          exact hP0
