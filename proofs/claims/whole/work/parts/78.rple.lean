/-! What pleases: the reference. -/
def ixF (up pool : Int) (n : Nat) (j : Int) : Int := if up = 1 then pool + n - 1 - j else j - (pool - n)
theorem DS_lk {K : KK} {boat up pool : Int} {n : Nat} (h : DS K boat up pool (n + 1)) : lckF K (K 14 boat.toNat) up = (if up = 1 then pool + n else pool - (n + 1)) ∧ (up = 0 ∨ up = 1) := by
  obtain ⟨h1, h2, h3, h4⟩ := h
  unfold lckF
  rcases h1 with ⟨q1, q2⟩ | ⟨q1, q2⟩
  · rw [if_neg (show ¬ up = 0 by omega), if_pos q1]
    rw [if_pos ⟨by omega, by omega⟩]; omega
  · rw [if_pos q1, if_neg (show ¬ up = 1 by omega)]
    rw [if_pos ⟨by omega, by omega⟩]; omega
theorem zp_v {G Hh : LwF} {boat good up pool : Int} : ∀ (l : List Int) (K : KK), DS K boat up pool l.length → cmbB G Hh boat good up K l = true → ∀ j : Nat, gvn (zpL G Hh boat good up K l) (fun _ => 0) j = (if 0 ≤ ixF up pool l.length j then l.getD (ixF up pool l.length j).toNat 0 else 0)
  | [], K, _, _, j => by
    show (0 : Int) = _
    split <;> rfl
  | a :: r, K, hD, hc, j => by
    have hp : ¬ pasR (gvP K Hh boat good up a) G boat up (-1) < 0 := fun q => by
      unfold cmbB at hc
      rw [if_pos q] at hc
      cases hc
    have hc2 : cmbB G Hh boat good up (pasT (gvP K Hh boat good up a) G boat up (-1)) r = true := by
      unfold cmbB at hc
      rw [if_neg hp] at hc
      exact hc
    have hD' : DS K boat up pool (r.length + 1) := hD
    have hD2 := DS_s (G := G) (Hh := Hh) (good := good) (a := a) hD' hp
    obtain ⟨hk, hu⟩ := DS_lk hD'
    have ih := zp_v r _ hD2 hc2 j
    show fset (gvn (zpL G Hh boat good up _ r) (fun _ => 0)) (lckF K (K 14 boat.toNat) up).toNat a j = _
    have hl0 := (DS_l hD').1
    have e1 : ixF up pool (a :: r).length j = ixF up pool r.length j + 1 := by
      unfold ixF
      rw [List.length_cons]
      split <;> omega
    rw [e1]
    rcases Classical.em (j = (lckF K (K 14 boat.toNat) up).toNat) with q | q
    · have e0 : ixF up pool r.length j = -1 := by
        unfold ixF
        rcases hu with u | u
        · rw [if_neg (by omega)] at hk ⊢; omega
        · rw [if_pos u] at hk ⊢; omega
      rw [q, fset_s, ← q, e0]
      rfl
    · have e0 : ¬ ixF up pool r.length j = -1 := by
        unfold ixF
        rcases hu with u | u
        · rw [if_neg (by omega)] at hk ⊢; omega
        · rw [if_pos u] at hk ⊢; omega
      rw [fset_n q, ih]
      rcases Classical.em (0 ≤ ixF up pool r.length j) with s | s
      · rw [if_pos s, if_pos (by omega), show (ixF up pool r.length j + 1).toNat = (ixF up pool r.length j).toNat + 1 by omega]
        rfl
      · rw [if_neg s, if_neg (by omega)]
theorem rfwL_s {G Hh : LwF} {boat good up : Int} {K : KK} {N : Nat} : ∀ (k : Nat) (a : Int), 0 ≤ a → ((rfwL G Hh boat good up K N k a).1 = -1 ∧ (rfwL G Hh boat good up K N k a).2 = none) ∨ (0 ≤ (rfwL G Hh boat good up K N k a).1 ∧ ∃ l, (rfwL G Hh boat good up K N k a).2 = some l ∧ cmbB G Hh boat good up K l = true)
  | 0, _, _ => Or.inl ⟨rfl, rfl⟩
  | k + 1, a, h => by
    unfold rfwL
    split
    · rename_i l hl
      exact Or.inr ⟨h, l, rfl, List.find?_some hl⟩
    · exact rfwL_s k (a + 1) (by omega)
theorem few_0 {G Hh : LwF} {boat good pool : Int} {K : KK} (hI : KI K) (h : K 14 boat.toNat = pool) : fewF G Hh boat good pool K = (0, some []) := by
  have h17 := ki_17 hI (boat * 4 + good).toNat
  have hm := mnF_sp 6 (K 17 (boat * 4 + good).toNat)
  unfold fewF
  obtain ⟨k, hk⟩ : ∃ k, (mnF 6 (K 17 (boat * 4 + good).toNat) + 1).toNat = k + 1 := ⟨(mnF 6 (K 17 (boat * 4 + good).toNat)).toNat, by omega⟩
  rw [hk]
  unfold fewL
  have e : plsF G Hh boat good pool 9 K 0 = some [] := by
    unfold plsF
    rw [if_pos h, if_pos rfl]
  rw [e]
theorem getD_o : ∀ (l : List Int) (i : Nat), l.length ≤ i → l.getD i 0 = 0
  | [], _, _ => rfl
  | a :: l, 0, h => absurd h (by rw [List.length_cons]; omega)
  | a :: l, i + 1, h => by
    show l.getD i 0 = 0
    exact getD_o l i (by rw [List.length_cons] at h; omega)
theorem sfx_g (f : Nat → Int) : ∀ (k p i : Nat), i < k → (sfx f k p).getD i 0 = f (p + i)
  | 0, _, _, h => absurd h (Nat.not_lt_zero _)
  | k + 1, p, 0, _ => rfl
  | k + 1, p, i + 1, h => by
    show (sfx f k (p + 1)).getD i 0 = _
    rw [sfx_g f k (p + 1) i (by omega), show p + 1 + i = p + (i + 1) by omega]
set_option maxHeartbeats 4000000 in
theorem r_please {n : Nat} {R : Nat → Nat → Option Nat} {K D : KK} {b : Int} {B : Nat → Int} {U : UU} (hR : RF R) (hV : RV 0 K b B U D D) (hI : KI K) {G Hh : LwF} (hG : RLG G n R D) (hH : RLH Hh n R D) (hKV : ∀ c : Nat, (c : Int) < K 13 0 → K 14 c ≤ K 0 0) (boat good pool w : Int) : ∃ D', XC 12 270 [.inr (some 479), .inl boat, .inl good, .inl pool, .inl w] (xS n, R, D) (some (.inl (pleF K G Hh boat good pool w))) (xS n, R, D') ∧ PV (K) (b) (B) (U) D D' := by
  have hbL := ki_L hI
  have hbB := ki_B hI
  have h17 := ki_17 hI (boat * 4 + good).toNat
  have hmn := mnF_sp 6 (K 17 (boat * 4 + good).toNat)
  have h14 := ki_14 hI boat.toNat
  refine XE_of (Nat.le_of_ble_eq_true rfl) (Nat.le_of_ble_eq_true rfl) (loc := [_, _, _, _, _, _, _, _, _, _, _]) rfl ?_
  refine xx_aload_n (q := 1) rfl rfl rfl ?_
  refine xx_iconst (q := 2) rfl rfl (by decide) ?_
  refine xr_puz (PV K b B U D) (q := 5) rfl rfl rfl xS_479 (Nat.le_of_ble_eq_true rfl) (Nat.le_of_ble_eq_true rfl) (fun h => by cases h) (Or.inl rfl) ⟨hV.u (by decide), FQ.rf.up (by unfold restQ; omega)⟩ (fun D1 hP0 => ?_)
  have hlw : ∀ x k, 499 ≤ x → x ≤ 505 → D1 x k = D x k := fun x k q1 q2 => hP0.2 x k (by unfold restQ; omega)
  refine xx_aload_n (q := 6) rfl rfl rfl ?_
  refine xx_iload_n (q := 7) rfl rfl rfl ?_
  refine xx_callV (q := 10) (As := [_]) (rest := []) rfl rfl rfl (Or.inl rfl) rfl rfl (Nat.le_of_ble_eq_true rfl) xS_479 (XCm (r_isBoat hR hP0.1 hI boat) rfl) rfl ?_
  refine xx_ifb_eq (q := 52) (q2 := 13) rfl rfl rfl (fun h10 => ?_) (fun h10 => ?_)
  · refine xx_iconst (q := 53) rfl rfl (by decide) ?_
    refine xx_iret rfl trivial ⟨congrArg (fun z => some (Sum.inl z)) (by unfold pleF; rw [if_pos (by omega)]), _, rfl, ?_⟩
    exact hP0
  · refine xx_aload_n (q := 14) rfl rfl rfl ?_
    refine xx_iload_n (q := 15) rfl rfl rfl ?_
    refine xx_callV (q := 18) (As := [_]) (rest := []) rfl rfl rfl (Or.inl rfl) rfl rfl (Nat.le_of_ble_eq_true rfl) xS_479 (XCm (r_isGood good) rfl) rfl ?_
    refine xx_ifb_eq (q := 52) (q2 := 21) rfl rfl rfl (fun h18 => ?_) (fun h18 => ?_)
    · refine xx_iconst (q := 53) rfl rfl (by decide) ?_
      refine xx_iret rfl trivial ⟨congrArg (fun z => some (Sum.inl z)) (by unfold pleF; rw [if_pos (by omega)]), _, rfl, ?_⟩
      exact hP0
    · refine xx_aload_n (q := 22) rfl rfl rfl ?_
      refine xx_iload_n (q := 23) rfl rfl rfl ?_
      refine xx_callV (q := 26) (As := [_]) (rest := []) rfl rfl rfl (Or.inl rfl) rfl rfl (Nat.le_of_ble_eq_true rfl) xS_479 (XCm (r_isPool hR hP0.1 hI pool) rfl) rfl ?_
      refine xx_ifb_eq (q := 52) (q2 := 29) rfl rfl rfl (fun h26 => ?_) (fun h26 => ?_)
      · refine xx_iconst (q := 53) rfl rfl (by decide) ?_
        refine xx_iret rfl trivial ⟨congrArg (fun z => some (Sum.inl z)) (by unfold pleF; rw [if_pos (by omega)]), _, rfl, ?_⟩
        exact hP0
      · refine xx_iload (q := 31) rfl rfl rfl ?_
        refine xx_if_eq (q := 54) (q2 := 34) rfl rfl rfl (fun h31 => ?_) (fun h31 => ?_)
        · have hwL := hKV boat.toNat (by omega)
          refine xx_aload_n (q := 55) rfl rfl rfl ?_
          refine xx_getR (q := 58) rfl rfl rfl xS_479 (Nat.le_of_ble_eq_true rfl) rfl (hR.1 479 1 rfl) ?_
          refine xx_bipush (q := 60) rfl rfl (by decide) ?_
          refine xx_iload_n (q := 61) rfl rfl rfl ?_
          refine xx_iaddR (q := 62) rfl rfl (by omega) (by omega) ?_
          refine xx_iaz (v := K 14 (boat).toNat) (q := 63) rfl rfl xS_480 (by omega) (by omega) (rv_14 hP0.1 (p := boat) (by omega) (by omega)) ?_
          have hb1 : 0 ≤ K 14 (boat).toNat ∧ K 14 (boat).toNat ≤ 9 := by have h := ki_14 hI (boat).toNat; exact h
          refine xx_istore (q := 65) (loc2 := [_, _, _, _, _, _, _, _, _, _, _]) rfl rfl (Nat.le_of_ble_eq_true rfl) rfl ?_
          refine xx_iload_n (q := 66) rfl rfl rfl ?_
          refine xx_iload (q := 68) rfl rfl rfl ?_
          refine xx_icmp_ge (q := 75) (q2 := 71) rfl rfl rfl (fun h68 => ?_) (fun h68 => ?_)
          · refine xx_iconst (q := 76) rfl rfl (by decide) ?_
            refine xx_istore (q := 78) (loc2 := [_, _, _, _, _, _, _, _, _, _, _]) rfl rfl (Nat.le_of_ble_eq_true rfl) rfl ?_
            refine xx_iload (q := 80) rfl rfl rfl ?_
            refine xx_if_eq (q := 90) (q2 := 83) rfl rfl rfl (fun _ => ?_) (fun h80 => (by exfalso; omega))
            refine xx_iload_n (q := 91) rfl rfl rfl ?_
            refine xx_iload (q := 93) rfl rfl rfl ?_
            refine xx_isubR (q := 94) rfl rfl (by omega) (by omega) ?_
            refine xx_istore (q := 96) (loc2 := [_, _, _, _, _, _, _, _, _, _, _]) rfl rfl (Nat.le_of_ble_eq_true rfl) rfl ?_
            refine xx_iload (q := 98) rfl rfl rfl ?_
            refine xx_if_ne (q := 103) (q2 := 101) rfl rfl rfl (fun h98 => ?_) (fun h98 => ?_)
            · refine xx_aload_n (q := 104) rfl rfl rfl ?_
              obtain ⟨D2, hx2, hT2⟩ := r_thinks (n := n) hR hP0.1 hI
              refine xx_callV (q := 107) (As := []) (rest := []) rfl rfl rfl (Or.inl rfl) rfl rfl (Nat.le_of_ble_eq_true rfl) xS_479 (XCm hx2 rfl) rfl ?_
              refine xx_aload_n (q := 108) rfl rfl rfl ?_
              refine xx_iload_n (q := 109) rfl rfl rfl ?_
              refine xx_iload_n (q := 110) rfl rfl rfl ?_
              refine xx_iload (q := 112) rfl rfl rfl ?_
              refine xx_iload (q := 114) rfl rfl rfl ?_
              obtain ⟨N, hN⟩ : ∃ N : Nat, (N : Int) + 1 = pool - (K 14 (boat).toNat) := ⟨(pool - (K 14 (boat).toNat) - 1).toNat, by omega⟩
              have hms : (N : Int) + 1 ≤ mesF K boat 0 := by unfold mesF; rw [if_pos rfl]; omega
              obtain ⟨D3, hx3, hT3, hl3, ho3⟩ := r_fewestGoods (n := n) (N := N) hR hI (RLG.fr hG hlw) (RLH.fr hH hlw) boat good 0 (by omega) (by omega) (by omega) (by omega) (by omega) (fun _ => hwL) hms hT2
              rw [hN] at hx3
              have hDS : DS K boat 0 pool (N + 1) := ⟨by omega, by omega, by omega, by omega⟩
              have hFe : fewF G Hh boat good pool K = ((rfwL G Hh boat good 0 K N (mnF 6 (K 17 (boat * 4 + good).toNat) + 1).toNat 0).1, (rfwL G Hh boat good 0 K N (mnF 6 (K 17 (boat * 4 + good).toNat) + 1).toNat 0).2.map (zpL G Hh boat good 0 K)) := few_rfw (by omega) (by omega) hI (by omega) hDS _ 0 (by omega) (by omega)
              have hrs := rfwL_s (G := G) (Hh := Hh) (boat := boat) (good := good) (up := 0) (K := K) (N := N) (mnF 6 (K 17 (boat * 4 + good).toNat) + 1).toNat 0 (by omega)
              refine xx_callV (q := 117) (As := [_, _, _, _]) (rest := []) rfl rfl rfl (Or.inl rfl) rfl rfl (Nat.le_of_ble_eq_true rfl) xS_479 (XCm hx3 rfl) rfl ?_
              refine xx_istore (q := 119) (loc2 := [_, _, _, _, _, _, _, _, _, _, _]) rfl rfl (Nat.le_of_ble_eq_true rfl) rfl ?_
              refine xx_aload_n (q := 120) rfl rfl rfl ?_
              obtain ⟨D4, hx4, hV4, hF4, hA4⟩ := r_endsThought (n := n) hR hT3 hI
              have hP4 : PV K b B U D D4 := ⟨hV4, hP0.2.trans hF4.fq⟩
              refine xx_callV (q := 123) (As := []) (rest := []) rfl rfl rfl (Or.inl rfl) rfl rfl (Nat.le_of_ble_eq_true rfl) xS_479 (XCm hx4 rfl) rfl ?_
              refine xx_iload (q := 125) rfl rfl rfl ?_
              refine xx_if_eq (q := 134) (q2 := 128) rfl rfl rfl (fun h125 => ?_) (fun h125 => ?_)
              · refine xx_iload (q := 136) rfl rfl rfl ?_
                refine xx_iret rfl trivial ⟨congrArg (fun z => some (Sum.inl z)) (by (unfold pleF; rw [if_neg (by omega), hFe, if_pos (by omega)])), _, rfl, ?_⟩
                exact hP4
              · refine xx_iload (q := 130) rfl rfl rfl ?_
                refine xx_iconst (q := 131) rfl rfl (by decide) ?_
                refine xx_icmp_ne (q := 137) (q2 := 134) rfl rfl rfl (fun h131 => ?_) (fun h131 => ?_)
                · refine xx_iload (q := 139) rfl rfl rfl ?_
                  refine xx_bipush (q := 141) rfl rfl (by decide) ?_
                  refine xx_isubR (q := 142) rfl rfl (by omega) (by omega) ?_
                  refine xx_istore (q := 144) (loc2 := [_, _, _, _, _, _, _, _, _, _, _]) rfl rfl (Nat.le_of_ble_eq_true rfl) rfl ?_
                  refine xx_iload (q := 146) rfl rfl rfl ?_
                  refine xx_if_eq (q := 159) (q2 := 149) rfl rfl rfl (fun _ => ?_) (fun h146 => (by exfalso; omega))
                  refine xx_iload (q := 161) rfl rfl rfl ?_
                  refine xx_iload (q := 163) rfl rfl rfl ?_
                  refine xx_isubR (q := 164) rfl rfl (by omega) (by omega) ?_
                  refine xx_istore (q := 166) (loc2 := [_, _, _, _, _, _, _, _, _, _, _]) rfl rfl (Nat.le_of_ble_eq_true rfl) rfl ?_
                  refine xx_aload_n (q := 167) rfl rfl rfl ?_
                  refine xx_iload (q := 169) rfl rfl rfl ?_
                  refine xx_iconst (q := 170) rfl rfl (by decide) ?_
                  refine xx_iload (q := 172) rfl rfl rfl ?_
                  refine xx_iconst (q := 173) rfl rfl (by decide) ?_
                  refine xx_isubR (q := 174) rfl rfl (by omega) (by omega) ?_
                  refine xx_callV (q := 177) (As := [_, _, _]) (rest := []) rfl rfl rfl (Or.inl rfl) rfl rfl (Nat.le_of_ble_eq_true rfl) xS_479 (XCm (r_isIn ((w - 10) - (K 14 (boat).toNat)) 0 ((pool - (K 14 (boat).toNat)) - 1)) rfl) rfl ?_
                  refine xx_ifb_eq (q := 190) (q2 := 180) rfl rfl rfl (fun h177 => ?_) (fun h177 => ?_)
                  · refine xx_iconst (q := 191) rfl rfl (by decide) ?_
                    refine xx_iret rfl trivial ⟨congrArg (fun z => some (Sum.inl z)) (by (unfold pleF; rw [if_neg (by omega), hFe, if_neg (by omega)]; rcases hrs with hrs | ⟨hr0, l, hl, hc⟩; exact absurd hrs.1 (by omega); have hsf := hl3 l hl; have hln : l.length = N + 1 := (congrArg List.length hsf).symm.trans (sfx_len _ _); rw [hl]; have hz := zp_v (G := G) (Hh := Hh) (good := good) l K (hln ▸ hDS) hc (w - 10).toNat; refine Eq.trans ?_ hz.symm; rw [hln]; have hix : ixF 0 pool (N + 1) (((w - 10).toNat : Nat) : Int) = w - 10 - K 14 boat.toNat := (by unfold ixF; rw [if_neg (by omega)]; omega); rw [hix]; rcases Classical.em (0 ≤ w - 10 - K 14 boat.toNat) with q | q; rw [if_pos q, getD_o l _ (by omega)]; rw [if_neg q])), _, rfl, ?_⟩
                    exact hP4
                  · refine xx_aload_n (q := 181) rfl rfl rfl ?_
                    refine xx_getR (q := 184) rfl rfl rfl xS_479 (Nat.le_of_ble_eq_true rfl) rfl (hR.1 479 55 rfl) ?_
                    refine xx_iload (q := 186) rfl rfl rfl ?_
                    refine xx_iaz (v := D3 510 ((w - 10) - (K 14 (boat).toNat)).toNat) (q := 187) rfl rfl xS_510 (by omega) (by omega) (hA4 510 _ (by omega) (by omega)) ?_
                    refine xx_goto (q := 191) rfl rfl ?_
                    refine xx_iret rfl trivial ⟨congrArg (fun z => some (Sum.inl z)) (by (unfold pleF; rw [if_neg (by omega), hFe, if_neg (by omega)]; rcases hrs with hrs | ⟨hr0, l, hl, hc⟩; exact absurd hrs.1 (by omega); have hsf := hl3 l hl; have hln : l.length = N + 1 := (congrArg List.length hsf).symm.trans (sfx_len _ _); rw [hl]; have hz := zp_v (G := G) (Hh := Hh) (good := good) l K (hln ▸ hDS) hc (w - 10).toNat; refine Eq.trans ?_ hz.symm; rw [hln]; have hix : ixF 0 pool (N + 1) (((w - 10).toNat : Nat) : Int) = w - 10 - K 14 boat.toNat := (by unfold ixF; rw [if_neg (by omega)]; omega); rw [hix]; rw [if_pos (by omega), ← hsf]; rw [sfx_g _ _ _ _ (by omega), Nat.zero_add])), _, rfl, ?_⟩
                    exact hP4
                · refine xx_iload (q := 136) rfl rfl rfl ?_
                  refine xx_iret rfl trivial ⟨congrArg (fun z => some (Sum.inl z)) (by (unfold pleF; rw [if_neg (by omega), hFe, if_pos (by omega)])), _, rfl, ?_⟩
                  exact hP4
            · refine xx_iconst (q := 102) rfl rfl (by decide) ?_
              refine xx_iret rfl trivial ⟨congrArg (fun z => some (Sum.inl z)) (by (unfold pleF; rw [if_neg (by omega), few_0 hI (by omega)]; split <;> rfl)), _, rfl, ?_⟩
              exact hP0
          · refine xx_iconst (q := 72) rfl rfl (by decide) ?_
            refine xx_goto (q := 76) rfl rfl ?_
            refine xx_istore (q := 78) (loc2 := [_, _, _, _, _, _, _, _, _, _, _]) rfl rfl (Nat.le_of_ble_eq_true rfl) rfl ?_
            refine xx_iload (q := 80) rfl rfl rfl ?_
            refine xx_if_eq (q := 90) (q2 := 83) rfl rfl rfl (fun h80 => (by exfalso; omega)) (fun _ => ?_)
            refine xx_iload (q := 85) rfl rfl rfl ?_
            refine xx_iload_n (q := 86) rfl rfl rfl ?_
            refine xx_isubR (q := 87) rfl rfl (by omega) (by omega) ?_
            refine xx_goto (q := 94) rfl rfl ?_
            refine xx_istore (q := 96) (loc2 := [_, _, _, _, _, _, _, _, _, _, _]) rfl rfl (Nat.le_of_ble_eq_true rfl) rfl ?_
            refine xx_iload (q := 98) rfl rfl rfl ?_
            refine xx_if_ne (q := 103) (q2 := 101) rfl rfl rfl (fun h98 => ?_) (fun h98 => ?_)
            · refine xx_aload_n (q := 104) rfl rfl rfl ?_
              obtain ⟨D5, hx5, hT5⟩ := r_thinks (n := n) hR hP0.1 hI
              refine xx_callV (q := 107) (As := []) (rest := []) rfl rfl rfl (Or.inl rfl) rfl rfl (Nat.le_of_ble_eq_true rfl) xS_479 (XCm hx5 rfl) rfl ?_
              refine xx_aload_n (q := 108) rfl rfl rfl ?_
              refine xx_iload_n (q := 109) rfl rfl rfl ?_
              refine xx_iload_n (q := 110) rfl rfl rfl ?_
              refine xx_iload (q := 112) rfl rfl rfl ?_
              refine xx_iload (q := 114) rfl rfl rfl ?_
              obtain ⟨N, hN⟩ : ∃ N : Nat, (N : Int) + 1 = (K 14 (boat).toNat) - pool := ⟨((K 14 (boat).toNat) - pool - 1).toNat, by omega⟩
              have hms : (N : Int) + 1 ≤ mesF K boat 1 := by unfold mesF; rw [if_neg (by omega)]; omega
              obtain ⟨D6, hx6, hT6, hl6, ho6⟩ := r_fewestGoods (n := n) (N := N) hR hI (RLG.fr hG hlw) (RLH.fr hH hlw) boat good 1 (by omega) (by omega) (by omega) (by omega) (by omega) (fun _ => hwL) hms hT5
              rw [hN] at hx6
              have hDS : DS K boat 1 pool (N + 1) := ⟨by omega, by omega, by omega, by omega⟩
              have hFe : fewF G Hh boat good pool K = ((rfwL G Hh boat good 1 K N (mnF 6 (K 17 (boat * 4 + good).toNat) + 1).toNat 0).1, (rfwL G Hh boat good 1 K N (mnF 6 (K 17 (boat * 4 + good).toNat) + 1).toNat 0).2.map (zpL G Hh boat good 1 K)) := few_rfw (by omega) (by omega) hI (by omega) hDS _ 0 (by omega) (by omega)
              have hrs := rfwL_s (G := G) (Hh := Hh) (boat := boat) (good := good) (up := 1) (K := K) (N := N) (mnF 6 (K 17 (boat * 4 + good).toNat) + 1).toNat 0 (by omega)
              refine xx_callV (q := 117) (As := [_, _, _, _]) (rest := []) rfl rfl rfl (Or.inl rfl) rfl rfl (Nat.le_of_ble_eq_true rfl) xS_479 (XCm hx6 rfl) rfl ?_
              refine xx_istore (q := 119) (loc2 := [_, _, _, _, _, _, _, _, _, _, _]) rfl rfl (Nat.le_of_ble_eq_true rfl) rfl ?_
              refine xx_aload_n (q := 120) rfl rfl rfl ?_
              obtain ⟨D7, hx7, hV7, hF7, hA7⟩ := r_endsThought (n := n) hR hT6 hI
              have hP7 : PV K b B U D D7 := ⟨hV7, hP0.2.trans hF7.fq⟩
              refine xx_callV (q := 123) (As := []) (rest := []) rfl rfl rfl (Or.inl rfl) rfl rfl (Nat.le_of_ble_eq_true rfl) xS_479 (XCm hx7 rfl) rfl ?_
              refine xx_iload (q := 125) rfl rfl rfl ?_
              refine xx_if_eq (q := 134) (q2 := 128) rfl rfl rfl (fun h125 => ?_) (fun h125 => ?_)
              · refine xx_iload (q := 136) rfl rfl rfl ?_
                refine xx_iret rfl trivial ⟨congrArg (fun z => some (Sum.inl z)) (by (unfold pleF; rw [if_neg (by omega), hFe, if_pos (by omega)])), _, rfl, ?_⟩
                exact hP7
              · refine xx_iload (q := 130) rfl rfl rfl ?_
                refine xx_iconst (q := 131) rfl rfl (by decide) ?_
                refine xx_icmp_ne (q := 137) (q2 := 134) rfl rfl rfl (fun h131 => ?_) (fun h131 => ?_)
                · refine xx_iload (q := 139) rfl rfl rfl ?_
                  refine xx_bipush (q := 141) rfl rfl (by decide) ?_
                  refine xx_isubR (q := 142) rfl rfl (by omega) (by omega) ?_
                  refine xx_istore (q := 144) (loc2 := [_, _, _, _, _, _, _, _, _, _, _]) rfl rfl (Nat.le_of_ble_eq_true rfl) rfl ?_
                  refine xx_iload (q := 146) rfl rfl rfl ?_
                  refine xx_if_eq (q := 159) (q2 := 149) rfl rfl rfl (fun h146 => (by exfalso; omega)) (fun _ => ?_)
                  refine xx_iload (q := 151) rfl rfl rfl ?_
                  refine xx_iconst (q := 152) rfl rfl (by decide) ?_
                  refine xx_isubR (q := 153) rfl rfl (by omega) (by omega) ?_
                  refine xx_iload (q := 155) rfl rfl rfl ?_
                  refine xx_isubR (q := 156) rfl rfl (by omega) (by omega) ?_
                  refine xx_goto (q := 164) rfl rfl ?_
                  refine xx_istore (q := 166) (loc2 := [_, _, _, _, _, _, _, _, _, _, _]) rfl rfl (Nat.le_of_ble_eq_true rfl) rfl ?_
                  refine xx_aload_n (q := 167) rfl rfl rfl ?_
                  refine xx_iload (q := 169) rfl rfl rfl ?_
                  refine xx_iconst (q := 170) rfl rfl (by decide) ?_
                  refine xx_iload (q := 172) rfl rfl rfl ?_
                  refine xx_iconst (q := 173) rfl rfl (by decide) ?_
                  refine xx_isubR (q := 174) rfl rfl (by omega) (by omega) ?_
                  refine xx_callV (q := 177) (As := [_, _, _]) (rest := []) rfl rfl rfl (Or.inl rfl) rfl rfl (Nat.le_of_ble_eq_true rfl) xS_479 (XCm (r_isIn (((K 14 (boat).toNat) - 1) - (w - 10)) 0 (((K 14 (boat).toNat) - pool) - 1)) rfl) rfl ?_
                  refine xx_ifb_eq (q := 190) (q2 := 180) rfl rfl rfl (fun h177 => ?_) (fun h177 => ?_)
                  · refine xx_iconst (q := 191) rfl rfl (by decide) ?_
                    refine xx_iret rfl trivial ⟨congrArg (fun z => some (Sum.inl z)) (by (unfold pleF; rw [if_neg (by omega), hFe, if_neg (by omega)]; rcases hrs with hrs | ⟨hr0, l, hl, hc⟩; exact absurd hrs.1 (by omega); have hsf := hl6 l hl; have hln : l.length = N + 1 := (congrArg List.length hsf).symm.trans (sfx_len _ _); rw [hl]; have hz := zp_v (G := G) (Hh := Hh) (good := good) l K (hln ▸ hDS) hc (w - 10).toNat; refine Eq.trans ?_ hz.symm; rw [hln]; have hix : ixF 1 pool (N + 1) (((w - 10).toNat : Nat) : Int) = K 14 boat.toNat - 1 - (w - 10) := (by unfold ixF; rw [if_pos rfl]; omega); rw [hix]; rcases Classical.em (0 ≤ K 14 boat.toNat - 1 - (w - 10)) with q | q; rw [if_pos q, getD_o l _ (by omega)]; rw [if_neg q])), _, rfl, ?_⟩
                    exact hP7
                  · refine xx_aload_n (q := 181) rfl rfl rfl ?_
                    refine xx_getR (q := 184) rfl rfl rfl xS_479 (Nat.le_of_ble_eq_true rfl) rfl (hR.1 479 55 rfl) ?_
                    refine xx_iload (q := 186) rfl rfl rfl ?_
                    refine xx_iaz (v := D6 510 (((K 14 (boat).toNat) - 1) - (w - 10)).toNat) (q := 187) rfl rfl xS_510 (by omega) (by omega) (hA7 510 _ (by omega) (by omega)) ?_
                    refine xx_goto (q := 191) rfl rfl ?_
                    refine xx_iret rfl trivial ⟨congrArg (fun z => some (Sum.inl z)) (by (unfold pleF; rw [if_neg (by omega), hFe, if_neg (by omega)]; rcases hrs with hrs | ⟨hr0, l, hl, hc⟩; exact absurd hrs.1 (by omega); have hsf := hl6 l hl; have hln : l.length = N + 1 := (congrArg List.length hsf).symm.trans (sfx_len _ _); rw [hl]; have hz := zp_v (G := G) (Hh := Hh) (good := good) l K (hln ▸ hDS) hc (w - 10).toNat; refine Eq.trans ?_ hz.symm; rw [hln]; have hix : ixF 1 pool (N + 1) (((w - 10).toNat : Nat) : Int) = K 14 boat.toNat - 1 - (w - 10) := (by unfold ixF; rw [if_pos rfl]; omega); rw [hix]; rw [if_pos (by omega), ← hsf]; rw [sfx_g _ _ _ _ (by omega), Nat.zero_add])), _, rfl, ?_⟩
                    exact hP7
                · refine xx_iload (q := 136) rfl rfl rfl ?_
                  refine xx_iret rfl trivial ⟨congrArg (fun z => some (Sum.inl z)) (by (unfold pleF; rw [if_neg (by omega), hFe, if_pos (by omega)])), _, rfl, ?_⟩
                  exact hP7
            · refine xx_iconst (q := 102) rfl rfl (by decide) ?_
              refine xx_iret rfl trivial ⟨congrArg (fun z => some (Sum.inl z)) (by (unfold pleF; rw [if_neg (by omega), few_0 hI (by omega)]; split <;> rfl)), _, rfl, ?_⟩
              exact hP0
        · refine xx_aload_n (q := 35) rfl rfl rfl ?_
          refine xx_iload (q := 37) rfl rfl rfl ?_
          refine xx_bipush (q := 39) rfl rfl (by decide) ?_
          refine xx_bipush (q := 41) rfl rfl (by decide) ?_
          refine xx_aload_n (q := 42) rfl rfl rfl ?_
          refine xx_gez (q := 45) rfl rfl rfl xS_479 (Nat.le_of_ble_eq_true rfl) rfl (rv_L hP0.1) ?_
          have hb8 : 1 ≤ K 0 0 ∧ K 0 0 ≤ 9 := by have h := ki_L hI; exact h
          refine xx_iaddR (q := 46) rfl rfl (by omega) (by omega) ?_
          refine xx_callV (q := 49) (As := [_, _, _]) (rest := []) rfl rfl rfl (Or.inl rfl) rfl rfl (Nat.le_of_ble_eq_true rfl) xS_479 (XCm (r_isIn w 10 (9 + (K 0 0))) rfl) rfl ?_
          refine xx_ifb_ne (q := 54) (q2 := 52) rfl rfl rfl (fun h49 => ?_) (fun h49 => ?_)
          · have hwL := hKV boat.toNat (by omega)
            refine xx_aload_n (q := 55) rfl rfl rfl ?_
            refine xx_getR (q := 58) rfl rfl rfl xS_479 (Nat.le_of_ble_eq_true rfl) rfl (hR.1 479 1 rfl) ?_
            refine xx_bipush (q := 60) rfl rfl (by decide) ?_
            refine xx_iload_n (q := 61) rfl rfl rfl ?_
            refine xx_iaddR (q := 62) rfl rfl (by omega) (by omega) ?_
            refine xx_iaz (v := K 14 (boat).toNat) (q := 63) rfl rfl xS_480 (by omega) (by omega) (rv_14 hP0.1 (p := boat) (by omega) (by omega)) ?_
            have hb9 : 0 ≤ K 14 (boat).toNat ∧ K 14 (boat).toNat ≤ 9 := by have h := ki_14 hI (boat).toNat; exact h
            refine xx_istore (q := 65) (loc2 := [_, _, _, _, _, _, _, _, _, _, _]) rfl rfl (Nat.le_of_ble_eq_true rfl) rfl ?_
            refine xx_iload_n (q := 66) rfl rfl rfl ?_
            refine xx_iload (q := 68) rfl rfl rfl ?_
            refine xx_icmp_ge (q := 75) (q2 := 71) rfl rfl rfl (fun h68 => ?_) (fun h68 => ?_)
            · refine xx_iconst (q := 76) rfl rfl (by decide) ?_
              refine xx_istore (q := 78) (loc2 := [_, _, _, _, _, _, _, _, _, _, _]) rfl rfl (Nat.le_of_ble_eq_true rfl) rfl ?_
              refine xx_iload (q := 80) rfl rfl rfl ?_
              refine xx_if_eq (q := 90) (q2 := 83) rfl rfl rfl (fun _ => ?_) (fun h80 => (by exfalso; omega))
              refine xx_iload_n (q := 91) rfl rfl rfl ?_
              refine xx_iload (q := 93) rfl rfl rfl ?_
              refine xx_isubR (q := 94) rfl rfl (by omega) (by omega) ?_
              refine xx_istore (q := 96) (loc2 := [_, _, _, _, _, _, _, _, _, _, _]) rfl rfl (Nat.le_of_ble_eq_true rfl) rfl ?_
              refine xx_iload (q := 98) rfl rfl rfl ?_
              refine xx_if_ne (q := 103) (q2 := 101) rfl rfl rfl (fun h98 => ?_) (fun h98 => ?_)
              · refine xx_aload_n (q := 104) rfl rfl rfl ?_
                obtain ⟨D10, hx10, hT10⟩ := r_thinks (n := n) hR hP0.1 hI
                refine xx_callV (q := 107) (As := []) (rest := []) rfl rfl rfl (Or.inl rfl) rfl rfl (Nat.le_of_ble_eq_true rfl) xS_479 (XCm hx10 rfl) rfl ?_
                refine xx_aload_n (q := 108) rfl rfl rfl ?_
                refine xx_iload_n (q := 109) rfl rfl rfl ?_
                refine xx_iload_n (q := 110) rfl rfl rfl ?_
                refine xx_iload (q := 112) rfl rfl rfl ?_
                refine xx_iload (q := 114) rfl rfl rfl ?_
                obtain ⟨N, hN⟩ : ∃ N : Nat, (N : Int) + 1 = pool - (K 14 (boat).toNat) := ⟨(pool - (K 14 (boat).toNat) - 1).toNat, by omega⟩
                have hms : (N : Int) + 1 ≤ mesF K boat 0 := by unfold mesF; rw [if_pos rfl]; omega
                obtain ⟨D11, hx11, hT11, hl11, ho11⟩ := r_fewestGoods (n := n) (N := N) hR hI (RLG.fr hG hlw) (RLH.fr hH hlw) boat good 0 (by omega) (by omega) (by omega) (by omega) (by omega) (fun _ => hwL) hms hT10
                rw [hN] at hx11
                have hDS : DS K boat 0 pool (N + 1) := ⟨by omega, by omega, by omega, by omega⟩
                have hFe : fewF G Hh boat good pool K = ((rfwL G Hh boat good 0 K N (mnF 6 (K 17 (boat * 4 + good).toNat) + 1).toNat 0).1, (rfwL G Hh boat good 0 K N (mnF 6 (K 17 (boat * 4 + good).toNat) + 1).toNat 0).2.map (zpL G Hh boat good 0 K)) := few_rfw (by omega) (by omega) hI (by omega) hDS _ 0 (by omega) (by omega)
                have hrs := rfwL_s (G := G) (Hh := Hh) (boat := boat) (good := good) (up := 0) (K := K) (N := N) (mnF 6 (K 17 (boat * 4 + good).toNat) + 1).toNat 0 (by omega)
                refine xx_callV (q := 117) (As := [_, _, _, _]) (rest := []) rfl rfl rfl (Or.inl rfl) rfl rfl (Nat.le_of_ble_eq_true rfl) xS_479 (XCm hx11 rfl) rfl ?_
                refine xx_istore (q := 119) (loc2 := [_, _, _, _, _, _, _, _, _, _, _]) rfl rfl (Nat.le_of_ble_eq_true rfl) rfl ?_
                refine xx_aload_n (q := 120) rfl rfl rfl ?_
                obtain ⟨D12, hx12, hV12, hF12, hA12⟩ := r_endsThought (n := n) hR hT11 hI
                have hP12 : PV K b B U D D12 := ⟨hV12, hP0.2.trans hF12.fq⟩
                refine xx_callV (q := 123) (As := []) (rest := []) rfl rfl rfl (Or.inl rfl) rfl rfl (Nat.le_of_ble_eq_true rfl) xS_479 (XCm hx12 rfl) rfl ?_
                refine xx_iload (q := 125) rfl rfl rfl ?_
                refine xx_if_eq (q := 134) (q2 := 128) rfl rfl rfl (fun h125 => ?_) (fun h125 => ?_)
                · refine xx_iload (q := 136) rfl rfl rfl ?_
                  refine xx_iret rfl trivial ⟨congrArg (fun z => some (Sum.inl z)) (by (unfold pleF; rw [if_neg (by omega), hFe, if_pos (by omega)])), _, rfl, ?_⟩
                  exact hP12
                · refine xx_iload (q := 130) rfl rfl rfl ?_
                  refine xx_iconst (q := 131) rfl rfl (by decide) ?_
                  refine xx_icmp_ne (q := 137) (q2 := 134) rfl rfl rfl (fun h131 => ?_) (fun h131 => ?_)
                  · refine xx_iload (q := 139) rfl rfl rfl ?_
                    refine xx_bipush (q := 141) rfl rfl (by decide) ?_
                    refine xx_isubR (q := 142) rfl rfl (by omega) (by omega) ?_
                    refine xx_istore (q := 144) (loc2 := [_, _, _, _, _, _, _, _, _, _, _]) rfl rfl (Nat.le_of_ble_eq_true rfl) rfl ?_
                    refine xx_iload (q := 146) rfl rfl rfl ?_
                    refine xx_if_eq (q := 159) (q2 := 149) rfl rfl rfl (fun _ => ?_) (fun h146 => (by exfalso; omega))
                    refine xx_iload (q := 161) rfl rfl rfl ?_
                    refine xx_iload (q := 163) rfl rfl rfl ?_
                    refine xx_isubR (q := 164) rfl rfl (by omega) (by omega) ?_
                    refine xx_istore (q := 166) (loc2 := [_, _, _, _, _, _, _, _, _, _, _]) rfl rfl (Nat.le_of_ble_eq_true rfl) rfl ?_
                    refine xx_aload_n (q := 167) rfl rfl rfl ?_
                    refine xx_iload (q := 169) rfl rfl rfl ?_
                    refine xx_iconst (q := 170) rfl rfl (by decide) ?_
                    refine xx_iload (q := 172) rfl rfl rfl ?_
                    refine xx_iconst (q := 173) rfl rfl (by decide) ?_
                    refine xx_isubR (q := 174) rfl rfl (by omega) (by omega) ?_
                    refine xx_callV (q := 177) (As := [_, _, _]) (rest := []) rfl rfl rfl (Or.inl rfl) rfl rfl (Nat.le_of_ble_eq_true rfl) xS_479 (XCm (r_isIn ((w - 10) - (K 14 (boat).toNat)) 0 ((pool - (K 14 (boat).toNat)) - 1)) rfl) rfl ?_
                    refine xx_ifb_eq (q := 190) (q2 := 180) rfl rfl rfl (fun h177 => ?_) (fun h177 => ?_)
                    · refine xx_iconst (q := 191) rfl rfl (by decide) ?_
                      refine xx_iret rfl trivial ⟨congrArg (fun z => some (Sum.inl z)) (by (unfold pleF; rw [if_neg (by omega), hFe, if_neg (by omega)]; rcases hrs with hrs | ⟨hr0, l, hl, hc⟩; exact absurd hrs.1 (by omega); have hsf := hl11 l hl; have hln : l.length = N + 1 := (congrArg List.length hsf).symm.trans (sfx_len _ _); rw [hl]; have hz := zp_v (G := G) (Hh := Hh) (good := good) l K (hln ▸ hDS) hc (w - 10).toNat; refine Eq.trans ?_ hz.symm; rw [hln]; have hix : ixF 0 pool (N + 1) (((w - 10).toNat : Nat) : Int) = w - 10 - K 14 boat.toNat := (by unfold ixF; rw [if_neg (by omega)]; omega); rw [hix]; rcases Classical.em (0 ≤ w - 10 - K 14 boat.toNat) with q | q; rw [if_pos q, getD_o l _ (by omega)]; rw [if_neg q])), _, rfl, ?_⟩
                      exact hP12
                    · refine xx_aload_n (q := 181) rfl rfl rfl ?_
                      refine xx_getR (q := 184) rfl rfl rfl xS_479 (Nat.le_of_ble_eq_true rfl) rfl (hR.1 479 55 rfl) ?_
                      refine xx_iload (q := 186) rfl rfl rfl ?_
                      refine xx_iaz (v := D11 510 ((w - 10) - (K 14 (boat).toNat)).toNat) (q := 187) rfl rfl xS_510 (by omega) (by omega) (hA12 510 _ (by omega) (by omega)) ?_
                      refine xx_goto (q := 191) rfl rfl ?_
                      refine xx_iret rfl trivial ⟨congrArg (fun z => some (Sum.inl z)) (by (unfold pleF; rw [if_neg (by omega), hFe, if_neg (by omega)]; rcases hrs with hrs | ⟨hr0, l, hl, hc⟩; exact absurd hrs.1 (by omega); have hsf := hl11 l hl; have hln : l.length = N + 1 := (congrArg List.length hsf).symm.trans (sfx_len _ _); rw [hl]; have hz := zp_v (G := G) (Hh := Hh) (good := good) l K (hln ▸ hDS) hc (w - 10).toNat; refine Eq.trans ?_ hz.symm; rw [hln]; have hix : ixF 0 pool (N + 1) (((w - 10).toNat : Nat) : Int) = w - 10 - K 14 boat.toNat := (by unfold ixF; rw [if_neg (by omega)]; omega); rw [hix]; rw [if_pos (by omega), ← hsf]; rw [sfx_g _ _ _ _ (by omega), Nat.zero_add])), _, rfl, ?_⟩
                      exact hP12
                  · refine xx_iload (q := 136) rfl rfl rfl ?_
                    refine xx_iret rfl trivial ⟨congrArg (fun z => some (Sum.inl z)) (by (unfold pleF; rw [if_neg (by omega), hFe, if_pos (by omega)])), _, rfl, ?_⟩
                    exact hP12
              · refine xx_iconst (q := 102) rfl rfl (by decide) ?_
                refine xx_iret rfl trivial ⟨congrArg (fun z => some (Sum.inl z)) (by (unfold pleF; rw [if_neg (by omega), few_0 hI (by omega)]; split <;> rfl)), _, rfl, ?_⟩
                exact hP0
            · refine xx_iconst (q := 72) rfl rfl (by decide) ?_
              refine xx_goto (q := 76) rfl rfl ?_
              refine xx_istore (q := 78) (loc2 := [_, _, _, _, _, _, _, _, _, _, _]) rfl rfl (Nat.le_of_ble_eq_true rfl) rfl ?_
              refine xx_iload (q := 80) rfl rfl rfl ?_
              refine xx_if_eq (q := 90) (q2 := 83) rfl rfl rfl (fun h80 => (by exfalso; omega)) (fun _ => ?_)
              refine xx_iload (q := 85) rfl rfl rfl ?_
              refine xx_iload_n (q := 86) rfl rfl rfl ?_
              refine xx_isubR (q := 87) rfl rfl (by omega) (by omega) ?_
              refine xx_goto (q := 94) rfl rfl ?_
              refine xx_istore (q := 96) (loc2 := [_, _, _, _, _, _, _, _, _, _, _]) rfl rfl (Nat.le_of_ble_eq_true rfl) rfl ?_
              refine xx_iload (q := 98) rfl rfl rfl ?_
              refine xx_if_ne (q := 103) (q2 := 101) rfl rfl rfl (fun h98 => ?_) (fun h98 => ?_)
              · refine xx_aload_n (q := 104) rfl rfl rfl ?_
                obtain ⟨D13, hx13, hT13⟩ := r_thinks (n := n) hR hP0.1 hI
                refine xx_callV (q := 107) (As := []) (rest := []) rfl rfl rfl (Or.inl rfl) rfl rfl (Nat.le_of_ble_eq_true rfl) xS_479 (XCm hx13 rfl) rfl ?_
                refine xx_aload_n (q := 108) rfl rfl rfl ?_
                refine xx_iload_n (q := 109) rfl rfl rfl ?_
                refine xx_iload_n (q := 110) rfl rfl rfl ?_
                refine xx_iload (q := 112) rfl rfl rfl ?_
                refine xx_iload (q := 114) rfl rfl rfl ?_
                obtain ⟨N, hN⟩ : ∃ N : Nat, (N : Int) + 1 = (K 14 (boat).toNat) - pool := ⟨((K 14 (boat).toNat) - pool - 1).toNat, by omega⟩
                have hms : (N : Int) + 1 ≤ mesF K boat 1 := by unfold mesF; rw [if_neg (by omega)]; omega
                obtain ⟨D14, hx14, hT14, hl14, ho14⟩ := r_fewestGoods (n := n) (N := N) hR hI (RLG.fr hG hlw) (RLH.fr hH hlw) boat good 1 (by omega) (by omega) (by omega) (by omega) (by omega) (fun _ => hwL) hms hT13
                rw [hN] at hx14
                have hDS : DS K boat 1 pool (N + 1) := ⟨by omega, by omega, by omega, by omega⟩
                have hFe : fewF G Hh boat good pool K = ((rfwL G Hh boat good 1 K N (mnF 6 (K 17 (boat * 4 + good).toNat) + 1).toNat 0).1, (rfwL G Hh boat good 1 K N (mnF 6 (K 17 (boat * 4 + good).toNat) + 1).toNat 0).2.map (zpL G Hh boat good 1 K)) := few_rfw (by omega) (by omega) hI (by omega) hDS _ 0 (by omega) (by omega)
                have hrs := rfwL_s (G := G) (Hh := Hh) (boat := boat) (good := good) (up := 1) (K := K) (N := N) (mnF 6 (K 17 (boat * 4 + good).toNat) + 1).toNat 0 (by omega)
                refine xx_callV (q := 117) (As := [_, _, _, _]) (rest := []) rfl rfl rfl (Or.inl rfl) rfl rfl (Nat.le_of_ble_eq_true rfl) xS_479 (XCm hx14 rfl) rfl ?_
                refine xx_istore (q := 119) (loc2 := [_, _, _, _, _, _, _, _, _, _, _]) rfl rfl (Nat.le_of_ble_eq_true rfl) rfl ?_
                refine xx_aload_n (q := 120) rfl rfl rfl ?_
                obtain ⟨D15, hx15, hV15, hF15, hA15⟩ := r_endsThought (n := n) hR hT14 hI
                have hP15 : PV K b B U D D15 := ⟨hV15, hP0.2.trans hF15.fq⟩
                refine xx_callV (q := 123) (As := []) (rest := []) rfl rfl rfl (Or.inl rfl) rfl rfl (Nat.le_of_ble_eq_true rfl) xS_479 (XCm hx15 rfl) rfl ?_
                refine xx_iload (q := 125) rfl rfl rfl ?_
                refine xx_if_eq (q := 134) (q2 := 128) rfl rfl rfl (fun h125 => ?_) (fun h125 => ?_)
                · refine xx_iload (q := 136) rfl rfl rfl ?_
                  refine xx_iret rfl trivial ⟨congrArg (fun z => some (Sum.inl z)) (by (unfold pleF; rw [if_neg (by omega), hFe, if_pos (by omega)])), _, rfl, ?_⟩
                  exact hP15
                · refine xx_iload (q := 130) rfl rfl rfl ?_
                  refine xx_iconst (q := 131) rfl rfl (by decide) ?_
                  refine xx_icmp_ne (q := 137) (q2 := 134) rfl rfl rfl (fun h131 => ?_) (fun h131 => ?_)
                  · refine xx_iload (q := 139) rfl rfl rfl ?_
                    refine xx_bipush (q := 141) rfl rfl (by decide) ?_
                    refine xx_isubR (q := 142) rfl rfl (by omega) (by omega) ?_
                    refine xx_istore (q := 144) (loc2 := [_, _, _, _, _, _, _, _, _, _, _]) rfl rfl (Nat.le_of_ble_eq_true rfl) rfl ?_
                    refine xx_iload (q := 146) rfl rfl rfl ?_
                    refine xx_if_eq (q := 159) (q2 := 149) rfl rfl rfl (fun h146 => (by exfalso; omega)) (fun _ => ?_)
                    refine xx_iload (q := 151) rfl rfl rfl ?_
                    refine xx_iconst (q := 152) rfl rfl (by decide) ?_
                    refine xx_isubR (q := 153) rfl rfl (by omega) (by omega) ?_
                    refine xx_iload (q := 155) rfl rfl rfl ?_
                    refine xx_isubR (q := 156) rfl rfl (by omega) (by omega) ?_
                    refine xx_goto (q := 164) rfl rfl ?_
                    refine xx_istore (q := 166) (loc2 := [_, _, _, _, _, _, _, _, _, _, _]) rfl rfl (Nat.le_of_ble_eq_true rfl) rfl ?_
                    refine xx_aload_n (q := 167) rfl rfl rfl ?_
                    refine xx_iload (q := 169) rfl rfl rfl ?_
                    refine xx_iconst (q := 170) rfl rfl (by decide) ?_
                    refine xx_iload (q := 172) rfl rfl rfl ?_
                    refine xx_iconst (q := 173) rfl rfl (by decide) ?_
                    refine xx_isubR (q := 174) rfl rfl (by omega) (by omega) ?_
                    refine xx_callV (q := 177) (As := [_, _, _]) (rest := []) rfl rfl rfl (Or.inl rfl) rfl rfl (Nat.le_of_ble_eq_true rfl) xS_479 (XCm (r_isIn (((K 14 (boat).toNat) - 1) - (w - 10)) 0 (((K 14 (boat).toNat) - pool) - 1)) rfl) rfl ?_
                    refine xx_ifb_eq (q := 190) (q2 := 180) rfl rfl rfl (fun h177 => ?_) (fun h177 => ?_)
                    · refine xx_iconst (q := 191) rfl rfl (by decide) ?_
                      refine xx_iret rfl trivial ⟨congrArg (fun z => some (Sum.inl z)) (by (unfold pleF; rw [if_neg (by omega), hFe, if_neg (by omega)]; rcases hrs with hrs | ⟨hr0, l, hl, hc⟩; exact absurd hrs.1 (by omega); have hsf := hl14 l hl; have hln : l.length = N + 1 := (congrArg List.length hsf).symm.trans (sfx_len _ _); rw [hl]; have hz := zp_v (G := G) (Hh := Hh) (good := good) l K (hln ▸ hDS) hc (w - 10).toNat; refine Eq.trans ?_ hz.symm; rw [hln]; have hix : ixF 1 pool (N + 1) (((w - 10).toNat : Nat) : Int) = K 14 boat.toNat - 1 - (w - 10) := (by unfold ixF; rw [if_pos rfl]; omega); rw [hix]; rcases Classical.em (0 ≤ K 14 boat.toNat - 1 - (w - 10)) with q | q; rw [if_pos q, getD_o l _ (by omega)]; rw [if_neg q])), _, rfl, ?_⟩
                      exact hP15
                    · refine xx_aload_n (q := 181) rfl rfl rfl ?_
                      refine xx_getR (q := 184) rfl rfl rfl xS_479 (Nat.le_of_ble_eq_true rfl) rfl (hR.1 479 55 rfl) ?_
                      refine xx_iload (q := 186) rfl rfl rfl ?_
                      refine xx_iaz (v := D14 510 (((K 14 (boat).toNat) - 1) - (w - 10)).toNat) (q := 187) rfl rfl xS_510 (by omega) (by omega) (hA15 510 _ (by omega) (by omega)) ?_
                      refine xx_goto (q := 191) rfl rfl ?_
                      refine xx_iret rfl trivial ⟨congrArg (fun z => some (Sum.inl z)) (by (unfold pleF; rw [if_neg (by omega), hFe, if_neg (by omega)]; rcases hrs with hrs | ⟨hr0, l, hl, hc⟩; exact absurd hrs.1 (by omega); have hsf := hl14 l hl; have hln : l.length = N + 1 := (congrArg List.length hsf).symm.trans (sfx_len _ _); rw [hl]; have hz := zp_v (G := G) (Hh := Hh) (good := good) l K (hln ▸ hDS) hc (w - 10).toNat; refine Eq.trans ?_ hz.symm; rw [hln]; have hix : ixF 1 pool (N + 1) (((w - 10).toNat : Nat) : Int) = K 14 boat.toNat - 1 - (w - 10) := (by unfold ixF; rw [if_pos rfl]; omega); rw [hix]; rw [if_pos (by omega), ← hsf]; rw [sfx_g _ _ _ _ (by omega), Nat.zero_add])), _, rfl, ?_⟩
                      exact hP15
                  · refine xx_iload (q := 136) rfl rfl rfl ?_
                    refine xx_iret rfl trivial ⟨congrArg (fun z => some (Sum.inl z)) (by (unfold pleF; rw [if_neg (by omega), hFe, if_pos (by omega)])), _, rfl, ?_⟩
                    exact hP15
              · refine xx_iconst (q := 102) rfl rfl (by decide) ?_
                refine xx_iret rfl trivial ⟨congrArg (fun z => some (Sum.inl z)) (by (unfold pleF; rw [if_neg (by omega), few_0 hI (by omega)]; split <;> rfl)), _, rfl, ?_⟩
                exact hP0
          · refine xx_iconst (q := 53) rfl rfl (by decide) ?_
            refine xx_iret rfl trivial ⟨congrArg (fun z => some (Sum.inl z)) (by unfold pleF; rw [if_pos (by omega)]), _, rfl, ?_⟩
            exact hP0
