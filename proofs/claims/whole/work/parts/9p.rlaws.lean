/-! A law is read: the reference, all its lines. -/
theorem In_nt {F : Sg → Sg} (h : Ind F) {t : Tt} {c : List Int} {N : Nat} (hc : c.length ≤ 399) (hN : N ≤ 400) (hz : szS (F (t, c)) ≤ N) (h1 : 1 ≤ (F (t, c)).1.2.2.length) : F (t, c) = ((F (t, [])).1, c ++ (F (t, [])).2) ∧ c.length + (F (t, [])).2.length + (F (t, [])).1.2.2.length ≤ N := by
  have e := h t c (by omega)
  rw [e] at hz h1
  have h2 : ((c ++ (F (t, [])).2).take 400).length + (F (t, [])).1.2.2.length ≤ N := hz
  have h3 : 1 ≤ (F (t, [])).1.2.2.length := h1
  rw [List.length_take, List.length_append] at h2
  exact ⟨by rw [e, List.take_of_length_le (by rw [List.length_append]; omega)], by omega⟩
theorem wrT_0 {t : Tt} {k : Int} (h : t.1 = 0) (hk : k ≠ 0) : (wrT k t).1 ≠ 0 := wr_0 (s := (t, [])) h hk
theorem li_dv {h r : Int} {t T2 : Tt} {c : List Int} (hb : bgP h (kdT t)) (hr : r < 16) (hv : (vaF h (t, c)).1 = T2) (hd : T2.1 ≠ 0) : (liF h r (t, c)).1 = T2 := by
  rw [li_y hb hr]
  show exT 59 (whF h (vaF h (t, c))).1 = T2
  rw [wh_d (by rw [hv]; exact hd), hv]
  exact exT_d hd (by decide)
theorem li_dw {h r : Int} {t T2 : Tt} {c c2 : List Int} (hb : bgP h (kdT t)) (hr : r < 16) (hv : vaF h (t, c) = (T2, c2)) (hl : c2.length ≤ 400) (hk : kdT T2 = 303) (hd : (eiG (clF h 8) (stT T2, [])).1.1 ≠ 0) : (liF h r (t, c)).1 = (eiG (clF h 8) (stT T2, [])).1 := by
  rw [li_y hb hr]
  show exT 59 (whF h (vaF h (t, c))).1 = _
  rw [hv, wh_1d hk hl]
  exact exT_d hd (by decide)
theorem li_dn {h r : Int} {t T2 : Tt} {c : List Int} (hb : bgP h (kdT t)) (hr : r < 16) (hv : (vaF h (t, c)).1 = T2) (hk : ¬ kdT T2 = 303) (h5 : ¬ kdT T2 = 59) : (liF h r (t, c)).1 = wrT 1 T2 := by
  rw [li_y hb hr]
  show exT 59 (whF h (vaF h (t, c))).1 = _
  rw [show whF h (vaF h (t, c)) = wtS (-30) (vaF h (t, c)) from if_neg (by show ¬ kdT (vaF h (t, c)).1 = 303; rw [hv]; exact hk)]
  show exT 59 (vaF h (t, c)).1 = _
  rw [hv]
  exact if_neg h5
theorem li_dm {h r : Int} {t T2 : Tt} {c c2 : List Int} (hb : bgP h (kdT t)) (hr : r < 16) (hv : vaF h (t, c) = (T2, c2)) (hl : c2.length ≤ 400) (hk : kdT T2 = 303) (h5 : ¬ kdT (eiG (clF h 8) (stT T2, [])).1 = 59) : (liF h r (t, c)).1 = wrT 1 (eiG (clF h 8) (stT T2, [])).1 := by
  rw [li_y hb hr]
  show exT 59 (whF h (vaF h (t, c))).1 = _
  rw [hv, wh_1d hk hl]
  exact if_neg h5
theorem li_on {h r : Int} {t T2 : Tt} {c cv : List Int} (hb : bgP h (kdT t)) (hr : r < 16) (hv : vaF h (t, c) = (T2, c ++ cv)) (hl : c.length + cv.length < 400) (hk : ¬ kdT T2 = 303) (h5 : kdT T2 = 59) : liF h r (t, c) = (stT T2, c ++ (cv ++ [-30])) := by
  rw [li_y hb hr, hv, wh_0 hk (by rw [List.length_append]; exact hl), List.append_assoc]
  exact congrArg (fun q => (q, c ++ (cv ++ [-30]))) (if_pos h5)
theorem li_ow {h r : Int} {t T2 : Tt} {c cv : List Int} (hb : bgP h (kdT t)) (hr : r < 16) (hv : vaF h (t, c) = (T2, c ++ cv)) (hl : c.length + cv.length + (eiG (clF h 8) (stT T2, [])).2.length < 400) (hk : kdT T2 = 303) (h5 : kdT (eiG (clF h 8) (stT T2, [])).1 = 59) : liF h r (t, c) = (stT (eiG (clF h 8) (stT T2, [])).1, c ++ (cv ++ ((eiG (clF h 8) (stT T2, [])).2 ++ [-31]))) := by
  rw [li_y hb hr, hv, wh_1 hk (by rw [List.length_append]; exact hl), List.append_assoc]
  exact congrArg (fun q => (q, c ++ (cv ++ ((eiG (clF h 8) (stT T2, [])).2 ++ [-31])))) (if_pos h5)
theorem RlS.end {bs : List Int} {h wh : Int} {D0 LE D : KK} {L : List LN1} {t : Tt} {o : Int} {P : Option (List Int)} {n : Nat} {R : Nat → Nat → Option Nat} {c : Int × Sg} (g : RlS bs wh D0 LE (t, rfC L) o P D) (h1 : ∀ l ∈ L, ok1 h l) (h2 : LnD 32 L LE) (h3 : (rfC L).length ≤ 400) (h4 : L.length ≤ 16) (e : c = ((L.length : Int), (t, clC h L))) : RlQ h D0 c n R (some (.inl (L.length : Int))) (xS n, R, D) := by
  rw [e]
  refine ⟨_, _, rfl, rfl, g.2.2.2.2.1, Or.inl ⟨g.1.2.2.1, L, rfl, rfl, h4, rfl, h1, ?_, g.1.2.2.2.1, h3, g.1.2.2.2.2.1⟩⟩
  intro i l hi
  have q := g.2.2.2.2.2
  rw [q _ _ (by omega) (by omega), q _ _ (by omega) (by omega), q _ _ (by omega) (by omega), q _ _ (by omega) (by omega)]
  exact h2 i l hi
theorem RlQ_d {h : Int} {D0 D : KK} {n : Nat} {R : Nat → Nat → Option Nat} {c : Int × Sg} {T : Tt} (e : c.2.1 = T) (hd : T.1 ≠ 0) (h1 : D 479 42 = T.1) (h2 : D 479 43 = T.2.1) (h3 : FRl D0 D) : RlQ h D0 c n R (some (.inl (-1))) (xS n, R, D) := ⟨_, _, rfl, rfl, h3, Or.inr ⟨by rw [e]; exact hd, rfl, by rw [e]; exact h1, by rw [e]; exact h2⟩⟩
set_option maxHeartbeats 4000000 in
theorem r_rlG_L {n : Nat} {R : Nat → Nat → Option Nat} {D0 : KK} {bs : List Int} (hR : RF R) (hl4 : bs.length ≤ 400) (hby : ∀ j, 0 ≤ bs.getD j 0 ∧ bs.getD j 0 ≤ 255) : ∀ (k : Nat) (L : List LN1) (t : Tt) (LE D : KK) (P : Option (List Int)) (x : Option XV), L.length + k = 16 → RlS bs 0 D0 LE (t, rfC L) 0 P D → (∀ l ∈ L, ok1 0 l) → LnD 32 L LE → (rfC L).length + t.2.2.length ≤ 401 → (clC 0 L).length + t.2.2.length ≤ 401 → XX (XC 8) 213 (RlQ 0 D0 (lwL 0 (k + 1) (L.length : Int) (t, clC 0 L)) n R) 2 [some (.inr (some 479)), some (.inl (L.length : Int)), x] [] (xS n, R, D) := by
  intro k
  induction k using Nat.strongRecOn with
  | ind k ih =>
  intro L t LE D P x hLk hS hok hLn hz3 hz4
  refine xx_aload_n (q := 3) rfl rfl rfl ?_
  refine xx_callV (q := 6) (As := []) (rest := []) rfl rfl rfl (Or.inl rfl) rfl rfl (Nat.le_of_ble_eq_true rfl) xS_479 (XCm (r_isLineG (n := n) hR hS.1 hS.2.2.2.1) rfl) rfl ?_
  refine xx_ifb_eq (q := 136) (q2 := 9) rfl rfl rfl (fun h6 => ?_) (fun h6 => ?_)
  · obtain ⟨hK, hw, hkd, hl1⟩ := hS.1.hd
    have hk0 := tok_0 hK hw
    refine xx_aload_n (q := 137) rfl rfl rfl ?_
    refine xx_gez (q := 140) rfl rfl rfl xS_479 (Nat.le_of_ble_eq_true rfl) rfl rfl ?_
    refine xx_if_ne (q := 147) (q2 := 143) rfl rfl rfl (fun h140 => ?_) (fun h140 => ?_)
    · have hne3 : kdS (t, clC 0 L) ≠ 258 := fun q => h140 (hk0.mpr (hkd.symm.trans q))
      refine xx_aload_n (q := 148) rfl rfl rfl ?_
      refine xx_iconst (q := 149) rfl rfl (by decide) ?_
      obtain ⟨D1, hx1, hF1⟩ := r_errs (n := n) hR hS.1 1
      refine xx_callV (q := 152) (As := [_]) (rest := []) rfl rfl rfl (Or.inl rfl) rfl rfl (Nat.le_of_ble_eq_true rfl) xS_479 (XCm hx1 rfl) rfl ?_
      exact xx_iret rfl trivial (RlQ_d ((lw_sd hne3 (by rw [li_n h6]; exact wrT_0 hS.1.2.2.1 (by decide))).trans (li_n h6)) (wrT_0 (k := 1) (t := t) hS.1.2.2.1 (by decide)) (hS.fl hF1).1 (hS.fl hF1).2.1 (hS.fl hF1).2.2)
    · replace hk0 : kdS (t, clC 0 L) = 258 := hkd.trans (hk0.mp h140)
      refine xx_iload_n (q := 144) rfl rfl rfl ?_
      refine xx_goto (q := 152) rfl rfl ?_
      exact xx_iret rfl trivial (hS.end hok hLn (by have := hS.1.hd.2.2.2; show (rfC L).length ≤ 400; have : 1 ≤ t.2.2.length := this; omega) (by omega) (if_pos hk0))
  · refine xx_iload_n (q := 10) rfl rfl rfl ?_
    refine xx_bipush (q := 12) rfl rfl (by decide) ?_
    refine xx_icmp_ne (q := 21) (q2 := 15) rfl rfl rfl (fun h12 => ?_) (fun h12 => ?_)
    · have hb : bgP 0 (kdT t) := h6
      have hne : kdS (t, rfC L) ≠ 258 := by intro q; rw [show kdT t = 258 from q] at hb; revert hb; decide
      obtain ⟨hK, hw, hkd, hl1⟩ := hS.1.hd
      have hk3 : kdT t = 300 ∨ kdT t = 301 ∨ kdT t = 302 := by
        rcases hb with q | q; exact Or.inl q; exact Or.inr (Or.inl q)
      have hkt : kdT t = (hdT t).1 := hkd
      have hvw : D 479 28 = wmp (kdT t) := by rw [hkt]; exact (hK.2.2.2.2.2 (by show 300 ≤ (hdT t).1; omega)).2
      have hl2 : 2 ≤ t.2.2.length := hS.1.l2 hne
      have hst : (stT t).2.2.length + 1 = t.2.2.length := st_l2 (s := (t, rfC L)) hl2
      have hz1 : szS (stS (t, rfC L)) = (rfC L).length + (stT t).2.2.length := rfl
      have hlc : (clC 0 L).length ≤ 399 := by omega
      have hlr : (rfC L).length ≤ 399 := by omega
      have hr : (L.length : Int) < 16 := by omega
      refine xx_bipush (q := 23) rfl rfl (by decide) ?_
      refine xx_iload_n (q := 24) rfl rfl rfl ?_
      refine xx_iaddR (q := 25) rfl rfl (by omega) (by omega) ?_
      refine xx_istore_n (q := 26) (loc2 := [_, _, _]) rfl rfl (Nat.le_of_ble_eq_true rfl) rfl ?_
      refine xx_aload_n (q := 27) rfl rfl rfl ?_
      refine xx_getR (q := 30) rfl rfl rfl xS_479 (Nat.le_of_ble_eq_true rfl) rfl (hR.1 479 31 rfl) ?_
      refine xx_iload_n (q := 31) rfl rfl rfl ?_
      refine xx_aload_n (q := 32) rfl rfl rfl ?_
      refine xx_gez (q := 35) rfl rfl rfl xS_479 (Nat.le_of_ble_eq_true rfl) rfl hvw ?_
      refine xr_isz (RlS bs 0 D0 (xui LE 500 (32 + L.length) (wmp (kdT t))) (t, rfC L) 0 P) (q := 36) rfl rfl xS_500 (by omega) (by omega) (by rw [show (32 + (L.length : Int)).toNat = 32 + L.length by omega]; exact hS.wr 500 (32 + L.length) _ (by omega) (by omega) (by omega)) (fun D3 hS3 => ?_)
      refine xx_aload_n (q := 37) rfl rfl rfl ?_
      obtain ⟨D4, hx4, hO4, hs4⟩ := r_nexT (n := n) hR hS3.2.1 hl4 hby hS3.2.2.1 hS3.1 (hne)
      have hS4 := hS3.step hO4
      refine xx_callV (q := 40) (As := []) (rest := []) rfl rfl rfl (Or.inl rfl) rfl rfl (Nat.le_of_ble_eq_true rfl) xS_479 (XCm hx4 rfl) rfl ?_
      refine xx_aload_n (q := 41) rfl rfl rfl ?_
      refine xx_getR (q := 44) rfl rfl rfl xS_479 (Nat.le_of_ble_eq_true rfl) rfl (hR.1 479 32 rfl) ?_
      refine xx_iload_n (q := 45) rfl rfl rfl ?_
      refine xx_aload_n (q := 46) rfl rfl rfl ?_
      refine xx_gez (q := 49) rfl rfl rfl xS_479 (Nat.le_of_ble_eq_true rfl) rfl hS4.1.2.2.2.1 ?_
      refine xr_isz (RlS bs 0 D0 (xui (xui LE 500 (32 + L.length) (wmp (kdT t))) 501 (32 + L.length) ((rfC L).length : Int)) (stS (t, rfC L)) 0 P) (q := 50) rfl rfl xS_501 (by omega) (by omega) (by rw [show (32 + (L.length : Int)).toNat = 32 + L.length by omega]; exact hS4.wr 501 (32 + L.length) _ (by omega) (by omega) (by omega)) (fun D6 hS6 => ?_)
      refine xx_aload_n (q := 51) rfl rfl rfl ?_
      refine xx_gez (q := 54) rfl rfl rfl xS_479 (Nat.le_of_ble_eq_true rfl) rfl hS6.2.2.2.1 ?_
      refine xx_iconst (q := 55) rfl rfl (by decide) ?_
      refine xx_icmp_ne (q := 68) (q2 := 58) rfl rfl rfl (fun _ => ?_) (fun h55 => (by exfalso; omega))
      have ern : rfC L ++ ([] : List Int) = rfC L := List.append_nil _
      have hV : vaF 0 (t, clC 0 L) = (stT t, clC 0 L ++ [if kdT t = 300 then 1 else 0]) := va_0 (by omega)
      have hs2 : (rfC L).length + ([] : List Int).length + (stT t).2.2.length ≤ (rfC L).length + (stT t).2.2.length := by show _ + 0 + _ ≤ _; omega
      have hlv2 := hS6.1.2.2.1
      rw [show stS (t, rfC L) = (stT t, rfC L ++ []) by rw [ern]; rfl] at hS6
      refine xx_aload_n (q := 69) rfl rfl rfl ?_
      refine xx_getR (q := 72) rfl rfl rfl xS_479 (Nat.le_of_ble_eq_true rfl) rfl (hR.1 479 33 rfl) ?_
      refine xx_iload_n (q := 73) rfl rfl rfl ?_
      refine xx_aload_n (q := 74) rfl rfl rfl ?_
      refine xx_gez (q := 77) rfl rfl rfl xS_479 (Nat.le_of_ble_eq_true rfl) rfl hS6.1.2.2.2.1 ?_
      refine xr_isz (RlS bs 0 D0 (xui (xui (xui LE 500 (32 + L.length) (wmp (kdT t))) 501 (32 + L.length) ((rfC L).length : Int)) 502 (32 + L.length) ((rfC L ++ []).length : Int)) (stT t, rfC L ++ []) 0 P) (q := 78) rfl rfl xS_502 (by omega) (by omega) (by rw [show (32 + (L.length : Int)).toNat = 32 + L.length by omega]; exact hS6.wr 502 (32 + L.length) _ (by omega) (by omega) (by omega)) (fun D8 hS8 => ?_)
      refine xx_aload_n (q := 79) rfl rfl rfl ?_
      refine xx_iconst (q := 80) rfl rfl (by decide) ?_
      refine xx_callV (q := 83) (As := [_]) (rest := []) rfl rfl rfl (Or.inl rfl) rfl rfl (Nat.le_of_ble_eq_true rfl) xS_479 (XCm (r_isWord (n := n) hR hS8.1 303 2 (by decide) (by decide) (by decide +kernel)) rfl) rfl ?_
      refine xx_ifb_eq (q := 100) (q2 := 86) rfl rfl rfl (fun h83 => ?_) (fun h83 => ?_)
      · skip
        refine xx_aload_n (q := 101) rfl rfl rfl ?_
        refine xx_getR (q := 104) rfl rfl rfl xS_479 (Nat.le_of_ble_eq_true rfl) rfl (hR.1 479 34 rfl) ?_
        refine xx_iload_n (q := 105) rfl rfl rfl ?_
        refine xx_aload_n (q := 106) rfl rfl rfl ?_
        refine xx_gez (q := 109) rfl rfl rfl xS_479 (Nat.le_of_ble_eq_true rfl) rfl hS8.1.2.2.2.1 ?_
        refine xr_isz (RlS bs 0 D0 (xui (xui (xui (xui LE 500 (32 + L.length) (wmp (kdT t))) 501 (32 + L.length) ((rfC L).length : Int)) 502 (32 + L.length) ((rfC L ++ []).length : Int)) 503 (32 + L.length) ((rfC L ++ []).length : Int)) (stT t, rfC L ++ []) 0 P) (q := 110) rfl rfl xS_503 (by omega) (by omega) (by rw [show (32 + (L.length : Int)).toNat = 32 + L.length by omega]; exact hS8.wr 503 (32 + L.length) _ (by omega) (by omega) (by omega)) (fun D10 hS10 => ?_)
        refine xx_aload_n (q := 111) rfl rfl rfl ?_
        refine xx_bipush (q := 113) rfl rfl (by decide) ?_
        refine xx_callV (q := 116) (As := [_]) (rest := []) rfl rfl rfl (Or.inl rfl) rfl rfl (Nat.le_of_ble_eq_true rfl) xS_479 (XCm (r_isSign (n := n) hR hS10.1 59 (by omega)) rfl) rfl ?_
        refine xx_ifb_ne (q := 125) (q2 := 119) rfl rfl rfl (fun h116 => ?_) (fun h116 => ?_)
        · have hk4 : kdT (stT t) = 59 := h116
          have hne4 : kdS (stT t, rfC L ++ []) ≠ 258 := by show kdT (stT t) ≠ 258; omega
          have hl8 : 2 ≤ (stT t).2.2.length := hS10.1.l2 hne4
          have hst4 : (stT (stT t)).2.2.length + 1 = (stT t).2.2.length := st_l2 (s := (stT t, rfC L ++ [])) hl8
          refine xx_aload_n (q := 126) rfl rfl rfl ?_
          obtain ⟨D11, hx11, hO11, hs11⟩ := r_nexT (n := n) hR hS10.2.1 hl4 hby hS10.2.2.1 hS10.1 (hne4)
          have hS11 := hS10.step hO11
          refine xx_callV (q := 129) (As := []) (rest := []) rfl rfl rfl (Or.inl rfl) rfl rfl (Nat.le_of_ble_eq_true rfl) xS_479 (XCm hx11 rfl) rfl ?_
          refine xx_iload_n (q := 130) rfl rfl rfl ?_
          refine xx_iconst (q := 131) rfl rfl (by decide) ?_
          refine xx_iaddR (q := 132) rfl rfl (by omega) (by omega) ?_
          refine xx_istore_n (q := 133) (loc2 := [_, _, _]) rfl rfl (Nat.le_of_ble_eq_true rfl) rfl ?_
          refine xx_goto (q := 2) rfl rfl ?_
          have hrf : rfC (L ++ [((wmp (kdT t), [], none) : LN1)]) = rfC L ++ [] := by
            rw [rfC_app]
            show rfC L ++ ([] ++ []) = _
            rw [List.append_nil]
          have hcl : clC 0 (L ++ [((wmp (kdT t), [], none) : LN1)]) = clC 0 L ++ ([if kdT t = 300 then 1 else 0] ++ [-30]) := by
            rw [clC_app]
            have hw0 : (if wmp (kdT t) = 0 then (1 : Int) else 0) = if kdT t = 300 then 1 else 0 := by
              rcases hb with q | q
              · rw [show kdT t = 300 from q]; decide +kernel
              · rw [show kdT t = 301 from q]; decide +kernel
            show clC 0 L ++ ([if wmp (kdT t) = 0 then (1 : Int) else 0] ++ [-30]) = _
            rw [hw0]
          have hli : liF 0 (L.length : Int) (t, clC 0 L) = (stT (stT t), clC 0 (L ++ [((wmp (kdT t), [], none) : LN1)])) := by rw [hcl]; exact li_on hb hr hV (by show (clC 0 L).length + 1 < 400; omega) h83 hk4
          obtain ⟨k, rfl⟩ : ∃ k2, k = k2 + 1 := ⟨k - 1, by omega⟩
          rw [lw_s (s := (t, clC 0 L)) hne, hli, show (L.length : Int) + 1 = ((L ++ [((wmp (kdT t), [], none) : LN1)]).length : Int) by rw [List.length_append]; rfl]
          rw [show stS (stT t, rfC L ++ []) = (stT (stT t), rfC (L ++ [((wmp (kdT t), [], none) : LN1)])) by rw [hrf]; rfl] at hS11
          refine ih k (by omega) (L ++ [((wmp (kdT t), [], none) : LN1)]) (stT (stT t)) _ _ _ _ (by rw [List.length_append]; show L.length + 1 + _ = _; omega) hS11 ?_ ?_ ?_ ?_
          · intro l hl
            rcases List.mem_append.mp hl with q | q
            · exact hok l q
            · rw [List.mem_singleton.mp q]
              exact ⟨⟨rfl, by rcases hb with q | q; exact Or.inl (by show wmp (kdT t) = 0; rw [show kdT t = 300 from q]; decide +kernel); exact Or.inr (by show wmp (kdT t) = 1; rw [show kdT t = 301 from q]; decide +kernel)⟩, Or.inl rfl⟩
          · refine LnD_app hLn (fun x k q1 q2 q3 => ?_) ?_ ?_ ?_ ?_
            · exact (xui_j q3).trans ((xui_j q3).trans ((xui_j q3).trans (xui_j q3)))
            · exact (xui_a (by omega)).trans ((xui_a (by omega)).trans ((xui_a (by omega)).trans xui_s))
            · exact (xui_a (by omega)).trans ((xui_a (by omega)).trans xui_s)
            · refine ((xui_a (by omega)).trans xui_s).trans ?_; show ((rfC L ++ []).length : Int) = _; rw [List.length_append]; rfl
            · rw [xui_s]; show ((rfC L ++ []).length : Int) = (((rfC L).length : Int) + (([] ++ []).length : Int)); rw [List.length_append, List.append_nil]; omega
          · rw [hrf]; rw [List.length_append]; omega
          · rw [hcl]; rw [List.length_append]; simp only [List.length_append, List.length_cons, List.length_nil]; omega
        · refine xx_aload_n (q := 120) rfl rfl rfl ?_
          refine xx_iconst (q := 121) rfl rfl (by decide) ?_
          obtain ⟨D12, hx12, hF12⟩ := r_errs (n := n) hR hS10.1 1
          refine xx_callV (q := 124) (As := [_]) (rest := []) rfl rfl rfl (Or.inl rfl) rfl rfl (Nat.le_of_ble_eq_true rfl) xS_479 (XCm hx12 rfl) rfl ?_
          have el : (liF 0 (L.length : Int) (t, clC 0 L)).1 = wrT 1 (stT t) := li_dn hb hr (by rw [hV]) h83 h116
          exact xx_iret rfl trivial (RlQ_d ((lw_sd (s := (t, clC 0 L)) hne (by rw [el]; exact wrT_0 hlv2 (by decide))).trans el) (wrT_0 hlv2 (by decide)) (hS10.fl hF12).1 (hS10.fl hF12).2.1 (hS10.fl hF12).2.2)
      · have hk2 : kdT (stT t) = 303 := h83
        have hne2 : kdS (stT t, rfC L ++ []) ≠ 258 := by show kdT (stT t) ≠ 258; omega
        have hl6 : 2 ≤ (stT t).2.2.length := hS8.1.l2 hne2
        have hst2 : (stT (stT t)).2.2.length + 1 = (stT t).2.2.length := st_l2 (s := (stT t, rfC L ++ [])) hl6
        have hz2 : szS (stS (stT t, rfC L ++ [])) = (rfC L ++ []).length + (stT (stT t)).2.2.length := rfl
        rw [List.length_append] at hz2
        refine xx_aload_n (q := 87) rfl rfl rfl ?_
        obtain ⟨D13, hx13, hO13, hs13⟩ := r_nexT (n := n) hR hS8.2.1 hl4 hby hS8.2.2.1 hS8.1 (hne2)
        have hS13 := hS8.step hO13
        refine xx_callV (q := 90) (As := []) (rest := []) rfl rfl rfl (Or.inl rfl) rfl rfl (Nat.le_of_ble_eq_true rfl) xS_479 (XCm hx13 rfl) rfl ?_
        refine xx_aload_n (q := 91) rfl rfl rfl ?_
        obtain ⟨z14, D14, hx14, hq14⟩ := r_anyG (n := n) hR hS13.2.1 hl4 hby hS13.2.2.1 hS13.2.2.2.1 (szS (stS (stT t, rfC L ++ []))) (by omega) hS13.1 (Nat.le_refl _)
        refine xx_callV (q := 94) (As := []) (rest := []) rfl rfl rfl (Or.inl rfl) rfl rfl (Nat.le_of_ble_eq_true rfl) xS_479 (XCm hx14 rfl) rfl ?_
        refine xx_iconst (q := 95) rfl rfl (by decide) ?_
        refine xx_icmp_ne (q := 100) (q2 := 98) rfl rfl rfl (fun h95 => ?_) (fun h95 => ?_)
        · have hwf2 : wfL (stT (stT t)).2.2 := hS13.1.2.1
          replace hq14 := hq14.resolve_right (fun q => h95 q.2.1)
          obtain ⟨e7, hs3⟩ := In_nt (t := stT (stT t)) (c := rfC L ++ []) (I_ei (I_cl 0 8)) (by rw [List.length_append]; omega) (by rw [List.length_append]; omega : (rfC L ++ []).length + (stT (stT t)).2.2.length ≤ 400) hq14.2.2.2 hq14.2.2.1.hd.2.2.2
          rw [List.length_append] at hs3
          rw [show eiG (clF 0 8) (stS (stT t, rfC L ++ [])) = ((eiG (clF 0 8) (stT (stT t), [])).1, (rfC L ++ []) ++ (eiG (clF 0 8) (stT (stT t), [])).2) from e7] at hq14
          have hT14 := hS13.step hq14.2.2.1
          have hlv3 : ((eiG (clF 0 8) (stT (stT t), [])).1).1 = 0 := hq14.1
          have hl7 : 1 ≤ ((eiG (clF 0 8) (stT (stT t), [])).1).2.2.length := hq14.2.2.1.hd.2.2.2
          refine xx_aload_n (q := 101) rfl rfl rfl ?_
          refine xx_getR (q := 104) rfl rfl rfl xS_479 (Nat.le_of_ble_eq_true rfl) rfl (hR.1 479 34 rfl) ?_
          refine xx_iload_n (q := 105) rfl rfl rfl ?_
          refine xx_aload_n (q := 106) rfl rfl rfl ?_
          refine xx_gez (q := 109) rfl rfl rfl xS_479 (Nat.le_of_ble_eq_true rfl) rfl hT14.1.2.2.2.1 ?_
          refine xr_isz (RlS bs 0 D0 (xui (xui (xui (xui LE 500 (32 + L.length) (wmp (kdT t))) 501 (32 + L.length) ((rfC L).length : Int)) 502 (32 + L.length) ((rfC L ++ []).length : Int)) 503 (32 + L.length) (((rfC L ++ []) ++ (eiG (clF 0 8) (stT (stT t), [])).2).length : Int)) ((eiG (clF 0 8) (stT (stT t), [])).1, (rfC L ++ []) ++ (eiG (clF 0 8) (stT (stT t), [])).2) 0 (some [])) (q := 110) rfl rfl xS_503 (by omega) (by omega) (by rw [show (32 + (L.length : Int)).toNat = 32 + L.length by omega]; exact hT14.wr 503 (32 + L.length) _ (by omega) (by omega) (by omega)) (fun D16 hS16 => ?_)
          refine xx_aload_n (q := 111) rfl rfl rfl ?_
          refine xx_bipush (q := 113) rfl rfl (by decide) ?_
          refine xx_callV (q := 116) (As := [_]) (rest := []) rfl rfl rfl (Or.inl rfl) rfl rfl (Nat.le_of_ble_eq_true rfl) xS_479 (XCm (r_isSign (n := n) hR hS16.1 59 (by omega)) rfl) rfl ?_
          refine xx_ifb_ne (q := 125) (q2 := 119) rfl rfl rfl (fun h116 => ?_) (fun h116 => ?_)
          · have hk4 : kdT ((eiG (clF 0 8) (stT (stT t), [])).1) = 59 := h116
            have hne4 : kdS ((eiG (clF 0 8) (stT (stT t), [])).1, (rfC L ++ []) ++ (eiG (clF 0 8) (stT (stT t), [])).2) ≠ 258 := by show kdT ((eiG (clF 0 8) (stT (stT t), [])).1) ≠ 258; omega
            have hl8 : 2 ≤ ((eiG (clF 0 8) (stT (stT t), [])).1).2.2.length := hS16.1.l2 hne4
            have hst4 : (stT ((eiG (clF 0 8) (stT (stT t), [])).1)).2.2.length + 1 = ((eiG (clF 0 8) (stT (stT t), [])).1).2.2.length := st_l2 (s := ((eiG (clF 0 8) (stT (stT t), [])).1, (rfC L ++ []) ++ (eiG (clF 0 8) (stT (stT t), [])).2)) hl8
            refine xx_aload_n (q := 126) rfl rfl rfl ?_
            obtain ⟨D17, hx17, hO17, hs17⟩ := r_nexT (n := n) hR hS16.2.1 hl4 hby hS16.2.2.1 hS16.1 (hne4)
            have hS17 := hS16.step hO17
            refine xx_callV (q := 129) (As := []) (rest := []) rfl rfl rfl (Or.inl rfl) rfl rfl (Nat.le_of_ble_eq_true rfl) xS_479 (XCm hx17 rfl) rfl ?_
            refine xx_iload_n (q := 130) rfl rfl rfl ?_
            refine xx_iconst (q := 131) rfl rfl (by decide) ?_
            refine xx_iaddR (q := 132) rfl rfl (by omega) (by omega) ?_
            refine xx_istore_n (q := 133) (loc2 := [_, _, _]) rfl rfl (Nat.le_of_ble_eq_true rfl) rfl ?_
            refine xx_goto (q := 2) rfl rfl ?_
            have hrf : rfC (L ++ [((wmp (kdT t), [], some ((eiG (clF 0 8) (stT (stT t), [])).2)) : LN1)]) = (rfC L ++ []) ++ (eiG (clF 0 8) (stT (stT t), [])).2 := by
              rw [rfC_app]
              show rfC L ++ ([] ++ (eiG (clF 0 8) (stT (stT t), [])).2) = _
              rw [List.append_assoc]
            have hcl : clC 0 (L ++ [((wmp (kdT t), [], some ((eiG (clF 0 8) (stT (stT t), [])).2)) : LN1)]) = clC 0 L ++ ([if kdT t = 300 then 1 else 0] ++ ((eiG (clF 0 8) (stT (stT t), [])).2 ++ [-31])) := by
              rw [clC_app]
              have hw0 : (if wmp (kdT t) = 0 then (1 : Int) else 0) = if kdT t = 300 then 1 else 0 := by
                rcases hb with q | q
                · rw [show kdT t = 300 from q]; decide +kernel
                · rw [show kdT t = 301 from q]; decide +kernel
              show clC 0 L ++ ([if wmp (kdT t) = 0 then (1 : Int) else 0] ++ ((eiG (clF 0 8) (stT (stT t), [])).2 ++ [-31])) = _
              rw [hw0]
            have hli : liF 0 (L.length : Int) (t, clC 0 L) = (stT ((eiG (clF 0 8) (stT (stT t), [])).1), clC 0 (L ++ [((wmp (kdT t), [], some ((eiG (clF 0 8) (stT (stT t), [])).2)) : LN1)])) := by rw [hcl]; exact li_ow hb hr hV (by show (clC 0 L).length + 1 + _ < 400; omega) hk2 hk4
            obtain ⟨k, rfl⟩ : ∃ k2, k = k2 + 1 := ⟨k - 1, by omega⟩
            rw [lw_s (s := (t, clC 0 L)) hne, hli, show (L.length : Int) + 1 = ((L ++ [((wmp (kdT t), [], some ((eiG (clF 0 8) (stT (stT t), [])).2)) : LN1)]).length : Int) by rw [List.length_append]; rfl]
            rw [show stS ((eiG (clF 0 8) (stT (stT t), [])).1, (rfC L ++ []) ++ (eiG (clF 0 8) (stT (stT t), [])).2) = (stT ((eiG (clF 0 8) (stT (stT t), [])).1), rfC (L ++ [((wmp (kdT t), [], some ((eiG (clF 0 8) (stT (stT t), [])).2)) : LN1)])) by rw [hrf]; rfl] at hS17
            refine ih k (by omega) (L ++ [((wmp (kdT t), [], some ((eiG (clF 0 8) (stT (stT t), [])).2)) : LN1)]) (stT ((eiG (clF 0 8) (stT (stT t), [])).1)) _ _ _ _ (by rw [List.length_append]; show L.length + 1 + _ = _; omega) hS17 ?_ ?_ ?_ ?_
            · intro l hl
              rcases List.mem_append.mp hl with q | q
              · exact hok l q
              · rw [List.mem_singleton.mp q]
                exact ⟨⟨rfl, by rcases hb with q | q; exact Or.inl (by show wmp (kdT t) = 0; rw [show kdT t = 300 from q]; decide +kernel); exact Or.inr (by show wmp (kdT t) = 1; rw [show kdT t = 301 from q]; decide +kernel)⟩, Or.inr ⟨stT (stT t), hwf2, hlv3, by omega, rfl⟩⟩
            · refine LnD_app hLn (fun x k q1 q2 q3 => ?_) ?_ ?_ ?_ ?_
              · exact (xui_j q3).trans ((xui_j q3).trans ((xui_j q3).trans (xui_j q3)))
              · exact (xui_a (by omega)).trans ((xui_a (by omega)).trans ((xui_a (by omega)).trans xui_s))
              · exact (xui_a (by omega)).trans ((xui_a (by omega)).trans xui_s)
              · refine ((xui_a (by omega)).trans xui_s).trans ?_; show ((rfC L ++ []).length : Int) = _; rw [List.length_append]; rfl
              · rw [xui_s]; show (((rfC L ++ []) ++ (eiG (clF 0 8) (stT (stT t), [])).2).length : Int) = (((rfC L).length : Int) + (([] ++ (eiG (clF 0 8) (stT (stT t), [])).2).length : Int)); rw [List.length_append, List.length_append, List.length_append]; omega
            · rw [hrf]; rw [List.length_append, List.length_append]; omega
            · rw [hcl]; rw [List.length_append]; simp only [List.length_append, List.length_cons, List.length_nil]; omega
          · refine xx_aload_n (q := 120) rfl rfl rfl ?_
            refine xx_iconst (q := 121) rfl rfl (by decide) ?_
            obtain ⟨D18, hx18, hF18⟩ := r_errs (n := n) hR hS16.1 1
            refine xx_callV (q := 124) (As := [_]) (rest := []) rfl rfl rfl (Or.inl rfl) rfl rfl (Nat.le_of_ble_eq_true rfl) xS_479 (XCm hx18 rfl) rfl ?_
            have el : (liF 0 (L.length : Int) (t, clC 0 L)).1 = wrT 1 ((eiG (clF 0 8) (stT (stT t), [])).1) := li_dm hb hr hV (by rw [List.length_append]; show (clC 0 L).length + 1 ≤ 400; omega) hk2 h116
            exact xx_iret rfl trivial (RlQ_d ((lw_sd (s := (t, clC 0 L)) hne (by rw [el]; exact wrT_0 hlv3 (by decide))).trans el) (wrT_0 hlv3 (by decide)) (hS16.fl hF18).1 (hS16.fl hF18).2.1 (hS16.fl hF18).2.2)
        · refine xx_iconst (q := 99) rfl rfl (by decide) ?_
          replace hq14 := hq14.resolve_left (fun q => by have := q.2.1; omega)
          have e9 : (eiG (clF 0 8) (stS (stT t, rfC L ++ []))).1 = (eiG (clF 0 8) (stT (stT t), [])).1 := (I_ei (I_cl 0 8)).t1 _ _ (by rw [List.length_append]; omega)
          rw [e9] at hq14
          have el : (liF 0 (L.length : Int) (t, clC 0 L)).1 = (eiG (clF 0 8) (stT (stT t), [])).1 := li_dw hb hr hV (by rw [List.length_append]; show (clC 0 L).length + 1 ≤ 400; omega) hk2 hq14.1
          exact xx_iret rfl trivial (RlQ_d ((lw_sd (s := (t, clC 0 L)) hne (by rw [el]; exact hq14.1)).trans el) hq14.1 (hS13.fl hq14.2.2).1 (hS13.fl hq14.2.2).2.1 (hS13.fl hq14.2.2).2.2)
    · have hne3 : kdS (t, clC 0 L) ≠ 258 := by intro q; have hb : bgP 0 (kdT t) := h6; rw [show kdT t = 258 from q] at hb; revert hb; decide
      have hL16 : (L.length : Int) = 16 := by omega
      refine xx_aload_n (q := 16) rfl rfl rfl ?_
      refine xx_iconst (q := 17) rfl rfl (by decide) ?_
      obtain ⟨D19, hx19, hF19⟩ := r_errs (n := n) hR hS.1 3
      refine xx_callV (q := 20) (As := [_]) (rest := []) rfl rfl rfl (Or.inl rfl) rfl rfl (Nat.le_of_ble_eq_true rfl) xS_479 (XCm hx19 rfl) rfl ?_
      exact xx_iret rfl trivial (RlQ_d ((lw_sd hne3 (by rw [hL16, li_16 h6]; exact wrT_0 hS.1.2.2.1 (by decide))).trans (by rw [hL16, li_16 h6])) (wrT_0 (k := 3) (t := t) hS.1.2.2.1 (by decide)) (hS.fl hF19).1 (hS.fl hF19).2.1 (hS.fl hF19).2.2)
set_option maxHeartbeats 4000000 in
theorem r_rlH_L {n : Nat} {R : Nat → Nat → Option Nat} {D0 : KK} {bs : List Int} (hR : RF R) (hl4 : bs.length ≤ 400) (hby : ∀ j, 0 ≤ bs.getD j 0 ∧ bs.getD j 0 ≤ 255) : ∀ (k : Nat) (L : List LN1) (t : Tt) (LE D : KK) (P : Option (List Int)) (x : Option XV), L.length + k = 16 → RlS bs 1 D0 LE (t, rfC L) 0 P D → (∀ l ∈ L, ok1 1 l) → LnD 32 L LE → (rfC L).length + t.2.2.length ≤ 401 → (clC 1 L).length + t.2.2.length ≤ 401 → XX (XC 8) 213 (RlQ 1 D0 (lwL 1 (k + 1) (L.length : Int) (t, clC 1 L)) n R) 2 [some (.inr (some 479)), some (.inl (L.length : Int)), x] [] (xS n, R, D) := by
  intro k
  induction k using Nat.strongRecOn with
  | ind k ih =>
  intro L t LE D P x hLk hS hok hLn hz3 hz4
  refine xx_aload_n (q := 3) rfl rfl rfl ?_
  refine xx_callV (q := 6) (As := []) (rest := []) rfl rfl rfl (Or.inl rfl) rfl rfl (Nat.le_of_ble_eq_true rfl) xS_479 (XCm (r_isLineH (n := n) hR hS.1 hS.2.2.2.1) rfl) rfl ?_
  refine xx_ifb_eq (q := 136) (q2 := 9) rfl rfl rfl (fun h6 => ?_) (fun h6 => ?_)
  · obtain ⟨hK, hw, hkd, hl1⟩ := hS.1.hd
    have hk0 := tok_0 hK hw
    refine xx_aload_n (q := 137) rfl rfl rfl ?_
    refine xx_gez (q := 140) rfl rfl rfl xS_479 (Nat.le_of_ble_eq_true rfl) rfl rfl ?_
    refine xx_if_ne (q := 147) (q2 := 143) rfl rfl rfl (fun h140 => ?_) (fun h140 => ?_)
    · have hne3 : kdS (t, clC 1 L) ≠ 258 := fun q => h140 (hk0.mpr (hkd.symm.trans q))
      refine xx_aload_n (q := 148) rfl rfl rfl ?_
      refine xx_iconst (q := 149) rfl rfl (by decide) ?_
      obtain ⟨D1, hx1, hF1⟩ := r_errs (n := n) hR hS.1 1
      refine xx_callV (q := 152) (As := [_]) (rest := []) rfl rfl rfl (Or.inl rfl) rfl rfl (Nat.le_of_ble_eq_true rfl) xS_479 (XCm hx1 rfl) rfl ?_
      exact xx_iret rfl trivial (RlQ_d ((lw_sd hne3 (by rw [li_n h6]; exact wrT_0 hS.1.2.2.1 (by decide))).trans (li_n h6)) (wrT_0 (k := 1) (t := t) hS.1.2.2.1 (by decide)) (hS.fl hF1).1 (hS.fl hF1).2.1 (hS.fl hF1).2.2)
    · replace hk0 : kdS (t, clC 1 L) = 258 := hkd.trans (hk0.mp h140)
      refine xx_iload_n (q := 144) rfl rfl rfl ?_
      refine xx_goto (q := 152) rfl rfl ?_
      exact xx_iret rfl trivial (hS.end hok hLn (by have := hS.1.hd.2.2.2; show (rfC L).length ≤ 400; have : 1 ≤ t.2.2.length := this; omega) (by omega) (if_pos hk0))
  · refine xx_iload_n (q := 10) rfl rfl rfl ?_
    refine xx_bipush (q := 12) rfl rfl (by decide) ?_
    refine xx_icmp_ne (q := 21) (q2 := 15) rfl rfl rfl (fun h12 => ?_) (fun h12 => ?_)
    · have hb : bgP 1 (kdT t) := h6
      have hne : kdS (t, rfC L) ≠ 258 := by intro q; rw [show kdT t = 258 from q] at hb; revert hb; decide
      obtain ⟨hK, hw, hkd, hl1⟩ := hS.1.hd
      have hk3 : kdT t = 300 ∨ kdT t = 301 ∨ kdT t = 302 := by
        exact Or.inr (Or.inr hb)
      have hkt : kdT t = (hdT t).1 := hkd
      have hvw : D 479 28 = wmp (kdT t) := by rw [hkt]; exact (hK.2.2.2.2.2 (by show 300 ≤ (hdT t).1; omega)).2
      have hl2 : 2 ≤ t.2.2.length := hS.1.l2 hne
      have hst : (stT t).2.2.length + 1 = t.2.2.length := st_l2 (s := (t, rfC L)) hl2
      have hz1 : szS (stS (t, rfC L)) = (rfC L).length + (stT t).2.2.length := rfl
      have hlc : (clC 1 L).length ≤ 399 := by omega
      have hlr : (rfC L).length ≤ 399 := by omega
      have hr : (L.length : Int) < 16 := by omega
      refine xx_bipush (q := 23) rfl rfl (by decide) ?_
      refine xx_iload_n (q := 24) rfl rfl rfl ?_
      refine xx_iaddR (q := 25) rfl rfl (by omega) (by omega) ?_
      refine xx_istore_n (q := 26) (loc2 := [_, _, _]) rfl rfl (Nat.le_of_ble_eq_true rfl) rfl ?_
      refine xx_aload_n (q := 27) rfl rfl rfl ?_
      refine xx_getR (q := 30) rfl rfl rfl xS_479 (Nat.le_of_ble_eq_true rfl) rfl (hR.1 479 31 rfl) ?_
      refine xx_iload_n (q := 31) rfl rfl rfl ?_
      refine xx_aload_n (q := 32) rfl rfl rfl ?_
      refine xx_gez (q := 35) rfl rfl rfl xS_479 (Nat.le_of_ble_eq_true rfl) rfl hvw ?_
      refine xr_isz (RlS bs 1 D0 (xui LE 500 (32 + L.length) (wmp (kdT t))) (t, rfC L) 0 P) (q := 36) rfl rfl xS_500 (by omega) (by omega) (by rw [show (32 + (L.length : Int)).toNat = 32 + L.length by omega]; exact hS.wr 500 (32 + L.length) _ (by omega) (by omega) (by omega)) (fun D3 hS3 => ?_)
      refine xx_aload_n (q := 37) rfl rfl rfl ?_
      obtain ⟨D4, hx4, hO4, hs4⟩ := r_nexT (n := n) hR hS3.2.1 hl4 hby hS3.2.2.1 hS3.1 (hne)
      have hS4 := hS3.step hO4
      refine xx_callV (q := 40) (As := []) (rest := []) rfl rfl rfl (Or.inl rfl) rfl rfl (Nat.le_of_ble_eq_true rfl) xS_479 (XCm hx4 rfl) rfl ?_
      refine xx_aload_n (q := 41) rfl rfl rfl ?_
      refine xx_getR (q := 44) rfl rfl rfl xS_479 (Nat.le_of_ble_eq_true rfl) rfl (hR.1 479 32 rfl) ?_
      refine xx_iload_n (q := 45) rfl rfl rfl ?_
      refine xx_aload_n (q := 46) rfl rfl rfl ?_
      refine xx_gez (q := 49) rfl rfl rfl xS_479 (Nat.le_of_ble_eq_true rfl) rfl hS4.1.2.2.2.1 ?_
      refine xr_isz (RlS bs 1 D0 (xui (xui LE 500 (32 + L.length) (wmp (kdT t))) 501 (32 + L.length) ((rfC L).length : Int)) (stS (t, rfC L)) 0 P) (q := 50) rfl rfl xS_501 (by omega) (by omega) (by rw [show (32 + (L.length : Int)).toNat = 32 + L.length by omega]; exact hS4.wr 501 (32 + L.length) _ (by omega) (by omega) (by omega)) (fun D6 hS6 => ?_)
      refine xx_aload_n (q := 51) rfl rfl rfl ?_
      refine xx_gez (q := 54) rfl rfl rfl xS_479 (Nat.le_of_ble_eq_true rfl) rfl hS6.2.2.2.1 ?_
      refine xx_iconst (q := 55) rfl rfl (by decide) ?_
      refine xx_icmp_ne (q := 68) (q2 := 58) rfl rfl rfl (fun h55 => (by exfalso; omega)) (fun _ => ?_)
      refine xx_aload_n (q := 59) rfl rfl rfl ?_
      obtain ⟨z7, D7, hx7, hq7⟩ := r_sumH (n := n) hR hS6.2.1 hl4 hby hS6.2.2.1 hS6.2.2.2.1 (szS (stS (t, rfC L))) (by omega) hS6.1 (Nat.le_refl _)
      refine xx_callV (q := 62) (As := []) (rest := []) rfl rfl rfl (Or.inl rfl) rfl rfl (Nat.le_of_ble_eq_true rfl) xS_479 (XCm hx7 rfl) rfl ?_
      refine xx_iconst (q := 63) rfl rfl (by decide) ?_
      refine xx_icmp_ne (q := 68) (q2 := 66) rfl rfl rfl (fun h63 => ?_) (fun h63 => ?_)
      · have hwf1 : wfL (stT t).2.2 := hS6.1.2.1
        replace hq7 := hq7.resolve_right (fun q => h63 q.2.1)
        obtain ⟨e5, hs2⟩ := In_nt (t := stT t) (c := rfC L) (I_sm 1) hlr (by omega : (rfC L).length + (stT t).2.2.length ≤ 400) hq7.2.2.2 hq7.2.2.1.hd.2.2.2
        rw [show smS 1 (stS (t, rfC L)) = ((smS 1 (stT t, [])).1, rfC L ++ (smS 1 (stT t, [])).2) from e5] at hq7
        have hT7 := hS6.step hq7.2.2.1
        have hlv2 : ((smS 1 (stT t, [])).1).1 = 0 := hq7.1
        have hl5 : 1 ≤ ((smS 1 (stT t, [])).1).2.2.length := hq7.2.2.1.hd.2.2.2
        have hV : vaF 1 (t, clC 1 L) = ((smS 1 (stT t, [])).1, clC 1 L ++ (smS 1 (stT t, [])).2) := va_1.trans ((I_sm 1).fit (stT t) (clC 1 L) (by omega))
        refine xx_aload_n (q := 69) rfl rfl rfl ?_
        refine xx_getR (q := 72) rfl rfl rfl xS_479 (Nat.le_of_ble_eq_true rfl) rfl (hR.1 479 33 rfl) ?_
        refine xx_iload_n (q := 73) rfl rfl rfl ?_
        refine xx_aload_n (q := 74) rfl rfl rfl ?_
        refine xx_gez (q := 77) rfl rfl rfl xS_479 (Nat.le_of_ble_eq_true rfl) rfl hT7.1.2.2.2.1 ?_
        refine xr_isz (RlS bs 1 D0 (xui (xui (xui LE 500 (32 + L.length) (wmp (kdT t))) 501 (32 + L.length) ((rfC L).length : Int)) 502 (32 + L.length) ((rfC L ++ (smS 1 (stT t, [])).2).length : Int)) ((smS 1 (stT t, [])).1, rfC L ++ (smS 1 (stT t, [])).2) 0 P) (q := 78) rfl rfl xS_502 (by omega) (by omega) (by rw [show (32 + (L.length : Int)).toNat = 32 + L.length by omega]; exact hT7.wr 502 (32 + L.length) _ (by omega) (by omega) (by omega)) (fun D9 hS9 => ?_)
        refine xx_aload_n (q := 79) rfl rfl rfl ?_
        refine xx_iconst (q := 80) rfl rfl (by decide) ?_
        refine xx_callV (q := 83) (As := [_]) (rest := []) rfl rfl rfl (Or.inl rfl) rfl rfl (Nat.le_of_ble_eq_true rfl) xS_479 (XCm (r_isWord (n := n) hR hS9.1 303 2 (by decide) (by decide) (by decide +kernel)) rfl) rfl ?_
        refine xx_ifb_eq (q := 100) (q2 := 86) rfl rfl rfl (fun h83 => ?_) (fun h83 => ?_)
        · skip
          refine xx_aload_n (q := 101) rfl rfl rfl ?_
          refine xx_getR (q := 104) rfl rfl rfl xS_479 (Nat.le_of_ble_eq_true rfl) rfl (hR.1 479 34 rfl) ?_
          refine xx_iload_n (q := 105) rfl rfl rfl ?_
          refine xx_aload_n (q := 106) rfl rfl rfl ?_
          refine xx_gez (q := 109) rfl rfl rfl xS_479 (Nat.le_of_ble_eq_true rfl) rfl hS9.1.2.2.2.1 ?_
          refine xr_isz (RlS bs 1 D0 (xui (xui (xui (xui LE 500 (32 + L.length) (wmp (kdT t))) 501 (32 + L.length) ((rfC L).length : Int)) 502 (32 + L.length) ((rfC L ++ (smS 1 (stT t, [])).2).length : Int)) 503 (32 + L.length) ((rfC L ++ (smS 1 (stT t, [])).2).length : Int)) ((smS 1 (stT t, [])).1, rfC L ++ (smS 1 (stT t, [])).2) 0 P) (q := 110) rfl rfl xS_503 (by omega) (by omega) (by rw [show (32 + (L.length : Int)).toNat = 32 + L.length by omega]; exact hS9.wr 503 (32 + L.length) _ (by omega) (by omega) (by omega)) (fun D11 hS11 => ?_)
          refine xx_aload_n (q := 111) rfl rfl rfl ?_
          refine xx_bipush (q := 113) rfl rfl (by decide) ?_
          refine xx_callV (q := 116) (As := [_]) (rest := []) rfl rfl rfl (Or.inl rfl) rfl rfl (Nat.le_of_ble_eq_true rfl) xS_479 (XCm (r_isSign (n := n) hR hS11.1 59 (by omega)) rfl) rfl ?_
          refine xx_ifb_ne (q := 125) (q2 := 119) rfl rfl rfl (fun h116 => ?_) (fun h116 => ?_)
          · have hk4 : kdT ((smS 1 (stT t, [])).1) = 59 := h116
            have hne4 : kdS ((smS 1 (stT t, [])).1, rfC L ++ (smS 1 (stT t, [])).2) ≠ 258 := by show kdT ((smS 1 (stT t, [])).1) ≠ 258; omega
            have hl8 : 2 ≤ ((smS 1 (stT t, [])).1).2.2.length := hS11.1.l2 hne4
            have hst4 : (stT ((smS 1 (stT t, [])).1)).2.2.length + 1 = ((smS 1 (stT t, [])).1).2.2.length := st_l2 (s := ((smS 1 (stT t, [])).1, rfC L ++ (smS 1 (stT t, [])).2)) hl8
            refine xx_aload_n (q := 126) rfl rfl rfl ?_
            obtain ⟨D12, hx12, hO12, hs12⟩ := r_nexT (n := n) hR hS11.2.1 hl4 hby hS11.2.2.1 hS11.1 (hne4)
            have hS12 := hS11.step hO12
            refine xx_callV (q := 129) (As := []) (rest := []) rfl rfl rfl (Or.inl rfl) rfl rfl (Nat.le_of_ble_eq_true rfl) xS_479 (XCm hx12 rfl) rfl ?_
            refine xx_iload_n (q := 130) rfl rfl rfl ?_
            refine xx_iconst (q := 131) rfl rfl (by decide) ?_
            refine xx_iaddR (q := 132) rfl rfl (by omega) (by omega) ?_
            refine xx_istore_n (q := 133) (loc2 := [_, _, _]) rfl rfl (Nat.le_of_ble_eq_true rfl) rfl ?_
            refine xx_goto (q := 2) rfl rfl ?_
            have hrf : rfC (L ++ [((wmp (kdT t), (smS 1 (stT t, [])).2, none) : LN1)]) = rfC L ++ (smS 1 (stT t, [])).2 := by
              rw [rfC_app]
              show rfC L ++ ((smS 1 (stT t, [])).2 ++ []) = _
              rw [List.append_nil]
            have hcl : clC 1 (L ++ [((wmp (kdT t), (smS 1 (stT t, [])).2, none) : LN1)]) = clC 1 L ++ ((smS 1 (stT t, [])).2 ++ [-30]) := by
              rw [clC_app]
              rfl
            have hli : liF 1 (L.length : Int) (t, clC 1 L) = (stT ((smS 1 (stT t, [])).1), clC 1 (L ++ [((wmp (kdT t), (smS 1 (stT t, [])).2, none) : LN1)])) := by rw [hcl]; exact li_on hb hr hV (by omega) h83 hk4
            obtain ⟨k, rfl⟩ : ∃ k2, k = k2 + 1 := ⟨k - 1, by omega⟩
            rw [lw_s (s := (t, clC 1 L)) hne, hli, show (L.length : Int) + 1 = ((L ++ [((wmp (kdT t), (smS 1 (stT t, [])).2, none) : LN1)]).length : Int) by rw [List.length_append]; rfl]
            rw [show stS ((smS 1 (stT t, [])).1, rfC L ++ (smS 1 (stT t, [])).2) = (stT ((smS 1 (stT t, [])).1), rfC (L ++ [((wmp (kdT t), (smS 1 (stT t, [])).2, none) : LN1)])) by rw [hrf]; rfl] at hS12
            refine ih k (by omega) (L ++ [((wmp (kdT t), (smS 1 (stT t, [])).2, none) : LN1)]) (stT ((smS 1 (stT t, [])).1)) _ _ _ _ (by rw [List.length_append]; show L.length + 1 + _ = _; omega) hS12 ?_ ?_ ?_ ?_
            · intro l hl
              rcases List.mem_append.mp hl with q | q
              · exact hok l q
              · rw [List.mem_singleton.mp q]
                exact ⟨⟨stT t, hwf1, hlv2, by omega, rfl⟩, Or.inl rfl⟩
            · refine LnD_app hLn (fun x k q1 q2 q3 => ?_) ?_ ?_ ?_ ?_
              · exact (xui_j q3).trans ((xui_j q3).trans ((xui_j q3).trans (xui_j q3)))
              · exact (xui_a (by omega)).trans ((xui_a (by omega)).trans ((xui_a (by omega)).trans xui_s))
              · exact (xui_a (by omega)).trans ((xui_a (by omega)).trans xui_s)
              · refine ((xui_a (by omega)).trans xui_s).trans ?_; show ((rfC L ++ (smS 1 (stT t, [])).2).length : Int) = _; rw [List.length_append]; rfl
              · rw [xui_s]; show ((rfC L ++ (smS 1 (stT t, [])).2).length : Int) = (((rfC L).length : Int) + (((smS 1 (stT t, [])).2 ++ []).length : Int)); rw [List.length_append, List.append_nil]; omega
            · rw [hrf]; rw [List.length_append]; omega
            · rw [hcl]; rw [List.length_append]; simp only [List.length_append, List.length_cons, List.length_nil]; omega
          · refine xx_aload_n (q := 120) rfl rfl rfl ?_
            refine xx_iconst (q := 121) rfl rfl (by decide) ?_
            obtain ⟨D13, hx13, hF13⟩ := r_errs (n := n) hR hS11.1 1
            refine xx_callV (q := 124) (As := [_]) (rest := []) rfl rfl rfl (Or.inl rfl) rfl rfl (Nat.le_of_ble_eq_true rfl) xS_479 (XCm hx13 rfl) rfl ?_
            have el : (liF 1 (L.length : Int) (t, clC 1 L)).1 = wrT 1 ((smS 1 (stT t, [])).1) := li_dn hb hr (by rw [hV]) h83 h116
            exact xx_iret rfl trivial (RlQ_d ((lw_sd (s := (t, clC 1 L)) hne (by rw [el]; exact wrT_0 hlv2 (by decide))).trans el) (wrT_0 hlv2 (by decide)) (hS11.fl hF13).1 (hS11.fl hF13).2.1 (hS11.fl hF13).2.2)
        · have hk2 : kdT ((smS 1 (stT t, [])).1) = 303 := h83
          have hne2 : kdS ((smS 1 (stT t, [])).1, rfC L ++ (smS 1 (stT t, [])).2) ≠ 258 := by show kdT ((smS 1 (stT t, [])).1) ≠ 258; omega
          have hl6 : 2 ≤ ((smS 1 (stT t, [])).1).2.2.length := hS9.1.l2 hne2
          have hst2 : (stT ((smS 1 (stT t, [])).1)).2.2.length + 1 = ((smS 1 (stT t, [])).1).2.2.length := st_l2 (s := ((smS 1 (stT t, [])).1, rfC L ++ (smS 1 (stT t, [])).2)) hl6
          have hz2 : szS (stS ((smS 1 (stT t, [])).1, rfC L ++ (smS 1 (stT t, [])).2)) = (rfC L ++ (smS 1 (stT t, [])).2).length + (stT ((smS 1 (stT t, [])).1)).2.2.length := rfl
          rw [List.length_append] at hz2
          refine xx_aload_n (q := 87) rfl rfl rfl ?_
          obtain ⟨D14, hx14, hO14, hs14⟩ := r_nexT (n := n) hR hS9.2.1 hl4 hby hS9.2.2.1 hS9.1 (hne2)
          have hS14 := hS9.step hO14
          refine xx_callV (q := 90) (As := []) (rest := []) rfl rfl rfl (Or.inl rfl) rfl rfl (Nat.le_of_ble_eq_true rfl) xS_479 (XCm hx14 rfl) rfl ?_
          refine xx_aload_n (q := 91) rfl rfl rfl ?_
          obtain ⟨z15, D15, hx15, hq15⟩ := r_anyH (n := n) hR hS14.2.1 hl4 hby hS14.2.2.1 hS14.2.2.2.1 (szS (stS ((smS 1 (stT t, [])).1, rfC L ++ (smS 1 (stT t, [])).2))) (by omega) hS14.1 (Nat.le_refl _)
          refine xx_callV (q := 94) (As := []) (rest := []) rfl rfl rfl (Or.inl rfl) rfl rfl (Nat.le_of_ble_eq_true rfl) xS_479 (XCm hx15 rfl) rfl ?_
          refine xx_iconst (q := 95) rfl rfl (by decide) ?_
          refine xx_icmp_ne (q := 100) (q2 := 98) rfl rfl rfl (fun h95 => ?_) (fun h95 => ?_)
          · have hwf2 : wfL (stT ((smS 1 (stT t, [])).1)).2.2 := hS14.1.2.1
            replace hq15 := hq15.resolve_right (fun q => h95 q.2.1)
            obtain ⟨e7, hs3⟩ := In_nt (t := stT ((smS 1 (stT t, [])).1)) (c := rfC L ++ (smS 1 (stT t, [])).2) (I_ei (I_cl 1 8)) (by rw [List.length_append]; omega) (by rw [List.length_append]; omega : (rfC L ++ (smS 1 (stT t, [])).2).length + (stT ((smS 1 (stT t, [])).1)).2.2.length ≤ 400) hq15.2.2.2 hq15.2.2.1.hd.2.2.2
            rw [List.length_append] at hs3
            rw [show eiG (clF 1 8) (stS ((smS 1 (stT t, [])).1, rfC L ++ (smS 1 (stT t, [])).2)) = ((eiG (clF 1 8) (stT ((smS 1 (stT t, [])).1), [])).1, (rfC L ++ (smS 1 (stT t, [])).2) ++ (eiG (clF 1 8) (stT ((smS 1 (stT t, [])).1), [])).2) from e7] at hq15
            have hT15 := hS14.step hq15.2.2.1
            have hlv3 : ((eiG (clF 1 8) (stT ((smS 1 (stT t, [])).1), [])).1).1 = 0 := hq15.1
            have hl7 : 1 ≤ ((eiG (clF 1 8) (stT ((smS 1 (stT t, [])).1), [])).1).2.2.length := hq15.2.2.1.hd.2.2.2
            refine xx_aload_n (q := 101) rfl rfl rfl ?_
            refine xx_getR (q := 104) rfl rfl rfl xS_479 (Nat.le_of_ble_eq_true rfl) rfl (hR.1 479 34 rfl) ?_
            refine xx_iload_n (q := 105) rfl rfl rfl ?_
            refine xx_aload_n (q := 106) rfl rfl rfl ?_
            refine xx_gez (q := 109) rfl rfl rfl xS_479 (Nat.le_of_ble_eq_true rfl) rfl hT15.1.2.2.2.1 ?_
            refine xr_isz (RlS bs 1 D0 (xui (xui (xui (xui LE 500 (32 + L.length) (wmp (kdT t))) 501 (32 + L.length) ((rfC L).length : Int)) 502 (32 + L.length) ((rfC L ++ (smS 1 (stT t, [])).2).length : Int)) 503 (32 + L.length) (((rfC L ++ (smS 1 (stT t, [])).2) ++ (eiG (clF 1 8) (stT ((smS 1 (stT t, [])).1), [])).2).length : Int)) ((eiG (clF 1 8) (stT ((smS 1 (stT t, [])).1), [])).1, (rfC L ++ (smS 1 (stT t, [])).2) ++ (eiG (clF 1 8) (stT ((smS 1 (stT t, [])).1), [])).2) 0 (some [])) (q := 110) rfl rfl xS_503 (by omega) (by omega) (by rw [show (32 + (L.length : Int)).toNat = 32 + L.length by omega]; exact hT15.wr 503 (32 + L.length) _ (by omega) (by omega) (by omega)) (fun D17 hS17 => ?_)
            refine xx_aload_n (q := 111) rfl rfl rfl ?_
            refine xx_bipush (q := 113) rfl rfl (by decide) ?_
            refine xx_callV (q := 116) (As := [_]) (rest := []) rfl rfl rfl (Or.inl rfl) rfl rfl (Nat.le_of_ble_eq_true rfl) xS_479 (XCm (r_isSign (n := n) hR hS17.1 59 (by omega)) rfl) rfl ?_
            refine xx_ifb_ne (q := 125) (q2 := 119) rfl rfl rfl (fun h116 => ?_) (fun h116 => ?_)
            · have hk4 : kdT ((eiG (clF 1 8) (stT ((smS 1 (stT t, [])).1), [])).1) = 59 := h116
              have hne4 : kdS ((eiG (clF 1 8) (stT ((smS 1 (stT t, [])).1), [])).1, (rfC L ++ (smS 1 (stT t, [])).2) ++ (eiG (clF 1 8) (stT ((smS 1 (stT t, [])).1), [])).2) ≠ 258 := by show kdT ((eiG (clF 1 8) (stT ((smS 1 (stT t, [])).1), [])).1) ≠ 258; omega
              have hl8 : 2 ≤ ((eiG (clF 1 8) (stT ((smS 1 (stT t, [])).1), [])).1).2.2.length := hS17.1.l2 hne4
              have hst4 : (stT ((eiG (clF 1 8) (stT ((smS 1 (stT t, [])).1), [])).1)).2.2.length + 1 = ((eiG (clF 1 8) (stT ((smS 1 (stT t, [])).1), [])).1).2.2.length := st_l2 (s := ((eiG (clF 1 8) (stT ((smS 1 (stT t, [])).1), [])).1, (rfC L ++ (smS 1 (stT t, [])).2) ++ (eiG (clF 1 8) (stT ((smS 1 (stT t, [])).1), [])).2)) hl8
              refine xx_aload_n (q := 126) rfl rfl rfl ?_
              obtain ⟨D18, hx18, hO18, hs18⟩ := r_nexT (n := n) hR hS17.2.1 hl4 hby hS17.2.2.1 hS17.1 (hne4)
              have hS18 := hS17.step hO18
              refine xx_callV (q := 129) (As := []) (rest := []) rfl rfl rfl (Or.inl rfl) rfl rfl (Nat.le_of_ble_eq_true rfl) xS_479 (XCm hx18 rfl) rfl ?_
              refine xx_iload_n (q := 130) rfl rfl rfl ?_
              refine xx_iconst (q := 131) rfl rfl (by decide) ?_
              refine xx_iaddR (q := 132) rfl rfl (by omega) (by omega) ?_
              refine xx_istore_n (q := 133) (loc2 := [_, _, _]) rfl rfl (Nat.le_of_ble_eq_true rfl) rfl ?_
              refine xx_goto (q := 2) rfl rfl ?_
              have hrf : rfC (L ++ [((wmp (kdT t), (smS 1 (stT t, [])).2, some ((eiG (clF 1 8) (stT ((smS 1 (stT t, [])).1), [])).2)) : LN1)]) = (rfC L ++ (smS 1 (stT t, [])).2) ++ (eiG (clF 1 8) (stT ((smS 1 (stT t, [])).1), [])).2 := by
                rw [rfC_app]
                show rfC L ++ ((smS 1 (stT t, [])).2 ++ (eiG (clF 1 8) (stT ((smS 1 (stT t, [])).1), [])).2) = _
                rw [List.append_assoc]
              have hcl : clC 1 (L ++ [((wmp (kdT t), (smS 1 (stT t, [])).2, some ((eiG (clF 1 8) (stT ((smS 1 (stT t, [])).1), [])).2)) : LN1)]) = clC 1 L ++ ((smS 1 (stT t, [])).2 ++ ((eiG (clF 1 8) (stT ((smS 1 (stT t, [])).1), [])).2 ++ [-31])) := by
                rw [clC_app]
                rfl
              have hli : liF 1 (L.length : Int) (t, clC 1 L) = (stT ((eiG (clF 1 8) (stT ((smS 1 (stT t, [])).1), [])).1), clC 1 (L ++ [((wmp (kdT t), (smS 1 (stT t, [])).2, some ((eiG (clF 1 8) (stT ((smS 1 (stT t, [])).1), [])).2)) : LN1)])) := by rw [hcl]; exact li_ow hb hr hV (by omega) hk2 hk4
              obtain ⟨k, rfl⟩ : ∃ k2, k = k2 + 1 := ⟨k - 1, by omega⟩
              rw [lw_s (s := (t, clC 1 L)) hne, hli, show (L.length : Int) + 1 = ((L ++ [((wmp (kdT t), (smS 1 (stT t, [])).2, some ((eiG (clF 1 8) (stT ((smS 1 (stT t, [])).1), [])).2)) : LN1)]).length : Int) by rw [List.length_append]; rfl]
              rw [show stS ((eiG (clF 1 8) (stT ((smS 1 (stT t, [])).1), [])).1, (rfC L ++ (smS 1 (stT t, [])).2) ++ (eiG (clF 1 8) (stT ((smS 1 (stT t, [])).1), [])).2) = (stT ((eiG (clF 1 8) (stT ((smS 1 (stT t, [])).1), [])).1), rfC (L ++ [((wmp (kdT t), (smS 1 (stT t, [])).2, some ((eiG (clF 1 8) (stT ((smS 1 (stT t, [])).1), [])).2)) : LN1)])) by rw [hrf]; rfl] at hS18
              refine ih k (by omega) (L ++ [((wmp (kdT t), (smS 1 (stT t, [])).2, some ((eiG (clF 1 8) (stT ((smS 1 (stT t, [])).1), [])).2)) : LN1)]) (stT ((eiG (clF 1 8) (stT ((smS 1 (stT t, [])).1), [])).1)) _ _ _ _ (by rw [List.length_append]; show L.length + 1 + _ = _; omega) hS18 ?_ ?_ ?_ ?_
              · intro l hl
                rcases List.mem_append.mp hl with q | q
                · exact hok l q
                · rw [List.mem_singleton.mp q]
                  exact ⟨⟨stT t, hwf1, hlv2, by omega, rfl⟩, Or.inr ⟨stT ((smS 1 (stT t, [])).1), hwf2, hlv3, by omega, rfl⟩⟩
              · refine LnD_app hLn (fun x k q1 q2 q3 => ?_) ?_ ?_ ?_ ?_
                · exact (xui_j q3).trans ((xui_j q3).trans ((xui_j q3).trans (xui_j q3)))
                · exact (xui_a (by omega)).trans ((xui_a (by omega)).trans ((xui_a (by omega)).trans xui_s))
                · exact (xui_a (by omega)).trans ((xui_a (by omega)).trans xui_s)
                · refine ((xui_a (by omega)).trans xui_s).trans ?_; show ((rfC L ++ (smS 1 (stT t, [])).2).length : Int) = _; rw [List.length_append]; rfl
                · rw [xui_s]; show (((rfC L ++ (smS 1 (stT t, [])).2) ++ (eiG (clF 1 8) (stT ((smS 1 (stT t, [])).1), [])).2).length : Int) = (((rfC L).length : Int) + (((smS 1 (stT t, [])).2 ++ (eiG (clF 1 8) (stT ((smS 1 (stT t, [])).1), [])).2).length : Int)); rw [List.length_append, List.length_append, List.length_append]; omega
              · rw [hrf]; rw [List.length_append, List.length_append]; omega
              · rw [hcl]; rw [List.length_append]; simp only [List.length_append, List.length_cons, List.length_nil]; omega
            · refine xx_aload_n (q := 120) rfl rfl rfl ?_
              refine xx_iconst (q := 121) rfl rfl (by decide) ?_
              obtain ⟨D19, hx19, hF19⟩ := r_errs (n := n) hR hS17.1 1
              refine xx_callV (q := 124) (As := [_]) (rest := []) rfl rfl rfl (Or.inl rfl) rfl rfl (Nat.le_of_ble_eq_true rfl) xS_479 (XCm hx19 rfl) rfl ?_
              have el : (liF 1 (L.length : Int) (t, clC 1 L)).1 = wrT 1 ((eiG (clF 1 8) (stT ((smS 1 (stT t, [])).1), [])).1) := li_dm hb hr hV (by rw [List.length_append]; omega) hk2 h116
              exact xx_iret rfl trivial (RlQ_d ((lw_sd (s := (t, clC 1 L)) hne (by rw [el]; exact wrT_0 hlv3 (by decide))).trans el) (wrT_0 hlv3 (by decide)) (hS17.fl hF19).1 (hS17.fl hF19).2.1 (hS17.fl hF19).2.2)
          · refine xx_iconst (q := 99) rfl rfl (by decide) ?_
            replace hq15 := hq15.resolve_left (fun q => by have := q.2.1; omega)
            have e9 : (eiG (clF 1 8) (stS ((smS 1 (stT t, [])).1, rfC L ++ (smS 1 (stT t, [])).2))).1 = (eiG (clF 1 8) (stT ((smS 1 (stT t, [])).1), [])).1 := (I_ei (I_cl 1 8)).t1 _ _ (by rw [List.length_append]; omega)
            rw [e9] at hq15
            have el : (liF 1 (L.length : Int) (t, clC 1 L)).1 = (eiG (clF 1 8) (stT ((smS 1 (stT t, [])).1), [])).1 := li_dw hb hr hV (by rw [List.length_append]; omega) hk2 hq15.1
            exact xx_iret rfl trivial (RlQ_d ((lw_sd (s := (t, clC 1 L)) hne (by rw [el]; exact hq15.1)).trans el) hq15.1 (hS14.fl hq15.2.2).1 (hS14.fl hq15.2.2).2.1 (hS14.fl hq15.2.2).2.2)
      · refine xx_iconst (q := 67) rfl rfl (by decide) ?_
        replace hq7 := hq7.resolve_left (fun q => by have := q.2.1; omega)
        have e9 : (smS 1 (stS (t, rfC L))).1 = (smS 1 (stT t, [])).1 := (I_sm 1).t1 (stT t) (rfC L) (by omega)
        rw [e9] at hq7
        have el : (liF 1 (L.length : Int) (t, clC 1 L)).1 = (smS 1 (stT t, [])).1 := li_dv hb hr ((congrArg Prod.fst va_1).trans ((I_sm 1).t1 _ _ (by omega))) hq7.1
        exact xx_iret rfl trivial (RlQ_d ((lw_sd (s := (t, clC 1 L)) hne (by rw [el]; exact hq7.1)).trans el) hq7.1 (hS6.fl hq7.2.2).1 (hS6.fl hq7.2.2).2.1 (hS6.fl hq7.2.2).2.2)
    · have hne3 : kdS (t, clC 1 L) ≠ 258 := by intro q; have hb : bgP 1 (kdT t) := h6; rw [show kdT t = 258 from q] at hb; revert hb; decide
      have hL16 : (L.length : Int) = 16 := by omega
      refine xx_aload_n (q := 16) rfl rfl rfl ?_
      refine xx_iconst (q := 17) rfl rfl (by decide) ?_
      obtain ⟨D20, hx20, hF20⟩ := r_errs (n := n) hR hS.1 3
      refine xx_callV (q := 20) (As := [_]) (rest := []) rfl rfl rfl (Or.inl rfl) rfl rfl (Nat.le_of_ble_eq_true rfl) xS_479 (XCm hx20 rfl) rfl ?_
      exact xx_iret rfl trivial (RlQ_d ((lw_sd hne3 (by rw [hL16, li_16 h6]; exact wrT_0 hS.1.2.2.1 (by decide))).trans (by rw [hL16, li_16 h6])) (wrT_0 (k := 3) (t := t) hS.1.2.2.1 (by decide)) (hS.fl hF20).1 (hS.fl hF20).2.1 (hS.fl hF20).2.2)
