/-! A text is read: the class, a plan and what is neither. -/
set_option maxHeartbeats 4000000 in
theorem c_textP {n : Nat} {R : Nat → Nat → Option Nat} {D : KK} {bs : List Int} (hR : RF R) (hT : TpC bs D) (hl4 : bs.length ≤ 400) (hby : ∀ j, 0 ≤ bs.getD j 0 ∧ bs.getD j 0 ≤ 255) (hs : StrD D) {K : KK} (hK : CK 27 K D) (hI : KI K) {dr cd : Nat} (hdr : R 15 5 = some dr) (hcd : R 15 4 = some cd) (hdr2 : dr = 16 ∨ dr = 17) : ∃ z R2 D', XC 35 126 [.inr (some 5), .inl 2] (xS n, R, D) (some (.inl z)) (xS n, R2, D') ∧ CxP dr cd R D (plQ (K 0 0) (K 13 0) 31 0 (tp0 bs, D dr)) z R2 D' := by
  refine XU_of (d := 34) (P := fun z R2 E => CxP dr cd R D (plQ (K 0 0) (K 13 0) 31 0 (tp0 bs, D dr)) z R2 E) (Nat.le_of_ble_eq_true rfl) (Nat.le_of_ble_eq_true rfl) (loc := [_, _, _]) rfl ?_
  refine xx_aload_n (q := 1) rfl rfl rfl ?_
  refine xx_getR (q := 4) rfl rfl rfl xS_5 (Nat.le_of_ble_eq_true rfl) rfl (hR.1 5 4 rfl) ?_
  refine xx_callV (q := 7) (As := []) (rest := []) rfl rfl rfl (Or.inl rfl) rfl rfl (Nat.le_of_ble_eq_true rfl) xS_474 (XCm (c_clf (n := n)) rfl) rfl ?_
  refine xx_aload_n (q := 8) rfl rfl rfl ?_
  refine xx_getR (q := 11) rfl rfl rfl xS_5 (Nat.le_of_ble_eq_true rfl) rfl (hR.1 5 4 rfl) ?_
  have hf0 : ∀ x k, (x = 474 → k ≠ 1 ∧ k ≠ 2) → (xui (xui D 474 1 0) 474 2 (-1)) x k = D x k := fun x k q => (if_neg (fun r => (q r.1).2 r.2)).trans (if_neg (fun r => (q r.1).1 r.2))
  obtain ⟨D1, hx1, hk1, ha1, hf1⟩ := c_split (n := n) (D := xui (xui D 474 1 0) 474 2 (-1)) hR bs ⟨(hf0 474 0 (by omega)).trans hT.1, fun k hk => (hf0 475 k (by omega)).trans (hT.2 k hk)⟩ hl4 hby (hs.fr (fun x k q1 q2 => hf0 x k (by omega)))
  have hf : ∀ x k, x ≠ 476 → x ≠ 477 → x ≠ 478 → (x = 474 → k ≠ 1 ∧ k ≠ 2 ∧ k ≠ 7 ∧ k ≠ 8) → D1 x k = D x k := fun x k q1 q2 q3 q4 => (hf1 x k q1 q2 q3 (fun e => by have := q4 e; omega)).trans (hf0 x k (fun e => by have := q4 e; omega))
  have e1 : D1 474 1 = 0 := (hf1 474 1 (by omega) (by omega) (by omega) (by omega)).trans rfl
  have e2 : D1 474 2 = -1 := (hf1 474 2 (by omega) (by omega) (by omega) (by omega)).trans rfl
  have hTS := TS_0 hl4 e1 e2 ha1 hk1
  refine xx_callV (q := 14) (As := []) (rest := []) rfl rfl rfl (Or.inl rfl) rfl rfl (Nat.le_of_ble_eq_true rfl) xS_474 (XCm hx1 rfl) rfl ?_
  refine xx_iconst (q := 15) rfl rfl (by decide) ?_
  refine xx_istore_n (q := 16) (loc2 := [_, _, _]) rfl rfl (Nat.le_of_ble_eq_true rfl) rfl ?_
  refine xx_iload_n (q := 17) rfl rfl rfl ?_
  refine xx_if_ne (q := 38) (q2 := 20) rfl rfl rfl (fun _ => ?_) (fun h17 => (by exfalso; omega))
  refine xx_iload_n (q := 39) rfl rfl rfl ?_
  refine xx_iconst (q := 40) rfl rfl (by decide) ?_
  refine xx_icmp_ne (q := 61) (q2 := 43) rfl rfl rfl (fun _ => ?_) (fun h40 => (by exfalso; omega))
  refine xx_iload_n (q := 62) rfl rfl rfl ?_
  refine xx_iconst (q := 63) rfl rfl (by decide) ?_
  refine xx_icmp_ne (q := 104) (q2 := 66) rfl rfl rfl (fun h63 => (by exfalso; omega)) (fun _ => ?_)
  have hK1 : CK 27 K D1 := CK_fr hK (fun o k ho => hf _ _ (by omega) (by omega) (by omega) (by omega))
  have hdd : D1 dr = D dr := funext (fun k => hf dr k (by omega) (by omega) (by omega) (by omega))
  refine xx_aload_n (q := 67) rfl rfl rfl ?_
  refine xx_getR (q := 70) rfl rfl rfl xS_5 (Nat.le_of_ble_eq_true rfl) rfl (hR.1 5 0 rfl) ?_
  refine xx_getR (q := 73) rfl rfl rfl xS_6 (Nat.le_of_ble_eq_true rfl) rfl (hR.1 6 2 rfl) ?_
  refine xx_aload_n (q := 74) rfl rfl rfl ?_
  refine xx_getR (q := 77) rfl rfl rfl xS_5 (Nat.le_of_ble_eq_true rfl) rfl (hR.1 5 4 rfl) ?_
  refine xx_aload_n (q := 78) rfl rfl rfl ?_
  refine xx_getR (q := 81) rfl rfl rfl xS_5 (Nat.le_of_ble_eq_true rfl) rfl (hR.1 5 0 rfl) ?_
  refine xx_getR (q := 84) rfl rfl rfl xS_6 (Nat.le_of_ble_eq_true rfl) rfl (hR.1 6 5 rfl) ?_
  refine xx_gez (v := K 0 0) (q := 87) rfl rfl rfl (xSc_0 isC_27) (Nat.le_of_ble_eq_true rfl) rfl (hK1 0 0 (Nat.le_of_ble_eq_true rfl)) ?_
  have hb1 : 1 ≤ K 0 0 ∧ K 0 0 ≤ 9 := by have h := ki_L hI; exact h
  refine xx_aload_n (q := 88) rfl rfl rfl ?_
  refine xx_getR (q := 91) rfl rfl rfl xS_5 (Nat.le_of_ble_eq_true rfl) rfl (hR.1 5 0 rfl) ?_
  refine xx_getR (q := 94) rfl rfl rfl xS_6 (Nat.le_of_ble_eq_true rfl) rfl (hR.1 6 5 rfl) ?_
  refine xx_getR (q := 97) rfl rfl rfl (xSc_0 isC_27) (Nat.le_of_ble_eq_true rfl) rfl (rc_fleet hR isC_27) ?_
  refine xx_gez (v := K 13 0) (q := 100) rfl rfl rfl (xSc_13 isC_27) (Nat.le_of_ble_eq_true rfl) rfl (hK1 13 0 (Nat.le_of_ble_eq_true rfl)) ?_
  have hb2 : 0 ≤ K 13 0 ∧ K 13 0 ≤ 6 := by have h := ki_B hI; exact h
  obtain ⟨r9, m9, hx2, z2, R2, D2, rfl, rfl, ez, hTS2, hf2, hR2⟩ := c_rdP (n := n) hR hdr hcd hdr2 (K 0 0) (K 13 0) (by omega) (by omega) (by omega) (by omega) hTS
  have hR0 := hR
  have hRn : RF R2 := by
      split at hR2
      · rw [hR2.1]; exact RF_15 hR0 hdr hcd
      · rw [hR2.1]; exact hR0
  clear hR
  have hR := hRn
  refine xx_callV (q := 103) (As := [_, _, _]) (rest := []) rfl rfl rfl (Or.inl rfl) rfl rfl (Nat.le_of_ble_eq_true rfl) xS_15 (XCm hx2 rfl) rfl ?_
  refine xx_istore_n (q := 104) (loc2 := [_, _, _]) rfl rfl (Nat.le_of_ble_eq_true rfl) rfl ?_
  refine xx_aload_n (q := 105) rfl rfl rfl ?_
  refine xx_getR (q := 108) rfl rfl rfl xS_5 (Nat.le_of_ble_eq_true rfl) rfl (hR.1 5 4 rfl) ?_
  refine xx_iconst (q := 109) rfl rfl (by decide) ?_
  refine xx_puz (q := 112) rfl rfl rfl xS_474 (Nat.le_of_ble_eq_true rfl) (Nat.le_of_ble_eq_true rfl) (fun h => by cases h) (Or.inl rfl) rfl ?_
  refine xx_iload_n (q := 113) rfl rfl rfl ?_
  rw [hdd] at ez hTS2 hR2
  have hg : ∀ x k, (x = 474 → k ≠ 0) → (xui D2 474 0 0) x k = D2 x k := fun x k q => if_neg (fun r => q r.1 r.2)
  refine xx_iret rfl trivial ⟨_, _, _, rfl, rfl, ez, xui_s, (hg 474 1 (by omega)).trans hTS2.1, (hg 474 2 (by omega)).trans hTS2.2.1, fun x k q1 q2 q3 q4 q5 q6 => (hg x k (fun e => (q4 e).1)).trans ((hf2 x k (fun e => by have := q4 e; omega) q5 q6).trans (hf x k q1 q2 q3 (fun e => by have := q4 e; omega))), ?_⟩
  split
  · rename_i q
    rw [if_pos q] at hR2
    exact ⟨hR2.1, (hg 15 0 (by omega)).trans hR2.2.1, fun j hj => (hg dr j (by omega)).trans (hR2.2.2 j hj)⟩
  · rename_i q
    rw [if_neg q] at hR2
    exact ⟨hR2.1, (hg 15 0 (by omega)).trans (hR2.2.trans (hf 15 0 (by omega) (by omega) (by omega) (by omega)))⟩
set_option maxHeartbeats 4000000 in
theorem c_textN {n : Nat} {R : Nat → Nat → Option Nat} {D : KK} {bs : List Int} (hR : RF R) (hT : TpC bs D) (hl4 : bs.length ≤ 400) (hby : ∀ j, 0 ≤ bs.getD j 0 ∧ bs.getD j 0 ≤ 255) (hs : StrD D) (a : Int) (ha : ¬ (0 ≤ a ∧ a ≤ 2)) : ∃ D', XC 35 126 [.inr (some 5), .inl a] (xS n, R, D) (some (.inl (-1))) (xS n, R, D') ∧ CxN D D' := by
  refine XE_of (d := 34) (Nat.le_of_ble_eq_true rfl) (Nat.le_of_ble_eq_true rfl) (loc := [_, _, _]) rfl ?_
  refine xx_aload_n (q := 1) rfl rfl rfl ?_
  refine xx_getR (q := 4) rfl rfl rfl xS_5 (Nat.le_of_ble_eq_true rfl) rfl (hR.1 5 4 rfl) ?_
  refine xx_callV (q := 7) (As := []) (rest := []) rfl rfl rfl (Or.inl rfl) rfl rfl (Nat.le_of_ble_eq_true rfl) xS_474 (XCm (c_clf (n := n)) rfl) rfl ?_
  refine xx_aload_n (q := 8) rfl rfl rfl ?_
  refine xx_getR (q := 11) rfl rfl rfl xS_5 (Nat.le_of_ble_eq_true rfl) rfl (hR.1 5 4 rfl) ?_
  have hf0 : ∀ x k, (x = 474 → k ≠ 1 ∧ k ≠ 2) → (xui (xui D 474 1 0) 474 2 (-1)) x k = D x k := fun x k q => (if_neg (fun r => (q r.1).2 r.2)).trans (if_neg (fun r => (q r.1).1 r.2))
  obtain ⟨D1, hx1, hk1, ha1, hf1⟩ := c_split (n := n) (D := xui (xui D 474 1 0) 474 2 (-1)) hR bs ⟨(hf0 474 0 (by omega)).trans hT.1, fun k hk => (hf0 475 k (by omega)).trans (hT.2 k hk)⟩ hl4 hby (hs.fr (fun x k q1 q2 => hf0 x k (by omega)))
  have hf : ∀ x k, x ≠ 476 → x ≠ 477 → x ≠ 478 → (x = 474 → k ≠ 1 ∧ k ≠ 2 ∧ k ≠ 7 ∧ k ≠ 8) → D1 x k = D x k := fun x k q1 q2 q3 q4 => (hf1 x k q1 q2 q3 (fun e => by have := q4 e; omega)).trans (hf0 x k (fun e => by have := q4 e; omega))
  have e1 : D1 474 1 = 0 := (hf1 474 1 (by omega) (by omega) (by omega) (by omega)).trans rfl
  have e2 : D1 474 2 = -1 := (hf1 474 2 (by omega) (by omega) (by omega) (by omega)).trans rfl
  have hTS := TS_0 hl4 e1 e2 ha1 hk1
  refine xx_callV (q := 14) (As := []) (rest := []) rfl rfl rfl (Or.inl rfl) rfl rfl (Nat.le_of_ble_eq_true rfl) xS_474 (XCm hx1 rfl) rfl ?_
  refine xx_iconst (q := 15) rfl rfl (by decide) ?_
  refine xx_istore_n (q := 16) (loc2 := [_, _, _]) rfl rfl (Nat.le_of_ble_eq_true rfl) rfl ?_
  refine xx_iload_n (q := 17) rfl rfl rfl ?_
  refine xx_if_ne (q := 38) (q2 := 20) rfl rfl rfl (fun _ => ?_) (fun h17 => (by exfalso; omega))
  refine xx_iload_n (q := 39) rfl rfl rfl ?_
  refine xx_iconst (q := 40) rfl rfl (by decide) ?_
  refine xx_icmp_ne (q := 61) (q2 := 43) rfl rfl rfl (fun _ => ?_) (fun h40 => (by exfalso; omega))
  refine xx_iload_n (q := 62) rfl rfl rfl ?_
  refine xx_iconst (q := 63) rfl rfl (by decide) ?_
  refine xx_icmp_ne (q := 104) (q2 := 66) rfl rfl rfl (fun _ => ?_) (fun h63 => (by exfalso; omega))
  refine xx_aload_n (q := 105) rfl rfl rfl ?_
  refine xx_getR (q := 108) rfl rfl rfl xS_5 (Nat.le_of_ble_eq_true rfl) rfl (hR.1 5 4 rfl) ?_
  refine xx_iconst (q := 109) rfl rfl (by decide) ?_
  refine xx_puz (q := 112) rfl rfl rfl xS_474 (Nat.le_of_ble_eq_true rfl) (Nat.le_of_ble_eq_true rfl) (fun h => by cases h) (Or.inl rfl) rfl ?_
  refine xx_iload_n (q := 113) rfl rfl rfl ?_
  have hg : ∀ x k, (x = 474 → k ≠ 0) → (xui D1 474 0 0) x k = D1 x k := fun x k q => if_neg (fun r => q r.1 r.2)
  exact xx_iret rfl trivial ⟨rfl, _, rfl, xui_s, (hg 474 1 (by omega)).trans e1, (hg 474 2 (by omega)).trans e2, fun x k q1 q2 q3 q4 => (hg x k (fun e => (q4 e).1)).trans (hf x k q1 q2 q3 (fun e => by have := q4 e; omega))⟩
/-! while all is well, the place stays -/
def KpP (F : Sg → Sg) : Prop := ∀ s : Sg, (F s).1.1 = 0 → s.1.1 = 0 ∧ (F s).1.2.1 = s.1.2.1
theorem KpP.comp {F G : Sg → Sg} (g : KpP G) (f : KpP F) : KpP (fun s => G (F s)) := fun s q => by
  obtain ⟨g1, g2⟩ := g (F s) q
  obtain ⟨f1, f2⟩ := f s g1
  exact ⟨f1, g2.trans f2⟩
theorem Kp_id : KpP (fun s => s) := fun _ q => ⟨q, rfl⟩
theorem Kp_st : KpP stS := fun _ q => ⟨q, rfl⟩
theorem Kp_wt (op : Sg → Int) : KpP (fun s => wtS (op s) s) := fun _ q => ⟨q, rfl⟩
theorem Kp_wr {k : Int} (hk : k ≠ 0) : KpP (wrS k) := fun s q => by
  have q2 : (wrT k s.1).1 = 0 := q
  unfold wrT at q2
  split at q2
  · exact absurd q2 hk
  · rename_i r; exact absurd q2 r
theorem Kp_if {p : Sg → Prop} [∀ s, Decidable (p s)] {F G : Sg → Sg} (f : KpP F) (g : KpP G) : KpP (fun s => if p s then F s else G s) := fun s q => by
  rcases Classical.em (p s) with r | r
  · have e : (if p s then F s else G s) = F s := if_pos r
    have q2 : (if p s then F s else G s).1.1 = 0 := q
    rw [e] at q2
    show s.1.1 = 0 ∧ (if p s then F s else G s).1.2.1 = s.1.2.1
    rw [e]
    exact f s q2
  · have e : (if p s then F s else G s) = G s := if_neg r
    have q2 : (if p s then F s else G s).1.1 = 0 := q
    rw [e] at q2
    show s.1.1 = 0 ∧ (if p s then F s else G s).1.2.1 = s.1.2.1
    rw [e]
    exact g s q2
theorem nwT_k {lo hi : Int} {t : Tt} (h : (nwT lo hi t).1 = 0) : (nwT lo hi t).2.1 = t.2.1 := by
  have q := nwT_l h
  have h2 : (if kdT t = 256 then (if lo ≤ vlT t ∧ vlT t ≤ hi then t else wrT 2 t) else wrT 1 t).1 = 0 := h
  rcases Classical.em (kdT t = 256) with r | r
  · show (if kdT t = 256 then (if lo ≤ vlT t ∧ vlT t ≤ hi then t else wrT 2 t) else wrT 1 t).2.1 = _
    rw [if_pos r, if_pos q.2]
  · rw [if_neg r] at h2
    exact absurd h2 (wrT_0 q.1 (by decide))
theorem exT_k {k : Int} {t : Tt} (h : (exT k t).1 = 0) : (exT k t).2.1 = t.2.1 := by
  have q := exT_l h
  unfold exT at h ⊢
  rcases Classical.em (kdT t = k) with r | r
  · rw [if_pos r]; rfl
  · rw [if_neg r] at h
    exact absurd h (wrT_0 q (by decide))
theorem Kp_ex {k : Int} : KpP (exS k) := fun _ q => ⟨exT_l q, exT_k q⟩
theorem Kp_nw {lo hi : Int} : KpP (nwS lo hi) := fun _ q => ⟨(nwT_l q).1, nwT_k q⟩
theorem Kp_un (h : Int) : KpP (unF h) := Kp_if (p := fun s => kdS s = 256) (Kp_st.comp (Kp_wt (fun s => vlT s.1))) (Kp_if (p := fun s => ftP h (kdS s - 307)) (Kp_st.comp (Kp_wt (fun s => -1 - (kdS s - 307)))) (Kp_wr (by decide)))
theorem Kp_prL (h : Int) : ∀ k : Nat, KpP (prL h k)
  | 0 => Kp_id
  | k + 1 => Kp_if (p := fun s => kdS s = 42) ((Kp_prL h k).comp ((Kp_wt (fun _ => -22)).comp ((Kp_un h).comp Kp_st))) (Kp_if (p := fun s => kdS s = 47) (fun s q => by
      obtain ⟨g1, g2⟩ := (Kp_prL h k) _ q
      obtain ⟨f1, f2⟩ := (Kp_nw.comp Kp_st) s g1
      exact ⟨f1, g2.trans f2⟩) Kp_id)
theorem Kp_pr (h : Int) : KpP (prF h) := KpP.comp (G := prL h 400) (F := unF h) (Kp_prL h 400) (Kp_un h)
theorem Kp_smL (h : Int) : ∀ k : Nat, KpP (smL h k)
  | 0 => Kp_id
  | k + 1 => Kp_if (p := fun s => kdS s = 43 ∨ kdS s = 45) (fun s q => by
      obtain ⟨g1, g2⟩ := (Kp_smL h k) _ q
      obtain ⟨f1, f2⟩ := ((Kp_pr h).comp Kp_st) s g1
      exact ⟨f1, g2.trans f2⟩) Kp_id
theorem Kp_sm (h : Int) : KpP (smS h) := KpP.comp (G := smL h 400) (F := prF h) (Kp_smL h 400) (Kp_pr h)
theorem Kp_tk3 : KpP tk3 := Kp_if (p := fun s => kdS s = 60 ∨ kdS s = 61 ∨ kdS s = 62) Kp_st (Kp_wr (by decide))
theorem Kp_cm (h : Int) : KpP (cmF h) := fun s q => ((Kp_sm h).comp (Kp_tk3.comp (Kp_sm h))) s q
theorem Kp_boL {cl : Sg → Sg} (hc : KpP cl) : ∀ k : Nat, KpP (boL cl k)
  | 0 => Kp_id
  | k + 1 => Kp_if (p := fun s => kdS s = 305) ((Kp_boL hc k).comp ((Kp_wt (fun _ => -27)).comp (hc.comp Kp_st))) Kp_id
theorem Kp_bo {cl : Sg → Sg} (hc : KpP cl) : KpP (boG cl) := KpP.comp (G := boL cl 400) (F := cl) (Kp_boL hc 400) hc
theorem Kp_eiL {cl : Sg → Sg} (hc : KpP cl) : ∀ k : Nat, KpP (eiL cl k)
  | 0 => Kp_id
  | k + 1 => Kp_if (p := fun s => kdS s = 304) ((Kp_eiL hc k).comp ((Kp_wt (fun _ => -28)).comp ((Kp_bo hc).comp Kp_st))) Kp_id
theorem Kp_ei {cl : Sg → Sg} (hc : KpP cl) : KpP (eiG cl) := KpP.comp (G := eiL cl 400) (F := boG cl) (Kp_eiL hc 400) (Kp_bo hc)
theorem Kp_cl (h : Int) : ∀ m : Nat, KpP (clF h m)
  | 0 => Kp_if (p := fun s => kdS s = 40 ∨ kdS s = 306) (Kp_wr (by decide)) (Kp_cm h)
  | m + 1 => Kp_if (p := fun s => kdS s = 306) ((Kp_wt (fun _ => -29)).comp ((Kp_cl h m).comp Kp_st)) (Kp_if (p := fun s => kdS s = 40) (Kp_ex.comp ((Kp_ei (Kp_cl h m)).comp Kp_st)) (Kp_cm h))
theorem Kp_va (h : Int) : KpP (vaF h) := fun s q => by
  unfold vaF at q ⊢
  split at q
  · rename_i e; rw [if_pos e]; exact ⟨q, rfl⟩
  · rename_i e; rw [if_neg e]; exact ((Kp_sm h).comp Kp_st) s q
theorem Kp_wh (h : Int) : KpP (whF h) := Kp_if (p := fun s => kdS s = 303) ((Kp_wt (fun _ => -31)).comp ((Kp_ei (Kp_cl h 8)).comp Kp_st)) (Kp_wt (fun _ => -30))
theorem Kp_li (h r : Int) : KpP (liF h r) := Kp_if (p := fun s => ¬ bgP h (kdS s)) (Kp_wr (by decide)) (Kp_if (p := fun _ => r < 16) (Kp_ex.comp ((Kp_wh h).comp (Kp_va h))) (Kp_wr (by decide)))
theorem Kp_lw (h : Int) : ∀ (k : Nat) (r : Int) (s : Sg), (lwL h k r s).2.1.1 = 0 → s.1.1 = 0 ∧ (lwL h k r s).2.1.2.1 = s.1.2.1
  | 0, r, s, q => ⟨q, rfl⟩
  | k + 1, r, s, q => by
    unfold lwL at q ⊢
    split at q
    · rename_i e; rw [if_pos e]; exact ⟨q, rfl⟩
    · rename_i e
      rw [if_neg e]
      obtain ⟨g1, g2⟩ := Kp_lw h k (r + 1) _ q
      obtain ⟨f1, f2⟩ := Kp_li h r s g1
      exact ⟨f1, g2.trans f2⟩
theorem lw_place {h : Int} {bs : List Int} (q : (lwF h (tp0 bs)).2.1.1 = 0) : (lwF h (tp0 bs)).2.1.2.1 = -1 := (Kp_lw h 17 0 (tp0 bs, []) q).2
