/-! The reference: the plan. -/
def stpV (t : Int) (Z : ZZ) (G Hh : LwF) (s : PSt) : ZZ := match s with
  | (0, a, b, c, _) => (pasT Z.1 G a (up1 b) c, rpb t Z.1 G a (up1 b) c Z.2.1, rpB t Z.1 G a (up1 b) c Z.2.1 Z.2.2.1, rpU t Z.1 G a (up1 b) c Z.2.1 Z.2.2.2)
  | (1, a, b, c, d) => if canF Z.1 d b a c then (givK Z.1 Hh d b a c, tb t Z.2.1, tB t Z.1 Z.2.1 Z.2.2.1 1 c d a, tU t Z.1 Z.2.1 Z.2.2.2) else Z
  | (2, a, b, _, _) => if pulP Z.1 a b then (pulL b.toNat Z.1 a, rlb t Z.1 a b Z.2.1, rlB t Z.1 a b Z.2.1 Z.2.2.1, tU t Z.1 Z.2.1 Z.2.2.2) else Z
  | (_, a, _, _, _) => if waiP Z.1 a then tdsZ t a.toNat Z else Z
theorem stpV_I {t : Int} {Z : ZZ} {G Hh : LwF} {s : PSt} (h : KI Z.1) : KI (stpV t Z G Hh s).1 := by
  unfold stpV
  split
  · exact pasT_I h
  · split
    · next q => exact givK_I h q
    · exact h
  · split
    · exact pulL_I _ _ _ h
    · exact h
  · split
    · exact tdsZ_I _ _ h
    · exact h
/-- what a step may ask for -/
def VS (K : KK) (s : PSt) : Prop := s.1 ≤ 3 ∧ (s.1 = 0 → 0 ≤ s.2.1 ∧ s.2.1 < K 13 0) ∧ (s.1 = 2 → pulP K s.2.1 s.2.2.1) ∧ (s.1 = 3 → 1 ≤ s.2.1 ∧ s.2.1 ≤ 99)
def StR (a : Int) (s : PSt) (D : KK) : Prop := D 507 a.toNat = (s.1 : Int) ∧ D 507 (a + 1).toNat = s.2.1 ∧ (s.1 ≤ 2 → D 507 (a + 2).toNat = s.2.2.1) ∧ (s.1 ≤ 1 → D 507 (a + 3).toNat = s.2.2.2.1) ∧ (s.1 = 1 → D 507 (a + 4).toNat = s.2.2.2.2)
def FW (D E : KK) : Prop := ∀ b k, b ≠ 480 → b ≠ 481 → b ≠ 496 → b ≠ 508 → b ≠ 509 → (b = 479 → k ≠ 3 ∧ k ≠ 51 ∧ k ≠ 52 ∧ k ≠ 53) → E b k = D b k
theorem FW.trans {D E F : KK} (h : FW D E) (g : FW E F) : FW D F := fun b k h1 h2 h3 h4 h5 h6 => (g b k h1 h2 h3 h4 h5 h6).trans (h b k h1 h2 h3 h4 h5 h6)
theorem FV.fw {D E : KK} (h : FV D E) : FW D E := fun b k h1 h2 h3 h4 h5 h6 => h b k h1 h2 h3 h4 h5 (fun q => (h6 q).1)
theorem FW.up {D E : KK} (h : FW D E) {j : Nat} {v : Int} (hj : j = 51 ∨ j = 52 ∨ j = 53) : FW D (xui E 479 j v) := fun b k h1 h2 h3 h4 h5 h6 => (show xui E 479 j v b k = E b k from if_neg (fun q => by have := h6 q.1; omega)).trans (h b k h1 h2 h3 h4 h5 h6)
theorem RV.self {t : Int} {K : KK} {b : Int} {B : Nat → Int} {U : UU} {D0 D E : KK} (h : RV t K b B U D0 D) (g : ∀ x k, 479 ≤ x → (x = 479 → k = 3 ∨ k = 5 ∨ k = 6 ∨ k = 7) → x ≤ 496 → E x k = D x k) : RV t K b B U E E := ⟨by rw [show E 480 = D 480 from funext (fun k => g _ _ (by omega) (by omega) (by omega))]; exact h.1, by
  obtain ⟨h0, h1, h2, h3, h4, h5, h6, h7, h8, h9⟩ := h.2.1
  exact ⟨(g _ _ (by omega) (by omega) (by omega)).trans h0, (g _ _ (by omega) (by omega) (by omega)).trans h1, fun i hi => (g _ _ (by omega) (by omega) (by omega)).trans (h2 i hi), fun i hi => (g _ _ (by omega) (by omega) (by omega)).trans (h3 i hi), fun i hi => (g _ _ (by omega) (by omega) (by omega)).trans (h4 i hi), fun i hi => (g _ _ (by omega) (by omega) (by omega)).trans (h5 i hi), fun i hi => (g _ _ (by omega) (by omega) (by omega)).trans (h6 i hi), fun i hi => (g _ _ (by omega) (by omega) (by omega)).trans (h7 i hi), fun i hi => (g _ _ (by omega) (by omega) (by omega)).trans (h8 i hi), fun i hi => (g _ _ (by omega) (by omega) (by omega)).trans (h9 i hi)⟩, (g _ _ (by omega) (by omega) (by omega)).trans h.2.2.1, h.2.2.2.1, fun k hk => (g _ _ (by omega) (by omega) (by omega)).trans (h.2.2.2.2.1 k hk), h.2.2.2.2.2.1.up (fun k => g _ _ (by omega) (by omega) (by omega)) (g _ _ (by omega) (by omega) (by omega)), FV.rf⟩
theorem RV.me {t : Int} {K : KK} {b : Int} {B : Nat → Int} {U : UU} {D0 D : KK} (h : RV t K b B U D0 D) : RV t K b B U D D := h.self (fun _ _ _ _ _ => rfl)
theorem RV.u {t : Int} {K : KK} {b : Int} {B : Nat → Int} {U : UU} {D0 D : KK} {j : Nat} {v : Int} (h : RV t K b B U D0 D) (hj : j ≠ 3 ∧ j ≠ 5 ∧ j ≠ 6 ∧ j ≠ 7) : RV t K b B U (xui D 479 j v) (xui D 479 j v) := h.self (fun x k h1 h2 h3 => if_neg (fun q => by have := h2 q.1; omega))
theorem pasR_lt {K : KK} {G : LwF} {boat up wth : Int} : pasR K G boat up wth < 0 ↔ ¬ refF K G boat up wth = 0 := by
  have h := refF_n (K := K) (G := G) (boat := boat) (up := up) (wth := wth)
  unfold pasR
  split
  · next q => have := (refF_0 q).2.1; exact ⟨fun e => by omega, fun e => absurd q e⟩
  · exact ⟨fun _ => by assumption, fun _ => by omega⟩
set_option maxHeartbeats 1000000 in
theorem r_do0 {n : Nat} {R : Nat → Nat → Option Nat} {t : Int} {K D : KK} {b : Int} {B : Nat → Int} {U : UU} (hR : RF R) (hV : RV t K b B U D D) (hI : KI K) {G Hh : LwF} (hG : RLG G n R D) (hH : RLH Hh n R D) (j f g a b4 c4 d : Int) (hj0 : 0 ≤ j) (hj1 : j < 30) (hs : StR (5 * j) (0, a, b4, c4, d) D) (hvs : VS K (0, a, b4, c4, d)) (hf : D 479 51 = f) (hg : D 479 52 = g) (hfk : xok f) (hgk : xok g) : ∃ D', XC 9 254 [.inr (some 479), .inl j] (xS n, R, D) (some (.inl (stpW K G Hh (0, a, b4, c4, d)))) (xS n, R, D') ∧ TZ t (stpV t (K, b, B, U) G Hh (0, a, b4, c4, d)) D' D' ∧ FW D D' ∧ D' 479 51 = stpF K G (0, a, b4, c4, d) f ∧ D' 479 52 = stpG K (0, a, b4, c4, d) g := by
  have hj := hvs.2
  have hfok : xok f := hfk
  have hgok : xok g := hgk
  have hv0 := hvs.2.1 rfl
  have hv1 : 0 ≤ a := hv0.1
  have hv2 : a < K 13 0 := hv0.2
  refine XE_of (Nat.le_of_ble_eq_true rfl) (Nat.le_of_ble_eq_true rfl) (loc := [_, _, _, _, _, _, _]) rfl ?_
  refine xx_iconst (q := 1) rfl rfl (by decide) ?_
  refine xx_iload_n (q := 2) rfl rfl rfl ?_
  refine xx_imulR (q := 3) rfl rfl (by omega) (by omega) ?_
  refine xx_istore_n (q := 4) (loc2 := [_, _, _, _, _, _, _]) rfl rfl (Nat.le_of_ble_eq_true rfl) rfl ?_
  refine xx_aload_n (q := 5) rfl rfl rfl ?_
  refine xx_getR (q := 8) rfl rfl rfl xS_479 (Nat.le_of_ble_eq_true rfl) rfl (hR.1 479 46 rfl) ?_
  refine xx_iload_n (q := 9) rfl rfl rfl ?_
  refine xx_iaz (v := 0) (q := 10) rfl rfl xS_507 (by omega) (by omega) ((hV.2.2.2.2.2.2 507 _ (by omega) (by omega) (by omega) (by omega) (by omega) (by omega)).trans (hs.1)) ?_
  refine xx_istore_n (q := 11) (loc2 := [_, _, _, _, _, _, _]) rfl rfl (Nat.le_of_ble_eq_true rfl) rfl ?_
  refine xx_aload_n (q := 12) rfl rfl rfl ?_
  refine xx_getR (q := 15) rfl rfl rfl xS_479 (Nat.le_of_ble_eq_true rfl) rfl (hR.1 479 46 rfl) ?_
  refine xx_iload_n (q := 16) rfl rfl rfl ?_
  refine xx_iconst (q := 17) rfl rfl (by decide) ?_
  refine xx_iaddR (q := 18) rfl rfl (by omega) (by omega) ?_
  refine xx_iaz (v := a) (q := 19) rfl rfl xS_507 (by omega) (by omega) ((hV.2.2.2.2.2.2 507 _ (by omega) (by omega) (by omega) (by omega) (by omega) (by omega)).trans (hs.2.1)) ?_
  refine xx_istore (q := 21) (loc2 := [_, _, _, _, _, _, _]) rfl rfl (Nat.le_of_ble_eq_true rfl) rfl ?_
  refine xx_aload_n (q := 22) rfl rfl rfl ?_
  refine xx_getR (q := 25) rfl rfl rfl xS_479 (Nat.le_of_ble_eq_true rfl) rfl (hR.1 479 46 rfl) ?_
  refine xx_iload_n (q := 26) rfl rfl rfl ?_
  refine xx_iconst (q := 27) rfl rfl (by decide) ?_
  refine xx_iaddR (q := 28) rfl rfl (by omega) (by omega) ?_
  refine xx_iaz (v := b4) (q := 29) rfl rfl xS_507 (by omega) (by omega) ((hV.2.2.2.2.2.2 507 _ (by omega) (by omega) (by omega) (by omega) (by omega) (by omega)).trans (hs.2.2.1 (Nat.le_of_ble_eq_true rfl))) ?_
  refine xx_istore (q := 31) (loc2 := [_, _, _, _, _, _, _]) rfl rfl (Nat.le_of_ble_eq_true rfl) rfl ?_
  refine xx_iload_n (q := 32) rfl rfl rfl ?_
  refine xx_if_ne (q := 89) (q2 := 35) rfl rfl rfl (fun h32 => (by exfalso; omega)) (fun _ => ?_)
  refine xx_aload_n (q := 36) rfl rfl rfl ?_
  refine xx_iload (q := 38) rfl rfl rfl ?_
  refine xx_iload (q := 40) rfl rfl rfl ?_
  refine xx_iconst (q := 41) rfl rfl (by decide) ?_
  refine xx_icmp_ne (q := 48) (q2 := 44) rfl rfl rfl (fun h41 => ?_) (fun h41 => ?_)
  · refine xx_iconst (q := 49) rfl rfl (by decide) ?_
    refine xx_aload_n (q := 50) rfl rfl rfl ?_
    refine xx_getR (q := 53) rfl rfl rfl xS_479 (Nat.le_of_ble_eq_true rfl) rfl (hR.1 479 46 rfl) ?_
    refine xx_iload_n (q := 54) rfl rfl rfl ?_
    refine xx_iconst (q := 55) rfl rfl (by decide) ?_
    refine xx_iaddR (q := 56) rfl rfl (by omega) (by omega) ?_
    refine xx_iaz (v := c4) (q := 57) rfl rfl xS_507 (by omega) (by omega) ((hV.2.2.2.2.2.2 507 _ (by omega) (by omega) (by omega) (by omega) (by omega) (by omega)).trans (hs.2.2.2.1 (Nat.le_of_ble_eq_true rfl))) ?_
    obtain ⟨D1, hx1, hV1⟩ := r_passes (n := n) hR hV hI hG a 0 c4 (by omega) (by omega)
    have hI1 : KI (pasT K G a 0 c4) := pasT_I hI
    refine xx_callV (q := 60) (As := [_, _, _]) (rest := []) rfl rfl rfl (Or.inl rfl) rfl rfl (Nat.le_of_ble_eq_true rfl) xS_479 (XCm hx1 rfl) rfl ?_
    refine xx_istore (q := 62) (loc2 := [_, _, _, _, _, _, _]) rfl rfl (Nat.le_of_ble_eq_true rfl) rfl ?_
    refine xx_iload (q := 64) rfl rfl rfl ?_
    refine xx_if_lt (q := 77) (q2 := 67) rfl rfl rfl (fun h64 => ?_) (fun h64 => ?_)
    · refine xx_iload (q := 79) rfl rfl rfl ?_
      refine xx_if_ge (q := 87) (q2 := 82) rfl rfl rfl (fun h79 => (by exfalso; omega)) (fun _ => ?_)
      refine xx_iload (q := 84) rfl rfl rfl ?_
      refine xx_goto (q := 88) rfl rfl ?_
      refine xx_iret rfl trivial ⟨congrArg (fun z => some (Sum.inl z)) (by have hu : up1 b4 = 0 := if_neg h41; show _ = mnF (pasR K G a (up1 b4) c4) 0; rw [hu]; have hm := mnF_sp (pasR K G a 0 c4) 0; omega), _, rfl, ?_⟩
      have hu : up1 b4 = 0 := if_neg h41
      exact ⟨by show RV t (pasT K G a (up1 b4) c4) (rpb t K G a (up1 b4) c4 b) (rpB t K G a (up1 b4) c4 b B) (rpU t K G a (up1 b4) c4 b U) _ _; rw [hu]; exact hV1.me, hV1.2.2.2.2.2.2.fw, by show _ = nrm (f + (if pasR K G a (up1 b4) c4 < 0 then (0 : Int) else 1)); rw [hu, if_pos (by omega), Int.add_zero, nrm_id hfok]; exact (hV1.2.2.2.2.2.2 479 51 (by omega) (by omega) (by omega) (by omega) (by omega) (by omega)).trans hf, (hV1.2.2.2.2.2.2 479 52 (by omega) (by omega) (by omega) (by omega) (by omega) (by omega)).trans hg⟩
    · refine xx_aload_n (q := 68) rfl rfl rfl ?_
      refine xx_aload_n (q := 69) rfl rfl rfl ?_
      refine xx_gez (q := 72) rfl rfl rfl xS_479 (Nat.le_of_ble_eq_true rfl) rfl ((hV1.2.2.2.2.2.2 479 51 (by omega) (by omega) (by omega) (by omega) (by omega) (by omega)).trans hf) ?_
      refine xx_iconst (q := 73) rfl rfl (by decide) ?_
      refine xx_iadd (q := 74) rfl rfl ?_
      refine xx_puz (q := 77) rfl rfl rfl xS_479 (Nat.le_of_ble_eq_true rfl) (Nat.le_of_ble_eq_true rfl) (fun h => by cases h) (Or.inl rfl) rfl ?_
      refine xx_iload (q := 79) rfl rfl rfl ?_
      refine xx_if_ge (q := 87) (q2 := 82) rfl rfl rfl (fun _ => ?_) (fun h79 => (by exfalso; omega))
      refine xx_iconst (q := 88) rfl rfl (by decide) ?_
      refine xx_iret rfl trivial ⟨congrArg (fun z => some (Sum.inl z)) (by have hu : up1 b4 = 0 := if_neg h41; show _ = mnF (pasR K G a (up1 b4) c4) 0; rw [hu]; have hm := mnF_sp (pasR K G a 0 c4) 0; omega), _, rfl, ?_⟩
      have hu : up1 b4 = 0 := if_neg h41
      exact ⟨by show RV t (pasT K G a (up1 b4) c4) (rpb t K G a (up1 b4) c4 b) (rpB t K G a (up1 b4) c4 b B) (rpU t K G a (up1 b4) c4 b U) _ _; rw [hu]; exact hV1.u (by decide), hV1.2.2.2.2.2.2.fw.up (by decide), by show _ = nrm (f + (if pasR K G a (up1 b4) c4 < 0 then (0 : Int) else 1)); rw [hu, if_neg (by omega)]; exact xui_s, (xui_j (by decide)).trans ((hV1.2.2.2.2.2.2 479 52 (by omega) (by omega) (by omega) (by omega) (by omega) (by omega)).trans hg)⟩
  · refine xx_iconst (q := 45) rfl rfl (by decide) ?_
    refine xx_goto (q := 49) rfl rfl ?_
    refine xx_aload_n (q := 50) rfl rfl rfl ?_
    refine xx_getR (q := 53) rfl rfl rfl xS_479 (Nat.le_of_ble_eq_true rfl) rfl (hR.1 479 46 rfl) ?_
    refine xx_iload_n (q := 54) rfl rfl rfl ?_
    refine xx_iconst (q := 55) rfl rfl (by decide) ?_
    refine xx_iaddR (q := 56) rfl rfl (by omega) (by omega) ?_
    refine xx_iaz (v := c4) (q := 57) rfl rfl xS_507 (by omega) (by omega) ((hV.2.2.2.2.2.2 507 _ (by omega) (by omega) (by omega) (by omega) (by omega) (by omega)).trans (hs.2.2.2.1 (Nat.le_of_ble_eq_true rfl))) ?_
    obtain ⟨D3, hx3, hV3⟩ := r_passes (n := n) hR hV hI hG a 1 c4 (by omega) (by omega)
    have hI3 : KI (pasT K G a 1 c4) := pasT_I hI
    refine xx_callV (q := 60) (As := [_, _, _]) (rest := []) rfl rfl rfl (Or.inl rfl) rfl rfl (Nat.le_of_ble_eq_true rfl) xS_479 (XCm hx3 rfl) rfl ?_
    refine xx_istore (q := 62) (loc2 := [_, _, _, _, _, _, _]) rfl rfl (Nat.le_of_ble_eq_true rfl) rfl ?_
    refine xx_iload (q := 64) rfl rfl rfl ?_
    refine xx_if_lt (q := 77) (q2 := 67) rfl rfl rfl (fun h64 => ?_) (fun h64 => ?_)
    · refine xx_iload (q := 79) rfl rfl rfl ?_
      refine xx_if_ge (q := 87) (q2 := 82) rfl rfl rfl (fun h79 => (by exfalso; omega)) (fun _ => ?_)
      refine xx_iload (q := 84) rfl rfl rfl ?_
      refine xx_goto (q := 88) rfl rfl ?_
      refine xx_iret rfl trivial ⟨congrArg (fun z => some (Sum.inl z)) (by have hu : up1 b4 = 1 := if_pos h41; show _ = mnF (pasR K G a (up1 b4) c4) 0; rw [hu]; have hm := mnF_sp (pasR K G a 1 c4) 0; omega), _, rfl, ?_⟩
      have hu : up1 b4 = 1 := if_pos h41
      exact ⟨by show RV t (pasT K G a (up1 b4) c4) (rpb t K G a (up1 b4) c4 b) (rpB t K G a (up1 b4) c4 b B) (rpU t K G a (up1 b4) c4 b U) _ _; rw [hu]; exact hV3.me, hV3.2.2.2.2.2.2.fw, by show _ = nrm (f + (if pasR K G a (up1 b4) c4 < 0 then (0 : Int) else 1)); rw [hu, if_pos (by omega), Int.add_zero, nrm_id hfok]; exact (hV3.2.2.2.2.2.2 479 51 (by omega) (by omega) (by omega) (by omega) (by omega) (by omega)).trans hf, (hV3.2.2.2.2.2.2 479 52 (by omega) (by omega) (by omega) (by omega) (by omega) (by omega)).trans hg⟩
    · refine xx_aload_n (q := 68) rfl rfl rfl ?_
      refine xx_aload_n (q := 69) rfl rfl rfl ?_
      refine xx_gez (q := 72) rfl rfl rfl xS_479 (Nat.le_of_ble_eq_true rfl) rfl ((hV3.2.2.2.2.2.2 479 51 (by omega) (by omega) (by omega) (by omega) (by omega) (by omega)).trans hf) ?_
      refine xx_iconst (q := 73) rfl rfl (by decide) ?_
      refine xx_iadd (q := 74) rfl rfl ?_
      refine xx_puz (q := 77) rfl rfl rfl xS_479 (Nat.le_of_ble_eq_true rfl) (Nat.le_of_ble_eq_true rfl) (fun h => by cases h) (Or.inl rfl) rfl ?_
      refine xx_iload (q := 79) rfl rfl rfl ?_
      refine xx_if_ge (q := 87) (q2 := 82) rfl rfl rfl (fun _ => ?_) (fun h79 => (by exfalso; omega))
      refine xx_iconst (q := 88) rfl rfl (by decide) ?_
      refine xx_iret rfl trivial ⟨congrArg (fun z => some (Sum.inl z)) (by have hu : up1 b4 = 1 := if_pos h41; show _ = mnF (pasR K G a (up1 b4) c4) 0; rw [hu]; have hm := mnF_sp (pasR K G a 1 c4) 0; omega), _, rfl, ?_⟩
      have hu : up1 b4 = 1 := if_pos h41
      exact ⟨by show RV t (pasT K G a (up1 b4) c4) (rpb t K G a (up1 b4) c4 b) (rpB t K G a (up1 b4) c4 b B) (rpU t K G a (up1 b4) c4 b U) _ _; rw [hu]; exact hV3.u (by decide), hV3.2.2.2.2.2.2.fw.up (by decide), by show _ = nrm (f + (if pasR K G a (up1 b4) c4 < 0 then (0 : Int) else 1)); rw [hu, if_neg (by omega)]; exact xui_s, (xui_j (by decide)).trans ((hV3.2.2.2.2.2.2 479 52 (by omega) (by omega) (by omega) (by omega) (by omega) (by omega)).trans hg)⟩
set_option maxHeartbeats 1000000 in
theorem r_do1 {n : Nat} {R : Nat → Nat → Option Nat} {t : Int} {K D : KK} {b : Int} {B : Nat → Int} {U : UU} (hR : RF R) (hV : RV t K b B U D D) (hI : KI K) {G Hh : LwF} (hG : RLG G n R D) (hH : RLH Hh n R D) (j f g a b4 c4 d : Int) (hj0 : 0 ≤ j) (hj1 : j < 30) (hs : StR (5 * j) (1, a, b4, c4, d) D) (hvs : VS K (1, a, b4, c4, d)) (hf : D 479 51 = f) (hg : D 479 52 = g) (hfk : xok f) (hgk : xok g) : ∃ D', XC 8 254 [.inr (some 479), .inl j] (xS n, R, D) (some (.inl (stpW K G Hh (1, a, b4, c4, d)))) (xS n, R, D') ∧ TZ t (stpV t (K, b, B, U) G Hh (1, a, b4, c4, d)) D' D' ∧ FW D D' ∧ D' 479 51 = stpF K G (1, a, b4, c4, d) f ∧ D' 479 52 = stpG K (1, a, b4, c4, d) g := by
  have hj := hvs.2
  have hfok : xok f := hfk
  have hgok : xok g := hgk
  refine XE_of (Nat.le_of_ble_eq_true rfl) (Nat.le_of_ble_eq_true rfl) (loc := [_, _, _, _, _, _, _]) rfl ?_
  refine xx_iconst (q := 1) rfl rfl (by decide) ?_
  refine xx_iload_n (q := 2) rfl rfl rfl ?_
  refine xx_imulR (q := 3) rfl rfl (by omega) (by omega) ?_
  refine xx_istore_n (q := 4) (loc2 := [_, _, _, _, _, _, _]) rfl rfl (Nat.le_of_ble_eq_true rfl) rfl ?_
  refine xx_aload_n (q := 5) rfl rfl rfl ?_
  refine xx_getR (q := 8) rfl rfl rfl xS_479 (Nat.le_of_ble_eq_true rfl) rfl (hR.1 479 46 rfl) ?_
  refine xx_iload_n (q := 9) rfl rfl rfl ?_
  refine xx_iaz (v := 1) (q := 10) rfl rfl xS_507 (by omega) (by omega) ((hV.2.2.2.2.2.2 507 _ (by omega) (by omega) (by omega) (by omega) (by omega) (by omega)).trans (hs.1)) ?_
  refine xx_istore_n (q := 11) (loc2 := [_, _, _, _, _, _, _]) rfl rfl (Nat.le_of_ble_eq_true rfl) rfl ?_
  refine xx_aload_n (q := 12) rfl rfl rfl ?_
  refine xx_getR (q := 15) rfl rfl rfl xS_479 (Nat.le_of_ble_eq_true rfl) rfl (hR.1 479 46 rfl) ?_
  refine xx_iload_n (q := 16) rfl rfl rfl ?_
  refine xx_iconst (q := 17) rfl rfl (by decide) ?_
  refine xx_iaddR (q := 18) rfl rfl (by omega) (by omega) ?_
  refine xx_iaz (v := a) (q := 19) rfl rfl xS_507 (by omega) (by omega) ((hV.2.2.2.2.2.2 507 _ (by omega) (by omega) (by omega) (by omega) (by omega) (by omega)).trans (hs.2.1)) ?_
  refine xx_istore (q := 21) (loc2 := [_, _, _, _, _, _, _]) rfl rfl (Nat.le_of_ble_eq_true rfl) rfl ?_
  refine xx_aload_n (q := 22) rfl rfl rfl ?_
  refine xx_getR (q := 25) rfl rfl rfl xS_479 (Nat.le_of_ble_eq_true rfl) rfl (hR.1 479 46 rfl) ?_
  refine xx_iload_n (q := 26) rfl rfl rfl ?_
  refine xx_iconst (q := 27) rfl rfl (by decide) ?_
  refine xx_iaddR (q := 28) rfl rfl (by omega) (by omega) ?_
  refine xx_iaz (v := b4) (q := 29) rfl rfl xS_507 (by omega) (by omega) ((hV.2.2.2.2.2.2 507 _ (by omega) (by omega) (by omega) (by omega) (by omega) (by omega)).trans (hs.2.2.1 (Nat.le_of_ble_eq_true rfl))) ?_
  refine xx_istore (q := 31) (loc2 := [_, _, _, _, _, _, _]) rfl rfl (Nat.le_of_ble_eq_true rfl) rfl ?_
  refine xx_iload_n (q := 32) rfl rfl rfl ?_
  refine xx_if_ne (q := 89) (q2 := 35) rfl rfl rfl (fun _ => ?_) (fun h32 => (by exfalso; omega))
  refine xx_iload_n (q := 90) rfl rfl rfl ?_
  refine xx_iconst (q := 91) rfl rfl (by decide) ?_
  refine xx_icmp_ne (q := 159) (q2 := 94) rfl rfl rfl (fun h91 => (by exfalso; omega)) (fun _ => ?_)
  refine xx_aload_n (q := 95) rfl rfl rfl ?_
  refine xx_aload_n (q := 96) rfl rfl rfl ?_
  refine xx_getR (q := 99) rfl rfl rfl xS_479 (Nat.le_of_ble_eq_true rfl) rfl (hR.1 479 46 rfl) ?_
  refine xx_iload_n (q := 100) rfl rfl rfl ?_
  refine xx_iconst (q := 101) rfl rfl (by decide) ?_
  refine xx_iaddR (q := 102) rfl rfl (by omega) (by omega) ?_
  refine xx_iaz (v := d) (q := 103) rfl rfl xS_507 (by omega) (by omega) ((hV.2.2.2.2.2.2 507 _ (by omega) (by omega) (by omega) (by omega) (by omega) (by omega)).trans (hs.2.2.2.2 rfl)) ?_
  refine xx_iload (q := 105) rfl rfl rfl ?_
  refine xx_iload (q := 107) rfl rfl rfl ?_
  refine xx_aload_n (q := 108) rfl rfl rfl ?_
  refine xx_getR (q := 111) rfl rfl rfl xS_479 (Nat.le_of_ble_eq_true rfl) rfl (hR.1 479 46 rfl) ?_
  refine xx_iload_n (q := 112) rfl rfl rfl ?_
  refine xx_iconst (q := 113) rfl rfl (by decide) ?_
  refine xx_iaddR (q := 114) rfl rfl (by omega) (by omega) ?_
  refine xx_iaz (v := c4) (q := 115) rfl rfl xS_507 (by omega) (by omega) ((hV.2.2.2.2.2.2 507 _ (by omega) (by omega) (by omega) (by omega) (by omega) (by omega)).trans (hs.2.2.2.1 (Nat.le_of_ble_eq_true rfl))) ?_
  refine xx_callV (q := 118) (As := [_, _, _, _]) (rest := []) rfl rfl rfl (Or.inl rfl) rfl rfl (Nat.le_of_ble_eq_true rfl) xS_479 (XCm (r_canGive hR hV hI d b4 a c4) rfl) rfl ?_
  refine xx_ifb_ne (q := 123) (q2 := 121) rfl rfl rfl (fun h118 => ?_) (fun h118 => ?_)
  · have hcn := h118
    refine xx_aload_n (q := 124) rfl rfl rfl ?_
    refine xx_aload_n (q := 125) rfl rfl rfl ?_
    refine xx_getR (q := 128) rfl rfl rfl xS_479 (Nat.le_of_ble_eq_true rfl) rfl (hR.1 479 46 rfl) ?_
    refine xx_iload_n (q := 129) rfl rfl rfl ?_
    refine xx_iconst (q := 130) rfl rfl (by decide) ?_
    refine xx_iaddR (q := 131) rfl rfl (by omega) (by omega) ?_
    refine xx_iaz (v := d) (q := 132) rfl rfl xS_507 (by omega) (by omega) ((hV.2.2.2.2.2.2 507 _ (by omega) (by omega) (by omega) (by omega) (by omega) (by omega)).trans (hs.2.2.2.2 rfl)) ?_
    refine xx_iload (q := 134) rfl rfl rfl ?_
    refine xx_iload (q := 136) rfl rfl rfl ?_
    refine xx_aload_n (q := 137) rfl rfl rfl ?_
    refine xx_getR (q := 140) rfl rfl rfl xS_479 (Nat.le_of_ble_eq_true rfl) rfl (hR.1 479 46 rfl) ?_
    refine xx_iload_n (q := 141) rfl rfl rfl ?_
    refine xx_iconst (q := 142) rfl rfl (by decide) ?_
    refine xx_iaddR (q := 143) rfl rfl (by omega) (by omega) ?_
    refine xx_iaz (v := c4) (q := 144) rfl rfl xS_507 (by omega) (by omega) ((hV.2.2.2.2.2.2 507 _ (by omega) (by omega) (by omega) (by omega) (by omega) (by omega)).trans (hs.2.2.2.1 (Nat.le_of_ble_eq_true rfl))) ?_
    obtain ⟨D1, hx1, hV1⟩ := r_gives (n := n) hR hV hI hH d b4 a c4 hcn
    have hI1 : KI (givK K Hh d b4 a c4) := givK_I hI hcn
    refine xx_callV (q := 147) (As := [_, _, _, _]) (rest := []) rfl rfl rfl (Or.inl rfl) rfl rfl (Nat.le_of_ble_eq_true rfl) xS_479 (XCm hx1 rfl) rfl ?_
    refine xx_pop (q := 148) rfl rfl ?_
    refine xx_aload_n (q := 149) rfl rfl rfl ?_
    refine xx_aload_n (q := 150) rfl rfl rfl ?_
    refine xx_gez (q := 153) rfl rfl rfl xS_479 (Nat.le_of_ble_eq_true rfl) rfl ((hV1.2.2.2.2.2.2 479 52 (by omega) (by omega) (by omega) (by omega) (by omega) (by omega)).trans hg) ?_
    refine xx_iload (q := 155) rfl rfl rfl ?_
    refine xx_iadd (q := 156) rfl rfl ?_
    refine xx_puz (q := 159) rfl rfl rfl xS_479 (Nat.le_of_ble_eq_true rfl) (Nat.le_of_ble_eq_true rfl) (fun h => by cases h) (Or.inl rfl) rfl ?_
    refine xx_iload_n (q := 160) rfl rfl rfl ?_
    refine xx_iconst (q := 161) rfl rfl (by decide) ?_
    refine xx_icmp_ne (q := 181) (q2 := 164) rfl rfl rfl (fun _ => ?_) (fun h161 => (by exfalso; omega))
    refine xx_iload_n (q := 182) rfl rfl rfl ?_
    refine xx_iconst (q := 183) rfl rfl (by decide) ?_
    refine xx_icmp_ne (q := 210) (q2 := 186) rfl rfl rfl (fun _ => ?_) (fun h183 => (by exfalso; omega))
    refine xx_iconst (q := 211) rfl rfl (by decide) ?_
    refine xx_iret rfl trivial ⟨congrArg (fun z => some (Sum.inl z)) (by show _ = (if canF K d b4 a c4 then (0 : Int) else -1); exact (if_pos h118).symm), _, rfl, ?_⟩
    exact ⟨by show TZ t (if canF K d b4 a c4 then _ else _) _ _; rw [if_pos h118]; exact hV1.u (by decide), hV1.2.2.2.2.2.2.fw.up (by decide), (xui_j (by decide)).trans ((hV1.2.2.2.2.2.2 479 51 (by omega) (by omega) (by omega) (by omega) (by omega) (by omega)).trans hf), by show _ = nrm (g + (if canF K d b4 a c4 then a else (0 : Int))); rw [if_pos h118]; exact xui_s⟩
  · refine xx_iconst (q := 122) rfl rfl (by decide) ?_
    refine xx_iret rfl trivial ⟨congrArg (fun z => some (Sum.inl z)) (by show _ = (if canF K d b4 a c4 then (0 : Int) else -1); exact (if_neg h118).symm), _, rfl, ?_⟩
    exact ⟨by show TZ t (if canF K d b4 a c4 then _ else _) _ _; rw [if_neg h118]; exact hV.me, hV.2.2.2.2.2.2.fw, (hV.2.2.2.2.2.2 479 51 (by omega) (by omega) (by omega) (by omega) (by omega) (by omega)).trans hf, by show _ = nrm (g + (if canF K d b4 a c4 then a else (0 : Int))); rw [if_neg h118, Int.add_zero, nrm_id hgok]; exact (hV.2.2.2.2.2.2 479 52 (by omega) (by omega) (by omega) (by omega) (by omega) (by omega)).trans hg⟩
set_option maxHeartbeats 1000000 in
theorem r_do2 {n : Nat} {R : Nat → Nat → Option Nat} {t : Int} {K D : KK} {b : Int} {B : Nat → Int} {U : UU} (hR : RF R) (hV : RV t K b B U D D) (hI : KI K) {G Hh : LwF} (hG : RLG G n R D) (hH : RLH Hh n R D) (j f g a b4 c4 d : Int) (hj0 : 0 ≤ j) (hj1 : j < 30) (hs : StR (5 * j) (2, a, b4, c4, d) D) (hvs : VS K (2, a, b4, c4, d)) (hf : D 479 51 = f) (hg : D 479 52 = g) (hfk : xok f) (hgk : xok g) : ∃ D', XC 5 254 [.inr (some 479), .inl j] (xS n, R, D) (some (.inl (stpW K G Hh (2, a, b4, c4, d)))) (xS n, R, D') ∧ TZ t (stpV t (K, b, B, U) G Hh (2, a, b4, c4, d)) D' D' ∧ FW D D' ∧ D' 479 51 = stpF K G (2, a, b4, c4, d) f ∧ D' 479 52 = stpG K (2, a, b4, c4, d) g := by
  have hj := hvs.2
  have hfok : xok f := hfk
  have hgok : xok g := hgk
  have hp : pulP K a b4 := hvs.2.2.1 rfl
  refine XE_of (Nat.le_of_ble_eq_true rfl) (Nat.le_of_ble_eq_true rfl) (loc := [_, _, _, _, _, _, _]) rfl ?_
  refine xx_iconst (q := 1) rfl rfl (by decide) ?_
  refine xx_iload_n (q := 2) rfl rfl rfl ?_
  refine xx_imulR (q := 3) rfl rfl (by omega) (by omega) ?_
  refine xx_istore_n (q := 4) (loc2 := [_, _, _, _, _, _, _]) rfl rfl (Nat.le_of_ble_eq_true rfl) rfl ?_
  refine xx_aload_n (q := 5) rfl rfl rfl ?_
  refine xx_getR (q := 8) rfl rfl rfl xS_479 (Nat.le_of_ble_eq_true rfl) rfl (hR.1 479 46 rfl) ?_
  refine xx_iload_n (q := 9) rfl rfl rfl ?_
  refine xx_iaz (v := 2) (q := 10) rfl rfl xS_507 (by omega) (by omega) ((hV.2.2.2.2.2.2 507 _ (by omega) (by omega) (by omega) (by omega) (by omega) (by omega)).trans (hs.1)) ?_
  refine xx_istore_n (q := 11) (loc2 := [_, _, _, _, _, _, _]) rfl rfl (Nat.le_of_ble_eq_true rfl) rfl ?_
  refine xx_aload_n (q := 12) rfl rfl rfl ?_
  refine xx_getR (q := 15) rfl rfl rfl xS_479 (Nat.le_of_ble_eq_true rfl) rfl (hR.1 479 46 rfl) ?_
  refine xx_iload_n (q := 16) rfl rfl rfl ?_
  refine xx_iconst (q := 17) rfl rfl (by decide) ?_
  refine xx_iaddR (q := 18) rfl rfl (by omega) (by omega) ?_
  refine xx_iaz (v := a) (q := 19) rfl rfl xS_507 (by omega) (by omega) ((hV.2.2.2.2.2.2 507 _ (by omega) (by omega) (by omega) (by omega) (by omega) (by omega)).trans (hs.2.1)) ?_
  refine xx_istore (q := 21) (loc2 := [_, _, _, _, _, _, _]) rfl rfl (Nat.le_of_ble_eq_true rfl) rfl ?_
  refine xx_aload_n (q := 22) rfl rfl rfl ?_
  refine xx_getR (q := 25) rfl rfl rfl xS_479 (Nat.le_of_ble_eq_true rfl) rfl (hR.1 479 46 rfl) ?_
  refine xx_iload_n (q := 26) rfl rfl rfl ?_
  refine xx_iconst (q := 27) rfl rfl (by decide) ?_
  refine xx_iaddR (q := 28) rfl rfl (by omega) (by omega) ?_
  refine xx_iaz (v := b4) (q := 29) rfl rfl xS_507 (by omega) (by omega) ((hV.2.2.2.2.2.2 507 _ (by omega) (by omega) (by omega) (by omega) (by omega) (by omega)).trans (hs.2.2.1 (Nat.le_of_ble_eq_true rfl))) ?_
  refine xx_istore (q := 31) (loc2 := [_, _, _, _, _, _, _]) rfl rfl (Nat.le_of_ble_eq_true rfl) rfl ?_
  refine xx_iload_n (q := 32) rfl rfl rfl ?_
  refine xx_if_ne (q := 89) (q2 := 35) rfl rfl rfl (fun _ => ?_) (fun h32 => (by exfalso; omega))
  refine xx_iload_n (q := 90) rfl rfl rfl ?_
  refine xx_iconst (q := 91) rfl rfl (by decide) ?_
  refine xx_icmp_ne (q := 159) (q2 := 94) rfl rfl rfl (fun _ => ?_) (fun h91 => (by exfalso; omega))
  refine xx_iload_n (q := 160) rfl rfl rfl ?_
  refine xx_iconst (q := 161) rfl rfl (by decide) ?_
  refine xx_icmp_ne (q := 181) (q2 := 164) rfl rfl rfl (fun h161 => (by exfalso; omega)) (fun _ => ?_)
  refine xx_aload_n (q := 165) rfl rfl rfl ?_
  refine xx_aload_n (q := 166) rfl rfl rfl ?_
  refine xx_gez (q := 169) rfl rfl rfl xS_479 (Nat.le_of_ble_eq_true rfl) rfl hf ?_
  refine xx_aload_n (q := 170) rfl rfl rfl ?_
  refine xx_iload (q := 172) rfl rfl rfl ?_
  refine xx_iload (q := 174) rfl rfl rfl ?_
  obtain ⟨D1, hx1, hV1⟩ := r_pulls (n := n) hR hV hI a b4 hp
  have hI1 : KI (pulL (b4).toNat K a) := pulL_I _ _ _ hI
  refine xx_callV (q := 177) (As := [_, _]) (rest := [_, _]) rfl rfl rfl (Or.inl rfl) rfl rfl (Nat.le_of_ble_eq_true rfl) xS_479 (XCm hx1 rfl) rfl ?_
  refine xx_iadd (q := 178) rfl rfl ?_
  refine xx_puz (q := 181) rfl rfl rfl xS_479 (Nat.le_of_ble_eq_true rfl) (Nat.le_of_ble_eq_true rfl) (fun h => by cases h) (Or.inl rfl) rfl ?_
  refine xx_iload_n (q := 182) rfl rfl rfl ?_
  refine xx_iconst (q := 183) rfl rfl (by decide) ?_
  refine xx_icmp_ne (q := 210) (q2 := 186) rfl rfl rfl (fun _ => ?_) (fun h183 => (by exfalso; omega))
  refine xx_iconst (q := 211) rfl rfl (by decide) ?_
  refine xx_iret rfl trivial ⟨congrArg (fun z => some (Sum.inl z)) (by show _ = (if pulP K a b4 then (0 : Int) else -1); exact (if_pos hp).symm), _, rfl, ?_⟩
  exact ⟨by show TZ t (if pulP K a b4 then _ else _) _ _; rw [if_pos hp]; exact hV1.u (by decide), hV1.2.2.2.2.2.2.fw.up (by decide), by show _ = nrm (f + mxF (pulR K a b4) 0); rw [show mxF (pulR K a b4) 0 = (pulN b4.toNat K a : Int) from by unfold pulR; rw [if_pos hp]; have := mxF_sp ((pulN b4.toNat K a : Nat) : Int) 0; omega]; exact xui_s, (xui_j (by decide)).trans ((hV1.2.2.2.2.2.2 479 52 (by omega) (by omega) (by omega) (by omega) (by omega) (by omega)).trans hg)⟩
set_option maxHeartbeats 1000000 in
theorem r_do3 {n : Nat} {R : Nat → Nat → Option Nat} {t : Int} {K D : KK} {b : Int} {B : Nat → Int} {U : UU} (hR : RF R) (hV : RV t K b B U D D) (hI : KI K) {G Hh : LwF} (hG : RLG G n R D) (hH : RLH Hh n R D) (j f g a b4 c4 d : Int) (hj0 : 0 ≤ j) (hj1 : j < 30) (hs : StR (5 * j) (3, a, b4, c4, d) D) (hvs : VS K (3, a, b4, c4, d)) (hf : D 479 51 = f) (hg : D 479 52 = g) (hfk : xok f) (hgk : xok g) : ∃ D', XC 7 254 [.inr (some 479), .inl j] (xS n, R, D) (some (.inl (stpW K G Hh (3, a, b4, c4, d)))) (xS n, R, D') ∧ TZ t (stpV t (K, b, B, U) G Hh (3, a, b4, c4, d)) D' D' ∧ FW D D' ∧ D' 479 51 = stpF K G (3, a, b4, c4, d) f ∧ D' 479 52 = stpG K (3, a, b4, c4, d) g := by
  have hj := hvs.2
  have hfok : xok f := hfk
  have hgok : xok g := hgk
  have hv0 := hvs.2.2.2 rfl
  have hv1 : 1 ≤ a := hv0.1
  have hv2 : a ≤ 99 := hv0.2
  refine XE_of (Nat.le_of_ble_eq_true rfl) (Nat.le_of_ble_eq_true rfl) (loc := [_, _, _, _, _, _, _]) rfl ?_
  refine xx_iconst (q := 1) rfl rfl (by decide) ?_
  refine xx_iload_n (q := 2) rfl rfl rfl ?_
  refine xx_imulR (q := 3) rfl rfl (by omega) (by omega) ?_
  refine xx_istore_n (q := 4) (loc2 := [_, _, _, _, _, _, _]) rfl rfl (Nat.le_of_ble_eq_true rfl) rfl ?_
  refine xx_aload_n (q := 5) rfl rfl rfl ?_
  refine xx_getR (q := 8) rfl rfl rfl xS_479 (Nat.le_of_ble_eq_true rfl) rfl (hR.1 479 46 rfl) ?_
  refine xx_iload_n (q := 9) rfl rfl rfl ?_
  refine xx_iaz (v := 3) (q := 10) rfl rfl xS_507 (by omega) (by omega) ((hV.2.2.2.2.2.2 507 _ (by omega) (by omega) (by omega) (by omega) (by omega) (by omega)).trans (hs.1)) ?_
  refine xx_istore_n (q := 11) (loc2 := [_, _, _, _, _, _, _]) rfl rfl (Nat.le_of_ble_eq_true rfl) rfl ?_
  refine xx_aload_n (q := 12) rfl rfl rfl ?_
  refine xx_getR (q := 15) rfl rfl rfl xS_479 (Nat.le_of_ble_eq_true rfl) rfl (hR.1 479 46 rfl) ?_
  refine xx_iload_n (q := 16) rfl rfl rfl ?_
  refine xx_iconst (q := 17) rfl rfl (by decide) ?_
  refine xx_iaddR (q := 18) rfl rfl (by omega) (by omega) ?_
  refine xx_iaz (v := a) (q := 19) rfl rfl xS_507 (by omega) (by omega) ((hV.2.2.2.2.2.2 507 _ (by omega) (by omega) (by omega) (by omega) (by omega) (by omega)).trans (hs.2.1)) ?_
  refine xx_istore (q := 21) (loc2 := [_, _, _, _, _, _, _]) rfl rfl (Nat.le_of_ble_eq_true rfl) rfl ?_
  refine xx_aload_n (q := 22) rfl rfl rfl ?_
  refine xx_getR (q := 25) rfl rfl rfl xS_479 (Nat.le_of_ble_eq_true rfl) rfl (hR.1 479 46 rfl) ?_
  refine xx_iload_n (q := 26) rfl rfl rfl ?_
  refine xx_iconst (q := 27) rfl rfl (by decide) ?_
  refine xx_iaddR (q := 28) rfl rfl (by omega) (by omega) ?_
  refine xx_iaz (q := 29) rfl rfl xS_507 (by omega) (by omega) rfl ?_
  refine xx_istore (q := 31) (loc2 := [_, _, _, _, _, _, _]) rfl rfl (Nat.le_of_ble_eq_true rfl) rfl ?_
  refine xx_iload_n (q := 32) rfl rfl rfl ?_
  refine xx_if_ne (q := 89) (q2 := 35) rfl rfl rfl (fun _ => ?_) (fun h32 => (by exfalso; omega))
  refine xx_iload_n (q := 90) rfl rfl rfl ?_
  refine xx_iconst (q := 91) rfl rfl (by decide) ?_
  refine xx_icmp_ne (q := 159) (q2 := 94) rfl rfl rfl (fun _ => ?_) (fun h91 => (by exfalso; omega))
  refine xx_iload_n (q := 160) rfl rfl rfl ?_
  refine xx_iconst (q := 161) rfl rfl (by decide) ?_
  refine xx_icmp_ne (q := 181) (q2 := 164) rfl rfl rfl (fun _ => ?_) (fun h161 => (by exfalso; omega))
  refine xx_iload_n (q := 182) rfl rfl rfl ?_
  refine xx_iconst (q := 183) rfl rfl (by decide) ?_
  refine xx_icmp_ne (q := 210) (q2 := 186) rfl rfl rfl (fun h183 => (by exfalso; omega)) (fun _ => ?_)
  refine xx_aload_n (q := 187) rfl rfl rfl ?_
  refine xx_getR (q := 190) rfl rfl rfl xS_479 (Nat.le_of_ble_eq_true rfl) rfl (hR.1 479 1 rfl) ?_
  refine xx_iconst (q := 191) rfl rfl (by decide) ?_
  refine xx_iaz (v := K 0 1) (q := 192) rfl rfl xS_480 (by omega) (by omega) (rv_h hV) ?_
  refine xx_iload (q := 194) rfl rfl rfl ?_
  refine xx_iadd (q := 195) rfl rfl ?_
  refine xx_sipush (q := 198) rfl rfl (by decide) ?_
  refine xx_icmp_le (q := 203) (q2 := 201) rfl rfl rfl (fun h198 => ?_) (fun h198 => ?_)
  · refine xx_aload_n (q := 204) rfl rfl rfl ?_
    refine xx_iload (q := 206) rfl rfl rfl ?_
    obtain ⟨D1, hx1, hV1⟩ := r_goesBy (n := n) hR hV hI a (by omega) (by omega)
    have hI1 : KI ((tdsZ t (a).toNat (K, b, B, U)).1) := tdsZ_I _ _ hI
    refine xx_callV (q := 209) (As := [_]) (rest := []) rfl rfl rfl (Or.inl rfl) rfl rfl (Nat.le_of_ble_eq_true rfl) xS_479 (XCm hx1 rfl) rfl ?_
    refine xx_pop (q := 210) rfl rfl ?_
    refine xx_iconst (q := 211) rfl rfl (by decide) ?_
    refine xx_iret rfl trivial ⟨congrArg (fun z => some (Sum.inl z)) (by show _ = (if waiP K a then (0 : Int) else -1); exact (if_pos ⟨⟨by omega, by omega⟩, h198⟩).symm), _, rfl, ?_⟩
    exact ⟨by show TZ t (if waiP K a then _ else _) _ _; rw [if_pos ⟨⟨by omega, by omega⟩, h198⟩]; exact hV1.me, hV1.2.2.2.2.2.2.fw, (hV1.2.2.2.2.2.2 479 51 (by omega) (by omega) (by omega) (by omega) (by omega) (by omega)).trans hf, (hV1.2.2.2.2.2.2 479 52 (by omega) (by omega) (by omega) (by omega) (by omega) (by omega)).trans hg⟩
  · refine xx_iconst (q := 202) rfl rfl (by decide) ?_
    refine xx_iret rfl trivial ⟨congrArg (fun z => some (Sum.inl z)) (by show _ = (if waiP K a then (0 : Int) else -1); exact (if_neg (fun q => h198 q.2)).symm), _, rfl, ?_⟩
    exact ⟨by show TZ t (if waiP K a then _ else _) _ _; rw [if_neg (fun q => h198 q.2)]; exact hV.me, hV.2.2.2.2.2.2.fw, (hV.2.2.2.2.2.2 479 51 (by omega) (by omega) (by omega) (by omega) (by omega) (by omega)).trans hf, (hV.2.2.2.2.2.2 479 52 (by omega) (by omega) (by omega) (by omega) (by omega) (by omega)).trans hg⟩
