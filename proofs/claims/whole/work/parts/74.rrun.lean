/-! Run, planned, far, later: the reference. -/
theorem tdZ_1 {Z : ZZ} : tdZ 1 Z = (hrT Z.1, Z.2.1, Z.2.2.1, Z.2.2.2) := by
  have h1 : ∀ (K : KK) (b : Int), ttb 1 K b = b := fun K b => by unfold ttb tb; split <;> rfl
  have h2 : ∀ (K : KK) (b : Int) (B : Nat → Int), ttB 1 K b B = B := fun K b B => by unfold ttB tB; split <;> rfl
  show (tdK 1 Z.1, ttb 1 (teK 1 Z.1) (trb 1 Z.1 Z.2.1), ttB 1 (teK 1 Z.1) (trb 1 Z.1 Z.2.1) (trB 1 Z.1 Z.2.1 Z.2.2.1), tU 1 Z.1 Z.2.1 Z.2.2.2) = _
  rw [h1, h2]
  rfl
theorem tds_1 : ∀ (k : Nat) (Z : ZZ), tdsZ 1 k Z = (hrsT k Z.1, Z.2.1, Z.2.2.1, Z.2.2.2)
  | 0, _ => rfl
  | k + 1, Z => by
    show tdsZ 1 k (tdZ 1 Z) = _
    rw [tds_1 k, tdZ_1]
    rfl
theorem stpV_o {t : Int} {Z : ZZ} {G Hh : LwF} {w : Nat} {a b c d : Int} (n0 : ¬ w = 0) (n1 : ¬ w = 1) (n2 : ¬ w = 2) : stpV t Z G Hh (w, a, b, c, d) = if waiP Z.1 a then tdsZ t a.toNat Z else Z := by
  unfold stpV
  split
  · rename_i h; injection h with h1; exact absurd h1 n0
  · rename_i h; injection h with h1; exact absurd h1 n1
  · rename_i h; injection h with h1; exact absurd h1 n2
  · rename_i h; injection h with h1 h2; injection h2 with h3; rw [h3]
theorem stpZ_o {Z : ZZ} {G Hh : LwF} {w : Nat} {a b c d : Int} (n0 : ¬ w = 0) (n1 : ¬ w = 1) (n2 : ¬ w = 2) : stpZ Z G Hh (w, a, b, c, d) = waiZ Z a := by
  unfold stpZ
  split
  · rename_i h; injection h with h1; exact absurd h1 n0
  · rename_i h; injection h with h1; exact absurd h1 n1
  · rename_i h; injection h with h1; exact absurd h1 n2
  · rename_i h; injection h with h1 h2; injection h2 with h3; rw [h3]
theorem stpT_o {K : KK} {G Hh : LwF} {w : Nat} {a b c d : Int} (n0 : ¬ w = 0) (n1 : ¬ w = 1) (n2 : ¬ w = 2) : stpT K G Hh (w, a, b, c, d) = waiT K a := by
  unfold stpT
  split
  · rename_i h; injection h with h1; exact absurd h1 n0
  · rename_i h; injection h with h1; exact absurd h1 n1
  · rename_i h; injection h with h1; exact absurd h1 n2
  · rename_i h; injection h with h1 h2; injection h2 with h3; rw [h3]
theorem stpV_0 {Z : ZZ} {G Hh : LwF} {s : PSt} : stpV 0 Z G Hh s = stpZ Z G Hh s := by
  obtain ⟨w, a, b, c, d⟩ := s
  rcases Classical.em (w = 0) with rfl | n0
  · rfl
  rcases Classical.em (w = 1) with rfl | n1
  · show (if canF Z.1 d b a c then (givK Z.1 Hh d b a c, tb 0 Z.2.1, tB 0 Z.1 Z.2.1 Z.2.2.1 1 c d a, tU 0 Z.1 Z.2.1 Z.2.2.2) else Z) = (givT Z.1 Hh d b a c, givb Z.1 d b a c Z.2.1, givB Z.1 d b a c Z.2.1 Z.2.2.1, givU Z.1 d b a c Z.2.1 Z.2.2.2)
    unfold givT givb givB givU
    rcases Classical.em (canF Z.1 d b a c) with h | h
    · simp only [if_pos h]; rfl
    · simp only [if_neg h]
  rcases Classical.em (w = 2) with rfl | n2
  · show (if pulP Z.1 a b then (pulL b.toNat Z.1 a, rlb 0 Z.1 a b Z.2.1, rlB 0 Z.1 a b Z.2.1 Z.2.2.1, tU 0 Z.1 Z.2.1 Z.2.2.2) else Z) = (pulT Z.1 a b, pullb Z.1 a b Z.2.1, pullB Z.1 a b Z.2.1 Z.2.2.1, pullU Z.1 a b Z.2.1 Z.2.2.2)
    unfold pulT pullb pullB pullU
    rcases Classical.em (pulP Z.1 a b) with h | h
    · simp only [if_pos h]; rfl
    · simp only [if_neg h]
  · rw [stpV_o n0 n1 n2, stpZ_o n0 n1 n2]
    unfold waiZ
    split
    · exact (tds_0 _ _).1
    · rfl
theorem stpV_1 {Z : ZZ} {G Hh : LwF} {s : PSt} : stpV 1 Z G Hh s = (stpT Z.1 G Hh s, Z.2.1, Z.2.2.1, Z.2.2.2) := by
  obtain ⟨w, a, b, c, d⟩ := s
  rcases Classical.em (w = 0) with rfl | n0
  · show (pasT Z.1 G a (up1 b) c, rpb 1 Z.1 G a (up1 b) c Z.2.1, rpB 1 Z.1 G a (up1 b) c Z.2.1 Z.2.2.1, rpU 1 Z.1 G a (up1 b) c Z.2.1 Z.2.2.2) = _
    rw [rpb_1, rpB_1, rpU_1]
    rfl
  rcases Classical.em (w = 1) with rfl | n1
  · show (if canF Z.1 d b a c then (givK Z.1 Hh d b a c, tb 1 Z.2.1, tB 1 Z.1 Z.2.1 Z.2.2.1 1 c d a, tU 1 Z.1 Z.2.1 Z.2.2.2) else Z) = (givT Z.1 Hh d b a c, Z.2.1, Z.2.2.1, Z.2.2.2)
    unfold givT
    rcases Classical.em (canF Z.1 d b a c) with h | h
    · simp only [if_pos h]; rfl
    · simp only [if_neg h]
  rcases Classical.em (w = 2) with rfl | n2
  · show (if pulP Z.1 a b then (pulL b.toNat Z.1 a, rlb 1 Z.1 a b Z.2.1, rlB 1 Z.1 a b Z.2.1 Z.2.2.1, tU 1 Z.1 Z.2.1 Z.2.2.2) else Z) = (pulT Z.1 a b, Z.2.1, Z.2.2.1, Z.2.2.2)
    have h1 : rlb 1 Z.1 a b Z.2.1 = Z.2.1 := by unfold rlb; split <;> rfl
    have h2 : rlB 1 Z.1 a b Z.2.1 Z.2.2.1 = Z.2.2.1 := by unfold rlB; split <;> rfl
    rw [h1, h2]
    unfold pulT
    rcases Classical.em (pulP Z.1 a b) with h | h
    · simp only [if_pos h]; rfl
    · simp only [if_neg h]
  · rw [stpV_o n0 n1 n2, stpT_o n0 n1 n2]
    unfold waiT
    rcases Classical.em (waiP Z.1 a) with h | h
    · simp only [if_pos h]; exact tds_1 _ _
    · simp only [if_neg h]
theorem carV_0 {G Hh : LwF} : ∀ (P : List PSt) (Z : ZZ) (i f g : Int), carV 0 G Hh P Z i f g = carZ G Hh P Z i f g
  | [], _, _, _, _ => rfl
  | s :: ss, Z, i, f, g => by
    show (if stpW Z.1 G Hh s = 0 then carV 0 G Hh ss (stpV 0 Z G Hh s) (i + 1) (stpF Z.1 G s f) (stpG Z.1 s g) else (i, stpW Z.1 G Hh s, stpF Z.1 G s f, stpG Z.1 s g, stpV 0 Z G Hh s)) = _
    rw [stpV_0, carV_0 ss]
    rfl
def carY (c : Int × Int × Int × Int × KK) (b : Int) (B : Nat → Int) (U : UU) : Int × Int × Int × Int × ZZ := (c.1, c.2.1, c.2.2.1, c.2.2.2.1, (c.2.2.2.2, b, B, U))
theorem carV_1 {G Hh : LwF} : ∀ (P : List PSt) (K : KK) (b : Int) (B : Nat → Int) (U : UU) (i f g : Int), carV 1 G Hh P (K, b, B, U) i f g = carY (carT G Hh P K i f g) b B U
  | [], _, _, _, _, _, _, _ => rfl
  | s :: ss, K, b, B, U, i, f, g => by
    show (if stpW K G Hh s = 0 then carV 1 G Hh ss (stpV 1 (K, b, B, U) G Hh s) (i + 1) (stpF K G s f) (stpG K s g) else (i, stpW K G Hh s, stpF K G s f, stpG K s g, stpV 1 (K, b, B, U) G Hh s)) = carY (if stpW K G Hh s = 0 then carT G Hh ss (stpT K G Hh s) (i + 1) (stpF K G s f) (stpG K s g) else (i, stpW K G Hh s, stpF K G s f, stpG K s g, stpT K G Hh s)) b B U
    rw [stpV_1, carV_1 ss]
    rcases Classical.em (stpW K G Hh s = 0) with h | h
    · rw [if_pos h, if_pos h]
    · rw [if_neg h, if_neg h]; rfl
theorem td1 {K : KK} {b : Int} {B : Nat → Int} {U : UU} {D0 D : KK} (h : RV 1 (tdK 1 K) (tdb 1 K b) (tdB 1 K b B) (tU 1 K b U) D0 D) : RV 1 (hrT K) b B U D0 D := by
  have e := tdZ_1 (Z := (K, b, B, U))
  have h2 : TZ 1 (tdZ 1 (K, b, B, U)) D0 D := h
  rw [e] at h2
  exact h2
theorem RT.run {K L M : KK} {b : Int} {B : Nat → Int} {U : UU} {D0 D E : KK} (h : RT K b B U L D0 D) (g : RV 1 M b B U E E) (f : FW D E) : RT K b B U M D0 E := ⟨g, h.2.1.fz f.fz, by rw [show E 482 = D 482 from funext (fun k => f 482 k (by omega) (by omega) (by omega) (by omega) (by omega) (by omega))]; exact h.2.2.1, h.2.2.2.trans f.fz⟩
set_option maxHeartbeats 2000000 in
theorem r_run {n : Nat} {R : Nat → Nat → Option Nat} {K D : KK} {b : Int} {B : Nat → Int} {U : UU} (hR : RF R) (hV : RV 0 K b B U D D) (hI : KI K) {G Hh : LwF} (hG : RLG G n R D) (hH : RLH Hh n R D) (P : List PSt) (hPl : PlR P D) (hPV : PlV K P) : ∃ D', XC 11 256 [.inr (some 479)] (xS n, R, D) (some (.inl ((carZ G Hh P (K, b, B, U) 0 0 0).1))) (xS n, R, D') ∧ PV ((carZ G Hh P (K, b, B, U) 0 0 0).2.2.2.2.1) ((carZ G Hh P (K, b, B, U) 0 0 0).2.2.2.2.2.1) ((carZ G Hh P (K, b, B, U) 0 0 0).2.2.2.2.2.2.1) ((carZ G Hh P (K, b, B, U) 0 0 0).2.2.2.2.2.2.2) D D' := by
  refine XE_of (Nat.le_of_ble_eq_true rfl) (Nat.le_of_ble_eq_true rfl) (loc := [_]) rfl ?_
  refine xx_aload_n (q := 1) rfl rfl rfl ?_
  refine xx_iconst (q := 2) rfl rfl (by decide) ?_
  refine xr_puz (PV K b B U D) (q := 5) rfl rfl rfl xS_479 (Nat.le_of_ble_eq_true rfl) (Nat.le_of_ble_eq_true rfl) (fun h => by cases h) (Or.inl rfl) ⟨hV.u (by decide), FQ.rf.up (by unfold restQ; omega)⟩ (fun D1 hP0 => ?_)
  have hlw : ∀ x k, 499 ≤ x → x ≤ 505 → D1 x k = D x k := fun x k q1 q2 => hP0.2 x k (by unfold restQ; omega)
  refine xx_aload_n (q := 6) rfl rfl rfl ?_
  obtain ⟨D1, hx1, hC1⟩ := r_runsPlan (n := n) hR hP0.1 hI (RLG.fr hG hlw) (RLH.fr hH hlw) P (hPl.fr (hP0.2 _ _ (by unfold restQ; omega)) (fun k => (hP0.2 _ _ (by unfold restQ; omega)))) hPV
  refine xx_callV (q := 9) (As := []) (rest := []) rfl rfl rfl (Or.inl rfl) rfl rfl (Nat.le_of_ble_eq_true rfl) xS_479 (XCm hx1 rfl) rfl ?_
  refine xx_iret rfl trivial ⟨congrArg (fun z => some (Sum.inl z)) (by rw [carV_0]), _, rfl, ?_⟩
  have hq := hC1
  rw [carV_0] at hq
  exact ⟨hq.1, hP0.2.trans hq.2.1.fz.fq⟩
set_option maxHeartbeats 2000000 in
theorem r_planned {n : Nat} {R : Nat → Nat → Option Nat} {K D : KK} {b : Int} {B : Nat → Int} {U : UU} (hR : RF R) (hV : RV 0 K b B U D D) (hI : KI K) {G Hh : LwF} (hG : RLG G n R D) (hH : RLH Hh n R D) (P : List PSt) (hPl : PlR P D) (hPV : PlV K P) (w : Int) : ∃ D', XC 11 257 [.inr (some 479), .inl w] (xS n, R, D) (some (.inl (pldF (carT G Hh P K 0 0 0) w))) (xS n, R, D') ∧ PV (K) (b) (B) (U) D D' := by
  refine XE_of (Nat.le_of_ble_eq_true rfl) (Nat.le_of_ble_eq_true rfl) (loc := [_, _, _]) rfl ?_
  refine xx_aload_n (q := 1) rfl rfl rfl ?_
  refine xx_iconst (q := 2) rfl rfl (by decide) ?_
  refine xr_puz (PV K b B U D) (q := 5) rfl rfl rfl xS_479 (Nat.le_of_ble_eq_true rfl) (Nat.le_of_ble_eq_true rfl) (fun h => by cases h) (Or.inl rfl) ⟨hV.u (by decide), FQ.rf.up (by unfold restQ; omega)⟩ (fun D1 hP0 => ?_)
  have hlw : ∀ x k, 499 ≤ x → x ≤ 505 → D1 x k = D x k := fun x k q1 q2 => hP0.2 x k (by unfold restQ; omega)
  refine xx_aload_n (q := 6) rfl rfl rfl ?_
  refine xx_iload_n (q := 7) rfl rfl rfl ?_
  refine xx_iconst (q := 8) rfl rfl (by decide) ?_
  refine xx_iconst (q := 9) rfl rfl (by decide) ?_
  refine xx_callV (q := 12) (As := [_, _, _]) (rest := []) rfl rfl rfl (Or.inl rfl) rfl rfl (Nat.le_of_ble_eq_true rfl) xS_479 (XCm (r_isIn w 0 3) rfl) rfl ?_
  refine xx_ifb_ne (q := 19) (q2 := 15) rfl rfl rfl (fun h12 => ?_) (fun h12 => ?_)
  · refine xx_aload_n (q := 20) rfl rfl rfl ?_
    obtain ⟨D1, hx1, hT1⟩ := r_thinks (n := n) hR hP0.1 hI
    refine xx_callV (q := 23) (As := []) (rest := []) rfl rfl rfl (Or.inl rfl) rfl rfl (Nat.le_of_ble_eq_true rfl) xS_479 (XCm hx1 rfl) rfl ?_
    refine xx_aload_n (q := 24) rfl rfl rfl ?_
    obtain ⟨D2, hx2, hC2⟩ := r_runsPlan (n := n) hR hT1.1 hI (RLG.fr hG (fun x k q1 q2 => (hT1.law x k q1 q2).trans (hlw x k q1 q2))) (RLH.fr hH (fun x k q1 q2 => (hT1.law x k q1 q2).trans (hlw x k q1 q2))) P (hPl.fr ((hT1.2.2.2 _ _ (by unfold restR; omega)).trans (hP0.2 _ _ (by unfold restQ; omega))) (fun k => ((hT1.2.2.2 _ _ (by unfold restR; omega)).trans (hP0.2 _ _ (by unfold restQ; omega))))) hPV
    rw [carV_1] at hx2 hC2
    have hT2 := hT1.run hC2.1 hC2.2.1
    refine xx_callV (q := 27) (As := []) (rest := []) rfl rfl rfl (Or.inl rfl) rfl rfl (Nat.le_of_ble_eq_true rfl) xS_479 (XCm hx2 rfl) rfl ?_
    refine xx_istore_n (q := 28) (loc2 := [_, _, _]) rfl rfl (Nat.le_of_ble_eq_true rfl) rfl ?_
    refine xx_aload_n (q := 29) rfl rfl rfl ?_
    obtain ⟨D3, hx3, hV3, hF3, hA3⟩ := r_endsThought (n := n) hR hT2 hI
    have hP3 : PV K b B U D D3 := ⟨hV3, hP0.2.trans hF3.fq⟩
    refine xx_callV (q := 32) (As := []) (rest := []) rfl rfl rfl (Or.inl rfl) rfl rfl (Nat.le_of_ble_eq_true rfl) xS_479 (XCm hx3 rfl) rfl ?_
    refine xx_iload_n (q := 33) rfl rfl rfl ?_
    refine xx_if_ne (q := 40) (q2 := 36) rfl rfl rfl (fun h33 => ?_) (fun h33 => ?_)
    · refine xx_iload_n (q := 41) rfl rfl rfl ?_
      refine xx_iconst (q := 42) rfl rfl (by decide) ?_
      refine xx_icmp_ne (q := 52) (q2 := 45) rfl rfl rfl (fun h42 => ?_) (fun h42 => ?_)
      · refine xx_iload_n (q := 53) rfl rfl rfl ?_
        refine xx_iconst (q := 54) rfl rfl (by decide) ?_
        refine xx_icmp_ne (q := 64) (q2 := 57) rfl rfl rfl (fun h54 => ?_) (fun h54 => ?_)
        · refine xx_aload_n (q := 65) rfl rfl rfl ?_
          refine xx_gez (q := 68) rfl rfl rfl xS_479 (Nat.le_of_ble_eq_true rfl) rfl ((hA3 479 52 (by omega) (by omega)).trans hC2.2.2.2.2) ?_
          refine xx_iret rfl trivial ⟨congrArg (fun z => some (Sum.inl z)) (by grind [pldF, carY]), _, rfl, ?_⟩
          exact hP3
        · refine xx_aload_n (q := 58) rfl rfl rfl ?_
          refine xx_gez (q := 61) rfl rfl rfl xS_479 (Nat.le_of_ble_eq_true rfl) rfl ((hA3 479 51 (by omega) (by omega)).trans hC2.2.2.2.1) ?_
          refine xx_goto (q := 68) rfl rfl ?_
          refine xx_iret rfl trivial ⟨congrArg (fun z => some (Sum.inl z)) (by grind [pldF, carY]), _, rfl, ?_⟩
          exact hP3
      · refine xx_aload_n (q := 46) rfl rfl rfl ?_
        refine xx_gez (q := 49) rfl rfl rfl xS_479 (Nat.le_of_ble_eq_true rfl) rfl ((hA3 479 53 (by omega) (by omega)).trans hC2.2.2.1) ?_
        refine xx_goto (q := 68) rfl rfl ?_
        refine xx_iret rfl trivial ⟨congrArg (fun z => some (Sum.inl z)) (by grind [pldF, carY]), _, rfl, ?_⟩
        exact hP3
    · refine xx_iload_n (q := 37) rfl rfl rfl ?_
      refine xx_goto (q := 68) rfl rfl ?_
      refine xx_iret rfl trivial ⟨congrArg (fun z => some (Sum.inl z)) (by grind [pldF, carY]), _, rfl, ?_⟩
      exact hP3
  · refine xx_sipush (q := 18) rfl rfl (by decide) ?_
    refine xx_iret rfl trivial ⟨congrArg (fun z => some (Sum.inl z)) (by grind [pldF, carY]), _, rfl, ?_⟩
    exact hP0
set_option maxHeartbeats 2000000 in
theorem r_far {n : Nat} {R : Nat → Nat → Option Nat} {K D : KK} {b : Int} {B : Nat → Int} {U : UU} (hR : RF R) (hV : RV 0 K b B U D D) (hI : KI K) {G : LwF} (hG : RLG G n R D) (boat up w : Int) : ∃ D', XC 10 264 [.inr (some 479), .inl boat, .inl up, .inl w] (xS n, R, D) (some (.inl (farA K G boat up w))) (xS n, R, D') ∧ PV (K) (b) (B) (U) D D' := by
  refine XE_of (Nat.le_of_ble_eq_true rfl) (Nat.le_of_ble_eq_true rfl) (loc := [_, _, _, _, _]) rfl ?_
  refine xx_aload_n (q := 1) rfl rfl rfl ?_
  refine xx_iconst (q := 2) rfl rfl (by decide) ?_
  refine xr_puz (PV K b B U D) (q := 5) rfl rfl rfl xS_479 (Nat.le_of_ble_eq_true rfl) (Nat.le_of_ble_eq_true rfl) (fun h => by cases h) (Or.inl rfl) ⟨hV.u (by decide), FQ.rf.up (by unfold restQ; omega)⟩ (fun D1 hP0 => ?_)
  have hlw : ∀ x k, 499 ≤ x → x ≤ 505 → D1 x k = D x k := fun x k q1 q2 => hP0.2 x k (by unfold restQ; omega)
  refine xx_aload_n (q := 6) rfl rfl rfl ?_
  refine xx_iload_n (q := 7) rfl rfl rfl ?_
  refine xx_callV (q := 10) (As := [_]) (rest := []) rfl rfl rfl (Or.inl rfl) rfl rfl (Nat.le_of_ble_eq_true rfl) xS_479 (XCm (r_isBoat hR hP0.1 hI boat) rfl) rfl ?_
  refine xx_ifb_eq (q := 23) (q2 := 13) rfl rfl rfl (fun h10 => ?_) (fun h10 => ?_)
  · refine xx_sipush (q := 26) rfl rfl (by decide) ?_
    refine xx_iret rfl trivial ⟨congrArg (fun z => some (Sum.inl z)) (by grind [farA]), _, rfl, ?_⟩
    exact hP0
  · refine xx_aload_n (q := 14) rfl rfl rfl ?_
    refine xx_iload_n (q := 15) rfl rfl rfl ?_
    refine xx_iconst (q := 16) rfl rfl (by decide) ?_
    refine xx_iconst (q := 17) rfl rfl (by decide) ?_
    refine xx_callV (q := 20) (As := [_, _, _]) (rest := []) rfl rfl rfl (Or.inl rfl) rfl rfl (Nat.le_of_ble_eq_true rfl) xS_479 (XCm (r_isIn w 0 1) rfl) rfl ?_
    refine xx_ifb_ne (q := 27) (q2 := 23) rfl rfl rfl (fun h20 => ?_) (fun h20 => ?_)
    · refine xx_aload_n (q := 28) rfl rfl rfl ?_
      obtain ⟨D1, hx1, hT1⟩ := r_thinks (n := n) hR hP0.1 hI
      refine xx_callV (q := 31) (As := []) (rest := []) rfl rfl rfl (Or.inl rfl) rfl rfl (Nat.le_of_ble_eq_true rfl) xS_479 (XCm hx1 rfl) rfl ?_
      refine xx_aload_n (q := 32) rfl rfl rfl ?_
      refine xx_iload_n (q := 33) rfl rfl rfl ?_
      refine xx_iload_n (q := 34) rfl rfl rfl ?_
      obtain ⟨D2, hx2, hT2, ho2, hw2⟩ := r_goesFar (n := n) hR hT1 hI (RLG.fr hG hlw) boat up (by omega) (by omega)
      refine xx_callV (q := 37) (As := [_, _]) (rest := []) rfl rfl rfl (Or.inl rfl) rfl rfl (Nat.le_of_ble_eq_true rfl) xS_479 (XCm hx2 rfl) rfl ?_
      refine xx_istore (q := 39) (loc2 := [_, _, _, _, _]) rfl rfl (Nat.le_of_ble_eq_true rfl) rfl ?_
      refine xx_aload_n (q := 40) rfl rfl rfl ?_
      obtain ⟨D3, hx3, hV3, hF3, hA3⟩ := r_endsThought (n := n) hR hT2 hI
      have hP3 : PV K b B U D D3 := ⟨hV3, hP0.2.trans hF3.fq⟩
      refine xx_callV (q := 43) (As := []) (rest := []) rfl rfl rfl (Or.inl rfl) rfl rfl (Nat.le_of_ble_eq_true rfl) xS_479 (XCm hx3 rfl) rfl ?_
      refine xx_iload_n (q := 44) rfl rfl rfl ?_
      refine xx_if_ne (q := 52) (q2 := 47) rfl rfl rfl (fun h44 => ?_) (fun h44 => ?_)
      · refine xx_aload_n (q := 53) rfl rfl rfl ?_
        refine xx_gez (q := 56) rfl rfl rfl xS_479 (Nat.le_of_ble_eq_true rfl) rfl ((hA3 479 54 (by omega) (by omega)).trans hw2) ?_
        refine xx_iret rfl trivial ⟨congrArg (fun z => some (Sum.inl z)) (by grind [farA]), _, rfl, ?_⟩
        exact hP3
      · refine xx_iload (q := 49) rfl rfl rfl ?_
        refine xx_goto (q := 56) rfl rfl ?_
        refine xx_iret rfl trivial ⟨congrArg (fun z => some (Sum.inl z)) (by grind [farA]), _, rfl, ?_⟩
        exact hP3
    · refine xx_sipush (q := 26) rfl rfl (by decide) ?_
      refine xx_iret rfl trivial ⟨congrArg (fun z => some (Sum.inl z)) (by grind [farA]), _, rfl, ?_⟩
      exact hP0
set_option maxHeartbeats 1000000 in
theorem r_canBeLater {n : Nat} {R : Nat → Nat → Option Nat} {t : Int} {K D0 D : KK} {b : Int} {B : Nat → Int} {U : UU} (hR : RF R) (hV : RV t K b B U D0 D) (hI : KI K) (w a c : Int) : XC 2 290 [.inr (some 479), .inl w, .inl a, .inl c] (xS n, R, D) (some (.inl (bi ((w = 0 ∧ 0 ≤ a ∧ a ≤ K 0 0) ∨ (w = 1 ∧ 0 ≤ a ∧ a < K 0 0) ∨ (w = 2 ∧ (0 ≤ a ∧ a < K 0 0) ∧ 0 ≤ c ∧ c < K 13 0))))) (xS n, R, D) := by
  refine XC_of (Nat.le_of_ble_eq_true rfl) (Nat.le_of_ble_eq_true rfl) (loc := [_, _, _, _]) rfl ?_
  refine xx_iload_n (q := 1) rfl rfl rfl ?_
  refine xx_if_ne (q := 10) (q2 := 4) rfl rfl rfl (fun h1 => ?_) (fun h1 => ?_)
  · refine xx_iload_n (q := 11) rfl rfl rfl ?_
    refine xx_iconst (q := 12) rfl rfl (by decide) ?_
    refine xx_icmp_ne (q := 23) (q2 := 15) rfl rfl rfl (fun h12 => ?_) (fun h12 => ?_)
    · refine xx_iload_n (q := 24) rfl rfl rfl ?_
      refine xx_iconst (q := 25) rfl rfl (by decide) ?_
      refine xx_icmp_ne (q := 48) (q2 := 28) rfl rfl rfl (fun h25 => ?_) (fun h25 => ?_)
      · refine xx_iconst (q := 49) rfl rfl (by decide) ?_
        exact xx_iret rfl (Or.inl rfl) ⟨congrArg (fun z => some (Sum.inl z)) (by grind [bi]), rfl⟩
      · refine xx_aload_n (q := 29) rfl rfl rfl ?_
        refine xx_iload_n (q := 30) rfl rfl rfl ?_
        refine xx_callV (q := 33) (As := [_]) (rest := []) rfl rfl rfl (Or.inl rfl) rfl rfl (Nat.le_of_ble_eq_true rfl) xS_479 (XCm (r_isLock hR hV hI a) rfl) rfl ?_
        refine xx_ifb_eq (q := 48) (q2 := 36) rfl rfl rfl (fun h33 => ?_) (fun h33 => ?_)
        · refine xx_iconst (q := 49) rfl rfl (by decide) ?_
          exact xx_iret rfl (Or.inl rfl) ⟨congrArg (fun z => some (Sum.inl z)) (by grind [bi]), rfl⟩
        · refine xx_aload_n (q := 37) rfl rfl rfl ?_
          refine xx_iload_n (q := 38) rfl rfl rfl ?_
          refine xx_callV (q := 41) (As := [_]) (rest := []) rfl rfl rfl (Or.inl rfl) rfl rfl (Nat.le_of_ble_eq_true rfl) xS_479 (XCm (r_isBoat hR hV hI c) rfl) rfl ?_
          refine xx_ifb_eq (q := 48) (q2 := 44) rfl rfl rfl (fun h41 => ?_) (fun h41 => ?_)
          · refine xx_iconst (q := 49) rfl rfl (by decide) ?_
            exact xx_iret rfl (Or.inl rfl) ⟨congrArg (fun z => some (Sum.inl z)) (by grind [bi]), rfl⟩
          · refine xx_iconst (q := 45) rfl rfl (by decide) ?_
            refine xx_goto (q := 49) rfl rfl ?_
            exact xx_iret rfl (Or.inr rfl) ⟨congrArg (fun z => some (Sum.inl z)) (by grind [bi]), rfl⟩
    · refine xx_aload_n (q := 16) rfl rfl rfl ?_
      refine xx_iload_n (q := 17) rfl rfl rfl ?_
      refine xx_callV (q := 20) (As := [_]) (rest := []) rfl rfl rfl (Or.inl rfl) rfl rfl (Nat.le_of_ble_eq_true rfl) xS_479 (XCm (r_isLock hR hV hI a) rfl) rfl ?_
      refine xx_goto (q := 49) rfl rfl ?_
      exact xx_iret rfl (bi_01 _) ⟨congrArg (fun z => some (Sum.inl z)) (by grind [bi]), rfl⟩
  · refine xx_aload_n (q := 5) rfl rfl rfl ?_
    refine xx_iload_n (q := 6) rfl rfl rfl ?_
    refine xx_callV (q := 9) (As := [_]) (rest := []) rfl rfl rfl (Or.inl rfl) rfl rfl (Nat.le_of_ble_eq_true rfl) xS_479 (XCm (r_isPool hR hV hI a) rfl) rfl ?_
    exact xx_iret rfl (bi_01 _) ⟨congrArg (fun z => some (Sum.inl z)) (by grind [bi]), rfl⟩
set_option maxHeartbeats 1000000 in
theorem r_ltr_L {n : Nat} {R : Nat → Nat → Option Nat} {K D0 : KK} {b : Int} {B : Nat → Int} {U : UU} {Q : XQ} (hR : RF R) (m w a c : Int) (hm : m ≤ 200) : ∀ (k : Nat) (L D : KK) (i : Int), RT K b B U L D0 D → KI L → 0 ≤ i → i + k = m → (∀ D2 i2, RT K b B U (hrsT k L) D0 D2 → KI (hrsT k L) → XX (XC 5) 291 Q 56 [some (.inr (some 479)), some (.inl m), some (.inl w), some (.inl a), some (.inl c), some (.inl i2)] [] (xS n, R, D2)) → XX (XC 5) 291 (Q) 39 [some (.inr (some 479)), some (.inl m), some (.inl w), some (.inl a), some (.inl c), some (.inl i)] [] (xS n, R, D) := by
  intro k
  induction k using Nat.strongRecOn with
  | ind k ih =>
  intro L D i hT hI h1 hk kx
  refine xx_iload (q := 41) rfl rfl rfl ?_
  refine xx_iload_n (q := 42) rfl rfl rfl ?_
  refine xx_icmp_ge (q := 56) (q2 := 45) rfl rfl rfl (fun h42 => ?_) (fun h42 => ?_)
  · obtain rfl : k = 0 := by omega
    exact kx _ _ hT hI
  · obtain ⟨k, rfl⟩ : ∃ k2, k = k2 + 1 := ⟨k - 1, by omega⟩
    refine xx_aload_n (q := 46) rfl rfl rfl ?_
    obtain ⟨D1, hx1, hv1⟩ := r_ends (n := n) hR hT.1 hI
    have hT1 := hT.step (td1 hv1)
    have hI1 := hrT_I hI
    refine xx_callV (q := 49) (As := []) (rest := []) rfl rfl rfl (Or.inl rfl) rfl rfl (Nat.le_of_ble_eq_true rfl) xS_479 (XCm hx1 rfl) rfl ?_
    refine xx_pop (q := 50) rfl rfl ?_
    refine xx_incz (q := 53) (loc2 := [_, _, _, _, _, _]) rfl rfl rfl (by omega) (by omega) rfl rfl ?_
    refine xx_goto (q := 39) rfl rfl ?_
    exact ih k (by omega) _ _ _ hT1 hI1 (by omega) (by omega) kx
theorem r_ltr_E {n : Nat} {R : Nat → Nat → Option Nat} {K L D1 D D2 : KK} {b : Int} {B : Nat → Int} {U : UU} (hR : RF R) (hT : RT K b B U L D1 D2) (hI : KI K) (hJ : KI L) (hP0 : PV K b B U D D1) (m w a c i : Int) (hw : (w = 0 ∧ 0 ≤ a ∧ a ≤ 9) ∨ (w = 1 ∧ 0 ≤ a ∧ a < 9) ∨ (w = 2 ∧ 0 ≤ a ∧ a < 9 ∧ 0 ≤ c ∧ c < 6)) : XX (XC 5) 291 (XP (some (.inl (ltrV L w a c))) (xS n) R (PV K b B U D)) 56 [some (.inr (some 479)), some (.inl m), some (.inl w), some (.inl a), some (.inl c), some (.inl i)] [] (xS n, R, D2) := by
  refine xx_iload_n (q := 57) rfl rfl rfl ?_
  refine xx_if_ne (q := 68) (q2 := 60) rfl rfl rfl (fun h57 => ?_) (fun h57 => ?_)
  · refine xx_iload_n (q := 69) rfl rfl rfl ?_
    refine xx_iconst (q := 70) rfl rfl (by decide) ?_
    refine xx_icmp_ne (q := 85) (q2 := 73) rfl rfl rfl (fun h70 => ?_) (fun h70 => ?_)
    · refine xx_aload_n (q := 86) rfl rfl rfl ?_
      refine xx_iload_n (q := 87) rfl rfl rfl ?_
      refine xx_iload (q := 89) rfl rfl rfl ?_
      refine xx_callV (q := 92) (As := [_, _]) (rest := []) rfl rfl rfl (Or.inl rfl) rfl rfl (Nat.le_of_ble_eq_true rfl) xS_479 (XCm (r_likingOf (n := n) hR hT.1 hJ a c (by omega) (by omega) (by omega) (by omega)) rfl) rfl ?_
      have hb1 := ki_12 hJ (a * 6 + c).toNat
      refine xx_istore (q := 94) (loc2 := [_, _, _, _, _, _]) rfl rfl (Nat.le_of_ble_eq_true rfl) rfl ?_
      refine xx_aload_n (q := 95) rfl rfl rfl ?_
      obtain ⟨D2, hx2, hV2, hF2, hA2⟩ := r_endsThought (n := n) hR hT hI
      have hP2 : PV K b B U D D2 := ⟨hV2, hP0.2.trans hF2.fq⟩
      refine xx_callV (q := 98) (As := []) (rest := []) rfl rfl rfl (Or.inl rfl) rfl rfl (Nat.le_of_ble_eq_true rfl) xS_479 (XCm hx2 rfl) rfl ?_
      refine xx_iload (q := 100) rfl rfl rfl ?_
      exact xx_iret rfl trivial ⟨congrArg (fun z => some (Sum.inl z)) (by grind [ltrV]), _, rfl, hP2⟩
    · refine xx_aload_n (q := 74) rfl rfl rfl ?_
      refine xx_getR (q := 77) rfl rfl rfl xS_479 (Nat.le_of_ble_eq_true rfl) rfl (hR.1 479 1 rfl) ?_
      refine xx_bipush (q := 79) rfl rfl (by decide) ?_
      refine xx_iload_n (q := 80) rfl rfl rfl ?_
      refine xx_iaddR (q := 81) rfl rfl (by omega) (by omega) ?_
      refine xx_iaz (v := L 8 (a).toNat) (q := 82) rfl rfl xS_480 (by omega) (by omega) (rv_8 hT.1 (p := a) (by omega) (by omega)) ?_
      have hb3 : -99 ≤ L 8 (a).toNat ∧ L 8 (a).toNat ≤ 99 := by have h := ki_8 hJ (a).toNat; exact h
      refine xx_goto (q := 92) rfl rfl ?_
      refine xx_istore (q := 94) (loc2 := [_, _, _, _, _, _]) rfl rfl (Nat.le_of_ble_eq_true rfl) rfl ?_
      refine xx_aload_n (q := 95) rfl rfl rfl ?_
      obtain ⟨D4, hx4, hV4, hF4, hA4⟩ := r_endsThought (n := n) hR hT hI
      have hP4 : PV K b B U D D4 := ⟨hV4, hP0.2.trans hF4.fq⟩
      refine xx_callV (q := 98) (As := []) (rest := []) rfl rfl rfl (Or.inl rfl) rfl rfl (Nat.le_of_ble_eq_true rfl) xS_479 (XCm hx4 rfl) rfl ?_
      refine xx_iload (q := 100) rfl rfl rfl ?_
      exact xx_iret rfl trivial ⟨congrArg (fun z => some (Sum.inl z)) (by grind [ltrV]), _, rfl, hP4⟩
  · refine xx_aload_n (q := 61) rfl rfl rfl ?_
    refine xx_iload_n (q := 62) rfl rfl rfl ?_
    refine xx_callV (q := 65) (As := [_]) (rest := []) rfl rfl rfl (Or.inl rfl) rfl rfl (Nat.le_of_ble_eq_true rfl) xS_479 (XCm (r_depthOf hR hT.1 hJ a (by omega) (by omega)) rfl) rfl ?_
    have hb5 := ki_1 hJ (a).toNat
    refine xx_goto (q := 92) rfl rfl ?_
    refine xx_istore (q := 94) (loc2 := [_, _, _, _, _, _]) rfl rfl (Nat.le_of_ble_eq_true rfl) rfl ?_
    refine xx_aload_n (q := 95) rfl rfl rfl ?_
    obtain ⟨D6, hx6, hV6, hF6, hA6⟩ := r_endsThought (n := n) hR hT hI
    have hP6 : PV K b B U D D6 := ⟨hV6, hP0.2.trans hF6.fq⟩
    refine xx_callV (q := 98) (As := []) (rest := []) rfl rfl rfl (Or.inl rfl) rfl rfl (Nat.le_of_ble_eq_true rfl) xS_479 (XCm hx6 rfl) rfl ?_
    refine xx_iload (q := 100) rfl rfl rfl ?_
    exact xx_iret rfl trivial ⟨congrArg (fun z => some (Sum.inl z)) (by grind [ltrV]), _, rfl, hP6⟩
set_option maxHeartbeats 2000000 in
theorem r_later {n : Nat} {R : Nat → Nat → Option Nat} {K D : KK} {b : Int} {B : Nat → Int} {U : UU} (hR : RF R) (hV : RV 0 K b B U D D) (hI : KI K) (m w a c : Int) : ∃ D', XC 6 291 [.inr (some 479), .inl m, .inl w, .inl a, .inl c] (xS n, R, D) (some (.inl (ltrF K m w a c))) (xS n, R, D') ∧ PV (K) (b) (B) (U) D D' := by
  have hbL := ki_L hI
  have hbB := ki_B hI
  refine XE_of (Nat.le_of_ble_eq_true rfl) (Nat.le_of_ble_eq_true rfl) (loc := [_, _, _, _, _, _]) rfl ?_
  refine xx_aload_n (q := 1) rfl rfl rfl ?_
  refine xx_iconst (q := 2) rfl rfl (by decide) ?_
  refine xr_puz (PV K b B U D) (q := 5) rfl rfl rfl xS_479 (Nat.le_of_ble_eq_true rfl) (Nat.le_of_ble_eq_true rfl) (fun h => by cases h) (Or.inl rfl) ⟨hV.u (by decide), FQ.rf.up (by unfold restQ; omega)⟩ (fun D1 hP0 => ?_)
  refine xx_aload_n (q := 6) rfl rfl rfl ?_
  refine xx_iload_n (q := 7) rfl rfl rfl ?_
  refine xx_iconst (q := 8) rfl rfl (by decide) ?_
  refine xx_sipush (q := 11) rfl rfl (by decide) ?_
  refine xx_callV (q := 14) (As := [_, _, _]) (rest := []) rfl rfl rfl (Or.inl rfl) rfl rfl (Nat.le_of_ble_eq_true rfl) xS_479 (XCm (r_isIn m 0 200) rfl) rfl ?_
  refine xx_ifb_eq (q := 28) (q2 := 17) rfl rfl rfl (fun h14 => ?_) (fun h14 => ?_)
  · refine xx_sipush (q := 31) rfl rfl (by decide) ?_
    refine xx_iret rfl trivial ⟨congrArg (fun z => some (Sum.inl z)) (by unfold ltrF; rw [if_neg (by omega)]), _, rfl, ?_⟩
    exact hP0
  · refine xx_aload_n (q := 18) rfl rfl rfl ?_
    refine xx_iload_n (q := 19) rfl rfl rfl ?_
    refine xx_iload_n (q := 20) rfl rfl rfl ?_
    refine xx_iload (q := 22) rfl rfl rfl ?_
    refine xx_callV (q := 25) (As := [_, _, _]) (rest := []) rfl rfl rfl (Or.inl rfl) rfl rfl (Nat.le_of_ble_eq_true rfl) xS_479 (XCm (r_canBeLater hR hP0.1 hI w a c) rfl) rfl ?_
    refine xx_ifb_ne (q := 32) (q2 := 28) rfl rfl rfl (fun h25 => ?_) (fun h25 => ?_)
    · refine xx_aload_n (q := 33) rfl rfl rfl ?_
      obtain ⟨D1, hx1, hT1⟩ := r_thinks (n := n) hR hP0.1 hI
      refine xx_callV (q := 36) (As := []) (rest := []) rfl rfl rfl (Or.inl rfl) rfl rfl (Nat.le_of_ble_eq_true rfl) xS_479 (XCm hx1 rfl) rfl ?_
      refine xx_iconst (q := 37) rfl rfl (by decide) ?_
      refine xx_istore (q := 39) (loc2 := [_, _, _, _, _, _]) rfl rfl (Nat.le_of_ble_eq_true rfl) rfl ?_
      have e : ltrF K m w a c = ltrV (hrsT m.toNat K) w a c := if_pos ⟨h14, h25⟩
      rw [e]
      exact r_ltr_L hR m w a c (by omega) m.toNat K _ 0 hT1 hI (by omega) (by omega) (fun D2 i2 hT2 hI2 => r_ltr_E hR hT2 hI hI2 hP0 m w a c i2 (by omega))
    · refine xx_sipush (q := 31) rfl rfl (by decide) ?_
      refine xx_iret rfl trivial ⟨congrArg (fun z => some (Sum.inl z)) (by unfold ltrF; rw [if_neg (by omega)]), _, rfl, ?_⟩
      exact hP0
