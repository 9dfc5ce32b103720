theorem RV.un0 {t : Int} {K : KK} {b : Int} {B : Nat → Int} {U : UU} {D0 D : KK} (h : RV t K b B U D0 D) : RV t K b B [] D0 (xui D 479 3 0) := by
  refine ⟨by rw [show xui D 479 3 0 480 = D 480 from funext (fun k => xui_a (by omega))]; exact h.1, h.2.1.up (fun x k h1 h2 h3 h4 h5 h6 => if_neg (fun r => h6 r.1 r.2)) (fun _ _ _ => rfl), (xui_j (by omega)).trans h.2.2.1, h.2.2.2.1, fun k hk => (xui_a (by omega)).trans (h.2.2.2.2.1 k hk), ⟨Nat.zero_le _, xui_s, fun i u hu => by cases hu⟩, fun b k h1 h2 h3 h4 h5 h6 => (show xui D 479 3 0 b k = D b k from if_neg (fun r => h6 r.1 r.2)).trans (h.2.2.2.2.2.2 b k h1 h2 h3 h4 h5 h6)⟩
/-! What is told: the reference. -/
def restQ (b k : Nat) : Prop := b < 479 ∨ (b = 479 ∧ (k = 16 ∨ k = 24 ∨ k = 44 ∨ k = 45 ∨ k = 47 ∨ k = 63)) ∨ (491 ≤ b ∧ b ≤ 495) ∨ (497 ≤ b ∧ b ≤ 507) ∨ b = 515
def FQ (D E : KK) : Prop := ∀ b k, restQ b k → E b k = D b k
theorem FQ.rf {D : KK} : FQ D D := fun _ _ _ => rfl
theorem FQ.trans {D E F : KK} (h : FQ D E) (g : FQ E F) : FQ D F := fun b k q => (g b k q).trans (h b k q)
theorem FZ.fq {D E : KK} (h : FZ D E) : FQ D E := fun b k q => h b k (by unfold restQ at q; unfold restR; omega)
theorem FV.fq {D E : KK} (h : FV D E) : FQ D E := h.fz.fq
theorem FQ.up {D E : KK} (h : FQ D E) {a j : Nat} {v : Int} (ha : ¬ restQ a j) : FQ D (xui E a j v) := fun b k q => (show xui E a j v b k = E b k from if_neg (fun (r : b = a ∧ k = j) => ha (by rw [← r.1, ← r.2]; exact q))).trans (h b k q)
/-- the world as a told word leaves it -/
def PV (K : KK) (b : Int) (B : Nat → Int) (U : UU) (D d : KK) : Prop := RV 0 K b B U d d ∧ FQ D d
theorem PV.row {K K2 : KK} {b : Int} {B : Nat → Int} {U : UU} {D d : KK} {j : Nat} {w : Int} (h : PV K b B U D d) (g : RV 0 K2 b B U d (xui d 480 j w)) : PV K2 b B U D (xui d 480 j w) := ⟨g.me, h.2.up (by unfold restQ; omega)⟩
theorem PV.un0 {K : KK} {b : Int} {B : Nat → Int} {U : UU} {D d : KK} (h : PV K b B U D d) : PV K b B [] D (xui d 479 3 0) := ⟨h.1.un0.me, h.2.up (by unfold restQ; omega)⟩
theorem RW_cf {K K2 : KK} {b : Int} {f : Nat → Int} (h : RW K b f) (e : ∀ o k, (o = 0 ∧ k ≠ 0) ∨ o = 1 ∨ o = 5 ∨ o = 8 ∨ o = 10 ∨ o = 12 ∨ o = 13 ∨ o = 14 ∨ o = 17 → K2 o k = K o k) : RW K2 b f := by
  obtain ⟨a1, a2, a3, a4, a5, a6, a7, a8, a9, a10, a11⟩ := h
  exact ⟨a1.trans (e 0 1 (by omega)).symm, a2.trans (e 0 2 (by omega)).symm, a3.trans (e 0 3 (by omega)).symm, a4, fun i hi => by rw [e 1 i (by omega)]; exact a5 i hi, fun i hi => by rw [e 5 i (by omega)]; exact a6 i hi, fun i hi => by rw [e 10 i (by omega)]; exact a7 i hi, fun i hi => by rw [e 8 i (by omega)]; exact a8 i hi, fun i hi => by rw [e 12 i (by omega)]; exact a9 i hi, fun i hi => by rw [e 14 i (by omega)]; rw [e 13 0 (by omega)] at hi; exact a10 i hi, fun i hi => by rw [e 17 i (by omega)]; exact a11 i hi⟩
theorem PV.c483 {K : KK} {b : Int} {B : Nat → Int} {U : UU} {D d : KK} {p : Nat} {v w : Int} (h : PV K b B U D d) (hv : w = v - 10) : PV (xui K 2 p v) b B U D (xui d 483 p w) := by
  have hr := h.1
  obtain ⟨h0, h1, h2, h3, h4, h5, h6, h7, h8, h9⟩ := hr.2.1
  refine ⟨⟨?_, ⟨(xui_a (by omega)).trans h0, (xui_a (by omega)).trans h1, fun i hi => by
    rcases Classical.em (i = p) with rfl | q
    · rw [xui_s, xui_s, hv]
    · rw [xui_j q, xui_j q]; exact h2 i hi, fun i hi => (xui_a (by omega)).trans (h3 i hi), fun i hi => (xui_a (by omega)).trans (h4 i hi), fun i hi => (xui_a (by omega)).trans (h5 i hi), fun i hi => (xui_a (by omega)).trans (h6 i hi), fun i hi => (xui_a (by omega)).trans (h7 i hi), fun i hi => (xui_a (by omega)).trans (h8 i hi), fun i hi => (xui_a (by omega)).trans (h9 i hi)⟩, (xui_a (by omega)).trans hr.2.2.1, hr.2.2.2.1, fun k hk => (xui_a (by omega)).trans (hr.2.2.2.2.1 k hk), hr.2.2.2.2.2.1.up (fun k => xui_a (by omega)) (xui_a (by omega)), FV.rf⟩, h.2.up (by unfold restQ; omega)⟩
  rw [show xui d 483 p w 480 = d 480 from funext (fun k => xui_a (by omega))]
  exact RW_cf hr.1 (fun o k q => xui_a (by omega))
theorem PV.c484 {K : KK} {b : Int} {B : Nat → Int} {U : UU} {D d : KK} {p : Nat} {v w : Int} (h : PV K b B U D d) (hv : w = v) : PV (xui K 3 p v) b B U D (xui d 484 p w) := by
  have hr := h.1
  obtain ⟨h0, h1, h2, h3, h4, h5, h6, h7, h8, h9⟩ := hr.2.1
  refine ⟨⟨?_, ⟨(xui_a (by omega)).trans h0, (xui_a (by omega)).trans h1, fun i hi => (xui_a (by omega)).trans (h2 i hi), fun i hi => by
    rcases Classical.em (i = p) with rfl | q
    · rw [xui_s, xui_s, hv]
    · rw [xui_j q, xui_j q]; exact h3 i hi, fun i hi => (xui_a (by omega)).trans (h4 i hi), fun i hi => (xui_a (by omega)).trans (h5 i hi), fun i hi => (xui_a (by omega)).trans (h6 i hi), fun i hi => (xui_a (by omega)).trans (h7 i hi), fun i hi => (xui_a (by omega)).trans (h8 i hi), fun i hi => (xui_a (by omega)).trans (h9 i hi)⟩, (xui_a (by omega)).trans hr.2.2.1, hr.2.2.2.1, fun k hk => (xui_a (by omega)).trans (hr.2.2.2.2.1 k hk), hr.2.2.2.2.2.1.up (fun k => xui_a (by omega)) (xui_a (by omega)), FV.rf⟩, h.2.up (by unfold restQ; omega)⟩
  rw [show xui d 484 p w 480 = d 480 from funext (fun k => xui_a (by omega))]
  exact RW_cf hr.1 (fun o k q => xui_a (by omega))
theorem PV.c485 {K : KK} {b : Int} {B : Nat → Int} {U : UU} {D d : KK} {p : Nat} {v w : Int} (h : PV K b B U D d) (hv : w = v - 4) : PV (xui K 4 p v) b B U D (xui d 485 p w) := by
  have hr := h.1
  obtain ⟨h0, h1, h2, h3, h4, h5, h6, h7, h8, h9⟩ := hr.2.1
  refine ⟨⟨?_, ⟨(xui_a (by omega)).trans h0, (xui_a (by omega)).trans h1, fun i hi => (xui_a (by omega)).trans (h2 i hi), fun i hi => (xui_a (by omega)).trans (h3 i hi), fun i hi => by
    rcases Classical.em (i = p) with rfl | q
    · rw [xui_s, xui_s, hv]
    · rw [xui_j q, xui_j q]; exact h4 i hi, fun i hi => (xui_a (by omega)).trans (h5 i hi), fun i hi => (xui_a (by omega)).trans (h6 i hi), fun i hi => (xui_a (by omega)).trans (h7 i hi), fun i hi => (xui_a (by omega)).trans (h8 i hi), fun i hi => (xui_a (by omega)).trans (h9 i hi)⟩, (xui_a (by omega)).trans hr.2.2.1, hr.2.2.2.1, fun k hk => (xui_a (by omega)).trans (hr.2.2.2.2.1 k hk), hr.2.2.2.2.2.1.up (fun k => xui_a (by omega)) (xui_a (by omega)), FV.rf⟩, h.2.up (by unfold restQ; omega)⟩
  rw [show xui d 485 p w 480 = d 480 from funext (fun k => xui_a (by omega))]
  exact RW_cf hr.1 (fun o k q => xui_a (by omega))
theorem PV.c486 {K : KK} {b : Int} {B : Nat → Int} {U : UU} {D d : KK} {p : Nat} {v w : Int} (h : PV K b B U D d) (hv : w = v + 1) : PV (xui K 9 p v) b B U D (xui d 486 p w) := by
  have hr := h.1
  obtain ⟨h0, h1, h2, h3, h4, h5, h6, h7, h8, h9⟩ := hr.2.1
  refine ⟨⟨?_, ⟨(xui_a (by omega)).trans h0, (xui_a (by omega)).trans h1, fun i hi => (xui_a (by omega)).trans (h2 i hi), fun i hi => (xui_a (by omega)).trans (h3 i hi), fun i hi => (xui_a (by omega)).trans (h4 i hi), fun i hi => by
    rcases Classical.em (i = p) with rfl | q
    · rw [xui_s, xui_s, hv]
    · rw [xui_j q, xui_j q]; exact h5 i hi, fun i hi => (xui_a (by omega)).trans (h6 i hi), fun i hi => (xui_a (by omega)).trans (h7 i hi), fun i hi => (xui_a (by omega)).trans (h8 i hi), fun i hi => (xui_a (by omega)).trans (h9 i hi)⟩, (xui_a (by omega)).trans hr.2.2.1, hr.2.2.2.1, fun k hk => (xui_a (by omega)).trans (hr.2.2.2.2.1 k hk), hr.2.2.2.2.2.1.up (fun k => xui_a (by omega)) (xui_a (by omega)), FV.rf⟩, h.2.up (by unfold restQ; omega)⟩
  rw [show xui d 486 p w 480 = d 480 from funext (fun k => xui_a (by omega))]
  exact RW_cf hr.1 (fun o k q => xui_a (by omega))
theorem PV.c487 {K : KK} {b : Int} {B : Nat → Int} {U : UU} {D d : KK} {p : Nat} {v w : Int} (h : PV K b B U D d) (hv : w = v) : PV (xui K 11 p v) b B U D (xui d 487 p w) := by
  have hr := h.1
  obtain ⟨h0, h1, h2, h3, h4, h5, h6, h7, h8, h9⟩ := hr.2.1
  refine ⟨⟨?_, ⟨(xui_a (by omega)).trans h0, (xui_a (by omega)).trans h1, fun i hi => (xui_a (by omega)).trans (h2 i hi), fun i hi => (xui_a (by omega)).trans (h3 i hi), fun i hi => (xui_a (by omega)).trans (h4 i hi), fun i hi => (xui_a (by omega)).trans (h5 i hi), fun i hi => by
    rcases Classical.em (i = p) with rfl | q
    · rw [xui_s, xui_s, hv]
    · rw [xui_j q, xui_j q]; exact h6 i hi, fun i hi => (xui_a (by omega)).trans (h7 i hi), fun i hi => (xui_a (by omega)).trans (h8 i hi), fun i hi => (xui_a (by omega)).trans (h9 i hi)⟩, (xui_a (by omega)).trans hr.2.2.1, hr.2.2.2.1, fun k hk => (xui_a (by omega)).trans (hr.2.2.2.2.1 k hk), hr.2.2.2.2.2.1.up (fun k => xui_a (by omega)) (xui_a (by omega)), FV.rf⟩, h.2.up (by unfold restQ; omega)⟩
  rw [show xui d 487 p w 480 = d 480 from funext (fun k => xui_a (by omega))]
  exact RW_cf hr.1 (fun o k q => xui_a (by omega))
theorem PV.c488 {K : KK} {b : Int} {B : Nat → Int} {U : UU} {D d : KK} {p : Nat} {v w : Int} (h : PV K b B U D d) (hv : w = v) : PV (xui K 15 p v) b B U D (xui d 488 p w) := by
  have hr := h.1
  obtain ⟨h0, h1, h2, h3, h4, h5, h6, h7, h8, h9⟩ := hr.2.1
  refine ⟨⟨?_, ⟨(xui_a (by omega)).trans h0, (xui_a (by omega)).trans h1, fun i hi => (xui_a (by omega)).trans (h2 i hi), fun i hi => (xui_a (by omega)).trans (h3 i hi), fun i hi => (xui_a (by omega)).trans (h4 i hi), fun i hi => (xui_a (by omega)).trans (h5 i hi), fun i hi => (xui_a (by omega)).trans (h6 i hi), fun i hi => by
    rcases Classical.em (i = p) with rfl | q
    · rw [xui_s, xui_s, hv]
    · rw [xui_j q, xui_j q]; exact h7 i hi, fun i hi => (xui_a (by omega)).trans (h8 i hi), fun i hi => (xui_a (by omega)).trans (h9 i hi)⟩, (xui_a (by omega)).trans hr.2.2.1, hr.2.2.2.1, fun k hk => (xui_a (by omega)).trans (hr.2.2.2.2.1 k hk), hr.2.2.2.2.2.1.up (fun k => xui_a (by omega)) (xui_a (by omega)), FV.rf⟩, h.2.up (by unfold restQ; omega)⟩
  rw [show xui d 488 p w 480 = d 480 from funext (fun k => xui_a (by omega))]
  exact RW_cf hr.1 (fun o k q => xui_a (by omega))
theorem PV.c489 {K : KK} {b : Int} {B : Nat → Int} {U : UU} {D d : KK} {p : Nat} {v w : Int} (h : PV K b B U D d) (hv : w = v) : PV (xui K 16 p v) b B U D (xui d 489 p w) := by
  have hr := h.1
  obtain ⟨h0, h1, h2, h3, h4, h5, h6, h7, h8, h9⟩ := hr.2.1
  refine ⟨⟨?_, ⟨(xui_a (by omega)).trans h0, (xui_a (by omega)).trans h1, fun i hi => (xui_a (by omega)).trans (h2 i hi), fun i hi => (xui_a (by omega)).trans (h3 i hi), fun i hi => (xui_a (by omega)).trans (h4 i hi), fun i hi => (xui_a (by omega)).trans (h5 i hi), fun i hi => (xui_a (by omega)).trans (h6 i hi), fun i hi => (xui_a (by omega)).trans (h7 i hi), fun i hi => by
    rcases Classical.em (i = p) with rfl | q
    · rw [xui_s, xui_s, hv]
    · rw [xui_j q, xui_j q]; exact h8 i hi, fun i hi => (xui_a (by omega)).trans (h9 i hi)⟩, (xui_a (by omega)).trans hr.2.2.1, hr.2.2.2.1, fun k hk => (xui_a (by omega)).trans (hr.2.2.2.2.1 k hk), hr.2.2.2.2.2.1.up (fun k => xui_a (by omega)) (xui_a (by omega)), FV.rf⟩, h.2.up (by unfold restQ; omega)⟩
  rw [show xui d 489 p w 480 = d 480 from funext (fun k => xui_a (by omega))]
  exact RW_cf hr.1 (fun o k q => xui_a (by omega))
theorem PV.c490 {K : KK} {b : Int} {B : Nat → Int} {U : UU} {D d : KK} {p : Nat} {v w : Int} (h : PV K b B U D d) (hv : w = v) : PV (xui K 6 p v) b B U D (xui d 490 p w) := by
  have hr := h.1
  obtain ⟨h0, h1, h2, h3, h4, h5, h6, h7, h8, h9⟩ := hr.2.1
  refine ⟨⟨?_, ⟨(xui_a (by omega)).trans h0, (xui_a (by omega)).trans h1, fun i hi => (xui_a (by omega)).trans (h2 i hi), fun i hi => (xui_a (by omega)).trans (h3 i hi), fun i hi => (xui_a (by omega)).trans (h4 i hi), fun i hi => (xui_a (by omega)).trans (h5 i hi), fun i hi => (xui_a (by omega)).trans (h6 i hi), fun i hi => (xui_a (by omega)).trans (h7 i hi), fun i hi => (xui_a (by omega)).trans (h8 i hi), fun i hi => by
    rcases Classical.em (i = p) with rfl | q
    · rw [xui_s, xui_s, hv]
    · rw [xui_j q, xui_j q]; exact h9 i hi⟩, (xui_a (by omega)).trans hr.2.2.1, hr.2.2.2.1, fun k hk => (xui_a (by omega)).trans (hr.2.2.2.2.1 k hk), hr.2.2.2.2.2.1.up (fun k => xui_a (by omega)) (xui_a (by omega)), FV.rf⟩, h.2.up (by unfold restQ; omega)⟩
  rw [show xui d 490 p w 480 = d 480 from funext (fun k => xui_a (by omega))]
  exact RW_cf hr.1 (fun o k q => xui_a (by omega))
set_option maxHeartbeats 2000000 in
theorem r_state {n : Nat} {R : Nat → Nat → Option Nat} {K D : KK} {b : Int} {B : Nat → Int} {U : UU} (hR : RF R) (hV : RV 0 K b B U D D) (hI : KI K) (v : Int) (hv : xok v) : ∃ D', XC 1 169 [.inr (some 479), .inl v] (xS n, R, D) (some (.inl (K 0 3))) (xS n, R, D') ∧ PV (xui K 0 3 v) (b) (B) ([]) D D' := by
  have hv1 := hv.1
  have hv2 := hv.2
  refine XE_of (Nat.le_of_ble_eq_true rfl) (Nat.le_of_ble_eq_true rfl) (loc := [_, _, _]) rfl ?_
  refine xx_aload_n (q := 1) rfl rfl rfl ?_
  refine xx_iconst (q := 2) rfl rfl (by decide) ?_
  refine xr_puz (PV K b B U D) (q := 5) rfl rfl rfl xS_479 (Nat.le_of_ble_eq_true rfl) (Nat.le_of_ble_eq_true rfl) (fun h => by cases h) (Or.inl rfl) ⟨hV.u (by decide), FQ.rf.up (by unfold restQ; omega)⟩ (fun D1 hP0 => ?_)
  refine xx_aload_n (q := 6) rfl rfl rfl ?_
  refine xx_getR (q := 9) rfl rfl rfl xS_479 (Nat.le_of_ble_eq_true rfl) rfl (hR.1 479 1 rfl) ?_
  refine xx_iconst (q := 10) rfl rfl (by decide) ?_
  refine xx_iaz (v := K 0 3) (q := 11) rfl rfl xS_480 (by omega) (by omega) (rv_d hP0.1) ?_
  refine xx_istore_n (q := 12) (loc2 := [_, _, _]) rfl rfl (Nat.le_of_ble_eq_true rfl) rfl ?_
  refine xx_aload_n (q := 13) rfl rfl rfl ?_
  refine xx_getR (q := 16) rfl rfl rfl xS_479 (Nat.le_of_ble_eq_true rfl) rfl (hR.1 479 1 rfl) ?_
  refine xx_iconst (q := 17) rfl rfl (by decide) ?_
  refine xx_iload_n (q := 18) rfl rfl rfl ?_
  refine xr_isz (PV (xui K 0 3 v) b B U D) (q := 19) rfl rfl xS_480 (by omega) (by omega) (hP0.row (rs_d hP0.1)) (fun D202 hP202 => ?_)
  have hs202 : (xui K 0 3 v) 0 3 = v := xui_s
  have hI202 : KI (xui K 0 3 v) := KI_up hI (show (-2147483648 : Int) ≤ _ by omega) (show _ ≤ (2147483647 : Int) by omega)
  refine xx_aload_n (q := 20) rfl rfl rfl ?_
  refine xx_iconst (q := 21) rfl rfl (by decide) ?_
  refine xr_puz (PV (xui K 0 3 v) b B ([]) D) (q := 24) rfl rfl rfl xS_479 (Nat.le_of_ble_eq_true rfl) (Nat.le_of_ble_eq_true rfl) (fun h => by cases h) (Or.inl rfl) hP202.un0 (fun D204 hP204 => ?_)
  refine xx_iload_n (q := 25) rfl rfl rfl ?_
  refine xx_iret rfl trivial ⟨congrArg (fun z => some (Sum.inl z)) (by rfl), _, rfl, ?_⟩
  exact hP204
set_option maxHeartbeats 2000000 in
theorem r_pool {n : Nat} {R : Nat → Nat → Option Nat} {K D : KK} {b : Int} {B : Nat → Int} {U : UU} (hR : RF R) (hV : RV 0 K b B U D D) (hI : KI K) (p d : Int) : ∃ D', XC 2 183 [.inr (some 479), .inl p, .inl d] (xS n, R, D) (some (.inl (bi (polP K p d)))) (xS n, R, D') ∧ PV (polK K p d) (b) (B) (tldU (polP K p d) U) D D' := by
  have hbL := ki_L hI
  refine XE_of (Nat.le_of_ble_eq_true rfl) (Nat.le_of_ble_eq_true rfl) (loc := [_, _, _]) rfl ?_
  refine xx_aload_n (q := 1) rfl rfl rfl ?_
  refine xx_iconst (q := 2) rfl rfl (by decide) ?_
  refine xr_puz (PV K b B U D) (q := 5) rfl rfl rfl xS_479 (Nat.le_of_ble_eq_true rfl) (Nat.le_of_ble_eq_true rfl) (fun h => by cases h) (Or.inl rfl) ⟨hV.u (by decide), FQ.rf.up (by unfold restQ; omega)⟩ (fun D1 hP0 => ?_)
  refine xx_aload_n (q := 6) rfl rfl rfl ?_
  refine xx_iload_n (q := 7) rfl rfl rfl ?_
  refine xx_callV (q := 10) (As := [_]) (rest := []) rfl rfl rfl (Or.inl rfl) rfl rfl (Nat.le_of_ble_eq_true rfl) xS_479 (XCm (r_isPool hR hP0.1 hI p) rfl) rfl ?_
  refine xx_ifb_eq (q := 25) (q2 := 13) rfl rfl rfl (fun h10 => ?_) (fun h10 => ?_)
  · refine xx_iconst (q := 26) rfl rfl (by decide) ?_
    refine xx_iret rfl (Or.inl rfl) ⟨congrArg (fun z => some (Sum.inl z)) (by grind [bi]), _, rfl, ?_⟩
    have e : polK K p d = K := by unfold polK; grind
    rw [e]
    unfold tldU
    rw [if_neg (by grind)]
    exact hP0
  · refine xx_aload_n (q := 14) rfl rfl rfl ?_
    refine xx_iload_n (q := 15) rfl rfl rfl ?_
    refine xx_iconst (q := 16) rfl rfl (by decide) ?_
    refine xx_sipush (q := 19) rfl rfl (by decide) ?_
    refine xx_callV (q := 22) (As := [_, _, _]) (rest := []) rfl rfl rfl (Or.inl rfl) rfl rfl (Nat.le_of_ble_eq_true rfl) xS_479 (XCm (r_isIn d 0 999) rfl) rfl ?_
    refine xx_ifb_ne (q := 27) (q2 := 25) rfl rfl rfl (fun h22 => ?_) (fun h22 => ?_)
    · refine xx_aload_n (q := 28) rfl rfl rfl ?_
      refine xx_getR (q := 31) rfl rfl rfl xS_479 (Nat.le_of_ble_eq_true rfl) rfl (hR.1 479 1 rfl) ?_
      refine xx_iconst (q := 32) rfl rfl (by decide) ?_
      refine xx_iload_n (q := 33) rfl rfl rfl ?_
      refine xx_iaddR (q := 34) rfl rfl (by omega) (by omega) ?_
      refine xx_iload_n (q := 35) rfl rfl rfl ?_
      refine xx_bipush (q := 37) rfl rfl (by decide) ?_
      refine xx_isubR (q := 38) rfl rfl (by omega) (by omega) ?_
      refine xr_isz (PV (xui K 1 (p).toNat d) b B U D) (q := 39) rfl rfl xS_480 (by omega) (by omega) (hP0.row (rs_1 (v := d) (p := p) hP0.1 hI (by omega) (by omega) (by omega))) (fun D202 hP202 => ?_)
      have hs202 : (xui K 1 (p).toNat d) 1 (p).toNat = d := xui_s
      have hI202 : KI (xui K 1 (p).toNat d) := KI_up hI (show (0 : Int) ≤ _ by omega) (show _ ≤ (999 : Int) by omega)
      refine xx_aload_n (q := 40) rfl rfl rfl ?_
      refine xx_iconst (q := 41) rfl rfl (by decide) ?_
      refine xr_puz (PV (xui K 1 (p).toNat d) b B ([]) D) (q := 44) rfl rfl rfl xS_479 (Nat.le_of_ble_eq_true rfl) (Nat.le_of_ble_eq_true rfl) (fun h => by cases h) (Or.inl rfl) hP202.un0 (fun D204 hP204 => ?_)
      refine xx_iconst (q := 45) rfl rfl (by decide) ?_
      refine xx_iret rfl (Or.inr rfl) ⟨congrArg (fun z => some (Sum.inl z)) (by grind [bi]), _, rfl, ?_⟩
      have e : polK K p d = (xui K 1 (p).toNat d) := by unfold polK; grind
      rw [e]
      unfold tldU
      rw [if_pos (by grind)]
      exact hP204
    · refine xx_iconst (q := 26) rfl rfl (by decide) ?_
      refine xx_iret rfl (Or.inl rfl) ⟨congrArg (fun z => some (Sum.inl z)) (by grind [bi]), _, rfl, ?_⟩
      have e : polK K p d = K := by unfold polK; grind
      rw [e]
      unfold tldU
      rw [if_neg (by grind)]
      exact hP0
set_option maxHeartbeats 4000000 in
theorem r_canLock {n : Nat} {R : Nat → Nat → Option Nat} {t : Int} {K D0 D : KK} {b : Int} {B : Nat → Int} {U : UU} (hR : RF R) (hV : RV t K b B U D0 D) (hI : KI K) (l w v : Int) : XC 2 184 [.inr (some 479), .inl l, .inl w, .inl v] (xS n, R, D) (some (.inl (bi (lokP K l w v)))) (xS n, R, D) := by
  have hbB := ki_B hI
  have hbL := ki_L hI
  refine XC_of (Nat.le_of_ble_eq_true rfl) (Nat.le_of_ble_eq_true rfl) (loc := [_, _, _, _]) rfl ?_
  refine xx_aload_n (q := 1) rfl rfl rfl ?_
  refine xx_iload_n (q := 2) rfl rfl rfl ?_
  refine xx_callV (q := 5) (As := [_]) (rest := []) rfl rfl rfl (Or.inl rfl) rfl rfl (Nat.le_of_ble_eq_true rfl) xS_479 (XCm (r_isLock hR hV hI l) rfl) rfl ?_
  refine xx_ifb_ne (q := 10) (q2 := 8) rfl rfl rfl (fun h5 => ?_) (fun h5 => ?_)
  · refine xx_iload_n (q := 11) rfl rfl rfl ?_
    refine xx_if_ne (q := 23) (q2 := 14) rfl rfl rfl (fun h11 => ?_) (fun h11 => ?_)
    · refine xx_iload_n (q := 24) rfl rfl rfl ?_
      refine xx_iconst (q := 25) rfl rfl (by decide) ?_
      refine xx_icmp_ne (q := 37) (q2 := 28) rfl rfl rfl (fun h25 => ?_) (fun h25 => ?_)
      · refine xx_iload_n (q := 38) rfl rfl rfl ?_
        refine xx_iconst (q := 39) rfl rfl (by decide) ?_
        refine xx_icmp_ne (q := 51) (q2 := 42) rfl rfl rfl (fun h39 => ?_) (fun h39 => ?_)
        · refine xx_iload_n (q := 52) rfl rfl rfl ?_
          refine xx_iconst (q := 53) rfl rfl (by decide) ?_
          refine xx_icmp_ne (q := 66) (q2 := 56) rfl rfl rfl (fun h53 => ?_) (fun h53 => ?_)
          · refine xx_iload_n (q := 67) rfl rfl rfl ?_
            refine xx_iconst (q := 68) rfl rfl (by decide) ?_
            refine xx_icmp_ne (q := 95) (q2 := 71) rfl rfl rfl (fun h68 => ?_) (fun h68 => ?_)
            · refine xx_aload_n (q := 96) rfl rfl rfl ?_
              refine xx_iload_n (q := 97) rfl rfl rfl ?_
              refine xx_bipush (q := 99) rfl rfl (by decide) ?_
              refine xx_bipush (q := 101) rfl rfl (by decide) ?_
              refine xx_callV (q := 104) (As := [_, _, _]) (rest := []) rfl rfl rfl (Or.inl rfl) rfl rfl (Nat.le_of_ble_eq_true rfl) xS_479 (XCm (r_isIn w 10 13) rfl) rfl ?_
              refine xx_ifb_eq (q := 117) (q2 := 107) rfl rfl rfl (fun h104 => ?_) (fun h104 => ?_)
              · refine xx_aload_n (q := 118) rfl rfl rfl ?_
                refine xx_iload_n (q := 119) rfl rfl rfl ?_
                refine xx_bipush (q := 121) rfl rfl (by decide) ?_
                refine xx_bipush (q := 123) rfl rfl (by decide) ?_
                refine xx_aload_n (q := 124) rfl rfl rfl ?_
                refine xx_gez (q := 127) rfl rfl rfl xS_479 (Nat.le_of_ble_eq_true rfl) rfl (rv_B hV) ?_
                have hb1 : 0 ≤ K 13 0 ∧ K 13 0 ≤ 6 := by have h := ki_B hI; exact h
                refine xx_iaddR (q := 128) rfl rfl (by omega) (by omega) ?_
                refine xx_callV (q := 131) (As := [_, _, _]) (rest := []) rfl rfl rfl (Or.inl rfl) rfl rfl (Nat.le_of_ble_eq_true rfl) xS_479 (XCm (r_isIn w 20 (19 + (K 13 0))) rfl) rfl ?_
                refine xx_ifb_eq (q := 150) (q2 := 134) rfl rfl rfl (fun h131 => ?_) (fun h131 => ?_)
                · refine xx_iconst (q := 151) rfl rfl (by decide) ?_
                  exact xx_iret rfl (Or.inl rfl) ⟨congrArg (fun z => some (Sum.inl z)) (by grind [bi]), rfl⟩
                · refine xx_aload_n (q := 135) rfl rfl rfl ?_
                  refine xx_iload_n (q := 136) rfl rfl rfl ?_
                  refine xx_bipush (q := 138) rfl rfl (by decide) ?_
                  refine xx_bipush (q := 140) rfl rfl (by decide) ?_
                  refine xx_callV (q := 143) (As := [_, _, _]) (rest := []) rfl rfl rfl (Or.inl rfl) rfl rfl (Nat.le_of_ble_eq_true rfl) xS_479 (XCm (r_isIn v (-99) 99) rfl) rfl ?_
                  refine xx_ifb_eq (q := 150) (q2 := 146) rfl rfl rfl (fun h143 => ?_) (fun h143 => ?_)
                  · refine xx_iconst (q := 151) rfl rfl (by decide) ?_
                    exact xx_iret rfl (Or.inl rfl) ⟨congrArg (fun z => some (Sum.inl z)) (by grind [bi]), rfl⟩
                  · refine xx_iconst (q := 147) rfl rfl (by decide) ?_
                    refine xx_goto (q := 151) rfl rfl ?_
                    exact xx_iret rfl (Or.inr rfl) ⟨congrArg (fun z => some (Sum.inl z)) (by grind [bi]), rfl⟩
              · refine xx_aload_n (q := 108) rfl rfl rfl ?_
                refine xx_iload_n (q := 109) rfl rfl rfl ?_
                refine xx_bipush (q := 111) rfl rfl (by decide) ?_
                refine xx_bipush (q := 113) rfl rfl (by decide) ?_
                refine xx_callV (q := 116) (As := [_, _, _]) (rest := []) rfl rfl rfl (Or.inl rfl) rfl rfl (Nat.le_of_ble_eq_true rfl) xS_479 (XCm (r_isIn v (-9) 9) rfl) rfl ?_
                exact xx_iret rfl (bi_01 _) ⟨congrArg (fun z => some (Sum.inl z)) (by grind [bi]), rfl⟩
            · refine xx_iload_n (q := 72) rfl rfl rfl ?_
              refine xx_iconst (q := 73) rfl rfl (by decide) ?_
              refine xx_icmp_eq (q := 89) (q2 := 76) rfl rfl rfl (fun h73 => ?_) (fun h73 => ?_)
              · refine xx_iconst (q := 90) rfl rfl (by decide) ?_
                refine xx_goto (q := 94) rfl rfl ?_
                exact xx_iret rfl (Or.inr rfl) ⟨congrArg (fun z => some (Sum.inl z)) (by grind [bi]), rfl⟩
              · refine xx_aload_n (q := 77) rfl rfl rfl ?_
                refine xx_iload_n (q := 78) rfl rfl rfl ?_
                refine xx_callV (q := 81) (As := [_]) (rest := []) rfl rfl rfl (Or.inl rfl) rfl rfl (Nat.le_of_ble_eq_true rfl) xS_479 (XCm (r_isLock hR hV hI v) rfl) rfl ?_
                refine xx_ifb_eq (q := 93) (q2 := 84) rfl rfl rfl (fun h81 => ?_) (fun h81 => ?_)
                · refine xx_iconst (q := 94) rfl rfl (by decide) ?_
                  exact xx_iret rfl (Or.inl rfl) ⟨congrArg (fun z => some (Sum.inl z)) (by grind [bi]), rfl⟩
                · refine xx_iload_n (q := 85) rfl rfl rfl ?_
                  refine xx_iload_n (q := 86) rfl rfl rfl ?_
                  refine xx_icmp_eq (q := 93) (q2 := 89) rfl rfl rfl (fun h86 => ?_) (fun h86 => ?_)
                  · refine xx_iconst (q := 94) rfl rfl (by decide) ?_
                    exact xx_iret rfl (Or.inl rfl) ⟨congrArg (fun z => some (Sum.inl z)) (by grind [bi]), rfl⟩
                  · refine xx_iconst (q := 90) rfl rfl (by decide) ?_
                    refine xx_goto (q := 94) rfl rfl ?_
                    exact xx_iret rfl (Or.inr rfl) ⟨congrArg (fun z => some (Sum.inl z)) (by grind [bi]), rfl⟩
          · refine xx_aload_n (q := 57) rfl rfl rfl ?_
            refine xx_iload_n (q := 58) rfl rfl rfl ?_
            refine xx_bipush (q := 60) rfl rfl (by decide) ?_
            refine xx_bipush (q := 62) rfl rfl (by decide) ?_
            refine xx_callV (q := 65) (As := [_, _, _]) (rest := []) rfl rfl rfl (Or.inl rfl) rfl rfl (Nat.le_of_ble_eq_true rfl) xS_479 (XCm (r_isIn v (-99) 99) rfl) rfl ?_
            exact xx_iret rfl (bi_01 _) ⟨congrArg (fun z => some (Sum.inl z)) (by grind [bi]), rfl⟩
        · refine xx_aload_n (q := 43) rfl rfl rfl ?_
          refine xx_iload_n (q := 44) rfl rfl rfl ?_
          refine xx_iconst (q := 45) rfl rfl (by decide) ?_
          refine xx_bipush (q := 47) rfl rfl (by decide) ?_
          refine xx_callV (q := 50) (As := [_, _, _]) (rest := []) rfl rfl rfl (Or.inl rfl) rfl rfl (Nat.le_of_ble_eq_true rfl) xS_479 (XCm (r_isIn v 1 9) rfl) rfl ?_
          exact xx_iret rfl (bi_01 _) ⟨congrArg (fun z => some (Sum.inl z)) (by grind [bi]), rfl⟩
      · refine xx_aload_n (q := 29) rfl rfl rfl ?_
        refine xx_iload_n (q := 30) rfl rfl rfl ?_
        refine xx_iconst (q := 31) rfl rfl (by decide) ?_
        refine xx_bipush (q := 33) rfl rfl (by decide) ?_
        refine xx_callV (q := 36) (As := [_, _, _]) (rest := []) rfl rfl rfl (Or.inl rfl) rfl rfl (Nat.le_of_ble_eq_true rfl) xS_479 (XCm (r_isIn v 0 9) rfl) rfl ?_
        exact xx_iret rfl (bi_01 _) ⟨congrArg (fun z => some (Sum.inl z)) (by grind [bi]), rfl⟩
    · refine xx_aload_n (q := 15) rfl rfl rfl ?_
      refine xx_iload_n (q := 16) rfl rfl rfl ?_
      refine xx_iconst (q := 17) rfl rfl (by decide) ?_
      refine xx_bipush (q := 19) rfl rfl (by decide) ?_
      refine xx_callV (q := 22) (As := [_, _, _]) (rest := []) rfl rfl rfl (Or.inl rfl) rfl rfl (Nat.le_of_ble_eq_true rfl) xS_479 (XCm (r_isIn v 1 50) rfl) rfl ?_
      exact xx_iret rfl (bi_01 _) ⟨congrArg (fun z => some (Sum.inl z)) (by grind [bi]), rfl⟩
  · refine xx_iconst (q := 9) rfl rfl (by decide) ?_
    exact xx_iret rfl (Or.inl rfl) ⟨congrArg (fun z => some (Sum.inl z)) (by grind [bi]), rfl⟩
set_option maxHeartbeats 4000000 in
theorem r_canLoad {n : Nat} {R : Nat → Nat → Option Nat} {t : Int} {K D0 D : KK} {b : Int} {B : Nat → Int} {U : UU} (hR : RF R) (hV : RV t K b B U D0 D) (hI : KI K) (c w v : Int) : XC 2 187 [.inr (some 479), .inl c, .inl w, .inl v] (xS n, R, D) (some (.inl (bi (lodP K c w v)))) (xS n, R, D) := by
  have hbB := ki_B hI
  have hbL := ki_L hI
  refine XC_of (Nat.le_of_ble_eq_true rfl) (Nat.le_of_ble_eq_true rfl) (loc := [_, _, _, _]) rfl ?_
  refine xx_aload_n (q := 1) rfl rfl rfl ?_
  refine xx_iload_n (q := 2) rfl rfl rfl ?_
  refine xx_callV (q := 5) (As := [_]) (rest := []) rfl rfl rfl (Or.inl rfl) rfl rfl (Nat.le_of_ble_eq_true rfl) xS_479 (XCm (r_isBoat hR hV hI c) rfl) rfl ?_
  refine xx_ifb_ne (q := 10) (q2 := 8) rfl rfl rfl (fun h5 => ?_) (fun h5 => ?_)
  · refine xx_iload_n (q := 11) rfl rfl rfl ?_
    refine xx_if_ne (q := 20) (q2 := 14) rfl rfl rfl (fun h11 => ?_) (fun h11 => ?_)
    · refine xx_iload_n (q := 21) rfl rfl rfl ?_
      refine xx_iconst (q := 22) rfl rfl (by decide) ?_
      refine xx_icmp_ne (q := 34) (q2 := 25) rfl rfl rfl (fun h22 => ?_) (fun h22 => ?_)
      · refine xx_iload_n (q := 35) rfl rfl rfl ?_
        refine xx_iconst (q := 36) rfl rfl (by decide) ?_
        refine xx_icmp_ne (q := 50) (q2 := 39) rfl rfl rfl (fun h36 => ?_) (fun h36 => ?_)
        · refine xx_aload_n (q := 51) rfl rfl rfl ?_
          refine xx_iload_n (q := 52) rfl rfl rfl ?_
          refine xx_bipush (q := 54) rfl rfl (by decide) ?_
          refine xx_bipush (q := 56) rfl rfl (by decide) ?_
          refine xx_callV (q := 59) (As := [_, _, _]) (rest := []) rfl rfl rfl (Or.inl rfl) rfl rfl (Nat.le_of_ble_eq_true rfl) xS_479 (XCm (r_isIn w 10 13) rfl) rfl ?_
          refine xx_ifb_eq (q := 77) (q2 := 62) rfl rfl rfl (fun h59 => ?_) (fun h59 => ?_)
          · refine xx_iconst (q := 78) rfl rfl (by decide) ?_
            exact xx_iret rfl (Or.inl rfl) ⟨congrArg (fun z => some (Sum.inl z)) (by grind [bi]), rfl⟩
          · refine xx_aload_n (q := 63) rfl rfl rfl ?_
            refine xx_iload_n (q := 64) rfl rfl rfl ?_
            refine xx_iconst (q := 65) rfl rfl (by decide) ?_
            refine xx_bipush (q := 67) rfl rfl (by decide) ?_
            refine xx_callV (q := 70) (As := [_, _, _]) (rest := []) rfl rfl rfl (Or.inl rfl) rfl rfl (Nat.le_of_ble_eq_true rfl) xS_479 (XCm (r_isIn v 0 99) rfl) rfl ?_
            refine xx_ifb_eq (q := 77) (q2 := 73) rfl rfl rfl (fun h70 => ?_) (fun h70 => ?_)
            · refine xx_iconst (q := 78) rfl rfl (by decide) ?_
              exact xx_iret rfl (Or.inl rfl) ⟨congrArg (fun z => some (Sum.inl z)) (by grind [bi]), rfl⟩
            · refine xx_iconst (q := 74) rfl rfl (by decide) ?_
              refine xx_goto (q := 78) rfl rfl ?_
              exact xx_iret rfl (Or.inr rfl) ⟨congrArg (fun z => some (Sum.inl z)) (by grind [bi]), rfl⟩
        · refine xx_aload_n (q := 40) rfl rfl rfl ?_
          refine xx_iload_n (q := 41) rfl rfl rfl ?_
          refine xx_iconst (q := 42) rfl rfl (by decide) ?_
          refine xx_bipush (q := 44) rfl rfl (by decide) ?_
          refine xx_callV (q := 47) (As := [_, _, _]) (rest := []) rfl rfl rfl (Or.inl rfl) rfl rfl (Nat.le_of_ble_eq_true rfl) xS_479 (XCm (r_isIn v 1 9) rfl) rfl ?_
          refine xx_goto (q := 78) rfl rfl ?_
          exact xx_iret rfl (bi_01 _) ⟨congrArg (fun z => some (Sum.inl z)) (by grind [bi]), rfl⟩
      · refine xx_aload_n (q := 26) rfl rfl rfl ?_
        refine xx_iload_n (q := 27) rfl rfl rfl ?_
        refine xx_iconst (q := 28) rfl rfl (by decide) ?_
        refine xx_bipush (q := 30) rfl rfl (by decide) ?_
        refine xx_callV (q := 33) (As := [_, _, _]) (rest := []) rfl rfl rfl (Or.inl rfl) rfl rfl (Nat.le_of_ble_eq_true rfl) xS_479 (XCm (r_isIn v 1 99) rfl) rfl ?_
        exact xx_iret rfl (bi_01 _) ⟨congrArg (fun z => some (Sum.inl z)) (by grind [bi]), rfl⟩
    · refine xx_aload_n (q := 15) rfl rfl rfl ?_
      refine xx_iload_n (q := 16) rfl rfl rfl ?_
      refine xx_callV (q := 19) (As := [_]) (rest := []) rfl rfl rfl (Or.inl rfl) rfl rfl (Nat.le_of_ble_eq_true rfl) xS_479 (XCm (r_isPool hR hV hI v) rfl) rfl ?_
      exact xx_iret rfl (bi_01 _) ⟨congrArg (fun z => some (Sum.inl z)) (by grind [bi]), rfl⟩
  · refine xx_iconst (q := 9) rfl rfl (by decide) ?_
    exact xx_iret rfl (Or.inl rfl) ⟨congrArg (fun z => some (Sum.inl z)) (by grind [bi]), rfl⟩
set_option maxHeartbeats 1000000 in
theorem r_mostOf {m : XM} (w : Int) : XC 1 189 [.inr (some 479), .inl w] m (some (.inl (mstF w))) m := by
  refine XC_of (Nat.le_of_ble_eq_true rfl) (Nat.le_of_ble_eq_true rfl) (loc := [_, _]) rfl ?_
  refine xx_iload_n (q := 1) rfl rfl rfl ?_
  refine xx_if_ne (q := 10) (q2 := 4) rfl rfl rfl (fun h1 => ?_) (fun h1 => ?_)
  · refine xx_iload_n (q := 11) rfl rfl rfl ?_
    refine xx_iconst (q := 12) rfl rfl (by decide) ?_
    refine xx_icmp_ne (q := 19) (q2 := 15) rfl rfl rfl (fun h12 => ?_) (fun h12 => ?_)
    · refine xx_bipush (q := 21) rfl rfl (by decide) ?_
      exact xx_iret rfl trivial ⟨congrArg (fun z => some (Sum.inl z)) (by grind [mstF]), rfl⟩
    · refine xx_iconst (q := 16) rfl rfl (by decide) ?_
      refine xx_goto (q := 21) rfl rfl ?_
      exact xx_iret rfl trivial ⟨congrArg (fun z => some (Sum.inl z)) (by grind [mstF]), rfl⟩
  · refine xx_sipush (q := 7) rfl rfl (by decide) ?_
    refine xx_goto (q := 21) rfl rfl ?_
    exact xx_iret rfl trivial ⟨congrArg (fun z => some (Sum.inl z)) (by grind [mstF]), rfl⟩
set_option maxHeartbeats 2000000 in
theorem r_set {n : Nat} {R : Nat → Nat → Option Nat} {K D : KK} {b : Int} {B : Nat → Int} {U : UU} (hR : RF R) (hV : RV 0 K b B U D D) (hI : KI K) (w v : Int) : ∃ D', XC 2 190 [.inr (some 479), .inl w, .inl v] (xS n, R, D) (some (.inl (bi (setP w v)))) (xS n, R, D') ∧ PV (setK K w v) (b) (B) (tldU (setP w v) U) D D' := by
  refine XE_of (Nat.le_of_ble_eq_true rfl) (Nat.le_of_ble_eq_true rfl) (loc := [_, _, _]) rfl ?_
  refine xx_aload_n (q := 1) rfl rfl rfl ?_
  refine xx_iconst (q := 2) rfl rfl (by decide) ?_
  refine xr_puz (PV K b B U D) (q := 5) rfl rfl rfl xS_479 (Nat.le_of_ble_eq_true rfl) (Nat.le_of_ble_eq_true rfl) (fun h => by cases h) (Or.inl rfl) ⟨hV.u (by decide), FQ.rf.up (by unfold restQ; omega)⟩ (fun D1 hP0 => ?_)
  refine xx_aload_n (q := 6) rfl rfl rfl ?_
  refine xx_iload_n (q := 7) rfl rfl rfl ?_
  refine xx_iconst (q := 8) rfl rfl (by decide) ?_
  refine xx_iconst (q := 9) rfl rfl (by decide) ?_
  refine xx_callV (q := 12) (As := [_, _, _]) (rest := []) rfl rfl rfl (Or.inl rfl) rfl rfl (Nat.le_of_ble_eq_true rfl) xS_479 (XCm (r_isIn w 0 4) rfl) rfl ?_
  refine xx_ifb_eq (q := 29) (q2 := 15) rfl rfl rfl (fun h12 => ?_) (fun h12 => ?_)
  · refine xx_iconst (q := 30) rfl rfl (by decide) ?_
    refine xx_iret rfl (Or.inl rfl) ⟨congrArg (fun z => some (Sum.inl z)) (by grind [bi]), _, rfl, ?_⟩
    have e : setK K w v = K := by unfold setK; grind
    rw [e]
    unfold tldU
    rw [if_neg (by grind)]
    exact hP0
  · refine xx_aload_n (q := 16) rfl rfl rfl ?_
    refine xx_iload_n (q := 17) rfl rfl rfl ?_
    refine xx_iconst (q := 18) rfl rfl (by decide) ?_
    refine xx_aload_n (q := 19) rfl rfl rfl ?_
    refine xx_iload_n (q := 20) rfl rfl rfl ?_
    refine xx_callV (q := 23) (As := [_]) (rest := [_, _, _]) rfl rfl rfl (Or.inl rfl) rfl rfl (Nat.le_of_ble_eq_true rfl) xS_479 (XCm (r_mostOf w) rfl) rfl ?_
    have hb1 := mstF_b w
    refine xx_callV (q := 26) (As := [_, _, _]) (rest := []) rfl rfl rfl (Or.inl rfl) rfl rfl (Nat.le_of_ble_eq_true rfl) xS_479 (XCm (r_isIn v 0 (mstF w)) rfl) rfl ?_
    refine xx_ifb_ne (q := 31) (q2 := 29) rfl rfl rfl (fun h26 => ?_) (fun h26 => ?_)
    · refine xx_aload_n (q := 32) rfl rfl rfl ?_
      refine xx_getR (q := 35) rfl rfl rfl xS_479 (Nat.le_of_ble_eq_true rfl) rfl (hR.1 479 15 rfl) ?_
      refine xx_iload_n (q := 36) rfl rfl rfl ?_
      refine xx_iload_n (q := 37) rfl rfl rfl ?_
      refine xr_isz (PV (xui K 6 (w).toNat v) b B U D) (q := 38) rfl rfl xS_490 (by omega) (by omega) (hP0.c490 (v := v) (by omega)) (fun D203 hP203 => ?_)
      have hs203 : (xui K 6 (w).toNat v) 6 (w).toNat = v := xui_s
      have hI203 : KI (xui K 6 (w).toNat v) := KI_up hI (show (0 : Int) ≤ _ by omega) (show _ ≤ (1000 : Int) by omega)
      refine xx_aload_n (q := 39) rfl rfl rfl ?_
      refine xx_iconst (q := 40) rfl rfl (by decide) ?_
      refine xr_puz (PV (xui K 6 (w).toNat v) b B ([]) D) (q := 43) rfl rfl rfl xS_479 (Nat.le_of_ble_eq_true rfl) (Nat.le_of_ble_eq_true rfl) (fun h => by cases h) (Or.inl rfl) hP203.un0 (fun D205 hP205 => ?_)
      refine xx_iconst (q := 44) rfl rfl (by decide) ?_
      refine xx_iret rfl (Or.inr rfl) ⟨congrArg (fun z => some (Sum.inl z)) (by grind [bi]), _, rfl, ?_⟩
      have e : setK K w v = (xui K 6 (w).toNat v) := by unfold setK; grind
      rw [e]
      unfold tldU
      rw [if_pos (by grind)]
      exact hP205
    · refine xx_iconst (q := 30) rfl rfl (by decide) ?_
      refine xx_iret rfl (Or.inl rfl) ⟨congrArg (fun z => some (Sum.inl z)) (by grind [bi]), _, rfl, ?_⟩
      have e : setK K w v = K := by unfold setK; grind
      rw [e]
      unfold tldU
      rw [if_neg (by grind)]
      exact hP0
set_option maxHeartbeats 4000000 in
theorem r_lock {n : Nat} {R : Nat → Nat → Option Nat} {K D : KK} {b : Int} {B : Nat → Int} {U : UU} (hR : RF R) (hV : RV 0 K b B U D D) (hI : KI K) (l w v : Int) : ∃ D', XC 3 185 [.inr (some 479), .inl l, .inl w, .inl v] (xS n, R, D) (some (.inl (bi (lokP K l w v)))) (xS n, R, D') ∧ PV (lokK K l w v) (b) (B) (tldU (lokP K l w v) U) D D' := by
  have hbB := ki_B hI
  have hbL := ki_L hI
  refine XE_of (Nat.le_of_ble_eq_true rfl) (Nat.le_of_ble_eq_true rfl) (loc := [_, _, _, _]) rfl ?_
  refine xx_aload_n (q := 1) rfl rfl rfl ?_
  refine xx_iconst (q := 2) rfl rfl (by decide) ?_
  refine xr_puz (PV K b B U D) (q := 5) rfl rfl rfl xS_479 (Nat.le_of_ble_eq_true rfl) (Nat.le_of_ble_eq_true rfl) (fun h => by cases h) (Or.inl rfl) ⟨hV.u (by decide), FQ.rf.up (by unfold restQ; omega)⟩ (fun D1 hP0 => ?_)
  refine xx_aload_n (q := 6) rfl rfl rfl ?_
  refine xx_iload_n (q := 7) rfl rfl rfl ?_
  refine xx_iload_n (q := 8) rfl rfl rfl ?_
  refine xx_iload_n (q := 9) rfl rfl rfl ?_
  refine xx_callV (q := 12) (As := [_, _, _]) (rest := []) rfl rfl rfl (Or.inl rfl) rfl rfl (Nat.le_of_ble_eq_true rfl) xS_479 (XCm (r_canLock hR hP0.1 hI l w v) rfl) rfl ?_
  refine xx_ifb_ne (q := 17) (q2 := 15) rfl rfl rfl (fun h12 => ?_) (fun h12 => ?_)
  · have hcl := h12
    refine xx_iload_n (q := 18) rfl rfl rfl ?_
    refine xx_if_ne (q := 31) (q2 := 21) rfl rfl rfl (fun h18 => ?_) (fun h18 => ?_)
    · refine xx_iload_n (q := 32) rfl rfl rfl ?_
      refine xx_iconst (q := 33) rfl rfl (by decide) ?_
      refine xx_icmp_ne (q := 43) (q2 := 36) rfl rfl rfl (fun h33 => ?_) (fun h33 => ?_)
      · refine xx_iload_n (q := 44) rfl rfl rfl ?_
        refine xx_iconst (q := 45) rfl rfl (by decide) ?_
        refine xx_icmp_ne (q := 57) (q2 := 48) rfl rfl rfl (fun h45 => ?_) (fun h45 => ?_)
        · refine xx_iload_n (q := 58) rfl rfl rfl ?_
          refine xx_iconst (q := 59) rfl rfl (by decide) ?_
          refine xx_icmp_ne (q := 72) (q2 := 62) rfl rfl rfl (fun h59 => ?_) (fun h59 => ?_)
          · refine xx_iload_n (q := 73) rfl rfl rfl ?_
            refine xx_iconst (q := 74) rfl rfl (by decide) ?_
            refine xx_icmp_ne (q := 86) (q2 := 77) rfl rfl rfl (fun h74 => ?_) (fun h74 => ?_)
            · refine xx_aload_n (q := 87) rfl rfl rfl ?_
              refine xx_iload_n (q := 88) rfl rfl rfl ?_
              refine xx_bipush (q := 90) rfl rfl (by decide) ?_
              refine xx_bipush (q := 92) rfl rfl (by decide) ?_
              refine xx_callV (q := 95) (As := [_, _, _]) (rest := []) rfl rfl rfl (Or.inl rfl) rfl rfl (Nat.le_of_ble_eq_true rfl) xS_479 (XCm (r_isIn w 10 13) rfl) rfl ?_
              refine xx_ifb_eq (q := 112) (q2 := 98) rfl rfl rfl (fun h95 => ?_) (fun h95 => ?_)
              · refine xx_iload_n (q := 113) rfl rfl rfl ?_
                refine xx_bipush (q := 115) rfl rfl (by decide) ?_
                refine xx_icmp_lt (q := 136) (q2 := 118) rfl rfl rfl (fun h115 => (by exfalso; omega)) (fun _ => ?_)
                refine xx_aload_n (q := 119) rfl rfl rfl ?_
                refine xx_getR (q := 122) rfl rfl rfl xS_479 (Nat.le_of_ble_eq_true rfl) rfl (hR.1 479 1 rfl) ?_
                refine xx_bipush (q := 124) rfl rfl (by decide) ?_
                refine xx_bipush (q := 126) rfl rfl (by decide) ?_
                refine xx_iload_n (q := 127) rfl rfl rfl ?_
                refine xx_imulR (q := 128) rfl rfl (by omega) (by omega) ?_
                refine xx_iaddR (q := 129) rfl rfl (by omega) (by omega) ?_
                refine xx_iload_n (q := 130) rfl rfl rfl ?_
                refine xx_iaddR (q := 131) rfl rfl (by omega) (by omega) ?_
                refine xx_bipush (q := 133) rfl rfl (by decide) ?_
                refine xx_isubR (q := 134) rfl rfl (by omega) (by omega) ?_
                refine xx_iload_n (q := 135) rfl rfl rfl ?_
                rw [show ((41 + (6 * l)) + w) - 20 = (41 + (6 * l)) + (w - 20) by omega]
                refine xr_isz (PV (xui K 12 (l * 6 + (w - 20)).toNat v) b B U D) (q := 136) rfl rfl xS_480 (by omega) (by omega) (hP0.row (rs_12 (v := v) (l := l) (c := w - 20) hP0.1 hI (by omega) (by omega) (by omega) (by omega) rfl)) (fun D202 hP202 => ?_)
                have hs202 : (xui K 12 (l * 6 + (w - 20)).toNat v) 12 (l * 6 + (w - 20)).toNat = v := xui_s
                have hI202 : KI (xui K 12 (l * 6 + (w - 20)).toNat v) := KI_up hI (show (-99 : Int) ≤ _ by omega) (show _ ≤ (99 : Int) by omega)
                refine xx_aload_n (q := 137) rfl rfl rfl ?_
                refine xx_iconst (q := 138) rfl rfl (by decide) ?_
                refine xr_puz (PV (xui K 12 (l * 6 + (w - 20)).toNat v) b B ([]) D) (q := 141) rfl rfl rfl xS_479 (Nat.le_of_ble_eq_true rfl) (Nat.le_of_ble_eq_true rfl) (fun h => by cases h) (Or.inl rfl) hP202.un0 (fun D204 hP204 => ?_)
                refine xx_iconst (q := 142) rfl rfl (by decide) ?_
                refine xx_iret rfl (Or.inr rfl) ⟨congrArg (fun z => some (Sum.inl z)) (by exact (bi_t h12).symm), _, rfl, ?_⟩
                have e : lokK K l w v = (xui K 12 (l * 6 + (w - 20)).toNat v) := by unfold lokK; rw [if_pos h12]; unfold lokW; grind []
                rw [e]
                unfold tldU
                rw [if_pos h12]
                exact hP204
              · refine xx_aload_n (q := 99) rfl rfl rfl ?_
                refine xx_getR (q := 102) rfl rfl rfl xS_479 (Nat.le_of_ble_eq_true rfl) rfl (hR.1 479 12 rfl) ?_
                refine xx_iconst (q := 103) rfl rfl (by decide) ?_
                refine xx_iload_n (q := 104) rfl rfl rfl ?_
                refine xx_imulR (q := 105) rfl rfl (by omega) (by omega) ?_
                refine xx_iload_n (q := 106) rfl rfl rfl ?_
                refine xx_iaddR (q := 107) rfl rfl (by omega) (by omega) ?_
                refine xx_bipush (q := 109) rfl rfl (by decide) ?_
                refine xx_isubR (q := 110) rfl rfl (by omega) (by omega) ?_
                refine xx_iload_n (q := 111) rfl rfl rfl ?_
                rw [show ((4 * l) + w) - 10 = ((l * 4) + w) - 10 by omega]
                refine xr_isz (PV (xui K 11 (((l * 4) + w) - 10).toNat v) b B U D) (q := 112) rfl rfl xS_487 (by omega) (by omega) (hP0.c487 (v := v) (by omega)) (fun D206 hP206 => ?_)
                have hs206 : (xui K 11 (((l * 4) + w) - 10).toNat v) 11 (((l * 4) + w) - 10).toNat = v := xui_s
                have hI206 : KI (xui K 11 (((l * 4) + w) - 10).toNat v) := KI_up hI (show (-9 : Int) ≤ _ by omega) (show _ ≤ (9 : Int) by omega)
                refine xx_iload_n (q := 113) rfl rfl rfl ?_
                refine xx_bipush (q := 115) rfl rfl (by decide) ?_
                refine xx_icmp_lt (q := 136) (q2 := 118) rfl rfl rfl (fun _ => ?_) (fun h115 => (by exfalso; omega))
                refine xx_aload_n (q := 137) rfl rfl rfl ?_
                refine xx_iconst (q := 138) rfl rfl (by decide) ?_
                refine xr_puz (PV (xui K 11 (((l * 4) + w) - 10).toNat v) b B ([]) D) (q := 141) rfl rfl rfl xS_479 (Nat.le_of_ble_eq_true rfl) (Nat.le_of_ble_eq_true rfl) (fun h => by cases h) (Or.inl rfl) hP206.un0 (fun D208 hP208 => ?_)
                refine xx_iconst (q := 142) rfl rfl (by decide) ?_
                refine xx_iret rfl (Or.inr rfl) ⟨congrArg (fun z => some (Sum.inl z)) (by exact (bi_t h12).symm), _, rfl, ?_⟩
                have e : lokK K l w v = (xui K 11 (((l * 4) + w) - 10).toNat v) := by unfold lokK; rw [if_pos h12]; unfold lokW; grind []
                rw [e]
                unfold tldU
                rw [if_pos h12]
                exact hP208
            · refine xx_aload_n (q := 78) rfl rfl rfl ?_
              refine xx_getR (q := 81) rfl rfl rfl xS_479 (Nat.le_of_ble_eq_true rfl) rfl (hR.1 479 11 rfl) ?_
              refine xx_iload_n (q := 82) rfl rfl rfl ?_
              refine xx_iload_n (q := 83) rfl rfl rfl ?_
              refine xx_iconst (q := 84) rfl rfl (by decide) ?_
              refine xx_iaddR (q := 85) rfl rfl (by omega) (by omega) ?_
              refine xr_isz (PV (xui K 9 (l).toNat v) b B U D) (q := 86) rfl rfl xS_486 (by omega) (by omega) (hP0.c486 (v := v) (by omega)) (fun D210 hP210 => ?_)
              have hs210 : (xui K 9 (l).toNat v) 9 (l).toNat = v := xui_s
              have hI210 : KI (xui K 9 (l).toNat v) := KI_up hI (show (-1 : Int) ≤ _ by omega) (show _ ≤ (8 : Int) by omega)
              refine xx_aload_n (q := 87) rfl rfl rfl ?_
              refine xx_iload_n (q := 88) rfl rfl rfl ?_
              refine xx_bipush (q := 90) rfl rfl (by decide) ?_
              refine xx_bipush (q := 92) rfl rfl (by decide) ?_
              have hL11 : (xui K 9 (l).toNat v) 0 0 = K 0 0 := rfl
              have hL12 : (xui K 9 (l).toNat v) 13 0 = K 13 0 := rfl
              refine xx_callV (q := 95) (As := [_, _, _]) (rest := []) rfl rfl rfl (Or.inl rfl) rfl rfl (Nat.le_of_ble_eq_true rfl) xS_479 (XCm (r_isIn w 10 13) rfl) rfl ?_
              refine xx_ifb_eq (q := 112) (q2 := 98) rfl rfl rfl (fun _ => ?_) (fun h95 => (by exfalso; omega))
              refine xx_iload_n (q := 113) rfl rfl rfl ?_
              refine xx_bipush (q := 115) rfl rfl (by decide) ?_
              refine xx_icmp_lt (q := 136) (q2 := 118) rfl rfl rfl (fun _ => ?_) (fun h115 => (by exfalso; omega))
              refine xx_aload_n (q := 137) rfl rfl rfl ?_
              refine xx_iconst (q := 138) rfl rfl (by decide) ?_
              refine xr_puz (PV (xui K 9 (l).toNat v) b B ([]) D) (q := 141) rfl rfl rfl xS_479 (Nat.le_of_ble_eq_true rfl) (Nat.le_of_ble_eq_true rfl) (fun h => by cases h) (Or.inl rfl) hP210.un0 (fun D214 hP214 => ?_)
              refine xx_iconst (q := 142) rfl rfl (by decide) ?_
              refine xx_iret rfl (Or.inr rfl) ⟨congrArg (fun z => some (Sum.inl z)) (by exact (bi_t h12).symm), _, rfl, ?_⟩
              have e : lokK K l w v = (xui K 9 (l).toNat v) := by unfold lokK; rw [if_pos h12]; unfold lokW; grind []
              rw [e]
              unfold tldU
              rw [if_pos h12]
              exact hP214
          · refine xx_aload_n (q := 63) rfl rfl rfl ?_
            refine xx_getR (q := 66) rfl rfl rfl xS_479 (Nat.le_of_ble_eq_true rfl) rfl (hR.1 479 1 rfl) ?_
            refine xx_bipush (q := 68) rfl rfl (by decide) ?_
            refine xx_iload_n (q := 69) rfl rfl rfl ?_
            refine xx_iaddR (q := 70) rfl rfl (by omega) (by omega) ?_
            refine xx_iload_n (q := 71) rfl rfl rfl ?_
            refine xr_isz (PV (xui K 8 (l).toNat v) b B U D) (q := 72) rfl rfl xS_480 (by omega) (by omega) (hP0.row (rs_8 (v := v) (p := l) hP0.1 hI (by omega) (by omega) (by omega))) (fun D216 hP216 => ?_)
            have hs216 : (xui K 8 (l).toNat v) 8 (l).toNat = v := xui_s
            have hI216 : KI (xui K 8 (l).toNat v) := KI_up hI (show (-99 : Int) ≤ _ by omega) (show _ ≤ (99 : Int) by omega)
            refine xx_iload_n (q := 73) rfl rfl rfl ?_
            refine xx_iconst (q := 74) rfl rfl (by decide) ?_
            refine xx_icmp_ne (q := 86) (q2 := 77) rfl rfl rfl (fun _ => ?_) (fun h74 => (by exfalso; omega))
            refine xx_aload_n (q := 87) rfl rfl rfl ?_
            refine xx_iload_n (q := 88) rfl rfl rfl ?_
            refine xx_bipush (q := 90) rfl rfl (by decide) ?_
            refine xx_bipush (q := 92) rfl rfl (by decide) ?_
            have hL17 : (xui K 8 (l).toNat v) 0 0 = K 0 0 := rfl
            have hL18 : (xui K 8 (l).toNat v) 13 0 = K 13 0 := rfl
            refine xx_callV (q := 95) (As := [_, _, _]) (rest := []) rfl rfl rfl (Or.inl rfl) rfl rfl (Nat.le_of_ble_eq_true rfl) xS_479 (XCm (r_isIn w 10 13) rfl) rfl ?_
            refine xx_ifb_eq (q := 112) (q2 := 98) rfl rfl rfl (fun _ => ?_) (fun h95 => (by exfalso; omega))
            refine xx_iload_n (q := 113) rfl rfl rfl ?_
            refine xx_bipush (q := 115) rfl rfl (by decide) ?_
            refine xx_icmp_lt (q := 136) (q2 := 118) rfl rfl rfl (fun _ => ?_) (fun h115 => (by exfalso; omega))
            refine xx_aload_n (q := 137) rfl rfl rfl ?_
            refine xx_iconst (q := 138) rfl rfl (by decide) ?_
            refine xr_puz (PV (xui K 8 (l).toNat v) b B ([]) D) (q := 141) rfl rfl rfl xS_479 (Nat.le_of_ble_eq_true rfl) (Nat.le_of_ble_eq_true rfl) (fun h => by cases h) (Or.inl rfl) hP216.un0 (fun D220 hP220 => ?_)
            refine xx_iconst (q := 142) rfl rfl (by decide) ?_
            refine xx_iret rfl (Or.inr rfl) ⟨congrArg (fun z => some (Sum.inl z)) (by exact (bi_t h12).symm), _, rfl, ?_⟩
            have e : lokK K l w v = (xui K 8 (l).toNat v) := by unfold lokK; rw [if_pos h12]; unfold lokW; grind []
            rw [e]
            unfold tldU
            rw [if_pos h12]
            exact hP220
        · refine xx_aload_n (q := 49) rfl rfl rfl ?_
          refine xx_getR (q := 52) rfl rfl rfl xS_479 (Nat.le_of_ble_eq_true rfl) rfl (hR.1 479 10 rfl) ?_
          refine xx_iload_n (q := 53) rfl rfl rfl ?_
          refine xx_iload_n (q := 54) rfl rfl rfl ?_
          refine xx_iconst (q := 55) rfl rfl (by decide) ?_
          refine xx_isubR (q := 56) rfl rfl (by omega) (by omega) ?_
          refine xr_isz (PV (xui K 4 (l).toNat v) b B U D) (q := 57) rfl rfl xS_485 (by omega) (by omega) (hP0.c485 (v := v) (by omega)) (fun D222 hP222 => ?_)
          have hs222 : (xui K 4 (l).toNat v) 4 (l).toNat = v := xui_s
          have hI222 : KI (xui K 4 (l).toNat v) := KI_up hI (show (1 : Int) ≤ _ by omega) (show _ ≤ (9 : Int) by omega)
          refine xx_iload_n (q := 58) rfl rfl rfl ?_
          refine xx_iconst (q := 59) rfl rfl (by decide) ?_
          refine xx_icmp_ne (q := 72) (q2 := 62) rfl rfl rfl (fun _ => ?_) (fun h59 => (by exfalso; omega))
          refine xx_iload_n (q := 73) rfl rfl rfl ?_
          refine xx_iconst (q := 74) rfl rfl (by decide) ?_
          refine xx_icmp_ne (q := 86) (q2 := 77) rfl rfl rfl (fun _ => ?_) (fun h74 => (by exfalso; omega))
          refine xx_aload_n (q := 87) rfl rfl rfl ?_
          refine xx_iload_n (q := 88) rfl rfl rfl ?_
          refine xx_bipush (q := 90) rfl rfl (by decide) ?_
          refine xx_bipush (q := 92) rfl rfl (by decide) ?_
          have hL23 : (xui K 4 (l).toNat v) 0 0 = K 0 0 := rfl
          have hL24 : (xui K 4 (l).toNat v) 13 0 = K 13 0 := rfl
          refine xx_callV (q := 95) (As := [_, _, _]) (rest := []) rfl rfl rfl (Or.inl rfl) rfl rfl (Nat.le_of_ble_eq_true rfl) xS_479 (XCm (r_isIn w 10 13) rfl) rfl ?_
          refine xx_ifb_eq (q := 112) (q2 := 98) rfl rfl rfl (fun _ => ?_) (fun h95 => (by exfalso; omega))
          refine xx_iload_n (q := 113) rfl rfl rfl ?_
          refine xx_bipush (q := 115) rfl rfl (by decide) ?_
          refine xx_icmp_lt (q := 136) (q2 := 118) rfl rfl rfl (fun _ => ?_) (fun h115 => (by exfalso; omega))
          refine xx_aload_n (q := 137) rfl rfl rfl ?_
          refine xx_iconst (q := 138) rfl rfl (by decide) ?_
          refine xr_puz (PV (xui K 4 (l).toNat v) b B ([]) D) (q := 141) rfl rfl rfl xS_479 (Nat.le_of_ble_eq_true rfl) (Nat.le_of_ble_eq_true rfl) (fun h => by cases h) (Or.inl rfl) hP222.un0 (fun D226 hP226 => ?_)
          refine xx_iconst (q := 142) rfl rfl (by decide) ?_
          refine xx_iret rfl (Or.inr rfl) ⟨congrArg (fun z => some (Sum.inl z)) (by exact (bi_t h12).symm), _, rfl, ?_⟩
          have e : lokK K l w v = (xui K 4 (l).toNat v) := by unfold lokK; rw [if_pos h12]; unfold lokW; grind []
          rw [e]
          unfold tldU
          rw [if_pos h12]
          exact hP226
      · refine xx_aload_n (q := 37) rfl rfl rfl ?_
        refine xx_getR (q := 40) rfl rfl rfl xS_479 (Nat.le_of_ble_eq_true rfl) rfl (hR.1 479 9 rfl) ?_
        refine xx_iload_n (q := 41) rfl rfl rfl ?_
        refine xx_iload_n (q := 42) rfl rfl rfl ?_
        refine xr_isz (PV (xui K 3 (l).toNat v) b B U D) (q := 43) rfl rfl xS_484 (by omega) (by omega) (hP0.c484 (v := v) (by omega)) (fun D228 hP228 => ?_)
        have hs228 : (xui K 3 (l).toNat v) 3 (l).toNat = v := xui_s
        have hI228 : KI (xui K 3 (l).toNat v) := KI_up hI (show (0 : Int) ≤ _ by omega) (show _ ≤ (9 : Int) by omega)
        refine xx_iload_n (q := 44) rfl rfl rfl ?_
        refine xx_iconst (q := 45) rfl rfl (by decide) ?_
        refine xx_icmp_ne (q := 57) (q2 := 48) rfl rfl rfl (fun _ => ?_) (fun h45 => (by exfalso; omega))
        refine xx_iload_n (q := 58) rfl rfl rfl ?_
        refine xx_iconst (q := 59) rfl rfl (by decide) ?_
        refine xx_icmp_ne (q := 72) (q2 := 62) rfl rfl rfl (fun _ => ?_) (fun h59 => (by exfalso; omega))
        refine xx_iload_n (q := 73) rfl rfl rfl ?_
        refine xx_iconst (q := 74) rfl rfl (by decide) ?_
        refine xx_icmp_ne (q := 86) (q2 := 77) rfl rfl rfl (fun _ => ?_) (fun h74 => (by exfalso; omega))
        refine xx_aload_n (q := 87) rfl rfl rfl ?_
        refine xx_iload_n (q := 88) rfl rfl rfl ?_
        refine xx_bipush (q := 90) rfl rfl (by decide) ?_
        refine xx_bipush (q := 92) rfl rfl (by decide) ?_
        have hL29 : (xui K 3 (l).toNat v) 0 0 = K 0 0 := rfl
        have hL30 : (xui K 3 (l).toNat v) 13 0 = K 13 0 := rfl
        refine xx_callV (q := 95) (As := [_, _, _]) (rest := []) rfl rfl rfl (Or.inl rfl) rfl rfl (Nat.le_of_ble_eq_true rfl) xS_479 (XCm (r_isIn w 10 13) rfl) rfl ?_
        refine xx_ifb_eq (q := 112) (q2 := 98) rfl rfl rfl (fun _ => ?_) (fun h95 => (by exfalso; omega))
        refine xx_iload_n (q := 113) rfl rfl rfl ?_
        refine xx_bipush (q := 115) rfl rfl (by decide) ?_
        refine xx_icmp_lt (q := 136) (q2 := 118) rfl rfl rfl (fun _ => ?_) (fun h115 => (by exfalso; omega))
        refine xx_aload_n (q := 137) rfl rfl rfl ?_
        refine xx_iconst (q := 138) rfl rfl (by decide) ?_
        refine xr_puz (PV (xui K 3 (l).toNat v) b B ([]) D) (q := 141) rfl rfl rfl xS_479 (Nat.le_of_ble_eq_true rfl) (Nat.le_of_ble_eq_true rfl) (fun h => by cases h) (Or.inl rfl) hP228.un0 (fun D232 hP232 => ?_)
        refine xx_iconst (q := 142) rfl rfl (by decide) ?_
        refine xx_iret rfl (Or.inr rfl) ⟨congrArg (fun z => some (Sum.inl z)) (by exact (bi_t h12).symm), _, rfl, ?_⟩
        have e : lokK K l w v = (xui K 3 (l).toNat v) := by unfold lokK; rw [if_pos h12]; unfold lokW; grind []
        rw [e]
        unfold tldU
        rw [if_pos h12]
        exact hP232
    · refine xx_aload_n (q := 22) rfl rfl rfl ?_
      refine xx_getR (q := 25) rfl rfl rfl xS_479 (Nat.le_of_ble_eq_true rfl) rfl (hR.1 479 8 rfl) ?_
      refine xx_iload_n (q := 26) rfl rfl rfl ?_
      refine xx_iload_n (q := 27) rfl rfl rfl ?_
      refine xx_bipush (q := 29) rfl rfl (by decide) ?_
      refine xx_isubR (q := 30) rfl rfl (by omega) (by omega) ?_
      refine xr_isz (PV (xui K 2 (l).toNat v) b B U D) (q := 31) rfl rfl xS_483 (by omega) (by omega) (hP0.c483 (v := v) (by omega)) (fun D234 hP234 => ?_)
      have hs234 : (xui K 2 (l).toNat v) 2 (l).toNat = v := xui_s
      have hI234 : KI (xui K 2 (l).toNat v) := KI_up hI (show (1 : Int) ≤ _ by omega) (show _ ≤ (50 : Int) by omega)
      refine xx_iload_n (q := 32) rfl rfl rfl ?_
      refine xx_iconst (q := 33) rfl rfl (by decide) ?_
      refine xx_icmp_ne (q := 43) (q2 := 36) rfl rfl rfl (fun _ => ?_) (fun h33 => (by exfalso; omega))
      refine xx_iload_n (q := 44) rfl rfl rfl ?_
      refine xx_iconst (q := 45) rfl rfl (by decide) ?_
      refine xx_icmp_ne (q := 57) (q2 := 48) rfl rfl rfl (fun _ => ?_) (fun h45 => (by exfalso; omega))
      refine xx_iload_n (q := 58) rfl rfl rfl ?_
      refine xx_iconst (q := 59) rfl rfl (by decide) ?_
      refine xx_icmp_ne (q := 72) (q2 := 62) rfl rfl rfl (fun _ => ?_) (fun h59 => (by exfalso; omega))
      refine xx_iload_n (q := 73) rfl rfl rfl ?_
      refine xx_iconst (q := 74) rfl rfl (by decide) ?_
      refine xx_icmp_ne (q := 86) (q2 := 77) rfl rfl rfl (fun _ => ?_) (fun h74 => (by exfalso; omega))
      refine xx_aload_n (q := 87) rfl rfl rfl ?_
      refine xx_iload_n (q := 88) rfl rfl rfl ?_
      refine xx_bipush (q := 90) rfl rfl (by decide) ?_
      refine xx_bipush (q := 92) rfl rfl (by decide) ?_
      have hL35 : (xui K 2 (l).toNat v) 0 0 = K 0 0 := rfl
      have hL36 : (xui K 2 (l).toNat v) 13 0 = K 13 0 := rfl
      refine xx_callV (q := 95) (As := [_, _, _]) (rest := []) rfl rfl rfl (Or.inl rfl) rfl rfl (Nat.le_of_ble_eq_true rfl) xS_479 (XCm (r_isIn w 10 13) rfl) rfl ?_
      refine xx_ifb_eq (q := 112) (q2 := 98) rfl rfl rfl (fun _ => ?_) (fun h95 => (by exfalso; omega))
      refine xx_iload_n (q := 113) rfl rfl rfl ?_
      refine xx_bipush (q := 115) rfl rfl (by decide) ?_
      refine xx_icmp_lt (q := 136) (q2 := 118) rfl rfl rfl (fun _ => ?_) (fun h115 => (by exfalso; omega))
      refine xx_aload_n (q := 137) rfl rfl rfl ?_
      refine xx_iconst (q := 138) rfl rfl (by decide) ?_
      refine xr_puz (PV (xui K 2 (l).toNat v) b B ([]) D) (q := 141) rfl rfl rfl xS_479 (Nat.le_of_ble_eq_true rfl) (Nat.le_of_ble_eq_true rfl) (fun h => by cases h) (Or.inl rfl) hP234.un0 (fun D238 hP238 => ?_)
      refine xx_iconst (q := 142) rfl rfl (by decide) ?_
      refine xx_iret rfl (Or.inr rfl) ⟨congrArg (fun z => some (Sum.inl z)) (by exact (bi_t h12).symm), _, rfl, ?_⟩
      have e : lokK K l w v = (xui K 2 (l).toNat v) := by unfold lokK; rw [if_pos h12]; unfold lokW; grind []
      rw [e]
      unfold tldU
      rw [if_pos h12]
      exact hP238
  · refine xx_iconst (q := 16) rfl rfl (by decide) ?_
    refine xx_iret rfl (Or.inl rfl) ⟨congrArg (fun z => some (Sum.inl z)) (by exact (bi_f h12).symm), _, rfl, ?_⟩
    have e : lokK K l w v = K := by unfold lokK; rw [if_neg h12]
    rw [e]
    unfold tldU
    rw [if_neg h12]
    exact hP0
set_option maxHeartbeats 4000000 in
theorem r_load {n : Nat} {R : Nat → Nat → Option Nat} {K D : KK} {b : Int} {B : Nat → Int} {U : UU} (hR : RF R) (hV : RV 0 K b B U D D) (hI : KI K) (c w v : Int) : ∃ D', XC 3 188 [.inr (some 479), .inl c, .inl w, .inl v] (xS n, R, D) (some (.inl (bi (lodP K c w v)))) (xS n, R, D') ∧ PV (lodK K c w v) (b) (B) (tldU (lodP K c w v) U) D D' := by
  have hbB := ki_B hI
  have hbL := ki_L hI
  refine XE_of (Nat.le_of_ble_eq_true rfl) (Nat.le_of_ble_eq_true rfl) (loc := [_, _, _, _]) rfl ?_
  refine xx_aload_n (q := 1) rfl rfl rfl ?_
  refine xx_iconst (q := 2) rfl rfl (by decide) ?_
  refine xr_puz (PV K b B U D) (q := 5) rfl rfl rfl xS_479 (Nat.le_of_ble_eq_true rfl) (Nat.le_of_ble_eq_true rfl) (fun h => by cases h) (Or.inl rfl) ⟨hV.u (by decide), FQ.rf.up (by unfold restQ; omega)⟩ (fun D1 hP0 => ?_)
  refine xx_aload_n (q := 6) rfl rfl rfl ?_
  refine xx_iload_n (q := 7) rfl rfl rfl ?_
  refine xx_iload_n (q := 8) rfl rfl rfl ?_
  refine xx_iload_n (q := 9) rfl rfl rfl ?_
  refine xx_callV (q := 12) (As := [_, _, _]) (rest := []) rfl rfl rfl (Or.inl rfl) rfl rfl (Nat.le_of_ble_eq_true rfl) xS_479 (XCm (r_canLoad hR hP0.1 hI c w v) rfl) rfl ?_
  refine xx_ifb_ne (q := 17) (q2 := 15) rfl rfl rfl (fun h12 => ?_) (fun h12 => ?_)
  · have hcl := h12
    refine xx_iload_n (q := 18) rfl rfl rfl ?_
    refine xx_if_ne (q := 31) (q2 := 21) rfl rfl rfl (fun h18 => ?_) (fun h18 => ?_)
    · refine xx_iload_n (q := 32) rfl rfl rfl ?_
      refine xx_iconst (q := 33) rfl rfl (by decide) ?_
      refine xx_icmp_ne (q := 43) (q2 := 36) rfl rfl rfl (fun h33 => ?_) (fun h33 => ?_)
      · refine xx_iload_n (q := 44) rfl rfl rfl ?_
        refine xx_iconst (q := 45) rfl rfl (by decide) ?_
        refine xx_icmp_ne (q := 55) (q2 := 48) rfl rfl rfl (fun h45 => ?_) (fun h45 => ?_)
        · refine xx_iload_n (q := 56) rfl rfl rfl ?_
          refine xx_bipush (q := 58) rfl rfl (by decide) ?_
          refine xx_icmp_lt (q := 78) (q2 := 61) rfl rfl rfl (fun h58 => (by exfalso; omega)) (fun _ => ?_)
          refine xx_aload_n (q := 62) rfl rfl rfl ?_
          refine xx_getR (q := 65) rfl rfl rfl xS_479 (Nat.le_of_ble_eq_true rfl) rfl (hR.1 479 1 rfl) ?_
          refine xx_bipush (q := 67) rfl rfl (by decide) ?_
          refine xx_iconst (q := 68) rfl rfl (by decide) ?_
          refine xx_iload_n (q := 69) rfl rfl rfl ?_
          refine xx_imulR (q := 70) rfl rfl (by omega) (by omega) ?_
          refine xx_iaddR (q := 71) rfl rfl (by omega) (by omega) ?_
          refine xx_iload_n (q := 72) rfl rfl rfl ?_
          refine xx_iaddR (q := 73) rfl rfl (by omega) (by omega) ?_
          refine xx_bipush (q := 75) rfl rfl (by decide) ?_
          refine xx_isubR (q := 76) rfl rfl (by omega) (by omega) ?_
          refine xx_iload_n (q := 77) rfl rfl rfl ?_
          rw [show ((101 + (4 * c)) + w) - 10 = (101 + (4 * c)) + (w - 10) by omega]
          refine xr_isz (PV (xui K 17 (c * 4 + (w - 10)).toNat v) b B U D) (q := 78) rfl rfl xS_480 (by omega) (by omega) (hP0.row (rs_17 (v := v) (l := c) (c := w - 10) hP0.1 hI (by omega) (by omega) (by omega) (by omega) rfl)) (fun D202 hP202 => ?_)
          have hs202 : (xui K 17 (c * 4 + (w - 10)).toNat v) 17 (c * 4 + (w - 10)).toNat = v := xui_s
          have hI202 : KI (xui K 17 (c * 4 + (w - 10)).toNat v) := KI_up hI (show (0 : Int) ≤ _ by omega) (show _ ≤ (99 : Int) by omega)
          refine xx_aload_n (q := 79) rfl rfl rfl ?_
          refine xx_iconst (q := 80) rfl rfl (by decide) ?_
          refine xr_puz (PV (xui K 17 (c * 4 + (w - 10)).toNat v) b B ([]) D) (q := 83) rfl rfl rfl xS_479 (Nat.le_of_ble_eq_true rfl) (Nat.le_of_ble_eq_true rfl) (fun h => by cases h) (Or.inl rfl) hP202.un0 (fun D204 hP204 => ?_)
          refine xx_iconst (q := 84) rfl rfl (by decide) ?_
          refine xx_iret rfl (Or.inr rfl) ⟨congrArg (fun z => some (Sum.inl z)) (by exact (bi_t h12).symm), _, rfl, ?_⟩
          have e : lodK K c w v = (xui K 17 (c * 4 + (w - 10)).toNat v) := by unfold lodK; rw [if_pos h12]; unfold lodW; grind []
          rw [e]
          unfold tldU
          rw [if_pos h12]
          exact hP204
        · refine xx_aload_n (q := 49) rfl rfl rfl ?_
          refine xx_getR (q := 52) rfl rfl rfl xS_479 (Nat.le_of_ble_eq_true rfl) rfl (hR.1 479 14 rfl) ?_
          refine xx_iload_n (q := 53) rfl rfl rfl ?_
          refine xx_iload_n (q := 54) rfl rfl rfl ?_
          refine xr_isz (PV (xui K 16 (c).toNat v) b B U D) (q := 55) rfl rfl xS_489 (by omega) (by omega) (hP0.c489 (v := v) (by omega)) (fun D206 hP206 => ?_)
          have hs206 : (xui K 16 (c).toNat v) 16 (c).toNat = v := xui_s
          have hI206 : KI (xui K 16 (c).toNat v) := KI_up hI (show (0 : Int) ≤ _ by omega) (show _ ≤ (9 : Int) by omega)
          refine xx_iload_n (q := 56) rfl rfl rfl ?_
          refine xx_bipush (q := 58) rfl rfl (by decide) ?_
          refine xx_icmp_lt (q := 78) (q2 := 61) rfl rfl rfl (fun _ => ?_) (fun h58 => (by exfalso; omega))
          refine xx_aload_n (q := 79) rfl rfl rfl ?_
          refine xx_iconst (q := 80) rfl rfl (by decide) ?_
          refine xr_puz (PV (xui K 16 (c).toNat v) b B ([]) D) (q := 83) rfl rfl rfl xS_479 (Nat.le_of_ble_eq_true rfl) (Nat.le_of_ble_eq_true rfl) (fun h => by cases h) (Or.inl rfl) hP206.un0 (fun D208 hP208 => ?_)
          refine xx_iconst (q := 84) rfl rfl (by decide) ?_
          refine xx_iret rfl (Or.inr rfl) ⟨congrArg (fun z => some (Sum.inl z)) (by exact (bi_t h12).symm), _, rfl, ?_⟩
          have e : lodK K c w v = (xui K 16 (c).toNat v) := by unfold lodK; rw [if_pos h12]; unfold lodW; grind []
          rw [e]
          unfold tldU
          rw [if_pos h12]
          exact hP208
      · refine xx_aload_n (q := 37) rfl rfl rfl ?_
        refine xx_getR (q := 40) rfl rfl rfl xS_479 (Nat.le_of_ble_eq_true rfl) rfl (hR.1 479 13 rfl) ?_
        refine xx_iload_n (q := 41) rfl rfl rfl ?_
        refine xx_iload_n (q := 42) rfl rfl rfl ?_
        refine xr_isz (PV (xui K 15 (c).toNat v) b B U D) (q := 43) rfl rfl xS_488 (by omega) (by omega) (hP0.c488 (v := v) (by omega)) (fun D210 hP210 => ?_)
        have hs210 : (xui K 15 (c).toNat v) 15 (c).toNat = v := xui_s
        have hI210 : KI (xui K 15 (c).toNat v) := KI_up hI (show (0 : Int) ≤ _ by omega) (show _ ≤ (99 : Int) by omega)
        refine xx_iload_n (q := 44) rfl rfl rfl ?_
        refine xx_iconst (q := 45) rfl rfl (by decide) ?_
        refine xx_icmp_ne (q := 55) (q2 := 48) rfl rfl rfl (fun _ => ?_) (fun h45 => (by exfalso; omega))
        refine xx_iload_n (q := 56) rfl rfl rfl ?_
        refine xx_bipush (q := 58) rfl rfl (by decide) ?_
        refine xx_icmp_lt (q := 78) (q2 := 61) rfl rfl rfl (fun _ => ?_) (fun h58 => (by exfalso; omega))
        refine xx_aload_n (q := 79) rfl rfl rfl ?_
        refine xx_iconst (q := 80) rfl rfl (by decide) ?_
        refine xr_puz (PV (xui K 15 (c).toNat v) b B ([]) D) (q := 83) rfl rfl rfl xS_479 (Nat.le_of_ble_eq_true rfl) (Nat.le_of_ble_eq_true rfl) (fun h => by cases h) (Or.inl rfl) hP210.un0 (fun D212 hP212 => ?_)
        refine xx_iconst (q := 84) rfl rfl (by decide) ?_
        refine xx_iret rfl (Or.inr rfl) ⟨congrArg (fun z => some (Sum.inl z)) (by exact (bi_t h12).symm), _, rfl, ?_⟩
        have e : lodK K c w v = (xui K 15 (c).toNat v) := by unfold lodK; rw [if_pos h12]; unfold lodW; grind []
        rw [e]
        unfold tldU
        rw [if_pos h12]
        exact hP212
    · refine xx_aload_n (q := 22) rfl rfl rfl ?_
      refine xx_getR (q := 25) rfl rfl rfl xS_479 (Nat.le_of_ble_eq_true rfl) rfl (hR.1 479 1 rfl) ?_
      refine xx_bipush (q := 27) rfl rfl (by decide) ?_
      refine xx_iload_n (q := 28) rfl rfl rfl ?_
      refine xx_iaddR (q := 29) rfl rfl (by omega) (by omega) ?_
      refine xx_iload_n (q := 30) rfl rfl rfl ?_
      refine xr_isz (PV (xui K 14 (c).toNat v) b B U D) (q := 31) rfl rfl xS_480 (by omega) (by omega) (hP0.row (rs_14 (v := v) (p := c) hP0.1 hI (by omega) (by omega) (by omega))) (fun D214 hP214 => ?_)
      have hs214 : (xui K 14 (c).toNat v) 14 (c).toNat = v := xui_s
      have hI214 : KI (xui K 14 (c).toNat v) := KI_up hI (show (0 : Int) ≤ _ by omega) (show _ ≤ (9 : Int) by omega)
      refine xx_iload_n (q := 32) rfl rfl rfl ?_
      refine xx_iconst (q := 33) rfl rfl (by decide) ?_
      refine xx_icmp_ne (q := 43) (q2 := 36) rfl rfl rfl (fun _ => ?_) (fun h33 => (by exfalso; omega))
      refine xx_iload_n (q := 44) rfl rfl rfl ?_
      refine xx_iconst (q := 45) rfl rfl (by decide) ?_
      refine xx_icmp_ne (q := 55) (q2 := 48) rfl rfl rfl (fun _ => ?_) (fun h45 => (by exfalso; omega))
      refine xx_iload_n (q := 56) rfl rfl rfl ?_
      refine xx_bipush (q := 58) rfl rfl (by decide) ?_
      refine xx_icmp_lt (q := 78) (q2 := 61) rfl rfl rfl (fun _ => ?_) (fun h58 => (by exfalso; omega))
      refine xx_aload_n (q := 79) rfl rfl rfl ?_
      refine xx_iconst (q := 80) rfl rfl (by decide) ?_
      refine xr_puz (PV (xui K 14 (c).toNat v) b B ([]) D) (q := 83) rfl rfl rfl xS_479 (Nat.le_of_ble_eq_true rfl) (Nat.le_of_ble_eq_true rfl) (fun h => by cases h) (Or.inl rfl) hP214.un0 (fun D216 hP216 => ?_)
      refine xx_iconst (q := 84) rfl rfl (by decide) ?_
      refine xx_iret rfl (Or.inr rfl) ⟨congrArg (fun z => some (Sum.inl z)) (by exact (bi_t h12).symm), _, rfl, ?_⟩
      have e : lodK K c w v = (xui K 14 (c).toNat v) := by unfold lodK; rw [if_pos h12]; unfold lodW; grind []
      rw [e]
      unfold tldU
      rw [if_pos h12]
      exact hP216
  · refine xx_iconst (q := 16) rfl rfl (by decide) ?_
    refine xx_iret rfl (Or.inl rfl) ⟨congrArg (fun z => some (Sum.inl z)) (by exact (bi_f h12).symm), _, rfl, ?_⟩
    have e : lodK K c w v = K := by unfold lodK; rw [if_neg h12]
    rw [e]
    unfold tldU
    rw [if_neg h12]
    exact hP0
