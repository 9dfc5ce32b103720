/-! What is told: the class. -/
abbrev putP (N idx v lo hi : Int) : Prop := (0 ≤ idx ∧ idx ≤ N - 1) ∧ (lo ≤ v ∧ v ≤ hi)
def putK (K : KK) (o : Nat) (N idx v lo hi : Int) : KK := if putP N idx v lo hi then xui K o idx.toNat v else K
theorem putK_I {K : KK} {o : Nat} {N idx v lo hi : Int} (h : KI K) (h1 : ∀ j, klo o j ≤ lo) (h2 : ∀ j, hi ≤ khi o j) : KI (putK K o N idx v lo hi) := by
  unfold putK
  split
  · next q => exact KI_up h (Int.le_trans (h1 _) q.2.1) (Int.le_trans q.2.2 (h2 _))
  · exact h
theorem putK_k {K : KK} {o p j : Nat} {N idx v lo hi : Int} (h : p ≠ o) : putK K o N idx v lo hi p j = K p j := by
  unfold putK
  split
  · exact xui_a h
  · rfl
theorem PS.forget {U : UU} {D : KK} (h : PS U D) : PS [] (xui D 86 0 0) := by
  obtain ⟨nx, h1, h2, h3, h4, h5⟩ := h
  exact ⟨nx, h1, Nat.zero_le _, xui_s, (xui_j (by omega)).trans h4, fun i u hu => by cases hu⟩
theorem NWd.forget {K : KK} {b : Int} {B : Nat → Int} {U : UU} {D0 D : KK} (h : NWd K b B U D0 D) : NWd K b B [] D0 (xui D 86 0 0) := ⟨CK_fr h.1 (fun o k ho => xui_a (by omega)), h.2.1.fr (fun k => ⟨xui_a (by omega), xui_a (by omega)⟩), h.2.2.1.forget, fun b k h1 h2 h3 => (xui_a (by omega)).trans (h.2.2.2 b k h1 h2 h3)⟩
theorem NWd.put {K : KK} {b : Int} {B : Nat → Int} {U : UU} {D0 D : KK} {o : Nat} {j : Nat} {v : Int} (h : NWd K b B U D0 D) (ho : o < 18) (ho2 : o ≠ 13) : NWd (xui K o j v) b B U D0 (xui D (27 + o) j v) := h.fr (CK_up h.1 ho2) (Fr.rf.up (by omega))
def fgtU (r : Int) (U : UU) : UU := if r = 0 then U else []
set_option maxHeartbeats 1000000 in
theorem c_put {n N o : Nat} {M : Int} {R : Nat → Nat → Option Nat} {D0 D K : KK} {b : Int} {B : Nat → Int} {U : UU} (hR : RF R) (hW : NWd K b B U D0 D) (hs : (xS n)[27 + o]? = some (0, N)) (hM : (N : Int) = M) (hN : N ≤ 1000) (ho : o < 18) (ho2 : o ≠ 13) (idx v lo hi : Int) : ∃ D', XC 2 159 [.inr (some (27 + o)), .inl idx, .inl v, .inl lo, .inl hi] (xS n, R, D) (some (.inl (bi (putP M idx v lo hi)))) (xS n, R, D') ∧ NWd (putK K o M idx v lo hi) b B U D0 D' := by
  subst hM
  refine XE_of (Nat.le_of_ble_eq_true rfl) (Nat.le_of_ble_eq_true rfl) (loc := [_, _, _, _, _]) rfl ?_
  refine xx_iload_n (q := 1) rfl rfl rfl ?_
  refine xx_iconst (q := 2) rfl rfl (by decide) ?_
  refine xx_aload_n (q := 3) rfl rfl rfl ?_
  refine xx_alen (q := 4) rfl rfl hs (by decide) (by omega) ?_
  refine xx_iconst (q := 5) rfl rfl (by decide) ?_
  refine xx_isubR (q := 6) rfl rfl (by omega) (by omega) ?_
  refine xx_callS (q := 9) (As := [_, _, _]) (rest := []) rfl rfl rfl (Or.inl rfl) rfl rfl (Nat.le_of_ble_eq_true rfl) (XCm (c_within idx 0 (N - 1)) rfl) rfl ?_
  refine xx_ifb_eq (q := 22) (q2 := 12) rfl rfl rfl (fun h9 => ?_) (fun h9 => ?_)
  · refine xx_iconst (q := 23) rfl rfl (by decide) ?_
    refine xx_iret rfl (Or.inl rfl) ⟨congrArg (fun z => some (Sum.inl z)) (bi_f (fun q => h9 q.1)).symm, _, rfl, ?_⟩
    unfold putK
    rw [if_neg (fun q => h9 q.1)]
    exact hW
  · refine xx_iload_n (q := 13) rfl rfl rfl ?_
    refine xx_iload_n (q := 14) rfl rfl rfl ?_
    refine xx_iload (q := 16) rfl rfl rfl ?_
    refine xx_callS (q := 19) (As := [_, _, _]) (rest := []) rfl rfl rfl (Or.inl rfl) rfl rfl (Nat.le_of_ble_eq_true rfl) (XCm (c_within v lo hi) rfl) rfl ?_
    refine xx_ifb_ne (q := 24) (q2 := 22) rfl rfl rfl (fun h19 => ?_) (fun h19 => ?_)
    · refine xx_aload_n (q := 25) rfl rfl rfl ?_
      refine xx_iload_n (q := 26) rfl rfl rfl ?_
      refine xx_iload_n (q := 27) rfl rfl rfl ?_
      refine xx_isz (q := 28) rfl rfl hs (by omega) (by omega) rfl ?_
      refine xx_iconst (q := 29) rfl rfl (by decide) ?_
      refine xx_iret rfl (Or.inr rfl) ⟨congrArg (fun z => some (Sum.inl z)) (bi_t ⟨h9, h19⟩).symm, _, rfl, ?_⟩
      unfold putK
      rw [if_pos ⟨h9, h19⟩]
      exact hW.put ho ho2
    · refine xx_iconst (q := 23) rfl rfl (by decide) ?_
      refine xx_iret rfl (Or.inl rfl) ⟨congrArg (fun z => some (Sum.inl z)) (bi_f (fun q => h19 q.2)).symm, _, rfl, ?_⟩
      unfold putK
      rw [if_neg (fun q => h19 q.2)]
      exact hW
set_option maxHeartbeats 1000000 in
theorem c_forget {n : Nat} {R : Nat → Nat → Option Nat} {D0 D K : KK} {b : Int} {B : Nat → Int} {U : UU} (hR : RF R) (hW : NWd K b B U D0 D) (hI : KI K) : ∃ D', XC 1 80 [.inr (some 86)] (xS n, R, D) none (xS n, R, D') ∧ NWd K b B [] D0 D' := by
  refine XE_of (Nat.le_of_ble_eq_true rfl) (Nat.le_of_ble_eq_true rfl) (loc := [_]) rfl ?_
  refine xx_aload_n (q := 1) rfl rfl rfl ?_
  refine xx_iconst (q := 2) rfl rfl (by decide) ?_
  refine xr_puz (NWd K b B [] D0) (q := 5) rfl rfl rfl xS_86 (Nat.le_of_ble_eq_true rfl) (Nat.le_of_ble_eq_true rfl) (fun h => by cases h) (Or.inl rfl) hW.forget (fun D2 hW2 => ?_)
  refine xx_vret rfl rfl ⟨rfl, _, rfl, ?_⟩
  exact hW2
set_option maxHeartbeats 1000000 in
theorem c_forgetIf {n : Nat} {R : Nat → Nat → Option Nat} {D0 D K : KK} {b : Int} {B : Nat → Int} {U : UU} (hR : RF R) (hW : NWd K b B U D0 D) (hI : KI K) (r : Int) (hr : r = 0 ∨ r = 1) : ∃ D', XC 2 153 [.inr (some 5), .inl r] (xS n, R, D) (some (.inl r)) (xS n, R, D') ∧ NWd K b B (fgtU r U) D0 D' := by
  refine XE_of (Nat.le_of_ble_eq_true rfl) (Nat.le_of_ble_eq_true rfl) (loc := [_, _]) rfl ?_
  refine xx_iload_n (q := 1) rfl rfl rfl ?_
  refine xx_if_eq (q := 11) (q2 := 4) rfl rfl rfl (fun h1 => ?_) (fun h1 => ?_)
  · refine xx_iload_n (q := 12) rfl rfl rfl ?_
    refine xx_iret rfl hr ⟨congrArg (fun z => some (Sum.inl z)) (by rfl), _, rfl, ?_⟩
    unfold fgtU
    rw [if_pos h1]
    exact hW
  · refine xx_aload_n (q := 5) rfl rfl rfl ?_
    refine xx_getR (q := 8) rfl rfl rfl xS_5 (Nat.le_of_ble_eq_true rfl) rfl (hR.1 5 2 rfl) ?_
    obtain ⟨D1, hx1, hW1⟩ := c_forget (n := n) hR hW hI
    refine xx_callV (q := 11) (As := []) (rest := []) rfl rfl rfl (Or.inl rfl) rfl rfl (Nat.le_of_ble_eq_true rfl) xS_86 (XCm hx1 rfl) rfl ?_
    refine xx_iload_n (q := 12) rfl rfl rfl ?_
    refine xx_iret rfl hr ⟨congrArg (fun z => some (Sum.inl z)) (by rfl), _, rfl, ?_⟩
    unfold fgtU
    rw [if_neg h1]
    exact hW1
def sttK (K : KK) (v : Int) : KK := xui K 0 3 v
set_option maxHeartbeats 1000000 in
theorem c_state {n : Nat} {R : Nat → Nat → Option Nat} {D0 D K : KK} {b : Int} {B : Nat → Int} {U : UU} (hR : RF R) (hW : NWd K b B U D0 D) (hI : KI K) (v : Int) (hv : xok v) : ∃ D', XC 2 117 [.inr (some 5), .inl v] (xS n, R, D) (some (.inl (K 0 3))) (xS n, R, D') ∧ NWd (xui K 0 3 v) b B [] D0 D' := by
  have hv1 := hv.1
  have hv2 := hv.2
  refine XE_of (Nat.le_of_ble_eq_true rfl) (Nat.le_of_ble_eq_true rfl) (loc := [_, _, _]) rfl ?_
  refine xx_aload_n (q := 1) rfl rfl rfl ?_
  refine xx_getR (q := 4) rfl rfl rfl xS_5 (Nat.le_of_ble_eq_true rfl) rfl (hR.1 5 0 rfl) ?_
  refine xx_getR (q := 7) rfl rfl rfl xS_6 (Nat.le_of_ble_eq_true rfl) rfl (hR.1 6 5 rfl) ?_
  refine xx_gez (v := K 0 3) (q := 10) rfl rfl rfl (xSc_0 isC_27) (Nat.le_of_ble_eq_true rfl) rfl (hW.1 0 3 (Nat.le_of_ble_eq_true rfl)) ?_
  refine xx_istore_n (q := 11) (loc2 := [_, _, _]) rfl rfl (Nat.le_of_ble_eq_true rfl) rfl ?_
  refine xx_aload_n (q := 12) rfl rfl rfl ?_
  refine xx_getR (q := 15) rfl rfl rfl xS_5 (Nat.le_of_ble_eq_true rfl) rfl (hR.1 5 0 rfl) ?_
  refine xx_getR (q := 18) rfl rfl rfl xS_6 (Nat.le_of_ble_eq_true rfl) rfl (hR.1 6 5 rfl) ?_
  refine xx_iload_n (q := 19) rfl rfl rfl ?_
  refine xn_puz (o := 0) hW (q := 22) rfl rfl rfl (xSc_0 isC_27) (Nat.le_of_ble_eq_true rfl) (Nat.le_of_ble_eq_true rfl) (fun h => by cases h) (Or.inl rfl) (by decide) (by decide) (fun D1 hW1 => ?_)
  have hI1 : KI (xui K 0 3 v) := KI_up hI (show (-2147483648 : Int) ≤ _ by omega) (show _ ≤ (2147483647 : Int) by omega)
  refine xx_aload_n (q := 23) rfl rfl rfl ?_
  refine xx_getR (q := 26) rfl rfl rfl xS_5 (Nat.le_of_ble_eq_true rfl) rfl (hR.1 5 2 rfl) ?_
  obtain ⟨D2, hx2, hW2⟩ := c_forget (n := n) hR hW1 hI1
  refine xx_callV (q := 29) (As := []) (rest := []) rfl rfl rfl (Or.inl rfl) rfl rfl (Nat.le_of_ble_eq_true rfl) xS_86 (XCm hx2 rfl) rfl ?_
  refine xx_iload_n (q := 30) rfl rfl rfl ?_
  refine xx_iret rfl trivial ⟨congrArg (fun z => some (Sum.inl z)) (by rfl), _, rfl, ?_⟩
  exact hW2
abbrev polP (K : KK) (p d : Int) : Prop := (0 ≤ p ∧ p ≤ K 0 0) ∧ (0 ≤ d ∧ d ≤ 999)
def polK (K : KK) (p d : Int) : KK := if polP K p d then xui K 1 p.toNat d else K
def tldU (q : Prop) [Decidable q] (U : UU) : UU := if q then [] else U
set_option maxHeartbeats 1000000 in
theorem c_pool {n : Nat} {R : Nat → Nat → Option Nat} {D0 D K : KK} {b : Int} {B : Nat → Int} {U : UU} (hR : RF R) (hW : NWd K b B U D0 D) (hI : KI K) (p d : Int) : ∃ D', XC 3 119 [.inr (some 5), .inl p, .inl d] (xS n, R, D) (some (.inl (bi (polP K p d)))) (xS n, R, D') ∧ NWd (polK K p d) b B (tldU (polP K p d) U) D0 D' := by
  have hbL := ki_L hI
  refine XE_of (Nat.le_of_ble_eq_true rfl) (Nat.le_of_ble_eq_true rfl) (loc := [_, _, _]) rfl ?_
  refine xx_aload_n (q := 1) rfl rfl rfl ?_
  refine xx_aload_n (q := 2) rfl rfl rfl ?_
  refine xx_getR (q := 5) rfl rfl rfl xS_5 (Nat.le_of_ble_eq_true rfl) rfl (hR.1 5 0 rfl) ?_
  refine xx_getR (q := 8) rfl rfl rfl xS_6 (Nat.le_of_ble_eq_true rfl) rfl (hR.1 6 5 rfl) ?_
  refine xx_iload_n (q := 9) rfl rfl rfl ?_
  refine xx_callV (q := 12) (As := [_]) (rest := [_]) rfl rfl rfl (Or.inl rfl) rfl rfl (Nat.le_of_ble_eq_true rfl) (xSc_0 isC_27) (XCm (c_hasPool hR isC_27 hW.1 hI p) rfl) rfl ?_
  refine xx_ifb_eq (q := 41) (q2 := 15) rfl rfl rfl (fun h12 => ?_) (fun h12 => ?_)
  · refine xx_iconst (q := 42) rfl rfl (by decide) ?_
    obtain ⟨D1, hx1, hW1⟩ := c_forgetIf (n := n) hR hW hI 0 (by decide)
    refine xx_callV (q := 45) (As := [_]) (rest := []) rfl rfl rfl (Or.inl rfl) rfl rfl (Nat.le_of_ble_eq_true rfl) xS_5 (XCm hx1 rfl) rfl ?_
    refine xx_iret rfl (Or.inl rfl) ⟨congrArg (fun z => some (Sum.inl z)) (by exact (bi_f (fun q => h12 q.1)).symm), _, rfl, ?_⟩
    have q : ¬ polP K p d := fun q => h12 q.1
    unfold polK tldU
    rw [if_neg q, if_neg q]
    exact hW1
  · refine xx_aload_n (q := 16) rfl rfl rfl ?_
    refine xx_getR (q := 19) rfl rfl rfl xS_5 (Nat.le_of_ble_eq_true rfl) rfl (hR.1 5 0 rfl) ?_
    refine xx_getR (q := 22) rfl rfl rfl xS_6 (Nat.le_of_ble_eq_true rfl) rfl (hR.1 6 5 rfl) ?_
    refine xx_getR (q := 25) rfl rfl rfl (xSc_0 isC_27) (Nat.le_of_ble_eq_true rfl) rfl (rc_depth hR isC_27) ?_
    refine xx_iload_n (q := 26) rfl rfl rfl ?_
    refine xx_iload_n (q := 27) rfl rfl rfl ?_
    refine xx_iconst (q := 28) rfl rfl (by decide) ?_
    refine xx_sipush (q := 31) rfl rfl (by decide) ?_
    obtain ⟨D2, hx2, hW2⟩ := c_put (n := n) (o := 1) (M := 10) hR hW (xSc_1 isC_27) rfl (by decide) (by decide) (by decide) p d 0 999
    have hI2 : KI (putK K 1 10 p d 0 999) := putK_I hI (fun j => show (0 : Int) ≤ _ by omega) (fun j => show _ ≤ (999 : Int) by omega)
    refine xx_callS (q := 34) (As := [_, _, _, _, _]) (rest := [_]) rfl rfl rfl (Or.inl rfl) rfl rfl (Nat.le_of_ble_eq_true rfl) (XCm hx2 rfl) rfl ?_
    refine xx_ifb_eq (q := 41) (q2 := 37) rfl rfl rfl (fun h34 => ?_) (fun h34 => ?_)
    · refine xx_iconst (q := 42) rfl rfl (by decide) ?_
      obtain ⟨D3, hx3, hW3⟩ := c_forgetIf (n := n) hR hW2 hI2 0 (by decide)
      refine xx_callV (q := 45) (As := [_]) (rest := []) rfl rfl rfl (Or.inl rfl) rfl rfl (Nat.le_of_ble_eq_true rfl) xS_5 (XCm hx3 rfl) rfl ?_
      refine xx_iret rfl (Or.inl rfl) ⟨congrArg (fun z => some (Sum.inl z)) (by exact (bi_f (fun q => h34 ⟨⟨q.1.1, by omega⟩, q.2⟩)).symm), _, rfl, ?_⟩
      have q : ¬ polP K p d := fun q => h34 ⟨⟨q.1.1, by omega⟩, q.2⟩
      have e : polK K p d = (putK K 1 10 p d 0 999) := by unfold polK putK; rw [if_neg q, if_neg h34]
      rw [e]
      unfold tldU
      rw [if_neg q]
      exact hW3
    · refine xx_iconst (q := 38) rfl rfl (by decide) ?_
      refine xx_goto (q := 42) rfl rfl ?_
      obtain ⟨D4, hx4, hW4⟩ := c_forgetIf (n := n) hR hW2 hI2 1 (by decide)
      refine xx_callV (q := 45) (As := [_]) (rest := []) rfl rfl rfl (Or.inl rfl) rfl rfl (Nat.le_of_ble_eq_true rfl) xS_5 (XCm hx4 rfl) rfl ?_
      refine xx_iret rfl (Or.inr rfl) ⟨congrArg (fun z => some (Sum.inl z)) (by exact (bi_t ⟨h12, h34.2⟩).symm), _, rfl, ?_⟩
      have q : polP K p d := ⟨h12, h34.2⟩
      have e : polK K p d = (putK K 1 10 p d 0 999) := by unfold polK putK; rw [if_pos q, if_pos h34]
      rw [e]
      unfold tldU
      rw [if_pos q]
      exact hW4
abbrev lokP (K : KK) (l w v : Int) : Prop := (0 ≤ l ∧ l < K 0 0) ∧ ((w = 0 ∧ 1 ≤ v ∧ v ≤ 50) ∨ (w = 1 ∧ 0 ≤ v ∧ v ≤ 9) ∨ (w = 2 ∧ 1 ≤ v ∧ v ≤ 9) ∨ (w = 3 ∧ -99 ≤ v ∧ v ≤ 99) ∨ (w = 4 ∧ ¬ v = l ∧ -1 ≤ v ∧ v ≤ K 0 0 - 1) ∨ (10 ≤ w ∧ w ≤ 13 ∧ -9 ≤ v ∧ v ≤ 9) ∨ (20 ≤ w ∧ w ≤ 19 + K 13 0 ∧ -99 ≤ v ∧ v ≤ 99))
def lokW (K : KK) (l w v : Int) : KK := if w = 0 then xui K 2 l.toNat v else if w = 1 then xui K 3 l.toNat v else if w = 2 then xui K 4 l.toNat v else if w = 3 then xui K 8 l.toNat v else if w = 4 then xui K 9 l.toNat v else if w ≤ 13 then xui K 11 (l * 4 + w - 10).toNat v else xui K 12 (l * 6 + w - 20).toNat v
def lokK (K : KK) (l w v : Int) : KK := if lokP K l w v then lokW K l w v else K
set_option maxHeartbeats 4000000 in
theorem c_tellOfLock {n : Nat} {R : Nat → Nat → Option Nat} {D0 D K : KK} {b : Int} {B : Nat → Int} {U : UU} (hR : RF R) (hW : NWd K b B U D0 D) (hI : KI K) (l w v : Int) (h0 : 0 ≤ l) (h1 : l < K 0 0) : ∃ D', XC 3 154 [.inr (some 5), .inl l, .inl w, .inl v] (xS n, R, D) (some (.inl (bi (lokP K l w v)))) (xS n, R, D') ∧ NWd (lokK K l w v) b B U D0 D' := by
  have hbL := ki_L hI
  have hbB := ki_B hI
  refine XE_of (Nat.le_of_ble_eq_true rfl) (Nat.le_of_ble_eq_true rfl) (loc := [_, _, _, _, _, _, _]) rfl ?_
  refine xx_aload_n (q := 1) rfl rfl rfl ?_
  refine xx_getR (q := 4) rfl rfl rfl xS_5 (Nat.le_of_ble_eq_true rfl) rfl (hR.1 5 0 rfl) ?_
  refine xx_getR (q := 7) rfl rfl rfl xS_6 (Nat.le_of_ble_eq_true rfl) rfl (hR.1 6 5 rfl) ?_
  refine xx_astore (q := 9) (loc2 := [_, _, _, _, _, _, _]) rfl rfl (Nat.le_of_ble_eq_true rfl) rfl ?_
  refine xx_aload (q := 11) rfl rfl rfl ?_
  refine xx_getR (q := 14) rfl rfl rfl (xSc_0 isC_27) (Nat.le_of_ble_eq_true rfl) rfl (rc_keepers hR isC_27) ?_
  refine xx_astore (q := 16) (loc2 := [_, _, _, _, _, _, _]) rfl rfl (Nat.le_of_ble_eq_true rfl) rfl ?_
  refine xx_iload_n (q := 17) rfl rfl rfl ?_
  by_cases h17_0 : w = 0
  · refine xx_swK (q := 52) (zl := 0) (off := 35) rfl h17_0 (by decide) (by decide) rfl rfl ?_
    refine xx_aload (q := 54) rfl rfl rfl ?_
    refine xx_getR (q := 57) rfl rfl rfl (xSc_0 isC_27) (Nat.le_of_ble_eq_true rfl) rfl (rc_fill hR isC_27) ?_
    refine xx_iload_n (q := 58) rfl rfl rfl ?_
    refine xx_iload_n (q := 59) rfl rfl rfl ?_
    refine xx_iconst (q := 60) rfl rfl (by decide) ?_
    refine xx_bipush (q := 62) rfl rfl (by decide) ?_
    obtain ⟨D1, hx1, hW1⟩ := c_put (n := n) (o := 2) (M := 9) hR hW (xSc_2 isC_27) rfl (by decide) (by decide) (by decide) l v 1 50
    have hI1 : KI (putK K 2 9 l v 1 50) := putK_I hI (fun j => show (1 : Int) ≤ _ by omega) (fun j => show _ ≤ (50 : Int) by omega)
    refine xx_callS (q := 65) (As := [_, _, _, _, _]) (rest := []) rfl rfl rfl (Or.inl rfl) rfl rfl (Nat.le_of_ble_eq_true rfl) (XCm hx1 rfl) rfl ?_
    refine xx_iret rfl (bi_01 _) ⟨congrArg (fun z => some (Sum.inl z)) (by grind [bi]), _, rfl, ?_⟩
    have e : lokK K l w v = (putK K 2 9 l v 1 50) := by unfold lokK lokW; first | grind | (unfold putK; grind)
    rw [e]
    exact hW1
  by_cases h17_1 : w = 1
  · refine xx_swK (q := 66) (zl := 1) (off := 49) rfl h17_1 (by decide) (by decide) rfl rfl ?_
    refine xx_aload (q := 68) rfl rfl rfl ?_
    refine xx_getR (q := 71) rfl rfl rfl (xSc_0 isC_27) (Nat.le_of_ble_eq_true rfl) rfl (rc_leak hR isC_27) ?_
    refine xx_iload_n (q := 72) rfl rfl rfl ?_
    refine xx_iload_n (q := 73) rfl rfl rfl ?_
    refine xx_iconst (q := 74) rfl rfl (by decide) ?_
    refine xx_bipush (q := 76) rfl rfl (by decide) ?_
    obtain ⟨D2, hx2, hW2⟩ := c_put (n := n) (o := 3) (M := 9) hR hW (xSc_3 isC_27) rfl (by decide) (by decide) (by decide) l v 0 9
    have hI2 : KI (putK K 3 9 l v 0 9) := putK_I hI (fun j => show (0 : Int) ≤ _ by omega) (fun j => show _ ≤ (9 : Int) by omega)
    refine xx_callS (q := 79) (As := [_, _, _, _, _]) (rest := []) rfl rfl rfl (Or.inl rfl) rfl rfl (Nat.le_of_ble_eq_true rfl) (XCm hx2 rfl) rfl ?_
    refine xx_iret rfl (bi_01 _) ⟨congrArg (fun z => some (Sum.inl z)) (by grind [bi]), _, rfl, ?_⟩
    have e : lokK K l w v = (putK K 3 9 l v 0 9) := by unfold lokK lokW; first | grind | (unfold putK; grind)
    rw [e]
    exact hW2
  by_cases h17_2 : w = 2
  · refine xx_swK (q := 80) (zl := 2) (off := 63) rfl h17_2 (by decide) (by decide) rfl rfl ?_
    refine xx_aload (q := 82) rfl rfl rfl ?_
    refine xx_getR (q := 85) rfl rfl rfl (xSc_0 isC_27) (Nat.le_of_ble_eq_true rfl) rfl (rc_wide hR isC_27) ?_
    refine xx_iload_n (q := 86) rfl rfl rfl ?_
    refine xx_iload_n (q := 87) rfl rfl rfl ?_
    refine xx_iconst (q := 88) rfl rfl (by decide) ?_
    refine xx_bipush (q := 90) rfl rfl (by decide) ?_
    obtain ⟨D3, hx3, hW3⟩ := c_put (n := n) (o := 4) (M := 9) hR hW (xSc_4 isC_27) rfl (by decide) (by decide) (by decide) l v 1 9
    have hI3 : KI (putK K 4 9 l v 1 9) := putK_I hI (fun j => show (1 : Int) ≤ _ by omega) (fun j => show _ ≤ (9 : Int) by omega)
    refine xx_callS (q := 93) (As := [_, _, _, _, _]) (rest := []) rfl rfl rfl (Or.inl rfl) rfl rfl (Nat.le_of_ble_eq_true rfl) (XCm hx3 rfl) rfl ?_
    refine xx_iret rfl (bi_01 _) ⟨congrArg (fun z => some (Sum.inl z)) (by grind [bi]), _, rfl, ?_⟩
    have e : lokK K l w v = (putK K 4 9 l v 1 9) := by unfold lokK lokW; first | grind | (unfold putK; grind)
    rw [e]
    exact hW3
  by_cases h17_3 : w = 3
  · refine xx_swK (q := 94) (zl := 3) (off := 77) rfl h17_3 (by decide) (by decide) rfl rfl ?_
    refine xx_aload (q := 96) rfl rfl rfl ?_
    refine xx_getR (q := 99) rfl rfl rfl (xSc_7 isC_27) (Nat.le_of_ble_eq_true rfl) rfl (rc_mood hR isC_27) ?_
    refine xx_iload_n (q := 100) rfl rfl rfl ?_
    refine xx_iload_n (q := 101) rfl rfl rfl ?_
    refine xx_bipush (q := 103) rfl rfl (by decide) ?_
    refine xx_bipush (q := 105) rfl rfl (by decide) ?_
    obtain ⟨D4, hx4, hW4⟩ := c_put (n := n) (o := 8) (M := 9) hR hW (xSc_8 isC_27) rfl (by decide) (by decide) (by decide) l v (-99) 99
    have hI4 : KI (putK K 8 9 l v (-99) 99) := putK_I hI (fun j => show (-99 : Int) ≤ _ by omega) (fun j => show _ ≤ (99 : Int) by omega)
    refine xx_callS (q := 108) (As := [_, _, _, _, _]) (rest := []) rfl rfl rfl (Or.inl rfl) rfl rfl (Nat.le_of_ble_eq_true rfl) (XCm hx4 rfl) rfl ?_
    refine xx_iret rfl (bi_01 _) ⟨congrArg (fun z => some (Sum.inl z)) (by grind [bi]), _, rfl, ?_⟩
    have e : lokK K l w v = (putK K 8 9 l v (-99) 99) := by unfold lokK lokW; first | grind | (unfold putK; grind)
    rw [e]
    exact hW4
  by_cases h17_4 : w = 4
  · refine xx_swK (q := 109) (zl := 4) (off := 92) rfl h17_4 (by decide) (by decide) rfl rfl ?_
    refine xx_iload_n (q := 110) rfl rfl rfl ?_
    refine xx_iload_n (q := 111) rfl rfl rfl ?_
    refine xx_icmp_eq (q := 139) (q2 := 114) rfl rfl rfl (fun h111 => ?_) (fun h111 => ?_)
    · refine xx_iconst (q := 140) rfl rfl (by decide) ?_
      refine xx_iret rfl (Or.inl rfl) ⟨congrArg (fun z => some (Sum.inl z)) (by grind [bi]), _, rfl, ?_⟩
      have e : lokK K l w v = K := by unfold lokK lokW; first | grind | (unfold putK; grind)
      rw [e]
      exact hW
    · refine xx_aload (q := 116) rfl rfl rfl ?_
      refine xx_getR (q := 119) rfl rfl rfl (xSc_7 isC_27) (Nat.le_of_ble_eq_true rfl) rfl (rc_rival hR isC_27) ?_
      refine xx_iload_n (q := 120) rfl rfl rfl ?_
      refine xx_iload_n (q := 121) rfl rfl rfl ?_
      refine xx_iconst (q := 122) rfl rfl (by decide) ?_
      refine xx_aload (q := 124) rfl rfl rfl ?_
      refine xx_gez (v := K 0 0) (q := 127) rfl rfl rfl (xSc_0 isC_27) (Nat.le_of_ble_eq_true rfl) rfl (hW.1 0 0 (Nat.le_of_ble_eq_true rfl)) ?_
      have hb5 : 1 ≤ K 0 0 ∧ K 0 0 ≤ 9 := by have h := ki_L hI; exact h
      refine xx_iconst (q := 128) rfl rfl (by decide) ?_
      refine xx_isubR (q := 129) rfl rfl (by omega) (by omega) ?_
      obtain ⟨D6, hx6, hW6⟩ := c_put (n := n) (o := 9) (M := 9) hR hW (xSc_9 isC_27) rfl (by decide) (by decide) (by decide) l v (-1) ((K 0 0) - 1)
      have hI6 : KI (putK K 9 9 l v (-1) ((K 0 0) - 1)) := putK_I hI (fun j => show (-1 : Int) ≤ _ by omega) (fun j => show _ ≤ (8 : Int) by omega)
      refine xx_callS (q := 132) (As := [_, _, _, _, _]) (rest := []) rfl rfl rfl (Or.inl rfl) rfl rfl (Nat.le_of_ble_eq_true rfl) (XCm hx6 rfl) rfl ?_
      refine xx_ifb_eq (q := 139) (q2 := 135) rfl rfl rfl (fun h132 => ?_) (fun h132 => ?_)
      · refine xx_iconst (q := 140) rfl rfl (by decide) ?_
        refine xx_iret rfl (Or.inl rfl) ⟨congrArg (fun z => some (Sum.inl z)) (by grind [bi]), _, rfl, ?_⟩
        have e : lokK K l w v = (putK K 9 9 l v (-1) ((K 0 0) - 1)) := by unfold lokK lokW; first | grind | (unfold putK; grind)
        rw [e]
        exact hW6
      · refine xx_iconst (q := 136) rfl rfl (by decide) ?_
        refine xx_goto (q := 140) rfl rfl ?_
        refine xx_iret rfl (Or.inr rfl) ⟨congrArg (fun z => some (Sum.inl z)) (by grind [bi]), _, rfl, ?_⟩
        have e : lokK K l w v = (putK K 9 9 l v (-1) ((K 0 0) - 1)) := by unfold lokK lokW; first | grind | (unfold putK; grind)
        rw [e]
        exact hW6
  refine xx_swOut (q := 141) rfl (by omega) rfl ?_
  refine xx_iload_n (q := 142) rfl rfl rfl ?_
  refine xx_bipush (q := 144) rfl rfl (by decide) ?_
  refine xx_bipush (q := 146) rfl rfl (by decide) ?_
  refine xx_callS (q := 149) (As := [_, _, _]) (rest := []) rfl rfl rfl (Or.inl rfl) rfl rfl (Nat.le_of_ble_eq_true rfl) (XCm (c_within w 10 13) rfl) rfl ?_
  refine xx_ifb_eq (q := 174) (q2 := 152) rfl rfl rfl (fun h149 => ?_) (fun h149 => ?_)
  · refine xx_iload_n (q := 175) rfl rfl rfl ?_
    refine xx_bipush (q := 177) rfl rfl (by decide) ?_
    refine xx_bipush (q := 179) rfl rfl (by decide) ?_
    refine xx_aload (q := 181) rfl rfl rfl ?_
    refine xx_getR (q := 184) rfl rfl rfl (xSc_0 isC_27) (Nat.le_of_ble_eq_true rfl) rfl (rc_fleet hR isC_27) ?_
    refine xx_gez (v := K 13 0) (q := 187) rfl rfl rfl (xSc_13 isC_27) (Nat.le_of_ble_eq_true rfl) rfl (hW.1 13 0 (Nat.le_of_ble_eq_true rfl)) ?_
    have hb7 : 0 ≤ K 13 0 ∧ K 13 0 ≤ 6 := by have h := ki_B hI; exact h
    refine xx_iaddR (q := 188) rfl rfl (by omega) (by omega) ?_
    refine xx_callS (q := 191) (As := [_, _, _]) (rest := []) rfl rfl rfl (Or.inl rfl) rfl rfl (Nat.le_of_ble_eq_true rfl) (XCm (c_within w 20 (19 + (K 13 0))) rfl) rfl ?_
    refine xx_istore (q := 193) (loc2 := [_, _, _, _, _, _, _]) rfl rfl (Nat.le_of_ble_eq_true rfl) rfl ?_
    refine xx_iload (q := 195) rfl rfl rfl ?_
    refine xx_ifb_eq (q := 227) (q2 := 198) rfl rfl rfl (fun h195 => ?_) (fun h195 => ?_)
    · refine xx_iconst (q := 228) rfl rfl (by decide) ?_
      refine xx_iret rfl (Or.inl rfl) ⟨congrArg (fun z => some (Sum.inl z)) (by grind [bi]), _, rfl, ?_⟩
      have e : lokK K l w v = K := by unfold lokK lokW; first | grind | (unfold putK; grind)
      rw [e]
      exact hW
    · refine xx_aload (q := 200) rfl rfl rfl ?_
      refine xx_getR (q := 203) rfl rfl rfl (xSc_7 isC_27) (Nat.le_of_ble_eq_true rfl) rfl (rc_liking hR isC_27) ?_
      refine xx_iload_n (q := 204) rfl rfl rfl ?_
      refine xx_bipush (q := 206) rfl rfl (by decide) ?_
      refine xx_imulR (q := 207) rfl rfl (by omega) (by omega) ?_
      refine xx_iload_n (q := 208) rfl rfl rfl ?_
      refine xx_iaddR (q := 209) rfl rfl (by omega) (by omega) ?_
      refine xx_bipush (q := 211) rfl rfl (by decide) ?_
      refine xx_isubR (q := 212) rfl rfl (by omega) (by omega) ?_
      refine xx_iload_n (q := 213) rfl rfl rfl ?_
      refine xx_bipush (q := 215) rfl rfl (by decide) ?_
      refine xx_bipush (q := 217) rfl rfl (by decide) ?_
      obtain ⟨D8, hx8, hW8⟩ := c_put (n := n) (o := 12) (M := 54) hR hW (xSc_12 isC_27) rfl (by decide) (by decide) (by decide) (((l * 6) + w) - 20) v (-99) 99
      have hI8 : KI (putK K 12 54 (((l * 6) + w) - 20) v (-99) 99) := putK_I hI (fun j => show (-99 : Int) ≤ _ by omega) (fun j => show _ ≤ (99 : Int) by omega)
      refine xx_callS (q := 220) (As := [_, _, _, _, _]) (rest := []) rfl rfl rfl (Or.inl rfl) rfl rfl (Nat.le_of_ble_eq_true rfl) (XCm hx8 rfl) rfl ?_
      refine xx_ifb_eq (q := 227) (q2 := 223) rfl rfl rfl (fun h220 => ?_) (fun h220 => ?_)
      · refine xx_iconst (q := 228) rfl rfl (by decide) ?_
        refine xx_iret rfl (Or.inl rfl) ⟨congrArg (fun z => some (Sum.inl z)) (by grind [bi]), _, rfl, ?_⟩
        have e : lokK K l w v = (putK K 12 54 (((l * 6) + w) - 20) v (-99) 99) := by unfold lokK lokW; first | grind | (unfold putK; grind)
        rw [e]
        exact hW8
      · refine xx_iconst (q := 224) rfl rfl (by decide) ?_
        refine xx_goto (q := 228) rfl rfl ?_
        refine xx_iret rfl (Or.inr rfl) ⟨congrArg (fun z => some (Sum.inl z)) (by grind [bi]), _, rfl, ?_⟩
        have e : lokK K l w v = (putK K 12 54 (((l * 6) + w) - 20) v (-99) 99) := by unfold lokK lokW; first | grind | (unfold putK; grind)
        rw [e]
        exact hW8
  · refine xx_aload (q := 154) rfl rfl rfl ?_
    refine xx_getR (q := 157) rfl rfl rfl (xSc_7 isC_27) (Nat.le_of_ble_eq_true rfl) rfl (rc_taste hR isC_27) ?_
    refine xx_iload_n (q := 158) rfl rfl rfl ?_
    refine xx_iconst (q := 159) rfl rfl (by decide) ?_
    refine xx_imulR (q := 160) rfl rfl (by omega) (by omega) ?_
    refine xx_iload_n (q := 161) rfl rfl rfl ?_
    refine xx_iaddR (q := 162) rfl rfl (by omega) (by omega) ?_
    refine xx_bipush (q := 164) rfl rfl (by decide) ?_
    refine xx_isubR (q := 165) rfl rfl (by omega) (by omega) ?_
    refine xx_iload_n (q := 166) rfl rfl rfl ?_
    refine xx_bipush (q := 168) rfl rfl (by decide) ?_
    refine xx_bipush (q := 170) rfl rfl (by decide) ?_
    obtain ⟨D9, hx9, hW9⟩ := c_put (n := n) (o := 11) (M := 36) hR hW (xSc_11 isC_27) rfl (by decide) (by decide) (by decide) (((l * 4) + w) - 10) v (-9) 9
    have hI9 : KI (putK K 11 36 (((l * 4) + w) - 10) v (-9) 9) := putK_I hI (fun j => show (-9 : Int) ≤ _ by omega) (fun j => show _ ≤ (9 : Int) by omega)
    refine xx_callS (q := 173) (As := [_, _, _, _, _]) (rest := []) rfl rfl rfl (Or.inl rfl) rfl rfl (Nat.le_of_ble_eq_true rfl) (XCm hx9 rfl) rfl ?_
    refine xx_iret rfl (bi_01 _) ⟨congrArg (fun z => some (Sum.inl z)) (by grind [bi]), _, rfl, ?_⟩
    have e : lokK K l w v = (putK K 11 36 (((l * 4) + w) - 10) v (-9) 9) := by unfold lokK lokW; first | grind | (unfold putK; grind)
    rw [e]
    exact hW9
theorem lokK_I {K : KK} {l w v : Int} (h : KI K) : KI (lokK K l w v) := by
  have hL := ki_L h
  unfold lokK
  split
  · next q =>
    obtain ⟨q1, q2⟩ := q
    unfold lokW
    rcases q2 with ⟨e, r⟩ | ⟨e, r⟩ | ⟨e, r⟩ | ⟨e, r⟩ | ⟨e, _, r⟩ | ⟨e1, e2, r⟩ | ⟨e1, e2, r⟩
    · rw [if_pos e]; exact KI_up h (show (1 : Int) ≤ v from r.1) (show v ≤ (50 : Int) from r.2)
    · rw [if_neg (by omega), if_pos e]; exact KI_up h (show (0 : Int) ≤ v from r.1) (show v ≤ (9 : Int) from r.2)
    · rw [if_neg (by omega), if_neg (by omega), if_pos e]; exact KI_up h (show (1 : Int) ≤ v from r.1) (show v ≤ (9 : Int) from r.2)
    · rw [if_neg (by omega), if_neg (by omega), if_neg (by omega), if_pos e]; exact KI_up h (show (-99 : Int) ≤ v from r.1) (show v ≤ (99 : Int) from r.2)
    · rw [if_neg (by omega), if_neg (by omega), if_neg (by omega), if_neg (by omega), if_pos e]; exact KI_up h (show (-1 : Int) ≤ v from r.1) (show v ≤ (8 : Int) by omega)
    · rw [if_neg (by omega), if_neg (by omega), if_neg (by omega), if_neg (by omega), if_neg (by omega), if_pos e2]; exact KI_up h (show (-9 : Int) ≤ v from r.1) (show v ≤ (9 : Int) from r.2)
    · rw [if_neg (by omega), if_neg (by omega), if_neg (by omega), if_neg (by omega), if_neg (by omega), if_neg (by omega)]; exact KI_up h (show (-99 : Int) ≤ v from r.1) (show v ≤ (99 : Int) from r.2)
  · exact h
set_option maxHeartbeats 1000000 in
theorem c_lock {n : Nat} {R : Nat → Nat → Option Nat} {D0 D K : KK} {b : Int} {B : Nat → Int} {U : UU} (hR : RF R) (hW : NWd K b B U D0 D) (hI : KI K) (l w v : Int) : ∃ D', XC 4 120 [.inr (some 5), .inl l, .inl w, .inl v] (xS n, R, D) (some (.inl (bi (lokP K l w v)))) (xS n, R, D') ∧ NWd (lokK K l w v) b B (tldU (lokP K l w v) U) D0 D' := by
  have hbL := ki_L hI
  refine XE_of (Nat.le_of_ble_eq_true rfl) (Nat.le_of_ble_eq_true rfl) (loc := [_, _, _, _]) rfl ?_
  refine xx_aload_n (q := 1) rfl rfl rfl ?_
  refine xx_aload_n (q := 2) rfl rfl rfl ?_
  refine xx_getR (q := 5) rfl rfl rfl xS_5 (Nat.le_of_ble_eq_true rfl) rfl (hR.1 5 0 rfl) ?_
  refine xx_getR (q := 8) rfl rfl rfl xS_6 (Nat.le_of_ble_eq_true rfl) rfl (hR.1 6 5 rfl) ?_
  refine xx_iload_n (q := 9) rfl rfl rfl ?_
  refine xx_callV (q := 12) (As := [_]) (rest := [_]) rfl rfl rfl (Or.inl rfl) rfl rfl (Nat.le_of_ble_eq_true rfl) (xSc_0 isC_27) (XCm (c_hasLock hR isC_27 hW.1 hI l) rfl) rfl ?_
  refine xx_ifb_eq (q := 29) (q2 := 15) rfl rfl rfl (fun h12 => ?_) (fun h12 => ?_)
  · refine xx_iconst (q := 30) rfl rfl (by decide) ?_
    obtain ⟨D1, hx1, hW1⟩ := c_forgetIf (n := n) hR hW hI 0 (by decide)
    refine xx_callV (q := 33) (As := [_]) (rest := []) rfl rfl rfl (Or.inl rfl) rfl rfl (Nat.le_of_ble_eq_true rfl) xS_5 (XCm hx1 rfl) rfl ?_
    refine xx_iret rfl (Or.inl rfl) ⟨congrArg (fun z => some (Sum.inl z)) (by exact (bi_f (fun q => h12 q.1)).symm), _, rfl, ?_⟩
    have q : ¬ lokP K l w v := fun q => h12 q.1
    unfold lokK tldU
    rw [if_neg q, if_neg q]
    exact hW1
  · refine xx_aload_n (q := 16) rfl rfl rfl ?_
    refine xx_iload_n (q := 17) rfl rfl rfl ?_
    refine xx_iload_n (q := 18) rfl rfl rfl ?_
    refine xx_iload_n (q := 19) rfl rfl rfl ?_
    obtain ⟨D2, hx2, hW2⟩ := c_tellOfLock (n := n) hR hW hI l w v (by omega) (by omega)
    have hI2 : KI (lokK K l w v) := lokK_I hI
    refine xx_callV (q := 22) (As := [_, _, _]) (rest := [_]) rfl rfl rfl (Or.inl rfl) rfl rfl (Nat.le_of_ble_eq_true rfl) xS_5 (XCm hx2 rfl) rfl ?_
    refine xx_ifb_eq (q := 29) (q2 := 25) rfl rfl rfl (fun h22 => ?_) (fun h22 => ?_)
    · refine xx_iconst (q := 30) rfl rfl (by decide) ?_
      obtain ⟨D3, hx3, hW3⟩ := c_forgetIf (n := n) hR hW2 hI2 0 (by decide)
      refine xx_callV (q := 33) (As := [_]) (rest := []) rfl rfl rfl (Or.inl rfl) rfl rfl (Nat.le_of_ble_eq_true rfl) xS_5 (XCm hx3 rfl) rfl ?_
      refine xx_iret rfl (Or.inl rfl) ⟨congrArg (fun z => some (Sum.inl z)) (by exact (bi_f h22).symm), _, rfl, ?_⟩
      unfold tldU
      rw [if_neg h22]
      exact hW3
    · refine xx_iconst (q := 26) rfl rfl (by decide) ?_
      refine xx_goto (q := 30) rfl rfl ?_
      obtain ⟨D4, hx4, hW4⟩ := c_forgetIf (n := n) hR hW2 hI2 1 (by decide)
      refine xx_callV (q := 33) (As := [_]) (rest := []) rfl rfl rfl (Or.inl rfl) rfl rfl (Nat.le_of_ble_eq_true rfl) xS_5 (XCm hx4 rfl) rfl ?_
      refine xx_iret rfl (Or.inr rfl) ⟨congrArg (fun z => some (Sum.inl z)) (by exact (bi_t h22).symm), _, rfl, ?_⟩
      unfold tldU
      rw [if_pos h22]
      exact hW4
abbrev lodP (K : KK) (c w v : Int) : Prop := (0 ≤ c ∧ c < K 13 0) ∧ ((w = 0 ∧ 0 ≤ v ∧ v ≤ K 0 0) ∨ (w = 1 ∧ 1 ≤ v ∧ v ≤ 99) ∨ (w = 2 ∧ 1 ≤ v ∧ v ≤ 9) ∨ (10 ≤ w ∧ w ≤ 13 ∧ 0 ≤ v ∧ v ≤ 99))
def lodW (K : KK) (c w v : Int) : KK := if w = 0 then xui K 14 c.toNat v else if w = 1 then xui K 15 c.toNat v else if w = 2 then xui K 16 c.toNat v else xui K 17 (c * 4 + w - 10).toNat v
def lodK (K : KK) (c w v : Int) : KK := if lodP K c w v then lodW K c w v else K
theorem lodK_I {K : KK} {c w v : Int} (h : KI K) : KI (lodK K c w v) := by
  have hL := ki_L h
  unfold lodK
  split
  · next q =>
    obtain ⟨q1, q2⟩ := q
    unfold lodW
    rcases q2 with ⟨e, r⟩ | ⟨e, r⟩ | ⟨e, r⟩ | ⟨e1, e2, r⟩
    · rw [if_pos e]; exact KI_up h (show (0 : Int) ≤ v from r.1) (show v ≤ (9 : Int) by omega)
    · rw [if_neg (by omega), if_pos e]; exact KI_up h (show (0 : Int) ≤ v by omega) (show v ≤ (99 : Int) from r.2)
    · rw [if_neg (by omega), if_neg (by omega), if_pos e]; exact KI_up h (show (0 : Int) ≤ v by omega) (show v ≤ (9 : Int) from r.2)
    · rw [if_neg (by omega), if_neg (by omega), if_neg (by omega)]; exact KI_up h (show (0 : Int) ≤ v from r.1) (show v ≤ (99 : Int) from r.2)
  · exact h
set_option maxHeartbeats 4000000 in
theorem c_tellOfBoat {n : Nat} {R : Nat → Nat → Option Nat} {D0 D K : KK} {b : Int} {B : Nat → Int} {U : UU} (hR : RF R) (hW : NWd K b B U D0 D) (hI : KI K) (c w v : Int) (h0 : 0 ≤ c) (h1 : c < K 13 0) : ∃ D', XC 3 155 [.inr (some 5), .inl c, .inl w, .inl v] (xS n, R, D) (some (.inl (bi (lodP K c w v)))) (xS n, R, D') ∧ NWd (lodK K c w v) b B U D0 D' := by
  have hbL := ki_L hI
  have hbB := ki_B hI
  refine XE_of (Nat.le_of_ble_eq_true rfl) (Nat.le_of_ble_eq_true rfl) (loc := [_, _, _, _, _]) rfl ?_
  refine xx_aload_n (q := 1) rfl rfl rfl ?_
  refine xx_getR (q := 4) rfl rfl rfl xS_5 (Nat.le_of_ble_eq_true rfl) rfl (hR.1 5 0 rfl) ?_
  refine xx_getR (q := 7) rfl rfl rfl xS_6 (Nat.le_of_ble_eq_true rfl) rfl (hR.1 6 5 rfl) ?_
  refine xx_getR (q := 10) rfl rfl rfl (xSc_0 isC_27) (Nat.le_of_ble_eq_true rfl) rfl (rc_fleet hR isC_27) ?_
  refine xx_astore (q := 12) (loc2 := [_, _, _, _, _]) rfl rfl (Nat.le_of_ble_eq_true rfl) rfl ?_
  refine xx_iload_n (q := 13) rfl rfl rfl ?_
  by_cases h13_0 : w = 0
  · refine xx_swK (q := 40) (zl := 0) (off := 27) rfl h13_0 (by decide) (by decide) rfl rfl ?_
    refine xx_aload (q := 42) rfl rfl rfl ?_
    refine xx_getR (q := 45) rfl rfl rfl (xSc_13 isC_27) (Nat.le_of_ble_eq_true rfl) rfl (rc_where hR isC_27) ?_
    refine xx_iload_n (q := 46) rfl rfl rfl ?_
    refine xx_iload_n (q := 47) rfl rfl rfl ?_
    refine xx_iconst (q := 48) rfl rfl (by decide) ?_
    refine xx_aload_n (q := 49) rfl rfl rfl ?_
    refine xx_getR (q := 52) rfl rfl rfl xS_5 (Nat.le_of_ble_eq_true rfl) rfl (hR.1 5 0 rfl) ?_
    refine xx_getR (q := 55) rfl rfl rfl xS_6 (Nat.le_of_ble_eq_true rfl) rfl (hR.1 6 5 rfl) ?_
    refine xx_gez (v := K 0 0) (q := 58) rfl rfl rfl (xSc_0 isC_27) (Nat.le_of_ble_eq_true rfl) rfl (hW.1 0 0 (Nat.le_of_ble_eq_true rfl)) ?_
    have hb1 : 1 ≤ K 0 0 ∧ K 0 0 ≤ 9 := by have h := ki_L hI; exact h
    obtain ⟨D2, hx2, hW2⟩ := c_put (n := n) (o := 14) (M := 6) hR hW (xSc_14 isC_27) rfl (by decide) (by decide) (by decide) c v 0 (K 0 0)
    have hI2 : KI (putK K 14 6 c v 0 (K 0 0)) := putK_I hI (fun j => show (0 : Int) ≤ _ by omega) (fun j => show _ ≤ (9 : Int) by omega)
    refine xx_callS (q := 61) (As := [_, _, _, _, _]) (rest := []) rfl rfl rfl (Or.inl rfl) rfl rfl (Nat.le_of_ble_eq_true rfl) (XCm hx2 rfl) rfl ?_
    refine xx_iret rfl (bi_01 _) ⟨congrArg (fun z => some (Sum.inl z)) (by grind [bi]), _, rfl, ?_⟩
    have e : lodK K c w v = (putK K 14 6 c v 0 (K 0 0)) := by unfold lodK lodW; first | grind | (unfold putK; grind)
    rw [e]
    exact hW2
  by_cases h13_1 : w = 1
  · refine xx_swK (q := 62) (zl := 1) (off := 49) rfl h13_1 (by decide) (by decide) rfl rfl ?_
    refine xx_aload (q := 64) rfl rfl rfl ?_
    refine xx_getR (q := 67) rfl rfl rfl (xSc_13 isC_27) (Nat.le_of_ble_eq_true rfl) rfl (rc_draught hR isC_27) ?_
    refine xx_iload_n (q := 68) rfl rfl rfl ?_
    refine xx_iload_n (q := 69) rfl rfl rfl ?_
    refine xx_iconst (q := 70) rfl rfl (by decide) ?_
    refine xx_bipush (q := 72) rfl rfl (by decide) ?_
    obtain ⟨D3, hx3, hW3⟩ := c_put (n := n) (o := 15) (M := 6) hR hW (xSc_15 isC_27) rfl (by decide) (by decide) (by decide) c v 1 99
    have hI3 : KI (putK K 15 6 c v 1 99) := putK_I hI (fun j => show (0 : Int) ≤ _ by omega) (fun j => show _ ≤ (99 : Int) by omega)
    refine xx_callS (q := 75) (As := [_, _, _, _, _]) (rest := []) rfl rfl rfl (Or.inl rfl) rfl rfl (Nat.le_of_ble_eq_true rfl) (XCm hx3 rfl) rfl ?_
    refine xx_iret rfl (bi_01 _) ⟨congrArg (fun z => some (Sum.inl z)) (by grind [bi]), _, rfl, ?_⟩
    have e : lodK K c w v = (putK K 15 6 c v 1 99) := by unfold lodK lodW; first | grind | (unfold putK; grind)
    rw [e]
    exact hW3
  by_cases h13_2 : w = 2
  · refine xx_swK (q := 76) (zl := 2) (off := 63) rfl h13_2 (by decide) (by decide) rfl rfl ?_
    refine xx_aload (q := 78) rfl rfl rfl ?_
    refine xx_getR (q := 81) rfl rfl rfl (xSc_13 isC_27) (Nat.le_of_ble_eq_true rfl) rfl (rc_broad hR isC_27) ?_
    refine xx_iload_n (q := 82) rfl rfl rfl ?_
    refine xx_iload_n (q := 83) rfl rfl rfl ?_
    refine xx_iconst (q := 84) rfl rfl (by decide) ?_
    refine xx_bipush (q := 86) rfl rfl (by decide) ?_
    obtain ⟨D4, hx4, hW4⟩ := c_put (n := n) (o := 16) (M := 6) hR hW (xSc_16 isC_27) rfl (by decide) (by decide) (by decide) c v 1 9
    have hI4 : KI (putK K 16 6 c v 1 9) := putK_I hI (fun j => show (0 : Int) ≤ _ by omega) (fun j => show _ ≤ (9 : Int) by omega)
    refine xx_callS (q := 89) (As := [_, _, _, _, _]) (rest := []) rfl rfl rfl (Or.inl rfl) rfl rfl (Nat.le_of_ble_eq_true rfl) (XCm hx4 rfl) rfl ?_
    refine xx_iret rfl (bi_01 _) ⟨congrArg (fun z => some (Sum.inl z)) (by grind [bi]), _, rfl, ?_⟩
    have e : lodK K c w v = (putK K 16 6 c v 1 9) := by unfold lodK lodW; first | grind | (unfold putK; grind)
    rw [e]
    exact hW4
  refine xx_swOut (q := 90) rfl (by omega) rfl ?_
  refine xx_iload_n (q := 91) rfl rfl rfl ?_
  refine xx_bipush (q := 93) rfl rfl (by decide) ?_
  refine xx_bipush (q := 95) rfl rfl (by decide) ?_
  refine xx_callS (q := 98) (As := [_, _, _]) (rest := []) rfl rfl rfl (Or.inl rfl) rfl rfl (Nat.le_of_ble_eq_true rfl) (XCm (c_within w 10 13) rfl) rfl ?_
  refine xx_ifb_eq (q := 128) (q2 := 101) rfl rfl rfl (fun h98 => ?_) (fun h98 => ?_)
  · refine xx_iconst (q := 129) rfl rfl (by decide) ?_
    refine xx_iret rfl (Or.inl rfl) ⟨congrArg (fun z => some (Sum.inl z)) (by grind [bi]), _, rfl, ?_⟩
    have e : lodK K c w v = K := by unfold lodK lodW; first | grind | (unfold putK; grind)
    rw [e]
    exact hW
  · refine xx_aload (q := 103) rfl rfl rfl ?_
    refine xx_getR (q := 106) rfl rfl rfl (xSc_13 isC_27) (Nat.le_of_ble_eq_true rfl) rfl (rc_cargo hR isC_27) ?_
    refine xx_iload_n (q := 107) rfl rfl rfl ?_
    refine xx_iconst (q := 108) rfl rfl (by decide) ?_
    refine xx_imulR (q := 109) rfl rfl (by omega) (by omega) ?_
    refine xx_iload_n (q := 110) rfl rfl rfl ?_
    refine xx_iaddR (q := 111) rfl rfl (by omega) (by omega) ?_
    refine xx_bipush (q := 113) rfl rfl (by decide) ?_
    refine xx_isubR (q := 114) rfl rfl (by omega) (by omega) ?_
    refine xx_iload_n (q := 115) rfl rfl rfl ?_
    refine xx_iconst (q := 116) rfl rfl (by decide) ?_
    refine xx_bipush (q := 118) rfl rfl (by decide) ?_
    obtain ⟨D5, hx5, hW5⟩ := c_put (n := n) (o := 17) (M := 24) hR hW (xSc_17 isC_27) rfl (by decide) (by decide) (by decide) (((c * 4) + w) - 10) v 0 99
    have hI5 : KI (putK K 17 24 (((c * 4) + w) - 10) v 0 99) := putK_I hI (fun j => show (0 : Int) ≤ _ by omega) (fun j => show _ ≤ (99 : Int) by omega)
    refine xx_callS (q := 121) (As := [_, _, _, _, _]) (rest := []) rfl rfl rfl (Or.inl rfl) rfl rfl (Nat.le_of_ble_eq_true rfl) (XCm hx5 rfl) rfl ?_
    refine xx_ifb_eq (q := 128) (q2 := 124) rfl rfl rfl (fun h121 => ?_) (fun h121 => ?_)
    · refine xx_iconst (q := 129) rfl rfl (by decide) ?_
      refine xx_iret rfl (Or.inl rfl) ⟨congrArg (fun z => some (Sum.inl z)) (by grind [bi]), _, rfl, ?_⟩
      have e : lodK K c w v = (putK K 17 24 (((c * 4) + w) - 10) v 0 99) := by unfold lodK lodW; first | grind | (unfold putK; grind)
      rw [e]
      exact hW5
    · refine xx_iconst (q := 125) rfl rfl (by decide) ?_
      refine xx_goto (q := 129) rfl rfl ?_
      refine xx_iret rfl (Or.inr rfl) ⟨congrArg (fun z => some (Sum.inl z)) (by grind [bi]), _, rfl, ?_⟩
      have e : lodK K c w v = (putK K 17 24 (((c * 4) + w) - 10) v 0 99) := by unfold lodK lodW; first | grind | (unfold putK; grind)
      rw [e]
      exact hW5
set_option maxHeartbeats 1000000 in
theorem c_load {n : Nat} {R : Nat → Nat → Option Nat} {D0 D K : KK} {b : Int} {B : Nat → Int} {U : UU} (hR : RF R) (hW : NWd K b B U D0 D) (hI : KI K) (c w v : Int) : ∃ D', XC 4 122 [.inr (some 5), .inl c, .inl w, .inl v] (xS n, R, D) (some (.inl (bi (lodP K c w v)))) (xS n, R, D') ∧ NWd (lodK K c w v) b B (tldU (lodP K c w v) U) D0 D' := by
  have hbB := ki_B hI
  refine XE_of (Nat.le_of_ble_eq_true rfl) (Nat.le_of_ble_eq_true rfl) (loc := [_, _, _, _]) rfl ?_
  refine xx_aload_n (q := 1) rfl rfl rfl ?_
  refine xx_aload_n (q := 2) rfl rfl rfl ?_
  refine xx_getR (q := 5) rfl rfl rfl xS_5 (Nat.le_of_ble_eq_true rfl) rfl (hR.1 5 0 rfl) ?_
  refine xx_getR (q := 8) rfl rfl rfl xS_6 (Nat.le_of_ble_eq_true rfl) rfl (hR.1 6 5 rfl) ?_
  refine xx_getR (q := 11) rfl rfl rfl (xSc_0 isC_27) (Nat.le_of_ble_eq_true rfl) rfl (rc_fleet hR isC_27) ?_
  refine xx_iload_n (q := 12) rfl rfl rfl ?_
  refine xx_callV (q := 15) (As := [_]) (rest := [_]) rfl rfl rfl (Or.inl rfl) rfl rfl (Nat.le_of_ble_eq_true rfl) (xSc_13 isC_27) (XCm (c_has hR isC_27 hW.1 hI c) rfl) rfl ?_
  refine xx_ifb_eq (q := 32) (q2 := 18) rfl rfl rfl (fun h15 => ?_) (fun h15 => ?_)
  · refine xx_iconst (q := 33) rfl rfl (by decide) ?_
    obtain ⟨D1, hx1, hW1⟩ := c_forgetIf (n := n) hR hW hI 0 (by decide)
    refine xx_callV (q := 36) (As := [_]) (rest := []) rfl rfl rfl (Or.inl rfl) rfl rfl (Nat.le_of_ble_eq_true rfl) xS_5 (XCm hx1 rfl) rfl ?_
    refine xx_iret rfl (Or.inl rfl) ⟨congrArg (fun z => some (Sum.inl z)) (by exact (bi_f (fun q => h15 q.1)).symm), _, rfl, ?_⟩
    have q : ¬ lodP K c w v := fun q => h15 q.1
    unfold lodK tldU
    rw [if_neg q, if_neg q]
    exact hW1
  · refine xx_aload_n (q := 19) rfl rfl rfl ?_
    refine xx_iload_n (q := 20) rfl rfl rfl ?_
    refine xx_iload_n (q := 21) rfl rfl rfl ?_
    refine xx_iload_n (q := 22) rfl rfl rfl ?_
    obtain ⟨D2, hx2, hW2⟩ := c_tellOfBoat (n := n) hR hW hI c w v (by omega) (by omega)
    have hI2 : KI (lodK K c w v) := lodK_I hI
    refine xx_callV (q := 25) (As := [_, _, _]) (rest := [_]) rfl rfl rfl (Or.inl rfl) rfl rfl (Nat.le_of_ble_eq_true rfl) xS_5 (XCm hx2 rfl) rfl ?_
    refine xx_ifb_eq (q := 32) (q2 := 28) rfl rfl rfl (fun h25 => ?_) (fun h25 => ?_)
    · refine xx_iconst (q := 33) rfl rfl (by decide) ?_
      obtain ⟨D3, hx3, hW3⟩ := c_forgetIf (n := n) hR hW2 hI2 0 (by decide)
      refine xx_callV (q := 36) (As := [_]) (rest := []) rfl rfl rfl (Or.inl rfl) rfl rfl (Nat.le_of_ble_eq_true rfl) xS_5 (XCm hx3 rfl) rfl ?_
      refine xx_iret rfl (Or.inl rfl) ⟨congrArg (fun z => some (Sum.inl z)) (by exact (bi_f h25).symm), _, rfl, ?_⟩
      unfold tldU
      rw [if_neg h25]
      exact hW3
    · refine xx_iconst (q := 29) rfl rfl (by decide) ?_
      refine xx_goto (q := 33) rfl rfl ?_
      obtain ⟨D4, hx4, hW4⟩ := c_forgetIf (n := n) hR hW2 hI2 1 (by decide)
      refine xx_callV (q := 36) (As := [_]) (rest := []) rfl rfl rfl (Or.inl rfl) rfl rfl (Nat.le_of_ble_eq_true rfl) xS_5 (XCm hx4 rfl) rfl ?_
      refine xx_iret rfl (Or.inr rfl) ⟨congrArg (fun z => some (Sum.inl z)) (by exact (bi_t h25).symm), _, rfl, ?_⟩
      unfold tldU
      rw [if_pos h25]
      exact hW4
def mstF (w : Int) : Int := if w = 0 then 1000 else if w = 4 then 1 else 99
abbrev setP (w v : Int) : Prop := (0 ≤ w ∧ w ≤ 4) ∧ (0 ≤ v ∧ v ≤ mstF w)
def setK (K : KK) (w v : Int) : KK := if setP w v then xui K 6 w.toNat v else K
theorem mstF_b (w : Int) : 0 ≤ mstF w ∧ mstF w ≤ 1000 := by grind [mstF]
theorem setK_I {K : KK} {w v : Int} (h : KI K) : KI (setK K w v) := by
  have hm := mstF_b w
  unfold setK
  split
  · next q => exact KI_up h (show (0 : Int) ≤ v by omega) (show v ≤ (1000 : Int) by omega)
  · exact h
set_option maxHeartbeats 4000000 in
theorem c_tellOfWeather {n : Nat} {R : Nat → Nat → Option Nat} {D0 D K : KK} {b : Int} {B : Nat → Int} {U : UU} (hR : RF R) (hW : NWd K b B U D0 D) (hI : KI K) (w v : Int) : ∃ D', XC 3 156 [.inr (some 5), .inl w, .inl v] (xS n, R, D) (some (.inl (bi (setP w v)))) (xS n, R, D') ∧ NWd (setK K w v) b B U D0 D' := by
  refine XE_of (Nat.le_of_ble_eq_true rfl) (Nat.le_of_ble_eq_true rfl) (loc := [_, _, _]) rfl ?_
  refine xx_iload_n (q := 1) rfl rfl rfl ?_
  by_cases h1_0 : w = 0
  · refine xx_swK (q := 36) (zl := 0) (off := 35) rfl h1_0 (by decide) (by decide) rfl rfl ?_
    refine xx_aload_n (q := 37) rfl rfl rfl ?_
    refine xx_getR (q := 40) rfl rfl rfl xS_5 (Nat.le_of_ble_eq_true rfl) rfl (hR.1 5 0 rfl) ?_
    refine xx_getR (q := 43) rfl rfl rfl xS_6 (Nat.le_of_ble_eq_true rfl) rfl (hR.1 6 5 rfl) ?_
    refine xx_getR (q := 46) rfl rfl rfl (xSc_0 isC_27) (Nat.le_of_ble_eq_true rfl) rfl (rc_weather hR isC_27) ?_
    refine xx_iload_n (q := 47) rfl rfl rfl ?_
    refine xx_iload_n (q := 48) rfl rfl rfl ?_
    refine xx_iconst (q := 49) rfl rfl (by decide) ?_
    refine xx_sipush (q := 52) rfl rfl (by decide) ?_
    obtain ⟨D1, hx1, hW1⟩ := c_put (n := n) (o := 6) (M := 5) hR hW (xSc_6 isC_27) rfl (by decide) (by decide) (by decide) w v 0 1000
    have hI1 : KI (putK K 6 5 w v 0 1000) := putK_I hI (fun j => show (0 : Int) ≤ _ by omega) (fun j => show _ ≤ (1000 : Int) by omega)
    refine xx_callS (q := 55) (As := [_, _, _, _, _]) (rest := []) rfl rfl rfl (Or.inl rfl) rfl rfl (Nat.le_of_ble_eq_true rfl) (XCm hx1 rfl) rfl ?_
    refine xx_iret rfl (bi_01 _) ⟨congrArg (fun z => some (Sum.inl z)) (by grind [bi, mstF]), _, rfl, ?_⟩
    have e : setK K w v = (putK K 6 5 w v 0 1000) := by unfold setK; first | grind [mstF] | (unfold putK; grind [mstF])
    rw [e]
    exact hW1
  by_cases h1_1 : w = 1
  · refine xx_swK (q := 56) (zl := 1) (off := 55) rfl h1_1 (by decide) (by decide) rfl rfl ?_
    refine xx_aload_n (q := 57) rfl rfl rfl ?_
    refine xx_getR (q := 60) rfl rfl rfl xS_5 (Nat.le_of_ble_eq_true rfl) rfl (hR.1 5 0 rfl) ?_
    refine xx_getR (q := 63) rfl rfl rfl xS_6 (Nat.le_of_ble_eq_true rfl) rfl (hR.1 6 5 rfl) ?_
    refine xx_getR (q := 66) rfl rfl rfl (xSc_0 isC_27) (Nat.le_of_ble_eq_true rfl) rfl (rc_weather hR isC_27) ?_
    refine xx_iload_n (q := 67) rfl rfl rfl ?_
    refine xx_iload_n (q := 68) rfl rfl rfl ?_
    refine xx_iconst (q := 69) rfl rfl (by decide) ?_
    refine xx_bipush (q := 71) rfl rfl (by decide) ?_
    obtain ⟨D2, hx2, hW2⟩ := c_put (n := n) (o := 6) (M := 5) hR hW (xSc_6 isC_27) rfl (by decide) (by decide) (by decide) w v 0 99
    have hI2 : KI (putK K 6 5 w v 0 99) := putK_I hI (fun j => show (0 : Int) ≤ _ by omega) (fun j => show _ ≤ (1000 : Int) by omega)
    refine xx_callS (q := 74) (As := [_, _, _, _, _]) (rest := []) rfl rfl rfl (Or.inl rfl) rfl rfl (Nat.le_of_ble_eq_true rfl) (XCm hx2 rfl) rfl ?_
    refine xx_iret rfl (bi_01 _) ⟨congrArg (fun z => some (Sum.inl z)) (by grind [bi, mstF]), _, rfl, ?_⟩
    have e : setK K w v = (putK K 6 5 w v 0 99) := by unfold setK; first | grind [mstF] | (unfold putK; grind [mstF])
    rw [e]
    exact hW2
  by_cases h1_2 : w = 2
  · refine xx_swK (q := 56) (zl := 2) (off := 55) rfl h1_2 (by decide) (by decide) rfl rfl ?_
    refine xx_aload_n (q := 57) rfl rfl rfl ?_
    refine xx_getR (q := 60) rfl rfl rfl xS_5 (Nat.le_of_ble_eq_true rfl) rfl (hR.1 5 0 rfl) ?_
    refine xx_getR (q := 63) rfl rfl rfl xS_6 (Nat.le_of_ble_eq_true rfl) rfl (hR.1 6 5 rfl) ?_
    refine xx_getR (q := 66) rfl rfl rfl (xSc_0 isC_27) (Nat.le_of_ble_eq_true rfl) rfl (rc_weather hR isC_27) ?_
    refine xx_iload_n (q := 67) rfl rfl rfl ?_
    refine xx_iload_n (q := 68) rfl rfl rfl ?_
    refine xx_iconst (q := 69) rfl rfl (by decide) ?_
    refine xx_bipush (q := 71) rfl rfl (by decide) ?_
    obtain ⟨D3, hx3, hW3⟩ := c_put (n := n) (o := 6) (M := 5) hR hW (xSc_6 isC_27) rfl (by decide) (by decide) (by decide) w v 0 99
    have hI3 : KI (putK K 6 5 w v 0 99) := putK_I hI (fun j => show (0 : Int) ≤ _ by omega) (fun j => show _ ≤ (1000 : Int) by omega)
    refine xx_callS (q := 74) (As := [_, _, _, _, _]) (rest := []) rfl rfl rfl (Or.inl rfl) rfl rfl (Nat.le_of_ble_eq_true rfl) (XCm hx3 rfl) rfl ?_
    refine xx_iret rfl (bi_01 _) ⟨congrArg (fun z => some (Sum.inl z)) (by grind [bi, mstF]), _, rfl, ?_⟩
    have e : setK K w v = (putK K 6 5 w v 0 99) := by unfold setK; first | grind [mstF] | (unfold putK; grind [mstF])
    rw [e]
    exact hW3
  by_cases h1_3 : w = 3
  · refine xx_swK (q := 56) (zl := 3) (off := 55) rfl h1_3 (by decide) (by decide) rfl rfl ?_
    refine xx_aload_n (q := 57) rfl rfl rfl ?_
    refine xx_getR (q := 60) rfl rfl rfl xS_5 (Nat.le_of_ble_eq_true rfl) rfl (hR.1 5 0 rfl) ?_
    refine xx_getR (q := 63) rfl rfl rfl xS_6 (Nat.le_of_ble_eq_true rfl) rfl (hR.1 6 5 rfl) ?_
    refine xx_getR (q := 66) rfl rfl rfl (xSc_0 isC_27) (Nat.le_of_ble_eq_true rfl) rfl (rc_weather hR isC_27) ?_
    refine xx_iload_n (q := 67) rfl rfl rfl ?_
    refine xx_iload_n (q := 68) rfl rfl rfl ?_
    refine xx_iconst (q := 69) rfl rfl (by decide) ?_
    refine xx_bipush (q := 71) rfl rfl (by decide) ?_
    obtain ⟨D4, hx4, hW4⟩ := c_put (n := n) (o := 6) (M := 5) hR hW (xSc_6 isC_27) rfl (by decide) (by decide) (by decide) w v 0 99
    have hI4 : KI (putK K 6 5 w v 0 99) := putK_I hI (fun j => show (0 : Int) ≤ _ by omega) (fun j => show _ ≤ (1000 : Int) by omega)
    refine xx_callS (q := 74) (As := [_, _, _, _, _]) (rest := []) rfl rfl rfl (Or.inl rfl) rfl rfl (Nat.le_of_ble_eq_true rfl) (XCm hx4 rfl) rfl ?_
    refine xx_iret rfl (bi_01 _) ⟨congrArg (fun z => some (Sum.inl z)) (by grind [bi, mstF]), _, rfl, ?_⟩
    have e : setK K w v = (putK K 6 5 w v 0 99) := by unfold setK; first | grind [mstF] | (unfold putK; grind [mstF])
    rw [e]
    exact hW4
  by_cases h1_4 : w = 4
  · refine xx_swK (q := 75) (zl := 4) (off := 74) rfl h1_4 (by decide) (by decide) rfl rfl ?_
    refine xx_aload_n (q := 76) rfl rfl rfl ?_
    refine xx_getR (q := 79) rfl rfl rfl xS_5 (Nat.le_of_ble_eq_true rfl) rfl (hR.1 5 0 rfl) ?_
    refine xx_getR (q := 82) rfl rfl rfl xS_6 (Nat.le_of_ble_eq_true rfl) rfl (hR.1 6 5 rfl) ?_
    refine xx_getR (q := 85) rfl rfl rfl (xSc_0 isC_27) (Nat.le_of_ble_eq_true rfl) rfl (rc_weather hR isC_27) ?_
    refine xx_iload_n (q := 86) rfl rfl rfl ?_
    refine xx_iload_n (q := 87) rfl rfl rfl ?_
    refine xx_iconst (q := 88) rfl rfl (by decide) ?_
    refine xx_iconst (q := 89) rfl rfl (by decide) ?_
    obtain ⟨D5, hx5, hW5⟩ := c_put (n := n) (o := 6) (M := 5) hR hW (xSc_6 isC_27) rfl (by decide) (by decide) (by decide) w v 0 1
    have hI5 : KI (putK K 6 5 w v 0 1) := putK_I hI (fun j => show (0 : Int) ≤ _ by omega) (fun j => show _ ≤ (1000 : Int) by omega)
    refine xx_callS (q := 92) (As := [_, _, _, _, _]) (rest := []) rfl rfl rfl (Or.inl rfl) rfl rfl (Nat.le_of_ble_eq_true rfl) (XCm hx5 rfl) rfl ?_
    refine xx_iret rfl (bi_01 _) ⟨congrArg (fun z => some (Sum.inl z)) (by grind [bi, mstF]), _, rfl, ?_⟩
    have e : setK K w v = (putK K 6 5 w v 0 1) := by unfold setK; first | grind [mstF] | (unfold putK; grind [mstF])
    rw [e]
    exact hW5
  refine xx_swOut (q := 93) rfl (by omega) rfl ?_
  refine xx_iconst (q := 94) rfl rfl (by decide) ?_
  refine xx_iret rfl (Or.inl rfl) ⟨congrArg (fun z => some (Sum.inl z)) (by grind [bi, mstF]), _, rfl, ?_⟩
  have e : setK K w v = K := by unfold setK; first | grind [mstF] | (unfold putK; grind [mstF])
  rw [e]
  exact hW
set_option maxHeartbeats 1000000 in
theorem c_set {n : Nat} {R : Nat → Nat → Option Nat} {D0 D K : KK} {b : Int} {B : Nat → Int} {U : UU} (hR : RF R) (hW : NWd K b B U D0 D) (hI : KI K) (w v : Int) : ∃ D', XC 4 123 [.inr (some 5), .inl w, .inl v] (xS n, R, D) (some (.inl (bi (setP w v)))) (xS n, R, D') ∧ NWd (setK K w v) b B (tldU (setP w v) U) D0 D' := by
  refine XE_of (Nat.le_of_ble_eq_true rfl) (Nat.le_of_ble_eq_true rfl) (loc := [_, _, _]) rfl ?_
  refine xx_aload_n (q := 1) rfl rfl rfl ?_
  refine xx_aload_n (q := 2) rfl rfl rfl ?_
  refine xx_iload_n (q := 3) rfl rfl rfl ?_
  refine xx_iload_n (q := 4) rfl rfl rfl ?_
  obtain ⟨D1, hx1, hW1⟩ := c_tellOfWeather (n := n) hR hW hI w v
  have hI1 : KI (setK K w v) := setK_I hI
  refine xx_callV (q := 7) (As := [_, _]) (rest := [_]) rfl rfl rfl (Or.inl rfl) rfl rfl (Nat.le_of_ble_eq_true rfl) xS_5 (XCm hx1 rfl) rfl ?_
  obtain ⟨D2, hx2, hW2⟩ := c_forgetIf (n := n) hR hW1 hI1 (bi (setP w v)) (bi_01 _)
  refine xx_callV (q := 10) (As := [_]) (rest := []) rfl rfl rfl (Or.inl rfl) rfl rfl (Nat.le_of_ble_eq_true rfl) xS_5 (XCm hx2 rfl) rfl ?_
  refine xx_iret rfl (bi_01 _) ⟨congrArg (fun z => some (Sum.inl z)) (by rfl), _, rfl, ?_⟩
  have e : tldU (setP w v) U = fgtU (bi (setP w v)) U := by
    unfold tldU fgtU
    rcases Classical.em (setP w v) with q | q
    · rw [if_pos q, bi_t q]; rfl
    · rw [if_neg q, bi_f q]; rfl
  rw [e]
  exact hW2
