/-! What the class reads of the tape. -/
abbrev Tt : Type := Int × Int × List Tk
def hdT (t : Tt) : Tk := t.2.2.headD (0, 0, 0)
def kdT (t : Tt) : Int := if t.1 = 0 then (hdT t).1 else 258
def vlT (t : Tt) : Int := (hdT t).2.2
def stT (t : Tt) : Tt := (t.1, t.2.1, if 1 < t.2.2.length then t.2.2.tail else t.2.2)
def wrT (k : Int) (t : Tt) : Tt := if t.1 = 0 then (k, (hdT t).2.1, t.2.2) else t
def tkT (k : Int) (t : Tt) : Tt := if kdT t = k then stT t else t
def exT (k : Int) (t : Tt) : Tt := if kdT t = k then stT t else wrT 1 t
def nwT (lo hi : Int) (t : Tt) : Tt := stT (if kdT t = 256 then (if lo ≤ vlT t ∧ vlT t ≤ hi then t else wrT 2 t) else wrT 1 t)
def TS (al : List Tk) (t : Tt) (D : KK) : Prop := D 474 1 = t.1 ∧ D 474 2 = t.2.1 ∧ (∃ m : Nat, al.drop m = t.2.2 ∧ D 474 8 = (m : Int)) ∧ t.2.2 ≠ [] ∧ TkC al D ∧ al.length ≤ 401 ∧ ∀ j, 0 ≤ (tkg al j).1 ∧ (tkg al j).1 ≤ 400
def FSt (D E : KK) : Prop := ∀ x k, (x = 474 → k ≠ 1 ∧ k ≠ 2 ∧ k ≠ 8) → E x k = D x k
theorem FSt.rf {D : KK} : FSt D D := fun _ _ _ => rfl
theorem FSt.trans {D E F : KK} (h : FSt D E) (g : FSt E F) : FSt D F := fun x k q => (g x k q).trans (h x k q)
theorem drop_hd {al ts : List Tk} {m : Nat} (h : al.drop m = ts) (hne : ts ≠ []) : m < al.length ∧ tkg al m = ts.headD (0, 0, 0) ∧ ts.length = al.length - m ∧ al.drop (m + 1) = ts.tail := by
  have hm : m < al.length := by
    rcases Nat.lt_or_ge m al.length with q | q
    · exact q
    · exact absurd ((List.drop_eq_nil_of_le q).symm.trans h).symm hne
  refine ⟨hm, ?_, ?_, ?_⟩
  · rw [← h]
    rw [List.drop_eq_getElem_cons hm]
    show tkg al m = al[m]
    unfold tkg
    simp [List.getD, hm]
  · rw [← h, List.length_drop]
  · rw [← h, List.tail_drop]
theorem TkC.fr {ts : List Tk} {D E : KK} (h : TkC ts D) (g : ∀ x k, (x = 474 ∧ k = 7) ∨ x = 476 ∨ x = 477 ∨ x = 478 → E x k = D x k) : TkC ts E := ⟨(g _ _ (by omega)).trans h.1, fun j hj => ⟨(g _ _ (by omega)).trans (h.2 j hj).1, (g _ _ (by omega)).trans (h.2 j hj).2.1, (g _ _ (by omega)).trans (h.2 j hj).2.2⟩⟩
theorem kdT_b {al : List Tk} {t : Tt} {D : KK} (h : TS al t D) : 0 ≤ kdT t ∧ kdT t ≤ 400 := by
  obtain ⟨_, _, ⟨m, hm, _⟩, hne, _, _, hb⟩ := h
  have := hb m
  rw [(drop_hd hm hne).2.1] at this
  unfold kdT hdT
  split
  · exact this
  · omega
set_option maxHeartbeats 1000000 in
theorem c_kind {n : Nat} {R : Nat → Nat → Option Nat} {D : KK} {al : List Tk} {t : Tt} (hR : RF R) (hS : TS al t D) : XC 1 93 [.inr (some 474)] (xS n, R, D) (some (.inl (kdT t))) (xS n, R, D) := by
  obtain ⟨h1, h2, ⟨m, hm, h8⟩, hne, hK, hal, hkb⟩ := hS
  obtain ⟨hml, hmt, hmn, hmd⟩ := drop_hd hm hne
  refine XC_of (Nat.le_of_ble_eq_true rfl) (Nat.le_of_ble_eq_true rfl) (loc := [_]) rfl ?_
  refine xx_aload_n (q := 1) rfl rfl rfl ?_
  refine xx_gez (q := 4) rfl rfl rfl xS_474 (Nat.le_of_ble_eq_true rfl) rfl h1 ?_
  refine xx_if_ne (q := 30) (q2 := 7) rfl rfl rfl (fun h4 => ?_) (fun h4 => ?_)
  · refine xx_sipush (q := 33) rfl rfl (by decide) ?_
    exact xx_iret rfl trivial ⟨congrArg (fun z => some (Sum.inl z)) (by unfold kdT; rw [if_neg h4]), rfl⟩
  · refine xx_aload_n (q := 8) rfl rfl rfl ?_
    refine xx_gez (q := 11) rfl rfl rfl xS_474 (Nat.le_of_ble_eq_true rfl) rfl h8 ?_
    refine xx_aload_n (q := 12) rfl rfl rfl ?_
    refine xx_gez (q := 15) rfl rfl rfl xS_474 (Nat.le_of_ble_eq_true rfl) rfl hK.1 ?_
    refine xx_icmp_ge (q := 30) (q2 := 18) rfl rfl rfl (fun h15 => (by exfalso; omega)) (fun _ => ?_)
    refine xx_aload_n (q := 19) rfl rfl rfl ?_
    refine xx_getR (q := 22) rfl rfl rfl xS_474 (Nat.le_of_ble_eq_true rfl) rfl (hR.1 474 4 rfl) ?_
    refine xx_aload_n (q := 23) rfl rfl rfl ?_
    refine xx_gez (q := 26) rfl rfl rfl xS_474 (Nat.le_of_ble_eq_true rfl) rfl h8 ?_
    refine xx_iaz (v := (hdT t).1) (q := 27) rfl rfl xS_476 (by omega) (by omega) ((hK.2 m hml).1.trans (congrArg (fun z => z.1) hmt)) ?_
    refine xx_goto (q := 33) rfl rfl ?_
    exact xx_iret rfl trivial ⟨congrArg (fun z => some (Sum.inl z)) (by unfold kdT; rw [if_pos h4]), rfl⟩
set_option maxHeartbeats 1000000 in
theorem c_value {n : Nat} {R : Nat → Nat → Option Nat} {D : KK} {al : List Tk} {t : Tt} (hR : RF R) (hS : TS al t D) : XC 1 94 [.inr (some 474)] (xS n, R, D) (some (.inl (vlT t))) (xS n, R, D) := by
  obtain ⟨h1, h2, ⟨m, hm, h8⟩, hne, hK, hal, hkb⟩ := hS
  obtain ⟨hml, hmt, hmn, hmd⟩ := drop_hd hm hne
  refine XC_of (Nat.le_of_ble_eq_true rfl) (Nat.le_of_ble_eq_true rfl) (loc := [_]) rfl ?_
  refine xx_aload_n (q := 1) rfl rfl rfl ?_
  refine xx_gez (q := 4) rfl rfl rfl xS_474 (Nat.le_of_ble_eq_true rfl) rfl h8 ?_
  refine xx_aload_n (q := 5) rfl rfl rfl ?_
  refine xx_gez (q := 8) rfl rfl rfl xS_474 (Nat.le_of_ble_eq_true rfl) rfl hK.1 ?_
  refine xx_icmp_ge (q := 23) (q2 := 11) rfl rfl rfl (fun h8 => (by exfalso; omega)) (fun _ => ?_)
  refine xx_aload_n (q := 12) rfl rfl rfl ?_
  refine xx_getR (q := 15) rfl rfl rfl xS_474 (Nat.le_of_ble_eq_true rfl) rfl (hR.1 474 6 rfl) ?_
  refine xx_aload_n (q := 16) rfl rfl rfl ?_
  refine xx_gez (q := 19) rfl rfl rfl xS_474 (Nat.le_of_ble_eq_true rfl) rfl h8 ?_
  refine xx_iaz (v := (hdT t).2.2) (q := 20) rfl rfl xS_478 (by omega) (by omega) ((hK.2 m hml).2.2.trans (congrArg (fun z => z.2.2) hmt)) ?_
  refine xx_goto (q := 24) rfl rfl ?_
  exact xx_iret rfl trivial ⟨congrArg (fun z => some (Sum.inl z)) (by rfl), rfl⟩
set_option maxHeartbeats 1000000 in
theorem c_step {n : Nat} {R : Nat → Nat → Option Nat} {D : KK} {al : List Tk} {t : Tt} (hR : RF R) (hS : TS al t D) : ∃ D', XC 1 95 [.inr (some 474)] (xS n, R, D) none (xS n, R, D') ∧ TS al (stT t) D' ∧ FSt D D' := by
  obtain ⟨h1, h2, ⟨m, hm, h8⟩, hne, hK, hal, hkb⟩ := hS
  obtain ⟨hml, hmt, hmn, hmd⟩ := drop_hd hm hne
  refine XE_of (Nat.le_of_ble_eq_true rfl) (Nat.le_of_ble_eq_true rfl) (loc := [_]) rfl ?_
  refine xx_aload_n (q := 1) rfl rfl rfl ?_
  refine xx_gez (q := 4) rfl rfl rfl xS_474 (Nat.le_of_ble_eq_true rfl) rfl h8 ?_
  refine xx_iconst (q := 5) rfl rfl (by decide) ?_
  refine xx_iaddR (q := 6) rfl rfl (by omega) (by omega) ?_
  refine xx_aload_n (q := 7) rfl rfl rfl ?_
  refine xx_gez (q := 10) rfl rfl rfl xS_474 (Nat.le_of_ble_eq_true rfl) rfl hK.1 ?_
  refine xx_icmp_ge (q := 23) (q2 := 13) rfl rfl rfl (fun h10 => ?_) (fun h10 => ?_)
  · refine xx_vret rfl rfl ⟨rfl, _, rfl, ?_⟩
    have e : stT t = t := by unfold stT; rw [if_neg (by omega)]
    rw [e]
    exact ⟨⟨h1, h2, ⟨m, hm, h8⟩, hne, hK, hal, hkb⟩, FSt.rf⟩
  · refine xx_aload_n (q := 14) rfl rfl rfl ?_
    refine xx_dup (q := 15) rfl rfl ?_
    refine xx_gez (q := 18) rfl rfl rfl xS_474 (Nat.le_of_ble_eq_true rfl) rfl h8 ?_
    refine xx_iconst (q := 19) rfl rfl (by decide) ?_
    refine xx_iaddR (q := 20) rfl rfl (by omega) (by omega) ?_
    refine xx_puz (q := 23) rfl rfl rfl xS_474 (Nat.le_of_ble_eq_true rfl) (Nat.le_of_ble_eq_true rfl) (fun h => by cases h) (Or.inl rfl) rfl ?_
    refine xx_vret rfl rfl ⟨rfl, _, rfl, ?_⟩
    have e : stT t = (t.1, t.2.1, t.2.2.tail) := by unfold stT; rw [if_pos (by omega)]
    rw [e]
    refine ⟨⟨(xui_j (by omega)).trans h1, (xui_j (by omega)).trans h2, ⟨m + 1, hmd, xui_s.trans (by omega)⟩, fun q => ?_, hK.fr (fun x k q => if_neg (fun r => by omega)), hal, hkb⟩, fun x k q => if_neg (fun r => (q r.1).2.2 r.2)⟩
    have q2 : t.2.2.tail.length = 0 := by rw [show t.2.2.tail = [] from q]; rfl
    rw [List.length_tail] at q2
    omega
set_option maxHeartbeats 1000000 in
theorem c_wrong {n : Nat} {R : Nat → Nat → Option Nat} {D : KK} {al : List Tk} {t : Tt} (hR : RF R) (hS : TS al t D) (k : Int) : ∃ D', XC 1 99 [.inr (some 474), .inl k] (xS n, R, D) none (xS n, R, D') ∧ TS al (wrT k t) D' ∧ FSt D D' := by
  obtain ⟨h1, h2, ⟨m, hm, h8⟩, hne, hK, hal, hkb⟩ := hS
  obtain ⟨hml, hmt, hmn, hmd⟩ := drop_hd hm hne
  refine XE_of (Nat.le_of_ble_eq_true rfl) (Nat.le_of_ble_eq_true rfl) (loc := [_, _]) rfl ?_
  refine xx_aload_n (q := 1) rfl rfl rfl ?_
  refine xx_gez (q := 4) rfl rfl rfl xS_474 (Nat.le_of_ble_eq_true rfl) rfl h1 ?_
  refine xx_if_ne (q := 36) (q2 := 7) rfl rfl rfl (fun h4 => ?_) (fun h4 => ?_)
  · refine xx_vret rfl rfl ⟨rfl, _, rfl, ?_⟩
    rw [show wrT k t = t from if_neg h4]
    exact ⟨⟨h1, h2, ⟨m, hm, h8⟩, hne, hK, hal, hkb⟩, FSt.rf⟩
  · refine xx_aload_n (q := 8) rfl rfl rfl ?_
    refine xx_gez (q := 11) rfl rfl rfl xS_474 (Nat.le_of_ble_eq_true rfl) rfl h8 ?_
    refine xx_aload_n (q := 12) rfl rfl rfl ?_
    refine xx_gez (q := 15) rfl rfl rfl xS_474 (Nat.le_of_ble_eq_true rfl) rfl hK.1 ?_
    refine xx_icmp_ge (q := 36) (q2 := 18) rfl rfl rfl (fun h15 => (by exfalso; omega)) (fun _ => ?_)
    refine xx_aload_n (q := 19) rfl rfl rfl ?_
    refine xx_iload_n (q := 20) rfl rfl rfl ?_
    refine xx_puz (q := 23) rfl rfl rfl xS_474 (Nat.le_of_ble_eq_true rfl) (Nat.le_of_ble_eq_true rfl) (fun h => by cases h) (Or.inl rfl) rfl ?_
    refine xx_aload_n (q := 24) rfl rfl rfl ?_
    refine xx_aload_n (q := 25) rfl rfl rfl ?_
    refine xx_getR (q := 28) rfl rfl rfl xS_474 (Nat.le_of_ble_eq_true rfl) rfl (hR.1 474 5 rfl) ?_
    refine xx_aload_n (q := 29) rfl rfl rfl ?_
    refine xx_gez (q := 32) rfl rfl rfl xS_474 (Nat.le_of_ble_eq_true rfl) rfl ((xui_j (by omega)).trans h8) ?_
    refine xx_iaz (v := (hdT t).2.1) (q := 33) rfl rfl xS_477 (by omega) (by omega) ((xui_a (by omega)).trans ((hK.2 m hml).2.1.trans (congrArg (fun z => z.2.1) hmt))) ?_
    refine xx_puz (q := 36) rfl rfl rfl xS_474 (Nat.le_of_ble_eq_true rfl) (Nat.le_of_ble_eq_true rfl) (fun h => by cases h) (Or.inl rfl) rfl ?_
    refine xx_vret rfl rfl ⟨rfl, _, rfl, ?_⟩
    rw [show wrT k t = (k, (hdT t).2.1, t.2.2) from if_pos h4]
    refine ⟨⟨(xui_j (by omega)).trans xui_s, xui_s, ⟨m, hm, (xui_j (by omega)).trans ((xui_j (by omega)).trans h8)⟩, hne, hK.fr (fun x k q => (if_neg (fun r => by omega)).trans (if_neg (fun r => by omega))), hal, hkb⟩, fun x k q => (if_neg (fun r => (q r.1).2.1 r.2)).trans (if_neg (fun r => (q r.1).1 r.2))⟩
set_option maxHeartbeats 1000000 in
theorem c_take {n : Nat} {R : Nat → Nat → Option Nat} {D : KK} {al : List Tk} {t : Tt} (hR : RF R) (hS : TS al t D) (k : Int) : ∃ D', XC 2 96 [.inr (some 474), .inl k] (xS n, R, D) (some (.inl (bi (kdT t = k)))) (xS n, R, D') ∧ TS al (tkT k t) D' ∧ FSt D D' := by
  refine XE_of (Nat.le_of_ble_eq_true rfl) (Nat.le_of_ble_eq_true rfl) (loc := [_, _, _]) rfl ?_
  refine xx_aload_n (q := 1) rfl rfl rfl ?_
  refine xx_callV (q := 4) (As := []) (rest := []) rfl rfl rfl (Or.inl rfl) rfl rfl (Nat.le_of_ble_eq_true rfl) xS_474 (XCm (c_kind (n := n) hR hS) rfl) rfl ?_
  refine xx_iload_n (q := 5) rfl rfl rfl ?_
  refine xx_icmp_ne (q := 12) (q2 := 8) rfl rfl rfl (fun h5 => ?_) (fun h5 => ?_)
  · refine xx_iconst (q := 13) rfl rfl (by decide) ?_
    refine xx_istore_n (q := 14) (loc2 := [_, _, _]) rfl rfl (Nat.le_of_ble_eq_true rfl) rfl ?_
    refine xx_iload_n (q := 15) rfl rfl rfl ?_
    refine xx_if_eq (q := 22) (q2 := 18) rfl rfl rfl (fun _ => ?_) (fun h15 => (by exfalso; omega))
    refine xx_iload_n (q := 23) rfl rfl rfl ?_
    refine xx_iret rfl (Or.inl rfl) ⟨congrArg (fun z => some (Sum.inl z)) (by exact (bi_f h5).symm), _, rfl, ?_⟩
    rw [show tkT k t = t from if_neg h5]
    exact ⟨hS, FSt.rf⟩
  · refine xx_iconst (q := 9) rfl rfl (by decide) ?_
    refine xx_goto (q := 13) rfl rfl ?_
    refine xx_istore_n (q := 14) (loc2 := [_, _, _]) rfl rfl (Nat.le_of_ble_eq_true rfl) rfl ?_
    refine xx_iload_n (q := 15) rfl rfl rfl ?_
    refine xx_if_eq (q := 22) (q2 := 18) rfl rfl rfl (fun h15 => (by exfalso; omega)) (fun _ => ?_)
    refine xx_aload_n (q := 19) rfl rfl rfl ?_
    obtain ⟨D1, hx1, hS1, hG1⟩ := c_step (n := n) hR hS 
    have hF1 := FSt.rf.trans hG1
    refine xx_callV (q := 22) (As := []) (rest := []) rfl rfl rfl (Or.inl rfl) rfl rfl (Nat.le_of_ble_eq_true rfl) xS_474 (XCm hx1 rfl) rfl ?_
    refine xx_iload_n (q := 23) rfl rfl rfl ?_
    refine xx_iret rfl (Or.inr rfl) ⟨congrArg (fun z => some (Sum.inl z)) (by exact (bi_t h5).symm), _, rfl, ?_⟩
    rw [show tkT k t = stT t from if_pos h5]
    exact ⟨hS1, hF1⟩
set_option maxHeartbeats 1000000 in
theorem c_expect {n : Nat} {R : Nat → Nat → Option Nat} {D : KK} {al : List Tk} {t : Tt} (hR : RF R) (hS : TS al t D) (k : Int) : ∃ D', XC 3 97 [.inr (some 474), .inl k] (xS n, R, D) none (xS n, R, D') ∧ TS al (exT k t) D' ∧ FSt D D' := by
  refine XE_of (Nat.le_of_ble_eq_true rfl) (Nat.le_of_ble_eq_true rfl) (loc := [_, _]) rfl ?_
  refine xx_aload_n (q := 1) rfl rfl rfl ?_
  refine xx_iload_n (q := 2) rfl rfl rfl ?_
  obtain ⟨D1, hx1, hS1, hG1⟩ := c_take (n := n) hR hS k
  have hF1 := FSt.rf.trans hG1
  refine xx_callV (q := 5) (As := [_]) (rest := []) rfl rfl rfl (Or.inl rfl) rfl rfl (Nat.le_of_ble_eq_true rfl) xS_474 (XCm hx1 rfl) rfl ?_
  refine xx_ifb_ne (q := 13) (q2 := 8) rfl rfl rfl (fun h5 => ?_) (fun h5 => ?_)
  · refine xx_vret rfl rfl ⟨rfl, _, rfl, ?_⟩
    rw [show exT k t = tkT k t from (if_pos h5).trans (if_pos h5).symm]
    exact ⟨hS1, hF1⟩
  · refine xx_aload_n (q := 9) rfl rfl rfl ?_
    refine xx_iconst (q := 10) rfl rfl (by decide) ?_
    obtain ⟨D2, hx2, hS2, hG2⟩ := c_wrong (n := n) hR hS1 1
    have hF2 := hF1.trans hG2
    refine xx_callV (q := 13) (As := [_]) (rest := []) rfl rfl rfl (Or.inl rfl) rfl rfl (Nat.le_of_ble_eq_true rfl) xS_474 (XCm hx2 rfl) rfl ?_
    refine xx_vret rfl rfl ⟨rfl, _, rfl, ?_⟩
    rw [show exT k t = wrT 1 (tkT k t) from (if_neg h5).trans (by rw [show tkT k t = t from if_neg h5])]
    exact ⟨hS2, hF2⟩
set_option maxHeartbeats 1000000 in
theorem c_nw {n : Nat} {R : Nat → Nat → Option Nat} {D : KK} {al : List Tk} {t : Tt} (hR : RF R) (hS : TS al t D) (lo hi : Int) : ∃ D', XC 2 98 [.inr (some 474), .inl lo, .inl hi] (xS n, R, D) (some (.inl (vlT t))) (xS n, R, D') ∧ TS al (nwT lo hi t) D' ∧ FSt D D' := by
  refine XE_of (Nat.le_of_ble_eq_true rfl) (Nat.le_of_ble_eq_true rfl) (loc := [_, _, _, _]) rfl ?_
  refine xx_aload_n (q := 1) rfl rfl rfl ?_
  refine xx_callV (q := 4) (As := []) (rest := []) rfl rfl rfl (Or.inl rfl) rfl rfl (Nat.le_of_ble_eq_true rfl) xS_474 (XCm (c_value (n := n) hR hS) rfl) rfl ?_
  refine xx_istore_n (q := 5) (loc2 := [_, _, _, _]) rfl rfl (Nat.le_of_ble_eq_true rfl) rfl ?_
  refine xx_aload_n (q := 6) rfl rfl rfl ?_
  refine xx_callV (q := 9) (As := []) (rest := []) rfl rfl rfl (Or.inl rfl) rfl rfl (Nat.le_of_ble_eq_true rfl) xS_474 (XCm (c_kind (n := n) hR hS) rfl) rfl ?_
  refine xx_sipush (q := 12) rfl rfl (by decide) ?_
  refine xx_icmp_eq (q := 23) (q2 := 15) rfl rfl rfl (fun h12 => ?_) (fun h12 => ?_)
  · refine xx_iload_n (q := 24) rfl rfl rfl ?_
    refine xx_iload_n (q := 25) rfl rfl rfl ?_
    refine xx_iload_n (q := 26) rfl rfl rfl ?_
    refine xx_callS (q := 29) (As := [_, _, _]) (rest := []) rfl rfl rfl (Or.inr rfl) rfl rfl (Nat.le_of_ble_eq_true rfl) (XCm (c_within (vlT t) lo hi) rfl) rfl ?_
    refine xx_ifb_ne (q := 37) (q2 := 32) rfl rfl rfl (fun h29 => ?_) (fun h29 => ?_)
    · refine xx_aload_n (q := 38) rfl rfl rfl ?_
      obtain ⟨D1, hx1, hS1, hG1⟩ := c_step (n := n) hR hS 
      have hF1 := FSt.rf.trans hG1
      refine xx_callV (q := 41) (As := []) (rest := []) rfl rfl rfl (Or.inl rfl) rfl rfl (Nat.le_of_ble_eq_true rfl) xS_474 (XCm hx1 rfl) rfl ?_
      refine xx_iload_n (q := 42) rfl rfl rfl ?_
      refine xx_iret rfl trivial ⟨congrArg (fun z => some (Sum.inl z)) (by rfl), _, rfl, ?_⟩
      have e : nwT lo hi t = stT t := congrArg stT ((if_pos h12).trans (if_pos h29))
      rw [e]
      exact ⟨hS1, hF1⟩
    · refine xx_aload_n (q := 33) rfl rfl rfl ?_
      refine xx_iconst (q := 34) rfl rfl (by decide) ?_
      obtain ⟨D2, hx2, hS2, hG2⟩ := c_wrong (n := n) hR hS 2
      have hF2 := FSt.rf.trans hG2
      refine xx_callV (q := 37) (As := [_]) (rest := []) rfl rfl rfl (Or.inl rfl) rfl rfl (Nat.le_of_ble_eq_true rfl) xS_474 (XCm hx2 rfl) rfl ?_
      refine xx_aload_n (q := 38) rfl rfl rfl ?_
      obtain ⟨D3, hx3, hS3, hG3⟩ := c_step (n := n) hR hS2 
      have hF3 := hF2.trans hG3
      refine xx_callV (q := 41) (As := []) (rest := []) rfl rfl rfl (Or.inl rfl) rfl rfl (Nat.le_of_ble_eq_true rfl) xS_474 (XCm hx3 rfl) rfl ?_
      refine xx_iload_n (q := 42) rfl rfl rfl ?_
      refine xx_iret rfl trivial ⟨congrArg (fun z => some (Sum.inl z)) (by rfl), _, rfl, ?_⟩
      have e : nwT lo hi t = stT (wrT 2 t) := congrArg stT ((if_pos h12).trans (if_neg h29))
      rw [e]
      exact ⟨hS3, hF3⟩
  · refine xx_aload_n (q := 16) rfl rfl rfl ?_
    refine xx_iconst (q := 17) rfl rfl (by decide) ?_
    obtain ⟨D4, hx4, hS4, hG4⟩ := c_wrong (n := n) hR hS 1
    have hF4 := FSt.rf.trans hG4
    refine xx_callV (q := 20) (As := [_]) (rest := []) rfl rfl rfl (Or.inl rfl) rfl rfl (Nat.le_of_ble_eq_true rfl) xS_474 (XCm hx4 rfl) rfl ?_
    refine xx_goto (q := 37) rfl rfl ?_
    refine xx_aload_n (q := 38) rfl rfl rfl ?_
    obtain ⟨D5, hx5, hS5, hG5⟩ := c_step (n := n) hR hS4 
    have hF5 := hF4.trans hG5
    refine xx_callV (q := 41) (As := []) (rest := []) rfl rfl rfl (Or.inl rfl) rfl rfl (Nat.le_of_ble_eq_true rfl) xS_474 (XCm hx5 rfl) rfl ?_
    refine xx_iload_n (q := 42) rfl rfl rfl ?_
    refine xx_iret rfl trivial ⟨congrArg (fun z => some (Sum.inl z)) (by rfl), _, rfl, ?_⟩
    have e : nwT lo hi t = stT (wrT 1 t) := congrArg stT (if_neg h12)
    rw [e]
    exact ⟨hS5, hF5⟩
