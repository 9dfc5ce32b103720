theorem xconst_i8 {n : Int} (h : -128 ≤ n ∧ n < 128) : (Int8.ofInt n).toInt32 = Int32.ofInt n := Int8.toInt32_ofInt h.1 (by show n ≤ 127; omega)
theorem xconst_i16 {n : Int} (h : -32768 ≤ n ∧ n < 32768) : (Int16.ofInt n).toInt32 = Int32.ofInt n := Int16.toInt32_ofInt h.1 (by show n ≤ 32767; omega)
theorem xk_ok {o idx : Nat} {q : Int × Nat} (ho : o < 19) (h : xlk (xko o) idx = some q) : xok q.1 ∧ Cond.constant (xon o) idx (Int32.ofInt q.1) ∈ xtb := by
  have h1 := List.all_eq_true.mp (List.all_eq_true.mp xokK_all o (List.mem_range.mpr ho)) (idx, q) (xlk_mem _ _ _ h)
  unfold xokK at h1
  simp only [Bool.and_eq_true, decide_eq_true_eq] at h1
  exact ⟨h1.1, xmem h1.2⟩
theorem xs_ok {o idx : Nat} {q : Nat × Nat} (ho : o < 19) (h : xlk (xso o) idx = some q) : o = 8 ∧ (q.1 = 1 ∨ q.1 = 2) ∧ (xtx q.1).1 = idx := by
  have h1 := List.all_eq_true.mp (List.all_eq_true.mp xokS_all o (List.mem_range.mpr ho)) (idx, q) (xlk_mem _ _ _ h)
  unfold xokS0 at h1
  simp only [Bool.and_eq_true, decide_eq_true_eq] at h1
  obtain ⟨a1, a2, a3, a4, -⟩ := h1
  have b1 := Nat.le_of_ble_eq_true a2
  have b2 := Nat.le_of_ble_eq_true a3
  exact ⟨Nat.eq_of_beq_eq_true a1, by omega, Nat.eq_of_beq_eq_true a4⟩
theorem xnfw : nativeFrameWords "java/lang/System" "arraycopy" 5 ≤ 40 := by decide +kernel
theorem xokV_ite {P : Prop} [Decidable P] {a b : Int} (ha : xokV (.inl a)) (hb : xokV (.inl b)) : xokV (.inl (if P then a else b)) := by
  by_cases h : P
  · rw [if_pos h]; exact ha
  · rw [if_neg h]; exact hb
theorem xs_iret {i : Nat} {st : List XV} {m : XM} {Q : Option XV → XM → Prop} (h : xiret i st m Q) : ∃ z, st = [.inl z] ∧ xrok (xrt i) z ∧ Q (some (.inl z)) m := by
  unfold xiret at h
  split at h
  · exact ⟨_, rfl, h⟩
  · exact h.elim
theorem xs_aret {i : Nat} {st : List XV} {m : XM} {Q : Option XV → XM → Prop} (h : xaret i st m Q) : ∃ z, st = [.inr z] ∧ (∃ n, xrt i = some (.object n)) ∧ Q (some (.inr z)) m := by
  unfold xaret at h
  split at h
  · exact ⟨_, rfl, h⟩
  · exact h.elim
theorem xne0 {b : Int} (hb : xok b) (h : ¬ b = 0) : ¬ Int32.ofInt b = 0 := by rw [← xo_0, xo_eq hb xok_0]; exact h
set_option maxHeartbeats 4000000 in
theorem xc_aconst_null {C : XCal} {d : Nat} (hC : xGood C d) {i : Nat} (hi : i < 317) {Q : Option XV → XM → Prop} {n : Nat} (ih : ∀ (pc : Nat) (loc : XLc) (st : List XV) (mm : XM), XW C i Q n pc loc st mm → xokL loc → xokS st → xokMm mm → xRes d i Q pc loc st mm) {pc : Nat} {loc : XLc} {st : List XV} {mm : XM} {len : Nat} (hd : decode (xc i) pc = .ok (.aconst_null, len)) (hln : xln (.aconst_null, len) = true) (hsem : xsem C i Q (XW C i Q n) pc loc st mm (.aconst_null)) (oL : xokL loc) (oS : xokS st) (oM : xokMm mm) : xRes d i Q pc loc st mm := by
      have ho := xow_lt i
      cases Nat.eq_of_beq_eq_true hln
      have hk := hsem
      exact xr_push (v := .inr none) (fun p l e R s m args below meth c Qw H locs cells slots ls rest ρ hx hb hown hts hl k => lv_null hx hb hd k) (ih _ _ _ _ hk oL (xokS_p trivial oS) oM)
set_option maxHeartbeats 4000000 in
theorem xc_iconst {C : XCal} {d : Nat} (hC : xGood C d) {i : Nat} (hi : i < 317) {Q : Option XV → XM → Prop} {n : Nat} (ih : ∀ (pc : Nat) (loc : XLc) (st : List XV) (mm : XM), XW C i Q n pc loc st mm → xokL loc → xokS st → xokMm mm → xRes d i Q pc loc st mm) {pc : Nat} {loc : XLc} {st : List XV} {mm : XM} {z : Int} {len : Nat} (hd : decode (xc i) pc = .ok (.iconst z, len)) (hln : xln (.iconst z, len) = true) (hsem : xsem C i Q (XW C i Q n) pc loc st mm (.iconst z)) (oL : xokL loc) (oS : xokS st) (oM : xokMm mm) : xRes d i Q pc loc st mm := by
      have ho := xow_lt i
      cases Nat.eq_of_beq_eq_true hln
      obtain ⟨hz, hk⟩ := hsem
      exact xr_push (v := .inl z) (fun p l e R s m args below meth c Qw H locs cells slots ls rest ρ hx hb hown hts hl k => lv_iconst hx hb hd rfl k) (ih _ _ _ _ hk oL (xokS_p ⟨by omega, by omega⟩ oS) oM)
set_option maxHeartbeats 4000000 in
theorem xc_bipush {C : XCal} {d : Nat} (hC : xGood C d) {i : Nat} (hi : i < 317) {Q : Option XV → XM → Prop} {n : Nat} (ih : ∀ (pc : Nat) (loc : XLc) (st : List XV) (mm : XM), XW C i Q n pc loc st mm → xokL loc → xokS st → xokMm mm → xRes d i Q pc loc st mm) {pc : Nat} {loc : XLc} {st : List XV} {mm : XM} {z : Int} {len : Nat} (hd : decode (xc i) pc = .ok (.bipush z, len)) (hln : xln (.bipush z, len) = true) (hsem : xsem C i Q (XW C i Q n) pc loc st mm (.bipush z)) (oL : xokL loc) (oS : xokS st) (oM : xokMm mm) : xRes d i Q pc loc st mm := by
      have ho := xow_lt i
      cases Nat.eq_of_beq_eq_true hln
      obtain ⟨hz, hk⟩ := hsem
      exact xr_push (v := .inl z) (fun p l e R s m args below meth c Qw H locs cells slots ls rest ρ hx hb hown hts hl k => lv_bipush hx hb hd (xconst_i8 hz) k) (ih _ _ _ _ hk oL (xokS_p ⟨by omega, by omega⟩ oS) oM)
set_option maxHeartbeats 4000000 in
theorem xc_sipush {C : XCal} {d : Nat} (hC : xGood C d) {i : Nat} (hi : i < 317) {Q : Option XV → XM → Prop} {n : Nat} (ih : ∀ (pc : Nat) (loc : XLc) (st : List XV) (mm : XM), XW C i Q n pc loc st mm → xokL loc → xokS st → xokMm mm → xRes d i Q pc loc st mm) {pc : Nat} {loc : XLc} {st : List XV} {mm : XM} {z : Int} {len : Nat} (hd : decode (xc i) pc = .ok (.sipush z, len)) (hln : xln (.sipush z, len) = true) (hsem : xsem C i Q (XW C i Q n) pc loc st mm (.sipush z)) (oL : xokL loc) (oS : xokS st) (oM : xokMm mm) : xRes d i Q pc loc st mm := by
      have ho := xow_lt i
      cases Nat.eq_of_beq_eq_true hln
      obtain ⟨hz, hk⟩ := hsem
      exact xr_push (v := .inl z) (fun p l e R s m args below meth c Qw H locs cells slots ls rest ρ hx hb hown hts hl k => lv_sipush hx hb hd (xconst_i16 hz) k) (ih _ _ _ _ hk oL (xokS_p ⟨by omega, by omega⟩ oS) oM)
set_option maxHeartbeats 4000000 in
theorem xc_ldc_w {C : XCal} {d : Nat} (hC : xGood C d) {i : Nat} (hi : i < 317) {Q : Option XV → XM → Prop} {n : Nat} (ih : ∀ (pc : Nat) (loc : XLc) (st : List XV) (mm : XM), XW C i Q n pc loc st mm → xokL loc → xokS st → xokMm mm → xRes d i Q pc loc st mm) {pc : Nat} {loc : XLc} {st : List XV} {mm : XM} {idx : Nat} {len : Nat} (hd : decode (xc i) pc = .ok (.ldc_w idx, len)) (hln : xln (.ldc_w idx, len) = true) (hsem : xsem C i Q (XW C i Q n) pc loc st mm (.ldc_w idx)) (oL : xokL loc) (oS : xokS st) (oM : xokMm mm) : xRes d i Q pc loc st mm := by
      have ho := xow_lt i
      cases Nat.eq_of_beq_eq_true hln
      obtain ⟨q, hq, hk⟩ := hsem
      obtain ⟨k1, k2⟩ := xk_ok ho hq
      exact xr_push (v := .inl q.1) (fun p l e R s m args below meth c Qw H locs cells slots ls rest ρ hx hb hown hts hl k => lv_ldcw hx hb hown (hts _ k2) hd k) (ih _ _ _ _ hk oL (xokS_p k1 oS) oM)
set_option maxHeartbeats 4000000 in
theorem xc_iload {C : XCal} {d : Nat} (hC : xGood C d) {i : Nat} (hi : i < 317) {Q : Option XV → XM → Prop} {n : Nat} (ih : ∀ (pc : Nat) (loc : XLc) (st : List XV) (mm : XM), XW C i Q n pc loc st mm → xokL loc → xokS st → xokMm mm → xRes d i Q pc loc st mm) {pc : Nat} {loc : XLc} {st : List XV} {mm : XM} {j : Nat} {len : Nat} (hd : decode (xc i) pc = .ok (.iload j, len)) (hln : xln (.iload j, len) = true) (hsem : xsem C i Q (XW C i Q n) pc loc st mm (.iload j)) (oL : xokL loc) (oS : xokS st) (oM : xokMm mm) : xRes d i Q pc loc st mm := by
      have ho := xow_lt i
      cases Nat.eq_of_beq_eq_true hln
      obtain ⟨z, hz, hk⟩ := hsem
      exact xr_push (v := .inl z) (fun p l e R s m args below meth c Qw H locs cells slots ls rest ρ hx hb hown hts hl k => lv_iload hx hb hd (hl.2.2 _ _ hz) k) (ih _ _ _ _ hk oL (xokS_p (xokL_get oL hz) oS) oM)
set_option maxHeartbeats 4000000 in
theorem xc_iload_n {C : XCal} {d : Nat} (hC : xGood C d) {i : Nat} (hi : i < 317) {Q : Option XV → XM → Prop} {n : Nat} (ih : ∀ (pc : Nat) (loc : XLc) (st : List XV) (mm : XM), XW C i Q n pc loc st mm → xokL loc → xokS st → xokMm mm → xRes d i Q pc loc st mm) {pc : Nat} {loc : XLc} {st : List XV} {mm : XM} {j : Fin 4} {len : Nat} (hd : decode (xc i) pc = .ok (.iload_n j, len)) (hln : xln (.iload_n j, len) = true) (hsem : xsem C i Q (XW C i Q n) pc loc st mm (.iload_n j)) (oL : xokL loc) (oS : xokS st) (oM : xokMm mm) : xRes d i Q pc loc st mm := by
      have ho := xow_lt i
      cases Nat.eq_of_beq_eq_true hln
      obtain ⟨z, hz, hk⟩ := hsem
      exact xr_push (v := .inl z) (fun p l e R s m args below meth c Qw H locs cells slots ls rest ρ hx hb hown hts hl k => lv_iload_n hx hb hd rfl (hl.2.2 _ _ hz) k) (ih _ _ _ _ hk oL (xokS_p (xokL_get oL hz) oS) oM)
set_option maxHeartbeats 4000000 in
theorem xc_aload {C : XCal} {d : Nat} (hC : xGood C d) {i : Nat} (hi : i < 317) {Q : Option XV → XM → Prop} {n : Nat} (ih : ∀ (pc : Nat) (loc : XLc) (st : List XV) (mm : XM), XW C i Q n pc loc st mm → xokL loc → xokS st → xokMm mm → xRes d i Q pc loc st mm) {pc : Nat} {loc : XLc} {st : List XV} {mm : XM} {j : Nat} {len : Nat} (hd : decode (xc i) pc = .ok (.aload j, len)) (hln : xln (.aload j, len) = true) (hsem : xsem C i Q (XW C i Q n) pc loc st mm (.aload j)) (oL : xokL loc) (oS : xokS st) (oM : xokMm mm) : xRes d i Q pc loc st mm := by
      have ho := xow_lt i
      cases Nat.eq_of_beq_eq_true hln
      obtain ⟨z, hz, hk⟩ := hsem
      refine xr_push (v := .inr z) (fun p l e R s m args below meth c Qw H locs cells slots ls rest ρ hx hb hown hts hl k => ?_) (ih _ _ _ _ hk oL (xokS_p trivial oS) oM)
      have hl := hl.2.2 _ _ hz
      cases z with
      | none => exact lv_aloadN hx hb hd hl k
      | some a => exact lv_aload hx hb hd hl k
set_option maxHeartbeats 4000000 in
theorem xc_aload_n {C : XCal} {d : Nat} (hC : xGood C d) {i : Nat} (hi : i < 317) {Q : Option XV → XM → Prop} {n : Nat} (ih : ∀ (pc : Nat) (loc : XLc) (st : List XV) (mm : XM), XW C i Q n pc loc st mm → xokL loc → xokS st → xokMm mm → xRes d i Q pc loc st mm) {pc : Nat} {loc : XLc} {st : List XV} {mm : XM} {j : Fin 4} {len : Nat} (hd : decode (xc i) pc = .ok (.aload_n j, len)) (hln : xln (.aload_n j, len) = true) (hsem : xsem C i Q (XW C i Q n) pc loc st mm (.aload_n j)) (oL : xokL loc) (oS : xokS st) (oM : xokMm mm) : xRes d i Q pc loc st mm := by
      have ho := xow_lt i
      cases Nat.eq_of_beq_eq_true hln
      obtain ⟨z, hz, hk⟩ := hsem
      refine xr_push (v := .inr z) (fun p l e R s m args below meth c Qw H locs cells slots ls rest ρ hx hb hown hts hl k => ?_) (ih _ _ _ _ hk oL (xokS_p trivial oS) oM)
      have hl := hl.2.2 _ _ hz
      cases z with
      | none => exact lv_aload_nN hx hb hd rfl hl k
      | some a => exact lv_aload_n hx hb hd rfl hl k
set_option maxHeartbeats 4000000 in
theorem xc_iadd {C : XCal} {d : Nat} (hC : xGood C d) {i : Nat} (hi : i < 317) {Q : Option XV → XM → Prop} {n : Nat} (ih : ∀ (pc : Nat) (loc : XLc) (st : List XV) (mm : XM), XW C i Q n pc loc st mm → xokL loc → xokS st → xokMm mm → xRes d i Q pc loc st mm) {pc : Nat} {loc : XLc} {st : List XV} {mm : XM} {len : Nat} (hd : decode (xc i) pc = .ok (.iadd, len)) (hln : xln (.iadd, len) = true) (hsem : xsem C i Q (XW C i Q n) pc loc st mm (.iadd)) (oL : xokL loc) (oS : xokS st) (oM : xokMm mm) : xRes d i Q pc loc st mm := by
      have ho := xow_lt i
      cases Nat.eq_of_beq_eq_true hln
      have hsem : xbin (fun a b => nrm (a + b)) st (fun r => XW C i Q n (pc + 1) loc r mm) := hsem
      obtain ⟨a, b, r, rfl, hk⟩ := xs_bin hsem
      obtain ⟨ob, o2⟩ := xokS_c oS
      obtain ⟨oa, o3⟩ := xokS_c o2
      refine (ih _ _ _ _ hk oL (xokS_p (nrm_ok _) o3) oM).simple rfl (fun p l e R s m args below meth c Qw H locs cells slots ls ρ hx hb hown hts hl k => ?_)
      have k := k ls hl
      have e1 : Int32.ofInt ((fun a b => nrm (a + b)) a b) = Int32.ofInt a + Int32.ofInt b := by rw [← Int32.ofInt_add]; exact xo_nrm _
      have k : W p l e R s m args below meth c H locs cells slots Qw (F0 m (pc + 1) ls (.int (Int32.ofInt ((fun a b => nrm (a + b)) a b)) :: r.map (xcv ρ))) := k
      rw [e1] at k
      exact lv_iadd hx hb hd k
set_option maxHeartbeats 4000000 in
theorem xc_isub {C : XCal} {d : Nat} (hC : xGood C d) {i : Nat} (hi : i < 317) {Q : Option XV → XM → Prop} {n : Nat} (ih : ∀ (pc : Nat) (loc : XLc) (st : List XV) (mm : XM), XW C i Q n pc loc st mm → xokL loc → xokS st → xokMm mm → xRes d i Q pc loc st mm) {pc : Nat} {loc : XLc} {st : List XV} {mm : XM} {len : Nat} (hd : decode (xc i) pc = .ok (.isub, len)) (hln : xln (.isub, len) = true) (hsem : xsem C i Q (XW C i Q n) pc loc st mm (.isub)) (oL : xokL loc) (oS : xokS st) (oM : xokMm mm) : xRes d i Q pc loc st mm := by
      have ho := xow_lt i
      cases Nat.eq_of_beq_eq_true hln
      have hsem : xbin (fun a b => nrm (a - b)) st (fun r => XW C i Q n (pc + 1) loc r mm) := hsem
      obtain ⟨a, b, r, rfl, hk⟩ := xs_bin hsem
      obtain ⟨ob, o2⟩ := xokS_c oS
      obtain ⟨oa, o3⟩ := xokS_c o2
      refine (ih _ _ _ _ hk oL (xokS_p (nrm_ok _) o3) oM).simple rfl (fun p l e R s m args below meth c Qw H locs cells slots ls ρ hx hb hown hts hl k => ?_)
      have k := k ls hl
      have e1 : Int32.ofInt ((fun a b => nrm (a - b)) a b) = Int32.ofInt a - Int32.ofInt b := by rw [← Int32.ofInt_sub]; exact xo_nrm _
      have k : W p l e R s m args below meth c H locs cells slots Qw (F0 m (pc + 1) ls (.int (Int32.ofInt ((fun a b => nrm (a - b)) a b)) :: r.map (xcv ρ))) := k
      rw [e1] at k
      exact lv_isub hx hb hd k
set_option maxHeartbeats 4000000 in
theorem xc_imul {C : XCal} {d : Nat} (hC : xGood C d) {i : Nat} (hi : i < 317) {Q : Option XV → XM → Prop} {n : Nat} (ih : ∀ (pc : Nat) (loc : XLc) (st : List XV) (mm : XM), XW C i Q n pc loc st mm → xokL loc → xokS st → xokMm mm → xRes d i Q pc loc st mm) {pc : Nat} {loc : XLc} {st : List XV} {mm : XM} {len : Nat} (hd : decode (xc i) pc = .ok (.imul, len)) (hln : xln (.imul, len) = true) (hsem : xsem C i Q (XW C i Q n) pc loc st mm (.imul)) (oL : xokL loc) (oS : xokS st) (oM : xokMm mm) : xRes d i Q pc loc st mm := by
      have ho := xow_lt i
      cases Nat.eq_of_beq_eq_true hln
      have hsem : xbin (fun a b => nrm (a * b)) st (fun r => XW C i Q n (pc + 1) loc r mm) := hsem
      obtain ⟨a, b, r, rfl, hk⟩ := xs_bin hsem
      obtain ⟨ob, o2⟩ := xokS_c oS
      obtain ⟨oa, o3⟩ := xokS_c o2
      refine (ih _ _ _ _ hk oL (xokS_p (nrm_ok _) o3) oM).simple rfl (fun p l e R s m args below meth c Qw H locs cells slots ls ρ hx hb hown hts hl k => ?_)
      have k := k ls hl
      have e1 : Int32.ofInt ((fun a b => nrm (a * b)) a b) = Int32.ofInt a * Int32.ofInt b := by rw [← Int32.ofInt_mul]; exact xo_nrm _
      have k : W p l e R s m args below meth c H locs cells slots Qw (F0 m (pc + 1) ls (.int (Int32.ofInt ((fun a b => nrm (a * b)) a b)) :: r.map (xcv ρ))) := k
      rw [e1] at k
      exact lv_imul hx hb hd k
set_option maxHeartbeats 4000000 in
theorem xc_idiv {C : XCal} {d : Nat} (hC : xGood C d) {i : Nat} (hi : i < 317) {Q : Option XV → XM → Prop} {n : Nat} (ih : ∀ (pc : Nat) (loc : XLc) (st : List XV) (mm : XM), XW C i Q n pc loc st mm → xokL loc → xokS st → xokMm mm → xRes d i Q pc loc st mm) {pc : Nat} {loc : XLc} {st : List XV} {mm : XM} {len : Nat} (hd : decode (xc i) pc = .ok (.idiv, len)) (hln : xln (.idiv, len) = true) (hsem : xsem C i Q (XW C i Q n) pc loc st mm (.idiv)) (oL : xokL loc) (oS : xokS st) (oM : xokMm mm) : xRes d i Q pc loc st mm := by
      have ho := xow_lt i
      cases Nat.eq_of_beq_eq_true hln
      have hsem : xbind (xdiv) st (fun r => XW C i Q n (pc + 1) loc r mm) := hsem
      obtain ⟨a, b, r, rfl, hb0, hk⟩ := xs_bind hsem
      obtain ⟨ob, o2⟩ := xokS_c oS
      obtain ⟨oa, o3⟩ := xokS_c o2
      refine (ih _ _ _ _ hk oL (xokS_p (nrm_ok _) o3) oM).simple rfl (fun p l e R s m args below meth c Qw H locs cells slots ls ρ hx hb hown hts hl k => ?_)
      have k := k ls hl
      have e1 : Int32.ofInt ((xdiv) a b) = Int32.ofInt a / Int32.ofInt b := by have z := xo_div (Int32.ofInt a) (Int32.ofInt b); rwa [xo_to oa, xo_to ob] at z
      have k : W p l e R s m args below meth c H locs cells slots Qw (F0 m (pc + 1) ls (.int (Int32.ofInt ((xdiv) a b)) :: r.map (xcv ρ))) := k
      rw [e1] at k
      exact lv_idiv hx hb hd (xne0 ob hb0) k
set_option maxHeartbeats 4000000 in
theorem xc_irem {C : XCal} {d : Nat} (hC : xGood C d) {i : Nat} (hi : i < 317) {Q : Option XV → XM → Prop} {n : Nat} (ih : ∀ (pc : Nat) (loc : XLc) (st : List XV) (mm : XM), XW C i Q n pc loc st mm → xokL loc → xokS st → xokMm mm → xRes d i Q pc loc st mm) {pc : Nat} {loc : XLc} {st : List XV} {mm : XM} {len : Nat} (hd : decode (xc i) pc = .ok (.irem, len)) (hln : xln (.irem, len) = true) (hsem : xsem C i Q (XW C i Q n) pc loc st mm (.irem)) (oL : xokL loc) (oS : xokS st) (oM : xokMm mm) : xRes d i Q pc loc st mm := by
      have ho := xow_lt i
      cases Nat.eq_of_beq_eq_true hln
      have hsem : xbind (xrem) st (fun r => XW C i Q n (pc + 1) loc r mm) := hsem
      obtain ⟨a, b, r, rfl, hb0, hk⟩ := xs_bind hsem
      obtain ⟨ob, o2⟩ := xokS_c oS
      obtain ⟨oa, o3⟩ := xokS_c o2
      refine (ih _ _ _ _ hk oL (xokS_p (xrem_ok oa ob) o3) oM).simple rfl (fun p l e R s m args below meth c Qw H locs cells slots ls ρ hx hb hown hts hl k => ?_)
      have k := k ls hl
      have e1 : Int32.ofInt ((xrem) a b) = Int32.ofInt a - Int32.ofInt a / Int32.ofInt b * Int32.ofInt b := by have z := xo_rem (Int32.ofInt a) (Int32.ofInt b); rwa [xo_to oa, xo_to ob] at z
      have k : W p l e R s m args below meth c H locs cells slots Qw (F0 m (pc + 1) ls (.int (Int32.ofInt ((xrem) a b)) :: r.map (xcv ρ))) := k
      rw [e1] at k
      exact lv_irem hx hb hd (xne0 ob hb0) k
set_option maxHeartbeats 4000000 in
theorem xc_iand {C : XCal} {d : Nat} (hC : xGood C d) {i : Nat} (hi : i < 317) {Q : Option XV → XM → Prop} {n : Nat} (ih : ∀ (pc : Nat) (loc : XLc) (st : List XV) (mm : XM), XW C i Q n pc loc st mm → xokL loc → xokS st → xokMm mm → xRes d i Q pc loc st mm) {pc : Nat} {loc : XLc} {st : List XV} {mm : XM} {len : Nat} (hd : decode (xc i) pc = .ok (.iand, len)) (hln : xln (.iand, len) = true) (hsem : xsem C i Q (XW C i Q n) pc loc st mm (.iand)) (oL : xokL loc) (oS : xokS st) (oM : xokMm mm) : xRes d i Q pc loc st mm := by
      have ho := xow_lt i
      cases Nat.eq_of_beq_eq_true hln
      have hsem : xbin (xand) st (fun r => XW C i Q n (pc + 1) loc r mm) := hsem
      obtain ⟨a, b, r, rfl, hk⟩ := xs_bin hsem
      obtain ⟨ob, o2⟩ := xokS_c oS
      obtain ⟨oa, o3⟩ := xokS_c o2
      refine (ih _ _ _ _ hk oL (xokS_p (xok_to _) o3) oM).simple rfl (fun p l e R s m args below meth c Qw H locs cells slots ls ρ hx hb hown hts hl k => ?_)
      have k := k ls hl
      have e1 : Int32.ofInt ((xand) a b) = Int32.ofInt a &&& Int32.ofInt b := Int32.ofInt_toInt _
      have k : W p l e R s m args below meth c H locs cells slots Qw (F0 m (pc + 1) ls (.int (Int32.ofInt ((xand) a b)) :: r.map (xcv ρ))) := k
      rw [e1] at k
      exact lv_iand hx hb hd k
set_option maxHeartbeats 4000000 in
theorem xc_ior {C : XCal} {d : Nat} (hC : xGood C d) {i : Nat} (hi : i < 317) {Q : Option XV → XM → Prop} {n : Nat} (ih : ∀ (pc : Nat) (loc : XLc) (st : List XV) (mm : XM), XW C i Q n pc loc st mm → xokL loc → xokS st → xokMm mm → xRes d i Q pc loc st mm) {pc : Nat} {loc : XLc} {st : List XV} {mm : XM} {len : Nat} (hd : decode (xc i) pc = .ok (.ior, len)) (hln : xln (.ior, len) = true) (hsem : xsem C i Q (XW C i Q n) pc loc st mm (.ior)) (oL : xokL loc) (oS : xokS st) (oM : xokMm mm) : xRes d i Q pc loc st mm := by
      have ho := xow_lt i
      cases Nat.eq_of_beq_eq_true hln
      have hsem : xbin (xor_) st (fun r => XW C i Q n (pc + 1) loc r mm) := hsem
      obtain ⟨a, b, r, rfl, hk⟩ := xs_bin hsem
      obtain ⟨ob, o2⟩ := xokS_c oS
      obtain ⟨oa, o3⟩ := xokS_c o2
      refine (ih _ _ _ _ hk oL (xokS_p (xok_to _) o3) oM).simple rfl (fun p l e R s m args below meth c Qw H locs cells slots ls ρ hx hb hown hts hl k => ?_)
      have k := k ls hl
      have e1 : Int32.ofInt ((xor_) a b) = Int32.ofInt a ||| Int32.ofInt b := Int32.ofInt_toInt _
      have k : W p l e R s m args below meth c H locs cells slots Qw (F0 m (pc + 1) ls (.int (Int32.ofInt ((xor_) a b)) :: r.map (xcv ρ))) := k
      rw [e1] at k
      exact lv_ior hx hb hd k
set_option maxHeartbeats 4000000 in
theorem xc_ixor {C : XCal} {d : Nat} (hC : xGood C d) {i : Nat} (hi : i < 317) {Q : Option XV → XM → Prop} {n : Nat} (ih : ∀ (pc : Nat) (loc : XLc) (st : List XV) (mm : XM), XW C i Q n pc loc st mm → xokL loc → xokS st → xokMm mm → xRes d i Q pc loc st mm) {pc : Nat} {loc : XLc} {st : List XV} {mm : XM} {len : Nat} (hd : decode (xc i) pc = .ok (.ixor, len)) (hln : xln (.ixor, len) = true) (hsem : xsem C i Q (XW C i Q n) pc loc st mm (.ixor)) (oL : xokL loc) (oS : xokS st) (oM : xokMm mm) : xRes d i Q pc loc st mm := by
      have ho := xow_lt i
      cases Nat.eq_of_beq_eq_true hln
      have hsem : xbin (xxor) st (fun r => XW C i Q n (pc + 1) loc r mm) := hsem
      obtain ⟨a, b, r, rfl, hk⟩ := xs_bin hsem
      obtain ⟨ob, o2⟩ := xokS_c oS
      obtain ⟨oa, o3⟩ := xokS_c o2
      refine (ih _ _ _ _ hk oL (xokS_p (xok_to _) o3) oM).simple rfl (fun p l e R s m args below meth c Qw H locs cells slots ls ρ hx hb hown hts hl k => ?_)
      have k := k ls hl
      have e1 : Int32.ofInt ((xxor) a b) = Int32.ofInt a ^^^ Int32.ofInt b := Int32.ofInt_toInt _
      have k : W p l e R s m args below meth c H locs cells slots Qw (F0 m (pc + 1) ls (.int (Int32.ofInt ((xxor) a b)) :: r.map (xcv ρ))) := k
      rw [e1] at k
      exact lv_ixor hx hb hd k
set_option maxHeartbeats 4000000 in
theorem xc_ishl {C : XCal} {d : Nat} (hC : xGood C d) {i : Nat} (hi : i < 317) {Q : Option XV → XM → Prop} {n : Nat} (ih : ∀ (pc : Nat) (loc : XLc) (st : List XV) (mm : XM), XW C i Q n pc loc st mm → xokL loc → xokS st → xokMm mm → xRes d i Q pc loc st mm) {pc : Nat} {loc : XLc} {st : List XV} {mm : XM} {len : Nat} (hd : decode (xc i) pc = .ok (.ishl, len)) (hln : xln (.ishl, len) = true) (hsem : xsem C i Q (XW C i Q n) pc loc st mm (.ishl)) (oL : xokL loc) (oS : xokS st) (oM : xokMm mm) : xRes d i Q pc loc st mm := by
      have ho := xow_lt i
      cases Nat.eq_of_beq_eq_true hln
      have hsem : xbin (xshl) st (fun r => XW C i Q n (pc + 1) loc r mm) := hsem
      obtain ⟨a, b, r, rfl, hk⟩ := xs_bin hsem
      obtain ⟨ob, o2⟩ := xokS_c oS
      obtain ⟨oa, o3⟩ := xokS_c o2
      refine (ih _ _ _ _ hk oL (xokS_p (xok_to _) o3) oM).simple rfl (fun p l e R s m args below meth c Qw H locs cells slots ls ρ hx hb hown hts hl k => ?_)
      have k := k ls hl
      have e1 : Int32.ofInt ((xshl) a b) = Int32.ofInt a <<< (Int32.ofInt b &&& 31) := Int32.ofInt_toInt _
      have k : W p l e R s m args below meth c H locs cells slots Qw (F0 m (pc + 1) ls (.int (Int32.ofInt ((xshl) a b)) :: r.map (xcv ρ))) := k
      rw [e1] at k
      exact lv_ishl hx hb hd k
set_option maxHeartbeats 4000000 in
theorem xc_ishr {C : XCal} {d : Nat} (hC : xGood C d) {i : Nat} (hi : i < 317) {Q : Option XV → XM → Prop} {n : Nat} (ih : ∀ (pc : Nat) (loc : XLc) (st : List XV) (mm : XM), XW C i Q n pc loc st mm → xokL loc → xokS st → xokMm mm → xRes d i Q pc loc st mm) {pc : Nat} {loc : XLc} {st : List XV} {mm : XM} {len : Nat} (hd : decode (xc i) pc = .ok (.ishr, len)) (hln : xln (.ishr, len) = true) (hsem : xsem C i Q (XW C i Q n) pc loc st mm (.ishr)) (oL : xokL loc) (oS : xokS st) (oM : xokMm mm) : xRes d i Q pc loc st mm := by
      have ho := xow_lt i
      cases Nat.eq_of_beq_eq_true hln
      have hsem : xbin (xshr) st (fun r => XW C i Q n (pc + 1) loc r mm) := hsem
      obtain ⟨a, b, r, rfl, hk⟩ := xs_bin hsem
      obtain ⟨ob, o2⟩ := xokS_c oS
      obtain ⟨oa, o3⟩ := xokS_c o2
      refine (ih _ _ _ _ hk oL (xokS_p (xok_to _) o3) oM).simple rfl (fun p l e R s m args below meth c Qw H locs cells slots ls ρ hx hb hown hts hl k => ?_)
      have k := k ls hl
      have e1 : Int32.ofInt ((xshr) a b) = Int32.ofInt a >>> (Int32.ofInt b &&& 31) := Int32.ofInt_toInt _
      have k : W p l e R s m args below meth c H locs cells slots Qw (F0 m (pc + 1) ls (.int (Int32.ofInt ((xshr) a b)) :: r.map (xcv ρ))) := k
      rw [e1] at k
      exact lv_ishr hx hb hd k
set_option maxHeartbeats 4000000 in
theorem xc_iushr {C : XCal} {d : Nat} (hC : xGood C d) {i : Nat} (hi : i < 317) {Q : Option XV → XM → Prop} {n : Nat} (ih : ∀ (pc : Nat) (loc : XLc) (st : List XV) (mm : XM), XW C i Q n pc loc st mm → xokL loc → xokS st → xokMm mm → xRes d i Q pc loc st mm) {pc : Nat} {loc : XLc} {st : List XV} {mm : XM} {len : Nat} (hd : decode (xc i) pc = .ok (.iushr, len)) (hln : xln (.iushr, len) = true) (hsem : xsem C i Q (XW C i Q n) pc loc st mm (.iushr)) (oL : xokL loc) (oS : xokS st) (oM : xokMm mm) : xRes d i Q pc loc st mm := by
      have ho := xow_lt i
      cases Nat.eq_of_beq_eq_true hln
      have hsem : xbin (xushr) st (fun r => XW C i Q n (pc + 1) loc r mm) := hsem
      obtain ⟨a, b, r, rfl, hk⟩ := xs_bin hsem
      obtain ⟨ob, o2⟩ := xokS_c oS
      obtain ⟨oa, o3⟩ := xokS_c o2
      refine (ih _ _ _ _ hk oL (xokS_p (xok_to _) o3) oM).simple rfl (fun p l e R s m args below meth c Qw H locs cells slots ls ρ hx hb hown hts hl k => ?_)
      have k := k ls hl
      have e1 : Int32.ofInt ((xushr) a b) = ((Int32.ofInt a).toUInt32 >>> ((Int32.ofInt b).toUInt32 &&& Int32.toUInt32 31)).toInt32 := Int32.ofInt_toInt _
      have k : W p l e R s m args below meth c H locs cells slots Qw (F0 m (pc + 1) ls (.int (Int32.ofInt ((xushr) a b)) :: r.map (xcv ρ))) := k
      rw [e1] at k
      exact lv_iushr hx hb hd rfl k
set_option maxHeartbeats 4000000 in
theorem xc_ineg {C : XCal} {d : Nat} (hC : xGood C d) {i : Nat} (hi : i < 317) {Q : Option XV → XM → Prop} {n : Nat} (ih : ∀ (pc : Nat) (loc : XLc) (st : List XV) (mm : XM), XW C i Q n pc loc st mm → xokL loc → xokS st → xokMm mm → xRes d i Q pc loc st mm) {pc : Nat} {loc : XLc} {st : List XV} {mm : XM} {len : Nat} (hd : decode (xc i) pc = .ok (.ineg, len)) (hln : xln (.ineg, len) = true) (hsem : xsem C i Q (XW C i Q n) pc loc st mm (.ineg)) (oL : xokL loc) (oS : xokS st) (oM : xokMm mm) : xRes d i Q pc loc st mm := by
      have ho := xow_lt i
      cases Nat.eq_of_beq_eq_true hln
      have hsem : xun (fun a => nrm (-a)) st (fun r => XW C i Q n (pc + 1) loc r mm) := hsem
      obtain ⟨a, r, rfl, hk⟩ := xs_un hsem
      obtain ⟨oa, o3⟩ := xokS_c oS
      refine (ih _ _ _ _ hk oL (xokS_p (nrm_ok _) o3) oM).simple rfl (fun p l e R s m args below meth c Qw H locs cells slots ls ρ hx hb hown hts hl k => ?_)
      have k := k ls hl
      have e1 : Int32.ofInt ((fun a => nrm (-a)) a) = -Int32.ofInt a := by rw [← Int32.ofInt_neg]; exact xo_nrm _
      have k : W p l e R s m args below meth c H locs cells slots Qw (F0 m (pc + 1) ls (.int (Int32.ofInt ((fun a => nrm (-a)) a)) :: r.map (xcv ρ))) := k
      rw [e1] at k
      exact lv_ineg hx hb hd k
set_option maxHeartbeats 4000000 in
theorem xc_i2c {C : XCal} {d : Nat} (hC : xGood C d) {i : Nat} (hi : i < 317) {Q : Option XV → XM → Prop} {n : Nat} (ih : ∀ (pc : Nat) (loc : XLc) (st : List XV) (mm : XM), XW C i Q n pc loc st mm → xokL loc → xokS st → xokMm mm → xRes d i Q pc loc st mm) {pc : Nat} {loc : XLc} {st : List XV} {mm : XM} {len : Nat} (hd : decode (xc i) pc = .ok (.i2c, len)) (hln : xln (.i2c, len) = true) (hsem : xsem C i Q (XW C i Q n) pc loc st mm (.i2c)) (oL : xokL loc) (oS : xokS st) (oM : xokMm mm) : xRes d i Q pc loc st mm := by
      have ho := xow_lt i
      cases Nat.eq_of_beq_eq_true hln
      have hsem : xun (xi2c) st (fun r => XW C i Q n (pc + 1) loc r mm) := hsem
      obtain ⟨a, r, rfl, hk⟩ := xs_un hsem
      obtain ⟨oa, o3⟩ := xokS_c oS
      refine (ih _ _ _ _ hk oL (xokS_p (xok_to _) o3) oM).simple rfl (fun p l e R s m args below meth c Qw H locs cells slots ls ρ hx hb hown hts hl k => ?_)
      have k := k ls hl
      have e1 : Int32.ofInt ((xi2c) a) = ((Int32.ofInt a).toUInt32 % 65536).toInt32 := Int32.ofInt_toInt _
      have k : W p l e R s m args below meth c H locs cells slots Qw (F0 m (pc + 1) ls (.int (Int32.ofInt ((xi2c) a)) :: r.map (xcv ρ))) := k
      rw [e1] at k
      exact lv_i2c hx hb hd rfl k
set_option maxHeartbeats 4000000 in
theorem xc_i2b {C : XCal} {d : Nat} (hC : xGood C d) {i : Nat} (hi : i < 317) {Q : Option XV → XM → Prop} {n : Nat} (ih : ∀ (pc : Nat) (loc : XLc) (st : List XV) (mm : XM), XW C i Q n pc loc st mm → xokL loc → xokS st → xokMm mm → xRes d i Q pc loc st mm) {pc : Nat} {loc : XLc} {st : List XV} {mm : XM} {len : Nat} (hd : decode (xc i) pc = .ok (.i2b, len)) (hln : xln (.i2b, len) = true) (hsem : xsem C i Q (XW C i Q n) pc loc st mm (.i2b)) (oL : xokL loc) (oS : xokS st) (oM : xokMm mm) : xRes d i Q pc loc st mm := by
      have ho := xow_lt i
      cases Nat.eq_of_beq_eq_true hln
      have hsem : xun (xi2b) st (fun r => XW C i Q n (pc + 1) loc r mm) := hsem
      obtain ⟨a, r, rfl, hk⟩ := xs_un hsem
      obtain ⟨oa, o3⟩ := xokS_c oS
      refine (ih _ _ _ _ hk oL (xokS_p (xok_to _) o3) oM).simple rfl (fun p l e R s m args below meth c Qw H locs cells slots ls ρ hx hb hown hts hl k => ?_)
      have k := k ls hl
      have e1 : Int32.ofInt ((xi2b) a) = (Int32.ofInt a).toInt8.toInt32 := Int32.ofInt_toInt _
      have k : W p l e R s m args below meth c H locs cells slots Qw (F0 m (pc + 1) ls (.int (Int32.ofInt ((xi2b) a)) :: r.map (xcv ρ))) := k
      rw [e1] at k
      exact lv_i2b hx hb hd rfl k
set_option maxHeartbeats 4000000 in
theorem xc_dup {C : XCal} {d : Nat} (hC : xGood C d) {i : Nat} (hi : i < 317) {Q : Option XV → XM → Prop} {n : Nat} (ih : ∀ (pc : Nat) (loc : XLc) (st : List XV) (mm : XM), XW C i Q n pc loc st mm → xokL loc → xokS st → xokMm mm → xRes d i Q pc loc st mm) {pc : Nat} {loc : XLc} {st : List XV} {mm : XM} {len : Nat} (hd : decode (xc i) pc = .ok (.dup, len)) (hln : xln (.dup, len) = true) (hsem : xsem C i Q (XW C i Q n) pc loc st mm (.dup)) (oL : xokL loc) (oS : xokS st) (oM : xokMm mm) : xRes d i Q pc loc st mm := by
      have ho := xow_lt i
      cases Nat.eq_of_beq_eq_true hln
      have hsem : xdup st (fun r => XW C i Q n (pc + 1) loc r mm) := hsem
      cases st with
      | nil => exact hsem.elim
      | cons a r =>
        obtain ⟨oa, o3⟩ := xokS_c oS
        exact (ih _ _ _ _ hsem oL (xokS_p oa (xokS_p oa o3)) oM).simple rfl (fun p l e R s m args below meth c Qw H locs cells slots ls ρ hx hb hown hts hl k => lv_dup hx hb hd (xcat ρ a) (k ls hl))
set_option maxHeartbeats 4000000 in
theorem xc_dup2 {C : XCal} {d : Nat} (hC : xGood C d) {i : Nat} (hi : i < 317) {Q : Option XV → XM → Prop} {n : Nat} (ih : ∀ (pc : Nat) (loc : XLc) (st : List XV) (mm : XM), XW C i Q n pc loc st mm → xokL loc → xokS st → xokMm mm → xRes d i Q pc loc st mm) {pc : Nat} {loc : XLc} {st : List XV} {mm : XM} {len : Nat} (hd : decode (xc i) pc = .ok (.dup2, len)) (hln : xln (.dup2, len) = true) (hsem : xsem C i Q (XW C i Q n) pc loc st mm (.dup2)) (oL : xokL loc) (oS : xokS st) (oM : xokMm mm) : xRes d i Q pc loc st mm := by
      have ho := xow_lt i
      cases Nat.eq_of_beq_eq_true hln
      have hsem : xdup2 st (fun r => XW C i Q n (pc + 1) loc r mm) := hsem
      cases st with
      | nil => exact hsem.elim
      | cons a st =>
        cases st with
        | nil => exact hsem.elim
        | cons b r =>
          obtain ⟨oa, o2⟩ := xokS_c oS
          obtain ⟨ob, o3⟩ := xokS_c o2
          exact (ih _ _ _ _ hsem oL (xokS_p oa (xokS_p ob (xokS_p oa (xokS_p ob o3)))) oM).simple rfl (fun p l e R s m args below meth c Qw H locs cells slots ls ρ hx hb hown hts hl k => lv_dup2_11 hx hb hd (xcat ρ a) (xcat ρ b) (k ls hl))
set_option maxHeartbeats 4000000 in
theorem xc_pop {C : XCal} {d : Nat} (hC : xGood C d) {i : Nat} (hi : i < 317) {Q : Option XV → XM → Prop} {n : Nat} (ih : ∀ (pc : Nat) (loc : XLc) (st : List XV) (mm : XM), XW C i Q n pc loc st mm → xokL loc → xokS st → xokMm mm → xRes d i Q pc loc st mm) {pc : Nat} {loc : XLc} {st : List XV} {mm : XM} {len : Nat} (hd : decode (xc i) pc = .ok (.pop, len)) (hln : xln (.pop, len) = true) (hsem : xsem C i Q (XW C i Q n) pc loc st mm (.pop)) (oL : xokL loc) (oS : xokS st) (oM : xokMm mm) : xRes d i Q pc loc st mm := by
      have ho := xow_lt i
      cases Nat.eq_of_beq_eq_true hln
      have hsem : xpop st (fun r => XW C i Q n (pc + 1) loc r mm) := hsem
      cases st with
      | nil => exact hsem.elim
      | cons a r => exact (ih _ _ _ _ hsem oL (xokS_c oS).2 oM).simple rfl (fun p l e R s m args below meth c Qw H locs cells slots ls ρ hx hb hown hts hl k => lv_pop hx hb hd (xcat ρ a) (k ls hl))
set_option maxHeartbeats 4000000 in
theorem xc_istore {C : XCal} {d : Nat} (hC : xGood C d) {i : Nat} (hi : i < 317) {Q : Option XV → XM → Prop} {n : Nat} (ih : ∀ (pc : Nat) (loc : XLc) (st : List XV) (mm : XM), XW C i Q n pc loc st mm → xokL loc → xokS st → xokMm mm → xRes d i Q pc loc st mm) {pc : Nat} {loc : XLc} {st : List XV} {mm : XM} {j : Nat} {len : Nat} (hd : decode (xc i) pc = .ok (.istore j, len)) (hln : xln (.istore j, len) = true) (hsem : xsem C i Q (XW C i Q n) pc loc st mm (.istore j)) (oL : xokL loc) (oS : xokS st) (oM : xokMm mm) : xRes d i Q pc loc st mm := by
      have ho := xow_lt i
      cases Nat.eq_of_beq_eq_true hln
      have hsem : xist loc j st (fun l r => XW C i Q n (pc + 2) l r mm) := hsem
      obtain ⟨z, r, rfl, hj, hk⟩ := xs_ist hsem
      obtain ⟨oa, o3⟩ := xokS_c oS
      exact (ih _ _ _ _ hk (xokL_set oL oa) o3 oM).simple (by rw [List.length_set]) (fun p l e R s m args below meth c Qw H locs cells slots ls ρ hx hb hown hts hl k => lv_istore hx hb hd hl.has hj rfl (fun ls2 h2 => k ls2 (xLoc.set (v := .inl z) hj h2)))
set_option maxHeartbeats 4000000 in
theorem xc_istore_n {C : XCal} {d : Nat} (hC : xGood C d) {i : Nat} (hi : i < 317) {Q : Option XV → XM → Prop} {n : Nat} (ih : ∀ (pc : Nat) (loc : XLc) (st : List XV) (mm : XM), XW C i Q n pc loc st mm → xokL loc → xokS st → xokMm mm → xRes d i Q pc loc st mm) {pc : Nat} {loc : XLc} {st : List XV} {mm : XM} {j : Fin 4} {len : Nat} (hd : decode (xc i) pc = .ok (.istore_n j, len)) (hln : xln (.istore_n j, len) = true) (hsem : xsem C i Q (XW C i Q n) pc loc st mm (.istore_n j)) (oL : xokL loc) (oS : xokS st) (oM : xokMm mm) : xRes d i Q pc loc st mm := by
      have ho := xow_lt i
      cases Nat.eq_of_beq_eq_true hln
      have hsem : xist loc j.val st (fun l r => XW C i Q n (pc + 1) l r mm) := hsem
      obtain ⟨z, r, rfl, hj, hk⟩ := xs_ist hsem
      obtain ⟨oa, o3⟩ := xokS_c oS
      exact (ih _ _ _ _ hk (xokL_set oL oa) o3 oM).simple (by rw [List.length_set]) (fun p l e R s m args below meth c Qw H locs cells slots ls ρ hx hb hown hts hl k => lv_istore_n hx hb hd rfl hl.has hj rfl (fun ls2 h2 => k ls2 (xLoc.set (v := .inl z) hj h2)))
set_option maxHeartbeats 4000000 in
theorem xc_astore {C : XCal} {d : Nat} (hC : xGood C d) {i : Nat} (hi : i < 317) {Q : Option XV → XM → Prop} {n : Nat} (ih : ∀ (pc : Nat) (loc : XLc) (st : List XV) (mm : XM), XW C i Q n pc loc st mm → xokL loc → xokS st → xokMm mm → xRes d i Q pc loc st mm) {pc : Nat} {loc : XLc} {st : List XV} {mm : XM} {j : Nat} {len : Nat} (hd : decode (xc i) pc = .ok (.astore j, len)) (hln : xln (.astore j, len) = true) (hsem : xsem C i Q (XW C i Q n) pc loc st mm (.astore j)) (oL : xokL loc) (oS : xokS st) (oM : xokMm mm) : xRes d i Q pc loc st mm := by
      have ho := xow_lt i
      cases Nat.eq_of_beq_eq_true hln
      have hsem : xast loc j st (fun l r => XW C i Q n (pc + 2) l r mm) := hsem
      obtain ⟨z, r, rfl, hj, hk⟩ := xs_ast hsem
      obtain ⟨oa, o3⟩ := xokS_c oS
      refine (ih _ _ _ _ hk (xokL_set oL oa) o3 oM).simple (by rw [List.length_set]) (fun p l e R s m args below meth c Qw H locs cells slots ls ρ hx hb hown hts hl k => ?_)
      cases z with
      | none => exact lv_astoreN hx hb hd hl.has hj rfl (fun ls2 h2 => k ls2 (xLoc.set (v := .inr none) hj h2))
      | some a => exact lv_astore hx hb hd hl.has hj rfl (fun ls2 h2 => k ls2 (xLoc.set (v := .inr (some a)) hj h2))
set_option maxHeartbeats 4000000 in
theorem xc_astore_n {C : XCal} {d : Nat} (hC : xGood C d) {i : Nat} (hi : i < 317) {Q : Option XV → XM → Prop} {n : Nat} (ih : ∀ (pc : Nat) (loc : XLc) (st : List XV) (mm : XM), XW C i Q n pc loc st mm → xokL loc → xokS st → xokMm mm → xRes d i Q pc loc st mm) {pc : Nat} {loc : XLc} {st : List XV} {mm : XM} {j : Fin 4} {len : Nat} (hd : decode (xc i) pc = .ok (.astore_n j, len)) (hln : xln (.astore_n j, len) = true) (hsem : xsem C i Q (XW C i Q n) pc loc st mm (.astore_n j)) (oL : xokL loc) (oS : xokS st) (oM : xokMm mm) : xRes d i Q pc loc st mm := by
      have ho := xow_lt i
      cases Nat.eq_of_beq_eq_true hln
      have hsem : xast loc j.val st (fun l r => XW C i Q n (pc + 1) l r mm) := hsem
      obtain ⟨z, r, rfl, hj, hk⟩ := xs_ast hsem
      obtain ⟨oa, o3⟩ := xokS_c oS
      refine (ih _ _ _ _ hk (xokL_set oL oa) o3 oM).simple (by rw [List.length_set]) (fun p l e R s m args below meth c Qw H locs cells slots ls ρ hx hb hown hts hl k => ?_)
      cases z with
      | none => exact lv_astore_nN hx hb hd rfl hl.has hj rfl (fun ls2 h2 => k ls2 (xLoc.set (v := .inr none) hj h2))
      | some a => exact lv_astore_n hx hb hd rfl hl.has hj rfl (fun ls2 h2 => k ls2 (xLoc.set (v := .inr (some a)) hj h2))
set_option maxHeartbeats 4000000 in
theorem xc_iinc {C : XCal} {d : Nat} (hC : xGood C d) {i : Nat} (hi : i < 317) {Q : Option XV → XM → Prop} {n : Nat} (ih : ∀ (pc : Nat) (loc : XLc) (st : List XV) (mm : XM), XW C i Q n pc loc st mm → xokL loc → xokS st → xokMm mm → xRes d i Q pc loc st mm) {pc : Nat} {loc : XLc} {st : List XV} {mm : XM} {j : Nat} {z : Int} {len : Nat} (hd : decode (xc i) pc = .ok (.iinc j z, len)) (hln : xln (.iinc j z, len) = true) (hsem : xsem C i Q (XW C i Q n) pc loc st mm (.iinc j z)) (oL : xokL loc) (oS : xokS st) (oM : xokMm mm) : xRes d i Q pc loc st mm := by
      have ho := xow_lt i
      cases Nat.eq_of_beq_eq_true hln
      obtain ⟨x, hx0, hk⟩ := hsem
      have hj : j < loc.length := (List.getElem?_eq_some_iff.mp hx0).1
      refine (ih _ _ _ _ hk (xokL_set oL (nrm_ok _)) oS oM).simple (by rw [List.length_set]) (fun p l e R s m args below meth c Qw H locs cells slots ls ρ hx hb hown hts hl k => ?_)
      obtain ⟨kq, hkq⟩ := List.getElem?_of_mem (xlv_mem.mpr (show ∃ v, loc[((j, Value.int (Int32.ofInt x)) : Nat × Value).1]? = some (some v) ∧ ((j, Value.int (Int32.ofInt x)) : Nat × Value).2 = xcv ρ v from ⟨.inl x, hx0, rfl⟩))
      exact lv_iinc (v := Int32.ofInt (nrm (x + z))) hx hb hd hl.has hkq (by rw [xo_nrm, Int32.ofInt_add]) hj rfl (fun ls2 h2 => k ls2 (xLoc.set (v := .inl (nrm (x + z))) hj h2))
set_option maxHeartbeats 4000000 in
theorem xc_goto {C : XCal} {d : Nat} (hC : xGood C d) {i : Nat} (hi : i < 317) {Q : Option XV → XM → Prop} {n : Nat} (ih : ∀ (pc : Nat) (loc : XLc) (st : List XV) (mm : XM), XW C i Q n pc loc st mm → xokL loc → xokS st → xokMm mm → xRes d i Q pc loc st mm) {pc : Nat} {loc : XLc} {st : List XV} {mm : XM} {off : Int} {len : Nat} (hd : decode (xc i) pc = .ok (.goto off, len)) (hln : xln (.goto off, len) = true) (hsem : xsem C i Q (XW C i Q n) pc loc st mm (.goto off)) (oL : xokL loc) (oS : xokS st) (oM : xokMm mm) : xRes d i Q pc loc st mm := by
      have ho := xow_lt i
      cases Nat.eq_of_beq_eq_true hln
      obtain ⟨tgt, ht, hk⟩ := hsem
      exact (ih _ _ _ _ hk oL oS oM).simple rfl (fun p l e R s m args below meth c Qw H locs cells slots ls ρ hx hb hown hts hl k => lv_goto hx hb hd ht (k ls hl))
set_option maxHeartbeats 4000000 in
theorem xc_ifCond {C : XCal} {d : Nat} (hC : xGood C d) {i : Nat} (hi : i < 317) {Q : Option XV → XM → Prop} {n : Nat} (ih : ∀ (pc : Nat) (loc : XLc) (st : List XV) (mm : XM), XW C i Q n pc loc st mm → xokL loc → xokS st → xokMm mm → xRes d i Q pc loc st mm) {pc : Nat} {loc : XLc} {st : List XV} {mm : XM} {cq : ClassFile.Cond} {off : Int} {len : Nat} (hd : decode (xc i) pc = .ok (.ifCond cq off, len)) (hln : xln (.ifCond cq off, len) = true) (hsem : xsem C i Q (XW C i Q n) pc loc st mm (.ifCond cq off)) (oL : xokL loc) (oS : xokS st) (oM : xokMm mm) : xRes d i Q pc loc st mm := by
      have ho := xow_lt i
      cases Nat.eq_of_beq_eq_true hln
      have hsem : xif cq pc off st (fun q r => XW C i Q n q loc r mm) := hsem
      cases st with
      | nil => exact hsem.elim
      | cons v r =>
      cases v with
      | inr _ => exact hsem.elim
      | inl a =>
      obtain ⟨tgt, ht, h1, h2⟩ := hsem
      obtain ⟨oa, o3⟩ := xokS_c oS
      have z0 := xo_0
      cases cq
      case eq =>
        have z := xo_eq oa xok_0
        rw [xo_0] at z
        by_cases hc : a = 0
        · exact (ih _ _ _ _ (h1 hc) oL o3 oM).simple rfl (fun p l e R s m args below meth c Qw H locs cells slots ls ρ hx hb hown hts hl k => lv_if_eq hx hb hd ht (fun _ => k ls hl) (fun q => absurd (z.mpr hc) q))
        · exact (ih _ _ _ _ (h2 hc) oL o3 oM).simple rfl (fun p l e R s m args below meth c Qw H locs cells slots ls ρ hx hb hown hts hl k => lv_if_eq hx hb hd ht (fun q => absurd (z.mp q) hc) (fun _ => k ls hl))
      case ne =>
        have z := xo_eq oa xok_0
        rw [xo_0] at z
        by_cases hc : a = 0
        · exact (ih _ _ _ _ (h2 (fun q => q hc)) oL o3 oM).simple rfl (fun p l e R s m args below meth c Qw H locs cells slots ls ρ hx hb hown hts hl k => lv_if_ne hx hb hd ht (fun q => absurd (z.mpr hc) q) (fun _ => k ls hl))
        · exact (ih _ _ _ _ (h1 hc) oL o3 oM).simple rfl (fun p l e R s m args below meth c Qw H locs cells slots ls ρ hx hb hown hts hl k => lv_if_ne hx hb hd ht (fun _ => k ls hl) (fun q => absurd (z.mp q) hc))
      case lt =>
        have z := xo_lt oa xok_0
        rw [xo_0] at z
        by_cases hc : a < 0
        · exact (ih _ _ _ _ (h1 hc) oL o3 oM).simple rfl (fun p l e R s m args below meth c Qw H locs cells slots ls ρ hx hb hown hts hl k => lv_if_lt hx hb hd ht (fun _ => k ls hl) (fun q => absurd (z.mpr hc) q))
        · exact (ih _ _ _ _ (h2 hc) oL o3 oM).simple rfl (fun p l e R s m args below meth c Qw H locs cells slots ls ρ hx hb hown hts hl k => lv_if_lt hx hb hd ht (fun q => absurd (z.mp q) hc) (fun _ => k ls hl))
      case ge =>
        have z := xo_le xok_0 oa
        rw [xo_0] at z
        by_cases hc : 0 ≤ a
        · exact (ih _ _ _ _ (h1 hc) oL o3 oM).simple rfl (fun p l e R s m args below meth c Qw H locs cells slots ls ρ hx hb hown hts hl k => lv_if_ge hx hb hd ht (fun _ => k ls hl) (fun q => absurd (z.mpr hc) q))
        · exact (ih _ _ _ _ (h2 hc) oL o3 oM).simple rfl (fun p l e R s m args below meth c Qw H locs cells slots ls ρ hx hb hown hts hl k => lv_if_ge hx hb hd ht (fun q => absurd (z.mp q) hc) (fun _ => k ls hl))
      case gt =>
        have z := xo_lt xok_0 oa
        rw [xo_0] at z
        by_cases hc : 0 < a
        · exact (ih _ _ _ _ (h1 hc) oL o3 oM).simple rfl (fun p l e R s m args below meth c Qw H locs cells slots ls ρ hx hb hown hts hl k => lv_if_gt hx hb hd ht (fun _ => k ls hl) (fun q => absurd (z.mpr hc) q))
        · exact (ih _ _ _ _ (h2 hc) oL o3 oM).simple rfl (fun p l e R s m args below meth c Qw H locs cells slots ls ρ hx hb hown hts hl k => lv_if_gt hx hb hd ht (fun q => absurd (z.mp q) hc) (fun _ => k ls hl))
      case le =>
        have z := xo_le oa xok_0
        rw [xo_0] at z
        by_cases hc : a ≤ 0
        · exact (ih _ _ _ _ (h1 hc) oL o3 oM).simple rfl (fun p l e R s m args below meth c Qw H locs cells slots ls ρ hx hb hown hts hl k => lv_if_le hx hb hd ht (fun _ => k ls hl) (fun q => absurd (z.mpr hc) q))
        · exact (ih _ _ _ _ (h2 hc) oL o3 oM).simple rfl (fun p l e R s m args below meth c Qw H locs cells slots ls ρ hx hb hown hts hl k => lv_if_le hx hb hd ht (fun q => absurd (z.mp q) hc) (fun _ => k ls hl))
set_option maxHeartbeats 4000000 in
theorem xc_if_icmp {C : XCal} {d : Nat} (hC : xGood C d) {i : Nat} (hi : i < 317) {Q : Option XV → XM → Prop} {n : Nat} (ih : ∀ (pc : Nat) (loc : XLc) (st : List XV) (mm : XM), XW C i Q n pc loc st mm → xokL loc → xokS st → xokMm mm → xRes d i Q pc loc st mm) {pc : Nat} {loc : XLc} {st : List XV} {mm : XM} {cq : ClassFile.Cond} {off : Int} {len : Nat} (hd : decode (xc i) pc = .ok (.if_icmp cq off, len)) (hln : xln (.if_icmp cq off, len) = true) (hsem : xsem C i Q (XW C i Q n) pc loc st mm (.if_icmp cq off)) (oL : xokL loc) (oS : xokS st) (oM : xokMm mm) : xRes d i Q pc loc st mm := by
      have ho := xow_lt i
      cases Nat.eq_of_beq_eq_true hln
      have hsem : xic cq pc off st (fun q r => XW C i Q n q loc r mm) := hsem
      cases st with
      | nil => exact hsem.elim
      | cons v st =>
      cases v with
      | inr _ => exact hsem.elim
      | inl b =>
      cases st with
      | nil => exact hsem.elim
      | cons v r =>
      cases v with
      | inr _ => exact hsem.elim
      | inl a =>
      obtain ⟨tgt, ht, h1, h2⟩ := hsem
      obtain ⟨ob, o2⟩ := xokS_c oS
      obtain ⟨oa, o3⟩ := xokS_c o2
      cases cq
      case eq =>
        have z := xo_eq oa ob
        by_cases hc : a = b
        · exact (ih _ _ _ _ (h1 hc) oL o3 oM).simple rfl (fun p l e R s m args below meth c Qw H locs cells slots ls ρ hx hb hown hts hl k => lv_icmp_eq hx hb hd ht (fun _ => k ls hl) (fun q => absurd (z.mpr hc) q))
        · exact (ih _ _ _ _ (h2 hc) oL o3 oM).simple rfl (fun p l e R s m args below meth c Qw H locs cells slots ls ρ hx hb hown hts hl k => lv_icmp_eq hx hb hd ht (fun q => absurd (z.mp q) hc) (fun _ => k ls hl))
      case ne =>
        have z := xo_eq oa ob
        by_cases hc : a = b
        · exact (ih _ _ _ _ (h2 (fun q => q hc)) oL o3 oM).simple rfl (fun p l e R s m args below meth c Qw H locs cells slots ls ρ hx hb hown hts hl k => lv_icmp_ne hx hb hd ht (fun q => absurd (z.mpr hc) q) (fun _ => k ls hl))
        · exact (ih _ _ _ _ (h1 hc) oL o3 oM).simple rfl (fun p l e R s m args below meth c Qw H locs cells slots ls ρ hx hb hown hts hl k => lv_icmp_ne hx hb hd ht (fun _ => k ls hl) (fun q => absurd (z.mp q) hc))
      case lt =>
        have z := xo_lt oa ob
        by_cases hc : a < b
        · exact (ih _ _ _ _ (h1 hc) oL o3 oM).simple rfl (fun p l e R s m args below meth c Qw H locs cells slots ls ρ hx hb hown hts hl k => lv_icmp_lt hx hb hd ht (fun _ => k ls hl) (fun q => absurd (z.mpr hc) q))
        · exact (ih _ _ _ _ (h2 hc) oL o3 oM).simple rfl (fun p l e R s m args below meth c Qw H locs cells slots ls ρ hx hb hown hts hl k => lv_icmp_lt hx hb hd ht (fun q => absurd (z.mp q) hc) (fun _ => k ls hl))
      case ge =>
        have z := xo_le ob oa
        by_cases hc : b ≤ a
        · exact (ih _ _ _ _ (h1 hc) oL o3 oM).simple rfl (fun p l e R s m args below meth c Qw H locs cells slots ls ρ hx hb hown hts hl k => lv_icmp_ge hx hb hd ht (fun _ => k ls hl) (fun q => absurd (z.mpr hc) q))
        · exact (ih _ _ _ _ (h2 hc) oL o3 oM).simple rfl (fun p l e R s m args below meth c Qw H locs cells slots ls ρ hx hb hown hts hl k => lv_icmp_ge hx hb hd ht (fun q => absurd (z.mp q) hc) (fun _ => k ls hl))
      case gt =>
        have z := xo_lt ob oa
        by_cases hc : b < a
        · exact (ih _ _ _ _ (h1 hc) oL o3 oM).simple rfl (fun p l e R s m args below meth c Qw H locs cells slots ls ρ hx hb hown hts hl k => lv_icmp_gt hx hb hd ht (fun _ => k ls hl) (fun q => absurd (z.mpr hc) q))
        · exact (ih _ _ _ _ (h2 hc) oL o3 oM).simple rfl (fun p l e R s m args below meth c Qw H locs cells slots ls ρ hx hb hown hts hl k => lv_icmp_gt hx hb hd ht (fun q => absurd (z.mp q) hc) (fun _ => k ls hl))
      case le =>
        have z := xo_le oa ob
        by_cases hc : a ≤ b
        · exact (ih _ _ _ _ (h1 hc) oL o3 oM).simple rfl (fun p l e R s m args below meth c Qw H locs cells slots ls ρ hx hb hown hts hl k => lv_icmp_le hx hb hd ht (fun _ => k ls hl) (fun q => absurd (z.mpr hc) q))
        · exact (ih _ _ _ _ (h2 hc) oL o3 oM).simple rfl (fun p l e R s m args below meth c Qw H locs cells slots ls ρ hx hb hown hts hl k => lv_icmp_le hx hb hd ht (fun q => absurd (z.mp q) hc) (fun _ => k ls hl))
set_option maxHeartbeats 4000000 in
theorem xc_ifnull {C : XCal} {d : Nat} (hC : xGood C d) {i : Nat} (hi : i < 317) {Q : Option XV → XM → Prop} {n : Nat} (ih : ∀ (pc : Nat) (loc : XLc) (st : List XV) (mm : XM), XW C i Q n pc loc st mm → xokL loc → xokS st → xokMm mm → xRes d i Q pc loc st mm) {pc : Nat} {loc : XLc} {st : List XV} {mm : XM} {off : Int} {len : Nat} (hd : decode (xc i) pc = .ok (.ifnull off, len)) (hln : xln (.ifnull off, len) = true) (hsem : xsem C i Q (XW C i Q n) pc loc st mm (.ifnull off)) (oL : xokL loc) (oS : xokS st) (oM : xokMm mm) : xRes d i Q pc loc st mm := by
      have ho := xow_lt i
      cases Nat.eq_of_beq_eq_true hln
      have hsem : xifn pc off st (fun q r => XW C i Q n q loc r mm) := hsem
      cases st with
      | nil => exact hsem.elim
      | cons v r =>
      cases v with
      | inl _ => exact hsem.elim
      | inr o =>
      cases o with
      | none =>
        obtain ⟨tgt, ht, hk⟩ := hsem
        exact (ih _ _ _ _ hk oL (xokS_c oS).2 oM).simple rfl (fun p l e R s m args below meth c Qw H locs cells slots ls ρ hx hb hown hts hl k => lv_ifnullN hx hb hd ht (k ls hl))
      | some a => exact (ih _ _ _ _ hsem oL (xokS_c oS).2 oM).simple rfl (fun p l e R s m args below meth c Qw H locs cells slots ls ρ hx hb hown hts hl k => lv_ifnull hx hb hd (k ls hl))
set_option maxHeartbeats 4000000 in
theorem xc_tableswitch {C : XCal} {d : Nat} (hC : xGood C d) {i : Nat} (hi : i < 317) {Q : Option XV → XM → Prop} {n : Nat} (ih : ∀ (pc : Nat) (loc : XLc) (st : List XV) (mm : XM), XW C i Q n pc loc st mm → xokL loc → xokS st → xokMm mm → xRes d i Q pc loc st mm) {pc : Nat} {loc : XLc} {st : List XV} {mm : XM} {df : Int} {lo : Int} {hi : Int} {offs : Array Int} {len : Nat} (hd : decode (xc i) pc = .ok (.tableswitch df lo hi offs, len)) (hln : xln (.tableswitch df lo hi offs, len) = true) (hsem : xsem C i Q (XW C i Q n) pc loc st mm (.tableswitch df lo hi offs)) (oL : xokL loc) (oS : xokS st) (oM : xokMm mm) : xRes d i Q pc loc st mm := by
      have ho := xow_lt i
      have hsem : xsw pc df lo hi offs st (fun q r => XW C i Q n q loc r mm) := hsem
      cases st with
      | nil => exact hsem.elim
      | cons v r =>
      cases v with
      | inr _ => exact hsem.elim
      | inl a =>
      obtain ⟨tgt, h1, h2, hk⟩ := hsem
      obtain ⟨oa, o3⟩ := xokS_c oS
      have e1 : (Int32.ofInt a).toInt = a := xo_to oa
      refine (ih _ _ _ _ hk oL o3 oM).simple rfl (fun p l e R s m args below meth c Qw H locs cells slots ls ρ hx hb hown hts hl k => ?_)
      by_cases hc : a < lo ∨ hi < a
      · exact lv_tableOut hx hb hd (by rw [e1]; exact hc) (h1 hc) (k ls hl)
      · obtain ⟨off, g1, g2⟩ := h2 (fun q => hc (Or.inl q)) (fun q => hc (Or.inr q))
        exact lv_tableIn hx hb hd (by rw [e1]; exact fun q => hc (Or.inl q)) (by rw [e1]; exact fun q => hc (Or.inr q)) (by rw [e1]; exact g1) g2 (k ls hl)
set_option maxHeartbeats 4000000 in
theorem xc_ldc {C : XCal} {d : Nat} (hC : xGood C d) {i : Nat} (hi : i < 317) {Q : Option XV → XM → Prop} {n : Nat} (ih : ∀ (pc : Nat) (loc : XLc) (st : List XV) (mm : XM), XW C i Q n pc loc st mm → xokL loc → xokS st → xokMm mm → xRes d i Q pc loc st mm) {pc : Nat} {loc : XLc} {st : List XV} {mm : XM} {idx : Nat} {len : Nat} (hd : decode (xc i) pc = .ok (.ldc idx, len)) (hln : xln (.ldc idx, len) = true) (hsem : xsem C i Q (XW C i Q n) pc loc st mm (.ldc idx)) (oL : xokL loc) (oS : xokS st) (oM : xokMm mm) : xRes d i Q pc loc st mm := by
      have ho := xow_lt i
      cases Nat.eq_of_beq_eq_true hln
      rcases hsem with ⟨q, hq, hk⟩ | ⟨q, hq, hk⟩
      · obtain ⟨k1, k2⟩ := xk_ok ho hq
        exact xr_push (v := .inl q.1) (fun p l e R s m args below meth c Qw H locs cells slots ls rest ρ hx hb hown hts hl k => lv_ldc hx hb hown (hts _ k2) hd k) (ih _ _ _ _ hk oL (xokS_p k1 oS) oM)
      · obtain ⟨k1, k2, k3⟩ := xs_ok ho hq
        obtain ⟨r', m', h1, h2, h3, h4, sim⟩ := ih _ _ _ _ hk oL (xokS_p trivial oS) oM
        refine ⟨r', m', h1, h2, h3, h4, ?_⟩
        intro p l e R s m args below meth c Qw D cA cB base ext L xs m0 cx H locs ls cells slots hR hS hL hlen hcl hsl
        have sim := sim p l e R s m args below meth c Qw D cA cB base ext L xs m0 cx H locs ls cells slots hR hS hL hlen hcl hsl
        obtain ⟨⟨hx, hb, hml, hown, hts⟩, hini, hroom, ⟨hK, hE, h50, hz0⟩, hret⟩ := cx
        rw [k1] at hown
        rcases k2 with k2 | k2
        · rw [k2] at k3 sim
          have k3 : 89 = idx := k3
          subst k3
          exact va_ldcS hx hb hown hE.2.2.2.2.2.2.1 hd sim
        · rw [k2] at k3 sim
          have k3 : 60 = idx := k3
          subst k3
          exact va_ldcS hx hb hown hE.2.2.2.2.2.2.2.1 hd sim
set_option maxHeartbeats 4000000 in
theorem xc_getfield {C : XCal} {d : Nat} (hC : xGood C d) {i : Nat} (hi : i < 317) {Q : Option XV → XM → Prop} {n : Nat} (ih : ∀ (pc : Nat) (loc : XLc) (st : List XV) (mm : XM), XW C i Q n pc loc st mm → xokL loc → xokS st → xokMm mm → xRes d i Q pc loc st mm) {pc : Nat} {loc : XLc} {st : List XV} {mm : XM} {idx : Nat} {len : Nat} (hd : decode (xc i) pc = .ok (.getfield idx, len)) (hln : xln (.getfield idx, len) = true) (hsem : xsem C i Q (XW C i Q n) pc loc st mm (.getfield idx)) (oL : xokL loc) (oS : xokS st) (oM : xokMm mm) : xRes d i Q pc loc st mm := by
      have ho := xow_lt i
      cases Nat.eq_of_beq_eq_true hln
      have hsem : xgf i idx st mm (fun r => XW C i Q n (pc + 3) loc r mm) := hsem
      cases st with
      | nil => exact hsem.elim
      | cons v st =>
      cases v with
      | inl _ => exact hsem.elim
      | inr v =>
      cases v with
      | none => exact hsem.elim
      | some a =>
      obtain ⟨q, N, hl, hs, hk, hkk⟩ := hsem
      have okv : xokV (bif Nat.beq (xft q.1 q.2.1) 2 then .inr (mm.2.1 a q.2.1) else .inl (mm.2.2 a q.2.1)) := by
        cases Nat.beq (xft q.1 q.2.1) 2
        · exact oM _ _
        · trivial
      obtain ⟨r', m', h1, h2, h3, h4, sim⟩ := ih _ _ _ _ hkk oL (xokS_p okv (xokS_c oS).2) oM
      refine ⟨r', m', h1, h2, h3, h4, ?_⟩
      intro p l e R s m args below meth c Qw D cA cB base ext L xs m0 cx H locs ls cells slots hR hS hL hlen hcl hsl
      have sim := sim p l e R s m args below meth c Qw D cA cB base ext L xs m0 cx
      obtain ⟨⟨hx, hb, hml, hown, hts⟩, hini, ⟨hf1, hf2, hf3, hf4⟩, ⟨hK, hE, h50, hz0⟩, hret⟩ := cx
      have sim := sim H locs ls cells slots hR hS hL hlen hcl hsl
      by_cases hq : q.1 < 13
      · exact xr_get hx hb hts ho hown hK hR hl hq hs hk hd sim
      · exact xr_sget hx hb hts ho hown hE hR hS hl hq hs hk hd sim
set_option maxHeartbeats 4000000 in
theorem xc_putfield {C : XCal} {d : Nat} (hC : xGood C d) {i : Nat} (hi : i < 317) {Q : Option XV → XM → Prop} {n : Nat} (ih : ∀ (pc : Nat) (loc : XLc) (st : List XV) (mm : XM), XW C i Q n pc loc st mm → xokL loc → xokS st → xokMm mm → xRes d i Q pc loc st mm) {pc : Nat} {loc : XLc} {st : List XV} {mm : XM} {idx : Nat} {len : Nat} (hd : decode (xc i) pc = .ok (.putfield idx, len)) (hln : xln (.putfield idx, len) = true) (hsem : xsem C i Q (XW C i Q n) pc loc st mm (.putfield idx)) (oL : xokL loc) (oS : xokS st) (oM : xokMm mm) : xRes d i Q pc loc st mm := by
      have ho := xow_lt i
      cases Nat.eq_of_beq_eq_true hln
      have hsem : xpf i idx st mm (fun r m2 => XW C i Q n (pc + 3) loc r m2) := hsem
      cases st with
      | nil => exact hsem.elim
      | cons v st =>
      cases st with
      | nil => cases v <;> exact hsem.elim
      | cons w r =>
      cases w with
      | inl _ => cases v <;> exact hsem.elim
      | inr w =>
      cases w with
      | none => cases v <;> exact hsem.elim
      | some a =>
      obtain ⟨ov, o3⟩ := xokS_c oS
      cases v with
      | inl z =>
        obtain ⟨q, N, hl, hs, hk, hq, hf, hty, hkk⟩ := hsem
        obtain ⟨r', m', h1, h2, h3, h4, sim⟩ := ih _ _ _ _ hkk oL (xokS_c o3).2 (fun b k => by show xok (if _ then _ else _); split; exact ov; exact oM _ _)
        refine ⟨r', m', h1, h2, h3, h4, ?_⟩
        intro p l e R s m args below meth c Qw D cA cB base ext L xs m0 cx H locs ls cells slots hR hS hL hlen hcl hsl
        have sim := sim p l e R s m args below meth c Qw D cA cB base ext L xs m0 cx
        obtain ⟨⟨hx, hb, hml, hown, hts⟩, hini, ⟨hf1, hf2, hf3, hf4⟩, ⟨hK, hE, h50, hz0⟩, hret⟩ := cx
        refine xput (v := .inl z) (m2 := (mm.1, mm.2.1, xui mm.2.2 a q.2.1 z)) hx hb hts ho hown hK hR hS hl hq hs hk (fun h => ⟨(hf h).1, hini (hf h).2⟩) (fun ty ht => xfits_int (by rw [ht]; exact hty)) rfl (fun b hb j => ⟨rfl, if_neg (fun z => hb z.1)⟩) (fun j hj => ⟨rfl, if_neg (fun z => hj z.2)⟩) ?_ hd (fun H1 locs1 hR1 hS1 => sim H1 locs1 ls cells slots hR1 hS1 hL hlen hcl hsl)
        have e0 : Nat.beq (xft q.1 q.2.1) 2 = false := by
          rcases hty with h | ⟨h, -⟩ <;> rw [h] <;> rfl
        rw [e0]
        show Sum.inl (if a = a ∧ q.2.1 = q.2.1 then z else _) = Sum.inl z
        rw [if_pos ⟨rfl, rfl⟩]
      | inr w =>
        obtain ⟨q, N, hl, hs, hk, hq, hf, hty, hkk⟩ := hsem
        obtain ⟨r', m', h1, h2, h3, h4, sim⟩ := ih _ _ _ _ hkk oL (xokS_c o3).2 oM
        refine ⟨r', m', h1, h2, h3, h4, ?_⟩
        intro p l e R s m args below meth c Qw D cA cB base ext L xs m0 cx H locs ls cells slots hR hS hL hlen hcl hsl
        have sim := sim p l e R s m args below meth c Qw D cA cB base ext L xs m0 cx
        obtain ⟨⟨hx, hb, hml, hown, hts⟩, hini, ⟨hf1, hf2, hf3, hf4⟩, ⟨hK, hE, h50, hz0⟩, hret⟩ := cx
        refine xput (v := .inr w) (m2 := (mm.1, xur mm.2.1 a q.2.1 w, mm.2.2)) hx hb hts ho hown hK hR hS hl hq hs hk (fun h => ⟨(hf h).1, hini (hf h).2⟩) (fun ty ht => xfits_ref (by rw [ht]; exact hty)) rfl (fun b hb j => ⟨if_neg (fun z => hb z.1), rfl⟩) (fun j hj => ⟨if_neg (fun z => hj z.2), rfl⟩) ?_ hd (fun H1 locs1 hR1 hS1 => sim H1 locs1 ls cells slots hR1 hS1 hL hlen hcl hsl)
        have e0 : Nat.beq (xft q.1 q.2.1) 2 = true := by rw [hty]; rfl
        rw [e0]
        show Sum.inr (if a = a ∧ q.2.1 = q.2.1 then w else _) = Sum.inr w
        rw [if_pos ⟨rfl, rfl⟩]
set_option maxHeartbeats 4000000 in
theorem xc_getstatic {C : XCal} {d : Nat} (hC : xGood C d) {i : Nat} (hi : i < 317) {Q : Option XV → XM → Prop} {n : Nat} (ih : ∀ (pc : Nat) (loc : XLc) (st : List XV) (mm : XM), XW C i Q n pc loc st mm → xokL loc → xokS st → xokMm mm → xRes d i Q pc loc st mm) {pc : Nat} {loc : XLc} {st : List XV} {mm : XM} {idx : Nat} {len : Nat} (hd : decode (xc i) pc = .ok (.getstatic idx, len)) (hln : xln (.getstatic idx, len) = true) (hsem : xsem C i Q (XW C i Q n) pc loc st mm (.getstatic idx)) (oL : xokL loc) (oS : xokS st) (oM : xokMm mm) : xRes d i Q pc loc st mm := by
      have ho := xow_lt i
      cases Nat.eq_of_beq_eq_true hln
      obtain ⟨hw, rfl, hkk⟩ := hsem
      obtain ⟨r', m', h1, h2, h3, h4, sim⟩ := ih _ _ _ _ hkk oL (xokS_p ⟨by omega, by omega⟩ oS) oM
      refine ⟨r', m', h1, h2, h3, h4, ?_⟩
      intro p l e R s m args below meth c Qw D cA cB base ext L xs m0 cx H locs ls cells slots hR hS hL hlen hcl hsl
      have sim := sim p l e R s m args below meth c Qw D cA cB base ext L xs m0 cx
      obtain ⟨⟨hx, hb, hml, hown, hts⟩, hini, ⟨hf1, hf2, hf3, hf4⟩, ⟨hK, hE, h50, hz0⟩, hret⟩ := cx
      have sim := sim H locs ls cells slots hR hS hL hlen hcl hsl
      rw [hw] at hown
      exact va_gets hx hb hE.2.2.2.2.1 hS hown (hts _ xw_cs) (fun _ h => h) hd sim
set_option maxHeartbeats 4000000 in
theorem xc_iaload {C : XCal} {d : Nat} (hC : xGood C d) {i : Nat} (hi : i < 317) {Q : Option XV → XM → Prop} {n : Nat} (ih : ∀ (pc : Nat) (loc : XLc) (st : List XV) (mm : XM), XW C i Q n pc loc st mm → xokL loc → xokS st → xokMm mm → xRes d i Q pc loc st mm) {pc : Nat} {loc : XLc} {st : List XV} {mm : XM} {len : Nat} (hd : decode (xc i) pc = .ok (.iaload, len)) (hln : xln (.iaload, len) = true) (hsem : xsem C i Q (XW C i Q n) pc loc st mm (.iaload)) (oL : xokL loc) (oS : xokS st) (oM : xokMm mm) : xRes d i Q pc loc st mm := by
      have ho := xow_lt i
      cases Nat.eq_of_beq_eq_true hln
      have hsem : xial st mm (fun r => XW C i Q n (pc + 1) loc r mm) := hsem
      cases st with
      | nil => exact hsem.elim
      | cons v st =>
      cases v with
      | inr _ => exact hsem.elim
      | inl j =>
      cases st with
      | nil => exact hsem.elim
      | cons v st =>
      cases v with
      | inl _ => exact hsem.elim
      | inr v =>
      cases v with
      | none => exact hsem.elim
      | some a =>
      obtain ⟨nn, hs, h0, hj, hkk⟩ := hsem
      obtain ⟨oj, o2⟩ := xokS_c oS
      obtain ⟨r', m', h1, h2, h3, h4, sim⟩ := ih _ _ _ _ hkk oL (xokS_p (oM _ _) (xokS_c o2).2) oM
      refine ⟨r', m', h1, h2, h3, h4, ?_⟩
      intro p l e R s m args below meth c Qw D cA cB base ext L xs m0 cx H locs ls cells slots hR hS hL hlen hcl hsl
      have sim := sim p l e R s m args below meth c Qw D cA cB base ext L xs m0 cx
      obtain ⟨⟨hx, hb, hml, hown, hts⟩, hini, ⟨hf1, hf2, hf3, hf4⟩, ⟨hK, hE, h50, hz0⟩, hret⟩ := cx
      have sim := sim H locs ls cells slots hR hS hL hlen hcl hsl
      rcases hs with hs | hs
      · exact xr_ial hx hb hK hR hs h0 hj oj hd sim
      · exact xr_scr hx hb hE hR hS hs h0 hj oj hd sim
set_option maxHeartbeats 4000000 in
theorem xc_baload {C : XCal} {d : Nat} (hC : xGood C d) {i : Nat} (hi : i < 317) {Q : Option XV → XM → Prop} {n : Nat} (ih : ∀ (pc : Nat) (loc : XLc) (st : List XV) (mm : XM), XW C i Q n pc loc st mm → xokL loc → xokS st → xokMm mm → xRes d i Q pc loc st mm) {pc : Nat} {loc : XLc} {st : List XV} {mm : XM} {len : Nat} (hd : decode (xc i) pc = .ok (.baload, len)) (hln : xln (.baload, len) = true) (hsem : xsem C i Q (XW C i Q n) pc loc st mm (.baload)) (oL : xokL loc) (oS : xokS st) (oM : xokMm mm) : xRes d i Q pc loc st mm := by
      have ho := xow_lt i
      cases Nat.eq_of_beq_eq_true hln
      have hsem : xbal st mm (fun r => XW C i Q n (pc + 1) loc r mm) := hsem
      cases st with
      | nil => exact hsem.elim
      | cons v st =>
      cases v with
      | inr _ => exact hsem.elim
      | inl j =>
      cases st with
      | nil => exact hsem.elim
      | cons v st =>
      cases v with
      | inl _ => exact hsem.elim
      | inr v =>
      cases v with
      | none => exact hsem.elim
      | some a =>
      obtain ⟨nn, hs, h0, hj, hkk⟩ := hsem
      obtain ⟨oj, o2⟩ := xokS_c oS
      obtain ⟨r', m', h1, h2, h3, h4, sim⟩ := ih _ _ _ _ hkk oL (xokS_p (oM _ _) (xokS_c o2).2) oM
      refine ⟨r', m', h1, h2, h3, h4, ?_⟩
      intro p l e R s m args below meth c Qw D cA cB base ext L xs m0 cx H locs ls cells slots hR hS hL hlen hcl hsl
      have sim := sim p l e R s m args below meth c Qw D cA cB base ext L xs m0 cx
      obtain ⟨⟨hx, hb, hml, hown, hts⟩, hini, ⟨hf1, hf2, hf3, hf4⟩, ⟨hK, hE, h50, hz0⟩, hret⟩ := cx
      exact xr_bal hx hb hE hR hS hs h0 hj oj hd (sim H locs ls cells slots hR hS hL hlen hcl hsl)
set_option maxHeartbeats 4000000 in
theorem xc_aaload {C : XCal} {d : Nat} (hC : xGood C d) {i : Nat} (hi : i < 317) {Q : Option XV → XM → Prop} {n : Nat} (ih : ∀ (pc : Nat) (loc : XLc) (st : List XV) (mm : XM), XW C i Q n pc loc st mm → xokL loc → xokS st → xokMm mm → xRes d i Q pc loc st mm) {pc : Nat} {loc : XLc} {st : List XV} {mm : XM} {len : Nat} (hd : decode (xc i) pc = .ok (.aaload, len)) (hln : xln (.aaload, len) = true) (hsem : xsem C i Q (XW C i Q n) pc loc st mm (.aaload)) (oL : xokL loc) (oS : xokS st) (oM : xokMm mm) : xRes d i Q pc loc st mm := by
      have ho := xow_lt i
      cases Nat.eq_of_beq_eq_true hln
      have hsem : xaal st mm (fun r => XW C i Q n (pc + 1) loc r mm) := hsem
      cases st with
      | nil => exact hsem.elim
      | cons v st =>
      cases v with
      | inr _ => exact hsem.elim
      | inl j =>
      cases st with
      | nil => exact hsem.elim
      | cons v st =>
      cases v with
      | inl _ => exact hsem.elim
      | inr v =>
      cases v with
      | none => exact hsem.elim
      | some a =>
      obtain ⟨nn, hs, h0, hj, hkk⟩ := hsem
      obtain ⟨oj, o2⟩ := xokS_c oS
      obtain ⟨r', m', h1, h2, h3, h4, sim⟩ := ih _ _ _ _ hkk oL (xokS_p trivial (xokS_c o2).2) oM
      refine ⟨r', m', h1, h2, h3, h4, ?_⟩
      intro p l e R s m args below meth c Qw D cA cB base ext L xs m0 cx H locs ls cells slots hR hS hL hlen hcl hsl
      have sim := sim p l e R s m args below meth c Qw D cA cB base ext L xs m0 cx
      obtain ⟨⟨hx, hb, hml, hown, hts⟩, hini, ⟨hf1, hf2, hf3, hf4⟩, ⟨hK, hE, h50, hz0⟩, hret⟩ := cx
      exact xr_aal hx hb hK hR hs h0 hj oj hd (sim H locs ls cells slots hR hS hL hlen hcl hsl)
set_option maxHeartbeats 4000000 in
theorem xc_iastore {C : XCal} {d : Nat} (hC : xGood C d) {i : Nat} (hi : i < 317) {Q : Option XV → XM → Prop} {n : Nat} (ih : ∀ (pc : Nat) (loc : XLc) (st : List XV) (mm : XM), XW C i Q n pc loc st mm → xokL loc → xokS st → xokMm mm → xRes d i Q pc loc st mm) {pc : Nat} {loc : XLc} {st : List XV} {mm : XM} {len : Nat} (hd : decode (xc i) pc = .ok (.iastore, len)) (hln : xln (.iastore, len) = true) (hsem : xsem C i Q (XW C i Q n) pc loc st mm (.iastore)) (oL : xokL loc) (oS : xokS st) (oM : xokMm mm) : xRes d i Q pc loc st mm := by
      have ho := xow_lt i
      cases Nat.eq_of_beq_eq_true hln
      have hsem : xias st mm (fun r m2 => XW C i Q n (pc + 1) loc r m2) := hsem
      cases st with
      | nil => exact hsem.elim
      | cons v st =>
      cases v with
      | inr _ => exact hsem.elim
      | inl v1 =>
      cases st with
      | nil => exact hsem.elim
      | cons v st =>
      cases v with
      | inr _ => exact hsem.elim
      | inl j =>
      cases st with
      | nil => exact hsem.elim
      | cons v st =>
      cases v with
      | inl _ => exact hsem.elim
      | inr v =>
      cases v with
      | none => exact hsem.elim
      | some a =>
      obtain ⟨nn, hs, h0, hj, hkk⟩ := hsem
      obtain ⟨ov, o2⟩ := xokS_c oS
      obtain ⟨oj, o3⟩ := xokS_c o2
      obtain ⟨r', m', h1, h2, h3, h4, sim⟩ := ih _ _ _ _ hkk oL (xokS_c o3).2 (fun b k => by show xok (if _ then _ else _); split; exact ov; exact oM _ _)
      refine ⟨r', m', h1, h2, h3, h4, ?_⟩
      intro p l e R s m args below meth c Qw D cA cB base ext L xs m0 cx H locs ls cells slots hR hS hL hlen hcl hsl
      have sim := sim p l e R s m args below meth c Qw D cA cB base ext L xs m0 cx
      obtain ⟨⟨hx, hb, hml, hown, hts⟩, hini, ⟨hf1, hf2, hf3, hf4⟩, ⟨hK, hE, h50, hz0⟩, hret⟩ := cx
      exact xr_ias hx hb hK hR hS hs h0 hj oj hd (fun H1 locs1 hR1 hS1 => sim H1 locs1 ls cells slots hR1 hS1 hL hlen hcl hsl)
set_option maxHeartbeats 4000000 in
theorem xc_aastore {C : XCal} {d : Nat} (hC : xGood C d) {i : Nat} (hi : i < 317) {Q : Option XV → XM → Prop} {n : Nat} (ih : ∀ (pc : Nat) (loc : XLc) (st : List XV) (mm : XM), XW C i Q n pc loc st mm → xokL loc → xokS st → xokMm mm → xRes d i Q pc loc st mm) {pc : Nat} {loc : XLc} {st : List XV} {mm : XM} {len : Nat} (hd : decode (xc i) pc = .ok (.aastore, len)) (hln : xln (.aastore, len) = true) (hsem : xsem C i Q (XW C i Q n) pc loc st mm (.aastore)) (oL : xokL loc) (oS : xokS st) (oM : xokMm mm) : xRes d i Q pc loc st mm := by
      have ho := xow_lt i
      cases Nat.eq_of_beq_eq_true hln
      have hsem : xaas st mm (fun r m2 => XW C i Q n (pc + 1) loc r m2) := hsem
      cases st with
      | nil => exact hsem.elim
      | cons v st =>
      cases v with
      | inl _ => exact hsem.elim
      | inr v =>
      cases v with
      | none => exact hsem.elim
      | some v1 =>
      cases st with
      | nil => exact hsem.elim
      | cons v st =>
      cases v with
      | inr _ => exact hsem.elim
      | inl j =>
      cases st with
      | nil => exact hsem.elim
      | cons v st =>
      cases v with
      | inl _ => exact hsem.elim
      | inr v =>
      cases v with
      | none => exact hsem.elim
      | some a =>
      obtain ⟨nn, NN, hs, hv, h0, hj, hkk⟩ := hsem
      obtain ⟨ov, o2⟩ := xokS_c oS
      obtain ⟨oj, o3⟩ := xokS_c o2
      obtain ⟨r', m', h1, h2, h3, h4, sim⟩ := ih _ _ _ _ hkk oL (xokS_c o3).2 oM
      refine ⟨r', m', h1, h2, h3, h4, ?_⟩
      intro p l e R s m args below meth c Qw D cA cB base ext L xs m0 cx H locs ls cells slots hR hS hL hlen hcl hsl
      have sim := sim p l e R s m args below meth c Qw D cA cB base ext L xs m0 cx
      obtain ⟨⟨hx, hb, hml, hown, hts⟩, hini, ⟨hf1, hf2, hf3, hf4⟩, ⟨hK, hE, h50, hz0⟩, hret⟩ := cx
      exact xr_aas hx hb hK hR hS hs hv h0 hj oj hd (fun H1 locs1 hR1 hS1 => sim H1 locs1 ls cells slots hR1 hS1 hL hlen hcl hsl)
set_option maxHeartbeats 4000000 in
theorem xc_arraylength {C : XCal} {d : Nat} (hC : xGood C d) {i : Nat} (hi : i < 317) {Q : Option XV → XM → Prop} {n : Nat} (ih : ∀ (pc : Nat) (loc : XLc) (st : List XV) (mm : XM), XW C i Q n pc loc st mm → xokL loc → xokS st → xokMm mm → xRes d i Q pc loc st mm) {pc : Nat} {loc : XLc} {st : List XV} {mm : XM} {len : Nat} (hd : decode (xc i) pc = .ok (.arraylength, len)) (hln : xln (.arraylength, len) = true) (hsem : xsem C i Q (XW C i Q n) pc loc st mm (.arraylength)) (oL : xokL loc) (oS : xokS st) (oM : xokMm mm) : xRes d i Q pc loc st mm := by
      have ho := xow_lt i
      cases Nat.eq_of_beq_eq_true hln
      have hsem : xalen st mm (fun r => XW C i Q n (pc + 1) loc r mm) := hsem
      cases st with
      | nil => exact hsem.elim
      | cons v st =>
      cases v with
      | inl _ => exact hsem.elim
      | inr v =>
      cases v with
      | none => exact hsem.elim
      | some a =>
      obtain ⟨nn, hs, hlt, hkk⟩ := hsem
      obtain ⟨r', m', h1, h2, h3, h4, sim⟩ := ih _ _ _ _ hkk oL (xokS_p ⟨by omega, by omega⟩ (xokS_c oS).2) oM
      refine ⟨r', m', h1, h2, h3, h4, ?_⟩
      intro p l e R s m args below meth c Qw D cA cB base ext L xs m0 cx H locs ls cells slots hR hS hL hlen hcl hsl
      have sim := sim p l e R s m args below meth c Qw D cA cB base ext L xs m0 cx
      obtain ⟨⟨hx, hb, hml, hown, hts⟩, hini, ⟨hf1, hf2, hf3, hf4⟩, ⟨hK, hE, h50, hz0⟩, hret⟩ := cx
      have sim := sim H locs ls cells slots hR hS hL hlen hcl hsl
      rcases hs with hs | hs | hs | hs
      · exact xr_alen hx hb hK hR (Or.inl hs) hd sim
      · exact xr_alen hx hb hK hR (Or.inr hs) hd sim
      · exact xr_elen hx hb hE hR hS (Or.inl hs) hd sim
      · exact xr_elen hx hb hE hR hS (Or.inr hs) hd sim
set_option maxHeartbeats 4000000 in
theorem xc_new {C : XCal} {d : Nat} (hC : xGood C d) {i : Nat} (hi : i < 317) {Q : Option XV → XM → Prop} {n : Nat} (ih : ∀ (pc : Nat) (loc : XLc) (st : List XV) (mm : XM), XW C i Q n pc loc st mm → xokL loc → xokS st → xokMm mm → xRes d i Q pc loc st mm) {pc : Nat} {loc : XLc} {st : List XV} {mm : XM} {idx : Nat} {len : Nat} (hd : decode (xc i) pc = .ok (.new idx, len)) (hln : xln (.new idx, len) = true) (hsem : xsem C i Q (XW C i Q n) pc loc st mm (.new idx)) (oL : xokL loc) (oS : xokS st) (oM : xokMm mm) : xRes d i Q pc loc st mm := by
      have ho := xow_lt i
      cases Nat.eq_of_beq_eq_true hln
      obtain ⟨q, hq, hkk⟩ := hsem
      obtain ⟨r', m', h1, h2, h3, h4, sim⟩ := ih _ _ _ _ hkk oL (xokS_p trivial oS) (fun b k => by show xok (if _ then _ else _); split; exact xok_0; exact oM _ _)
      refine ⟨r', m', h1, ((List.prefix_append _ _).trans h2), h3, h4, ?_⟩
      intro p l e R s m args below meth c Qw D cA cB base ext L xs m0 cx H locs ls cells slots hR hS hL hlen hcl hsl
      have sim := sim p l e R s m args below meth c Qw D cA cB base ext L xs m0 cx
      obtain ⟨⟨hx, hb, hml, hown, hts⟩, hini, ⟨hf1, hf2, hf3, hf4⟩, ⟨hK, hE, h50, hz0⟩, hret⟩ := cx
      refine xW_size h50 hz0 hcl hR (fun hz => ?_)
      have hpl := xpre_len h2
      have e1 : (xpush mm (q.1 + 2) (xfn q.1)).1.length = mm.1.length + 1 := by show (mm.1 ++ [_]).length = _; simp
      have e2 : xsl (xpush mm (q.1 + 2) (xfn q.1)).1 = xsl mm.1 + xfn q.1 := by show xsl (mm.1 ++ [_]) = _; rw [xsl_app]; simp [xsl]
      rw [e1, e2] at hpl
      exact xr_new (m0 := m0) hx hb hts ho hown hK h50 hz0 hcl hz hR hS hq (by omega) (by omega) hd (fun H1 hR1 hS1 => sim H1 locs ls (cells + 1) (slots + xfn q.1) hR1 hS1 hL hlen (by omega) (by omega))
set_option maxHeartbeats 4000000 in
theorem xc_newarray {C : XCal} {d : Nat} (hC : xGood C d) {i : Nat} (hi : i < 317) {Q : Option XV → XM → Prop} {n : Nat} (ih : ∀ (pc : Nat) (loc : XLc) (st : List XV) (mm : XM), XW C i Q n pc loc st mm → xokL loc → xokS st → xokMm mm → xRes d i Q pc loc st mm) {pc : Nat} {loc : XLc} {st : List XV} {mm : XM} {t : ArrayType} {len : Nat} (hd : decode (xc i) pc = .ok (.newarray t, len)) (hln : xln (.newarray t, len) = true) (hsem : xsem C i Q (XW C i Q n) pc loc st mm (.newarray t)) (oL : xokL loc) (oS : xokS st) (oM : xokMm mm) : xRes d i Q pc loc st mm := by
      have ho := xow_lt i
      cases Nat.eq_of_beq_eq_true hln
      cases t <;> first | exact hsem.elim | skip
      have hsem : xnewa st mm (fun r m2 => XW C i Q n (pc + 2) loc r m2) := hsem
      cases st with
      | nil => exact hsem.elim
      | cons v st =>
      cases v with
      | inr _ => exact hsem.elim
      | inl z =>
      obtain ⟨h0, hz1, hkk⟩ := hsem
      obtain ⟨r', m', h1, h2, h3, h4, sim⟩ := ih _ _ _ _ hkk oL (xokS_p trivial (xokS_c oS).2) (fun b k => by show xok (if _ then _ else _); split; exact xok_0; exact oM _ _)
      refine ⟨r', m', h1, ((List.prefix_append _ _).trans h2), h3, h4, ?_⟩
      intro p l e R s m args below meth c Qw D cA cB base ext L xs m0 cx H locs ls cells slots hR hS hL hlen hcl hsl
      have sim := sim p l e R s m args below meth c Qw D cA cB base ext L xs m0 cx
      obtain ⟨⟨hx, hb, hml, hown, hts⟩, hini, ⟨hf1, hf2, hf3, hf4⟩, ⟨hK, hE, h50, hz0⟩, hret⟩ := cx
      refine xW_size h50 hz0 hcl hR (fun hz => ?_)
      have hpl := xpre_len h2
      have e1 : (xpush mm 0 z.toNat).1.length = mm.1.length + 1 := by show (mm.1 ++ [_]).length = _; simp
      have e2 : xsl (xpush mm 0 z.toNat).1 = xsl mm.1 + z.toNat := by show xsl (mm.1 ++ [_]) = _; rw [xsl_app]; simp [xsl]
      rw [e1, e2] at hpl
      exact xr_newa (m0 := m0) hx hb hts hK h50 hz0 hcl hz hR hS h0 hz1 (by omega) (by omega) hd (fun H1 hR1 hS1 => sim H1 locs ls (cells + 1) (slots + z.toNat) hR1 hS1 hL hlen (by omega) (by omega))
set_option maxHeartbeats 4000000 in
theorem xc_anewarray {C : XCal} {d : Nat} (hC : xGood C d) {i : Nat} (hi : i < 317) {Q : Option XV → XM → Prop} {n : Nat} (ih : ∀ (pc : Nat) (loc : XLc) (st : List XV) (mm : XM), XW C i Q n pc loc st mm → xokL loc → xokS st → xokMm mm → xRes d i Q pc loc st mm) {pc : Nat} {loc : XLc} {st : List XV} {mm : XM} {idx : Nat} {len : Nat} (hd : decode (xc i) pc = .ok (.anewarray idx, len)) (hln : xln (.anewarray idx, len) = true) (hsem : xsem C i Q (XW C i Q n) pc loc st mm (.anewarray idx)) (oL : xokL loc) (oS : xokS st) (oM : xokMm mm) : xRes d i Q pc loc st mm := by
      have ho := xow_lt i
      cases Nat.eq_of_beq_eq_true hln
      have hsem : xnewq i idx st mm (fun r m2 => XW C i Q n (pc + 3) loc r m2) := hsem
      cases st with
      | nil => exact hsem.elim
      | cons v st =>
      cases v with
      | inr _ => exact hsem.elim
      | inl z =>
      obtain ⟨h0, hz1, ⟨q, hq, hq1⟩, hkk⟩ := hsem
      obtain ⟨r', m', h1, h2, h3, h4, sim⟩ := ih _ _ _ _ hkk oL (xokS_p trivial (xokS_c oS).2) (fun b k => by show xok (if _ then _ else _); split; exact xok_0; exact oM _ _)
      refine ⟨r', m', h1, ((List.prefix_append _ _).trans h2), h3, h4, ?_⟩
      intro p l e R s m args below meth c Qw D cA cB base ext L xs m0 cx H locs ls cells slots hR hS hL hlen hcl hsl
      have sim := sim p l e R s m args below meth c Qw D cA cB base ext L xs m0 cx
      obtain ⟨⟨hx, hb, hml, hown, hts⟩, hini, ⟨hf1, hf2, hf3, hf4⟩, ⟨hK, hE, h50, hz0⟩, hret⟩ := cx
      refine xW_size h50 hz0 hcl hR (fun hz => ?_)
      have hpl := xpre_len h2
      have e1 : (xpush mm 1 z.toNat).1.length = mm.1.length + 1 := by show (mm.1 ++ [_]).length = _; simp
      have e2 : xsl (xpush mm 1 z.toNat).1 = xsl mm.1 + z.toNat := by show xsl (mm.1 ++ [_]) = _; rw [xsl_app]; simp [xsl]
      rw [e1, e2] at hpl
      exact xr_newq (m0 := m0) hx hb hts ho hown hK h50 hz0 hcl hz hR hS hE.2.2.2.2.2.2.2.2.1 hq hq1 h0 hz1 (by omega) (by omega) hd (fun H1 hR1 hS1 => sim H1 locs ls (cells + 1) (slots + z.toNat) hR1 hS1 hL hlen (by omega) (by omega))
set_option maxHeartbeats 4000000 in
theorem xc_invokevirtual {C : XCal} {d : Nat} (hC : xGood C d) {i : Nat} (hi : i < 317) {Q : Option XV → XM → Prop} {n : Nat} (ih : ∀ (pc : Nat) (loc : XLc) (st : List XV) (mm : XM), XW C i Q n pc loc st mm → xokL loc → xokS st → xokMm mm → xRes d i Q pc loc st mm) {pc : Nat} {loc : XLc} {st : List XV} {mm : XM} {idx : Nat} {len : Nat} (hd : decode (xc i) pc = .ok (.invokevirtual idx, len)) (hln : xln (.invokevirtual idx, len) = true) (hsem : xsem C i Q (XW C i Q n) pc loc st mm (.invokevirtual idx)) (oL : xokL loc) (oS : xokS st) (oM : xokMm mm) : xRes d i Q pc loc st mm := by
      have ho := xow_lt i
      cases Nat.eq_of_beq_eq_true hln
      obtain ⟨q, As, a, rest, r, m2, N, hl, hkd, rfl, hAs, hrest, hs, hcall, hkk⟩ := hsem
      have oA : xokS (.inr (some a) :: As) := xokS_p trivial (fun v hv => oS v (List.mem_append_left _ (List.mem_reverse.mpr hv)))
      have oRest : xokS rest := fun v hv => oS v (List.mem_append_right _ (List.mem_cons_of_mem _ hv))
      obtain ⟨hj, hp2, okr, okm2, met⟩ := hC _ _ _ _ _ hcall oA oM
      have oN : xokS (r.toList ++ rest) := by
        intro v hv
        rcases List.mem_append.mp hv with h | h
        · cases r with
          | none => cases h
          | some w => exact okr v (by rw [List.mem_singleton.mp h])
        · exact oRest v h
      obtain ⟨r', m', h1, h2, h3, h4, sim⟩ := ih _ _ _ _ hkk oL oN okm2
      refine ⟨r', m', h1, (hp2.trans h2), h3, h4, ?_⟩
      intro p l e R s m args below meth c Qw D cA cB base ext L xs m0 cx H locs ls cells slots hR hS hL hlen hcl hsl
      have sim := sim p l e R s m args below meth c Qw D cA cB base ext L xs m0 cx
      obtain ⟨⟨hx, hb, hml, hown, hts⟩, hini, ⟨hf1, hf2, hf3, hf4⟩, ⟨hK, hE, h50, hz0⟩, hret⟩ := cx
      refine xW_size h50 hz0 hcl hR (fun hz => ?_)
      have hpl := xpre_len h2
      have hpl2 := xpre_len hp2
      obtain ⟨y1, y2, y3, y4, y5, y6, y7, y8, y9⟩ := xY_1 hj
      have hmk := xml_ok ho hl
      have met := met l D cA cB base ext L xs
      have fix : CallFix p m c (xc i) (xml i) s args xtb (xon (xow i)) := ⟨hx, hb, hml, hown, hts⟩
      have pay := pay_in hts (xgoodIn hj)
      have hcw : Cond.code (xy q.2.1) (xc q.2.1) (xml q.2.1) (xrt q.2.1) ∈ xwd q.2.1 := List.mem_cons_self
      have hcb := hts _ ((xgoodIn hj) _ hcw).1
      have hlenA : ∀ sig, parseMethodDescriptor (xy q.2.1).desc = some sig → xna q.2.1 = sig.parameters.length := fun sig h => by
        rw [h] at y4
        exact (Option.some.inj y4).symm
      have hlo : 8 + (xml q.2.1 + 11) + (xroom d mm m2).locals ≤ R.locals := by show 8 + (xml q.2.1 + 11) + 120 * d ≤ _; omega
      have hfr : (xroom d mm m2).frames + 1 ≤ R.frames := by show 3 * d + 1 ≤ _; omega
      have hcs : cells + (m2.1.length - mm.1.length) ≤ R.cells ∧ slots + (xsl m2.1 - xsl mm.1) ≤ R.slots := ⟨by omega, by omega⟩
      have hWr : 2 * (F0 m pc ls ((As.reverse ++ (.inr (some a) : XV) :: rest).map (xcv (xrho base ext)) : List Value)).monitorRoom + ((rest.map (xcv (xrho base ext))).map fun v => v.category).sum ≤ 8 := by
        rw [xcats]
        show 2 * 0 + _ ≤ 8
        omega
      have hst : (As.reverse ++ (.inr (some a) : XV) :: rest).map (xcv (xrho base ext)) = (As.map (xcv (xrho base ext))).reverse ++ .ref (xrho base ext a) :: rest.map (xcv (xrho base ext)) := by rw [List.map_append, List.map_reverse]; rfl
      have go : ∀ H1 locs1, xRep D cA cB base ext L xs m2 H1 → va_S (xA base) s.heap H1 locs1 → W p l e R s m args below meth c H1 locs1 (cells + (m2.1.length - mm.1.length)) (slots + (xsl m2.1 - xsl mm.1)) Qw (F0 m (pc + 3) ls ((r.map (xcv (xrho base ext))).toList ++ rest.map (xcv (xrho base ext)))) := by
        intro H1 locs1 hR1 hS1
        have z := sim H1 locs1 ls (cells + (m2.1.length - mm.1.length)) (slots + (xsl m2.1 - xsl mm.1)) hR1 hS1 hL hlen (by omega) (by omega)
        rw [List.map_append] at z
        cases r <;> exact z
      have hk0 : (xpl q.2.1).2.2.2.2 = 0 := by
        unfold xokM at hmk
        dsimp only at hmk
        rcases hkd with h | h <;> rw [h] at hmk
        · have hmk : ((Nat.blt q.2.1 317 && decide (lw_tbl[q.2.2]? = some (.methodLink (xon (xow i)) idx (xy q.2.1)))) && Nat.beq (xpl q.2.1).2.2.2.2 0) = true := hmk
          rw [Bool.and_eq_true] at hmk
          exact Nat.eq_of_beq_eq_true hmk.2
        · have hmk : ((Nat.blt q.2.1 317 && decide (lw_tbl[q.2.2]? = some (.methodLinkNest (xon (xow i)) idx (xy q.2.1) "LockWives"))) && Nat.beq (xpl q.2.1).2.2.2.2 0) = true := hmk
          rw [Bool.and_eq_true] at hmk
          exact Nat.eq_of_beq_eq_true hmk.2
      obtain ⟨w1, w2⟩ := y7 hk0
      have preV : PreV s H (xy q.2.1).cls (xrho base ext a) (xPc D cA cB base ext L xs (.inr (some a) :: As) mm) (As.map (xcv (xrho base ext))) := ⟨xblind, xrecv hK hE hR hS hj hk0 hs, fun U hU hW => xpre hK hE hR hS hz U hU hW⟩
      rcases hkd with h | h
      · have lk : Cond.methodLink (xon (xow i)) idx (xy q.2.1) ∈ xtb := by
          unfold xokM at hmk
          dsimp only at hmk
          rw [h] at hmk
          have hmk : ((Nat.blt q.2.1 317 && decide (lw_tbl[q.2.2]? = some (.methodLink (xon (xow i)) idx (xy q.2.1)))) && Nat.beq (xpl q.2.1).2.2.2.2 0) = true := hmk
          simp only [Bool.and_eq_true, decide_eq_true_eq] at hmk
          exact xmem hmk.1.2
        exact xr_run (va_runV (C := (xy q.2.1).cls) (b := xrho base ext a) (As := As.map (xcv (xrho base ext))) (rest := rest.map (xcv (xrho base ext))) (index := idx) (n := xna q.2.1) (bytes := xc q.2.1) (maxL := xml q.2.1) (ret := xrt q.2.1) fix met ⟨⟨rfl, rfl, hfr, hlo, pay, hcw, hcb, hts _ y1, y3, hlenA, hts _ lk⟩, hts _ w1, hts _ w2⟩ preV rfl (by rw [List.length_map]; exact hAs) (hL.1.trans hlen) hst hWr hd hcs) hS go
      · have lk : Cond.methodLinkNest (xon (xow i)) idx (xy q.2.1) "LockWives" ∈ lw_tbl := by
          unfold xokM at hmk
          dsimp only at hmk
          rw [h] at hmk
          have hmk : ((Nat.blt q.2.1 317 && decide (lw_tbl[q.2.2]? = some (.methodLinkNest (xon (xow i)) idx (xy q.2.1) "LockWives"))) && Nat.beq (xpl q.2.1).2.2.2.2 0) = true := hmk
          simp only [Bool.and_eq_true, decide_eq_true_eq] at hmk
          exact List.mem_of_getElem? hmk.1.2
        exact xr_run (va_runVN (C := (xy q.2.1).cls) (host := "LockWives") (b := xrho base ext a) (As := As.map (xcv (xrho base ext))) (rest := rest.map (xcv (xrho base ext))) (index := idx) (n := xna q.2.1) (bytes := xc q.2.1) (maxL := xml q.2.1) (ret := xrt q.2.1) fix met ⟨⟨⟨rfl, rfl, hfr, hlo, pay, hcw⟩, hcb, hts _ y1, y3, hlenA, va_Nw.use rfl (hE.2.2.2.2.2.2.2.2.2 _ _ _ _ lk)⟩, hts _ w1, hts _ w2⟩ preV rfl (by rw [List.length_map]; exact hAs) (hL.1.trans hlen) hst hWr hd hcs) hS go
set_option maxHeartbeats 4000000 in
theorem xc_invokespecial {C : XCal} {d : Nat} (hC : xGood C d) {i : Nat} (hi : i < 317) {Q : Option XV → XM → Prop} {n : Nat} (ih : ∀ (pc : Nat) (loc : XLc) (st : List XV) (mm : XM), XW C i Q n pc loc st mm → xokL loc → xokS st → xokMm mm → xRes d i Q pc loc st mm) {pc : Nat} {loc : XLc} {st : List XV} {mm : XM} {idx : Nat} {len : Nat} (hd : decode (xc i) pc = .ok (.invokespecial idx, len)) (hln : xln (.invokespecial idx, len) = true) (hsem : xsem C i Q (XW C i Q n) pc loc st mm (.invokespecial idx)) (oL : xokL loc) (oS : xokS st) (oM : xokMm mm) : xRes d i Q pc loc st mm := by
      have ho := xow_lt i
      cases Nat.eq_of_beq_eq_true hln
      have hsem : xinvI C i idx st mm (fun r m2 => XW C i Q n (pc + 3) loc r m2) := hsem
      rcases hsem with ⟨q, As, a, rest, m2, hl, hkd, rfl, hAs, hrest, hcall, hkk⟩ | ⟨q, a, rest, hl, hkd, rfl, hrest, hkk⟩
      · have oA : xokS (.inr (some a) :: As) := xokS_p trivial (fun v hv => oS v (List.mem_append_left _ (List.mem_reverse.mpr hv)))
        have oRest : xokS rest := fun v hv => oS v (List.mem_append_right _ (List.mem_cons_of_mem _ hv))
        obtain ⟨hj, hp2, okr, okm2, met⟩ := hC _ _ _ _ _ hcall oA oM
        obtain ⟨r', m', h1, h2, h3, h4, sim⟩ := ih _ _ _ _ hkk oL oRest okm2
        refine ⟨r', m', h1, (hp2.trans h2), h3, h4, ?_⟩
        intro p l e R s m args below meth c Qw D cA cB base ext L xs m0 cx H locs ls cells slots hR hS hL hlen hcl hsl
        have sim := sim p l e R s m args below meth c Qw D cA cB base ext L xs m0 cx
        obtain ⟨⟨hx, hb, hml, hown, hts⟩, hini, ⟨hf1, hf2, hf3, hf4⟩, ⟨hK, hE, h50, hz0⟩, hret⟩ := cx
        refine xW_size h50 hz0 hcl hR (fun hz => ?_)
        have hpl := xpre_len h2
        have hpl2 := xpre_len hp2
        obtain ⟨y1, y2, y3, y4, y5, y6, y7, y8, y9⟩ := xY_1 hj
        have hmk := xml_ok ho hl
        have met := met l D cA cB base ext L xs
        have fix : CallFix p m c (xc i) (xml i) s args xtb (xon (xow i)) := ⟨hx, hb, hml, hown, hts⟩
        have pay := pay_in hts (xgoodIn hj)
        have hcw : Cond.code (xy q.2.1) (xc q.2.1) (xml q.2.1) (xrt q.2.1) ∈ xwd q.2.1 := List.mem_cons_self
        have hcb := hts _ ((xgoodIn hj) _ hcw).1
        have hlenA : ∀ sig, parseMethodDescriptor (xy q.2.1).desc = some sig → xna q.2.1 = sig.parameters.length := fun sig h => by
          rw [h] at y4
          exact (Option.some.inj y4).symm
        have hlo : 8 + (xml q.2.1 + 11) + (xroom d mm m2).locals ≤ R.locals := by show 8 + (xml q.2.1 + 11) + 120 * d ≤ _; omega
        have hfr : (xroom d mm m2).frames + 1 ≤ R.frames := by show 3 * d + 1 ≤ _; omega
        have hcs : cells + (m2.1.length - mm.1.length) ≤ R.cells ∧ slots + (xsl m2.1 - xsl mm.1) ≤ R.slots := ⟨by omega, by omega⟩
        have hWr : 2 * (F0 m pc ls ((As.reverse ++ (.inr (some a) : XV) :: rest).map (xcv (xrho base ext)) : List Value)).monitorRoom + ((rest.map (xcv (xrho base ext))).map fun v => v.category).sum ≤ 8 := by
          rw [xcats]
          show 2 * 0 + _ ≤ 8
          omega
        have hst : (As.reverse ++ (.inr (some a) : XV) :: rest).map (xcv (xrho base ext)) = (As.map (xcv (xrho base ext))).reverse ++ .ref (xrho base ext a) :: rest.map (xcv (xrho base ext)) := by rw [List.map_append, List.map_reverse]; rfl
        have go : ∀ H1 locs1, xRep D cA cB base ext L xs m2 H1 → va_S (xA base) s.heap H1 locs1 → W p l e R s m args below meth c H1 locs1 (cells + (m2.1.length - mm.1.length)) (slots + (xsl m2.1 - xsl mm.1)) Qw (F0 m (pc + 3) ls (((none : Option XV).map (xcv (xrho base ext))).toList ++ rest.map (xcv (xrho base ext)))) := by
          intro H1 locs1 hR1 hS1
          have z := sim H1 locs1 ls (cells + (m2.1.length - mm.1.length)) (slots + (xsl m2.1 - xsl mm.1)) hR1 hS1 hL hlen (by omega) (by omega)
          exact z
        have hkI : (q.1 = 1 → Cond.methodLink (xon (xow i)) idx (xy q.2.1) ∈ xtb) ∧ (q.1 = 4 → Cond.methodLinkNest (xon (xow i)) idx (xy q.2.1) "LockWives" ∈ lw_tbl) ∧ (xpl q.2.1).2.2.2.2 = 3 := by
          unfold xokM at hmk
          dsimp only at hmk
          rcases hkd with h | h <;> rw [h] at hmk
          · have hmk : ((Nat.blt q.2.1 317 && decide (lw_tbl[q.2.2]? = some (.methodLink (xon (xow i)) idx (xy q.2.1)))) && Nat.beq (xpl q.2.1).2.2.2.2 3) = true := hmk
            simp only [Bool.and_eq_true, decide_eq_true_eq] at hmk
            exact ⟨fun _ => xmem hmk.1.2, fun z => by omega, Nat.eq_of_beq_eq_true hmk.2⟩
          · have hmk : ((Nat.blt q.2.1 317 && decide (lw_tbl[q.2.2]? = some (.methodLinkNest (xon (xow i)) idx (xy q.2.1) "LockWives"))) && Nat.beq (xpl q.2.1).2.2.2.2 3) = true := hmk
            simp only [Bool.and_eq_true, decide_eq_true_eq] at hmk
            exact ⟨fun z => by omega, fun _ => List.mem_of_getElem? hmk.1.2, Nat.eq_of_beq_eq_true hmk.2⟩
        obtain ⟨w1, w2, w3⟩ := y9 hkI.2.2
        rw [w3] at hcw hcb
        have preS : PreS s H (xPc D cA cB base ext L xs (.inr (some a) :: As) mm) (.ref (xrho base ext a) :: As.map (xcv (xrho base ext))) := ⟨xblind, fun U hU hW => xpre hK hE hR hS hz U hU hW⟩
        rcases hkd with h | h
        · exact xr_run (va_runI (b := xrho base ext a) (As := As.map (xcv (xrho base ext))) (rest := rest.map (xcv (xrho base ext))) (index := idx) (n := xna q.2.1) (bytes := xc q.2.1) (maxL := xml q.2.1) fix met ⟨⟨rfl, rfl, hfr, hlo, pay, hcw, hcb, hts _ y1, y3, hlenA, hts _ (hkI.1 h)⟩, w2, hts _ w1⟩ preS rfl (by rw [List.length_map]; exact hAs) (hL.1.trans hlen) hst hWr hd hcs) hS go
        · exact xr_run (va_runIN (host := "LockWives") (b := xrho base ext a) (As := As.map (xcv (xrho base ext))) (rest := rest.map (xcv (xrho base ext))) (index := idx) (n := xna q.2.1) (bytes := xc q.2.1) (maxL := xml q.2.1) fix met ⟨⟨⟨rfl, rfl, hfr, hlo, pay, hcw⟩, hcb, hts _ y1, y3, hlenA, va_Nw.use rfl (hE.2.2.2.2.2.2.2.2.2 _ _ _ _ (hkI.2.1 h))⟩, w2, hts _ w1⟩ preS rfl (by rw [List.length_map]; exact hAs) (hL.1.trans hlen) hst hWr hd hcs) hS go

      · have oRest := (xokS_c oS).2
        have lk : Cond.methodLink (xon (xow i)) idx objectInit ∈ xtb := by
          have hmk := xml_ok ho hl
          unfold xokM at hmk
          dsimp only at hmk
          rw [hkd] at hmk
          exact xmem (of_decide_eq_true hmk)
        obtain ⟨r', m', h1, h2, h3, h4, sim⟩ := ih _ _ _ _ hkk oL oRest oM
        refine ⟨r', m', h1, h2, h3, h4, ?_⟩
        intro p l e R s m args below meth c Qw D cA cB base ext L xs m0 cx H locs ls cells slots hR hS hL hlen hcl hsl
        have sim := sim p l e R s m args below meth c Qw D cA cB base ext L xs m0 cx
        obtain ⟨⟨hx, hb, hml, hown, hts⟩, hini, ⟨hf1, hf2, hf3, hf4⟩, ⟨hK, hE, h50, hz0⟩, hret⟩ := cx
        have sim := sim H locs ls cells slots hR hS hL hlen hcl hsl
        exact W.objInit hx hb hown (hts _ lk) (hts _ xw_oi) (hts _ xw_oc) rfl (by rw [hml]; exact hL.1.trans hlen) rfl hd (by omega) (by show 2 * 0 + ((rest.map (xcv (xrho base ext))).map fun v => v.category).sum + 12 ≤ _; rw [xcats]; omega) sim
set_option maxHeartbeats 4000000 in
theorem xc_invokestatic {C : XCal} {d : Nat} (hC : xGood C d) {i : Nat} (hi : i < 317) {Q : Option XV → XM → Prop} {n : Nat} (ih : ∀ (pc : Nat) (loc : XLc) (st : List XV) (mm : XM), XW C i Q n pc loc st mm → xokL loc → xokS st → xokMm mm → xRes d i Q pc loc st mm) {pc : Nat} {loc : XLc} {st : List XV} {mm : XM} {idx : Nat} {len : Nat} (hd : decode (xc i) pc = .ok (.invokestatic idx, len)) (hln : xln (.invokestatic idx, len) = true) (hsem : xsem C i Q (XW C i Q n) pc loc st mm (.invokestatic idx)) (oL : xokL loc) (oS : xokS st) (oM : xokMm mm) : xRes d i Q pc loc st mm := by
      have ho := xow_lt i
      cases Nat.eq_of_beq_eq_true hln
      have hsem : xinvS C i idx st mm (fun r m2 => XW C i Q n (pc + 3) loc r m2) := hsem
      rcases hsem with ⟨q, As, rest, r, m2, hl, hkd, rfl, hAs, hrest, hcall, hkk⟩ | ⟨q, z, dp, b, sp, a, rest, na, nb, hl, hkd, rfl, ha, hb2, g1, g2, g3, g4, g5, hrest, hkk⟩ | ⟨q, z, j, rest, hl, hkd, rfl, h0, hj, hrest, hkk⟩ | ⟨q, a, b, rest, hl, hkd, rfl, hrest, hkk⟩ | ⟨q, a, b, rest, hl, hkd, rfl, hrest, hkk⟩
      · have oA : xokS As := fun v hv => oS v (List.mem_append_left _ (List.mem_reverse.mpr hv))
        have oRest : xokS rest := fun v hv => oS v (List.mem_append_right _ hv)
        obtain ⟨hj, hp2, okr, okm2, met⟩ := hC _ _ _ _ _ hcall oA oM
        have oN : xokS (r.toList ++ rest) := by
          intro v hv
          rcases List.mem_append.mp hv with h | h
          · cases r with
            | none => cases h
            | some w => exact okr v (by rw [List.mem_singleton.mp h])
          · exact oRest v h
        obtain ⟨r', m', h1, h2, h3, h4, sim⟩ := ih _ _ _ _ hkk oL oN okm2
        refine ⟨r', m', h1, (hp2.trans h2), h3, h4, ?_⟩
        intro p l e R s m args below meth c Qw D cA cB base ext L xs m0 cx H locs ls cells slots hR hS hL hlen hcl hsl
        have sim := sim p l e R s m args below meth c Qw D cA cB base ext L xs m0 cx
        obtain ⟨⟨hx, hb, hml, hown, hts⟩, hini, ⟨hf1, hf2, hf3, hf4⟩, ⟨hK, hE, h50, hz0⟩, hret⟩ := cx
        refine xW_size h50 hz0 hcl hR (fun hz => ?_)
        have hpl := xpre_len h2
        have hpl2 := xpre_len hp2
        obtain ⟨y1, y2, y3, y4, y5, y6, y7, y8, y9⟩ := xY_1 hj
        have hmk := xml_ok ho hl
        have met := met l D cA cB base ext L xs
        have fix : CallFix p m c (xc i) (xml i) s args xtb (xon (xow i)) := ⟨hx, hb, hml, hown, hts⟩
        have pay := pay_in hts (xgoodIn hj)
        have hcw : Cond.code (xy q.2.1) (xc q.2.1) (xml q.2.1) (xrt q.2.1) ∈ xwd q.2.1 := List.mem_cons_self
        have hcb := hts _ ((xgoodIn hj) _ hcw).1
        have hlenA : ∀ sig, parseMethodDescriptor (xy q.2.1).desc = some sig → xna q.2.1 = sig.parameters.length := fun sig h => by
          rw [h] at y4
          exact (Option.some.inj y4).symm
        have hlo : 8 + (xml q.2.1 + 11) + (xroom d mm m2).locals ≤ R.locals := by show 8 + (xml q.2.1 + 11) + 120 * d ≤ _; omega
        have hfr : (xroom d mm m2).frames + 1 ≤ R.frames := by show 3 * d + 1 ≤ _; omega
        have hcs : cells + (m2.1.length - mm.1.length) ≤ R.cells ∧ slots + (xsl m2.1 - xsl mm.1) ≤ R.slots := ⟨by omega, by omega⟩
        have hWr : 2 * (F0 m pc ls ((As.reverse ++ rest).map (xcv (xrho base ext)) : List Value)).monitorRoom + ((rest.map (xcv (xrho base ext))).map fun v => v.category).sum ≤ 8 := by
          rw [xcats]
          show 2 * 0 + _ ≤ 8
          omega
        have hst : (As.reverse ++ rest).map (xcv (xrho base ext)) = (As.map (xcv (xrho base ext))).reverse ++ rest.map (xcv (xrho base ext)) := by rw [List.map_append, List.map_reverse]
        have go : ∀ H1 locs1, xRep D cA cB base ext L xs m2 H1 → va_S (xA base) s.heap H1 locs1 → W p l e R s m args below meth c H1 locs1 (cells + (m2.1.length - mm.1.length)) (slots + (xsl m2.1 - xsl mm.1)) Qw (F0 m (pc + 3) ls ((r.map (xcv (xrho base ext))).toList ++ rest.map (xcv (xrho base ext)))) := by
          intro H1 locs1 hR1 hS1
          have z := sim H1 locs1 ls (cells + (m2.1.length - mm.1.length)) (slots + (xsl m2.1 - xsl mm.1)) hR1 hS1 hL hlen (by omega) (by omega)
          rw [List.map_append] at z
          cases r <;> exact z
        have hkI : (q.1 = 2 → Cond.methodLink (xon (xow i)) idx (xy q.2.1) ∈ xtb) ∧ (q.1 = 5 → Cond.methodLinkNest (xon (xow i)) idx (xy q.2.1) "LockWives" ∈ lw_tbl) ∧ (xpl q.2.1).2.2.2.2 = 1 := by
          unfold xokM at hmk
          dsimp only at hmk
          rcases hkd with h | h <;> rw [h] at hmk
          · have hmk : ((Nat.blt q.2.1 317 && decide (lw_tbl[q.2.2]? = some (.methodLink (xon (xow i)) idx (xy q.2.1)))) && Nat.beq (xpl q.2.1).2.2.2.2 1) = true := hmk
            simp only [Bool.and_eq_true, decide_eq_true_eq] at hmk
            exact ⟨fun _ => xmem hmk.1.2, fun z => by omega, Nat.eq_of_beq_eq_true hmk.2⟩
          · have hmk : ((Nat.blt q.2.1 317 && decide (lw_tbl[q.2.2]? = some (.methodLinkNest (xon (xow i)) idx (xy q.2.1) "LockWives"))) && Nat.beq (xpl q.2.1).2.2.2.2 1) = true := hmk
            simp only [Bool.and_eq_true, decide_eq_true_eq] at hmk
            exact ⟨fun z => by omega, fun _ => List.mem_of_getElem? hmk.1.2, Nat.eq_of_beq_eq_true hmk.2⟩
        have w1 := y8 hkI.2.2
        have preS : PreS s H (xPc D cA cB base ext L xs As mm) (As.map (xcv (xrho base ext))) := ⟨xblind, fun U hU hW => xpre hK hE hR hS hz U hU hW⟩
        rcases hkd with h | h
        · exact xr_run (va_runS (As := As.map (xcv (xrho base ext))) (rest := rest.map (xcv (xrho base ext))) (index := idx) (n := xna q.2.1) (bytes := xc q.2.1) (maxL := xml q.2.1) (ret := xrt q.2.1) fix met ⟨⟨rfl, rfl, hfr, hlo, pay, hcw, hcb, hts _ y1, y3, hlenA, hts _ (hkI.1 h)⟩, hts _ w1⟩ preS rfl (by rw [List.length_map]; exact hAs) (hL.1.trans hlen) hst hWr hd hcs) hS go
        · exact xr_run (va_runSN (host := "LockWives") (As := As.map (xcv (xrho base ext))) (rest := rest.map (xcv (xrho base ext))) (index := idx) (n := xna q.2.1) (bytes := xc q.2.1) (maxL := xml q.2.1) (ret := xrt q.2.1) fix met ⟨⟨⟨rfl, rfl, hfr, hlo, pay, hcw⟩, hcb, hts _ y1, y3, hlenA, va_Nw.use rfl (hE.2.2.2.2.2.2.2.2.2 _ _ _ _ (hkI.2.1 h))⟩, hts _ w1, trivial⟩ preS rfl (by rw [List.length_map]; exact hAs) (hL.1.trans hlen) hst hWr hd hcs) hS go

      · obtain ⟨on, o2⟩ := xokS_c oS
        obtain ⟨odp, o3⟩ := xokS_c o2
        obtain ⟨osp, o5⟩ := xokS_c (xokS_c o3).2
        have oRest := (xokS_c o5).2
        have lk : Cond.methodLink (xon (xow i)) idx arraycopyName ∈ xtb := by
          have hmk := xml_ok ho hl
          unfold xokM at hmk
          dsimp only at hmk
          rw [hkd] at hmk
          exact xmem (of_decide_eq_true hmk)
        obtain ⟨r', m', h1, h2, h3, h4, sim⟩ := ih _ _ _ _ hkk oL oRest (fun b k => by show xok (if _ then _ else _); split <;> exact oM _ _)
        refine ⟨r', m', h1, h2, h3, h4, ?_⟩
        intro p l e R s m args below meth c Qw D cA cB base ext L xs m0 cx H locs ls cells slots hR hS hL hlen hcl hsl
        have sim := sim p l e R s m args below meth c Qw D cA cB base ext L xs m0 cx
        obtain ⟨⟨hx, hb, hml, hown, hts⟩, hini, ⟨hf1, hf2, hf3, hf4⟩, ⟨hK, hE, h50, hz0⟩, hret⟩ := cx
        exact xr_copy hx hb (by rw [hml]; exact (hL.1.trans hlen).symm) hts hown hK hR hS lk ha hb2 g1 g2 g3 g4 g5 osp odp on (by omega) (by rw [xcats]; have z9 := xnfw; omega) hd (fun H1 locs1 hR1 hS1 => sim H1 locs1 ls cells slots hR1 hS1 hL hlen hcl hsl)
      · obtain ⟨on, o2⟩ := xokS_c oS
        obtain ⟨oj, oRest⟩ := xokS_c o2
        obtain ⟨r', m', h1, h2, h3, h4, sim⟩ := ih _ _ _ _ hkk oL oRest oM
        refine ⟨r', m', h1, h2, h3, h4, ?_⟩
        intro p l e R s m args below meth c Qw D cA cB base ext L xs m0 cx H locs ls cells slots hR hS hL hlen hcl hsl
        have sim := sim p l e R s m args below meth c Qw D cA cB base ext L xs m0 cx
        obtain ⟨⟨hx, hb, hml, hown, hts⟩, hini, ⟨hf1, hf2, hf3, hf4⟩, ⟨hK, hE, h50, hz0⟩, hret⟩ := cx
        have sim := sim H locs ls cells slots hR hS hL hlen hcl hsl
        have lk : Cond.methodLink (xon (xow i)) idx yJ0_checkIndex_df160 ∈ xtb := by
          have hmk := xml_ok ho hl
          unfold xokM at hmk
          dsimp only at hmk
          rw [hkd] at hmk
          exact xmem (of_decide_eq_true hmk)
        exact xr_chk ⟨hx, hb, hml, hown, hts⟩ hE hS lk h0 hj oj on (by omega) (by omega) (hL.1.trans hlen) (by rw [xcats]; exact hrest) (by have := xpre_len h2; omega) (by have := xpre_len h2; omega) hd sim
      · obtain ⟨ob, o2⟩ := xokS_c oS
        obtain ⟨oa, oRest⟩ := xokS_c o2
        have lk : Cond.methodLink (xon (xow i)) idx Lib.Math.max.name ∈ xtb := by
          have hmk := xml_ok ho hl
          unfold xokM at hmk
          dsimp only at hmk
          rw [hkd] at hmk
          exact xmem (of_decide_eq_true hmk)
        obtain ⟨r', m', h1, h2, h3, h4, sim⟩ := ih _ _ _ _ hkk oL (xokS_p (xokV_ite ob oa) oRest) oM
        refine ⟨r', m', h1, h2, h3, h4, ?_⟩
        intro p l e R s m args below meth c Qw D cA cB base ext L xs m0 cx H locs ls cells slots hR hS hL hlen hcl hsl
        have sim := sim p l e R s m args below meth c Qw D cA cB base ext L xs m0 cx
        obtain ⟨⟨hx, hb, hml, hown, hts⟩, hini, ⟨hf1, hf2, hf3, hf4⟩, ⟨hK, hE, h50, hz0⟩, hret⟩ := cx
        have sim := sim H locs ls cells slots hR hS hL hlen hcl hsl
        refine va_mmax hx hb (by rw [hml]; exact (hL.1.trans hlen).symm) hown (hts _ lk) (hts _ xw_max) (hts _ xw_mth) (hts _ xw_maxc) (by omega) (by rw [xcats]; omega) (by have := xpre_len h2; omega) (by have := xpre_len h2; omega) hd ?_
        have e1 : (if Int32.ofInt a < Int32.ofInt b then Int32.ofInt b else Int32.ofInt a) = Int32.ofInt (if a < b then b else a) := by
          by_cases hc : a < b
          · rw [if_pos hc, if_pos ((xo_lt oa ob).mpr hc)]
          · rw [if_neg hc, if_neg (fun q => hc ((xo_lt oa ob).mp q))]
        rw [e1]
        exact sim
      · obtain ⟨ob, o2⟩ := xokS_c oS
        obtain ⟨oa, oRest⟩ := xokS_c o2
        have lk : Cond.methodLink (xon (xow i)) idx Lib.Math.min.name ∈ xtb := by
          have hmk := xml_ok ho hl
          unfold xokM at hmk
          dsimp only at hmk
          rw [hkd] at hmk
          exact xmem (of_decide_eq_true hmk)
        obtain ⟨r', m', h1, h2, h3, h4, sim⟩ := ih _ _ _ _ hkk oL (xokS_p (xokV_ite ob oa) oRest) oM
        refine ⟨r', m', h1, h2, h3, h4, ?_⟩
        intro p l e R s m args below meth c Qw D cA cB base ext L xs m0 cx H locs ls cells slots hR hS hL hlen hcl hsl
        have sim := sim p l e R s m args below meth c Qw D cA cB base ext L xs m0 cx
        obtain ⟨⟨hx, hb, hml, hown, hts⟩, hini, ⟨hf1, hf2, hf3, hf4⟩, ⟨hK, hE, h50, hz0⟩, hret⟩ := cx
        have sim := sim H locs ls cells slots hR hS hL hlen hcl hsl
        refine va_mmin hx hb (by rw [hml]; exact (hL.1.trans hlen).symm) hown (hts _ lk) (hts _ xw_min) (hts _ xw_mth) (hts _ xw_minc) (by omega) (by rw [xcats]; omega) (by have := xpre_len h2; omega) (by have := xpre_len h2; omega) hd ?_
        have e1 : (if Int32.ofInt b < Int32.ofInt a then Int32.ofInt b else Int32.ofInt a) = Int32.ofInt (if b < a then b else a) := by
          by_cases hc : b < a
          · rw [if_pos hc, if_pos ((xo_lt ob oa).mpr hc)]
          · rw [if_neg hc, if_neg (fun q => hc ((xo_lt ob oa).mp q))]
        rw [e1]
        exact sim
set_option maxHeartbeats 4000000 in
theorem xc_ireturn {C : XCal} {d : Nat} (hC : xGood C d) {i : Nat} (hi : i < 317) {Q : Option XV → XM → Prop} {n : Nat} (ih : ∀ (pc : Nat) (loc : XLc) (st : List XV) (mm : XM), XW C i Q n pc loc st mm → xokL loc → xokS st → xokMm mm → xRes d i Q pc loc st mm) {pc : Nat} {loc : XLc} {st : List XV} {mm : XM} {len : Nat} (hd : decode (xc i) pc = .ok (.ireturn, len)) (hln : xln (.ireturn, len) = true) (hsem : xsem C i Q (XW C i Q n) pc loc st mm (.ireturn)) (oL : xokL loc) (oS : xokS st) (oM : xokMm mm) : xRes d i Q pc loc st mm := by
      have ho := xow_lt i
      cases Nat.eq_of_beq_eq_true hln
      obtain ⟨z, rfl, hz, hq⟩ := xs_iret hsem
      refine ⟨some (.inl z), mm, hq, List.prefix_refl _, (fun v hv => by cases hv; exact oS _ List.mem_cons_self), oM, ?_⟩
      intro p l e R s m args below meth c Qw D cA cB base ext L xs m0 cx H locs ls cells slots hR hS hL hlen hcl hsl
      exact cx.2.2.2.2 H locs ls pc cells slots hR hS hcl hsl ⟨hz, hd⟩
set_option maxHeartbeats 4000000 in
theorem xc_areturn {C : XCal} {d : Nat} (hC : xGood C d) {i : Nat} (hi : i < 317) {Q : Option XV → XM → Prop} {n : Nat} (ih : ∀ (pc : Nat) (loc : XLc) (st : List XV) (mm : XM), XW C i Q n pc loc st mm → xokL loc → xokS st → xokMm mm → xRes d i Q pc loc st mm) {pc : Nat} {loc : XLc} {st : List XV} {mm : XM} {len : Nat} (hd : decode (xc i) pc = .ok (.areturn, len)) (hln : xln (.areturn, len) = true) (hsem : xsem C i Q (XW C i Q n) pc loc st mm (.areturn)) (oL : xokL loc) (oS : xokS st) (oM : xokMm mm) : xRes d i Q pc loc st mm := by
      have ho := xow_lt i
      cases Nat.eq_of_beq_eq_true hln
      obtain ⟨z, rfl, hz, hq⟩ := xs_aret hsem
      refine ⟨some (.inr z), mm, hq, List.prefix_refl _, (fun v hv => by cases hv; trivial), oM, ?_⟩
      intro p l e R s m args below meth c Qw D cA cB base ext L xs m0 cx H locs ls cells slots hR hS hL hlen hcl hsl
      exact cx.2.2.2.2 H locs ls pc cells slots hR hS hcl hsl ⟨hz, hd⟩
set_option maxHeartbeats 4000000 in
theorem xc_return_ {C : XCal} {d : Nat} (hC : xGood C d) {i : Nat} (hi : i < 317) {Q : Option XV → XM → Prop} {n : Nat} (ih : ∀ (pc : Nat) (loc : XLc) (st : List XV) (mm : XM), XW C i Q n pc loc st mm → xokL loc → xokS st → xokMm mm → xRes d i Q pc loc st mm) {pc : Nat} {loc : XLc} {st : List XV} {mm : XM} {len : Nat} (hd : decode (xc i) pc = .ok (.return_, len)) (hln : xln (.return_, len) = true) (hsem : xsem C i Q (XW C i Q n) pc loc st mm (.return_)) (oL : xokL loc) (oS : xokS st) (oM : xokMm mm) : xRes d i Q pc loc st mm := by
      have ho := xow_lt i
      cases Nat.eq_of_beq_eq_true hln
      obtain ⟨rfl, hz, hq⟩ := hsem
      refine ⟨none, mm, hq, List.prefix_refl _, (fun v hv => by cases hv), oM, ?_⟩
      intro p l e R s m args below meth c Qw D cA cB base ext L xs m0 cx H locs ls cells slots hR hS hL hlen hcl hsl
      exact cx.2.2.2.2 H locs ls pc cells slots hR hS hcl hsl ⟨hz, hd⟩
theorem xsnd {C : XCal} {d : Nat} (hC : xGood C d) {i : Nat} (hi : i < 317) {Q : Option XV → XM → Prop} : ∀ (n pc : Nat) (loc : XLc) (st : List XV) (mm : XM), XW C i Q n pc loc st mm → xokL loc → xokS st → xokMm mm → xRes d i Q pc loc st mm := by
  intro n
  induction n with
  | zero => intro pc loc st mm h; exact h.elim
  | succ n ih =>
    intro pc loc st mm h oL oS oM
    obtain ⟨op, len, hxi, hsem⟩ := h
    have hd := (xP_all317 i hi).1 pc _ hxi
    have hln := xln_ok hi hxi
    cases op
    case aconst_null => exact xc_aconst_null hC hi ih hd hln hsem oL oS oM
    case iconst _ => exact xc_iconst hC hi ih hd hln hsem oL oS oM
    case bipush _ => exact xc_bipush hC hi ih hd hln hsem oL oS oM
    case sipush _ => exact xc_sipush hC hi ih hd hln hsem oL oS oM
    case ldc_w _ => exact xc_ldc_w hC hi ih hd hln hsem oL oS oM
    case iload _ => exact xc_iload hC hi ih hd hln hsem oL oS oM
    case iload_n _ => exact xc_iload_n hC hi ih hd hln hsem oL oS oM
    case aload _ => exact xc_aload hC hi ih hd hln hsem oL oS oM
    case aload_n _ => exact xc_aload_n hC hi ih hd hln hsem oL oS oM
    case iadd => exact xc_iadd hC hi ih hd hln hsem oL oS oM
    case isub => exact xc_isub hC hi ih hd hln hsem oL oS oM
    case imul => exact xc_imul hC hi ih hd hln hsem oL oS oM
    case idiv => exact xc_idiv hC hi ih hd hln hsem oL oS oM
    case irem => exact xc_irem hC hi ih hd hln hsem oL oS oM
    case iand => exact xc_iand hC hi ih hd hln hsem oL oS oM
    case ior => exact xc_ior hC hi ih hd hln hsem oL oS oM
    case ixor => exact xc_ixor hC hi ih hd hln hsem oL oS oM
    case ishl => exact xc_ishl hC hi ih hd hln hsem oL oS oM
    case ishr => exact xc_ishr hC hi ih hd hln hsem oL oS oM
    case iushr => exact xc_iushr hC hi ih hd hln hsem oL oS oM
    case ineg => exact xc_ineg hC hi ih hd hln hsem oL oS oM
    case i2c => exact xc_i2c hC hi ih hd hln hsem oL oS oM
    case i2b => exact xc_i2b hC hi ih hd hln hsem oL oS oM
    case dup => exact xc_dup hC hi ih hd hln hsem oL oS oM
    case dup2 => exact xc_dup2 hC hi ih hd hln hsem oL oS oM
    case pop => exact xc_pop hC hi ih hd hln hsem oL oS oM
    case istore _ => exact xc_istore hC hi ih hd hln hsem oL oS oM
    case istore_n _ => exact xc_istore_n hC hi ih hd hln hsem oL oS oM
    case astore _ => exact xc_astore hC hi ih hd hln hsem oL oS oM
    case astore_n _ => exact xc_astore_n hC hi ih hd hln hsem oL oS oM
    case iinc _ _ => exact xc_iinc hC hi ih hd hln hsem oL oS oM
    case goto _ => exact xc_goto hC hi ih hd hln hsem oL oS oM
    case ifCond _ _ => exact xc_ifCond hC hi ih hd hln hsem oL oS oM
    case if_icmp _ _ => exact xc_if_icmp hC hi ih hd hln hsem oL oS oM
    case ifnull _ => exact xc_ifnull hC hi ih hd hln hsem oL oS oM
    case tableswitch _ _ _ _ => exact xc_tableswitch hC hi ih hd hln hsem oL oS oM
    case ldc _ => exact xc_ldc hC hi ih hd hln hsem oL oS oM
    case getfield _ => exact xc_getfield hC hi ih hd hln hsem oL oS oM
    case putfield _ => exact xc_putfield hC hi ih hd hln hsem oL oS oM
    case getstatic _ => exact xc_getstatic hC hi ih hd hln hsem oL oS oM
    case iaload => exact xc_iaload hC hi ih hd hln hsem oL oS oM
    case baload => exact xc_baload hC hi ih hd hln hsem oL oS oM
    case aaload => exact xc_aaload hC hi ih hd hln hsem oL oS oM
    case iastore => exact xc_iastore hC hi ih hd hln hsem oL oS oM
    case aastore => exact xc_aastore hC hi ih hd hln hsem oL oS oM
    case arraylength => exact xc_arraylength hC hi ih hd hln hsem oL oS oM
    case new _ => exact xc_new hC hi ih hd hln hsem oL oS oM
    case newarray _ => exact xc_newarray hC hi ih hd hln hsem oL oS oM
    case anewarray _ => exact xc_anewarray hC hi ih hd hln hsem oL oS oM
    case invokevirtual _ => exact xc_invokevirtual hC hi ih hd hln hsem oL oS oM
    case invokespecial _ => exact xc_invokespecial hC hi ih hd hln hsem oL oS oM
    case invokestatic _ => exact xc_invokestatic hC hi ih hd hln hsem oL oS oM
    case ireturn => exact xc_ireturn hC hi ih hd hln hsem oL oS oM
    case areturn => exact xc_areturn hC hi ih hd hln hsem oL oS oM
    case return_ => exact xc_return_ hC hi ih hd hln hsem oL oS oM
    all_goals exact hsem.elim
