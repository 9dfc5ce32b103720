theorem xdec {i : Nat} (hi : i < 317) {pc : Nat} {r : Instr × Nat} (h : xi i pc = some r) : decode (xc i) pc = .ok r := (xP_all317 i hi).1 pc r h
theorem xchk1 (l : Launch) {j n : Int32} (h0 : ¬ j < 0) (h1 : j < n) (v : Value) (hv : v = .null ∨ ∃ t, v = .ref t) : Met l (xy 315) (xwd 315) ({ frames := 0, cells := 0, slots := 0, locals := 0 }) (va_Pc [.int j, .int n, v] (fun _ => True)) (QcRead j) 0 0 (fun _ => False) := by
  refine Met.ofW (cc := xc 315) (maxL := 3) (ret := some .int) (by decide +kernel) rfl ?_
  intro p e s m args below meth c s₁ B hml hvv
  obtain ⟨rfl, -⟩ := hvv
  have hx := B.exec
  have hb := B.bytes
  have hr := B.returns
  have hlocks := B.notSynchronized
  have key : ∀ ls : Array Slot, lv_has ls 3 [(0, .int j), (1, .int n)] → W p l e (headSpec (xwd 315) ({ frames := 0, cells := 0, slots := 0, locals := 0 })).room s m [.int j, .int n, v].toArray below meth c s.heap [] 0 0 (MQ below (QcRead j) [.int j, .int n, v].toArray s 0 0 (fun _ => False)) (F0 m 0 ls []) := by
    intro ls hl
    refine lv_iload_n hx hb (xdec (by omega) rfl) rfl (lv_at hl 0 rfl) ?_
    refine lv_if_lt (tgt := 9) hx hb (xdec (by omega) rfl) (by decide) (fun h => absurd h h0) (fun _ => ?_)
    refine lv_iload_n hx hb (xdec (by omega) rfl) rfl (lv_at hl 0 rfl) ?_
    refine lv_iload_n hx hb (xdec (by omega) rfl) rfl (lv_at hl 1 rfl) ?_
    refine lv_icmp_lt (tgt := 16) hx hb (xdec (by omega) rfl) (by decide) (fun _ => ?_) (fun h => absurd h1 h)
    refine lv_iload_n hx hb (xdec (by omega) rfl) rfl (lv_at hl 0 rfl) ?_
    exact W.iret hx hb hr (fun t ht _ => ⟨rfl, ht⟩) (fun q h => by cases h) (xdec (by omega) rfl)
  rcases hv with rfl | ⟨t, rfl⟩
  · have hl := lv_entry ([.int j, .int n, .null]) (n := 3) (Nat.le_of_ble_eq_true rfl)
    rw [lg_entry_eq]
    exact key _ (lv_sub hl [0, 1] rfl)
  · have hl := lv_entry ([.int j, .int n, .ref t]) (n := 3) (Nat.le_of_ble_eq_true rfl)
    rw [lg_entry_eq]
    exact key _ (lv_sub hl [0, 1] rfl)
theorem xchk2 (l : Launch) {base : Nat} {ext : Nat → Nat} {L : Nat} {xs : Nat → Int32} {j n : Int32} (h0 : ¬ j < 0) (h1 : j < n) : Met l (xy 309) (xwd 309) ({ frames := 1, cells := 0, slots := 0, locals := 60 }) (va_Pc [.int j, .int n] (fun U => xEx base ext L xs U)) (fun _ st o t => o = .returned none ∧ t.heap = st.heap) 0 0 (fun _ => False) := by
  refine Met.ofW (cc := xc 309) (maxL := 2) (ret := none) (by decide +kernel) rfl ?_
  intro p e s m args below meth c s₁ B hml hvv
  obtain ⟨rfl, hE⟩ := hvv
  have hx := B.exec
  have hb := B.bytes
  have hr := B.returns
  have hlocks := B.notSynchronized
  have hts : ∀ w ∈ xtb, w.before [Value.int j, .int n].toArray s = true := fun w hw => atoms_spec (ws := xwd 309) B.pre w (List.mem_cons_of_mem _ hw)
  have hown : s.vm.findClass (xon 14) = some m.cls := findClass_of_methodNamed B.named
  have hl := lv_entry ([.int j, .int n]) (n := 2) (Nat.le_of_ble_eq_true rfl)
  rw [lg_entry_eq]
  generalize (lg_sl ([.int j, .int n]) ++ List.replicate (2 - (lg_sl ([.int j, .int n])).length) Slot.unset).toArray = ls at hl ⊢
  have hl : lv_has ls 2 [(0, .int j), (1, .int n)] := hl
  have hS : va_S (xA base) s.heap s.heap [] := va_S.rf
  refine lv_iload_n hx hb (xdec (by omega) rfl) rfl (lv_at hl 0 rfl) ?_
  refine lv_iload_n hx hb (xdec (by omega) rfl) rfl (lv_at hl 1 rfl) ?_
  have hZ : ∃ v : Value, (v = .null ∨ ∃ t, v = .ref t) ∧ va_Z "jdk/internal/util/Preconditions" "SIOOBE_FORMATTER" "Ljava/util/function/BiFunction;" v (xA base) s s.heap := by
    rcases hE.2.2.2.2.2.1 with h | ⟨t, h⟩
    · exact ⟨.null, Or.inl rfl, h⟩
    · exact ⟨.ref t, Or.inr ⟨t, rfl⟩, h⟩
  obtain ⟨v, hv, hZ⟩ := hZ
  refine va_gets hx hb hZ hS hown (hts _ xw_sf) (fun _ h => h) (xdec (i := 309) (by omega) rfl) ?_
  obtain ⟨y1, y2, y3, y4, y5, y6, y7, y8, y9⟩ := xY_1 (j := 315) (by omega)
  have hcw : Cond.code (xy 315) (xc 315) (xml 315) (xrt 315) ∈ xwd 315 := List.mem_cons_self
  have hGi := xgoodIn (j := 315) (by omega)
  have hlenA : ∀ sig, parseMethodDescriptor (xy 315).desc = some sig → 3 = sig.parameters.length := fun sig h => by
    rw [h] at y4
    exact (Option.some.inj y4).symm
  refine W.callR (W.runS (y := xy 315) (bytes := xc 315) (maxL := 3) (ret := some .int) (As := [.int j, .int n, v]) (rest := []) (n := 3) (index := 1059) (own := xon 14) ⟨hx, hb, hml, hown, hts⟩ (xchk1 l h0 h1 v hv) ⟨⟨rfl, rfl, Nat.le_of_ble_eq_true rfl, Nat.le_of_ble_eq_true rfl, pay_in hts hGi, hcw, hts _ (hGi _ hcw).1, hts _ y1, y3, hlenA, hts _ xw_pc⟩, hts _ (y8 rfl)⟩ ⟨fun a U g mk h => h, fun U hU hW => ⟨rfl, trivial⟩⟩ rfl rfl hl.1 rfl (by show 2 * 0 + 0 ≤ 8; omega) (xdec (i := 309) (by omega) rfl) ⟨Nat.le_refl _, Nat.le_refl _⟩) ?_
  refine lv_pop hx hb (xdec (i := 309) (by omega) rfl) rfl ?_
  exact W.vret hx hb hr (fun t ht _ => ⟨rfl, ht⟩) (fun q h => by cases h) (xdec (i := 309) (by omega) rfl)
section XR7
variable {p : Program} {l : Launch} {e : Env} {R : Room} {s : State} {m : MethodId} {args : Array Value} {below : List Frame} {meth : Method} {c : Code} {Qw : State → Prop} {base L : Nat} {ext : Nat → Nat} {xs : Nat → Int32} {H : Heap} {locs : List Loc} {cells slots pc : Nat} {ls : Array Slot} {rest : List Value} {o nL : Nat} {cc : ByteArray}
theorem xr_chk (fix : CallFix p m c cc nL s args xtb (xon o)) (hE : xEx base ext L xs s) (hS : va_S (xA base) s.heap H locs) {idx : Nat} (lk : Cond.methodLink (xon o) idx yJ0_checkIndex_df160 ∈ xtb) {j z : Int} (h0 : 0 ≤ j) (hj : j < z) (oj : xok j) (oz : xok z) (hf : 2 ≤ R.frames) (hlo : 100 ≤ R.locals) (hsz : ls.size = nL) (hrest : (rest.map fun v => v.category).sum ≤ 8) (hc1 : cells ≤ R.cells) (hs1 : slots ≤ R.slots) (hd : decode cc pc = .ok (.invokestatic idx, 3))
    (kk : W p l e R s m args below meth c H locs cells slots Qw (F0 m (pc + 3) ls rest)) : W p l e R s m args below meth c H locs cells slots Qw (F0 m pc ls (.int (Int32.ofInt z) :: .int (Int32.ofInt j) :: rest)) := by
  have hts := fix.2.2.2.2
  obtain ⟨y1, y2, y3, y4, y5, y6, y7, y8, y9⟩ := xY_1 (j := 309) (by omega)
  have hcw : Cond.code (xy 309) (xc 309) (xml 309) (xrt 309) ∈ xwd 309 := List.mem_cons_self
  have hGi := xgoodIn (j := 309) (by omega)
  have hlenA : ∀ sig, parseMethodDescriptor (xy 309).desc = some sig → 2 = sig.parameters.length := fun sig h => by
    rw [h] at y4
    exact (Option.some.inj y4).symm
  have bl : FrameBlind (va_Pc [.int (Int32.ofInt j), .int (Int32.ofInt z)] (fun U => xEx base ext L xs U)) := by
    intro a U g mk h
    obtain ⟨h1, e1, e2, e3, e4, e5, e6, e7, e8, e9, e10⟩ := h
    refine ⟨h1, va_X.moved (u := U) (U := U.calling g mk a) (Vm.Alike.refl U.vm) e1, e2, e3, vk_S.moved (u := U) (U := U.calling g mk a) (Vm.Alike.refl U.vm) e4, va_Z.moved (u := U) (U := U.calling g mk a) (Vm.Alike.refl U.vm) e5, ?_, vk_R.same (u := U) (U := U.calling g mk a) rfl e7, vk_R.same (u := U) (U := U.calling g mk a) rfl e8, va_AO.moved (u := U) (U := U.calling g mk a) (Vm.Alike.refl U.vm) e9, fun a1 i x h hm => va_Nw.same rfl (u := U) (U := U.calling g mk a) rfl (e10 a1 i x h hm)⟩
    rcases e6 with e6 | ⟨t, e6⟩
    · exact Or.inl (va_Z.moved (u := U) (U := U.calling g mk a) (Vm.Alike.refl U.vm) e6)
    · exact Or.inr ⟨t, va_Z.moved (u := U) (U := U.calling g mk a) (Vm.Alike.refl U.vm) e6⟩
  have run := W.runS (y := xy 309) (bytes := xc 309) (maxL := 2) (ret := none) (As := [.int (Int32.ofInt j), .int (Int32.ofInt z)]) (rest := rest) (n := 2) (index := idx) (own := xon o) (locs := locs) (cells := cells) (slots := slots) (g := F0 m pc ls (.int (Int32.ofInt z) :: .int (Int32.ofInt j) :: rest)) (H := H) (e := e) (below := below) (meth := meth) fix (xchk2 l (base := base) (ext := ext) (L := L) (xs := xs) (xo_ng h0 oj) ((xo_lt oj oz).mpr hj)) ⟨⟨rfl, rfl, hf, by show 8 + (2 + 11) + 60 ≤ R.locals; omega, pay_in hts hGi, hcw, hts _ (hGi _ hcw).1, hts _ y1, y3, hlenA, hts _ lk⟩, hts _ (y8 rfl)⟩ ⟨bl, fun U hU hW => ⟨rfl, hE.call hS hU hW⟩⟩ rfl rfl hsz rfl (by show 2 * 0 + _ ≤ 8; omega) hd ⟨hc1, hs1⟩
  intro T hT X
  obtain ⟨v, st₀, t, T', Lo, e0, X', hL, e1, ⟨hv, hh⟩, go⟩ := run T hT X
  cases hv
  have hLo : Lo = [] := List.eq_nil_iff_forall_not_mem.mpr (fun q h => hL q h)
  subst hLo
  rw [List.append_nil] at X'
  obtain ⟨t2, a1, b1⟩ := kk T' (by rw [e1, hh, e0]) X'
  exact ⟨t2, go t2 a1, b1⟩
end XR7
