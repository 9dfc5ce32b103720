theorem xRep.ext {D : va_G} {cA cB : ClassId} {base : Nat} {ext : Nat → Nat} {L : Nat} {xs : Nat → Int32} {m : XM} {H : Heap} (hR : xRep D cA cB base ext L xs m H) {a k n : Nat} (hs : m.1[a]? = some (k, n)) (hk : 15 ≤ k) : a < 5 := by
  rcases Nat.lt_or_ge a 5 with q | q
  · exact q
  · exfalso
    have h1 := hR.1 _ _ (xws_get (base := base) (ρ := xrho base ext) (cA := cA) (cB := cB) q hs)
    obtain ⟨k2, rfl⟩ : ∃ k2, k = k2 + 2 := ⟨k - 2, by omega⟩
    obtain ⟨r, h2, -⟩ := h1
    have h3 := (List.getElem?_eq_some_iff.mp h2).1
    have h4 : vwCl.length = 13 := rfl
    omega
theorem xgoodIn {j : Nat} (hj : j < 316) : GoodIn xtb (xwd j) := by
  intro w hw
  have hm : w ∈ xtb := by
    rcases List.mem_cons.mp hw with rfl | h
    · exact List.mem_filter.mpr ⟨xCW_all316 j hj, rfl⟩
    · exact h
  exact ⟨hm, good_of_word (List.mem_filter.mp hm).2⟩
theorem xml_ok {o idx : Nat} {q : Nat × Nat × Nat} (ho : o < 19) (h : xlk (xmo o) idx = some q) : xokM o (idx, q) = true := List.all_eq_true.mp (List.all_eq_true.mp xokM_all o (List.mem_range.mpr ho)) (idx, q) (xlk_mem _ _ _ h)
section XR5
variable {p : Program} {l : Launch} {e : Env} {R : Room} {s : State} {m : MethodId} {args : Array Value} {below : List Frame} {meth : Method} {c : Code} {Qw : State → Prop} {D : va_G} {cA cB : ClassId} {base L : Nat} {ext : Nat → Nat} {xs : Nat → Int32} {H : Heap} {locs : List Loc} {cells slots pc : Nat} {ls : Array Slot} {rest : List Value} {cc : ByteArray} {o : Nat} {mm m0 : XM}
theorem xr_run {mc ms : Nat} {st0 : List Value} {r : Option XV} {m2 : XM} {a : Array Value} (run : va_Run p l e R s m args below meth c H locs cells slots mc ms (F0 m pc ls st0) rest (xQc D cA cB base ext L xs r m2 a) (xA base)) (hS : va_S (xA base) s.heap H locs)
    (kk : ∀ H1 locs1, xRep D cA cB base ext L xs m2 H1 → va_S (xA base) s.heap H1 locs1 → W p l e R s m args below meth c H1 locs1 (cells + mc) (slots + ms) Qw (F0 m (pc + 3) ls ((r.map (xcv (xrho base ext))).toList ++ rest))) : W p l e R s m args below meth c H locs cells slots Qw (F0 m pc ls st0) := by
  intro T hT X
  obtain ⟨v, st₀, t, T', Lo, e0, X', hL, e1, e2, ⟨hv, hrep, hF⟩, go⟩ := run T hT X
  have hv2 : v = r.map (xcv (xrho base ext)) := Outcome.returned.inj hv
  subst hv2
  obtain ⟨t2, a1, b1⟩ := kk T'.heap (locs ++ Lo) (by rw [e1]; exact hrep) ⟨by rw [e1]; exact Nat.le_trans hS.1 (by rw [← e0]; exact hF.1), fun q h1 h2 => by
      rw [e1, hF.2 q (by rw [e0]; exact Nat.lt_of_lt_of_le h1 hS.1) h2, e0]
      exact hS.2.1 q h1 h2, fun q hq => by
      rcases List.mem_append.mp hq with h | h
      · exact hS.2.2 q h
      · exact hL q h⟩ T' rfl X'
  exact ⟨t2, go t2 a1, b1⟩
theorem xblind {As : List XV} : FrameBlind (xPc D cA cB base ext L xs As mm) := by
  intro a U g mk h
  obtain ⟨h1, h2, h3, ⟨e1, e2, e3, e4, e5, e6, e7, e8, e9, e10⟩, h5⟩ := h
  refine ⟨h1, h2, va_K.moved (u := U) (U := U.calling g mk a) (Vm.Alike.refl U.vm) h3, ⟨va_X.moved (u := U) (U := U.calling g mk a) (Vm.Alike.refl U.vm) e1, e2, e3, vk_S.moved (u := U) (U := U.calling g mk a) (Vm.Alike.refl U.vm) e4, va_Z.moved (u := U) (U := U.calling g mk a) (Vm.Alike.refl U.vm) e5, ?_, vk_R.same (u := U) (U := U.calling g mk a) rfl e7, vk_R.same (u := U) (U := U.calling g mk a) rfl e8, va_AO.moved (u := U) (U := U.calling g mk a) (Vm.Alike.refl U.vm) e9, fun a1 i x h hm => va_Nw.same rfl (u := U) (U := U.calling g mk a) rfl (e10 a1 i x h hm)⟩, h5⟩
  rcases e6 with e6 | ⟨t, e6⟩
  · exact Or.inl (va_Z.moved (u := U) (U := U.calling g mk a) (Vm.Alike.refl U.vm) e6)
  · exact Or.inr ⟨t, va_Z.moved (u := U) (U := U.calling g mk a) (Vm.Alike.refl U.vm) e6⟩
theorem xpre {As : List XV} (hK : va_K D vwCl (xty cA cB) s) (hE : xEx base ext L xs s) (hR : xRep D cA cB base ext L xs mm H) (hS : va_S (xA base) s.heap H locs) (hz : H.size + 5 = base + mm.1.length) : ∀ U : State, U.heap = H → s.WarmedH U.vm → xPc D cA cB base ext L xs As mm (As.map (xcv (xrho base ext))).toArray U := by
  intro U hU hW
  exact ⟨rfl, by rw [hU]; exact hR, va_K.moved hW.alike hK, hE.call hS hU hW, by rw [hU]; exact hz⟩
theorem xY_1 {j : Nat} (hj : j < 316) : Cond.initialized (xy j).cls ∈ xtb ∧ plainName (xy j).cls = true ∧ ((xy j).cls ≠ "java/lang/invoke/MethodHandle" ∧ (xy j).cls ≠ "java/lang/invoke/VarHandle") ∧ (parseMethodDescriptor (xy j).desc).map (fun d => d.parameters.length) = some (xna j) ∧ xml j ≤ 40 ∧ (xy j).cls = xon (xow j) ∧ ((xpl j).2.2.2.2 = 0 → Cond.instanceMethod (xy j) ∈ xtb ∧ Cond.selects (xy j).cls (xy j) (xy j) ∈ xtb) ∧ ((xpl j).2.2.2.2 = 1 → Cond.static (xy j) ∈ xtb) ∧ ((xpl j).2.2.2.2 = 3 → Cond.instanceMethod (xy j) ∈ xtb ∧ (xy j).name = "<init>" ∧ xrt j = none) := by
  have h := xY_ok (i := j) (by omega)
  unfold xokY at h
  simp only [Bool.and_eq_true, decide_eq_true_eq] at h
  obtain ⟨h1, h2, h3, h4, h5, h6, h7⟩ := h
  refine ⟨xmem h1, h3, h4, h5, Nat.le_of_ble_eq_true h6, h7, fun h0 => ?_, fun h0 => ?_, fun h0 => ?_⟩
  · rw [h0] at h2
    have h2 : (decide (lw_tbl[(xpl j).2.2.1]? = some (.instanceMethod (xy j))) && decide (lw_tbl[(xpl j).2.2.2.1]? = some (.selects (xy j).cls (xy j) (xy j)))) = true := h2
    simp only [Bool.and_eq_true, decide_eq_true_eq] at h2
    exact ⟨xmem h2.1, xmem h2.2⟩
  · rw [h0] at h2
    have h2 : decide (lw_tbl[(xpl j).2.2.1]? = some (.static (xy j))) = true := h2
    exact xmem (of_decide_eq_true h2)
  · rw [h0] at h2
    have h2 : (decide (lw_tbl[(xpl j).2.2.1]? = some (.instanceMethod (xy j))) && (decide ((xy j).name = "<init>") && decide (xrt j = none))) = true := h2
    simp only [Bool.and_eq_true, decide_eq_true_eq] at h2
    exact ⟨xmem h2.1, h2.2.1, h2.2.2⟩
end XR5
