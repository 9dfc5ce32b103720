def xtb : List Cond := lw_tbl.filter goodWord
def xtyf (ci k : Nat) : FieldType := match ci with
  | 0 => tyX0 k | 1 => tyX1 k | 2 => tyX2 k | 3 => tyX3 k | 4 => tyX4 k | 5 => tyX5 k | 6 => tyX6 k | 7 => tyX7 k | 8 => tyX8 k | 9 => tyX9 k | 10 => tyX10 k | 11 => tyX11 k | _ => tyX12 k
theorem xnm_ok : ∀ ci, ci < 13 → ∀ q, vwCl[ci]? = some q → (∀ k, k < q.2.2 → parseFieldDescriptor (q.2.1 k).2.2.1 = some (xtyf ci k)) ∧ (∀ a, a < q.2.2 → ∀ b, b < q.2.2 → a ≠ b → (q.2.1 a).2.1 ≠ (q.2.1 b).2.1) := by
  intro ci hci q hq
  have h : ci = 0 ∨ ci = 1 ∨ ci = 2 ∨ ci = 3 ∨ ci = 4 ∨ ci = 5 ∨ ci = 6 ∨ ci = 7 ∨ ci = 8 ∨ ci = 9 ∨ ci = 10 ∨ ci = 11 ∨ ci = 12 := by omega
  rcases h with rfl | rfl | rfl | rfl | rfl | rfl | rfl | rfl | rfl | rfl | rfl | rfl | rfl
  · cases hq; exact ⟨tyX0_ok, nmX0⟩
  · cases hq; exact ⟨tyX1_ok, nmX1⟩
  · cases hq; exact ⟨tyX2_ok, nmX2⟩
  · cases hq; exact ⟨tyX3_ok, nmX3⟩
  · cases hq; exact ⟨tyX4_ok, nmX4⟩
  · cases hq; exact ⟨tyX5_ok, nmX5⟩
  · cases hq; exact ⟨tyX6_ok, nmX6⟩
  · cases hq; exact ⟨tyX7_ok, nmX7⟩
  · cases hq; exact ⟨tyX8_ok, nmX8⟩
  · cases hq; exact ⟨tyX9_ok, nmX9⟩
  · cases hq; exact ⟨tyX10_ok, nmX10⟩
  · cases hq; exact ⟨tyX11_ok, nmX11⟩
  · cases hq; exact ⟨tyX12_ok, nmX12⟩
def xlays : Bool := (List.range 13).all (fun ci => match vwCl[ci]? with
  | some q => (u_ws q.1 q.2.1 q.2.2).all (fun w => decide (w ∈ lw_tbl) && goodWord w)
  | none => false)
set_option maxRecDepth 100000 in
theorem xlays_ok : xlays = true := by decide +kernel
theorem xlay {ci : Nat} {q : vw_C} (h : vwCl[ci]? = some q) : ∀ w ∈ u_ws q.1 q.2.1 q.2.2, w ∈ xtb := by
  have hl : ci < 13 := (List.getElem?_eq_some_iff.mp h).1
  have h1 := List.all_eq_true.mp xlays_ok ci (List.mem_range.mpr hl)
  rw [h] at h1
  intro w hw
  have h2 := List.all_eq_true.mp h1 w hw
  simp only [Bool.and_eq_true, decide_eq_true_eq] at h2
  exact List.mem_filter.mpr h2
def xtk : FieldType → Nat
  | .int => 0
  | .boolean => 1
  | .object _ => 2
  | .array _ => 2
  | _ => 9
theorem xtk_ok : ∀ ci, ci < 13 → ∀ k, k < xfn ci → xtk (xtyf ci k) = xft ci k := by decide +kernel
def xffB (ci : Nat) : Bool := match vwCl[ci]? with
  | some q => Nat.beq q.2.2 (xfn ci) && (List.range q.2.2).all (fun k => decide ((q.2.1 k).2.2.2 = xff ci k) && decide ((q.2.1 k).1 = q.1))
  | none => false
theorem xffB_ok : (List.range 13).all xffB = true := by decide +kernel
theorem xcls {ci : Nat} {q : vw_C} (h : vwCl[ci]? = some q) : ci < 13 ∧ q.2.2 = xfn ci ∧ ∀ k, k < q.2.2 → (q.2.1 k).2.2.2 = xff ci k ∧ (q.2.1 k).1 = q.1 ∧ xtk (xtyf ci k) = xft ci k := by
  have hl : ci < 13 := (List.getElem?_eq_some_iff.mp h).1
  have h1 := List.all_eq_true.mp xffB_ok ci (List.mem_range.mpr hl)
  unfold xffB at h1
  rw [h] at h1
  simp only [Bool.and_eq_true, decide_eq_true_eq] at h1
  have e : q.2.2 = xfn ci := Nat.eq_of_beq_eq_true h1.1
  refine ⟨hl, e, fun k hk => ?_⟩
  have h2 := List.all_eq_true.mp h1.2 k (List.mem_range.mpr hk)
  simp only [Bool.and_eq_true, decide_eq_true_eq] at h2
  exact ⟨h2.1, h2.2, xtk_ok ci hl k (by rw [← e]; exact hk)⟩
theorem xmem {pl : Nat} {w : Cond} (h : lw_tbl[pl]? = some w) (hg : goodWord w = true := by rfl) : w ∈ xtb := List.mem_filter.mpr ⟨List.mem_of_getElem? h, hg⟩
theorem xfl_ok {o idx : Nat} {q : Nat × Nat × Nat} (ho : o < 19) (h : xlk (xfo o) idx = some q) (hq : q.1 < 13) : ∃ c3 : vw_C, vwCl[q.1]? = some c3 ∧ q.2.1 < c3.2.2 ∧ Cond.fieldLink (xon o) idx (c3.2.1 q.2.1).1 (c3.2.1 q.2.1).2.1 (c3.2.1 q.2.1).2.2.1 ∈ xtb := by
  have h1 := List.all_eq_true.mp (List.all_eq_true.mp xokF_all o (List.mem_range.mpr ho)) (idx, q) (xlk_mem _ _ _ h)
  obtain ⟨c3, hc⟩ : ∃ c3, vwCl[q.1]? = some c3 := ⟨_, List.getElem?_eq_getElem (show q.1 < vwCl.length from hq)⟩
  unfold xokF at h1
  dsimp only at h1
  rw [hc] at h1
  simp only [Bool.and_eq_true, decide_eq_true_eq] at h1
  exact ⟨c3, hc, Nat.le_of_ble_eq_true h1.1, xmem h1.2⟩
section XR
variable {p : Program} {l : Launch} {e : Env} {R : Room} {s : State} {m : MethodId} {args : Array Value} {below : List Frame} {meth : Method} {c : Code} {Qw : State → Prop} {D : va_G} {cA cB : ClassId} {base L : Nat} {ext : Nat → Nat} {xs : Nat → Int32} {H : Heap} {locs : List Loc} {cells slots pc : Nat} {ls : Array Slot} {rest : List Value} {cc : ByteArray} {o : Nat} {mm : XM}
theorem xr_get (hx : p.tables.exec = Jvm.exec) (hb : c.code = cc) (hts : ∀ w ∈ xtb, w.before args s = true) (ho : o < 19) (hown : s.vm.findClass (xon o) = some m.cls) (hK : va_K D vwCl (xty cA cB) s) (hR : xRep D cA cB base ext L xs mm H) {idx a N : Nat} {q : Nat × Nat × Nat} (hl : xlk (xfo o) idx = some q) (hq : q.1 < 13) (hs : mm.1[a]? = some (q.1 + 2, N)) (hk : q.2.1 < N) (hd : decode cc pc = .ok (.getfield idx, 3))
    (kk : W p l e R s m args below meth c H locs cells slots Qw (F0 m (pc + 3) ls (xcv (xrho base ext) (bif Nat.beq (xft q.1 q.2.1) 2 then .inr (mm.2.1 a q.2.1) else .inl (mm.2.2 a q.2.1)) :: rest))) :
    W p l e R s m args below meth c H locs cells slots Qw (F0 m pc ls (.ref (xrho base ext a) :: rest)) := by
  obtain ⟨c3, hc, hkn, hlk⟩ := xfl_ok ho hl hq
  have h5 := hR.2.2.five hs (by omega)
  rw [xrho_5 h5]
  refine va_get (ci := q.1) (C := c3.1) (T := c3.2.1) (N := c3.2.2) hx hb hts (xlay hc) hown hK hR.1 (a - 5) (xws_get h5 hs) hc q.2.1 hkn (hts _ hlk) (fun _ h => h) ?_ hd kk
  rw [List.getElem?_map, List.getElem?_range hk]
  rfl
end XR
