theorem xcl_ok {o idx : Nat} {q : Nat × Nat} (ho : o < 19) (h : xlk (xco o) idx = some q) : ∃ c3 : vw_C, vwCl[q.1]? = some c3 ∧ xfn q.1 = c3.2.2 ∧ Cond.classLink (xon o) idx c3.1 ∈ xtb ∧ Cond.instantiable c3.1 c3.2.2 ∈ xtb ∧ Cond.initialized c3.1 ∈ xtb := by
  have h1 := List.all_eq_true.mp (List.all_eq_true.mp xokC_all o (List.mem_range.mpr ho)) (idx, q) (xlk_mem _ _ _ h)
  unfold xokC at h1
  dsimp only at h1
  cases hc : vwCl[q.1]? with
  | none => rw [hc] at h1; cases h1
  | some c3 =>
    rw [hc] at h1
    simp only [Bool.and_eq_true, decide_eq_true_eq] at h1
    exact ⟨c3, rfl, Nat.eq_of_beq_eq_true h1.1, xmem h1.2.1, xmem h1.2.2.1, xmem h1.2.2.2⟩
theorem xdef_val {ty : FieldType} {f : Nat} {ρ : Nat → Nat} (h : xtk ty = f) (hf : f < 3) : defaultValue ty = xcv ρ (bif Nat.beq f 2 then .inr none else .inl 0) := by
  subst h
  cases ty <;> first | rfl | (exfalso; simp [xtk] at hf)
theorem xft_lt : ∀ ci, ci < 13 → ∀ k, k < xfn ci → xft ci k < 3 := by decide +kernel
section XR4
variable {p : Program} {l : Launch} {e : Env} {R : Room} {s : State} {m : MethodId} {args : Array Value} {below : List Frame} {meth : Method} {c : Code} {Qw : State → Prop} {D : va_G} {cA cB : ClassId} {base L : Nat} {ext : Nat → Nat} {xs : Nat → Int32} {H : Heap} {locs : List Loc} {cells slots pc : Nat} {ls : Array Slot} {rest : List Value} {cc : ByteArray} {o : Nat} {mm m0 : XM}
theorem xA_of (hz : H.size + 5 = base + mm.1.length) (h5 : 5 ≤ mm.1.length) {q : Nat} : xA base q ↔ va_A (xws base (xrho base ext) cA cB mm) H.size q := by
  constructor
  · intro h
    have h : base ≤ q := h
    rcases Nat.lt_or_ge q H.size with g | g
    · obtain ⟨sh, hsh⟩ : ∃ sh, mm.1[q - base + 5]? = some sh := ⟨_, List.getElem?_eq_getElem (by omega)⟩
      have h1 := xws_get (base := base) (ρ := xrho base ext) (cA := cA) (cB := cB) (m := mm) (by omega : 5 ≤ q - base + 5) hsh
      rw [show base + (q - base + 5 - 5) = q by omega] at h1
      exact Or.inl ⟨_, _, h1⟩
    · exact Or.inr g
  · intro h
    show base ≤ q
    rcases h with ⟨k, ee, h⟩ | h
    · unfold xws at h
      rw [List.getElem?_map] at h
      cases hk : (List.range (mm.1.length - 5))[k]? with
      | none => rw [hk] at h; cases h
      | some k2 => rw [hk] at h; cases h; omega
    · omega
theorem xalloc (h50 : 5 ≤ m0.1.length) (hz0 : s.heap.size + 5 = base + m0.1.length) (hcl : cells + m0.1.length = mm.1.length) (hz : H.size + 5 = base + mm.1.length) (hR : xRep D cA cB base ext L xs mm H) (hS : va_S (xA base) s.heap H locs) {kd n N pc' : Nat}
    (kk : ∀ H1, xRep D cA cB base ext L xs (xpush mm kd n) H1 → va_S (xA base) s.heap H1 locs → W p l e R s m args below meth c H1 locs (cells + 1) (slots + N) Qw (F0 m pc' ls (.ref (xrho base ext mm.1.length) :: rest))) :
    ∀ (q : Nat) (H1 : Heap), va_P D vwCl (xws base (xrho base ext) cA cB mm ++ [(q, xE (xrho base ext) cA cB (xpush mm kd n) mm.1.length (kd, n))]) H1 → va_D (va_A (xws base (xrho base ext) cA cB mm) H.size) (xws base (xrho base ext) cA cB mm ++ [(q, xE (xrho base ext) cA cB (xpush mm kd n) mm.1.length (kd, n))]) → va_S (va_A (xws base (xrho base ext) cA cB mm) H.size) H H1 locs → W p l e R s m args below meth c H1 locs (cells + 1) (slots + N) Qw (F0 m pc' ls (.ref q :: rest)) := by
  intro q H1 hP hD hS1 T hT X
  have h5 := hR.2.2.len
  have g2 : T.heap.size ≤ s.heap.size + (cells + 1) := X.same.2.2.1
  rw [hT] at g2
  have hlast : (xws base (xrho base ext) cA cB mm ++ [(q, xE (xrho base ext) cA cB (xpush mm kd n) mm.1.length (kd, n))])[mm.1.length - 5]? = some (q, xE (xrho base ext) cA cB (xpush mm kd n) mm.1.length (kd, n)) := by
    rw [List.getElem?_append_right (by rw [xws_len]; exact Nat.le_refl _), xws_len, Nat.sub_self]; rfl
  have g3 := (hP _ _ hlast).lt
  have g4 := hD.2 _ _ hlast
  dsimp only at g3 g4
  have hq : q = H.size := by
    rcases g4 with ⟨k, ee, hk⟩ | g4
    · have hkl : k < mm.1.length - 5 := by
        have := (List.getElem?_eq_some_iff.mp hk).1
        rwa [xws_len] at this
      have h1 := hD.1 k (mm.1.length - 5) (q, ee) _ (by rw [List.getElem?_append_left (by rw [xws_len]; exact hkl)]; exact hk) hlast rfl
      omega
    · omega
  have hq2 : q = base + (mm.1.length - 5) := by omega
  have e0 := xws_push (base := base) (ρ := xrho base ext) (cA := cA) (cB := cB) (m := mm) (kd := kd) (n := n) h5
  rw [← hq2] at e0
  rw [← e0] at hP hD
  have hr : xrho base ext mm.1.length = q := by rw [xrho_5 h5]; omega
  rw [hr] at kk
  refine kk H1 ⟨hP, hD.weaken (fun _ _ _ h => (xA_of hz h5).mpr h), hR.2.2.push kd n⟩ ⟨Nat.le_trans hS.1 hS1.1, fun x h1 h2 => ?_, hS.2.2⟩ T hT X
  rw [hS1.2.1 x (Nat.lt_of_lt_of_le h1 hS.1) (fun h => h2 ((xA_of hz h5).mpr h))]
  exact hS.2.1 x h1 h2
theorem xS_A (hz : H.size + 5 = base + mm.1.length) (h5 : 5 ≤ mm.1.length) (hS : va_S (xA base) s.heap H locs) : va_S (va_A (xws base (xrho base ext) cA cB mm) H.size) H H locs := ⟨Nat.le_refl _, fun _ _ _ => rfl, fun q h => (xA_of hz h5).mp (hS.2.2 q h)⟩
theorem xr_new (hx : p.tables.exec = Jvm.exec) (hb : c.code = cc) (hts : ∀ w ∈ xtb, w.before args s = true) (ho : o < 19) (hown : s.vm.findClass (xon o) = some m.cls) (hK : va_K D vwCl (xty cA cB) s) (h50 : 5 ≤ m0.1.length) (hz0 : s.heap.size + 5 = base + m0.1.length) (hcl : cells + m0.1.length = mm.1.length) (hz : H.size + 5 = base + mm.1.length) (hR : xRep D cA cB base ext L xs mm H) (hS : va_S (xA base) s.heap H locs) {idx : Nat} {q : Nat × Nat} (hl : xlk (xco o) idx = some q) (hc1 : cells + 1 ≤ R.cells) (hs1 : slots + xfn q.1 ≤ R.slots) (hd : decode cc pc = .ok (.new idx, 3))
    (kk : ∀ H1, xRep D cA cB base ext L xs (xpush mm (q.1 + 2) (xfn q.1)) H1 → va_S (xA base) s.heap H1 locs → W p l e R s m args below meth c H1 locs (cells + 1) (slots + xfn q.1) Qw (F0 m (pc + 3) ls (.ref (xrho base ext mm.1.length) :: rest))) :
    W p l e R s m args below meth c H locs cells slots Qw (F0 m pc ls rest) := by
  obtain ⟨c3, hc, hN, w1, w2, w3⟩ := xcl_ok ho hl
  obtain ⟨hci, -, hfl⟩ := xcls hc
  obtain ⟨t1, t2⟩ := xnm_ok _ hci _ hc
  have h5 := hR.2.2.len
  have ha := xalloc (kd := q.1 + 2) (n := xfn q.1) (N := xfn q.1) (pc' := pc + 3) (R := R) (Qw := Qw) (ls := ls) (rest := rest) (slots := slots) h50 hz0 hcl hz hR hS kk
  have hs2 : slots + c3.2.2 ≤ R.slots := by rw [← hN]; exact hs1
  refine va_new (D := D) (cl := vwCl) (C := c3.1) (T := c3.2.1) (N := c3.2.2) (ci := q.1) (A := va_A (xws base (xrho base ext) cA cB mm) H.size) (H0 := H) hx hb hts (xlay hc) (xtyf q.1) t1 hown (hts _ w1) (hts _ w2) (hts _ w3) hK hR.1 hR.2.1.self (xS_A hz h5 hS) (fun _ h => Or.inr h) hc (fs := (List.range (xfn q.1)).map (fun j => xcv (xrho base ext) (bif Nat.beq (xft q.1 j) 2 then .inr ((xpush mm (q.1 + 2) (xfn q.1)).2.1 mm.1.length j) else .inl ((xpush mm (q.1 + 2) (xfn q.1)).2.2 mm.1.length j)))) (fun j hj => ?_) hc1 hs2 hd ?_
  · have hj2 : j < xfn q.1 := by rw [hN]; exact hj
    unfold vp_V
    rw [List.getD_eq_getElem?_getD, List.getElem?_map, List.getElem?_range hj2]
    show defaultValue (xtyf q.1 j) = xcv (xrho base ext) _
    rw [xdef_val (f := xft q.1 j) (ρ := xrho base ext) (hfl j hj).2.2 (xft_lt _ hci _ hj2)]
    show _ = xcv _ (bif Nat.beq (xft q.1 j) 2 then .inr (if mm.1.length = mm.1.length then none else _) else .inl (if mm.1.length = mm.1.length then 0 else _))
    rw [if_pos rfl, if_pos rfl]
  · rw [← hN]
    exact ha
theorem xr_newa (hx : p.tables.exec = Jvm.exec) (hb : c.code = cc) (hts : ∀ w ∈ xtb, w.before args s = true) (hK : va_K D vwCl (xty cA cB) s) (h50 : 5 ≤ m0.1.length) (hz0 : s.heap.size + 5 = base + m0.1.length) (hcl : cells + m0.1.length = mm.1.length) (hz : H.size + 5 = base + mm.1.length) (hR : xRep D cA cB base ext L xs mm H) (hS : va_S (xA base) s.heap H locs) {n : Int} (h0 : 0 ≤ n) (hn : n ≤ 100000) (hc1 : cells + 1 ≤ R.cells) (hs1 : slots + n.toNat ≤ R.slots) (hd : decode cc pc = .ok (.newarray .int, 2))
    (kk : ∀ H1, xRep D cA cB base ext L xs (xpush mm 0 n.toNat) H1 → va_S (xA base) s.heap H1 locs → W p l e R s m args below meth c H1 locs (cells + 1) (slots + n.toNat) Qw (F0 m (pc + 2) ls (.ref (xrho base ext mm.1.length) :: rest))) :
    W p l e R s m args below meth c H locs cells slots Qw (F0 m pc ls (.int (Int32.ofInt n) :: rest)) := by
  have h5 := hR.2.2.len
  have ok : xok n := ⟨by omega, by omega⟩
  have ha := xalloc (kd := 0) (n := n.toNat) (N := n.toNat) (pc' := pc + 2) (R := R) (Qw := Qw) (ls := ls) (rest := rest) (slots := slots) h50 hz0 hcl hz hR hS kk
  refine va_newa (D := D) (cl := vwCl) (atype := .int) (ty := .int) (A := va_A (xws base (xrho base ext) cA cB mm) H.size) (H0 := H) hx hb (hts _ xw_int) rfl hK hR.1 hR.2.1.self (xS_A hz h5 hS) (fun _ h => Or.inr h) (a0 := (n.toNat, .inl (fun j => Int32.ofInt ((xpush mm 0 n.toNat).2.2 mm.1.length j)))) (N' := n.toNat) (fun cA2 => ?_) (xo_ng h0 ok) (xo_cl h0 ok) ?_ hc1 hs1 hd (fun q cA2 H1 hK2 hP hD hS1 => ?_)
  · have e : (fun j => Value.int (Int32.ofInt ((xpush mm 0 n.toNat).2.2 mm.1.length j))) = fun _ => defaultValue .int := by
      funext j
      show Value.int (Int32.ofInt (if mm.1.length = mm.1.length then 0 else _)) = _
      rw [if_pos rfl]
      rfl
    show arrV cA2 n.toNat (fun j => Value.int (Int32.ofInt ((xpush mm 0 n.toNat).2.2 mm.1.length j))) = _
    rw [e]
  · show n.toNat * 4 ≤ 536870912
    omega
  · have e1 := (hK.2 0 _ rfl).2
    have e2 := (hK2.2 2 _ rfl).2
    have e3 : cA2 = cA := Option.some.inj (e2.symm.trans e1)
    subst e3
    exact ha q H1 hP hD hS1
theorem xr_newq (hx : p.tables.exec = Jvm.exec) (hb : c.code = cc) (hts : ∀ w ∈ xtb, w.before args s = true) (ho : o < 19) (hown : s.vm.findClass (xon o) = some m.cls) (hK : va_K D vwCl (xty cA cB) s) (h50 : 5 ≤ m0.1.length) (hz0 : s.heap.size + 5 = base + m0.1.length) (hcl : cells + m0.1.length = mm.1.length) (hz : H.size + 5 = base + mm.1.length) (hR : xRep D cA cB base ext L xs mm H) (hS : va_S (xA base) s.heap H locs) (hAO : va_AO "LockWives$Canal" s) {idx : Nat} {q : Nat × Nat} (hl : xlk (xco o) idx = some q) (hq1 : q.1 = 1) {n : Int} (h0 : 0 ≤ n) (hn : n ≤ 100000) (hc1 : cells + 1 ≤ R.cells) (hs1 : slots + n.toNat ≤ R.slots) (hd : decode cc pc = .ok (.anewarray idx, 3))
    (kk : ∀ H1, xRep D cA cB base ext L xs (xpush mm 1 n.toNat) H1 → va_S (xA base) s.heap H1 locs → W p l e R s m args below meth c H1 locs (cells + 1) (slots + n.toNat) Qw (F0 m (pc + 3) ls (.ref (xrho base ext mm.1.length) :: rest))) :
    W p l e R s m args below meth c H locs cells slots Qw (F0 m pc ls (.int (Int32.ofInt n) :: rest)) := by
  obtain ⟨c3, hc, hN, w1, w2, w3⟩ := xcl_ok ho hl
  have h5 := hR.2.2.len
  have ok : xok n := ⟨by omega, by omega⟩
  rw [hq1] at hc
  cases hc
  have ha := xalloc (kd := 1) (n := n.toNat) (N := n.toNat) (pc' := pc + 3) (R := R) (Qw := Qw) (ls := ls) (rest := rest) (slots := slots) h50 hz0 hcl hz hR hS kk
  refine va_newq (D := D) (cl := vwCl) (C := RX1) (A := va_A (xws base (xrho base ext) cA cB mm) H.size) (H0 := H) hx hb hown (hts _ w1) ?_ hK hR.1 hR.2.1.self (xS_A hz h5 hS) (fun _ h => Or.inr h) (N' := n.toNat) (xo_ng h0 ok) (xo_cl h0 ok) (by omega) hc1 hs1 hd (fun q cA2 H1 hK2 hP hD hS1 => ?_)
  · exact hAO
  · have e1 := (hK.2 1 _ rfl).2
    have e2 := (hK2.2 2 _ rfl).2
    obtain ⟨_, _, _, _, _, e1⟩ := e1
    obtain ⟨_, _, _, _, _, e2⟩ := e2
    have e3 : cA2 = cB := Option.some.inj (e2.symm.trans e1)
    subst e3
    have e : (fun j => ((xpush mm 1 n.toNat).2.1 mm.1.length j).map (xrho base ext)) = fun _ => none := by
      funext j
      show (if mm.1.length = mm.1.length then none else _ : Option Nat).map _ = _
      rw [if_pos rfl]
      rfl
    have e4 : xE (xrho base ext) cA cA2 (xpush mm 1 n.toNat) mm.1.length (1, n.toNat) = .inl (cA2, n.toNat, .inr (.inr (.inr (.inr (fun _ => none))))) := by
      show Sum.inl (cA2, n.toNat, Sum.inr (Sum.inr (Sum.inr (Sum.inr (fun j => ((xpush mm 1 n.toNat).2.1 mm.1.length j).map (xrho base ext)))))) = _
      rw [e]
    rw [e4] at ha
    exact ha q H1 hP hD hS1
end XR4
