section XR6
variable {p : Program} {l : Launch} {e : Env} {R : Room} {s : State} {m : MethodId} {args : Array Value} {below : List Frame} {meth : Method} {c : Code} {Qw : State → Prop} {D : va_G} {cA cB : ClassId} {base L : Nat} {ext : Nat → Nat} {xs : Nat → Int32} {H : Heap} {locs : List Loc} {cells slots pc : Nat} {ls : Array Slot} {rest : List Value} {cc : ByteArray} {o : Nat} {mm m0 : XM}
theorem xrho_e {a : Nat} (h : a < 5) : xrho base ext a = ext a := by
  unfold xrho
  rw [show Nat.blt a 5 = true from Nat.ble_eq_true_of_le h]
  rfl
theorem xstr_a (hR : xRep D cA cB base ext L xs mm H) {a k n : Nat} (hs : mm.1[a]? = some (k, n)) (hk : 15 ≤ k) : (k = 20 ∧ a = 0 ∧ n = L) ∨ (k = 21 ∧ n = 2 ∧ (a = 1 ∨ a = 2)) ∨ (k = 22 ∧ ((a = 3 ∧ n = 158) ∨ (a = 4 ∧ n = 10))) := by
  have h5 := hR.ext hs hk
  obtain ⟨⟨h0, h1, h2, h3, h4⟩, -⟩ := hR.2.2
  have : a = 0 ∨ a = 1 ∨ a = 2 ∨ a = 3 ∨ a = 4 := by omega
  rcases this with rfl | rfl | rfl | rfl | rfl
  · rw [h0] at hs; cases hs; exact Or.inl ⟨rfl, rfl, rfl⟩
  · rw [h1] at hs; cases hs; exact Or.inr (Or.inl ⟨rfl, rfl, Or.inl rfl⟩)
  · rw [h2] at hs; cases hs; exact Or.inr (Or.inl ⟨rfl, rfl, Or.inr rfl⟩)
  · rw [h3] at hs; cases hs; exact Or.inr (Or.inr ⟨rfl, Or.inl ⟨rfl, rfl⟩⟩)
  · rw [h4] at hs; cases hs; exact Or.inr (Or.inr ⟨rfl, Or.inr ⟨rfl, rfl⟩⟩)
theorem xr_scr (hx : p.tables.exec = Jvm.exec) (hb : c.code = cc) (hE : xEx base ext L xs s) (hR : xRep D cA cB base ext L xs mm H) (hS : va_S (xA base) s.heap H locs) {a n : Nat} {j : Int} (hs : mm.1[a]? = some (20, n)) (h0 : 0 ≤ j) (hj : j < (n : Int)) (okj : xok j) (hd : decode cc pc = .ok (.iaload, 1))
    (kk : W p l e R s m args below meth c H locs cells slots Qw (F0 m (pc + 1) ls (.int (Int32.ofInt (mm.2.2 a j.toNat)) :: rest))) :
    W p l e R s m args below meth c H locs cells slots Qw (F0 m pc ls (.int (Int32.ofInt j) :: .ref (xrho base ext a) :: rest)) := by
  rcases xstr_a hR hs (by omega) with ⟨-, rfl, rfl⟩ | ⟨h, -⟩ | ⟨h, -⟩
  · rw [xrho_e (by omega)]
    refine va_sld hx hb hE.1 (Nat.lt_of_lt_of_le hE.2.1 hE.2.2.1) (Nat.not_le.mpr hE.2.1) hS (xo_in h0 okj hj) hd ?_
    rw [xo_cl h0 okj]
    rw [hR.2.2.2.1 _ (by omega), Int32.ofInt_toInt] at kk
    exact kk
  · omega
  · omega
theorem xr_bal (hx : p.tables.exec = Jvm.exec) (hb : c.code = cc) (hE : xEx base ext L xs s) (hR : xRep D cA cB base ext L xs mm H) (hS : va_S (xA base) s.heap H locs) {a n : Nat} {j : Int} (hs : mm.1[a]? = some (22, n)) (h0 : 0 ≤ j) (hj : j < (n : Int)) (okj : xok j) (hd : decode cc pc = .ok (.baload, 1))
    (kk : W p l e R s m args below meth c H locs cells slots Qw (F0 m (pc + 1) ls (.int (Int32.ofInt (mm.2.2 a j.toNat)) :: rest))) :
    W p l e R s m args below meth c H locs cells slots Qw (F0 m pc ls (.int (Int32.ofInt j) :: .ref (xrho base ext a) :: rest)) := by
  obtain ⟨-, -, -, hV, -⟩ := hE
  have hb5 := hR.2.2.2.2.2.2
  rcases xstr_a hR hs (by omega) with ⟨h, -⟩ | ⟨h, -⟩ | ⟨-, ⟨rfl, rfl⟩ | ⟨rfl, rfl⟩⟩
  · omega
  · omega
  · rw [xrho_e (by omega)]
    have e := hb5 0 j.toNat (by omega) (by show j.toNat < 158; omega)
    rw [e, Int32.ofInt_toInt] at kk
    exact va_tb hx hb (hV.1 0 (by omega)).2.2.2 hS (xo_in h0 okj hj) (by rw [xo_cl h0 okj]) hd kk
  · rw [xrho_e (by omega)]
    have e := hb5 1 j.toNat (by omega) (by show j.toNat < 10; omega)
    rw [e, Int32.ofInt_toInt] at kk
    exact va_tb hx hb (hV.1 1 (by omega)).2.2.2 hS (xo_in h0 okj hj) (by rw [xo_cl h0 okj]) hd kk
theorem xr_elen (hx : p.tables.exec = Jvm.exec) (hb : c.code = cc) (hE : xEx base ext L xs s) (hR : xRep D cA cB base ext L xs mm H) (hS : va_S (xA base) s.heap H locs) {a n : Nat} (hs : mm.1[a]? = some (20, n) ∨ mm.1[a]? = some (22, n)) (hd : decode cc pc = .ok (.arraylength, 1))
    (kk : W p l e R s m args below meth c H locs cells slots Qw (F0 m (pc + 1) ls (.int (Int32.ofInt (n : Int)) :: rest))) :
    W p l e R s m args below meth c H locs cells slots Qw (F0 m pc ls (.ref (xrho base ext a) :: rest)) := by
  obtain ⟨hX, hb1, hb2, hV, -⟩ := hE
  rcases hs with hs | hs
  · rcases xstr_a hR hs (by omega) with ⟨-, rfl, rfl⟩ | ⟨h, -⟩ | ⟨h, -⟩
    · rw [xrho_e (by omega)]
      exact va_slen hx hb hX (Nat.lt_of_lt_of_le hb1 hb2) (Nat.not_le.mpr hb1) hS hd kk
    · omega
    · omega
  · rcases xstr_a hR hs (by omega) with ⟨h, -⟩ | ⟨h, -⟩ | ⟨-, ⟨rfl, rfl⟩ | ⟨rfl, rfl⟩⟩
    · omega
    · omega
    · rw [xrho_e (by omega)]
      exact va_tlen hx hb (hV.1 0 (by omega)).2.2.2 hS rfl hd kk
    · rw [xrho_e (by omega)]
      exact va_tlen hx hb (hV.1 1 (by omega)).2.2.2 hS rfl hd kk
theorem xr_sget (hx : p.tables.exec = Jvm.exec) (hb : c.code = cc) (hts : ∀ w ∈ xtb, w.before args s = true) (ho : o < 19) (hown : s.vm.findClass (xon o) = some m.cls) (hE : xEx base ext L xs s) (hR : xRep D cA cB base ext L xs mm H) (hS : va_S (xA base) s.heap H locs) {idx a N : Nat} {q : Nat × Nat × Nat} (hl : xlk (xfo o) idx = some q) (hq : ¬ q.1 < 13) (hs : mm.1[a]? = some (q.1 + 2, N)) (hk : q.2.1 < N) (hd : decode cc pc = .ok (.getfield idx, 3))
    (kk : W p l e R s m args below meth c H locs cells slots Qw (F0 m (pc + 3) ls (xcv (xrho base ext) (bif Nat.beq (xft q.1 q.2.1) 2 then .inr (mm.2.1 a q.2.1) else .inl (mm.2.2 a q.2.1)) :: rest))) :
    W p l e R s m args below meth c H locs cells slots Qw (F0 m pc ls (.ref (xrho base ext a) :: rest)) := by
  have h1 := List.all_eq_true.mp (List.all_eq_true.mp xokF_all o (List.mem_range.mpr ho)) (idx, q) (xlk_mem _ _ _ hl)
  have hn : vwCl[q.1]? = none := List.getElem?_eq_none (by have : vwCl.length = 13 := rfl; omega)
  unfold xokF at h1
  dsimp only at h1
  rw [hn] at h1
  obtain ⟨qa, qb, qc⟩ := q
  dsimp only at h1 hs hk kk hq
  rw [Bool.and_eq_true] at h1
  obtain ⟨g1, g2⟩ := h1
  have g1 := Nat.eq_of_beq_eq_true g1
  subst g1
  obtain ⟨-, -, -, hV, -⟩ := hE
  obtain ⟨-, -, ⟨c1, c2⟩, ⟨d1, d2⟩, -⟩ := hR.2.2
  have hN : N = 2 ∧ (a = 1 ∨ a = 2) := by
    rcases xstr_a hR hs (by omega) with ⟨h, -⟩ | ⟨-, h⟩ | ⟨h, -⟩
    · omega
    · exact h
    · omega
  obtain ⟨rfl, ha⟩ := hN
  have hqb : qb = 0 ∨ qb = 1 := by omega
  rcases hqb with rfl | rfl
  · have g2 : decide (lw_tbl[qc]? = some (.fieldLink (xon o) idx "java/lang/String" "value" "[B")) = true := g2
    have w := xmem (of_decide_eq_true g2)
    rcases ha with rfl | rfl
    · have kk : W p l e R s m args below meth c H locs cells slots Qw (F0 m (pc + 3) ls (xcv (xrho base ext) (.inr (mm.2.1 1 0)) :: rest)) := kk
      rw [c1] at kk
      exact vk_getf hx hb (hV.1 0 (by omega)).2.2.1 hS hown (hts _ w) (fun _ h => h) hd kk
    · have kk : W p l e R s m args below meth c H locs cells slots Qw (F0 m (pc + 3) ls (xcv (xrho base ext) (.inr (mm.2.1 2 0)) :: rest)) := kk
      rw [c2] at kk
      exact vk_getf hx hb (hV.1 1 (by omega)).2.2.1 hS hown (hts _ w) (fun _ h => h) hd kk
  · have g2 : decide (lw_tbl[qc]? = some (.fieldLink (xon o) idx "java/lang/String" "coder" "B")) = true := g2
    have w := xmem (of_decide_eq_true g2)
    rcases ha with rfl | rfl
    · have kk : W p l e R s m args below meth c H locs cells slots Qw (F0 m (pc + 3) ls (xcv (xrho base ext) (.inl (mm.2.2 1 1)) :: rest)) := kk
      rw [d1] at kk
      exact vk_getf hx hb (hV.1 0 (by omega)).2.1 hS hown (hts _ w) (fun _ h => h) hd kk
    · have kk : W p l e R s m args below meth c H locs cells slots Qw (F0 m (pc + 3) ls (xcv (xrho base ext) (.inl (mm.2.2 2 1)) :: rest)) := kk
      rw [d2] at kk
      exact vk_getf hx hb (hV.1 1 (by omega)).2.1 hS hown (hts _ w) (fun _ h => h) hd kk
/-- who is called: its cell is there -/
theorem xrecv (hK : va_K D vwCl (xty cA cB) s) (hE : xEx base ext L xs s) (hR : xRep D cA cB base ext L xs mm H) (hS : va_S (xA base) s.heap H locs) {j a N : Nat} (hj : j < 316) (h0 : (xpl j).2.2.2.2 = 0) (hs : mm.1[a]? = some (xrk j, N)) : ∃ cell : Cell, H[xrho base ext a]? = some cell ∧ cell.vm.isStatics = false ∧ s.vm.findClass (xy j).cls = some cell.cls := by
  have h1 := List.all_eq_true.mp xokR_all j (List.mem_range.mpr (by omega))
  unfold xokR at h1
  rw [h0] at h1
  have h1 : (match vwCl[xow j]? with
    | some q => Nat.beq (xrk j) (xow j + 2) && decide ((xy j).cls = q.1)
    | none => Nat.beq (xrk j) 21 && decide ((xy j).cls = "java/lang/String")) = true := h1
  cases hc : vwCl[xow j]? with
  | some q =>
    rw [hc] at h1
    simp only [Bool.and_eq_true, decide_eq_true_eq] at h1
    have e := Nat.eq_of_beq_eq_true h1.1
    rw [e] at hs
    have hl : xow j < 13 := (List.getElem?_eq_some_iff.mp hc).1
    have h5 := hR.2.2.five hs (by omega)
    rw [xrho_5 h5, h1.2]
    exact va_recv hK hR.1 hc (xws_get h5 hs)
  | none =>
    rw [hc] at h1
    simp only [Bool.and_eq_true, decide_eq_true_eq] at h1
    have e := Nat.eq_of_beq_eq_true h1.1
    rw [e] at hs
    rw [h1.2]
    rcases xstr_a hR hs (by omega) with ⟨h, -⟩ | ⟨-, -, rfl | rfl⟩ | ⟨h, -⟩
    · omega
    · rw [xrho_e (by omega)]
      exact vk_recv (i := 0) hE.2.2.2.1 (by omega) hS
    · rw [xrho_e (by omega)]
      exact vk_recv (i := 1) hE.2.2.2.1 (by omega) hS
    · omega
end XR6
