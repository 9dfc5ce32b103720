theorem xfits_int {ty : FieldType} {z : Int} (h : xtk ty = 0 ∨ (xtk ty = 1 ∧ (z = 0 ∨ z = 1))) : narrow ty (.int (Int32.ofInt z)) = .int (Int32.ofInt z) ∧ fits ty (.int (Int32.ofInt z)) = true := by
  rcases h with h | ⟨h, h2⟩
  · cases ty <;> first | exact ⟨rfl, rfl⟩ | (exfalso; simp [xtk] at h)
  · cases ty <;> first | (rcases h2 with rfl | rfl <;> exact ⟨by decide +kernel, by decide +kernel⟩) | (exfalso; simp [xtk] at h)
theorem xfits_ref {ty : FieldType} {r : Option Nat} (h : xtk ty = 2) : narrow ty (va_rf r) = va_rf r ∧ fits ty (va_rf r) = true := by
  cases ty <;> first | (cases r <;> exact ⟨rfl, rfl⟩) | (exfalso; simp [xtk] at h)
theorem xfs_set {ρ : Nat → Nat} {m m2 : XM} {a N ci k : Nat} {v : XV} (hk : k < N) (h1 : ∀ j, j ≠ k → m2.2.1 a j = m.2.1 a j ∧ m2.2.2 a j = m.2.2 a j) (h2 : (bif Nat.beq (xft ci k) 2 then .inr (m2.2.1 a k) else .inl (m2.2.2 a k)) = v) :
    ((List.range N).map (fun j => xcv ρ (bif Nat.beq (xft ci j) 2 then .inr (m.2.1 a j) else .inl (m.2.2 a j)))).set k (xcv ρ v) = (List.range N).map (fun j => xcv ρ (bif Nat.beq (xft ci j) 2 then .inr (m2.2.1 a j) else .inl (m2.2.2 a j))) := by
  apply List.ext_getElem?
  intro j
  by_cases hj : j = k
  · subst hj
    rw [List.getElem?_set_self (by simp; exact hk), List.getElem?_map, List.getElem?_range hk, ← h2]
    rfl
  · rw [List.getElem?_set_ne (fun q => hj q.symm)]
    by_cases hl : j < N
    · rw [List.getElem?_map, List.getElem?_map, List.getElem?_range hl]
      simp only [Option.map_some, (h1 j hj).1, (h1 j hj).2]
    · rw [List.getElem?_eq_none (by simp; omega), List.getElem?_eq_none (by simp; omega)]
theorem xon_cl : ∀ {ci : Nat} {q : vw_C}, vwCl[ci]? = some q → q.1 = xon ci := by
  intro ci q h
  have hl : ci < 13 := (List.getElem?_eq_some_iff.mp h).1
  have h1 : ci = 0 ∨ ci = 1 ∨ ci = 2 ∨ ci = 3 ∨ ci = 4 ∨ ci = 5 ∨ ci = 6 ∨ ci = 7 ∨ ci = 8 ∨ ci = 9 ∨ ci = 10 ∨ ci = 11 ∨ ci = 12 := by omega
  rcases h1 with rfl | rfl | rfl | rfl | rfl | rfl | rfl | rfl | rfl | rfl | rfl | rfl | rfl <;> (cases h; rfl)
section XR2
variable {p : Program} {l : Launch} {e : Env} {R : Room} {s : State} {m : MethodId} {args : Array Value} {below : List Frame} {meth : Method} {c : Code} {Qw : State → Prop} {D : va_G} {cA cB : ClassId} {base L : Nat} {ext : Nat → Nat} {xs : Nat → Int32} {H : Heap} {locs : List Loc} {cells slots pc : Nat} {ls : Array Slot} {rest : List Value} {cc : ByteArray} {o : Nat} {mm : XM}
theorem xRep.set {m2 : XM} {H1 : Heap} {a : Nat} {sh : Nat × Nat} (hR : xRep D cA cB base ext L xs mm H) (h5 : 5 ≤ a) (hs : mm.1[a]? = some sh) (h1 : m2.1 = mm.1) (h2 : ∀ b, b ≠ a → ∀ j, m2.2.1 b j = mm.2.1 b j ∧ m2.2.2 b j = mm.2.2 b j)
    (hP : va_P D vwCl ((xws base (xrho base ext) cA cB mm).set (a - 5) (base + (a - 5), xE (xrho base ext) cA cB m2 a sh)) H1) (hD : va_D (xA base) ((xws base (xrho base ext) cA cB mm).set (a - 5) (base + (a - 5), xE (xrho base ext) cA cB m2 a sh))) : xRep D cA cB base ext L xs m2 H1 := by
  have e := xws_set (base := base) (ρ := xrho base ext) (cA := cA) (cB := cB) h5 hs h1 h2
  refine ⟨by rw [e]; exact hP, by rw [e]; exact hD, hR.2.2.set h1 (fun b hb j => h2 b (by omega) j)⟩
/-- the heap's size is what the memory says -/
theorem xW_size {g : JFrame} {m0 : XM} (h50 : 5 ≤ m0.1.length) (hz : s.heap.size + 5 = base + m0.1.length) (hcl : cells + m0.1.length = mm.1.length) (hR : xRep D cA cB base ext L xs mm H) (k : H.size + 5 = base + mm.1.length → W p l e R s m args below meth c H locs cells slots Qw g) : W p l e R s m args below meth c H locs cells slots Qw g := by
  intro T hT X
  refine k ?_ T hT X
  have h1 : s.heap.size ≤ T.heap.size := X.same.2.1
  have h2 : T.heap.size ≤ s.heap.size + cells := X.same.2.2.1
  rw [hT] at h1 h2
  have h5 := hR.2.2.len
  rcases Nat.lt_or_ge 5 mm.1.length with q | q
  · obtain ⟨sh, hsh⟩ : ∃ sh, mm.1[mm.1.length - 1]? = some sh := ⟨_, List.getElem?_eq_getElem (by omega)⟩
    have h3 := (hR.1 _ _ (xws_get (by omega) hsh)).lt
    dsimp only at h3
    omega
  · omega
theorem xput (hx : p.tables.exec = Jvm.exec) (hb : c.code = cc) (hts : ∀ w ∈ xtb, w.before args s = true) (ho : o < 19) (hown : s.vm.findClass (xon o) = some m.cls) (hK : va_K D vwCl (xty cA cB) s) (hR : xRep D cA cB base ext L xs mm H) (hS : va_S (xA base) s.heap H locs) {idx a N : Nat} {q : Nat × Nat × Nat} {v : XV} {m2 : XM} (hl : xlk (xfo o) idx = some q) (hq : q.1 < 13) (hs : mm.1[a]? = some (q.1 + 2, N)) (hk : q.2.1 < N)
    (hf : xff q.1 q.2.1 = true → o = q.1 ∧ meth.name = "<init>") (hv : ∀ ty, xtk ty = xft q.1 q.2.1 → narrow ty (xcv (xrho base ext) v) = xcv (xrho base ext) v ∧ fits ty (xcv (xrho base ext) v) = true)
    (h1 : m2.1 = mm.1) (h2 : ∀ b, b ≠ a → ∀ j, m2.2.1 b j = mm.2.1 b j ∧ m2.2.2 b j = mm.2.2 b j) (h3 : ∀ j, j ≠ q.2.1 → m2.2.1 a j = mm.2.1 a j ∧ m2.2.2 a j = mm.2.2 a j) (h4 : (bif Nat.beq (xft q.1 q.2.1) 2 then .inr (m2.2.1 a q.2.1) else .inl (m2.2.2 a q.2.1)) = v) (hd : decode cc pc = .ok (.putfield idx, 3))
    (kk : ∀ H1 locs1, xRep D cA cB base ext L xs m2 H1 → va_S (xA base) s.heap H1 locs1 → W p l e R s m args below meth c H1 locs1 cells slots Qw (F0 m (pc + 3) ls rest)) :
    W p l e R s m args below meth c H locs cells slots Qw (F0 m pc ls (xcv (xrho base ext) v :: .ref (xrho base ext a) :: rest)) := by
  obtain ⟨c3, hc, hkn, hlk⟩ := xfl_ok ho hl hq
  obtain ⟨hci, hN, hfl⟩ := xcls hc
  obtain ⟨g1, g2, g3⟩ := hfl _ hkn
  obtain ⟨t1, t2⟩ := xnm_ok _ hci _ hc
  have h5 := hR.2.2.five hs (by omega)
  obtain ⟨n1, n2⟩ := hv _ g3
  have he := xws_get (base := base) (ρ := xrho base ext) (cA := cA) (cB := cB) h5 hs
  have hlen : q.2.1 < ((List.range N).map (fun j => xcv (xrho base ext) (bif Nat.beq (xft q.1 j) 2 then .inr (mm.2.1 a j) else .inl (mm.2.2 a j)))).length := by rw [List.length_map, List.length_range]; exact hk
  have fin : ∀ (H1 : Heap) (locs1 : List Loc), va_P D vwCl ((xws base (xrho base ext) cA cB mm).set (a - 5) (base + (a - 5), .inr (q.1, ((List.range N).map (fun j => xcv (xrho base ext) (bif Nat.beq (xft q.1 j) 2 then .inr (mm.2.1 a j) else .inl (mm.2.2 a j)))).set q.2.1 (xcv (xrho base ext) v)))) H1 → va_D (xA base) ((xws base (xrho base ext) cA cB mm).set (a - 5) (base + (a - 5), .inr (q.1, ((List.range N).map (fun j => xcv (xrho base ext) (bif Nat.beq (xft q.1 j) 2 then .inr (mm.2.1 a j) else .inl (mm.2.2 a j)))).set q.2.1 (xcv (xrho base ext) v)))) → va_S (xA base) s.heap H1 locs1 → W p l e R s m args below meth c H1 locs1 cells slots Qw (F0 m (pc + 3) ls rest) := by
    intro H1 locs1 hP hD hS1
    rw [xfs_set (m := mm) (m2 := m2) hk h3 h4] at hP hD
    exact kk H1 locs1 (hR.set h5 hs h1 h2 hP hD) hS1
  rw [xrho_5 h5]
  cases hff : xff q.1 q.2.1 with
  | false => exact va_put (ci := q.1) (C := c3.1) (T := c3.2.1) (N := c3.2.2) hx hb hts (xlay hc) (xtyf q.1) t1 t2 hown hK hR.1 hR.2.1 hS (a - 5) he hc q.2.1 hkn (hts _ hlk) (fun _ h => h) (g1.trans hff) (t1 _ hkn) n1 n2 hlen hd fin
  | true =>
    obtain ⟨e1, e2⟩ := hf hff
    exact va_putF (ci := q.1) (C := c3.1) (T := c3.2.1) (N := c3.2.2) hx hb hts (xlay hc) (xtyf q.1) t1 t2 hown hK hR.1 hR.2.1 hS (a - 5) he hc q.2.1 hkn (hts _ hlk) (fun _ h => h) (g1.trans hff) e2 (g2.trans (by subst e1; exact xon_cl hc)) (t1 _ hkn) n1 n2 hlen hd fin
end XR2
