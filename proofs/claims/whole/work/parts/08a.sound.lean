/-! SOUNDNESS of the Lean machine: what it says is what the Java machine does -/
def xokV (v : XV) : Prop := match v with
  | .inl z => xok z
  | .inr _ => True
def xokS (st : List XV) : Prop := ∀ v ∈ st, xokV v
def xokL (loc : XLc) : Prop := ∀ v, some v ∈ loc → xokV v
def xokMm (m : XM) : Prop := ∀ a j, xok (m.2.2 a j)
def xokRt (r : Option XV) : Prop := ∀ v, r = some v → xokV v
def xsl (l : List (Nat × Nat)) : Nat := (l.map (fun q => q.2)).sum
theorem xsl_app (a b : List (Nat × Nat)) : xsl (a ++ b) = xsl a + xsl b := by simp [xsl, List.sum_append]
theorem xpre_len {a b : List (Nat × Nat)} (h : a <+: b) : a.length ≤ b.length ∧ xsl a ≤ xsl b := by
  obtain ⟨t, rfl⟩ := h
  rw [List.length_append, xsl_app]
  omega
theorem xcat (ρ : Nat → Nat) (v : XV) : (xcv ρ v).category = 1 := by
  rcases v with z | o
  · rfl
  · cases o <;> rfl
theorem xcats (ρ : Nat → Nat) (st : List XV) : ((st.map (xcv ρ)).map fun v => v.category).sum = st.length := by
  induction st with
  | nil => rfl
  | cons a t ih => simp only [List.map_cons, List.sum_cons, xcat, ih, List.length_cons]; omega
def xLoc (ρ : Nat → Nat) (ls : Array Slot) (loc : XLc) : Prop := ls.size = loc.length ∧ lv_wf ls ∧ ∀ (k : Nat) (v : XV), loc[k]? = some (some v) → ls[k]? = some (Slot.val (xcv ρ v))
def xlv (ρ : Nat → Nat) (loc : XLc) : List (Nat × Value) := (List.range loc.length).filterMap (fun k => (loc.getD k none).map (fun v => (k, xcv ρ v)))
theorem xlv_mem {ρ : Nat → Nat} {loc : XLc} {q : Nat × Value} : q ∈ xlv ρ loc ↔ ∃ v, loc[q.1]? = some (some v) ∧ q.2 = xcv ρ v := by
  unfold xlv
  rw [List.mem_filterMap]
  constructor
  · rintro ⟨k, hk, h⟩
    have hk := List.mem_range.mp hk
    rw [List.getD_eq_getElem?_getD, List.getElem?_eq_getElem hk] at h
    cases hv : loc[k] with
    | none => rw [hv] at h; cases h
    | some v =>
      rw [hv] at h
      cases h
      exact ⟨v, by rw [List.getElem?_eq_getElem hk, hv], rfl⟩
  · rintro ⟨v, h, e⟩
    have hl := (List.getElem?_eq_some_iff.mp h).1
    refine ⟨q.1, List.mem_range.mpr hl, ?_⟩
    rw [List.getD_eq_getElem?_getD, h]
    show some (q.1, xcv ρ v) = some q
    rw [← e]
theorem xLoc.has {ρ : Nat → Nat} {ls : Array Slot} {loc : XLc} (h : xLoc ρ ls loc) : lv_has ls loc.length (xlv ρ loc) := by
  refine ⟨h.1, h.2.1, fun q hq => ?_⟩
  obtain ⟨v, h1, h2⟩ := xlv_mem.mp hq
  rw [h2]
  exact h.2.2 _ _ h1
theorem xLoc.set {ρ : Nat → Nat} {ls : Array Slot} {loc : XLc} {i : Nat} {v : XV} (hi : i < loc.length) (h : lv_has ls loc.length ((i, xcv ρ v) :: (xlv ρ loc).filter (fun q => !(q.1 == i) && !(q.1 + 1 == i && q.2.category == 2)))) : xLoc ρ ls (loc.set i (some v)) := by
  obtain ⟨h1, h2, h3⟩ := h
  refine ⟨by rw [List.length_set]; exact h1, h2, fun k w hk => ?_⟩
  by_cases e : k = i
  · subst e
    rw [List.getElem?_set_self hi] at hk
    cases hk
    exact h3 (k, xcv ρ v) List.mem_cons_self
  · rw [List.getElem?_set_ne (fun q => e q.symm)] at hk
    refine h3 (k, xcv ρ w) (List.mem_cons_of_mem _ (List.mem_filter.mpr ⟨xlv_mem.mpr ⟨w, hk, rfl⟩, ?_⟩))
    simp [e, xcat]
theorem xokL_set {loc : XLc} {i : Nat} {v : XV} (h : xokL loc) (hv : xokV v) : xokL (loc.set i (some v)) := by
  intro w hw
  rcases List.mem_or_eq_of_mem_set hw with h1 | h1
  · exact h w h1
  · cases h1; exact hv
theorem xokL_get {loc : XLc} {i : Nat} {v : XV} (h : xokL loc) (hv : loc[i]? = some (some v)) : xokV v := h v (List.mem_of_getElem? hv)
def xEx (base : Nat) (ext : Nat → Nat) (L : Nat) (xs : Nat → Int32) (U : State) : Prop :=
  va_X (ext 0) L xs U U.heap ∧ ext 0 < base ∧ base ≤ U.heap.size ∧ vk_S 2 [158, 10] xbyt (fun i => ext (i + 1)) (fun i => ext (i + 3)) (xA base) U U.heap ∧ va_Z "java/lang/String" "COMPACT_STRINGS" "Z" (.int 1) (xA base) U U.heap ∧ va_Zq "jdk/internal/util/Preconditions" "SIOOBE_FORMATTER" "Ljava/util/function/BiFunction;" (xA base) U U.heap ∧ vk_R "LockWives$Tape" 89 (xtx 1).2 (ext 1) U ∧ vk_R "LockWives$Tape" 60 (xtx 2).2 (ext 2) U ∧ va_AO "LockWives$Canal" U ∧ (∀ a i x h, Cond.methodLinkNest a i x h ∈ lw_tbl → va_Nw (.methodLinkNest a i x h) U)
theorem xEx.call {base : Nat} {ext : Nat → Nat} {L : Nat} {xs : Nat → Int32} {s U : State} {H : Heap} {locs : List Loc} (h : xEx base ext L xs s) (hS : va_S (xA base) s.heap H locs) (hU : U.heap = H) (hW : s.WarmedH U.vm) : xEx base ext L xs U := by
  obtain ⟨h1, h2, h3, h4, h5, h6, h7, h8, h9, h10⟩ := h
  subst hU
  have ha := hW.alike
  have nb : ¬ xA base (ext 0) := Nat.not_le.mpr h2
  refine ⟨(h1.kept (hS.2.1 _ (Nat.lt_of_lt_of_le h2 h3) nb)).moved ha, h2, Nat.le_trans h3 hS.1, (h4.kept hS.2.1).moved ha, (h5.kept hS.2.1).moved ha, ?_, h7.warm hW, h8.warm hW, h9.moved ha, fun a i x h hm => (h10 a i x h hm).warmM hW⟩
  rcases h6 with h6 | ⟨t, h6⟩
  · exact Or.inl ((h6.kept hS.2.1).moved ha)
  · exact Or.inr ⟨t, (h6.kept hS.2.1).moved ha⟩
def xPc (D : va_G) (cA cB : ClassId) (base : Nat) (ext : Nat → Nat) (L : Nat) (xs : Nat → Int32) (As : List XV) (m : XM) : Array Value → State → Prop := va_Pc (As.map (xcv (xrho base ext))) (fun U => xRep D cA cB base ext L xs m U.heap ∧ va_K D vwCl (xty cA cB) U ∧ xEx base ext L xs U ∧ U.heap.size + 5 = base + m.1.length)
def xQc (D : va_G) (cA cB : ClassId) (base : Nat) (ext : Nat → Nat) (L : Nat) (xs : Nat → Int32) (r : Option XV) (m' : XM) : Array Value → State → Outcome → State → Prop := fun _ st oc t => oc = .returned (r.map (xcv (xrho base ext))) ∧ xRep D cA cB base ext L xs m' t.heap ∧ va_F (xA base) st t
def xwd (j : Nat) : List Cond := Cond.code (xy j) (xc j) (xml j) (xrt j) :: xtb
def xroom (d : Nat) (m m' : XM) : Room := { frames := 3 * d, cells := m'.1.length - m.1.length, slots := xsl m'.1 - xsl m.1, locals := 120 * d }
def xMet (d j : Nat) (As : List XV) (m : XM) (r : Option XV) (m' : XM) : Prop := ∀ (l : Launch) (D : va_G) (cA cB : ClassId) (base : Nat) (ext : Nat → Nat) (L : Nat) (xs : Nat → Int32),
  Met l (xy j) (xwd j) (xroom d m m') (xPc D cA cB base ext L xs As m) (xQc D cA cB base ext L xs r m') (m'.1.length - m.1.length) (xsl m'.1 - xsl m.1) (xA base)
def xGood (C : XCal) (d : Nat) : Prop := ∀ j As m r m', C j As m r m' → xokS As → xokMm m → j < 316 ∧ m.1 <+: m'.1 ∧ xokRt r ∧ xokMm m' ∧ xMet d j As m r m'
def xRetAt (i : Nat) (r : Option XV) (pc : Nat) : Prop := match r with
  | some (.inl z) => xrok (xrt i) z ∧ decode (xc i) pc = .ok (.ireturn, 1)
  | some (.inr _) => (∃ n, xrt i = some (.object n)) ∧ decode (xc i) pc = .ok (.areturn, 1)
  | none => xrt i = none ∧ decode (xc i) pc = .ok (.return_, 1)
section XSnd
variable (d i : Nat) (r : Option XV) (m' : XM) (p : Program) (l : Launch) (e : Env) (R : Room) (s : State) (m : MethodId) (args : Array Value) (below : List Frame) (meth : Method) (c : Code) (Qw : State → Prop) (D : va_G) (cA cB : ClassId) (base : Nat) (ext : Nat → Nat) (L : Nat) (xs : Nat → Int32) (m0 : XM)
def xCx : Prop :=
  (p.tables.exec = Jvm.exec ∧ c.code = xc i ∧ c.maxLocals = xml i ∧ s.vm.findClass (xon (xow i)) = some m.cls ∧ ∀ w ∈ xtb, w.before args s = true) ∧ ((xpl i).2.2.2.2 = 3 → meth.name = "<init>") ∧
  (3 * (d + 1) ≤ R.frames ∧ 120 * (d + 1) ≤ R.locals ∧ m'.1.length - m0.1.length ≤ R.cells ∧ xsl m'.1 - xsl m0.1 ≤ R.slots) ∧
  (va_K D vwCl (xty cA cB) s ∧ xEx base ext L xs s ∧ 5 ≤ m0.1.length ∧ s.heap.size + 5 = base + m0.1.length) ∧
  ∀ (H : Heap) (locs : List Loc) (ls : Array Slot) (pc cells slots : Nat), xRep D cA cB base ext L xs m' H → va_S (xA base) s.heap H locs → cells + m0.1.length = m'.1.length → slots + xsl m0.1 = xsl m'.1 → xRetAt i r pc → W p l e R s m args below meth c H locs cells slots Qw (F0 m pc ls (r.map (xcv (xrho base ext))).toList)
end XSnd
def xSim (d i : Nat) (r : Option XV) (m' : XM) (pc : Nat) (loc : XLc) (st : List XV) (mm : XM) : Prop :=
  ∀ (p : Program) (l : Launch) (e : Env) (R : Room) (s : State) (m : MethodId) (args : Array Value) (below : List Frame) (meth : Method) (c : Code) (Qw : State → Prop) (D : va_G) (cA cB : ClassId) (base : Nat) (ext : Nat → Nat) (L : Nat) (xs : Nat → Int32) (m0 : XM),
    xCx d i r m' p l e R s m args below meth c Qw D cA cB base ext L xs m0 → ∀ (H : Heap) (locs : List Loc) (ls : Array Slot) (cells slots : Nat), xRep D cA cB base ext L xs mm H → va_S (xA base) s.heap H locs → xLoc (xrho base ext) ls loc → loc.length = xml i → cells + m0.1.length = mm.1.length → slots + xsl m0.1 = xsl mm.1 → W p l e R s m args below meth c H locs cells slots Qw (F0 m pc ls (st.map (xcv (xrho base ext))))
def xRes (d i : Nat) (Q : Option XV → XM → Prop) (pc : Nat) (loc : XLc) (st : List XV) (mm : XM) : Prop := ∃ r m', Q r m' ∧ mm.1 <+: m'.1 ∧ xokRt r ∧ xokMm m' ∧ xSim d i r m' pc loc st mm
/-- a step that leaves the heap -/
theorem xRes.simple {d i : Nat} {Q : Option XV → XM → Prop} {pc pc2 : Nat} {loc loc2 : XLc} {st st2 : List XV} {mm : XM} (hl : loc2.length = loc.length)
    (hstep : ∀ (p : Program) (l : Launch) (e : Env) (R : Room) (s : State) (m : MethodId) (args : Array Value) (below : List Frame) (meth : Method) (c : Code) (Qw : State → Prop) (H : Heap) (locs : List Loc) (cells slots : Nat) (ls : Array Slot) (ρ : Nat → Nat), p.tables.exec = Jvm.exec → c.code = xc i → s.vm.findClass (xon (xow i)) = some m.cls → (∀ w ∈ xtb, w.before args s = true) → xLoc ρ ls loc →
      (∀ ls2, xLoc ρ ls2 loc2 → W p l e R s m args below meth c H locs cells slots Qw (F0 m pc2 ls2 (st2.map (xcv ρ)))) → W p l e R s m args below meth c H locs cells slots Qw (F0 m pc ls (st.map (xcv ρ))))
    (h : xRes d i Q pc2 loc2 st2 mm) : xRes d i Q pc loc st mm := by
  obtain ⟨r, m', h1, h2, h3, h4, sim⟩ := h
  refine ⟨r, m', h1, h2, h3, h4, ?_⟩
  intro p l e R s m args below meth c Qw D cA cB base ext L xs m0 cx H locs ls cells slots hR hS hL hlen hc hs
  have sim := sim p l e R s m args below meth c Qw D cA cB base ext L xs m0 cx
  obtain ⟨⟨hx, hb, hml, hown, hts⟩, -⟩ := cx
  exact hstep p l e R s m args below meth c Qw H locs cells slots ls (xrho base ext) hx hb hown hts hL (fun ls2 hL2 => sim H locs ls2 cells slots hR hS hL2 (hl.trans hlen) hc hs)
