/-! THE CLAIM OUT OF ONE WALK OF THE LAW'S BODY. Your part is whole_start (and what it stands on); all else here is the same for every law, but numbers. -/
def R_law : String := "LockWivesLaw"
def lw_P (b : Addr) (xs : List Int32) (args : Array Value) (s : State) : Prop := args = #[.ref b] ∧ s.IntsAt b xs ∧ xs.length ≤ 3072 ∧ (Jvm.Cond.and given_1 narrow_1).before args s = true
def lw_Q (_ : Array Value) (s : State) (o : Outcome) (t : State) : Prop := o = .returned (some (.int 1)) ∧ Framed s o t [] 600000 7302249
def lw_Z (below : List Frame) (a : Array Value) (s : State) : State → Prop := fun t => ∃ o, t.status = .running ∧ Ended t below o ∧ lw_Q a s o t
/-- the law's own end, with 1 on the stack, nothing written that was there before, its room as the claim has it -/
theorem lw_ret {p : Program} {l : Launch} {e : Env} {s : State} {m : MethodId} {below : List Frame} {meth : Method} {c : Code} {b : Nat} (hx : p.tables.exec = Jvm.exec) (hb : c.code = code) (hr : meth.sig.returnType = ret) (hlocks : meth.locks = false) {pc : Nat} {H : Heap} {ls : Array Slot} (hdg : decode code pc = .ok (.ireturn, 1)) : W p l e room_1 s m #[Value.ref b] below meth c H [] 600000 7302249 (lw_Z below #[Value.ref b] s) (F0 m pc ls [.int 1]) := by
  intro T hT X
  obtain ⟨fs, hret, hrun, hended, hW, hframe⟩ := X.leave (v := some (.int 1)) (hlocks := hlocks) (fun h => by rw [hr] at h; cases h)
  have hmeth' : T.vm.method? m = some meth := X.method'
  refine ⟨T.setFrames fs, ?_, .returned (some (.int 1)), hrun, hended, rfl, ⟨_, rfl⟩, hW, hframe⟩
  jvm_step X.here [X.here.top, hx, hb, hdg, hmeth', hr, ret, narrow_b1]
  (try refine ⟨rfl, ?_⟩); (try refine ⟨rfl, ?_⟩)
  first | (intro acts; rw [hret _ acts rfl rfl rfl]) | rw [hret _ _ rfl rfl rfl]
  exact Steps.refl _
/-- what holds at the law's entry: the machine, the code, the tables' words (any of lw_tbl by 'hts w (by decide +kernel)'), the script of L ints xs at the cell b, what the Statement gives of the start (any of its parts by flat_of_before) -/
def lw_At (p : Program) (s : State) (m : MethodId) (meth : Method) (c : Code) (b L : Nat) (xs : Nat → Int32) : Prop :=
  p.tables.exec = Jvm.exec ∧ c.code = code ∧ meth.sig.returnType = ret ∧ c.maxLocals = 4 ∧ s.vm.findClass R_law = some m.cls ∧ (∀ w ∈ lw_tbl, w.before #[Value.ref b] s = true) ∧ va_X b L xs s s.heap ∧ b < s.heap.size ∧ meth.locks = false ∧ (Jvm.Cond.and given_1 narrow_1).before #[Value.ref b] s = true
/-- from the entry, for every script of at most 3072 ints, the law comes to its end with true -/
theorem whole_start {p : Program} {e : Env} {s : State} {m : MethodId} {below : List Frame} {meth : Method} {c : Code} (l : Launch) (hflags : l.flags = flags0) {b L : Nat} {xs : Nat → Int32} (hL : L ≤ 3072) (C0 : lw_At p s m meth c b L xs) : W p l e room_1 s m #[Value.ref b] below meth c s.heap [] 0 0 (lw_Z below #[Value.ref b] s) (entryFrame m ([Value.ref b] : List Value).toArray 4) := by
  obtain ⟨hx, hb, hr, hml, hown, hts, hX, hbl, hlocks, hgv⟩ := id C0
  have hs := flat_of_before gvnC hgv
  have hA : ∀ a : Nat, a < s.heap.size → ¬ xA s.heap.size a := fun a h q => absurd h (Nat.not_lt.mpr q)
  obtain ⟨adK, adV, hvS, hvE⟩ := gv_S (A := xA s.heap.size) hs hA
  have hk : ∀ ci : Nat, ∃ g : ClassId × (Nat → Nat), ∀ q, vwCl[ci]? = some q → u_Kn s q.1 q.2.1 q.2.2 g.1 g.2 := by
    intro ci
    cases hq : vwCl[ci]? with
    | none => exact ⟨(0, fun _ => 0), fun q h => by cases h⟩
    | some q0 =>
      obtain ⟨cC, iS, h1⟩ := u_known (C := q0.1) (T := q0.2.1) (N := q0.2.2) (n := q0.2.2) hts (fun w hw => (List.mem_filter.mp (xlay hq w hw)).1) (hts _ (xins hq))
      exact ⟨(cC, iS), fun q h => by cases h; exact h1⟩
  obtain ⟨cA, kA, compA, hA1, hA2, hA3⟩ := Cond.arrayClass_spec (hts _ (List.mem_filter.mp xw_int).1)
  obtain ⟨compB, cB, kB, hB1, hB2, hB3, hB4, hB5⟩ := Cond.arrayOver_spec (hts _ xw_over)
  have hK : va_K (fun ci => (Classical.choose (hk ci)).1, fun ci => (Classical.choose (hk ci)).2) vwCl (xty cA cB) s := by
    refine ⟨fun ci q hq => Classical.choose_spec (hk ci) q hq, fun k q hq => ?_⟩
    match k, hq with
    | 0, hq =>
      cases hq
      exact ⟨fun N z => ⟨fun k h => (by cases h), kA, hA2, compA, hA3⟩, hA1⟩
    | 1, hq =>
      cases hq
      exact ⟨fun N z => ⟨fun k h => (by cases h), kB, hB3, compB, hB4⟩, kB, compB, hB3, hB4, hB1, hB5⟩
    | k + 2, hq => cases hq
  generalize (((fun ci => (Classical.choose (hk ci)).1, fun ci => (Classical.choose (hk ci)).2)) : va_G) = D at hK
  obtain ⟨ext, x0, x1, x2, x3, x4⟩ : ∃ ext : Nat → Nat, ext 0 = b ∧ ext 1 = adK 0 ∧ ext 2 = adK 1 ∧ ext 3 = adV 0 ∧ ext 4 = adV 1 := ⟨fun k => if k = 0 then b else if k = 1 then adK 0 else if k = 2 then adK 1 else if k = 3 then adV 0 else adV 1, rfl, rfl, rfl, rfl, rfl⟩
  have hvS2 : vk_S 2 [158, 10] xbyt (fun i => ext (i + 1)) (fun i => ext (i + 3)) (xA s.heap.size) s s.heap := by
    have eK : ∀ i, i < 2 → ext (i + 1) = adK i := fun i hi => by
      rcases (show i = 0 ∨ i = 1 by omega) with q | q <;> subst q
      · exact x1
      · exact x2
    have eV : ∀ i, i < 2 → ext (i + 3) = adV i := fun i hi => by
      rcases (show i = 0 ∨ i = 1 by omega) with q | q <;> subst q
      · exact x3
      · exact x4
    refine ⟨fun i hi => ?_, fun i j hi hj q => hvS.2 i j hi hj (by rw [← eK i hi, ← eK j hj]; exact q)⟩
    dsimp only
    rw [eK i hi, eV i hi]
    exact hvS.1 i hi
  have hEx : xEx s.heap.size ext L xs s := by
    refine ⟨by rw [x0]; exact hX, by rw [x0]; exact hbl, Nat.le_refl _, hvS2, va_Zof (hts _ xw_csL) (hts _ xw_si) (va_eqi (hs _ gv_cs)) hA, va_Zqof (hts _ xw_pf) (hts _ xw_pi) (hs _ gv_pf) hA, ?_, ?_, va_AO.of (hts _ xw_over), fun a i x h hm => va_Nw.of rfl (hts _ hm)⟩
    · rw [x1]
      exact vk_R.of (hts _ xw_t1) (hvE 0 (by decide))
    · rw [x2]
      exact vk_R.of (hts _ xw_t2) (hvE 1 (by decide))
  obtain ⟨n, hw⟩ := law_runs (n := L) (Q := fun r mm => r = some (.inl 1) ∧ mm.1 = xS L) hL (d0_S xs) (fun j => d0_ok xs 0 j) (fun R D => ⟨rfl, rfl⟩)
  obtain ⟨r, m', ⟨hr1, hm1⟩, -, -, -, sim⟩ := xsnd (xgood 35) (i := 316) (by decide) n 0 _ [] _ hw (fun v hv => by
    simp only [List.mem_cons, List.not_mem_nil, or_false, Option.some.injEq] at hv
    rcases hv with q | q | q | q
    · subst q; exact trivial
    · cases q
    · cases q
    · cases q) (fun v hv => by cases hv) (fun a j => d0_ok xs a j)
  subst hr1
  have hl := lv_entry ([.ref b]) (n := 4) (Nat.le_of_ble_eq_true rfl)
  rw [lg_entry_eq]
  generalize (lg_sl ([.ref b]) ++ List.replicate (4 - (lg_sl ([.ref b])).length) Slot.unset).toArray = ls at hl ⊢
  have hl2 : lv_has ls (xml 316) (lv_args 0 (([.inr (some 0)] : List XV).map (xcv (xrho s.heap.size ext)))) := by
    have e0 : ([.inr (some 0)] : List XV).map (xcv (xrho s.heap.size ext)) = [.ref b] := by
      show [Value.ref (ext 0)] = [Value.ref b]
      rw [x0]
    rw [e0]
    exact hl
  obtain ⟨hLoc, hlen⟩ := xentL (i := 316) (Nat.le_of_ble_eq_true rfl) hl2
  have hz0 : xsl xS0 ≤ 100000 := xsl_0
  have hz1 : xsl (b5 L) = L + 172 := by
    show ([(20, L), (21, 2), (21, 2), (22, 158), (22, 10)].map (fun q : Nat × Nat => q.2)).sum = L + 172
    simp
  have hz2 := xsl_S (L := L)
  have hz3 := xS_len (L := L)
  refine sim p l e room_1 s m #[Value.ref b] below meth c (lw_Z below #[Value.ref b] s) D cA cB s.heap.size ext L xs (b5 L, R00, d0 xs) ⟨⟨hx, hb, hml, hown, fun w hw => hts w (List.mem_filter.mp hw).1⟩, fun h => absurd h (by decide), ⟨Nat.le_of_ble_eq_true rfl, Nat.le_of_ble_eq_true rfl, ?_, ?_⟩, ⟨hK, hEx, Nat.le_refl _, rfl⟩, ?_⟩ s.heap [] ls 0 0 ⟨fun k q h => (by cases h), ⟨fun i j p q h => (by cases h), fun k q h => (by cases h)⟩, d0_M xs⟩ va_S.rf hLoc hlen rfl (Nat.zero_add _)
  · rw [hm1, hz3]
    exact Nat.le_of_ble_eq_true rfl
  · rw [hm1, hz2]
    show L + xsl xS0 - xsl (b5 L) ≤ 7302249
    omega
  · intro H locs ls2 pc cells slots _ hS hc1 hs1 hret
    rw [hm1] at hc1 hs1
    rw [hz3] at hc1
    rw [hz2] at hs1
    have hc1 : cells + 5 = 516 := hc1
    refine va_forget (fun q hq => hS.2.2 q hq) ?_
    refine W.widen (k := 600000) (n := 7302249) (by omega) (by omega) ?_
    show W p l e room_1 s m #[Value.ref b] below meth c H [] 600000 7302249 (lw_Z below #[Value.ref b] s) (F0 m pc ls2 [.int (Int32.ofInt 1)])
    rw [show Int32.ofInt 1 = 1 by decide +kernel]
    exact lw_ret hx hb hr hlocks hret.2
set_option maxHeartbeats 4000000 in
theorem lw_walk (l : Launch) (hflags : l.flags = flags0) (b : Addr) (xs : List Int32) : MetFree l x (headSpec (Jvm.Cond.code x code maxLocals ret :: tables_1) room_1) (lw_P b xs) (fun _ _ _ _ _ => True) lw_Q := by
  refine MetFree.of_bodyS (code := code) (maxLocals := maxLocals) (ret := ret) (by decide) ?_ ?_
  · intro args s m h hn
    obtain ⟨meth, c, h1, h2, h3, h4, h5, h6, -, -⟩ := Cond.code_spec hn (atoms_spec (ws := Jvm.Cond.code x code maxLocals ret :: tables_1) h _ List.mem_cons_self)
    exact ⟨meth, c, h1, h2, h3, h4, h5, h6⟩
  · intro p e s m args below meth c s₁ B hml0 hP _
    obtain ⟨rfl, hx, hbd, hgv⟩ := hP
    obtain ⟨scr, harrAt, hlist, hof, hsmall⟩ := hx
    obtain ⟨hcb, hkn, -, -⟩ := State.arrayAt?_spec harrAt
    have hown : s.vm.findClass R_law = some m.cls := findClass_of_methodNamed B.named
    have hts0 : ∀ c ∈ (Jvm.Cond.code x code maxLocals ret :: tables_1), c.before #[Value.ref b] s = true := atoms_spec (ws := Jvm.Cond.code x code maxLocals ret :: tables_1) B.pre
    have hts : ∀ w ∈ lw_tbl, w.before #[Value.ref b] s = true := k2_hts_sels lw_privs (fun w hw => hts0 w (List.mem_cons_of_mem _ hw)) lw_privs_ok
    have hml : c.maxLocals = 4 := B.maxLocals_eq (hts0 _ List.mem_cons_self)
    have X₀ : Stand p l e room_1 s m #[Value.ref b] below meth c s₁ [] 0 0 := Stand.of_body B
    have hh0 : s₁.heap = s.heap := by rw [B.state]; rfl
    have hsz : scr.slots.size = xs.length := by rw [← Array.length_toList, hlist, List.length_map]
    have hval : ∀ j : Nat, j < xs.length → scr.slots[j]? = some (.int (xs.getD j 0)) := fun j hj => by
      rw [← Array.getElem?_toList, hlist]
      simp [hj]
    have hbl : b < s.heap.size := (Array.getElem?_eq_some_iff.mp hcb).1
    have hX : va_X b xs.length (fun j => xs.getD j 0) s s.heap := ⟨scr, hcb, hof, hkn, hsz, hval⟩
    have K : W p l e room_1 s m #[Value.ref b] below meth c s₁.heap [] 0 0 (lw_Z below #[Value.ref b] s) (entryFrame m ([Value.ref b] : List Value).toArray 4) := by
      rw [hh0]
      exact whole_start l hflags hbd ⟨B.exec, B.bytes, B.returns, hml, hown, hts, hX, hbl, B.notSynchronized, hgv⟩
    obtain ⟨t, a1, o, b1, b2, b3⟩ := K s₁ rfl X₀
    exact ⟨t, o, a1, b1, b2, b3⟩
theorem lw_pre_spec {args : Array Value} {s : State} (h : (Jvm.Cond.and given_1 narrow_1).before args s = true) (hr : rest_1_c.before args s = true) : ∃ (b : Addr) (xs : List Int32), lw_P b xs args s := by
  have hs := flat_of_before _ h
  have hq := flat_of_before _ hr
  have hc : (Cond.count 1).before args s = true := hs _ (by decide +kernel)
  have harr : (Cond.arrayOf (.arg 0) .int).before args s = true := hs _ (by decide +kernel)
  have hle : (Cond.le (.length (.arg 0)) (.int 3072)).before args s = true := hs _ (by decide +kernel)
  have hlen : (Cond.isInt (.length (.arg 0))).before args s = true := hq _ (by decide +kernel)
  have hall : (Cond.all (.arg 0) (.isInt (.elem (.arg 0) (.index 0)))).before args s = true := hq _ (by decide +kernel)
  obtain ⟨b, xs, hb, hx⟩ := State.ints_of_pre rfl harr hlen hall
  have hsm : xs.length < 2 ^ 31 := hx.choose_spec.2.2.2
  have hev : (Term.length (.arg 0)).eval args s none [] s = some (.int xs.length.toInt32) := hx.length_eval hb
  have hv := Cond.le_ints hev (show (Term.int 3072).eval args s none [] s = some (.int 3072) from rfl)
  have hd : xs.length.toInt32 ≤ 3072 := by
    simpa [Cond.before, Cond.holds, hv] using hle
  have hN : xs.length ≤ 3072 := (Int32.ofNat_le_ofNat hsm (by decide)).mp (show Int32.ofNat xs.length ≤ Int32.ofNat 3072 from hd)
  exact ⟨b, xs, Cond.one_arg hc (show args[0]? = some (.ref b) from hb), hx, hN, h⟩
theorem lw_comes (l : Launch) (hflags : l.flags = flags0) : Comes l x (Jvm.Cond.code x code maxLocals ret :: tables_1) room_1 (fun tb e args s => Calls_1 tb e args s ∧ rest_1 tb e args s ∧ Pre_1 tb e args s)
    (fun _ _ args s o t => lw_Q args s o t) := by
  intro p e ha hc hk s m args below hf hfit hheap happ hpre
  obtain ⟨b, xs, hP⟩ := lw_pre_spec hpre.2.2 hpre.2.1
  obtain ⟨k, o, h1, h2, h3, hQ⟩ := lw_walk l hflags b xs p e ha hc hk s m args below hf ((Spec.applies_iff_loose hf).mp happ).1 hP trivial
  exact ⟨k, o, h1, h2, h3, hQ⟩
theorem lw_frame {s t : State} {o : Outcome} {args : Array Value} (h : Framed s o t [] 600000 7302249) :
    Framed s o t (fieldLocs frame_1_writes args s ++ arrayLocs frame_1_arrays args s ++ staticLocs frame_1_statics s) 600000 7302249 := h
theorem lw_limb (L : Cond) (hL : ∀ (args : Array Value) (s t : State), L.after args s (.returned (some (.int 1))) t = true) :
    ArmFor flags0 classFile x code maxLocals ret World_1 tables_1 room_1 Calls_1 rest_1 Pre_1
      (fun tb e a s o t => postC L tb e a s o t ∧ Framed s o t (fieldLocs frame_1_writes a s ++ arrayLocs frame_1_arrays a s ++ staticLocs frame_1_statics s) 600000 7302249) := by
  intro l hflags _ _ p e ha hc hk s m args below hf hfit hheap happ hpre
  obtain ⟨k, o, h1, h2, h3, rfl, hF⟩ := lw_comes l hflags p e ha hc hk s m args below hf hfit hheap happ hpre
  exact ⟨k, _, h1, h2, h3, hL args s _, lw_frame hF⟩
theorem i_vc : Claimed_1_1 ∧ Claimed_1_2 := ⟨lw_limb limb_1_1 (fun args s t => by simp [limb_1_1, Cond.after, Cond.holds, Cond.value]), lw_limb limb_1_2 (fun args s t => Cond.after_iff.mpr (by
  first | (rw [show limb_1_2 = Cond.eq .result (.int 1) from rfl, Cond.eq_ints (x := 1) (y := 1) rfl rfl]; simp; done) | (simp [limb_1_2, Cond.value, Term.eval]; done)))⟩
