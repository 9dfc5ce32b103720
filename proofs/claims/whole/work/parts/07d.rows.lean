set_option maxRecDepth 100000 in
theorem xw_cs : Cond.fieldLink (xon 14) 38 "java/lang/String" "COMPACT_STRINGS" "Z" ∈ xtb := xmem (pl := 717) (by decide +kernel)
set_option maxRecDepth 100000 in
theorem xw_sf : Cond.fieldLink (xon 14) 1053 "jdk/internal/util/Preconditions" "SIOOBE_FORMATTER" "Ljava/util/function/BiFunction;" ∈ xtb := xmem (pl := 733) (by decide +kernel)
set_option maxRecDepth 100000 in
theorem xw_pc : Cond.methodLink (xon 14) 1059 yJ3_checkIndex_8e157 ∈ xtb := xmem (pl := 735) (by decide +kernel)
set_option maxRecDepth 100000 in
theorem xw_nat : Cond.native arraycopyName ∈ xtb := xmem (pl := 989) (by decide +kernel)
set_option maxRecDepth 100000 in
theorem xw_stat : Cond.static arraycopyName ∈ xtb := xmem (pl := 988) (by decide +kernel)
set_option maxRecDepth 100000 in
theorem xw_sys : Cond.initialized "java/lang/System" ∈ xtb := xmem (pl := 161) (by decide +kernel)
set_option maxRecDepth 100000 in
theorem xw_max : Cond.static Lib.Math.max.name ∈ xtb := xmem (pl := 785) (by decide +kernel)
set_option maxRecDepth 100000 in
theorem xw_min : Cond.static Lib.Math.min.name ∈ xtb := xmem (pl := 788) (by decide +kernel)
set_option maxRecDepth 100000 in
theorem xw_mth : Cond.initialized "java/lang/Math" ∈ xtb := xmem (pl := 159) (by decide +kernel)
set_option maxRecDepth 100000 in
theorem xw_maxc : Cond.code Lib.Math.max.name Lib.Math.max.code 2 (some .int) ∈ xtb := xmem (pl := 786) (by decide +kernel)
set_option maxRecDepth 100000 in
theorem xw_minc : Cond.code Lib.Math.min.name Lib.Math.min.code 2 (some .int) ∈ xtb := xmem (pl := 789) (by decide +kernel)
set_option maxRecDepth 100000 in
theorem xw_int : Cond.arrayClass .int ∈ xtb := xmem (pl := 206) (by decide +kernel)
set_option maxRecDepth 100000 in
theorem xw_over : Cond.arrayOver (.object "LockWives$Canal") ∈ lw_tbl := List.mem_of_getElem? (i := 461) (by decide +kernel)
set_option maxRecDepth 100000 in
theorem xw_oi : Cond.instanceMethod objectInit ∈ xtb := xmem (pl := 169) (by decide +kernel)
set_option maxRecDepth 100000 in
theorem xw_oc : Cond.code objectInit ⟨#[0xb1]⟩ 1 none ∈ xtb := xmem (pl := 170) (by decide +kernel)
theorem xcpe (d : Nat → Nat → Int) (a b u w n : Nat) : va_cpy (fun k => Int32.ofInt (d a k)) (fun k => Int32.ofInt (d b k)) u w n = fun k => Int32.ofInt (xcp d a u b w n b k) := by
  funext k
  by_cases hk : w ≤ k ∧ k < w + n <;> simp [va_cpy, xcp, hk]
section XR3
variable {p : Program} {l : Launch} {e : Env} {R : Room} {s : State} {m : MethodId} {args : Array Value} {below : List Frame} {meth : Method} {c : Code} {Qw : State → Prop} {D : va_G} {cA cB : ClassId} {base L : Nat} {ext : Nat → Nat} {xs : Nat → Int32} {H : Heap} {locs : List Loc} {cells slots pc : Nat} {ls : Array Slot} {rest : List Value} {cc : ByteArray} {o : Nat} {mm : XM}
theorem xr_ial (hx : p.tables.exec = Jvm.exec) (hb : c.code = cc) (hK : va_K D vwCl (xty cA cB) s) (hR : xRep D cA cB base ext L xs mm H) {a n : Nat} {j : Int} (hs : mm.1[a]? = some (0, n)) (h0 : 0 ≤ j) (hj : j < (n : Int)) (okj : xok j) (hd : decode cc pc = .ok (.iaload, 1))
    (kk : W p l e R s m args below meth c H locs cells slots Qw (F0 m (pc + 1) ls (.int (Int32.ofInt (mm.2.2 a j.toNat)) :: rest))) :
    W p l e R s m args below meth c H locs cells slots Qw (F0 m pc ls (.int (Int32.ofInt j) :: .ref (xrho base ext a) :: rest)) := by
  have h5 := hR.2.2.five hs (by omega)
  rw [xrho_5 h5]
  refine va_iald hx hb hK hR.1 (a - 5) 0 (xws_get h5 hs) rfl (xo_in h0 okj hj) hd ?_
  rw [xo_cl h0 okj]
  exact kk
theorem xr_ias (hx : p.tables.exec = Jvm.exec) (hb : c.code = cc) (hK : va_K D vwCl (xty cA cB) s) (hR : xRep D cA cB base ext L xs mm H) (hS : va_S (xA base) s.heap H locs) {a n : Nat} {j v : Int} (hs : mm.1[a]? = some (0, n)) (h0 : 0 ≤ j) (hj : j < (n : Int)) (okj : xok j) (hd : decode cc pc = .ok (.iastore, 1))
    (kk : ∀ H1 locs1, xRep D cA cB base ext L xs (mm.1, mm.2.1, xui mm.2.2 a j.toNat v) H1 → va_S (xA base) s.heap H1 locs1 → W p l e R s m args below meth c H1 locs1 cells slots Qw (F0 m (pc + 1) ls rest)) :
    W p l e R s m args below meth c H locs cells slots Qw (F0 m pc ls (.int (Int32.ofInt v) :: .int (Int32.ofInt j) :: .ref (xrho base ext a) :: rest)) := by
  have h5 := hR.2.2.five hs (by omega)
  rw [xrho_5 h5]
  refine va_iast hx hb hK hR.1 hR.2.1 hS (a - 5) 0 (xws_get h5 hs) rfl (xo_in h0 okj hj) hd (fun H1 locs1 hP hD hS1 => ?_)
  rw [xo_cl h0 okj] at hP hD
  have e : upd (fun k => Int32.ofInt (mm.2.2 a k)) j.toNat (Int32.ofInt v) = fun k => Int32.ofInt (xui mm.2.2 a j.toNat v a k) := by
    funext k
    by_cases hk : k = j.toNat
    · subst hk; simp [upd, xui]
    · simp [upd, xui, hk]
  rw [e] at hP hD
  exact kk H1 locs1 (hR.set (m2 := (mm.1, mm.2.1, xui mm.2.2 a j.toNat v)) h5 hs rfl (fun b hb k => ⟨rfl, if_neg (fun q => hb q.1)⟩) hP hD) hS1
theorem xr_aal (hx : p.tables.exec = Jvm.exec) (hb : c.code = cc) (hK : va_K D vwCl (xty cA cB) s) (hR : xRep D cA cB base ext L xs mm H) {a n : Nat} {j : Int} (hs : mm.1[a]? = some (1, n)) (h0 : 0 ≤ j) (hj : j < (n : Int)) (okj : xok j) (hd : decode cc pc = .ok (.aaload, 1))
    (kk : W p l e R s m args below meth c H locs cells slots Qw (F0 m (pc + 1) ls (xcv (xrho base ext) (.inr (mm.2.1 a j.toNat)) :: rest))) :
    W p l e R s m args below meth c H locs cells slots Qw (F0 m pc ls (.int (Int32.ofInt j) :: .ref (xrho base ext a) :: rest)) := by
  have h5 := hR.2.2.five hs (by omega)
  rw [xrho_5 h5]
  refine va_aldq hx hb hK hR.1 (a - 5) 1 (xws_get h5 hs) rfl (xo_in h0 okj hj) hd ?_
  rw [xo_cl h0 okj]
  exact kk
theorem xr_aas (hx : p.tables.exec = Jvm.exec) (hb : c.code = cc) (hK : va_K D vwCl (xty cA cB) s) (hR : xRep D cA cB base ext L xs mm H) (hS : va_S (xA base) s.heap H locs) {a n v N : Nat} {j : Int} (hs : mm.1[a]? = some (1, n)) (hv : mm.1[v]? = some (3, N)) (h0 : 0 ≤ j) (hj : j < (n : Int)) (okj : xok j) (hd : decode cc pc = .ok (.aastore, 1))
    (kk : ∀ H1 locs1, xRep D cA cB base ext L xs (mm.1, xur mm.2.1 a j.toNat (some v), mm.2.2) H1 → va_S (xA base) s.heap H1 locs1 → W p l e R s m args below meth c H1 locs1 cells slots Qw (F0 m (pc + 1) ls rest)) :
    W p l e R s m args below meth c H locs cells slots Qw (F0 m pc ls (.ref (xrho base ext v) :: .int (Int32.ofInt j) :: .ref (xrho base ext a) :: rest)) := by
  have h5 := hR.2.2.five hs (by omega)
  have h6 := hR.2.2.five hv (by omega)
  have hv1 := xws_get (base := base) (ρ := xrho base ext) (cA := cA) (cB := cB) h6 hv
  rw [← xrho_5 (ext := ext) h6] at hv1
  rw [xrho_5 (a := a) h5]
  refine va_astq (r := (RX1, TX1, 17)) hx hb hK hR.1 hR.2.1 hS (a - 5) 1 (v - 5) 1 (xws_get h5 hs) rfl hv1 rfl (xo_in h0 okj hj) hd (fun H1 locs1 hP hD hS1 => ?_)
  rw [xo_cl h0 okj] at hP hD
  have e : va_up (fun k => (mm.2.1 a k).map (xrho base ext)) j.toNat (some (xrho base ext v)) = fun k => (xur mm.2.1 a j.toNat (some v) a k).map (xrho base ext) := by
    funext k
    by_cases hk : k = j.toNat
    · subst hk; simp [va_up, xur]
    · simp [va_up, xur, hk]
  rw [e] at hP hD
  exact kk H1 locs1 (hR.set (m2 := (mm.1, xur mm.2.1 a j.toNat (some v), mm.2.2)) h5 hs rfl (fun b hb k => ⟨if_neg (fun q => hb q.1), rfl⟩) hP hD) hS1
theorem xr_alen (hx : p.tables.exec = Jvm.exec) (hb : c.code = cc) (hK : va_K D vwCl (xty cA cB) s) (hR : xRep D cA cB base ext L xs mm H) {a n : Nat} (hs : mm.1[a]? = some (0, n) ∨ mm.1[a]? = some (1, n)) (hd : decode cc pc = .ok (.arraylength, 1))
    (kk : W p l e R s m args below meth c H locs cells slots Qw (F0 m (pc + 1) ls (.int (Int32.ofInt (n : Int)) :: rest))) :
    W p l e R s m args below meth c H locs cells slots Qw (F0 m pc ls (.ref (xrho base ext a) :: rest)) := by
  rcases hs with hs | hs
  · have h5 := hR.2.2.five hs (by omega)
    rw [xrho_5 h5]
    exact va_alen hx hb hK hR.1 (a - 5) 0 (xws_get h5 hs) rfl (v := Int32.ofInt (n : Int)) rfl hd kk
  · have h5 := hR.2.2.five hs (by omega)
    rw [xrho_5 h5]
    exact va_alen hx hb hK hR.1 (a - 5) 1 (xws_get h5 hs) rfl (v := Int32.ofInt (n : Int)) rfl hd kk
theorem xr_copy (hx : p.tables.exec = Jvm.exec) (hb : c.code = cc) (hml : c.maxLocals = ls.size) (hts : ∀ w ∈ xtb, w.before args s = true) (hown : s.vm.findClass (xon o) = some m.cls) (hK : va_K D vwCl (xty cA cB) s) (hR : xRep D cA cB base ext L xs mm H) (hS : va_S (xA base) s.heap H locs) {idx a b na nb : Nat} {sp dp n : Int} (hlk : Cond.methodLink (xon o) idx arraycopyName ∈ xtb) (ha : mm.1[a]? = some (0, na)) (hb2 : mm.1[b]? = some (0, nb))
    (h1 : 0 ≤ sp) (h2 : 0 ≤ dp) (h3 : 0 ≤ n) (h4 : sp + n ≤ (na : Int)) (h5 : dp + n ≤ (nb : Int)) (o1 : xok sp) (o2 : xok dp) (o3 : xok n) (hfr : 1 ≤ R.frames) (hlo : (rest.map fun v => v.category).sum + (nativeFrameWords "java/lang/System" "arraycopy" 5 + 11) ≤ R.locals) (hd : decode cc pc = .ok (.invokestatic idx, 3))
    (kk : ∀ H1 locs1, xRep D cA cB base ext L xs (mm.1, mm.2.1, xcp mm.2.2 a sp.toNat b dp.toNat n.toNat) H1 → va_S (xA base) s.heap H1 locs1 → W p l e R s m args below meth c H1 locs1 cells slots Qw (F0 m (pc + 3) ls rest)) :
    W p l e R s m args below meth c H locs cells slots Qw (F0 m pc ls (.int (Int32.ofInt n) :: .int (Int32.ofInt dp) :: .ref (xrho base ext b) :: .int (Int32.ofInt sp) :: .ref (xrho base ext a) :: rest)) := by
  have g5 := hR.2.2.five ha (by omega)
  have g6 := hR.2.2.five hb2 (by omega)
  rw [xrho_5 (a := a) g5, xrho_5 (a := b) g6]
  refine va_copyi hx hb hml hown (hts _ hlk) (hts _ xw_nat) (hts _ xw_stat) (hts _ xw_sys) hK hR.1 hR.2.1 hS (a - 5) (b - 5) 0 0 (xws_get g5 ha) (xws_get g6 hb2) rfl rfl rfl (xo_ng h1 o1) (xo_ng h2 o2) (xo_ng h3 o3) (by rw [xo_cl h1 o1, xo_cl h3 o3]; omega) (by rw [xo_cl h2 o2, xo_cl h3 o3]; omega) (fun _ _ => rfl) hfr hlo hd (fun H1 locs1 hP hD hS1 => ?_)
  rw [xo_cl h1 o1, xo_cl h2 o2, xo_cl h3 o3] at hP hD
  have e := xcpe mm.2.2 a b sp.toNat dp.toNat n.toNat
  rw [e] at hP hD
  exact kk H1 locs1 (hR.set (m2 := (mm.1, mm.2.1, xcp mm.2.2 a sp.toNat b dp.toNat n.toNat)) g6 hb2 rfl (fun b2 hb2 k => ⟨rfl, if_neg (fun q => hb2 q.1)⟩) hP hD) hS1
end XR3
