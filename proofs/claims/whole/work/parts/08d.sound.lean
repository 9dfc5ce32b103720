theorem xlvargs {ρ : Nat → Nat} : ∀ (vs : List XV) (i k : Nat) (v : XV), vs[k]? = some v → (i + k, xcv ρ v) ∈ lv_args i (vs.map (xcv ρ))
  | [], _, _, _, h => by simp at h
  | w :: vs, i, 0, v, h => by
    cases h
    exact List.mem_cons_self
  | w :: vs, i, k + 1, v, h => by
    have h2 : vs[k]? = some v := h
    have h3 := xlvargs (ρ := ρ) vs (i + 1) k v h2
    show (i + (k + 1), xcv ρ v) ∈ (i, xcv ρ w) :: lv_args (if (xcv ρ w).category = 2 then i + 2 else i + 1) (vs.map (xcv ρ))
    rw [xcat, if_neg (by omega)]
    rw [show i + (k + 1) = i + 1 + k by omega]
    exact List.mem_cons_of_mem _ h3
theorem xlgsl {ρ : Nat → Nat} : ∀ vs : List XV, (lg_sl (vs.map (xcv ρ))).length = vs.length
  | [] => rfl
  | v :: vs => by
    have h := xlgsl (ρ := ρ) vs
    have e : lg_sl ((v :: vs).map (xcv ρ)) = lg_sl [xcv ρ v] ++ lg_sl (vs.map (xcv ρ)) := by
      show (xcv ρ v :: vs.map (xcv ρ)).flatMap _ = [xcv ρ v].flatMap _ ++ (vs.map (xcv ρ)).flatMap _
      rw [List.flatMap_cons]
      simp
    rw [e, List.length_append, h]
    have e2 : (lg_sl [xcv ρ v]).length = 1 := by
      rcases v with z | o
      · rfl
      · cases o <;> rfl
    rw [e2, List.length_cons]
    omega
theorem xentL {ρ : Nat → Nat} {i : Nat} {As : List XV} {ls : Array Slot} (hn : As.length ≤ xml i) (h : lv_has ls (xml i) (lv_args 0 (As.map (xcv ρ)))) : xLoc ρ ls (xent i As) ∧ (xent i As).length = xml i := by
  have hl : (xent i As).length = xml i := by
    unfold xent
    rw [List.length_append, List.length_map, List.length_replicate]
    omega
  refine ⟨⟨h.1.trans hl.symm, h.2.1, fun k v hk => ?_⟩, hl⟩
  have hk2 : As[k]? = some v := by
    unfold xent at hk
    rcases Nat.lt_or_ge k As.length with q | q
    · rw [List.getElem?_append_left (by rw [List.length_map]; exact q), List.getElem?_map, List.getElem?_eq_getElem q] at hk
      rw [List.getElem?_eq_getElem q]
      exact Option.some.inj hk
    · rw [List.getElem?_append_right (by rw [List.length_map]; exact q)] at hk
      have := List.eq_of_mem_replicate (List.mem_of_getElem? hk)
      cases this
  have h3 := h.2.2 _ (xlvargs As 0 k v hk2)
  dsimp only at h3
  rw [Nat.zero_add] at h3
  exact h3
theorem xentOk {i : Nat} {As : List XV} (h : xokS As) : xokL (xent i As) := by
  intro v hv
  unfold xent at hv
  rcases List.mem_append.mp hv with q | q
  · obtain ⟨w, h1, h2⟩ := List.mem_map.mp q
    cases h2
    exact h v h1
  · have := List.eq_of_mem_replicate q
    cases this
set_option maxHeartbeats 4000000 in
/-- every method that the Lean machine runs, the Java machine runs alike -/
theorem xgood : ∀ d, xGood (XC d) d := by
  intro d
  induction d with
  | zero => intro j As m r m' h; exact h.elim
  | succ d ih =>
    intro j As m r m' h oA oM
    obtain ⟨hj, hAs, n, hw⟩ := h
    obtain ⟨r2, m2, ⟨rfl, rfl⟩, hp, okr, okm, sim⟩ := xsnd ih (i := j) (by omega) n 0 (xent j As) [] m hw (xentOk oA) (fun v hv => by cases hv) oM
    refine ⟨hj, hp, okr, okm, ?_⟩
    intro l D cA cB base ext L xs
    obtain ⟨y1, y2, y3, y4, y5, y6, y7, y8, y9⟩ := xY_1 hj
    refine Met.ofW (cc := xc j) (maxL := xml j) (ret := xrt j) y2 rfl ?_
    intro p e s mi args below meth c s₁ B hml hv
    obtain ⟨rfl, hR, hK, hE, hz⟩ := hv
    have hx := B.exec
    have hb := B.bytes
    have hr := B.returns
    have hlocks := B.notSynchronized
    have hts : ∀ w ∈ xtb, w.before (As.map (xcv (xrho base ext))).toArray s = true := fun w hw => atoms_spec (ws := xwd j) B.pre w (List.mem_cons_of_mem _ hw)
    have hown : s.vm.findClass (xon (xow j)) = some mi.cls := by
      rw [← y6]
      exact findClass_of_methodNamed B.named
    have hl := lv_entry (As.map (xcv (xrho base ext))) (n := xml j) (by rw [xlgsl]; exact hAs)
    rw [lg_entry_eq]
    generalize (lg_sl (As.map (xcv (xrho base ext))) ++ List.replicate (xml j - (lg_sl (As.map (xcv (xrho base ext)))).length) Slot.unset).toArray = ls at hl ⊢
    obtain ⟨hL, hlen⟩ := xentL hAs hl
    refine sim p l e (headSpec (xwd j) (xroom (d + 1) m m2)).room s mi _ below meth c _ D cA cB base ext L xs m ⟨⟨hx, hb, hml, hown, hts⟩, fun h => ?_, ⟨Nat.le_refl _, Nat.le_refl _, Nat.le_refl _, Nat.le_refl _⟩, ⟨hK, hE, hR.2.2.len, hz⟩, ?_⟩ s.heap [] ls 0 0 hR va_S.rf hL hlen (Nat.zero_add _) (Nat.zero_add _)
    · rw [(name_of_methodNamed B.named B.method).1]
      exact (y9 h).2.1
    · intro H locs ls2 pc cells slots hR2 hS2 hcl hsl hret
      have hcE : cells = m2.1.length - m.1.length := by omega
      have hsE : slots = xsl m2.1 - xsl m.1 := by omega
      subst hcE
      subst hsE
      cases r2 with
      | none =>
        obtain ⟨h1, h2⟩ := hret
        exact W.vret hx hb (hr.trans h1) (fun t ht _ => ⟨rfl, by rw [ht]; exact hR2, hS2.F ht⟩) hS2.2.2 h2
      | some v =>
        cases v with
        | inl z =>
          obtain ⟨h1, h2⟩ := hret
          have hq : ∀ t : State, t.heap = H → s.WarmedH t.vm → xQc D cA cB base ext L xs (some (.inl z)) m2 (As.map (xcv (xrho base ext))).toArray s (.returned (some (.int (Int32.ofInt z)))) t := fun t ht _ => ⟨rfl, by rw [ht]; exact hR2, hS2.F ht⟩
          have oz : xok z := okr _ rfl
          cases hrt : xrt j with
          | none => rw [hrt] at h1; exact h1.elim
          | some ty =>
            rw [hrt] at h1 hr
            have hn : narrow ty (.int (Int32.ofInt z)) = .int (Int32.ofInt z) := by
              cases ty with
              | int => rfl
              | boolean => rcases h1 with rfl | rfl <;> decide +kernel
              | char =>
                have h1 : 0 ≤ z ∧ z < 65536 := h1
                obtain ⟨q, rfl⟩ : ∃ q : Nat, z = (q : Int) := ⟨z.toNat, by omega⟩
                exact (pk_charN (q := q) (by omega)).1
              | byte =>
                have h1 : -128 ≤ z ∧ z < 128 := h1
                show Value.int (Int32.ofInt z).toInt8.toInt32 = _
                rw [Int32.toInt8_ofInt, xconst_i8 h1]
              | _ => exact h1.elim
            exact W.zret hx hb hr hn hq hS2.2.2 h2
        | inr o =>
          obtain ⟨⟨nm, h1⟩, h2⟩ := hret
          refine W.aret hx hb (hr.trans h1) (Or.inl ⟨nm, rfl⟩) ?_ (fun t ht _ => ⟨rfl, by rw [ht]; exact hR2, hS2.F ht⟩) hS2.2.2 h2
          cases o with
          | none => exact Or.inl rfl
          | some a => exact Or.inr ⟨_, rfl⟩
