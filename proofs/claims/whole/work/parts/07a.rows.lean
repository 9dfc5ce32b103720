/-! THE MACHINE'S WORLD OF A MEMORY -/
def xcv (ρ : Nat → Nat) : XV → Value
  | .inl z => .int (Int32.ofInt z)
  | .inr o => va_rf (o.map ρ)
def xrho (base : Nat) (ext : Nat → Nat) (a : Nat) : Nat := bif Nat.blt a 5 then ext a else base + (a - 5)
theorem xrho_5 {base : Nat} {ext : Nat → Nat} {a : Nat} (h : 5 ≤ a) : xrho base ext a = base + (a - 5) := by
  unfold xrho
  rw [show Nat.blt a 5 = false from Bool.eq_false_iff.mpr (fun q => by have := Nat.le_of_ble_eq_true q; omega)]
  rfl
def xE (ρ : Nat → Nat) (cA cB : ClassId) (m : XM) (a : Nat) (sh : Nat × Nat) : va_E := match sh.1 with
  | 0 => .inl (cA, sh.2, .inl (fun j => Int32.ofInt (m.2.2 a j)))
  | 1 => .inl (cB, sh.2, .inr (.inr (.inr (.inr (fun j => (m.2.1 a j).map ρ)))))
  | k + 2 => .inr (k, (List.range sh.2).map (fun j => xcv ρ (bif Nat.beq (xft k j) 2 then .inr (m.2.1 a j) else .inl (m.2.2 a j))))
def xws (base : Nat) (ρ : Nat → Nat) (cA cB : ClassId) (m : XM) : va_W := (List.range (m.1.length - 5)).map (fun k => (base + k, xE ρ cA cB m (k + 5) (m.1.getD (k + 5) (0, 0))))
def xbyt : List (List Int32) := [[108, 101, 116, 32, 104, 111, 108, 100, 32, 108, 105, 107, 101, 32, 119, 104, 101, 110, 32, 111, 114, 32, 97, 110, 100, 32, 110, 111, 116, 32, 108, 105, 107, 105, 110, 103, 32, 109, 111, 111, 100, 32, 114, 105, 118, 97, 108, 32, 108, 111, 99, 107, 32, 104, 111, 117, 114, 32, 100, 114, 97, 117, 103, 104, 116, 32, 97, 98, 111, 118, 101, 32, 98, 101, 108, 111, 119, 32, 117, 112, 32, 112, 97, 115, 115, 101, 115, 32, 116, 119, 111, 32, 103, 111, 111, 100, 32, 97, 109, 111, 117, 110, 116, 32, 116, 97, 115, 116, 101, 32, 112, 114, 101, 115, 101, 110, 116, 115, 32, 112, 97, 115, 115, 32, 103, 105, 118, 101, 32, 112, 117, 108, 108, 32, 119, 97, 105, 116, 32, 100, 111, 119, 110, 32, 119, 105, 116, 104, 32, 111, 102, 32, 116, 111, 32, 98, 121, 32], [59, 43, 45, 42, 47, 40, 41, 60, 61, 62]]
def xMx (L : Nat) (xs : Nat → Int32) (m : XM) : Prop := (m.1[0]? = some (20, L) ∧ m.1[1]? = some (21, 2) ∧ m.1[2]? = some (21, 2) ∧ m.1[3]? = some (22, 158) ∧ m.1[4]? = some (22, 10)) ∧ (∀ j, j < L → m.2.2 0 j = (xs j).toInt) ∧ (m.2.1 1 0 = some 3 ∧ m.2.1 2 0 = some 4) ∧ (m.2.2 1 1 = 0 ∧ m.2.2 2 1 = 0) ∧ (∀ i j, i < 2 → j < [158, 10].getD i 0 → m.2.2 (i + 3) j = ((xbyt.getD i []).getD j 0).toInt)
theorem xMx.five {L : Nat} {xs : Nat → Int32} {m : XM} (h : xMx L xs m) {a k n : Nat} (hs : m.1[a]? = some (k, n)) (hk : k < 20) : 5 ≤ a := by
  obtain ⟨⟨h0, h1, h2, h3, h4⟩, -⟩ := h
  rcases Nat.lt_or_ge a 5 with q | q
  · have : a = 0 ∨ a = 1 ∨ a = 2 ∨ a = 3 ∨ a = 4 := by omega
    rcases this with rfl | rfl | rfl | rfl | rfl
    · rw [h0] at hs; cases hs; omega
    · rw [h1] at hs; cases hs; omega
    · rw [h2] at hs; cases hs; omega
    · rw [h3] at hs; cases hs; omega
    · rw [h4] at hs; cases hs; omega
  · exact q
theorem xMx.len {L : Nat} {xs : Nat → Int32} {m : XM} (h : xMx L xs m) : 5 ≤ m.1.length := (List.getElem?_eq_some_iff.mp h.1.2.2.2.2).1
theorem xMx.set {L : Nat} {xs : Nat → Int32} {m m2 : XM} (h : xMx L xs m) (h1 : m2.1 = m.1) (h2 : ∀ b, b < 5 → ∀ j, m2.2.1 b j = m.2.1 b j ∧ m2.2.2 b j = m.2.2 b j) : xMx L xs m2 := by
  obtain ⟨ha, hb, hc, hd, he⟩ := h
  refine ⟨by rw [h1]; exact ha, fun j hj => ?_, ⟨?_, ?_⟩, ⟨?_, ?_⟩, fun i j hi hj => ?_⟩
  · rw [(h2 0 (by omega) j).2]; exact hb j hj
  · rw [(h2 1 (by omega) 0).1]; exact hc.1
  · rw [(h2 2 (by omega) 0).1]; exact hc.2
  · rw [(h2 1 (by omega) 1).2]; exact hd.1
  · rw [(h2 2 (by omega) 1).2]; exact hd.2
  · rw [(h2 (i + 3) (by omega) j).2]; exact he i j hi hj
theorem xMx.push {L : Nat} {xs : Nat → Int32} {m : XM} (h : xMx L xs m) (kd n : Nat) : xMx L xs (xpush m kd n) := by
  have h5 := h.len
  obtain ⟨⟨h0, h1, h2, h3, h4⟩, hb, hc, hd, he⟩ := h
  have e : ∀ b, b < 5 → ∀ j, (xpush m kd n).2.1 b j = m.2.1 b j ∧ (xpush m kd n).2.2 b j = m.2.2 b j := by
    intro b hb j
    have : ¬ b = m.1.length := by omega
    exact ⟨if_neg this, if_neg this⟩
  have g : ∀ b, b < 5 → (xpush m kd n).1[b]? = m.1[b]? := fun b hb => List.getElem?_append_left (by omega)
  refine ⟨⟨(g 0 (by omega)).trans h0, (g 1 (by omega)).trans h1, (g 2 (by omega)).trans h2, (g 3 (by omega)).trans h3, (g 4 (by omega)).trans h4⟩, fun j hj => ?_, ⟨?_, ?_⟩, ⟨?_, ?_⟩, fun i j hi hj => ?_⟩
  · rw [(e 0 (by omega) j).2]; exact hb j hj
  · rw [(e 1 (by omega) 0).1]; exact hc.1
  · rw [(e 2 (by omega) 0).1]; exact hc.2
  · rw [(e 1 (by omega) 1).2]; exact hd.1
  · rw [(e 2 (by omega) 1).2]; exact hd.2
  · rw [(e (i + 3) (by omega) j).2]; exact he i j hi hj
theorem xws_get {base : Nat} {ρ : Nat → Nat} {cA cB : ClassId} {m : XM} {a : Nat} {sh : Nat × Nat} (h5 : 5 ≤ a) (h : m.1[a]? = some sh) : (xws base ρ cA cB m)[a - 5]? = some (base + (a - 5), xE ρ cA cB m a sh) := by
  have hl : a < m.1.length := (List.getElem?_eq_some_iff.mp h).1
  unfold xws
  rw [List.getElem?_map, List.getElem?_range (by omega)]
  have e : a - 5 + 5 = a := by omega
  simp only [Option.map_some, e, List.getD_eq_getElem?_getD, h, Option.getD_some]
theorem xws_len {base : Nat} {ρ : Nat → Nat} {cA cB : ClassId} {m : XM} : (xws base ρ cA cB m).length = m.1.length - 5 := by simp [xws]
theorem xE_cong {ρ : Nat → Nat} {cA cB : ClassId} {m m2 : XM} {a : Nat} (sh : Nat × Nat) (h : ∀ j, m2.2.1 a j = m.2.1 a j ∧ m2.2.2 a j = m.2.2 a j) : xE ρ cA cB m2 a sh = xE ρ cA cB m a sh := by
  have e1 : m2.2.1 a = m.2.1 a := funext fun j => (h j).1
  have e2 : m2.2.2 a = m.2.2 a := funext fun j => (h j).2
  unfold xE
  rw [e1, e2]
theorem xws_set {base : Nat} {ρ : Nat → Nat} {cA cB : ClassId} {m m2 : XM} {a : Nat} {sh : Nat × Nat} (h5 : 5 ≤ a) (h : m.1[a]? = some sh) (h1 : m2.1 = m.1) (h2 : ∀ b, b ≠ a → ∀ j, m2.2.1 b j = m.2.1 b j ∧ m2.2.2 b j = m.2.2 b j) :
    xws base ρ cA cB m2 = (xws base ρ cA cB m).set (a - 5) (base + (a - 5), xE ρ cA cB m2 a sh) := by
  have hl : a < m.1.length := (List.getElem?_eq_some_iff.mp h).1
  apply List.ext_getElem?
  intro k
  by_cases hk : k = a - 5
  · subst hk
    rw [List.getElem?_set_self (by rw [xws_len]; omega)]
    exact xws_get h5 (by rw [h1]; exact h)
  · rw [List.getElem?_set_ne (fun q => hk q.symm)]
    by_cases hkl : k + 5 < m.1.length
    · obtain ⟨q, hq⟩ : ∃ q, m.1[k + 5]? = some q := ⟨_, List.getElem?_eq_getElem hkl⟩
      have g1 := xws_get (base := base) (ρ := ρ) (cA := cA) (cB := cB) (m := m) (by omega : 5 ≤ k + 5) hq
      have g2 := xws_get (base := base) (ρ := ρ) (cA := cA) (cB := cB) (m := m2) (by omega : 5 ≤ k + 5) (by rw [h1]; exact hq)
      rw [show k + 5 - 5 = k by omega] at g1 g2
      rw [g1, g2, xE_cong q (h2 (k + 5) (by omega))]
    · rw [List.getElem?_eq_none (by rw [xws_len, h1]; omega), List.getElem?_eq_none (by rw [xws_len]; omega)]
theorem xws_push {base : Nat} {ρ : Nat → Nat} {cA cB : ClassId} {m : XM} {kd n : Nat} (h5 : 5 ≤ m.1.length) :
    xws base ρ cA cB (xpush m kd n) = xws base ρ cA cB m ++ [(base + (m.1.length - 5), xE ρ cA cB (xpush m kd n) m.1.length (kd, n))] := by
  apply List.ext_getElem?
  intro k
  have hn : (xpush m kd n).1 = m.1 ++ [(kd, n)] := rfl
  by_cases hk : k < m.1.length - 5
  · rw [List.getElem?_append_left (by rw [xws_len]; exact hk)]
    have hkl : k + 5 < m.1.length := by omega
    obtain ⟨q, hq⟩ : ∃ q, m.1[k + 5]? = some q := ⟨_, List.getElem?_eq_getElem hkl⟩
    have g1 := xws_get (base := base) (ρ := ρ) (cA := cA) (cB := cB) (m := m) (by omega : 5 ≤ k + 5) hq
    have g2 := xws_get (base := base) (ρ := ρ) (cA := cA) (cB := cB) (m := xpush m kd n) (a := k + 5) (sh := q) (by omega : 5 ≤ k + 5) (by rw [hn, List.getElem?_append_left hkl]; exact hq)
    rw [show k + 5 - 5 = k by omega] at g1 g2
    have hne : ¬ k + 5 = m.1.length := by omega
    rw [g1, g2, xE_cong q (fun j => ⟨if_neg hne, if_neg hne⟩)]
  · rw [List.getElem?_append_right (by rw [xws_len]; omega), xws_len]
    by_cases hk2 : k = m.1.length - 5
    · subst hk2
      have g2 := xws_get (base := base) (ρ := ρ) (cA := cA) (cB := cB) (m := xpush m kd n) (a := m.1.length) (sh := (kd, n)) h5 (by rw [hn, List.getElem?_append_right (Nat.le_refl _), Nat.sub_self]; rfl)
      rw [g2, Nat.sub_self]
      rfl
    · rw [List.getElem?_eq_none (by rw [xws_len, hn, List.length_append]; simp; omega), List.getElem?_eq_none (by simp; omega)]
def xA (base : Nat) : Nat → Prop := fun q => base ≤ q
/-- the heap holds the memory -/
def xRep (D : va_G) (cA cB : ClassId) (base : Nat) (ext : Nat → Nat) (L : Nat) (xs : Nat → Int32) (m : XM) (H : Heap) : Prop :=
  va_P D vwCl (xws base (xrho base ext) cA cB m) H ∧ va_D (xA base) (xws base (xrho base ext) cA cB m) ∧ xMx L xs m
abbrev xty (cA cB : ClassId) : List (ClassId × FieldType) := [(cA, .int), (cB, .object "LockWives$Canal")]
