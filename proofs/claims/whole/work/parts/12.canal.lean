/-! A canal's picture: K o k, o the cell's number from the canal's own, k the place in it. Made by gen12.py. -/
abbrev KK : Type := Nat → Nat → Int
def cln (K : KK) (o : Nat) : Nat := match o with
  | 0 => 4 | 1 => 10 | 2 => 9 | 3 => 9 | 4 => 9 | 5 => 9 | 6 => 5 | 7 => 0 | 8 => 9 | 9 => 9 | 10 => 9 | 11 => 36 | 12 => 54 | 13 => 1 | 14 => (K 13 0).toNat | 15 => 6 | 16 => 6 | 17 => 24 | _ => 0
/-- the cells from c on hold K -/
def CK (c : Nat) (K D : KK) : Prop := ∀ o k, k < cln K o → D (c + o) k = K o k
/-- nothing has changed but canal c's cells and the laws' stacks -/
def Fr (c : Nat) (D E : KK) : Prop := ∀ b k, (b < c ∨ c + 19 ≤ b) → b ≠ 10 → b ≠ 14 → E b k = D b k
theorem Fr.rf {c : Nat} {D : KK} : Fr c D D := fun _ _ _ _ _ => rfl
theorem Fr.trans {c : Nat} {D E F : KK} (h : Fr c D E) (g : Fr c E F) : Fr c D F := fun b k h1 h2 h3 => (g b k h1 h2 h3).trans (h b k h1 h2 h3)
theorem xui_s {D : KK} {a j : Nat} {v : Int} : xui D a j v a j = v := if_pos ⟨rfl, rfl⟩
theorem xui_a {D : KK} {a j b k : Nat} {v : Int} (h : ¬ b = a) : xui D a j v b k = D b k := if_neg (fun q => h q.1)
theorem xui_j {D : KK} {a j b k : Nat} {v : Int} (h : ¬ k = j) : xui D a j v b k = D b k := if_neg (fun q => h q.2)
theorem xui_id {D : KK} {a j : Nat} : xui D a j (D a j) = D := by
  funext b k
  rcases Classical.em (b = a ∧ k = j) with ⟨rfl, rfl⟩ | q
  · exact xui_s
  · exact if_neg q
theorem Fr.up {c : Nat} {D E : KK} (h : Fr c D E) {o j : Nat} {v : Int} (ho : o < 19) : Fr c D (xui E (c + o) j v) := fun b k h1 h2 h3 => (xui_a (by omega)).trans (h b k h1 h2 h3)
theorem Fr.st {c : Nat} {D E F : KK} (h : Fr c D E) (g : ∀ b k, b ≠ 10 → b ≠ 14 → F b k = E b k) : Fr c D F := fun b k h1 h2 h3 => (g b k h2 h3).trans (h b k h1 h2 h3)
theorem ck_a {c : Nat} {K D : KK} (h : CK c K D) {o N : Nat} {z : Int} (hN : cln K o = N) (h0 : 0 ≤ z) (h1 : z < (N : Int)) : D (c + o) z.toNat = K o z.toNat := h o _ (by omega)
theorem ck_w {c : Nat} {K D : KK} (h : CK c K D) {z : Int} (h0 : 0 ≤ z) (h1 : z < K 13 0) : D (c + 14) z.toNat = K 14 z.toNat := h 14 _ (show z.toNat < (K 13 0).toNat by omega)
theorem cln_up {K : KK} {o j p : Nat} {v : Int} (ho : o ≠ 13) : cln (xui K o j v) p = cln K p := by
  have e : xui K o j v 13 0 = K 13 0 := xui_a (fun q => ho q.symm)
  unfold cln
  rw [e]
theorem CK_up {c : Nat} {K D : KK} (h : CK c K D) {o j : Nat} {v : Int} (ho : o ≠ 13) : CK c (xui K o j v) (xui D (c + o) j v) := by
  intro p k hk
  rw [cln_up ho] at hk
  show (if c + p = c + o ∧ k = j then v else D (c + p) k) = if p = o ∧ k = j then v else K p k
  rcases Classical.em (p = o ∧ k = j) with q | q
  · rw [if_pos q, if_pos ⟨by omega, q.2⟩]
  · rw [if_neg q, if_neg (fun r => q ⟨by omega, r.2⟩)]
    exact h p k hk
theorem CK_18 {c : Nat} {K D : KK} (h : CK c K D) {j : Nat} {v : Int} : CK c K (xui D (c + 18) j v) := by
  intro p k hk
  rw [xui_a]
  · exact h p k hk
  · intro q
    have e : p = 18 := by omega
    subst e
    exact absurd hk (Nat.not_lt_zero _)
/-- what lies elsewhere may change -/
theorem CK_fr {c : Nat} {K D E : KK} (h : CK c K D) (g : ∀ o k, o < 18 → E (c + o) k = D (c + o) k) : CK c K E := by
  intro p k hk
  rcases Nat.lt_or_ge p 18 with q | q
  · rw [g p k q]
    exact h p k hk
  · exfalso
    unfold cln at hk
    split at hk <;> omega
theorem CK_fr2 {a c : Nat} {K D E : KK} (h : CK a K D) (g : Fr c D E) (h1 : a + 18 ≤ c ∨ c + 19 ≤ a) (h2 : 14 < a) : CK a K E := CK_fr h (fun o k ho => g _ _ (by omega) (by omega) (by omega))
theorem XCm {d e i : Nat} {a : List XV} {m : XM} {r : Option XV} {m2 : XM} (h : XC d i a m r m2) (hde : Nat.ble d e = true) : XC e i a m r m2 := XC_le (Nat.le_of_ble_eq_true hde) h
def fset (f : Nat → Int) (j : Nat) (v : Int) : Nat → Int := fun k => if k = j then v else f k
def CF (c : Nat) (f : Nat → Int) (D : KK) : Prop := ∀ k, D (c + 18) k = f k
section XXc
variable {C : XCal} {i : Nat} {Q : XQ} {pc q : Nat} {loc : XLc} {st : List XV} {sh : List (Nat × Nat)} {rf : Nat → Nat → Option Nat} {dt d0 K : KK} {c : Nat}
theorem xc_isz {N o : Nat} {z v : Int} (hK : CK c K dt) (hF : Fr c d0 dt) (h : xi i pc = some (.iastore, 1)) (hq : pc + 1 = q) (hs : sh[c + o]? = some (0, N)) (ho : o < 19) (ho2 : o ≠ 13) (h0 : 0 ≤ z) (h1 : z < (N : Int)) (k : ∀ d2, CK c (xui K o z.toNat v) d2 → Fr c d0 d2 → XX C i Q q loc st (sh, rf, d2)) : XX C i Q pc loc (.inl v :: .inl z :: .inr (some (c + o)) :: st) (sh, rf, dt) := xx_isz h hq hs h0 h1 rfl (k _ (CK_up hK ho2) (hF.up ho))
theorem xc_fsz {N : Nat} {z v : Int} {f : Nat → Int} (hK : CK c K dt) (hF : Fr c d0 dt) (hA : CF c f dt) (h : xi i pc = some (.iastore, 1)) (hq : pc + 1 = q) (hs : sh[c + 18]? = some (0, N)) (h0 : 0 ≤ z) (h1 : z < (N : Int)) (k : ∀ d2, CK c K d2 → Fr c d0 d2 → CF c (fset f z.toNat v) d2 → XX C i Q q loc st (sh, rf, d2)) : XX C i Q pc loc (.inl v :: .inl z :: .inr (some (c + 18)) :: st) (sh, rf, dt) := xx_isz h hq hs h0 h1 rfl (k _ (CK_18 hK) (hF.up (by omega)) (fun j => by
  show (if c + 18 = c + 18 ∧ j = z.toNat then v else dt (c + 18) j) = if j = z.toNat then v else f j
  rw [hA j]
  rcases Classical.em (j = z.toNat) with e | e
  · rw [if_pos ⟨rfl, e⟩, if_pos e]
  · rw [if_neg (fun r => e r.2), if_neg e]))
theorem xc_puz {idx o ci kf pl N : Nat} {z : Int} (hK : CK c K dt) (hF : Fr c d0 dt) (h : xi i pc = some (.putfield idx, 3)) (hq : pc + 3 = q) (hl : xlk (xfo (xow i)) idx = some (ci, kf, pl)) (hs : sh[c + o]? = some (ci + 2, N)) (hk : kf < N) (hc : ci < 13) (hf : xff ci kf = true → xow i = ci ∧ (xpl i).2.2.2.2 = 3) (ht : xft ci kf = 0 ∨ (xft ci kf = 1 ∧ (z = 0 ∨ z = 1))) (ho : o < 19) (ho2 : o ≠ 13) (k : ∀ d2, CK c (xui K o kf z) d2 → Fr c d0 d2 → XX C i Q q loc st (sh, rf, d2)) : XX C i Q pc loc (.inl z :: .inr (some (c + o)) :: st) (sh, rf, dt) := xx_puz h hq hl hs hk hc hf ht rfl (k _ (CK_up hK ho2) (hF.up ho))
end XXc
def klo (o k : Nat) : Int := match o, k with
  | 0, 0 => 1
  | 1, _ => 0
  | 2, _ => 1
  | 3, _ => 0
  | 4, _ => 1
  | 6, _ => 0
  | 8, _ => -99
  | 9, _ => -1
  | 11, _ => -9
  | 12, _ => -99
  | 13, _ => 0
  | 14, _ => 0
  | 15, _ => 0
  | 16, _ => 0
  | 17, _ => 0
  | _, _ => -2147483648
def khi (o k : Nat) : Int := match o, k with
  | 0, 0 => 9
  | 1, _ => 999
  | 2, _ => 50
  | 3, _ => 9
  | 4, _ => 9
  | 6, _ => 1000
  | 8, _ => 99
  | 9, _ => 8
  | 11, _ => 9
  | 12, _ => 99
  | 13, _ => 6
  | 14, _ => 9
  | 15, _ => 99
  | 16, _ => 9
  | 17, _ => 99
  | _, _ => 2147483647
/-- the bounds within which a canal's numbers lie -/
def KI (K : KK) : Prop := ∀ o k, klo o k ≤ K o k ∧ K o k ≤ khi o k
theorem ki_1 {K : KK} (h : KI K) (p : Nat) : 0 ≤ K 1 p ∧ K 1 p ≤ 999 := h 1 p
theorem ki_2 {K : KK} (h : KI K) (p : Nat) : 1 ≤ K 2 p ∧ K 2 p ≤ 50 := h 2 p
theorem ki_3 {K : KK} (h : KI K) (p : Nat) : 0 ≤ K 3 p ∧ K 3 p ≤ 9 := h 3 p
theorem ki_4 {K : KK} (h : KI K) (p : Nat) : 1 ≤ K 4 p ∧ K 4 p ≤ 9 := h 4 p
theorem ki_5 {K : KK} (h : KI K) (p : Nat) : -2147483648 ≤ K 5 p ∧ K 5 p ≤ 2147483647 := h 5 p
theorem ki_6 {K : KK} (h : KI K) (p : Nat) : 0 ≤ K 6 p ∧ K 6 p ≤ 1000 := h 6 p
theorem ki_8 {K : KK} (h : KI K) (p : Nat) : -99 ≤ K 8 p ∧ K 8 p ≤ 99 := h 8 p
theorem ki_9 {K : KK} (h : KI K) (p : Nat) : -1 ≤ K 9 p ∧ K 9 p ≤ 8 := h 9 p
theorem ki_10 {K : KK} (h : KI K) (p : Nat) : -2147483648 ≤ K 10 p ∧ K 10 p ≤ 2147483647 := h 10 p
theorem ki_11 {K : KK} (h : KI K) (p : Nat) : -9 ≤ K 11 p ∧ K 11 p ≤ 9 := h 11 p
theorem ki_12 {K : KK} (h : KI K) (p : Nat) : -99 ≤ K 12 p ∧ K 12 p ≤ 99 := h 12 p
theorem ki_13 {K : KK} (h : KI K) (p : Nat) : 0 ≤ K 13 p ∧ K 13 p ≤ 6 := h 13 p
theorem ki_14 {K : KK} (h : KI K) (p : Nat) : 0 ≤ K 14 p ∧ K 14 p ≤ 9 := h 14 p
theorem ki_15 {K : KK} (h : KI K) (p : Nat) : 0 ≤ K 15 p ∧ K 15 p ≤ 99 := h 15 p
theorem ki_16 {K : KK} (h : KI K) (p : Nat) : 0 ≤ K 16 p ∧ K 16 p ≤ 9 := h 16 p
theorem ki_17 {K : KK} (h : KI K) (p : Nat) : 0 ≤ K 17 p ∧ K 17 p ≤ 99 := h 17 p
theorem ki_L {K : KK} (h : KI K) : 1 ≤ K 0 0 ∧ K 0 0 ≤ 9 := h 0 0
theorem ki_B {K : KK} (h : KI K) : 0 ≤ K 13 0 ∧ K 13 0 ≤ 6 := h 13 0
theorem KI_up {K : KK} (h : KI K) {o j : Nat} {v : Int} (h1 : klo o j ≤ v) (h2 : v ≤ khi o j) : KI (xui K o j v) := by
  intro p k
  rcases Classical.em (p = o ∧ k = j) with ⟨rfl, rfl⟩ | q
  · rw [xui_s]; exact ⟨h1, h2⟩
  · rw [show xui K o j v p k = K p k from if_neg q]; exact h p k
