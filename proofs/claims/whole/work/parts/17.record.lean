/-! The canal that is: book, past, doings with a record. -/
def BK (b : Int) (B : Nat → Int) (D : KK) : Prop := D 25 0 = b ∧ 0 ≤ b ∧ b ≤ 150 ∧ ∀ k, k < 750 → D 26 k = B k
def notb (b : Int) : Int := if b < 150 then b + 1 else b
def notB (b : Int) (B : Nat → Int) (hour sort lock boat much : Int) : Nat → Int := if b < 150 then fset (fset (fset (fset (fset B (b * 5).toNat hour) (b * 5 + 1).toNat sort) (b * 5 + 2).toNat lock) (b * 5 + 3).toNat boat) (b * 5 + 4).toNat much else B
abbrev UU : Type := List (KK × Int)
def PS (U : UU) (D : KK) : Prop := ∃ nx : Nat, nx < 10 ∧ U.length ≤ 10 ∧ D 86 0 = (U.length : Int) ∧ D 86 1 = (nx : Int) ∧ ∀ i (u : KK × Int), U[i]? = some u → CK (89 + 19 * ((nx + 9 - i) % 10)) u.1 D ∧ KI u.1 ∧ D 88 ((nx + 9 - i) % 10) = u.2 ∧ 0 ≤ u.2 ∧ u.2 ≤ 150
def FN (D E : KK) : Prop := ∀ b k, (b < 25 ∨ (46 ≤ b ∧ b < 86) ∨ 279 ≤ b) → b ≠ 10 → b ≠ 14 → E b k = D b k
theorem FN.rf {D : KK} : FN D D := fun _ _ _ _ _ => rfl
theorem FN.trans {D E F : KK} (h : FN D E) (g : FN E F) : FN D F := fun b k h1 h2 h3 => (g b k h1 h2 h3).trans (h b k h1 h2 h3)
theorem FN.fr {D E F : KK} (h : FN D E) (g : Fr 27 E F) : FN D F := fun b k h1 h2 h3 => (g b k (by omega) h2 h3).trans (h b k h1 h2 h3)
theorem BK.fr {b : Int} {B : Nat → Int} {D E : KK} (h : BK b B D) (g : ∀ k, E 25 k = D 25 k ∧ E 26 k = D 26 k) : BK b B E := ⟨(g 0).1.trans h.1, h.2.1, h.2.2.1, fun k hk => (g k).2.trans (h.2.2.2 k hk)⟩
theorem PS.fr {U : UU} {D E : KK} (h : PS U D) (g : ∀ b k, 86 ≤ b → b < 279 → E b k = D b k) : PS U E := by
  obtain ⟨nx, h1, h2, h3, h4, h5⟩ := h
  refine ⟨nx, h1, h2, (g 86 0 (by omega) (by omega)).trans h3, (g 86 1 (by omega) (by omega)).trans h4, fun i u hu => ?_⟩
  obtain ⟨q1, q2, q3, q4⟩ := h5 i u hu
  exact ⟨CK_fr q1 (fun o k ho => g _ _ (by omega) (by omega)), q2, (g 88 _ (by omega) (by omega)).trans q3, q4⟩
def NWd (K : KK) (b : Int) (B : Nat → Int) (U : UU) (D0 D : KK) : Prop := CK 27 K D ∧ BK b B D ∧ PS U D ∧ FN D0 D
theorem NWd.fr {K K2 : KK} {b : Int} {B : Nat → Int} {U : UU} {D0 D E : KK} (h : NWd K b B U D0 D) (hK : CK 27 K2 E) (g : Fr 27 D E) : NWd K2 b B U D0 E := ⟨hK, h.2.1.fr (fun k => ⟨g 25 k (by omega) (by omega) (by omega), g 26 k (by omega) (by omega) (by omega)⟩), h.2.2.1.fr (fun b k h1 h2 => g b k (by omega) (by omega) (by omega)), h.2.2.2.fr g⟩
theorem LwG.fn {G : LwF} {n : Nat} {R : Nat → Nat → Option Nat} {D E : KK} (h : LwG G n R D) (g : FN D E) : LwG G n R E := LawS.fr h (fun b k q1 q2 => g b k (by omega) (by omega) (by omega))
theorem LwH.fn {G : LwF} {n : Nat} {R : Nat → Nat → Option Nat} {D E : KK} (h : LwH G n R D) (g : FN D E) : LwH G n R E := LawS.fr h (fun b k q1 q2 => g b k (by omega) (by omega) (by omega))
section XXn
variable {C : XCal} {i : Nat} {Q : XQ} {pc q : Nat} {loc : XLc} {st : List XV} {sh : List (Nat × Nat)} {rf : Nat → Nat → Option Nat} {dt d0 K : KK} {b : Int} {B : Nat → Int} {U : UU}
theorem xn_isz {N o : Nat} {z v : Int} (hW : NWd K b B U d0 dt) (h : xi i pc = some (.iastore, 1)) (hq : pc + 1 = q) (hs : sh[27 + o]? = some (0, N)) (ho : o < 19) (ho2 : o ≠ 13) (h0 : 0 ≤ z) (h1 : z < (N : Int)) (k : ∀ d2, NWd (xui K o z.toNat v) b B U d0 d2 → XX C i Q q loc st (sh, rf, d2)) : XX C i Q pc loc (.inl v :: .inl z :: .inr (some (27 + o)) :: st) (sh, rf, dt) := xx_isz h hq hs h0 h1 rfl (k _ (hW.fr (CK_up hW.1 ho2) (Fr.rf.up ho)))
theorem xn_puz {idx o ci kf pl N : Nat} {z : Int} (hW : NWd K b B U d0 dt) (h : xi i pc = some (.putfield idx, 3)) (hq : pc + 3 = q) (hl : xlk (xfo (xow i)) idx = some (ci, kf, pl)) (hs : sh[27 + o]? = some (ci + 2, N)) (hk : kf < N) (hc : ci < 13) (hf : xff ci kf = true → xow i = ci ∧ (xpl i).2.2.2.2 = 3) (ht : xft ci kf = 0 ∨ (xft ci kf = 1 ∧ (z = 0 ∨ z = 1))) (ho : o < 19) (ho2 : o ≠ 13) (k : ∀ d2, NWd (xui K o kf z) b B U d0 d2 → XX C i Q q loc st (sh, rf, d2)) : XX C i Q pc loc (.inl z :: .inr (some (27 + o)) :: st) (sh, rf, dt) := xx_puz h hq hl hs hk hc hf ht rfl (k _ (hW.fr (CK_up hW.1 ho2) (Fr.rf.up ho)))
end XXn
set_option maxHeartbeats 1000000 in
theorem c_write {n : Nat} {R : Nat → Nat → Option Nat} {D : KK} {b : Int} {B : Nat → Int} (hR : RF R) (hB : BK b B D) (h s l t a : Int) : ∃ D', XC 1 3 [.inr (some 25), .inl h, .inl s, .inl l, .inl t, .inl a] (xS n, R, D) none (xS n, R, D') ∧ BK (notb b) (notB b B h s l t a) D' ∧ ∀ x k, x ≠ 25 → x ≠ 26 → D' x k = D x k := by
  have hb1 := hB.2.1
  have hb2 := hB.2.2.1
  refine XE_of (Nat.le_of_ble_eq_true rfl) (Nat.le_of_ble_eq_true rfl) (loc := [_, _, _, _, _, _, _]) rfl ?_
  refine xx_aload_n (q := 1) rfl rfl rfl ?_
  refine xx_gez (q := 4) rfl rfl rfl xS_25 (Nat.le_of_ble_eq_true rfl) rfl hB.1 ?_
  refine xx_sipush (q := 7) rfl rfl (by decide) ?_
  refine xx_icmp_lt (q := 11) (q2 := 10) rfl rfl rfl (fun h7 => ?_) (fun h7 => ?_)
  · refine xx_aload_n (q := 12) rfl rfl rfl ?_
    refine xx_gez (q := 15) rfl rfl rfl xS_25 (Nat.le_of_ble_eq_true rfl) rfl hB.1 ?_
    refine xx_iconst (q := 16) rfl rfl (by decide) ?_
    refine xx_imulR (q := 17) rfl rfl (by omega) (by omega) ?_
    refine xx_istore (q := 19) (loc2 := [_, _, _, _, _, _, _]) rfl rfl (Nat.le_of_ble_eq_true rfl) rfl ?_
    refine xx_aload_n (q := 20) rfl rfl rfl ?_
    refine xx_getR (q := 23) rfl rfl rfl xS_25 (Nat.le_of_ble_eq_true rfl) rfl (hR.1 25 1 rfl) ?_
    refine xx_iload (q := 25) rfl rfl rfl ?_
    refine xx_iload_n (q := 26) rfl rfl rfl ?_
    refine xx_isz (q := 27) rfl rfl xS_26 (by omega) (by omega) rfl ?_
    refine xx_aload_n (q := 28) rfl rfl rfl ?_
    refine xx_getR (q := 31) rfl rfl rfl xS_25 (Nat.le_of_ble_eq_true rfl) rfl (hR.1 25 1 rfl) ?_
    refine xx_iload (q := 33) rfl rfl rfl ?_
    refine xx_iconst (q := 34) rfl rfl (by decide) ?_
    refine xx_iaddR (q := 35) rfl rfl (by omega) (by omega) ?_
    refine xx_iload_n (q := 36) rfl rfl rfl ?_
    refine xx_isz (q := 37) rfl rfl xS_26 (by omega) (by omega) rfl ?_
    refine xx_aload_n (q := 38) rfl rfl rfl ?_
    refine xx_getR (q := 41) rfl rfl rfl xS_25 (Nat.le_of_ble_eq_true rfl) rfl (hR.1 25 1 rfl) ?_
    refine xx_iload (q := 43) rfl rfl rfl ?_
    refine xx_iconst (q := 44) rfl rfl (by decide) ?_
    refine xx_iaddR (q := 45) rfl rfl (by omega) (by omega) ?_
    refine xx_iload_n (q := 46) rfl rfl rfl ?_
    refine xx_isz (q := 47) rfl rfl xS_26 (by omega) (by omega) rfl ?_
    refine xx_aload_n (q := 48) rfl rfl rfl ?_
    refine xx_getR (q := 51) rfl rfl rfl xS_25 (Nat.le_of_ble_eq_true rfl) rfl (hR.1 25 1 rfl) ?_
    refine xx_iload (q := 53) rfl rfl rfl ?_
    refine xx_iconst (q := 54) rfl rfl (by decide) ?_
    refine xx_iaddR (q := 55) rfl rfl (by omega) (by omega) ?_
    refine xx_iload (q := 57) rfl rfl rfl ?_
    refine xx_isz (q := 58) rfl rfl xS_26 (by omega) (by omega) rfl ?_
    refine xx_aload_n (q := 59) rfl rfl rfl ?_
    refine xx_getR (q := 62) rfl rfl rfl xS_25 (Nat.le_of_ble_eq_true rfl) rfl (hR.1 25 1 rfl) ?_
    refine xx_iload (q := 64) rfl rfl rfl ?_
    refine xx_iconst (q := 65) rfl rfl (by decide) ?_
    refine xx_iaddR (q := 66) rfl rfl (by omega) (by omega) ?_
    refine xx_iload (q := 68) rfl rfl rfl ?_
    refine xx_isz (q := 69) rfl rfl xS_26 (by omega) (by omega) rfl ?_
    refine xx_aload_n (q := 70) rfl rfl rfl ?_
    refine xx_dup (q := 71) rfl rfl ?_
    refine xx_gez (q := 74) rfl rfl rfl xS_25 (Nat.le_of_ble_eq_true rfl) rfl hB.1 ?_
    refine xx_iconst (q := 75) rfl rfl (by decide) ?_
    refine xx_iaddR (q := 76) rfl rfl (by omega) (by omega) ?_
    refine xx_puz (q := 79) rfl rfl rfl xS_25 (Nat.le_of_ble_eq_true rfl) (Nat.le_of_ble_eq_true rfl) (fun h => by cases h) (Or.inl rfl) rfl ?_
    refine xx_vret rfl rfl ⟨rfl, _, rfl, ?_⟩
    refine ⟨?_, fun x k h1 h2 => ?_⟩
    · refine ⟨?_, ?_, ?_, fun k hk => ?_⟩
      · unfold notb; first | (rw [if_pos h7]; exact xui_s) | (rw [if_neg h7]; exact hB.1)
      · unfold notb; split <;> omega
      · unfold notb; split <;> omega
      · have hk2 := hB.2.2.2 k hk
        unfold notB
        first | rw [if_pos h7] | rw [if_neg h7]
        simp only [xui, fset, hk2]
        simp
    · simp [xui, h1, h2]
  · refine xx_vret rfl rfl ⟨rfl, _, rfl, ?_⟩
    refine ⟨?_, fun x k h1 h2 => rfl⟩
    unfold notb notB
    rw [if_neg h7, if_neg h7]
    exact hB
theorem NWd.bk {K : KK} {b b2 : Int} {B B2 : Nat → Int} {U : UU} {D0 D E : KK} (h : NWd K b B U D0 D) (hB : BK b2 B2 E) (g : ∀ x k, x ≠ 25 → x ≠ 26 → E x k = D x k) : NWd K b2 B2 U D0 E := ⟨CK_fr h.1 (fun o k ho => g _ _ (by omega) (by omega)), hB, h.2.2.1.fr (fun b k h1 h2 => g b k (by omega) (by omega)), fun b k h1 h2 h3 => (g b k (by omega) (by omega)).trans (h.2.2.2 b k h1 h2 h3)⟩
set_option maxHeartbeats 1000000 in
theorem c_noteN {n : Nat} {R : Nat → Nat → Option Nat} {D0 D K : KK} {b : Int} {B : Nat → Int} {U : UU} (hR : RF R) (hW : NWd K b B U D0 D) (hI : KI K) (s l t a : Int) : ∃ D', XC 2 29 [.inr (some 27), .inl s, .inl l, .inl t, .inl a] (xS n, R, D) none (xS n, R, D') ∧ NWd K (notb b) (notB b B (K 0 1) s l t a) U D0 D' := by
  refine XE_of (Nat.le_of_ble_eq_true rfl) (Nat.le_of_ble_eq_true rfl) (loc := [_, _, _, _, _]) rfl ?_
  refine xx_aload_n (q := 1) rfl rfl rfl ?_
  refine xx_getR (q := 4) rfl rfl rfl (xSc_0 isC_27) (Nat.le_of_ble_eq_true rfl) rfl (hR.1 27 15 rfl) ?_
  refine xx_ifnull (q := 7) rfl rfl ?_
  refine xx_aload_n (q := 8) rfl rfl rfl ?_
  refine xx_getR (q := 11) rfl rfl rfl (xSc_0 isC_27) (Nat.le_of_ble_eq_true rfl) rfl (hR.1 27 15 rfl) ?_
  refine xx_aload_n (q := 12) rfl rfl rfl ?_
  refine xx_gez (v := K 0 1) (q := 15) rfl rfl rfl (xSc_0 isC_27) (Nat.le_of_ble_eq_true rfl) rfl (hW.1 0 1 (Nat.le_of_ble_eq_true rfl)) ?_
  refine xx_iload_n (q := 16) rfl rfl rfl ?_
  refine xx_iload_n (q := 17) rfl rfl rfl ?_
  refine xx_iload_n (q := 18) rfl rfl rfl ?_
  refine xx_iload (q := 20) rfl rfl rfl ?_
  obtain ⟨D1, hx1, hB1, hG1⟩ := c_write (n := n) hR hW.2.1 (K 0 1) s l t a
  have hW1 := NWd.bk hW hB1 hG1
  refine xx_callV (q := 23) (As := [_, _, _, _, _]) (rest := []) rfl rfl rfl (Or.inl rfl) rfl rfl (Nat.le_of_ble_eq_true rfl) xS_25 (XCm hx1 rfl) rfl ?_
  refine xx_vret rfl rfl ⟨rfl, _, rfl, ?_⟩
  exact hW1
theorem isC_k {s : Nat} (h : s < 10) : isC (89 + 19 * s) := by
  have e : s = 0 ∨ s = 1 ∨ s = 2 ∨ s = 3 ∨ s = 4 ∨ s = 5 ∨ s = 6 ∨ s = 7 ∨ s = 8 ∨ s = 9 := by omega
  unfold isC
  rcases e with rfl | rfl | rfl | rfl | rfl | rfl | rfl | rfl | rfl | rfl <;> decide
theorem isT_k {s : Nat} (h : s < 10) : isT (284 + 19 * s) := by
  have e : s = 0 ∨ s = 1 ∨ s = 2 ∨ s = 3 ∨ s = 4 ∨ s = 5 ∨ s = 6 ∨ s = 7 ∨ s = 8 ∨ s = 9 := by omega
  unfold isT
  rcases e with rfl | rfl | rfl | rfl | rfl | rfl | rfl | rfl | rfl | rfl <;> decide
theorem rk_87 {R : Nat → Nat → Option Nat} (hR : RF R) {s : Nat} (h : s < 10) : R 87 s = some (89 + 19 * s) := by
  have e : s = 0 ∨ s = 1 ∨ s = 2 ∨ s = 3 ∨ s = 4 ∨ s = 5 ∨ s = 6 ∨ s = 7 ∨ s = 8 ∨ s = 9 := by omega
  rcases e with rfl | rfl | rfl | rfl | rfl | rfl | rfl | rfl | rfl | rfl <;> exact hR.1 _ _ rfl
theorem rk_283 {R : Nat → Nat → Option Nat} (hR : RF R) {s : Nat} (h : s < 10) : R 283 s = some (284 + 19 * s) := by
  have e : s = 0 ∨ s = 1 ∨ s = 2 ∨ s = 3 ∨ s = 4 ∨ s = 5 ∨ s = 6 ∨ s = 7 ∨ s = 8 ∨ s = 9 := by omega
  rcases e with rfl | rfl | rfl | rfl | rfl | rfl | rfl | rfl | rfl | rfl <;> exact hR.1 _ _ rfl
def kepU (K : KK) (b : Int) (U : UU) : UU := ((K, b) :: U).take 10
theorem xrem_p {a m : Int} (h : 0 ≤ a) : xrem a m = a % m := Int.tmod_eq_emod_of_nonneg h
theorem NWd.keep {K : KK} {b : Int} {B : Nat → Int} {U : UU} {D0 D E F : KK} {nx : Nat} (h : NWd K b B U D0 D) (hI : KI K) (hnx : nx < 10) (e86 : D 86 1 = (nx : Int)) (g : Fr (89 + 19 * nx) D E) (hK : CK (89 + 19 * nx) K E) (hF : F = xui (xui (xui E 88 ((nx : Int)).toNat b) 86 1 (xrem ((nx : Int) + 1) 10)) 86 0 (mnF ((U.length : Int) + 1) 10)) : NWd K b B (kepU K b U) D0 F := by
  obtain ⟨h1, h2, ⟨n2, p1, p2, p3, p4, p5⟩, h4⟩ := h
  obtain rfl : n2 = nx := by omega
  have hg : ∀ x k, x ≠ 86 → x ≠ 88 → F x k = E x k := fun x k q1 q2 => by rw [hF, xui_a q1, xui_a q1, xui_a q2]
  have hg2 : ∀ x k, x ≠ 86 → x ≠ 88 → (x < 89 + 19 * n2 ∨ 89 + 19 * n2 + 19 ≤ x) → x ≠ 10 → x ≠ 14 → F x k = D x k := fun x k q1 q2 q3 q4 q5 => (hg x k q1 q2).trans (g x k q3 q4 q5)
  have hx9 : xrem ((n2 : Int) + 1) 10 = (((n2 + 1) % 10 : Nat) : Int) := by rw [xrem_p (by omega)]; omega
  have hlen : ((kepU K b U).length : Int) = mnF ((U.length : Int) + 1) 10 := by
    have := mnF_sp ((U.length : Int) + 1) 10
    unfold kepU
    rw [List.length_take, List.length_cons]
    omega
  refine ⟨CK_fr h1 (fun o k ho => hg2 _ _ (by omega) (by omega) (by omega) (by omega) (by omega)), h2.fr (fun k => ⟨hg2 _ _ (by omega) (by omega) (by omega) (by omega) (by omega), hg2 _ _ (by omega) (by omega) (by omega) (by omega) (by omega)⟩), ⟨(n2 + 1) % 10, by omega, by have := mnF_sp ((U.length : Int) + 1) 10; omega, ?_, ?_, ?_⟩, fun x k q1 q2 q3 => (hg2 x k (by omega) (by omega) (by omega) q2 q3).trans (h4 x k q1 q2 q3)⟩
  · rw [hF, hlen, xui_s]
  · rw [hF, xui_j (by omega), xui_s, hx9]
  · intro i u hu
    have hi : i < 10 := by
      have := (List.getElem?_eq_some_iff.mp hu).1
      unfold kepU at this
      rw [List.length_take] at this
      omega
    unfold kepU at hu
    rw [List.getElem?_take, if_pos hi] at hu
    cases i with
    | zero =>
      obtain rfl : (K, b) = u := Option.some.inj hu
      have e : ((n2 + 1) % 10 + 9 - 0) % 10 = n2 := by omega
      rw [e]
      refine ⟨CK_fr hK (fun o k ho => hg _ _ (by omega) (by omega)), hI, ?_, h2.2.1, h2.2.2.1⟩
      rw [hF, xui_a (by omega), xui_a (by omega)]
      exact xui_s
    | succ i =>
      have hu2 : U[i]? = some u := hu
      have e : ((n2 + 1) % 10 + 9 - (i + 1)) % 10 = (n2 + 9 - i) % 10 := by omega
      rw [e]
      obtain ⟨q1, q2, q3, q4⟩ := p5 i u hu2
      refine ⟨CK_fr q1 (fun o k ho => hg2 _ _ (by omega) (by omega) (by omega) (by omega) (by omega)), q2, ?_, q4⟩
      rw [hF, xui_a (by omega), xui_a (by omega), xui_j (by omega)]
      exact (g 88 _ (by omega) (by omega) (by omega)).trans q3
set_option maxHeartbeats 1000000 in
theorem c_keep {n : Nat} {R : Nat → Nat → Option Nat} {D0 D K : KK} {b : Int} {B : Nat → Int} {U : UU} (hR : RF R) (hW : NWd K b B U D0 D) (hI : KI K) : ∃ D', XC 3 78 [.inr (some 86), .inr (some 27)] (xS n, R, D) none (xS n, R, D') ∧ NWd K b B (kepU K b U) D0 D' := by
  obtain ⟨nx, hnx, hU, hp0, hp1, hp2⟩ := hW.2.2.1
  have e86 := hp1
  obtain ⟨c1, ec1⟩ : ∃ c1, c1 = 89 + 19 * nx := ⟨_, rfl⟩
  have hc1 : isC c1 := ec1 ▸ isC_k hnx
  have e87 : R 87 ((nx : Int)).toNat = some c1 := ec1 ▸ rk_87 hR hnx
  have hne : c1 ≠ 27 := by omega
  have hx9 : xrem ((nx : Int) + 1) 10 = (((nx + 1) % 10 : Nat) : Int) := by rw [xrem_p (by omega)]; omega
  refine XE_of (Nat.le_of_ble_eq_true rfl) (Nat.le_of_ble_eq_true rfl) (loc := [_, _]) rfl ?_
  refine xx_aload_n (q := 1) rfl rfl rfl ?_
  refine xx_getR (q := 4) rfl rfl rfl xS_86 (Nat.le_of_ble_eq_true rfl) rfl (hR.1 86 2 rfl) ?_
  refine xx_aload_n (q := 5) rfl rfl rfl ?_
  refine xx_gez (q := 8) rfl rfl rfl xS_86 (Nat.le_of_ble_eq_true rfl) rfl hp1 ?_
  refine xx_aaz (q := 9) rfl rfl xS_87 (by omega) (by omega) e87 ?_
  refine xx_aload_n (q := 10) rfl rfl rfl ?_
  obtain ⟨D1, hx1, hK1, hG1⟩ := c_copy (n := n) hR hc1 isC_27 hne hW.1 hI
  have h8601 : D1 86 0 = (U.length : Int) := (hG1 86 0 (by omega) (by omega) (by omega)).trans hp0
  have h8611 : D1 86 1 = (nx : Int) := (hG1 86 1 (by omega) (by omega) (by omega)).trans hp1
  have h2501 : D1 25 0 = b := (hG1 25 0 (by omega) (by omega) (by omega)).trans hW.2.1.1
  refine xx_callV (q := 13) (As := [_]) (rest := []) rfl rfl rfl (Or.inl rfl) rfl rfl (Nat.le_of_ble_eq_true rfl) (xSc_0 hc1) (XCm hx1 rfl) rfl ?_
  refine xx_aload_n (q := 14) rfl rfl rfl ?_
  refine xx_getR (q := 17) rfl rfl rfl xS_86 (Nat.le_of_ble_eq_true rfl) rfl (hR.1 86 3 rfl) ?_
  refine xx_aload_n (q := 18) rfl rfl rfl ?_
  refine xx_gez (q := 21) rfl rfl rfl xS_86 (Nat.le_of_ble_eq_true rfl) rfl h8611 ?_
  refine xx_aload_n (q := 22) rfl rfl rfl ?_
  refine xx_getR (q := 25) rfl rfl rfl xS_86 (Nat.le_of_ble_eq_true rfl) rfl (hR.1 86 4 rfl) ?_
  refine xx_gez (q := 28) rfl rfl rfl xS_25 (Nat.le_of_ble_eq_true rfl) rfl h2501 ?_
  refine xx_isz (q := 29) rfl rfl xS_88 (by omega) (by omega) rfl ?_
  refine xx_aload_n (q := 30) rfl rfl rfl ?_
  refine xx_aload_n (q := 31) rfl rfl rfl ?_
  refine xx_gez (q := 34) rfl rfl rfl xS_86 (Nat.le_of_ble_eq_true rfl) rfl h8611 ?_
  refine xx_iconst (q := 35) rfl rfl (by decide) ?_
  refine xx_iaddR (q := 36) rfl rfl (by omega) (by omega) ?_
  refine xx_bipush (q := 38) rfl rfl (by decide) ?_
  refine xx_irem (q := 39) rfl rfl (by omega) ?_
  refine xx_puz (q := 42) rfl rfl rfl xS_86 (Nat.le_of_ble_eq_true rfl) (Nat.le_of_ble_eq_true rfl) (fun h => by cases h) (Or.inl rfl) rfl ?_
  refine xx_aload_n (q := 43) rfl rfl rfl ?_
  refine xx_aload_n (q := 44) rfl rfl rfl ?_
  refine xx_gez (q := 47) rfl rfl rfl xS_86 (Nat.le_of_ble_eq_true rfl) rfl h8601 ?_
  refine xx_iconst (q := 48) rfl rfl (by decide) ?_
  refine xx_iaddR (q := 49) rfl rfl (by omega) (by omega) ?_
  refine xx_bipush (q := 51) rfl rfl (by decide) ?_
  refine xx_minF (q := 54) rfl rfl rfl (Nat.le_of_ble_eq_true rfl) ?_
  have hb4 := mnF_sp ((U.length : Int) + 1) 10
  refine xx_puz (q := 57) rfl rfl rfl xS_86 (Nat.le_of_ble_eq_true rfl) (Nat.le_of_ble_eq_true rfl) (fun h => by cases h) (Or.inl rfl) rfl ?_
  refine xx_vret rfl rfl ⟨rfl, _, rfl, ?_⟩
  exact NWd.keep hW hI hnx e86 (ec1 ▸ hG1) (ec1 ▸ hK1) rfl
