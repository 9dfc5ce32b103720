/-! The start: both programs stand in the memory that the constructors leave. -/
def W0 : Wld := ((K0, (0, fun _ => 0), (0, fun _ => 0, fun _ => 0, fun _ => 0), (fun _ => 0), (fun _ => 0), [], [], []), [], [], 0, -1, none)
theorem all_t {α : Type} {l : List α} {p : α → Bool} (h : l.all p = true) : ∀ x ∈ l, p x = true := List.all_eq_true.mp h
theorem fin_R (a k : Nat) : dnR R00 e4R a k = rT a k := by
  rcases Nat.lt_or_ge a 5 with q | q
  · rw [fr_R _ k (fun x hx => by have := of_decide_eq_true (all_t t_R x hx); omega)]
    show (bif Nat.blt a 5 then rT a k else none) = rT a k
    have e5 : Nat.blt a 5 = true := Nat.ble_eq_true_of_le q
    rw [e5]
    rfl
  · rcases Nat.lt_or_ge a 516 with q2 | q2
    · have h6 := t_Ra q q2
      unfold tsR at h6
      cases h7 : clG e4R a with
      | none => rw [h7] at h6; cases h6
      | some w =>
        rw [h7] at h6
        dsimp only at h6
        rw [Bool.and_eq_true] at h6
        rw [clG_R _ k h7]
        rcases Nat.lt_or_ge k 66 with q3 | q3
        · exact (of_decide_eq_true (all_t h6.2 k (List.mem_range.mpr q3))).trans (rU_s a k)
        · rw [rT_66 q3]
          exact lkO_66 w q3 (fun x hx => of_decide_eq_true (all_t h6.1 x hx))
    · rw [rT_516 q2, fr_R _ k (fun x hx => by have := of_decide_eq_true (all_t t_R x hx); omega)]
      show (bif Nat.blt a 5 then rT a k else none) = none
      rw [blt_f q]
      rfl
theorem fin_D {D0 : KK} (c : Nat × Nat) (hc : c ∈ celN) (k : Nat) (hk : k < c.2) : dnD D0 e4D c.1 k = tbD c.1 k := by
  have h6 := all_t t_Da c hc
  unfold tsD at h6
  cases h7 : clG e4D c.1 with
  | none => rw [h7] at h6; cases h6
  | some w =>
    rw [h7] at h6
    rw [clG_D _ k h7]
    exact of_decide_eq_true (all_t h6 k (List.mem_range.mpr hk))
theorem fi5_D {D0 : KK} (a k : Nat) (h : a < 5) : dnD D0 e4D a k = D0 a k := fr_D _ k (fun x hx => by have := of_decide_eq_true (all_t t_D x hx); omega)
theorem fin_M {n : Nat} {D0 : KK} : den n R00 D0 (516, e4S, e4R, e4D) = (xS n, dnR R00 e4R, dnD D0 e4D) := by
  show (b5 n ++ e4S.reverse, dnR R00 e4R, dnD D0 e4D) = (xS n, dnR R00 e4R, dnD D0 e4D)
  rw [t_S]
  rfl
theorem fin_F : RF (dnR R00 e4R) := ⟨fun a k _ => fin_R a k, Or.inl ⟨fin_R 7 3, fin_R 7 5⟩, Or.inl ⟨fin_R 11 3, fin_R 11 5⟩, Or.inl ⟨fin_R 15 4, fin_R 15 5⟩⟩
theorem K00_I : KI K00 := by
  intro o k
  unfold K00
  unfold klo khi
  split <;> split <;> (try split) <;> (try constructor) <;> omega
theorem K0_I : KI K0 := bgnK_I K00_I (by decide) (by decide)
theorem W0_I : WI W0 := by
  have z0 : (0 : Int) ≤ 0 := by decide
  have z9 : (0 : Int) ≤ 999 := by decide
  have z2 : (0 : Int) ≤ 255 := by decide
  refine ⟨⟨K0_I, fun c hc => ?_, fun o _ _ => ⟨fun _ _ => rfl, fun _ _ => rfl⟩, ⟨by decide, by decide⟩, ⟨⟨by decide, by decide⟩, fun i => ⟨z0, z9⟩⟩, fun k => ⟨z0, z9⟩, fun k => ⟨z0, z9⟩, fun l hl => absurd hl List.not_mem_nil, fun l hl => absurd hl List.not_mem_nil, by decide, by decide, fun l hl => absurd hl List.not_mem_nil, by decide⟩, fun l hl => absurd hl List.not_mem_nil, fun l hl => absurd hl List.not_mem_nil, by decide, fun j => ?_, fun s hs => by cases hs⟩
  · have hc : (c : Int) < 0 := hc
    omega
  · exact ⟨z0, z2⟩
theorem c_CK {D : KK} (hD : ∀ c ∈ celN, ∀ k, k < c.2 → D c.1 k = tbD c.1 k) : CK 27 K0 D := by
  intro o k hk
  rcases o_18 hk with e | e | e | e | e | e | e | e | e | e | e | e | e | e | e | e | e <;> subst e
  · exact hD (27, 4) (by decide) k hk
  · exact hD (28, 10) (by decide) k hk
  · exact hD (29, 9) (by decide) k hk
  · exact hD (30, 9) (by decide) k hk
  · exact hD (31, 9) (by decide) k hk
  · exact hD (32, 9) (by decide) k hk
  · exact hD (33, 5) (by decide) k hk
  · exact hD (35, 9) (by decide) k hk
  · exact hD (36, 9) (by decide) k hk
  · exact hD (37, 9) (by decide) k hk
  · exact hD (38, 36) (by decide) k hk
  · exact hD (39, 54) (by decide) k hk
  · exact hD (40, 1) (by decide) k hk
  · exact absurd hk (Nat.not_lt_zero _)
  · exact hD (42, 6) (by decide) k hk
  · exact hD (43, 6) (by decide) k hk
  · exact hD (44, 24) (by decide) k hk
theorem W0_J {R : Nat → Nat → Option Nat} {D : KK} (hR : RF R) (h7 : R 7 3 = some 8) (h11 : R 11 3 = some 12) (h15 : R 15 4 = some 16) (hD : ∀ c ∈ celN, ∀ k, k < c.2 → D c.1 k = tbD c.1 k) (hS : StrD D) : JWd W0 R D := by
  have hK := c_CK hD
  have d5 := fun k => hD (5, 6) (by decide) k
  have d7 := fun k => hD (7, 7) (by decide) k
  have d11 := fun k => hD (11, 7) (by decide) k
  have d15 := fun k => hD (15, 6) (by decide) k
  have d18 := fun k => hD (18, 7) (by decide) k
  have d22 := fun k => hD (22, 10) (by decide) k
  have d23 := fun k => hD (23, 10) (by decide) k
  have d25 := fun k => hD (25, 2) (by decide) k
  have d26 := fun k => hD (26, 750) (by decide) k
  have d86 := fun k => hD (86, 5) (by decide) k
  have d474 := fun k => hD (474, 9) (by decide) k
  have d479 := fun k => hD (479, 66) (by decide) k
  have d480 := fun k => hD (480, 125) (by decide) k
  have d496 := fun k => hD (496, 750) (by decide) k
  have hRW : RW K0 0 (D 480) := ⟨d480 0 (by decide), d480 1 (by decide), d480 2 (by decide), d480 3 (by decide), fun i hi => d480 (4 + i) (by show 4 + i < 125; omega), fun i hi => d480 (14 + i) (by show 14 + i < 125; omega), fun i hi => d480 (23 + i) (by show 23 + i < 125; omega), fun i hi => d480 (32 + i) (by show 32 + i < 125; omega), fun i hi => d480 (41 + i) (by show 41 + i < 125; omega), fun i hi => by have hi : (i : Int) < 0 := hi; omega, fun i hi => d480 (101 + i) (by show 101 + i < 125; omega)⟩
  have hRC : RCf K0 D := ⟨d479 6 (by decide), d479 7 (by decide), fun i hi => hD (483, 9) (by decide) i hi, fun i hi => hD (484, 9) (by decide) i hi, fun i hi => hD (485, 9) (by decide) i hi, fun i hi => hD (486, 9) (by decide) i hi, fun i hi => hD (487, 36) (by decide) i hi, fun i hi => hD (488, 6) (by decide) i hi, fun i hi => hD (489, 6) (by decide) i hi, fun i hi => hD (490, 5) (by decide) i hi⟩
  have hYc : YCa 18 (0, fun _ => 0, fun _ => 0, fun _ => 0) (fun _ => 0) (fun _ => 0) D := ⟨d18 0 (by decide), fun i hi => by have hi : (i : Int) < 0 := hi; omega, fun k hk => ⟨d22 k hk, d23 k hk⟩⟩
  have hYr : YR (0, fun _ => 0, fun _ => 0, fun _ => 0) D := ⟨d479 16 (by decide), fun i hi => by have hi : (i : Int) < 0 := hi; omega⟩
  have hL0 : LwC 7 8 (l3 0 []) D := ⟨d7 0 (by decide), d7 2 (by decide), fun i hi => by have hi : (i : Int) < 0 := hi; omega⟩
  have hL1 : LwC 11 12 (l3 1 []) D := ⟨d11 0 (by decide), d11 2 (by decide), fun i hi => by have hi : (i : Int) < 0 := hi; omega⟩
  have hPc : PCa 15 16 [] D := ⟨d15 0 (by decide), fun j s hs => by cases hs⟩
  have hR0 : LwR 0 [] D := ⟨hD (499, 2) (by decide) 0 (by decide), by decide, fun i l hl => (by cases hl), by decide, fun j hj => absurd hj (Nat.not_lt_zero _)⟩
  have hR1 : LwR 1 [] D := ⟨hD (499, 2) (by decide) 1 (by decide), by decide, fun i l hl => (by cases hl), by decide, fun j hj => absurd hj (Nat.not_lt_zero _)⟩
  have hPr : PlR [] D := ⟨d479 47 (by decide), by decide, fun j s hs => by cases hs⟩
  refine ⟨⟨hR, ⟨hK, ⟨d25 0 (by decide), by decide, by decide, fun k hk => d26 k hk⟩, ⟨0, by decide, by decide, d86 0 (by decide), d86 1 (by decide), fun i u hu => by cases hu⟩, FN.rf⟩, ⟨8, 12, 16, h7, h11, h15, hK, ⟨d25 0 (by decide), fun k hk => d26 k hk⟩, hYc, hL0, hL1, hPc⟩, ⟨d474 0 (by decide), fun k hk => absurd hk (Nat.not_lt_zero _)⟩, hS, d474 1 (by decide), d474 2 (by decide), d7 1 (by decide), d11 1 (by decide), d5 5 (by decide)⟩, ⟨⟨hRW, hRC, d479 5 (by decide), ⟨by decide, by decide⟩, fun k hk => d496 k hk, ⟨by decide, d479 3 (by decide), fun i u hu => by cases hu⟩, FV.rf⟩, ⟨hRW, hRC, fun k hk => d496 k hk, hYr, fun k hk => ⟨hD (494, 10) (by decide) k hk, hD (495, 10) (by decide) k hk⟩, hR0, hR1, hPr⟩, ⟨d479 24 (by decide), fun k hk => absurd hk (Nat.not_lt_zero _)⟩, fun j hj => hD (498, 159) (by decide) j hj, d479 44 (by decide), d479 45 (by decide), d479 63 (by decide)⟩, W0_I⟩
set_option maxHeartbeats 1000000 in
/-- the law, from its first instruction -/
theorem law_runs {n : Nat} {Q : XQ} (hn : n ≤ 3072) {D0 : KK} (hS : StrD D0) (hok : ∀ j, xok (D0 0 j)) (hQ : ∀ R D, Q (some (.inl 1)) (xS n, R, D)) : XX (XC 35) 316 Q 0 [some (.inr (some 0)), none, none, none] [] (b5 n, R00, D0) := by
  have i1 : EI (5, [], [], []) := rfl
  obtain ⟨x1, i2⟩ := eC_s (n := n) (R0 := R00) (D0 := D0) 12 116 [.inr (some 5)] (psh 5 [] [] [] 13 6) (479, e2S, e2R, e2D) (psh_I i1) run1_t
  obtain ⟨x2, i4⟩ := eC_s (n := n) (R0 := R00) (D0 := D0) 12 160 [.inr (some 479)] (psh 479 e2S e2R e2D 14 66) (516, e4S, e4R, e4D) (psh_I i2) run2_t
  have hS2 : StrD (dnD D0 e4D) := hS.fr (fun x k q1 q2 => fi5_D x k (by omega))
  have hJ : JWd W0 (dnR R00 e4R) (dnD D0 e4D) := W0_J fin_F (fin_R 7 3) (fin_R 11 3) (fin_R 15 4) fin_D hS2
  refine xx_new (q := 3) rfl rfl rfl ?_
  have e0 : xpush ((b5 n, R00, D0) : XM) 13 6 = den n R00 D0 (psh 5 [] [] [] 13 6) := psh_s (n := n) (R0 := R00) (D0 := D0) (l := 5) (S := []) (r := []) (d := []) i1
  show XX (XC 35) 316 Q 3 _ [.inr (some 5)] (xpush ((b5 n, R00, D0) : XM) 13 6)
  rw [e0]
  refine xx_dup (q := 4) rfl rfl ?_
  refine xx_callI (q := 7) (As := []) (rest := [_]) rfl rfl rfl (by decide) rfl rfl (Nat.le_of_ble_eq_true rfl) (XCm x1 rfl) ?_
  refine xx_astore_n (q := 8) rfl rfl (by decide) rfl ?_
  refine xx_new (q := 11) rfl rfl rfl ?_
  have hl : (den n R00 D0 (479, e2S, e2R, e2D)).1.length = 479 := den_len i2
  rw [hl]
  show XX (XC 35) 316 Q 11 _ [.inr (some 479)] (xpush (den n R00 D0 (479, e2S, e2R, e2D)) 14 66)
  rw [psh_s i2]
  refine xx_dup (q := 12) rfl rfl ?_
  refine xx_callI (q := 15) (As := []) (rest := [_]) rfl rfl rfl (by decide) rfl rfl (Nat.le_of_ble_eq_true rfl) (XCm x2 rfl) ?_
  refine xx_astore_n (q := 16) rfl rfl (by decide) rfl ?_
  refine xx_iconst (q := 17) rfl rfl (by decide) ?_
  refine xx_istore_n (q := 18) rfl rfl (by decide) rfl ?_
  rw [fin_M]
  exact lw_loop hn hQ 513 0 W0 _ _ hJ (fun j => by rw [fi5_D 0 j (by omega)]; exact hok j) (by omega) (by omega)
