/-! The start: both programs stand in the memory that the constructors leave. -/
def W0 : Wld := ((K0, (0, fun _ => 0), (0, fun _ => 0, fun _ => 0, fun _ => 0), (fun _ => 0), (fun _ => 0), [], [], []), [], [], 0, -1, none)
theorem all_t {α : Type} {l : List α} {p : α → Bool} (h : l.all p = true) : ∀ x ∈ l, p x = true := List.all_eq_true.mp h
theorem run_ex : ∃ e2 e4 : EM, run1 = some e2 ∧ e2.1 = 479 ∧ run2 e2 = some e4 ∧ tst e4 = true := by
  have h := run0_t
  unfold run0 at h
  cases h1 : run1 with
  | none => rw [h1] at h; cases h
  | some e2 =>
    rw [h1] at h
    dsimp only at h
    rw [Bool.and_eq_true] at h
    obtain ⟨h2, h3⟩ := h
    cases h4 : run2 e2 with
    | none => rw [h4] at h3; cases h3
    | some e4 =>
      rw [h4] at h3
      exact ⟨e2, e4, rfl, of_decide_eq_true h2, h4, h3⟩
theorem tst_s {n : Nat} {D0 : KK} {e : EM} (h : tst e = true) : ∃ R D, den n R00 D0 e = (xS n, R, D) ∧ RF R ∧ (∀ k, R 7 3 = some 8 ∧ R 11 3 = some 12 ∧ R 15 4 = some 16 ∨ k = 0 ∧ False) ∧ (∀ c ∈ celN, ∀ k, k < c.2 → D c.1 k = tbD c.1 k) ∧ ∀ a k, a < 5 → D a k = D0 a k := by
  unfold tst at h
  simp only [Bool.and_eq_true] at h
  obtain ⟨h1, h2, h3, h4, h5⟩ := h
  have h1 := of_decide_eq_true h1
  have hR : ∀ a k, dnR R00 e.2.2.1 a k = rT a k := by
    intro a k
    rcases Nat.lt_or_ge a 5 with q | q
    · rw [fr_R _ k (fun x hx => by have := of_decide_eq_true (all_t h2 x hx); omega)]
      show (bif Nat.blt a 5 then rT a k else none) = rT a k
      have e5 : Nat.blt a 5 = true := Nat.ble_eq_true_of_le q
      rw [e5]
      rfl
    · rcases Nat.lt_or_ge a 516 with q2 | q2
      · have h6 := all_t h4 (a - 5) (List.mem_range.mpr (by omega))
        rw [show a - 5 + 5 = a by omega] at h6
        unfold tsR at h6
        cases h7 : clG e.2.2.1 a with
        | none => rw [h7] at h6; cases h6
        | some w =>
          rw [h7] at h6
          dsimp only at h6
          rw [Bool.and_eq_true] at h6
          rw [clG_R _ k h7]
          rcases Nat.lt_or_ge k 66 with q3 | q3
          · exact of_decide_eq_true (all_t h6.2 k (List.mem_range.mpr q3))
          · rw [rT_66 q3]
            exact lkO_66 w q3 (fun x hx => of_decide_eq_true (all_t h6.1 x hx))
      · rw [rT_516 q2, fr_R _ k (fun x hx => by have := of_decide_eq_true (all_t h2 x hx); omega)]
        show (bif Nat.blt a 5 then rT a k else none) = none
        rw [blt_f q]
        rfl
  refine ⟨_, _, ?_, ?_, fun _ => Or.inl ⟨hR 7 3, hR 11 3, hR 15 4⟩, fun c hc k hk => ?_, fun a k ha => ?_⟩
  · show (b5 n ++ e.2.1.reverse, dnR R00 e.2.2.1, dnD D0 e.2.2.2) = (xS n, dnR R00 e.2.2.1, dnD D0 e.2.2.2)
    rw [h1]
    rfl
  · exact ⟨fun a k _ => hR a k, Or.inl ⟨hR 7 3, hR 7 5⟩, Or.inl ⟨hR 11 3, hR 11 5⟩, Or.inl ⟨hR 15 4, hR 15 5⟩⟩
  · have h6 := all_t h5 c hc
    unfold tsD at h6
    cases h7 : clG e.2.2.2 c.1 with
    | none => rw [h7] at h6; cases h6
    | some w =>
      rw [h7] at h6
      rw [clG_D _ k h7]
      exact of_decide_eq_true (all_t h6 k (List.mem_range.mpr hk))
  · exact fr_D _ k (fun x hx => by have := of_decide_eq_true (all_t h3 x hx); omega)
theorem K00_I : KI K00 := by
  intro o k
  unfold K00
  unfold klo khi
  split <;> split <;> (try split) <;> (try constructor) <;> omega
theorem K0_I : KI K0 := bgnK_I K00_I (by decide) (by decide)
theorem W0_I : WI W0 := by
  refine ⟨⟨K0_I, fun c hc => ?_, fun o _ _ => ⟨fun _ _ => rfl, fun _ _ => rfl⟩, ⟨by decide, by decide⟩, ⟨⟨by decide, by decide⟩, fun i => ⟨by decide, by decide⟩⟩, fun k => ⟨by decide, by decide⟩, fun k => ⟨by decide, by decide⟩, fun l hl => absurd hl List.not_mem_nil, fun l hl => absurd hl List.not_mem_nil, by decide, by decide, fun l hl => absurd hl List.not_mem_nil, by decide⟩, fun l hl => absurd hl List.not_mem_nil, fun l hl => absurd hl List.not_mem_nil, by decide, fun j => ?_, fun s hs => by cases hs⟩
  · have hc : (c : Int) < 0 := hc
    omega
  · exact ⟨Int.le_refl 0, by decide⟩
theorem c_CK {D : KK} (hD : ∀ c ∈ celN, ∀ k, k < c.2 → D c.1 k = tbD c.1 k) : CK 27 K0 D := by
  intro o k hk
  rcases o_18 hk with e | e | e | e | e | e | e | e | e | e | e | e | e | e | e | e | e <;> subst e
  · exact hD (27, 4) (by decide) k hk
  · exact hD (28, 10) (by decide) k hk
  · exact hD (29, 9) (by decide) k hk
  · exact hD (30, 9) (by decide) k hk
  · exact hD (31, 9) (by decide) k hk
  · exact hD (32, 9) (by decide) k hk
  · exact hD (33, 5) (by decide) k hk
  · exact hD (35, 9) (by decide) k hk
  · exact hD (36, 9) (by decide) k hk
  · exact hD (37, 9) (by decide) k hk
  · exact hD (38, 36) (by decide) k hk
  · exact hD (39, 54) (by decide) k hk
  · exact hD (40, 1) (by decide) k hk
  · exact absurd hk (Nat.not_lt_zero _)
  · exact hD (42, 6) (by decide) k hk
  · exact hD (43, 6) (by decide) k hk
  · exact hD (44, 24) (by decide) k hk
theorem W0_J {R : Nat → Nat → Option Nat} {D : KK} (hR : RF R) (h7 : R 7 3 = some 8) (h11 : R 11 3 = some 12) (h15 : R 15 4 = some 16) (hD : ∀ c ∈ celN, ∀ k, k < c.2 → D c.1 k = tbD c.1 k) (hS : StrD D) : JWd W0 R D := by
  have hK := c_CK hD
  have d5 := fun k => hD (5, 6) (by decide) k
  have d7 := fun k => hD (7, 7) (by decide) k
  have d11 := fun k => hD (11, 7) (by decide) k
  have d15 := fun k => hD (15, 6) (by decide) k
  have d18 := fun k => hD (18, 7) (by decide) k
  have d22 := fun k => hD (22, 10) (by decide) k
  have d23 := fun k => hD (23, 10) (by decide) k
  have d25 := fun k => hD (25, 2) (by decide) k
  have d26 := fun k => hD (26, 750) (by decide) k
  have d86 := fun k => hD (86, 5) (by decide) k
  have d474 := fun k => hD (474, 9) (by decide) k
  have d479 := fun k => hD (479, 66) (by decide) k
  have d480 := fun k => hD (480, 125) (by decide) k
  have d496 := fun k => hD (496, 750) (by decide) k
  have hRW : RW K0 0 (D 480) := ⟨d480 0 (by decide), d480 1 (by decide), d480 2 (by decide), d480 3 (by decide), fun i hi => d480 (4 + i) (by show 4 + i < 125; omega), fun i hi => d480 (14 + i) (by show 14 + i < 125; omega), fun i hi => d480 (23 + i) (by show 23 + i < 125; omega), fun i hi => d480 (32 + i) (by show 32 + i < 125; omega), fun i hi => d480 (41 + i) (by show 41 + i < 125; omega), fun i hi => by have hi : (i : Int) < 0 := hi; omega, fun i hi => d480 (101 + i) (by show 101 + i < 125; omega)⟩
  have hRC : RCf K0 D := ⟨d479 6 (by decide), d479 7 (by decide), fun i hi => hD (483, 9) (by decide) i hi, fun i hi => hD (484, 9) (by decide) i hi, fun i hi => hD (485, 9) (by decide) i hi, fun i hi => hD (486, 9) (by decide) i hi, fun i hi => hD (487, 36) (by decide) i hi, fun i hi => hD (488, 6) (by decide) i hi, fun i hi => hD (489, 6) (by decide) i hi, fun i hi => hD (490, 5) (by decide) i hi⟩
  have hYc : YCa 18 (0, fun _ => 0, fun _ => 0, fun _ => 0) (fun _ => 0) (fun _ => 0) D := ⟨d18 0 (by decide), fun i hi => by have hi : (i : Int) < 0 := hi; omega, fun k hk => ⟨d22 k hk, d23 k hk⟩⟩
  have hYr : YR (0, fun _ => 0, fun _ => 0, fun _ => 0) D := ⟨d479 16 (by decide), fun i hi => by have hi : (i : Int) < 0 := hi; omega⟩
  have hL0 : LwC 7 8 (l3 0 []) D := ⟨d7 0 (by decide), d7 2 (by decide), fun i hi => by have hi : (i : Int) < 0 := hi; omega⟩
  have hL1 : LwC 11 12 (l3 1 []) D := ⟨d11 0 (by decide), d11 2 (by decide), fun i hi => by have hi : (i : Int) < 0 := hi; omega⟩
  have hPc : PCa 15 16 [] D := ⟨d15 0 (by decide), fun j s hs => by cases hs⟩
  have hR0 : LwR 0 [] D := ⟨hD (499, 2) (by decide) 0 (by decide), by decide, fun i l hl => by cases hl, by decide, fun j hj => absurd hj (Nat.not_lt_zero _)⟩
  have hR1 : LwR 1 [] D := ⟨hD (499, 2) (by decide) 1 (by decide), by decide, fun i l hl => by cases hl, by decide, fun j hj => absurd hj (Nat.not_lt_zero _)⟩
  have hPr : PlR [] D := ⟨d479 47 (by decide), by decide, fun j s hs => by cases hs⟩
  refine ⟨⟨hR, ⟨hK, ⟨d25 0 (by decide), by decide, by decide, fun k hk => d26 k hk⟩, ⟨0, by decide, by decide, d86 0 (by decide), d86 1 (by decide), fun i u hu => by cases hu⟩, FN.rf⟩, ⟨8, 12, 16, h7, h11, h15, hK, ⟨d25 0 (by decide), fun k hk => d26 k hk⟩, hYc, hL0, hL1, hPc⟩, ⟨d474 0 (by decide), fun k hk => absurd hk (Nat.not_lt_zero _)⟩, hS, d474 1 (by decide), d474 2 (by decide), d7 1 (by decide), d11 1 (by decide), d5 5 (by decide)⟩, ⟨⟨hRW, hRC, d479 5 (by decide), ⟨by decide, by decide⟩, fun k hk => d496 k hk, ⟨by decide, d479 3 (by decide), fun i u hu => by cases hu⟩, FV.rf⟩, ⟨hRW, hRC, fun k hk => d496 k hk, hYr, fun k hk => ⟨hD (494, 10) (by decide) k hk, hD (495, 10) (by decide) k hk⟩, hR0, hR1, hPr⟩, ⟨d479 24 (by decide), fun k hk => absurd hk (Nat.not_lt_zero _)⟩, fun j hj => hD (498, 159) (by decide) j hj, d479 44 (by decide), d479 45 (by decide), d479 63 (by decide)⟩, W0_I⟩
set_option maxHeartbeats 1000000 in
/-- the law, from its first instruction -/
theorem law_runs {n : Nat} {Q : XQ} (hn : n ≤ 3072) {D0 : KK} (hS : StrD D0) (hok : ∀ j, xok (D0 0 j)) (hQ : ∀ R D, Q (some (.inl 1)) (xS n, R, D)) : XX (XC 35) 316 Q 0 [some (.inr (some 0)), none, none, none] [] (b5 n, R00, D0) := by
  obtain ⟨e2, e4, h1, h2, h3, h4⟩ := run_ex
  have i1 : EI (5, [], [], []) := rfl
  obtain ⟨x1, i2⟩ := eC_s (n := n) (R0 := R00) (D0 := D0) 12 116 [.inr (some 5)] (psh 5 [] [] [] 13 6) e2 (psh_I i1) h1
  obtain ⟨l, S, r, d⟩ := e2
  have h2 : l = 479 := h2
  subst h2
  obtain ⟨x2, i4⟩ := eC_s (n := n) (R0 := R00) (D0 := D0) 12 160 [.inr (some 479)] (psh 479 S r d 14 66) e4 (psh_I i2) h3
  obtain ⟨R, D, g1, g2, g3, g4, g5⟩ := tst_s (n := n) (D0 := D0) h4
  have g3 : R 7 3 = some 8 ∧ R 11 3 = some 12 ∧ R 15 4 = some 16 := by
    rcases g3 1 with q | q
    · exact q
    · exact q.2.elim
  have hS2 : StrD D := hS.fr (fun x k q1 q2 => g5 x k (by omega))
  have hJ : JWd W0 R D := W0_J g2 g3.1 g3.2.1 g3.2.2 g4 hS2
  refine xx_new (q := 3) rfl rfl rfl ?_
  have e0 : xpush ((b5 n, R00, D0) : XM) 13 6 = den n R00 D0 (psh 5 [] [] [] 13 6) := psh_s (n := n) (R0 := R00) (D0 := D0) (l := 5) (S := []) (r := []) (d := []) i1
  show XX (XC 35) 316 Q 3 _ [.inr (some 5)] (xpush ((b5 n, R00, D0) : XM) 13 6)
  rw [e0]
  refine xx_dup (q := 4) rfl rfl ?_
  refine xx_callI (q := 7) (As := []) (rest := [_]) rfl rfl rfl (by decide) rfl rfl (Nat.le_of_ble_eq_true rfl) (XCm x1 rfl) ?_
  refine xx_astore_n (q := 8) rfl rfl (by decide) rfl ?_
  refine xx_new (q := 11) rfl rfl rfl ?_
  have hl : (den n R00 D0 (479, S, r, d)).1.length = 479 := den_len i2
  rw [hl]
  show XX (XC 35) 316 Q 11 _ [.inr (some 479)] (xpush (den n R00 D0 (479, S, r, d)) 14 66)
  rw [psh_s i2]
  refine xx_dup (q := 12) rfl rfl ?_
  refine xx_callI (q := 15) (As := []) (rest := [_]) rfl rfl rfl (by decide) rfl rfl (Nat.le_of_ble_eq_true rfl) (XCm x2 rfl) ?_
  refine xx_astore_n (q := 16) rfl rfl (by decide) rfl ?_
  refine xx_iconst (q := 17) rfl rfl (by decide) ?_
  refine xx_istore_n (q := 18) rfl rfl (by decide) rfl ?_
  rw [g1]
  exact lw_loop hn hQ 513 0 W0 R D hJ (fun j => by rw [g5 0 j (by omega)]; exact hok j) (by omega) (by omega)
