/-! What the executable machine runs, the Lean machine runs. -/
section Esd
variable {n : Nat} {R0 : Nat → Nat → Option Nat} {D0 : KK} {e e2 : EM} {C : XCal} {CL : Nat → List XV → EM → Option EM} {i : Nat} {K : Nat → XLc → List XV → EM → Option EM} {kk : Nat → XLc → List XV → XM → Prop} {Q : XQ}
theorem st_drop {st : List XV} {k a : Nat} {r : List XV} (h : st.drop k = .inr (some a) :: r) : st = List.reverse (st.take k).reverse ++ .inr (some a) :: r ∧ ((st.take k).reverse).length = k := by
  have h1 : (st.drop k).length = r.length + 1 := by rw [h]; rfl
  rw [List.length_drop] at h1
  rw [List.reverse_reverse, List.length_reverse, List.length_take_of_le (by omega), ← h, List.take_append_drop]
  exact ⟨rfl, rfl⟩
theorem st_take {st : List XV} {k : Nat} (h : k ≤ st.length) : st = List.reverse (st.take k).reverse ++ st.drop k ∧ ((st.take k).reverse).length = k := by
  rw [List.reverse_reverse, List.length_reverse, List.length_take_of_le h, List.take_append_drop]
  exact ⟨rfl, rfl⟩
set_option maxHeartbeats 4000000 in
theorem eS_s (hC : ∀ j As e e3, EI e → CL j As e = some e3 → C j As (den n R0 D0 e) none (den n R0 D0 e3) ∧ EI e3) (hK : ∀ p l s e, EI e → K p l s e = some e2 → kk p l s (den n R0 D0 e) ∧ EI e2) (hQ : Q none (den n R0 D0 e2)) {pc : Nat} {loc : XLc} {st : List XV} (op : Instr) (hE : EI e) (h : eS CL i K pc loc st e op = some e2) : xsem C i Q kk pc loc st (den n R0 D0 e) op ∧ EI e2 := by
  cases op
  case aconst_null => exact hK _ _ _ _ hE h
  case iconst z =>
    obtain ⟨h1, h2⟩ := gd_s h
    obtain ⟨a, b⟩ := hK _ _ _ _ hE h2
    exact ⟨⟨of_decide_eq_true h1, a⟩, b⟩
  case bipush z =>
    obtain ⟨h1, h2⟩ := gd_s h
    obtain ⟨a, b⟩ := hK _ _ _ _ hE h2
    exact ⟨⟨of_decide_eq_true h1, a⟩, b⟩
  case sipush z =>
    obtain ⟨h1, h2⟩ := gd_s h
    obtain ⟨a, b⟩ := hK _ _ _ _ hE h2
    exact ⟨⟨of_decide_eq_true h1, a⟩, b⟩
  case iload_n j =>
    obtain ⟨o, h1, h2⟩ := ob_s h
    obtain ⟨v, h3, h4⟩ := ob_s h2
    obtain ⟨z, r, h5, h6⟩ := oI_s h4
    cases h5
    subst h3
    obtain ⟨a, b⟩ := hK _ _ _ _ hE h6
    exact ⟨⟨z, h1, a⟩, b⟩
  case aload_n j =>
    obtain ⟨o, h1, h2⟩ := ob_s h
    obtain ⟨v, h3, h4⟩ := ob_s h2
    obtain ⟨z, r, h5, h6⟩ := oR_s h4
    cases h5
    subst h3
    obtain ⟨a, b⟩ := hK _ _ _ _ hE h6
    exact ⟨⟨z, h1, a⟩, b⟩
  case istore_n j =>
    obtain ⟨z, r, h5, h6⟩ := oI_s h
    subst h5
    obtain ⟨h1, h2⟩ := gd_s h6
    rw [frL_s] at h2
    obtain ⟨a, b⟩ := hK _ _ _ _ hE h2
    exact ⟨⟨of_decide_eq_true h1, a⟩, b⟩
  case iinc j d =>
    obtain ⟨o, h1, h2⟩ := ob_s h
    obtain ⟨v, h3, h4⟩ := ob_s h2
    obtain ⟨z, r, h5, h6⟩ := oI_s h4
    cases h5
    subst h3
    obtain ⟨h7, h8⟩ := gd_s h6
    rw [frI_s, frL_s] at h8
    have h7 := of_decide_eq_true h7
    rw [← nrm_id (show xok (z + d) from ⟨h7.1, h7.2⟩)] at h8
    obtain ⟨a, b⟩ := hK _ _ _ _ hE h8
    exact ⟨⟨z, h1, a⟩, b⟩
  case dup =>
    dsimp only [eS, h_dup] at h
    split at h
    · obtain ⟨a, b⟩ := hK _ _ _ _ hE h
      exact ⟨a, b⟩
    · cases h
  case goto off =>
    obtain ⟨t, h1, h2⟩ := oT_s h
    obtain ⟨a, b⟩ := hK _ _ _ _ hE h2
    exact ⟨⟨t, h1, a⟩, b⟩
  case if_icmp c off =>
    cases c
    case ge =>
      obtain ⟨z, s1, h5, h6⟩ := oI_s h
      obtain ⟨y, r, h7, h8⟩ := oI_s h6
      subst h7
      subst h5
      obtain ⟨t, h1, h2⟩ := oT_s h8
      rcases Classical.em (z ≤ y) with q | q
      · rw [decide_eq_true q] at h2
        obtain ⟨a, b⟩ := hK _ _ _ _ hE h2
        exact ⟨⟨t, h1, fun _ => a, fun q2 => absurd q q2⟩, b⟩
      · rw [decide_eq_false q] at h2
        obtain ⟨a, b⟩ := hK _ _ _ _ hE h2
        exact ⟨⟨t, h1, fun q2 => absurd q2 q, fun _ => a⟩, b⟩
    all_goals exact absurd (show (none : Option EM) = some e2 from h) (fun q => by cases q)
  case getfield idx =>
    obtain ⟨x, r, h1, h2⟩ := oPx_s h
    subst h1
    obtain ⟨q, h3, h4⟩ := ob_s h2
    obtain ⟨⟨s1, s2⟩, h5, h6⟩ := ob_s h4
    obtain ⟨h7, h8⟩ := gd_s h6
    obtain ⟨h9, h10, h11⟩ := of_decide_eq_true h7
    have h9 : s1 = q.1 + 2 := h9
    subst h9
    obtain ⟨v, h12, h13⟩ := ob_s h8
    have h14 : (den n R0 D0 e).2.1 x q.2.1 = v := lkR_s (R0 := R0) _ h12
    obtain ⟨a, b⟩ := hK _ _ _ _ hE h13
    refine ⟨⟨q, s2, h3, shp_s hE h5, h10, ?_⟩, b⟩
    rw [h11]
    show kk (pc + 3) loc (.inr ((den n R0 D0 e).2.1 x q.2.1) :: r) (den n R0 D0 e)
    rw [h14]
    exact a
  case putfield idx =>
    obtain ⟨q, h3, h4⟩ := ob_s h
    split at h4
    · next z s0 =>
      obtain ⟨x, r, h1, h2⟩ := oPx_s h4
      subst h1
      obtain ⟨⟨s1, s2⟩, h5, h6⟩ := ob_s h2
      obtain ⟨h7, h8⟩ := gd_s h6
      obtain ⟨h9, h10, h11, h12, h13⟩ := of_decide_eq_true h7
      have h9 : s1 = q.1 + 2 := h9
      subst h9
      obtain ⟨e3, g1, g2, g3⟩ := ePD_s (n := n) (R0 := R0) (D0 := D0) hE h8
      obtain ⟨a, b⟩ := hK _ _ _ _ g1 g3
      rw [g2] at a
      exact ⟨⟨q, s2, h3, shp_s hE h5, h10, h11, h12, h13, a⟩, b⟩
    · next z s0 =>
      obtain ⟨x, r, h1, h2⟩ := oPx_s h4
      subst h1
      obtain ⟨⟨s1, s2⟩, h5, h6⟩ := ob_s h2
      obtain ⟨h7, h8⟩ := gd_s h6
      obtain ⟨h9, h10, h11, h12, h13⟩ := of_decide_eq_true h7
      have h9 : s1 = q.1 + 2 := h9
      subst h9
      obtain ⟨e3, g1, g2, g3⟩ := ePR_s (n := n) (R0 := R0) (D0 := D0) hE h8
      obtain ⟨a, b⟩ := hK _ _ _ _ g1 g3
      rw [g2] at a
      exact ⟨⟨q, s2, h3, shp_s hE h5, h10, h11, h12, h13, a⟩, b⟩
    · cases h4
  case iastore =>
    obtain ⟨v, s0, h1, h2⟩ := oI_s h
    obtain ⟨j, s3, h3, h4⟩ := oI_s h2
    obtain ⟨x, r, h5, h6⟩ := oPx_s h4
    subst h5
    subst h3
    subst h1
    obtain ⟨⟨s1, s2⟩, h7, h8⟩ := ob_s h6
    obtain ⟨h9, h10⟩ := gd_s h8
    obtain ⟨h11, h12, h13⟩ := of_decide_eq_true h9
    have h11 : s1 = 0 := h11
    subst h11
    obtain ⟨e3, g1, g2, g3⟩ := ePD_s (n := n) (R0 := R0) (D0 := D0) hE h10
    obtain ⟨a, b⟩ := hK _ _ _ _ g1 g3
    rw [g2] at a
    exact ⟨⟨s2, shp_s hE h7, h12, h13, a⟩, b⟩
  case aastore =>
    obtain ⟨v, s0, h1, h2⟩ := oPx_s h
    obtain ⟨j, s3, h3, h4⟩ := oI_s h2
    obtain ⟨x, r, h5, h6⟩ := oPx_s h4
    subst h5
    subst h3
    subst h1
    obtain ⟨⟨s1, s2⟩, h7, h8⟩ := ob_s h6
    obtain ⟨⟨t1, t2⟩, h14, h15⟩ := ob_s h8
    obtain ⟨h9, h10⟩ := gd_s h15
    obtain ⟨h11, h16, h12, h13⟩ := of_decide_eq_true h9
    have h11 : s1 = 1 := h11
    have h16 : t1 = 3 := h16
    subst h11
    subst h16
    obtain ⟨e3, g1, g2, g3⟩ := ePR_s (n := n) (R0 := R0) (D0 := D0) hE h10
    obtain ⟨a, b⟩ := hK _ _ _ _ g1 g3
    rw [g2] at a
    exact ⟨⟨s2, t2, shp_s hE h7, shp_s hE h14, h12, h13, a⟩, b⟩
  case arraylength =>
    obtain ⟨x, r, h1, h2⟩ := oPx_s h
    subst h1
    obtain ⟨⟨s1, s2⟩, h5, h6⟩ := ob_s h2
    obtain ⟨h7, h8⟩ := gd_s h6
    obtain ⟨h9, h10⟩ := of_decide_eq_true h7
    have h9 : s1 = 0 ∨ s1 = 1 := h9
    obtain ⟨a, b⟩ := hK _ _ _ _ hE h8
    refine ⟨⟨s2, ?_, h10, a⟩, b⟩
    rcases h9 with q | q
    · subst q
      exact Or.inl (shp_s hE h5)
    · subst q
      exact Or.inr (Or.inl (shp_s hE h5))
  case new idx =>
    obtain ⟨q, h3, h4⟩ := ob_s h
    obtain ⟨e3, g1, g2, g3⟩ := eAl_s (n := n) (R0 := R0) (D0 := D0) hE h4
    obtain ⟨a, b⟩ := hK _ _ _ _ g1 g3
    rw [g2] at a
    exact ⟨⟨q, h3, a⟩, b⟩
  case newarray t =>
    cases t
    case int =>
      obtain ⟨z, r, h5, h6⟩ := oI_s h
      subst h5
      obtain ⟨h7, h8⟩ := gd_s h6
      obtain ⟨h9, h10⟩ := of_decide_eq_true h7
      rw [frN_s] at h8
      obtain ⟨e3, g1, g2, g3⟩ := eAl_s (n := n) (R0 := R0) (D0 := D0) hE h8
      obtain ⟨a, b⟩ := hK _ _ _ _ g1 g3
      rw [g2] at a
      exact ⟨⟨h9, h10, a⟩, b⟩
    all_goals exact absurd (show (none : Option EM) = some e2 from h) (fun q => by cases q)
  case anewarray idx =>
    obtain ⟨z, r, h5, h6⟩ := oI_s h
    subst h5
    obtain ⟨q, h3, h4⟩ := ob_s h6
    obtain ⟨h7, h8⟩ := gd_s h4
    obtain ⟨h9, h10, h11⟩ := of_decide_eq_true h7
    rw [frN_s] at h8
    obtain ⟨e3, g1, g2, g3⟩ := eAl_s (n := n) (R0 := R0) (D0 := D0) hE h8
    obtain ⟨a, b⟩ := hK _ _ _ _ g1 g3
    rw [g2] at a
    exact ⟨⟨h9, h10, ⟨q, h3, h11⟩, a⟩, b⟩
  case invokevirtual idx =>
    obtain ⟨q, h3, h4⟩ := ob_s h
    obtain ⟨x, r, h1, h2⟩ := oPx_s h4
    obtain ⟨⟨s1, s2⟩, h5, h6⟩ := ob_s h2
    obtain ⟨h7, h8⟩ := gd_s h6
    obtain ⟨h9, h10, h11⟩ := of_decide_eq_true h7
    have h11 : s1 = xrk q.2.1 := h11
    subst h11
    obtain ⟨e3, g1, g2⟩ := ob_s h8
    obtain ⟨g3, g4⟩ := hC _ _ _ _ hE g1
    obtain ⟨a, b⟩ := hK _ _ _ _ g4 g2
    obtain ⟨h12, h13⟩ := st_drop h1
    exact ⟨⟨q, _, x, r, none, _, s2, h3, Or.inl h9, h12, h13, h10, shp_s hE h5, g3, a⟩, b⟩
  case invokespecial idx =>
    obtain ⟨q, h3, h4⟩ := ob_s h
    cases q6 : Nat.beq q.1 6 with
    | true =>
      rw [q6] at h4
      obtain ⟨x, r, h1, h2⟩ := oPx_s h4
      obtain ⟨h7, h8⟩ := gd_s h2
      obtain ⟨a, b⟩ := hK _ _ _ _ hE h8
      exact ⟨Or.inr ⟨q, x, r, h3, Nat.eq_of_beq_eq_true q6, h1, of_decide_eq_true h7, a⟩, b⟩
    | false =>
      rw [q6] at h4
      obtain ⟨x, r, h1, h2⟩ := oPx_s h4
      obtain ⟨h7, h8⟩ := gd_s h2
      obtain ⟨h9, h10⟩ := of_decide_eq_true h7
      obtain ⟨e3, g1, g2⟩ := ob_s h8
      obtain ⟨g3, g4⟩ := hC _ _ _ _ hE g1
      obtain ⟨a, b⟩ := hK _ _ _ _ g4 g2
      obtain ⟨h12, h13⟩ := st_drop h1
      exact ⟨Or.inl ⟨q, _, x, r, _, h3, h9, h12, h13, h10, g3, a⟩, b⟩
  case invokestatic idx =>
    obtain ⟨q, h3, h4⟩ := ob_s h
    obtain ⟨h7, h8⟩ := gd_s h4
    obtain ⟨h9, h10, h11⟩ := of_decide_eq_true h7
    obtain ⟨e3, g1, g2⟩ := ob_s h8
    obtain ⟨g3, g4⟩ := hC _ _ _ _ hE g1
    obtain ⟨a, b⟩ := hK _ _ _ _ g4 g2
    obtain ⟨h12, h13⟩ := st_take h10
    exact ⟨Or.inl ⟨q, _, _, none, _, h3, Or.inl h9, h12, h13, h11, g3, a⟩, b⟩
  case return_ =>
    dsimp only [eS, h_return_] at h
    split at h
    · split at h
      · next q =>
        cases h
        exact ⟨⟨rfl, q, hQ⟩, hE⟩
      · cases h
    · cases h
  all_goals exact absurd (show (none : Option EM) = some e2 from h) (fun q => by cases q)
end Esd
def itJ : List Nat := [0, 6, 7, 8, 30, 41, 42, 49, 50, 61, 62, 77, 81, 89, 105, 113, 114, 116, 160, 314]
def itb (j pc : Nat) : Option (Instr × Nat) := (bif Nat.blt j 62 then (bif Nat.blt j 41 then (bif Nat.blt j 7 then (bif Nat.blt j 6 then xi_0 pc else xi_6 pc) else (bif Nat.blt j 8 then xi_7 pc else (bif Nat.blt j 30 then xi_8 pc else xi_30 pc))) else (bif Nat.blt j 49 then (bif Nat.blt j 42 then xi_41 pc else xi_42 pc) else (bif Nat.blt j 50 then xi_49 pc else (bif Nat.blt j 61 then xi_50 pc else xi_61 pc)))) else (bif Nat.blt j 113 then (bif Nat.blt j 81 then (bif Nat.blt j 77 then xi_62 pc else xi_77 pc) else (bif Nat.blt j 89 then xi_81 pc else (bif Nat.blt j 105 then xi_89 pc else xi_105 pc))) else (bif Nat.blt j 116 then (bif Nat.blt j 114 then xi_113 pc else xi_114 pc) else (bif Nat.blt j 160 then xi_116 pc else (bif Nat.blt j 314 then xi_160 pc else xi_314 pc)))))
set_option maxRecDepth 100000 in
theorem itb_s {j : Nat} (h : j ∈ itJ) (pc : Nat) : itb j pc = xi j pc := by
  unfold itJ at h
  simp only [List.mem_cons, List.not_mem_nil, or_false] at h
  rcases h with rfl | rfl | rfl | rfl | rfl | rfl | rfl | rfl | rfl | rfl | rfl | rfl | rfl | rfl | rfl | rfl | rfl | rfl | rfl | rfl <;> rfl
theorem itJ_l : ∀ j ∈ itJ, j < 316 := by decide
def eW (CL : Nat → List XV → EM → Option EM) (i : Nat) : Nat → Nat → XLc → List XV → EM → Option EM
  | 0, _, _, _, _ => none
  | k + 1, pc, loc, st, e => ob (itb i pc) fun q => eS CL i (fun p l s e2 => frN p fun p => eW CL i k p l s e2) pc loc st e q.1
def eC (F : Nat) : Nat → Nat → List XV → EM → Option EM
  | 0, _, _, _ => none
  | d + 1, j, As, e => gd (decide (j ∈ itJ ∧ As.length ≤ xml j)) (frL (xent j As) fun l => eW (eC F d) j F 0 l [] e)
theorem eW_s {n : Nat} {R0 : Nat → Nat → Option Nat} {D0 : KK} {C : XCal} {CL : Nat → List XV → EM → Option EM} {i : Nat} (hi : i ∈ itJ) (hC : ∀ j As e e3, EI e → CL j As e = some e3 → C j As (den n R0 D0 e) none (den n R0 D0 e3) ∧ EI e3) {e2 : EM} : ∀ (k pc : Nat) (loc : XLc) (st : List XV) (e : EM), EI e → eW CL i k pc loc st e = some e2 → XW C i (fun r m => r = none ∧ m = den n R0 D0 e2) k pc loc st (den n R0 D0 e) ∧ EI e2
  | 0, _, _, _, _, _, h => by cases h
  | k + 1, pc, loc, st, e, hE, h => by
    obtain ⟨⟨op, len⟩, h1, h2⟩ := ob_s (show ob (itb i pc) (fun q => eS CL i (fun p l s e2 => frN p fun p => eW CL i k p l s e2) pc loc st e q.1) = some e2 from h)
    obtain ⟨a, b⟩ := eS_s (Q := fun r m => r = none ∧ m = den n R0 D0 e2) (kk := XW C i (fun r m => r = none ∧ m = den n R0 D0 e2) k) hC (fun p l s e3 g1 g2 => eW_s hi hC k p l s e3 g1 (by rw [frN_s] at g2; exact g2)) ⟨rfl, rfl⟩ op hE h2
    rw [itb_s hi] at h1
    exact ⟨⟨op, len, h1, a⟩, b⟩
theorem eC_s {n : Nat} {R0 : Nat → Nat → Option Nat} {D0 : KK} {F : Nat} : ∀ (d j : Nat) (As : List XV) (e e3 : EM), EI e → eC F d j As e = some e3 → XC d j As (den n R0 D0 e) none (den n R0 D0 e3) ∧ EI e3
  | 0, _, _, _, _, _, h => by cases h
  | d + 1, j, As, e, e3, hE, h => by
    obtain ⟨h1, h2⟩ := gd_s (show gd (decide (j ∈ itJ ∧ As.length ≤ xml j)) (frL (xent j As) fun l => eW (eC F d) j F 0 l [] e) = some e3 from h)
    obtain ⟨h3, h4⟩ := of_decide_eq_true h1
    rw [frL_s] at h2
    obtain ⟨a, b⟩ := eW_s (C := XC d) h3 (eC_s d) F 0 (xent j As) [] e hE h2
    exact ⟨⟨itJ_l j h3, h4, F, a⟩, b⟩
