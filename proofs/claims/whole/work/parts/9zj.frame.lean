/-! What leaves the class's cells alone. -/
theorem SnC_m {lg lc hg hc pl ps hs bk cn : Nat} {X : XX9} {D E : KK} (h : SnC lg lc hg hc pl ps hs bk cn X D) (g : ∀ x k, (x = lg ∨ x = lc ∨ x = hg ∨ x = hc ∨ x = pl ∨ x = ps ∨ (hs ≤ x ∧ x ≤ hs + 5) ∨ (bk ≤ x ∧ x ≤ bk + 1) ∨ (cn ≤ x ∧ x ≤ cn + 17)) → E x k = D x k) : SnC lg lc hg hc pl ps hs bk cn X E := by
  obtain ⟨h1, h2, h3, h4, h5, h6⟩ := h
  refine ⟨CK_fr h1 (fun o k ho => g _ _ (by omega)), ⟨(g _ _ (by omega)).trans h2.1, fun k hk => (g _ _ (by omega)).trans (h2.2 k hk)⟩, ⟨(g _ _ (by omega)).trans h3.1, fun i hi => ⟨(g _ _ (by omega)).trans (h3.2.1 i hi).1, (g _ _ (by omega)).trans (h3.2.1 i hi).2.1, (g _ _ (by omega)).trans (h3.2.1 i hi).2.2⟩, fun k hk => ⟨(g _ _ (by omega)).trans (h3.2.2 k hk).1, (g _ _ (by omega)).trans (h3.2.2 k hk).2⟩⟩, ⟨(g _ _ (by omega)).trans h4.1, (g _ _ (by omega)).trans h4.2.1, fun i hi => (g _ _ (by omega)).trans (h4.2.2 i hi)⟩, ⟨(g _ _ (by omega)).trans h5.1, (g _ _ (by omega)).trans h5.2.1, fun i hi => (g _ _ (by omega)).trans (h5.2.2 i hi)⟩, ⟨(g _ _ (by omega)).trans h6.1, fun j s q => ?_⟩⟩
  have u := h6.2 j s q
  exact ⟨(g _ _ (by omega)).trans u.1, (g _ _ (by omega)).trans u.2.1, fun z => (g _ _ (by omega)).trans (u.2.2.1 z), fun z => (g _ _ (by omega)).trans (u.2.2.2.1 z), fun z => (g _ _ (by omega)).trans (u.2.2.2.2 z)⟩
theorem RF_c {R : Nat → Nat → Option Nat} (hR : RF R) {c1 c2 c3 : Nat} (e1 : R 7 3 = some c1) (e2 : R 11 3 = some c2) (e3 : R 15 4 = some c3) : (c1 = 8 ∨ c1 = 9) ∧ (c2 = 12 ∨ c2 = 13) ∧ (c3 = 16 ∨ c3 = 17) := by
  refine ⟨?_, ?_, ?_⟩
  · rcases hR.2.1 with q | q
    · rw [q.1] at e1; exact Or.inl (Option.some.inj e1).symm
    · rw [q.1] at e1; exact Or.inr (Option.some.inj e1).symm
  · rcases hR.2.2.1 with q | q
    · rw [q.1] at e2; exact Or.inl (Option.some.inj e2).symm
    · rw [q.1] at e2; exact Or.inr (Option.some.inj e2).symm
  · rcases hR.2.2.2 with q | q
    · rw [q.1] at e3; exact Or.inl (Option.some.inj e3).symm
    · rw [q.1] at e3; exact Or.inr (Option.some.inj e3).symm
theorem CWd_m {W : Wld} {R : Nat → Nat → Option Nat} {D E : KK} (h : CWd W R D) (g : ∀ x k, x < 479 → E x k = D x k) : CWd W R E := by
  obtain ⟨hR, ⟨n1, n2, n3, _⟩, ⟨c1, c2, c3, e1, e2, e3, hS⟩, a3, a4, a5, a6, a7, a8, a9⟩ := h
  obtain ⟨d1, d2, d3⟩ := RF_c hR e1 e2 e3
  refine ⟨hR, ⟨CK_fr n1 (fun o k ho => g _ _ (by omega)), ⟨(g 25 0 (by omega)).trans n2.1, n2.2.1, n2.2.2.1, fun k hk => (g 26 k (by omega)).trans (n2.2.2.2 k hk)⟩, n3.fr (fun b k q1 q2 => g b k (by omega)), fun _ _ _ _ _ => rfl⟩, ⟨c1, c2, c3, e1, e2, e3, SnC_m hS (fun x k q => g x k (by omega))⟩, ⟨(g _ _ (by omega)).trans a3.1, fun k hk => (g _ _ (by omega)).trans (a3.2 k hk)⟩, a4.fr (fun x k q1 q2 => g x k (by omega)), (g _ _ (by omega)).trans a5, (g _ _ (by omega)).trans a6, (g _ _ (by omega)).trans a7, (g _ _ (by omega)).trans a8, ?_⟩
  cases hm : W.im with
  | none =>
    rw [hm] at a9
    exact (g 5 5 (by omega)).trans a9
  | some s =>
    rw [hm] at a9
    exact ⟨(g 5 5 (by omega)).trans a9.1, SnC_m a9.2 (fun x k q => g x k (by omega))⟩
/-- the world with another canal, book and undo -/
abbrev Wld.kb (W : Wld) (K : KK) (b : Int) (B : Nat → Int) (U : UU) : Wld := ((K, (b, B), W.1.2.2), U, W.2.2)
theorem CWd_kb {W : Wld} {R : Nat → Nat → Option Nat} {D E : KK} {K : KK} {b : Int} {B : Nat → Int} {U : UU} (h : CWd W R D) (g : NWd K b B U D E) (g5 : ∀ k, E 5 k = D 5 k) : CWd (W.kb K b B U) R E := by
  obtain ⟨hR, ⟨n1, n2, n3, _⟩, ⟨c1, c2, c3, e1, e2, e3, hS⟩, a3, a4, a5, a6, a7, a8, a9⟩ := h
  obtain ⟨d1, d2, d3⟩ := RF_c hR e1 e2 e3
  obtain ⟨m1, m2, m3, m4⟩ := g
  obtain ⟨h1, h2, h3, h4, h5, h6⟩ := hS
  have hf : ∀ x k, x < 25 ∨ (46 ≤ x ∧ x < 86) ∨ 279 ≤ x → x ≠ 10 → x ≠ 14 → E x k = D x k := fun x k q q1 q2 => m4 x k q q1 q2
  refine ⟨hR, ⟨m1, m2, m3, fun _ _ _ _ _ => rfl⟩, ⟨c1, c2, c3, e1, e2, e3, ?_⟩, ⟨(hf _ _ (by omega) (by omega) (by omega)).trans a3.1, fun k hk => (hf _ _ (by omega) (by omega) (by omega)).trans (a3.2 k hk)⟩, a4.fr (fun x k q1 q2 => hf x k (by omega) (by omega) (by omega)), (hf _ _ (by omega) (by omega) (by omega)).trans a5, (hf _ _ (by omega) (by omega) (by omega)).trans a6, (hf _ _ (by omega) (by omega) (by omega)).trans a7, (hf _ _ (by omega) (by omega) (by omega)).trans a8, ?_⟩
  · refine ⟨m1, ⟨m2.1, m2.2.2.2⟩, ⟨(hf _ _ (by omega) (by omega) (by omega)).trans h3.1, fun i hi => ⟨(hf _ _ (by omega) (by omega) (by omega)).trans (h3.2.1 i hi).1, (hf _ _ (by omega) (by omega) (by omega)).trans (h3.2.1 i hi).2.1, (hf _ _ (by omega) (by omega) (by omega)).trans (h3.2.1 i hi).2.2⟩, fun k hk => ⟨(hf _ _ (by omega) (by omega) (by omega)).trans (h3.2.2 k hk).1, (hf _ _ (by omega) (by omega) (by omega)).trans (h3.2.2 k hk).2⟩⟩, ⟨(hf _ _ (by omega) (by omega) (by omega)).trans h4.1, (hf _ _ (by omega) (by omega) (by omega)).trans h4.2.1, fun i hi => (hf _ _ (by omega) (by omega) (by omega)).trans (h4.2.2 i hi)⟩, ⟨(hf _ _ (by omega) (by omega) (by omega)).trans h5.1, (hf _ _ (by omega) (by omega) (by omega)).trans h5.2.1, fun i hi => (hf _ _ (by omega) (by omega) (by omega)).trans (h5.2.2 i hi)⟩, ⟨(hf _ _ (by omega) (by omega) (by omega)).trans h6.1, fun j s q => ?_⟩⟩
    have u := h6.2 j s q
    exact ⟨(hf _ _ (by omega) (by omega) (by omega)).trans u.1, (hf _ _ (by omega) (by omega) (by omega)).trans u.2.1, fun z => (hf _ _ (by omega) (by omega) (by omega)).trans (u.2.2.1 z), fun z => (hf _ _ (by omega) (by omega) (by omega)).trans (u.2.2.2.1 z), fun z => (hf _ _ (by omega) (by omega) (by omega)).trans (u.2.2.2.2 z)⟩
  · show match W.im with | none => E 5 5 = 0 | some s => E 5 5 = 1 ∧ SnC 47 48 51 52 55 56 58 65 67 (snX s) E
    cases hm : W.im with
    | none =>
      rw [hm] at a9
      exact (g5 5).trans a9
    | some s =>
      rw [hm] at a9
      exact ⟨(g5 5).trans a9.1, SnC_m a9.2 (fun x k q => hf x k (by omega) (by omega) (by omega))⟩
