/-! A call that changes canal, book and undo. -/
theorem RWd_kb {W : Wld} {D E : KK} {K : KK} {b : Int} {B : Nat → Int} {U : UU} (h : RWd W D) (g : PV K b B U D E) : RWd (W.kb K b B U) E := by
  obtain ⟨a1, a2, a3, a4, a5, a6, a7⟩ := h
  obtain ⟨v, f⟩ := g
  have f2 : ∀ x k, x < 479 ∨ (x = 479 ∧ (k = 16 ∨ k = 24 ∨ k = 44 ∨ k = 45 ∨ k = 47 ∨ k = 63)) ∨ (491 ≤ x ∧ x ≤ 495) ∨ (497 ≤ x ∧ x ≤ 507) ∨ x = 515 → E x k = D x k := fun x k q => f x k q
  obtain ⟨b1, b2, b3, b4, b5, b6, b7, b8⟩ := a2
  refine ⟨v, ⟨v.1, v.2.1, v.2.2.2.2.1, ?_, fun k hk => ⟨(f2 494 k (by omega)).trans (b5 k hk).1, (f2 495 k (by omega)).trans (b5 k hk).2⟩, b6.fr (fun x k q1 q2 => f2 x k (by omega)), b7.fr (fun x k q1 q2 => f2 x k (by omega)), b8.fr (f2 479 47 (by omega)) (fun k => f2 507 k (by omega))⟩, ⟨(f2 479 24 (by omega)).trans a3.1, fun k hk => (f2 497 k (by omega)).trans (a3.2 k hk)⟩, fun j hj => (f2 498 j (by omega)).trans (a4 j hj), (f2 479 44 (by omega)).trans a5, (f2 479 45 (by omega)).trans a6, ?_⟩
  · exact ⟨(f2 479 16 (by omega)).trans b4.1, fun i hi => ⟨(f2 491 i (by omega)).trans (b4.2 i hi).1, (f2 492 i (by omega)).trans (b4.2 i hi).2.1, (f2 493 i (by omega)).trans (b4.2 i hi).2.2⟩⟩
  · show match W.im with | none => E 479 63 = 0 | some s => E 479 63 = 1 ∧ ∃ Dm, SnR s Dm ∧ ∀ j, j < 2904 → E 515 j = Dm (ad j).1 (ad j).2
    cases hm : W.im with
    | none =>
      rw [hm] at a7
      exact (f2 479 63 (by omega)).trans a7
    | some s =>
      rw [hm] at a7
      obtain ⟨c1, Dm, c2, c3⟩ := a7
      exact ⟨(f2 479 63 (by omega)).trans c1, Dm, c2, fun j hj => (f2 515 j (by omega)).trans (c3 j hj)⟩
theorem NWd.hi {K : KK} {b : Int} {B : Nat → Int} {U : UU} {D E : KK} (h : NWd K b B U D E) : ∀ x k, 479 ≤ x → E x k = D x k := fun x k q => h.2.2.2 x k (by omega) (by omega) (by omega)
theorem PV.lo {K : KK} {b : Int} {B : Nat → Int} {U : UU} {D E : KK} (h : PV K b B U D E) : ∀ x k, x < 479 → E x k = D x k := fun x k q => h.2 x k (Or.inl q)
/-- first the class, then the reference -/
theorem JWd.kb {W : Wld} {R : Nat → Nat → Option Nat} {D D1 D2 : KK} {K : KK} {b : Int} {B : Nat → Int} {U : UU} (h : JWd W R D) (c : NWd K b B U D D1) (r : PV K b B U D1 D2) (i : WI (W.kb K b B U)) : JWd (W.kb K b B U) R D2 := ⟨CWd_m (CWd_kb h.1 c (fun k => c.2.2.2 5 k (by omega) (by omega) (by omega))) r.lo, RWd_kb (RWd_m h.2.1 c.hi) r, i⟩
/-- what both answer, and what stands after it -/
def Both (dc dr ic ir : Nat) (n : Nat) (R : Nat → Nat → Option Nat) (D : KK) (args : List XV) : Prop := ∃ z R2 D1 D2 W2, XC dc ic (.inr (some 5) :: args) (xS n, R, D) (some (.inl z)) (xS n, R2, D1) ∧ XC dr ir (.inr (some 479) :: args) (xS n, R2, D1) (some (.inl z)) (xS n, R2, D2) ∧ JWd W2 R2 D2
theorem b_state {n : Nat} {R : Nat → Nat → Option Nat} {D : KK} {W : Wld} (h : JWd W R D) (v : Int) (hv : xok v) (hi : WI (W.kb (xui W.K 0 3 v) W.b W.B [])) : Both 2 1 117 169 n R D [.inl v] := by
  have hI : KI W.K := h.2.2.1.1
  obtain ⟨D1, x1, c⟩ := c_state (n := n) h.1.1 h.1.2.1 hI v hv
  obtain ⟨D2, x2, r⟩ := r_state (n := n) h.1.1 (RWd_m h.2.1 c.hi).1 hI v hv
  exact ⟨_, R, D1, D2, _, x1, x2, h.kb c r hi⟩
