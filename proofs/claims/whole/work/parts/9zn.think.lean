/-! Calls that think: nothing of the world changes. -/
theorem FX.nw {K : KK} {b : Int} {B : Nat → Int} {U : UU} {D E : KK} (h : NWd K b B U D D) (f : FX D E) : NWd K b B U E E ∧ (∀ x k, 479 ≤ x → E x k = D x k) := by
  obtain ⟨m1, m2, m3, _⟩ := h
  exact ⟨⟨CK_fr m1 (fun o k ho => f _ _ (by omega) (by omega) (by omega)), ⟨(f _ _ (by omega) (by omega) (by omega)).trans m2.1, m2.2.1, m2.2.2.1, fun k hk => (f _ _ (by omega) (by omega) (by omega)).trans (m2.2.2.2 k hk)⟩, m3.fr (fun x k q1 q2 => f x k (by omega) (by omega) (by omega)), fun _ _ _ _ _ => rfl⟩, fun x k q => f x k (by omega) (by omega) (by omega)⟩
theorem CWd_x {W : Wld} {R : Nat → Nat → Option Nat} {D E : KK} (h : CWd W R D) (f : FX D E) : CWd W R E := by
  have n9 := (f.nw h.2.1).1
  obtain ⟨hR, n0, ⟨c1, c2, c3, e1, e2, e3, hS⟩, a3, a4, a5, a6, a7, a8, a9⟩ := h
  obtain ⟨d1, d2, d3⟩ := RF_c hR e1 e2 e3
  have g : ∀ x k, (x < 279 ∨ 474 ≤ x) → x ≠ 10 → x ≠ 14 → E x k = D x k := fun x k q1 q2 q3 => f x k q1 q2 q3
  refine ⟨hR, n9, ⟨c1, c2, c3, e1, e2, e3, SnC_m hS (fun x k q => g x k (by omega) (by omega) (by omega))⟩, ⟨(g _ _ (by omega) (by omega) (by omega)).trans a3.1, fun k hk => (g _ _ (by omega) (by omega) (by omega)).trans (a3.2 k hk)⟩, a4.fr (fun x k q1 q2 => g x k (by omega) (by omega) (by omega)), (g _ _ (by omega) (by omega) (by omega)).trans a5, (g _ _ (by omega) (by omega) (by omega)).trans a6, (g _ _ (by omega) (by omega) (by omega)).trans a7, (g _ _ (by omega) (by omega) (by omega)).trans a8, ?_⟩
  cases hm : W.im with
  | none =>
    rw [hm] at a9
    exact (g 5 5 (by omega) (by omega) (by omega)).trans a9
  | some s =>
    rw [hm] at a9
    exact ⟨(g 5 5 (by omega) (by omega) (by omega)).trans a9.1, SnC_m a9.2 (fun x k q => g x k (by omega) (by omega) (by omega))⟩
theorem JWd.x {W : Wld} {R : Nat → Nat → Option Nat} {D D1 D2 : KK} (h : JWd W R D) (f : FX D D1) (r : PV W.K W.b W.B W.U D1 D2) : JWd W R D2 := ⟨CWd_m (CWd_x h.1 f) r.lo, RWd_kb (RWd_m h.2.1 (f.nw h.1.2.1).2) r, h.2.2⟩
theorem b_far {n : Nat} {R : Nat → Nat → Option Nat} {D : KK} {W : Wld} (h : JWd W R D) (boat up w : Int) : Both 7 10 137 264 n R D [.inl boat, .inl up, .inl w] := by
  have hI : KI W.K := h.2.2.1.1
  obtain ⟨g1, g2, g3, g4⟩ := h.laws (n := n)
  obtain ⟨D1, x1, f⟩ := c_far (n := n) h.1.1 h.1.2.1.1 hI g1 boat up w
  have hh := (f.nw h.1.2.1).2
  have g5 : ∀ b k, 499 ≤ b → b ≤ 505 → D1 b k = D b k := fun b k q _ => hh b k (by omega)
  obtain ⟨D2, x2, r⟩ := r_far (n := n) h.1.1 (RWd_m h.2.1 hh).1 hI (g3.fr g5) boat up w
  exact ⟨_, R, D1, D2, W, x1, x2, h.x f r⟩
theorem b_later {n : Nat} {R : Nat → Nat → Option Nat} {D : KK} {W : Wld} (h : JWd W R D) (m w a c : Int) : Both 7 6 146 291 n R D [.inl m, .inl w, .inl a, .inl c] := by
  have hI : KI W.K := h.2.2.1.1
  obtain ⟨D1, x1, f⟩ := c_later (n := n) h.1.1 h.1.2.1.1 hI m w a c
  have hh := (f.nw h.1.2.1).2
  obtain ⟨D2, x2, r⟩ := r_later (n := n) h.1.1 (RWd_m h.2.1 hh).1 hI m w a c
  exact ⟨_, R, D1, D2, W, x1, x2, h.x f r⟩
theorem b_please {n : Nat} {R : Nat → Nat → Option Nat} {D : KK} {W : Wld} (h : JWd W R D) (boat good pool w : Int) : Both 17 12 138 270 n R D [.inl boat, .inl good, .inl pool, .inl w] := by
  have hI : KI W.K := h.2.2.1.1
  obtain ⟨g1, g2, g3, g4⟩ := h.laws (n := n)
  obtain ⟨D1, x1, f⟩ := c_please (n := n) h.1.1 h.1.2.1.1 hI g1 g2 boat good pool w
  have hh := (f.nw h.1.2.1).2
  have g5 : ∀ b k, 499 ≤ b → b ≤ 505 → D1 b k = D b k := fun b k q _ => hh b k (by omega)
  obtain ⟨D2, x2, r⟩ := r_please (n := n) h.1.1 (RWd_m h.2.1 hh).1 hI (g3.fr g5) (g4.fr g5) h.2.2.1.2.1 boat good pool w
  exact ⟨_, R, D1, D2, W, x1, x2, h.x f r⟩
