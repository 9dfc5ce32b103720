/-! More calls. -/
theorem b_boat {n : Nat} {R : Nat → Nat → Option Nat} {D : KK} {W : Wld} (h : JWd W R D) (p d a : Int) (hi : WI (W.kb (botK W.K p d a) W.b W.B (tldU (botP W.K p d a) W.U))) : Both 3 3 121 186 n R D [.inl p, .inl d, .inl a] := by
  have hI : KI W.K := h.2.2.1.1
  obtain ⟨D1, x1, c⟩ := c_boat (n := n) h.1.1 h.1.2.1 hI p d a
  obtain ⟨D2, x2, r⟩ := r_boat (n := n) h.1.1 (RWd_m h.2.1 c.hi).1 hI h.2.2.1.2.2.1 p d a
  exact ⟨_, R, D1, D2, _, x1, x2, h.kb c r hi⟩
theorem b_hours {n : Nat} {R : Nat → Nat → Option Nat} {D : KK} {W : Wld} (h : JWd W R D) (m : Int) (hi : WI (W.kb (waiZ (W.K, W.b, W.B, W.U) m).1 (waiZ (W.K, W.b, W.B, W.U) m).2.1 (waiZ (W.K, W.b, W.B, W.U) m).2.2.1 (waiZ (W.K, W.b, W.B, W.U) m).2.2.2)) : Both 8 7 131 253 n R D [.inl m] := by
  have hI : KI W.K := h.2.2.1.1
  obtain ⟨D1, x1, c⟩ := c_hours (n := n) h.1.1 h.1.2.1 hI m
  obtain ⟨D2, x2, r⟩ := r_hours (n := n) h.1.1 (RWd_m h.2.1 (NWd.hi c)).1 hI m
  exact ⟨_, R, D1, D2, _, x1, x2, h.kb c r hi⟩
