/-! Readers: both answer alike, and nothing changes. -/
theorem b_depth {n : Nat} {R : Nat → Nat → Option Nat} {D : KK} {W : Wld} (h : JWd W R D) (p : Int) : Both 2 2 133 258 n R D [.inl p] := by
  have hI : KI W.K := h.2.2.1.1
  have c := h.1.2.1
  have x1 := c_depth (n := n) h.1.1 c.1 hI p
  obtain ⟨D2, x2, r⟩ := r_depth (n := n) h.1.1 h.2.1.1 hI p
  exact ⟨_, R, D, D2, W, x1, x2, h.kb c r h.2.2⟩
theorem b_at {n : Nat} {R : Nat → Nat → Option Nat} {D : KK} {W : Wld} (h : JWd W R D) (l w : Int) : Both 3 3 134 260 n R D [.inl l, .inl w] := by
  have hI : KI W.K := h.2.2.1.1
  have c := h.1.2.1
  have x1 := c_at (n := n) h.1.1 c.1 hI l w
  obtain ⟨D2, x2, r⟩ := r_at (n := n) h.1.1 h.2.1.1 hI l w
  exact ⟨_, R, D, D2, W, x1, x2, h.kb c r h.2.2⟩
theorem b_of {n : Nat} {R : Nat → Nat → Option Nat} {D : KK} {W : Wld} (h : JWd W R D) (a w : Int) : Both 2 2 135 261 n R D [.inl a, .inl w] := by
  have hI : KI W.K := h.2.2.1.1
  have c := h.1.2.1
  have x1 := c_of (n := n) h.1.1 c.1 hI a w
  obtain ⟨D2, x2, r⟩ := r_of (n := n) h.1.1 h.2.1.1 hI a w
  exact ⟨_, R, D, D2, W, x1, x2, h.kb c r h.2.2⟩
theorem b_book {n : Nat} {R : Nat → Nat → Option Nat} {D : KK} {W : Wld} (h : JWd W R D) (i w : Int) : Both 2 2 136 262 n R D [.inl i, .inl w] := by
  have hI : KI W.K := h.2.2.1.1
  have c := h.1.2.1
  have x1 := c_book (n := n) h.1.1 c.1 hI c.2.1 i w
  obtain ⟨D2, x2, r⟩ := r_book (n := n) h.1.1 h.2.1.1 hI i w
  exact ⟨_, R, D, D2, W, x1, x2, h.kb c r h.2.2⟩
theorem b_envy {n : Nat} {R : Nat → Nat → Option Nat} {D : KK} {W : Wld} (h : JWd W R D) : Both 4 3 147 292 n R D [] := by
  have hI : KI W.K := h.2.2.1.1
  have c := h.1.2.1
  have x1 := c_envy (n := n) h.1.1 c.1 hI
  obtain ⟨D2, x2, r⟩ := r_envy (n := n) h.1.1 h.2.1.1 hI
  exact ⟨_, R, D, D2, W, x1, x2, h.kb c r h.2.2⟩
theorem b_smile {n : Nat} {R : Nat → Nat → Option Nat} {D : KK} {W : Wld} (h : JWd W R D) (p : Int) : Both 4 2 148 294 n R D [.inl p] := by
  have hI : KI W.K := h.2.2.1.1
  have c := h.1.2.1
  have x1 := c_smile (n := n) h.1.1 c.1 hI c.2.1 p
  obtain ⟨D2, x2, r⟩ := r_smile (n := n) h.1.1 h.2.1.1 hI p
  exact ⟨_, R, D, D2, W, x1, x2, h.kb c r h.2.2⟩
