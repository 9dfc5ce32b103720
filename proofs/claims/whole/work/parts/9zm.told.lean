/-! Calls that change canal, book and undo; that the new world can stand is still a premise. -/
theorem b_pool {n : Nat} {R : Nat → Nat → Option Nat} {D : KK} {W : Wld} (h : JWd W R D) (p d : Int) (hi : WI (W.kb (polK W.K p d) (W.b) (W.B) (tldU (polP W.K p d) W.U))) : Both 3 2 119 183 n R D [.inl p, .inl d] := by
  have hI : KI W.K := h.2.2.1.1
  obtain ⟨D1, x1, c⟩ := c_pool (n := n) h.1.1 h.1.2.1 hI p d
  obtain ⟨D2, x2, r⟩ := r_pool (n := n) h.1.1 (RWd_m h.2.1 c.hi).1 hI p d
  exact ⟨_, R, D1, D2, _, x1, x2, h.kb c r hi⟩
theorem b_lock {n : Nat} {R : Nat → Nat → Option Nat} {D : KK} {W : Wld} (h : JWd W R D) (l w v : Int) (hi : WI (W.kb (lokK W.K l w v) (W.b) (W.B) (tldU (lokP W.K l w v) W.U))) : Both 4 3 120 185 n R D [.inl l, .inl w, .inl v] := by
  have hI : KI W.K := h.2.2.1.1
  obtain ⟨D1, x1, c⟩ := c_lock (n := n) h.1.1 h.1.2.1 hI l w v
  obtain ⟨D2, x2, r⟩ := r_lock (n := n) h.1.1 (RWd_m h.2.1 c.hi).1 hI l w v
  exact ⟨_, R, D1, D2, _, x1, x2, h.kb c r hi⟩
theorem b_load {n : Nat} {R : Nat → Nat → Option Nat} {D : KK} {W : Wld} (h : JWd W R D) (a w v : Int) (hi : WI (W.kb (lodK W.K a w v) (W.b) (W.B) (tldU (lodP W.K a w v) W.U))) : Both 4 3 122 188 n R D [.inl a, .inl w, .inl v] := by
  have hI : KI W.K := h.2.2.1.1
  obtain ⟨D1, x1, c⟩ := c_load (n := n) h.1.1 h.1.2.1 hI a w v
  obtain ⟨D2, x2, r⟩ := r_load (n := n) h.1.1 (RWd_m h.2.1 c.hi).1 hI a w v
  exact ⟨_, R, D1, D2, _, x1, x2, h.kb c r hi⟩
theorem b_set {n : Nat} {R : Nat → Nat → Option Nat} {D : KK} {W : Wld} (h : JWd W R D) (w v : Int) (hi : WI (W.kb (setK W.K w v) (W.b) (W.B) (tldU (setP w v) W.U))) : Both 4 2 123 190 n R D [.inl w, .inl v] := by
  have hI : KI W.K := h.2.2.1.1
  obtain ⟨D1, x1, c⟩ := c_set (n := n) h.1.1 h.1.2.1 hI w v
  obtain ⟨D2, x2, r⟩ := r_set (n := n) h.1.1 (RWd_m h.2.1 c.hi).1 hI w v
  exact ⟨_, R, D1, D2, _, x1, x2, h.kb c r hi⟩
theorem b_pull {n : Nat} {R : Nat → Nat → Option Nat} {D : KK} {W : Wld} (h : JWd W R D) (lock m : Int) (hi : WI (W.kb (pulT W.K lock m) (pullb W.K lock m W.b) (pullB W.K lock m W.b W.B) (pullU W.K lock m W.b W.U))) : Both 10 5 130 245 n R D [.inl lock, .inl m] := by
  have hI : KI W.K := h.2.2.1.1
  obtain ⟨D1, x1, c⟩ := c_pull (n := n) h.1.1 h.1.2.1 hI lock m
  obtain ⟨D2, x2, r⟩ := r_pull (n := n) h.1.1 (RWd_m h.2.1 c.hi).1 hI lock m
  exact ⟨_, R, D1, D2, _, x1, x2, h.kb c r hi⟩
theorem b_pass {n : Nat} {R : Nat → Nat → Option Nat} {D : KK} {W : Wld} (h : JWd W R D) (boat up wth : Int) (hi : WI (W.kb (pasT W.K (lwG W.L0) boat up wth) (pasb W.K (lwG W.L0) boat up wth W.b) (pasB W.K (lwG W.L0) boat up wth W.b W.B) (pasU W.K (lwG W.L0) boat up wth W.b W.U))) : Both 6 9 128 238 n R D [.inl boat, .inl up, .inl wth] := by
  have hI : KI W.K := h.2.2.1.1
  obtain ⟨g1, g2, g3, g4⟩ := h.laws (n := n)
  obtain ⟨D1, x1, c⟩ := c_pass (n := n) h.1.1 h.1.2.1 hI g1 g2 boat up wth
  have g5 : ∀ b k, 499 ≤ b → b ≤ 505 → D1 b k = D b k := fun b k q _ => c.hi b k (by omega)
  obtain ⟨D2, x2, r⟩ := r_pass (n := n) h.1.1 (RWd_m h.2.1 c.hi).1 hI (g3.fr g5) (g4.fr g5) boat up wth
  exact ⟨_, R, D1, D2, _, x1, x2, h.kb c r hi⟩
theorem b_give {n : Nat} {R : Nat → Nat → Option Nat} {D : KK} {W : Wld} (h : JWd W R D) (boat good amount lock : Int) (hi : WI (W.kb (givT W.K (lwH W.L1) boat good amount lock) (givb W.K boat good amount lock W.b) (givB W.K boat good amount lock W.b W.B) (givU W.K boat good amount lock W.b W.U))) : Both 5 8 129 243 n R D [.inl boat, .inl good, .inl amount, .inl lock] := by
  have hI : KI W.K := h.2.2.1.1
  obtain ⟨g1, g2, g3, g4⟩ := h.laws (n := n)
  obtain ⟨D1, x1, c⟩ := c_give (n := n) h.1.1 h.1.2.1 hI g1 g2 boat good amount lock
  have g5 : ∀ b k, 499 ≤ b → b ≤ 505 → D1 b k = D b k := fun b k q _ => c.hi b k (by omega)
  obtain ⟨D2, x2, r⟩ := r_give (n := n) h.1.1 (RWd_m h.2.1 c.hi).1 hI (g3.fr g5) (g4.fr g5) boat good amount lock
  exact ⟨_, R, D1, D2, _, x1, x2, h.kb c r hi⟩
