/-! Who pulled: the reference. -/
def AgK (A B : KK) : Prop := A 0 0 = B 0 0 ∧ (∀ k, A 2 k = B 2 k) ∧ ∀ j : Nat, (j : Int) ≤ A 0 0 → A 1 j = B 1 j
theorem AgK.up {A B : KK} {p : Nat} {v w : Int} (h : AgK A B) (hv : v = w) : AgK (xui A 1 p v) (xui B 1 p w) := by
  subst hv
  refine ⟨?_, fun k => ?_, fun j hj => ?_⟩
  · rw [xui_a (by omega), xui_a (by omega)]; exact h.1
  · rw [xui_a (by omega), xui_a (by omega)]; exact h.2.1 k
  · rw [xui_a (by omega)] at hj
    rcases Classical.em (j = p) with rfl | q
    · rw [xui_s, xui_s]
    · rw [xui_j q, xui_j q]; exact h.2.2 j hj
theorem AgK.sea {A B : KK} {v w : Int} (h : AgK A B) : AgK (xui A 0 2 v) (xui B 0 2 w) := by
  refine ⟨?_, fun k => ?_, fun j hj => ?_⟩
  · rw [xui_j (by omega), xui_j (by omega)]; exact h.1
  · rw [xui_a (by omega), xui_a (by omega)]; exact h.2.1 k
  · rw [xui_j (by omega)] at hj
    rw [xui_a (by omega), xui_a (by omega)]; exact h.2.2 j hj
theorem AgK_come : ∀ (k : Nat) (A B : KK) (pool on : Int), AgK A B → 0 ≤ pool → pool + k = A 0 0 + 1 → AgK (comeL k A pool on) (comeL k B pool on)
  | 0, A, B, pool, on, h, _, _ => h.sea
  | k + 1, A, B, pool, on, h, h0, h1 => by
    have e : A 1 pool.toNat = B 1 pool.toNat := h.2.2 _ (by omega)
    have e2 : xui A 1 pool.toNat (mnF (A 1 pool.toNat + on) 999) 0 0 = A 0 0 := xui_a (by omega)
    unfold comeL
    rw [e]
    rw [e] at e2
    exact AgK_come k _ _ _ _ (h.up rfl) (by omega) (by rw [e2]; omega)
theorem AgK_flow {A B : KK} {lock : Int} (h : AgK A B) (h0 : 0 ≤ lock) (h1 : lock < A 0 0) : AgK (flowF A lock (A 2 lock.toNat)) (flowF B lock (B 2 lock.toNat)) := by
  have e : A 1 lock.toNat = B 1 lock.toNat := h.2.2 _ (by omega)
  unfold flowF comeF
  rw [xui_a (by omega), xui_a (by omega), e, h.2.1, h.1]
  exact AgK_come _ _ _ _ _ (h.up rfl) (by omega) (by rw [xui_a (by omega)]; have := h.1; omega)
theorem AgK_asd {A B K : KK} : ∀ (k : Nat) (p : Int), AgK A B → 0 ≤ p → p + k ≤ A 0 0 + 1 → asdL k A K p = asdL k B K p
  | 0, _, _, _, _ => rfl
  | k + 1, p, h, h0, h1 => by
    have e : A 1 p.toNat = B 1 p.toNat := h.2.2 _ (by omega)
    unfold asdL
    rw [e, AgK_asd k (p + 1) h (by omega) (by omega)]
theorem AgK_fnd {K : KK} {lock : Int} (h0 : 0 ≤ lock) (h1 : lock < K 0 0) : ∀ (k : Nat) (A B : KK) (m : Int) (s : Int × Int × Int), AgK A B → A 0 0 = K 0 0 → fndM K lock k A m s = fndM K lock k B m s
  | 0, _, _, _, _, _, _ => rfl
  | k + 1, A, B, m, s, h, hL => by
    have e : A 1 lock.toNat = B 1 lock.toNat := h.2.2 _ (by omega)
    have hf := AgK_flow h h0 (by omega)
    have hl2 : flowF A lock (A 2 lock.toNat) 0 0 = K 0 0 := (flowF_k (by decide) (by omega)).trans hL
    have ha : asdB (flowF A lock (A 2 lock.toNat)) K = asdB (flowF B lock (B 2 lock.toNat)) K := AgK_asd _ _ hf (by omega) (by omega)
    unfold fndM
    rw [AgK_fnd h0 h1 k _ _ _ _ hf hl2]
    unfold fndS
    rw [ha, e, h.2.1]
/-- what the reference counts -/
def PQ (s : Int × Int × Int) (D : KK) : Prop := D 479 57 = s.1 ∧ D 479 58 = (if s.2.1 = -1 then -1 else 100 * s.2.1 + s.2.2) ∧ 0 ≤ s.1 ∧ s.1 ≤ 1000 ∧ (s.1 = 0 ↔ s.2.1 = -1) ∧ ((s.2.1 = -1 ∧ s.2.2 = -1) ∨ (0 ≤ s.2.1 ∧ s.2.1 ≤ 8 ∧ 1 ≤ s.2.2 ∧ s.2.2 ≤ 20))
theorem PQ.fr {s : Int × Int × Int} {D E : KK} (h : PQ s D) (g : ∀ k, k = 57 ∨ k = 58 → E 479 k = D 479 k) : PQ s E := ⟨(g 57 (by omega)).trans h.1, (g 58 (by omega)).trans h.2.1, h.2.2⟩
set_option maxHeartbeats 1000000 in
theorem r_po_1 {n : Nat} {R : Nat → Nat → Option Nat} {K D0 : KK} {b : Int} {B : Nat → Int} {U : UU} {Q : XQ} {S : KK} (hR : RF R) (hI : KI K) (sn : Nat → Int) (hsnI : ∀ k, 0 ≤ sn k ∧ sn k ≤ 999) (hsn : ∀ k, k < 10 → D0 494 k = sn k) (lock : Int) (h0 : 0 ≤ lock) (hlk : lock < K 0 0) : ∀ (k : Nat) (L D : KK) (p : Int), RT K b B U L D0 D → KI L → (∀ x k, x ≠ 480 → D x k = S x k) → (∀ j : Nat, (j : Int) < p → L 1 j = sn j) → L 0 0 = K 0 0 → (∀ k, L 2 k = K 2 k) → 0 ≤ p → p + k = K 0 0 + 1 → (∀ (L2 D2 : KK) (p2 : Int), RT K b B U L2 D0 D2 → KI L2 → (∀ x k, x ≠ 480 → D2 x k = S x k) → AgK L2 (sdK K sn) → XX (XC 3) 277 Q 33 [some (.inr (some 479)), some (.inl lock), some (.inl p2)] [] (xS n, R, D2)) → XX (XC 3) 277 (Q) 2 [some (.inr (some 479)), some (.inl lock), some (.inl p)] [] (xS n, R, D) := by
  intro k
  induction k using Nat.strongRecOn with
  | ind k ih =>
  intro L D p hT hJ hS hA hL0 hL2 hp0 hk kx
  have hbL := ki_L hI
  have hbs := hsnI p.toNat
  refine xx_iload_n (q := 3) rfl rfl rfl ?_
  refine xx_aload_n (q := 4) rfl rfl rfl ?_
  refine xx_gez (q := 7) rfl rfl rfl xS_479 (Nat.le_of_ble_eq_true rfl) rfl hT.2.1.1 ?_
  refine xx_icmp_gt (q := 33) (q2 := 10) rfl rfl rfl (fun h7 => ?_) (fun h7 => ?_)
  · obtain rfl : k = 0 := by omega
    exact kx L D p hT hJ hS ⟨hL0, hL2, fun j hj => hA j (by omega)⟩
  · obtain ⟨k, rfl⟩ : ∃ k2, k = k2 + 1 := ⟨k - 1, by omega⟩
    refine xx_aload_n (q := 11) rfl rfl rfl ?_
    refine xx_getR (q := 14) rfl rfl rfl xS_479 (Nat.le_of_ble_eq_true rfl) rfl (hR.1 479 1 rfl) ?_
    refine xx_iconst (q := 15) rfl rfl (by decide) ?_
    refine xx_iload_n (q := 16) rfl rfl rfl ?_
    refine xx_iaddR (q := 17) rfl rfl (by omega) (by omega) ?_
    refine xx_aload_n (q := 18) rfl rfl rfl ?_
    refine xx_getR (q := 21) rfl rfl rfl xS_479 (Nat.le_of_ble_eq_true rfl) rfl (hR.1 479 20 rfl) ?_
    refine xx_iload_n (q := 22) rfl rfl rfl ?_
    refine xx_iaz (v := sn (p).toNat) (q := 23) rfl rfl xS_494 (by omega) (by omega) ((hT.2.2.2 494 _ (by unfold restR; omega)).trans (hsn _ (by omega))) ?_
    refine xx_bipush (q := 25) rfl rfl (by decide) ?_
    refine xx_isubR (q := 26) rfl rfl (by omega) (by omega) ?_
    refine xr_isz (fun d => RT K b B U (xui L 1 p.toNat (sn p.toNat)) D0 d ∧ ∀ x k, x ≠ 480 → d x k = D x k) (q := 27) rfl rfl xS_480 (by omega) (by omega) ⟨hT.step (rs_1 (v := sn p.toNat) (p := p) hT.1 hJ (by omega) (by omega) (by rfl)), fun x k q => xui_a q⟩ (fun D2 hT2 => ?_)
    refine xx_incz (q := 30) (loc2 := [_, _, _]) rfl rfl rfl (by omega) (by omega) rfl rfl ?_
    refine xx_goto (q := 2) rfl rfl ?_
    refine ih k (by omega) _ _ _ hT2.1 (KI_up hJ (show (0 : Int) ≤ _ by omega) (show _ ≤ (999 : Int) by omega)) (fun x k q => (hT2.2 x k q).trans (hS x k q)) (fun j hj => ?_) ((xui_a (by omega)).trans hL0) (fun k => (xui_a (by omega)).trans (hL2 k)) (by omega) (by omega) kx
    rcases Classical.em (j = p.toNat) with rfl | q
    · exact xui_s
    · rw [xui_j q]; exact hA j (by omega)
set_option maxHeartbeats 1000000 in
theorem r_po_2 {n : Nat} {R : Nat → Nat → Option Nat} {K D0 : KK} {b : Int} {B : Nat → Int} {U : UU} {Q : XQ} (hR : RF R) (hI : KI K) (sn : Nat → Int) (hsnI : ∀ k, 0 ≤ sn k ∧ sn k ≤ 999) (hsn : ∀ k, k < 10 → D0 494 k = sn k) (lock : Int) (h0 : 0 ≤ lock) (hlk : lock < K 0 0) : ∀ (k : Nat) (L D : KK) (m : Int) (s : Int × Int × Int), RT K b B U L D0 D → KI L → PQ s D → L 0 0 = K 0 0 → (∀ k, L 2 k = K 2 k) → 1 ≤ m → m + k = 21 → s.1 + k ≤ 1000 → (∀ (D2 L2 : KK), RT K b B U L2 D0 D2 → KI L2 → PQ (fndM K lock k L m s) D2 → L2 0 0 = K 0 0 → (∀ k, L2 2 k = K 2 k) → Q none (xS n, R, D2)) → XX (XC 3) 277 (Q) 35 [some (.inr (some 479)), some (.inl lock), some (.inl m)] [] (xS n, R, D) := by
  intro k
  induction k using Nat.strongRecOn with
  | ind k ih =>
  intro L D m s hT hJ hPq hL0 hL2 hm0 hk hs1 kx
  have hbL := ki_L hI
  have hq3 := hPq.2.2.1
  refine xx_iload_n (q := 36) rfl rfl rfl ?_
  refine xx_bipush (q := 38) rfl rfl (by decide) ?_
  refine xx_icmp_gt (q := 114) (q2 := 41) rfl rfl rfl (fun h38 => ?_) (fun h38 => ?_)
  · refine xx_vret rfl rfl ?_
    obtain rfl : k = 0 := by omega
    exact kx _ L hT hJ hPq hL0 hL2
  · refine xx_aload_n (q := 42) rfl rfl rfl ?_
    refine xx_iload_n (q := 43) rfl rfl rfl ?_
    refine xx_callV (q := 46) (As := [_]) (rest := []) rfl rfl rfl (Or.inl rfl) rfl rfl (Nat.le_of_ble_eq_true rfl) xS_479 (XCm (r_depthOf hR hT.1 hJ lock (by omega) (by omega)) rfl) rfl ?_
    have hb1 := ki_1 hJ (lock).toNat
    refine xx_aload_n (q := 47) rfl rfl rfl ?_
    refine xx_iload_n (q := 48) rfl rfl rfl ?_
    refine xx_callV (q := 51) (As := [_]) (rest := [_]) rfl rfl rfl (Or.inl rfl) rfl rfl (Nat.le_of_ble_eq_true rfl) xS_479 (XCm (r_fillOf hR hT.1 hJ lock (by omega) (by omega)) rfl) rfl ?_
    have hb2 := ki_2 hJ (lock).toNat
    refine xx_icmp_lt (q := 114) (q2 := 54) rfl rfl rfl (fun h51 => ?_) (fun h51 => ?_)
    · refine xx_vret rfl rfl ?_
      have e2 : fndM K lock k L m s = s := by
        cases k with
        | zero => rfl
        | succ k => exact if_pos (by omega)
      rw [e2] at kx
      exact kx _ L hT hJ hPq hL0 hL2
    · refine xx_aload_n (q := 55) rfl rfl rfl ?_
      refine xx_iload_n (q := 56) rfl rfl rfl ?_
      refine xx_aload_n (q := 57) rfl rfl rfl ?_
      refine xx_iload_n (q := 58) rfl rfl rfl ?_
      refine xx_callV (q := 61) (As := [_]) (rest := [_, _]) rfl rfl rfl (Or.inl rfl) rfl rfl (Nat.le_of_ble_eq_true rfl) xS_479 (XCm (r_fillOf hR hT.1 hJ lock (by omega) (by omega)) rfl) rfl ?_
      have hb3 := ki_2 hJ (lock).toNat
      obtain ⟨D4, hx4, hv4⟩ := r_flows (n := n) hR hT.1 hJ lock (L 2 (lock).toNat) (by omega) (by omega) (by omega) (by omega) (by omega)
      have hT4 := hT.step hv4
      have hI4 : KI (flowF L lock (L 2 lock.toNat)) := flowF_I hJ (by omega) (by omega)
      have hS4 : PQ s D4 := hPq.fr (fun k q => hv4.2.2.2.2.2.2 479 k (by omega) (by omega) (by omega) (by omega) (by omega) (by omega))
      refine xx_callV (q := 64) (As := [_, _]) (rest := []) rfl rfl rfl (Or.inl rfl) rfl rfl (Nat.le_of_ble_eq_true rfl) xS_479 (XCm hx4 rfl) rfl ?_
      refine xx_aload_n (q := 65) rfl rfl rfl ?_
      refine xx_callV (q := 68) (As := []) (rest := []) rfl rfl rfl (Or.inl rfl) rfl rfl (Nat.le_of_ble_eq_true rfl) xS_479 (XCm (r_areAsWaiting (n := n) hR hT4 hI hI4) rfl) rfl ?_
      refine xx_ifb_ne (q := 74) (q2 := 71) rfl rfl rfl (fun h68 => ?_) (fun h68 => ?_)
      · refine xx_aload_n (q := 75) rfl rfl rfl ?_
        refine xx_aload_n (q := 76) rfl rfl rfl ?_
        refine xx_gez (q := 79) rfl rfl rfl xS_479 (Nat.le_of_ble_eq_true rfl) rfl hS4.1 ?_
        refine xx_if_ne (q := 91) (q2 := 82) rfl rfl rfl (fun h79 => ?_) (fun h79 => ?_)
        · refine xx_aload_n (q := 92) rfl rfl rfl ?_
          refine xx_gez (q := 95) rfl rfl rfl xS_479 (Nat.le_of_ble_eq_true rfl) rfl hS4.2.1 ?_
          refine xx_puz (q := 98) rfl rfl rfl xS_479 (Nat.le_of_ble_eq_true rfl) (Nat.le_of_ble_eq_true rfl) (fun h => by cases h) (Or.inl rfl) rfl ?_
          refine xx_aload_n (q := 99) rfl rfl rfl ?_
          refine xx_aload_n (q := 100) rfl rfl rfl ?_
          refine xx_gez (q := 103) rfl rfl rfl xS_479 (Nat.le_of_ble_eq_true rfl) rfl ((xui_j (by omega)).trans hS4.1) ?_
          refine xx_iconst (q := 104) rfl rfl (by decide) ?_
          refine xx_iaddR (q := 105) rfl rfl (by omega) (by omega) ?_
          refine xx_puz (q := 108) rfl rfl rfl xS_479 (Nat.le_of_ble_eq_true rfl) (Nat.le_of_ble_eq_true rfl) (fun h => by cases h) (Or.inl rfl) rfl ?_
          refine xx_incz (q := 111) (loc2 := [_, _, _]) rfl rfl rfl (by omega) (by omega) rfl rfl ?_
          refine xx_goto (q := 35) rfl rfl ?_
          obtain ⟨k, rfl⟩ : ∃ k2, k = k2 + 1 := ⟨k - 1, by omega⟩
          have e2 : fndM K lock (k + 1) L m s = fndM K lock k (flowF L lock (L 2 lock.toNat)) (m + 1) (fndS (flowF L lock (L 2 lock.toNat)) K lock m s) := if_neg (by omega)
          rw [e2] at kx
          have e3 : fndS (flowF L lock (L 2 lock.toNat)) K lock m s = (s.1 + 1, if s.2.1 = -1 then (lock, m) else s.2) := if_pos h68
          rw [e3] at kx
          refine ih k (by omega) _ _ _ _ (hT4.scr (fun x k q1 q2 => (show xui (xui _ 479 58 _) 479 57 _ x k = _ from if_neg (fun r => by have := q1 r.1; omega)).trans (if_neg (fun r => by have := q1 r.1; omega)))) hI4 ?_ (by rw [flowF_k (by decide) (by omega)]; exact hL0) (fun k => (flowF_k (by decide) (by omega)).trans (hL2 k)) (by omega) (by omega) (by show s.1 + 1 + _ ≤ _; omega) kx
          have e4 : ¬ s.2.1 = -1 := fun q => h79 (hPq.2.2.2.2.1.mpr q)
          rw [if_neg e4]
          exact ⟨xui_s, (xui_j (by omega)).trans xui_s, by show 0 ≤ s.1 + 1; omega, by show s.1 + 1 ≤ 1000; omega, ⟨fun q => by exfalso; have q2 : s.1 + 1 = 0 := q; omega, fun q => absurd q e4⟩, hPq.2.2.2.2.2⟩
        · refine xx_bipush (q := 84) rfl rfl (by decide) ?_
          refine xx_iload_n (q := 85) rfl rfl rfl ?_
          refine xx_imulR (q := 86) rfl rfl (by omega) (by omega) ?_
          refine xx_iload_n (q := 87) rfl rfl rfl ?_
          refine xx_iaddR (q := 88) rfl rfl (by omega) (by omega) ?_
          refine xx_goto (q := 95) rfl rfl ?_
          refine xx_puz (q := 98) rfl rfl rfl xS_479 (Nat.le_of_ble_eq_true rfl) (Nat.le_of_ble_eq_true rfl) (fun h => by cases h) (Or.inl rfl) rfl ?_
          refine xx_aload_n (q := 99) rfl rfl rfl ?_
          refine xx_aload_n (q := 100) rfl rfl rfl ?_
          refine xx_gez (q := 103) rfl rfl rfl xS_479 (Nat.le_of_ble_eq_true rfl) rfl ((xui_j (by omega)).trans hS4.1) ?_
          refine xx_iconst (q := 104) rfl rfl (by decide) ?_
          refine xx_iaddR (q := 105) rfl rfl (by omega) (by omega) ?_
          refine xx_puz (q := 108) rfl rfl rfl xS_479 (Nat.le_of_ble_eq_true rfl) (Nat.le_of_ble_eq_true rfl) (fun h => by cases h) (Or.inl rfl) rfl ?_
          refine xx_incz (q := 111) (loc2 := [_, _, _]) rfl rfl rfl (by omega) (by omega) rfl rfl ?_
          refine xx_goto (q := 35) rfl rfl ?_
          obtain ⟨k, rfl⟩ : ∃ k2, k = k2 + 1 := ⟨k - 1, by omega⟩
          have e2 : fndM K lock (k + 1) L m s = fndM K lock k (flowF L lock (L 2 lock.toNat)) (m + 1) (fndS (flowF L lock (L 2 lock.toNat)) K lock m s) := if_neg (by omega)
          rw [e2] at kx
          have e3 : fndS (flowF L lock (L 2 lock.toNat)) K lock m s = (s.1 + 1, if s.2.1 = -1 then (lock, m) else s.2) := if_pos h68
          rw [e3] at kx
          refine ih k (by omega) _ _ _ _ (hT4.scr (fun x k q1 q2 => (show xui (xui _ 479 58 _) 479 57 _ x k = _ from if_neg (fun r => by have := q1 r.1; omega)).trans (if_neg (fun r => by have := q1 r.1; omega)))) hI4 ?_ (by rw [flowF_k (by decide) (by omega)]; exact hL0) (fun k => (flowF_k (by decide) (by omega)).trans (hL2 k)) (by omega) (by omega) (by show s.1 + 1 + _ ≤ _; omega) kx
          have e4 : s.2.1 = -1 := hPq.2.2.2.2.1.mp (by omega)
          rw [if_pos e4]
          refine ⟨xui_s, (xui_j (by omega)).trans (xui_s.trans ?_), by show 0 ≤ s.1 + 1; omega, by show s.1 + 1 ≤ 1000; omega, ⟨fun q => by exfalso; have q2 : s.1 + 1 = 0 := q; omega, fun q => by exfalso; have q2 : lock = -1 := q; omega⟩, Or.inr ⟨h0, by show lock ≤ 8; omega, by show 1 ≤ m; omega, by show m ≤ 20; omega⟩⟩
          show 100 * lock + m = if lock = -1 then -1 else 100 * lock + m
          rw [if_neg (by omega)]
      · refine xx_goto (q := 108) rfl rfl ?_
        refine xx_incz (q := 111) (loc2 := [_, _, _]) rfl rfl rfl (by omega) (by omega) rfl rfl ?_
        refine xx_goto (q := 35) rfl rfl ?_
        obtain ⟨k, rfl⟩ : ∃ k2, k = k2 + 1 := ⟨k - 1, by omega⟩
        have e2 : fndM K lock (k + 1) L m s = fndM K lock k (flowF L lock (L 2 lock.toNat)) (m + 1) (fndS (flowF L lock (L 2 lock.toNat)) K lock m s) := if_neg (by omega)
        rw [e2] at kx
        rw [show fndS (flowF L lock (L 2 lock.toNat)) K lock m s = s from if_neg h68] at kx
        exact ih k (by omega) _ _ _ _ hT4 hI4 hS4 (by rw [flowF_k (by decide) (by omega)]; exact hL0) (fun k => (flowF_k (by decide) (by omega)).trans (hL2 k)) (by omega) (by omega) (by omega) kx
set_option maxHeartbeats 1000000 in
theorem r_pullsOn {n : Nat} {R : Nat → Nat → Option Nat} {K D0 : KK} {b : Int} {B : Nat → Int} {U : UU} {L D : KK} (hR : RF R) (hI : KI K) (sn : Nat → Int) (hsnI : ∀ k, 0 ≤ sn k ∧ sn k ≤ 999) (hsn : ∀ k, k < 10 → D0 494 k = sn k) (lock : Int) (h0 : 0 ≤ lock) (hlk : lock < K 0 0) (s : Int × Int × Int) (hT : RT K b B U L D0 D) (hJ : KI L) (hL0 : L 0 0 = K 0 0) (hL2 : ∀ k, L 2 k = K 2 k) (hPq : PQ s D) (hs1 : s.1 ≤ 180) : ∃ D', XC 4 277 [.inr (some 479), .inl lock] (xS n, R, D) none (xS n, R, D') ∧ ∃ L2, RT K b B U L2 D0 D' ∧ KI L2 ∧ L2 0 0 = K 0 0 ∧ (∀ k, L2 2 k = K 2 k) ∧ PQ (fndM K lock 20 (sdK K sn) 1 s) D' := by
  have hbL := ki_L hI
  refine XE_of (Nat.le_of_ble_eq_true rfl) (Nat.le_of_ble_eq_true rfl) (loc := [_, _, _]) rfl ?_
  refine xx_iconst (q := 1) rfl rfl (by decide) ?_
  refine xx_istore_n (q := 2) (loc2 := [_, _, _]) rfl rfl (Nat.le_of_ble_eq_true rfl) rfl ?_
  refine r_po_1 (S := D) hR hI sn hsnI hsn lock h0 hlk (K 0 0 + 1).toNat L D 0 hT hJ (fun _ _ _ => rfl) (fun j hj => by omega) hL0 hL2 (by omega) (by omega) (fun L2 D2 p2 hT2 hJ2 hS2 hA2 => ?_)
  refine xx_iconst (q := 34) rfl rfl (by decide) ?_
  refine xx_istore_n (q := 35) (loc2 := [_, _, _]) rfl rfl (Nat.le_of_ble_eq_true rfl) rfl ?_
  have e := AgK_fnd h0 hlk 20 L2 (sdK K sn) 1 s hA2 (hA2.1)
  refine r_po_2 hR hI sn hsnI hsn lock h0 hlk 20 L2 D2 1 s hT2 hJ2 (hPq.fr (fun k _ => hS2 479 k (by omega))) (hA2.1) (fun k => hA2.2.1 k) (by omega) (by omega) (by omega) (fun D3 L3 q1 q2 q3 q4 q5 => ⟨rfl, D3, rfl, L3, q1, q2, q4, q5, ?_⟩)
  rw [← e]
  exact q3
set_option maxHeartbeats 1000000 in
theorem r_pd_L {n : Nat} {R : Nat → Nat → Option Nat} {K D0 : KK} {b : Int} {B : Nat → Int} {U : UU} {Q : XQ} (hR : RF R) (hI : KI K) (sn : Nat → Int) (hsnI : ∀ k, 0 ≤ sn k ∧ sn k ≤ 999) (hsn : ∀ k, k < 10 → D0 494 k = sn k) (w : Int) : ∀ (k : Nat) (L D : KK) (lock : Int) (s : Int × Int × Int), RT K b B U L D0 D → KI L → PQ s D → L 0 0 = K 0 0 → (∀ k, L 2 k = K 2 k) → 0 ≤ lock → lock + k = K 0 0 → s.1 ≤ 20 * lock → (∀ (D2 L2 : KK) (l2 : Int), RT K b B U L2 D0 D2 → PQ (fndL K sn k lock s) D2 → XX (XC 4) 278 Q 52 [some (.inr (some 479)), some (.inl w), some (.inl l2)] [] (xS n, R, D2)) → XX (XC 4) 278 (Q) 33 [some (.inr (some 479)), some (.inl w), some (.inl lock)] [] (xS n, R, D) := by
  intro k
  induction k using Nat.strongRecOn with
  | ind k ih =>
  intro L D lock s hT hJ hPq hL0 hL2 hl0 hk hs1 kx
  have hbL := ki_L hI
  refine xx_iload_n (q := 34) rfl rfl rfl ?_
  refine xx_aload_n (q := 35) rfl rfl rfl ?_
  refine xx_gez (q := 38) rfl rfl rfl xS_479 (Nat.le_of_ble_eq_true rfl) rfl hT.2.1.1 ?_
  refine xx_icmp_ge (q := 52) (q2 := 41) rfl rfl rfl (fun h38 => ?_) (fun h38 => ?_)
  · obtain rfl : k = 0 := by omega
    exact kx D L _ hT hPq
  · obtain ⟨k, rfl⟩ : ∃ k2, k = k2 + 1 := ⟨k - 1, by omega⟩
    refine xx_aload_n (q := 42) rfl rfl rfl ?_
    refine xx_iload_n (q := 43) rfl rfl rfl ?_
    obtain ⟨D1, hx1, L1, hT1, hJ1, hM1, hN1, hPq1⟩ := r_pullsOn (n := n) hR hI sn hsnI hsn lock (by omega) (by omega) s hT hJ hL0 hL2 hPq (by omega)
    refine xx_callV (q := 46) (As := [_]) (rest := []) rfl rfl rfl (Or.inl rfl) rfl rfl (Nat.le_of_ble_eq_true rfl) xS_479 (XCm hx1 rfl) rfl ?_
    refine xx_incz (q := 49) (loc2 := [_, _, _]) rfl rfl rfl (by omega) (by omega) rfl rfl ?_
    refine xx_goto (q := 33) rfl rfl ?_
    have hb2 := fndM_b (K := K) (lock := lock) 20 (sdK K sn) 1 s
    exact ih k (by omega) L1 D1 _ _ hT1 hJ1 hPq1 hM1 hN1 (by omega) (by omega) (by omega) kx
theorem xd_100 {l m : Int} (h0 : 0 ≤ l) (h1 : l ≤ 8) (h2 : 1 ≤ m) (h3 : m ≤ 20) : xdiv (100 * l + m) 100 = l ∧ xrem (100 * l + m) 100 = m := by
  constructor
  · unfold xdiv
    rw [Int.tdiv_eq_ediv_of_nonneg (by omega), show (100 * l + m) / 100 = l by omega]
    exact nrm_id ⟨by omega, by omega⟩
  · unfold xrem
    rw [Int.tmod_eq_emod_of_nonneg (by omega)]
    omega
theorem puld_n {K : KK} {sn : Nat → Int} {w : Int} (hw : 0 ≤ w ∧ w ≤ 2) (h6 : ((fndF K sn).2.1 = -1 ∧ (fndF K sn).2.2 = -1) ∨ (0 ≤ (fndF K sn).2.1 ∧ (fndF K sn).2.1 ≤ 8 ∧ 1 ≤ (fndF K sn).2.2 ∧ (fndF K sn).2.2 ≤ 20)) (v : Int) (hv : v = if w = 0 then (fndF K sn).1 else if (if (fndF K sn).2.1 = -1 then -1 else 100 * (fndF K sn).2.1 + (fndF K sn).2.2) = -1 then -1 else if w = 1 then xdiv (if (fndF K sn).2.1 = -1 then -1 else 100 * (fndF K sn).2.1 + (fndF K sn).2.2) 100 else xrem (if (fndF K sn).2.1 = -1 then -1 else 100 * (fndF K sn).2.1 + (fndF K sn).2.2) 100) : v = puldF K sn w := by
  rw [hv]
  unfold puldF
  rw [if_neg (show ¬ ¬ (0 ≤ w ∧ w ≤ 2) from fun q => q hw)]
  rcases Classical.em (w = 0) with e | e
  · rw [if_pos e, if_pos e]
  · rw [if_neg e, if_neg e]
    rcases h6 with ⟨q1, q2⟩ | ⟨q1, q2, q3, q4⟩
    · rw [if_pos q1, if_pos rfl, q1, q2]
      split <;> rfl
    · obtain ⟨r1, r2⟩ := xd_100 q1 q2 q3 q4
      rw [if_neg (show ¬ (fndF K sn).2.1 = -1 by omega), if_neg (by omega), r1, r2]
set_option maxHeartbeats 1000000 in
theorem r_pd_E {n : Nat} {R : Nat → Nat → Option Nat} {K L D1 D D2 : KK} {b : Int} {B : Nat → Int} {U : UU} (hR : RF R) (hT : RT K b B U L D1 D2) (hI : KI K) (hP0 : PV K b B U D D1) (sn : Nat → Int) (w l : Int) (hw : 0 ≤ w ∧ w ≤ 2) (hPq2 : PQ (fndF K sn) D2) : XX (XC 4) 278 (XP (some (.inl (puldF K sn w))) (xS n) R (PV K b B U D)) 52 [some (.inr (some 479)), some (.inl w), some (.inl l)] [] (xS n, R, D2) := by
  refine xx_aload_n (q := 53) rfl rfl rfl ?_
  obtain ⟨D1, hx1, hV1, hF1, hA1⟩ := r_endsThought (n := n) hR hT hI
  have hP1 : PV K b B U D D1 := ⟨hV1, hP0.2.trans hF1.fq⟩
  refine xx_callV (q := 56) (As := []) (rest := []) rfl rfl rfl (Or.inl rfl) rfl rfl (Nat.le_of_ble_eq_true rfl) xS_479 (XCm hx1 rfl) rfl ?_
  refine xx_iload_n (q := 57) rfl rfl rfl ?_
  refine xx_if_ne (q := 65) (q2 := 60) rfl rfl rfl (fun h57 => ?_) (fun h57 => ?_)
  · refine xx_aload_n (q := 66) rfl rfl rfl ?_
    refine xx_gez (q := 69) rfl rfl rfl xS_479 (Nat.le_of_ble_eq_true rfl) rfl ((hA1 479 58 (by omega) (by omega)).trans hPq2.2.1) ?_
    refine xx_iconst (q := 70) rfl rfl (by decide) ?_
    refine xx_icmp_ne (q := 77) (q2 := 73) rfl rfl rfl (fun h70 => ?_) (fun h70 => ?_)
    · refine xx_iload_n (q := 78) rfl rfl rfl ?_
      refine xx_iconst (q := 79) rfl rfl (by decide) ?_
      refine xx_icmp_ne (q := 92) (q2 := 82) rfl rfl rfl (fun h79 => ?_) (fun h79 => ?_)
      · refine xx_aload_n (q := 93) rfl rfl rfl ?_
        refine xx_gez (q := 96) rfl rfl rfl xS_479 (Nat.le_of_ble_eq_true rfl) rfl ((hA1 479 58 (by omega) (by omega)).trans hPq2.2.1) ?_
        refine xx_bipush (q := 98) rfl rfl (by decide) ?_
        refine xx_irem (q := 99) rfl rfl (by omega) ?_
        exact xx_iret rfl trivial ⟨congrArg (fun z => some (Sum.inl z)) (by have h6 := hPq2.2.2.2.2.2; exact puld_n hw h6 _ (by grind)), _, rfl, hP1⟩
      · refine xx_aload_n (q := 83) rfl rfl rfl ?_
        refine xx_gez (q := 86) rfl rfl rfl xS_479 (Nat.le_of_ble_eq_true rfl) rfl ((hA1 479 58 (by omega) (by omega)).trans hPq2.2.1) ?_
        refine xx_bipush (q := 88) rfl rfl (by decide) ?_
        refine xx_idiv (q := 89) rfl rfl (by omega) ?_
        refine xx_goto (q := 99) rfl rfl ?_
        exact xx_iret rfl trivial ⟨congrArg (fun z => some (Sum.inl z)) (by have h6 := hPq2.2.2.2.2.2; exact puld_n hw h6 _ (by grind)), _, rfl, hP1⟩
    · refine xx_iconst (q := 74) rfl rfl (by decide) ?_
      refine xx_goto (q := 99) rfl rfl ?_
      exact xx_iret rfl trivial ⟨congrArg (fun z => some (Sum.inl z)) (by have h6 := hPq2.2.2.2.2.2; exact puld_n hw h6 _ (by grind)), _, rfl, hP1⟩
  · refine xx_aload_n (q := 61) rfl rfl rfl ?_
    refine xx_gez (q := 64) rfl rfl rfl xS_479 (Nat.le_of_ble_eq_true rfl) rfl ((hA1 479 57 (by omega) (by omega)).trans hPq2.1) ?_
    exact xx_iret rfl trivial ⟨congrArg (fun z => some (Sum.inl z)) (by have h6 := hPq2.2.2.2.2.2; exact puld_n hw h6 _ (by grind)), _, rfl, hP1⟩
theorem r_thinks2 {n : Nat} {R : Nat → Nat → Option Nat} {t : Int} {K D0 D : KK} {b : Int} {B : Nat → Int} {U : UU} (hR : RF R) (hV : RV t K b B U D0 D) (hI : KI K) : ∃ D', XC 1 166 [.inr (some 479)] (xS n, R, D) none (xS n, R, D') ∧ RT K b B U K D D' ∧ ∀ a x, a ≠ 482 → (a = 479 → x ≠ 5) → D' a x = D a x := by
  refine XE_of (Nat.le_of_ble_eq_true rfl) (Nat.le_of_ble_eq_true rfl) (loc := [_, _]) rfl ?_
  refine xx_iconst (q := 1) rfl rfl (by decide) ?_
  refine xx_istore_n (q := 2) (loc2 := [_, _]) rfl rfl (Nat.le_of_ble_eq_true rfl) rfl ?_
  refine r_think_L hR 125 D 0 (by omega) (by omega) (fun E l2 g1 g2 g3 => ?_)
  refine xx_aload_n (q := 27) rfl rfl rfl ?_
  refine xx_iconst (q := 28) rfl rfl (by decide) ?_
  refine xx_puz (q := 31) rfl rfl rfl xS_479 (Nat.le_of_ble_eq_true rfl) (Nat.le_of_ble_eq_true rfl) (fun h => by cases h) (Or.inr ⟨rfl, by omega⟩) rfl ?_
  refine xx_vret rfl rfl ⟨rfl, _, rfl, ?_⟩
  have hg : ∀ a x, a ≠ 482 → (a = 479 → x ≠ 5) → xui E 479 5 1 a x = D a x := fun a x q1 q2 => (show xui E 479 5 1 a x = E a x from if_neg (fun r => q2 r.1 r.2)).trans (g3 a x q1)
  have hz : FZ D (xui E 479 5 1) := fun b k q => by unfold restR at q; exact hg b k (by omega) (by omega)
  exact ⟨⟨hV.t hg xui_s, hV.2.1.fz hz, RW_eq hV.1 (fun j hj => (xui_a (by omega)).trans (g1 j hj (by omega))) (ki_B hI).2, hz⟩, hg⟩
set_option maxHeartbeats 2000000 in
theorem r_pulled {n : Nat} {R : Nat → Nat → Option Nat} {K D : KK} {b : Int} {B : Nat → Int} {U : UU} (hR : RF R) (hV : RV 0 K b B U D D) (hI : KI K) (sn : Nat → Int) (hsnI : ∀ k, 0 ≤ sn k ∧ sn k ≤ 999) (hsn : ∀ k, k < 10 → D 494 k = sn k) (w : Int) : ∃ D', XC 5 278 [.inr (some 479), .inl w] (xS n, R, D) (some (.inl (puldF K sn w))) (xS n, R, D') ∧ PV (K) (b) (B) (U) D D' := by
  have hbL := ki_L hI
  refine XE_of (Nat.le_of_ble_eq_true rfl) (Nat.le_of_ble_eq_true rfl) (loc := [_, _, _]) rfl ?_
  refine xx_aload_n (q := 1) rfl rfl rfl ?_
  refine xx_iconst (q := 2) rfl rfl (by decide) ?_
  refine xr_puz (PV K b B U D) (q := 5) rfl rfl rfl xS_479 (Nat.le_of_ble_eq_true rfl) (Nat.le_of_ble_eq_true rfl) (fun h => by cases h) (Or.inl rfl) ⟨hV.u (by decide), FQ.rf.up (by unfold restQ; omega)⟩ (fun D1 hP0 => ?_)
  refine xx_aload_n (q := 6) rfl rfl rfl ?_
  refine xx_iload_n (q := 7) rfl rfl rfl ?_
  refine xx_iconst (q := 8) rfl rfl (by decide) ?_
  refine xx_iconst (q := 9) rfl rfl (by decide) ?_
  refine xx_callV (q := 12) (As := [_, _, _]) (rest := []) rfl rfl rfl (Or.inl rfl) rfl rfl (Nat.le_of_ble_eq_true rfl) xS_479 (XCm (r_isIn w 0 2) rfl) rfl ?_
  refine xx_ifb_ne (q := 17) (q2 := 15) rfl rfl rfl (fun h12 => ?_) (fun h12 => ?_)
  · refine xx_aload_n (q := 18) rfl rfl rfl ?_
    refine xx_iconst (q := 19) rfl rfl (by decide) ?_
    refine xr_puz (fun d => PV K b B U D d ∧ d 479 57 = 0) (q := 22) rfl rfl rfl xS_479 (Nat.le_of_ble_eq_true rfl) (Nat.le_of_ble_eq_true rfl) (fun h => by cases h) (Or.inl rfl) ⟨⟨hP0.1.u (by decide), hP0.2.up (by unfold restQ; omega)⟩, xui_s⟩ (fun D2 hq2 => ?_)
    refine xx_aload_n (q := 23) rfl rfl rfl ?_
    refine xx_iconst (q := 24) rfl rfl (by decide) ?_
    refine xr_puz (fun d => PV K b B U D d ∧ d 479 57 = 0 ∧ d 479 58 = -1) (q := 27) rfl rfl rfl xS_479 (Nat.le_of_ble_eq_true rfl) (Nat.le_of_ble_eq_true rfl) (fun h => by cases h) (Or.inl rfl) ⟨⟨hq2.1.1.u (by decide), hq2.1.2.up (by unfold restQ; omega)⟩, (xui_j (by omega)).trans hq2.2, xui_s⟩ (fun D4 hq4 => ?_)
    refine xx_aload_n (q := 28) rfl rfl rfl ?_
    obtain ⟨D5, hx5, hT5, hE5⟩ := r_thinks2 (n := n) hR hq4.1.1 hI
    refine xx_callV (q := 31) (As := []) (rest := []) rfl rfl rfl (Or.inl rfl) rfl rfl (Nat.le_of_ble_eq_true rfl) xS_479 (XCm hx5 rfl) rfl ?_
    refine xx_iconst (q := 32) rfl rfl (by decide) ?_
    refine xx_istore_n (q := 33) (loc2 := [_, _, _]) rfl rfl (Nat.le_of_ble_eq_true rfl) rfl ?_
    refine r_pd_L (D0 := D4) hR hI sn hsnI (fun k hk => (hq4.1.2 494 k (by unfold restQ; omega)).trans (hsn k hk)) w (K 0 0).toNat K _ 0 (0, -1, -1) hT5 hI (PQ.fr (D := D4) ⟨hq4.2.1, hq4.2.2, by decide, by decide, by decide, Or.inl ⟨rfl, rfl⟩⟩ (fun k q => hE5 479 k (by omega) (by omega))) rfl (fun _ => rfl) (by omega) (by omega) (by decide) (fun D2 L2 l2 hT2 hPq2 => r_pd_E hR hT2 hI hq4.1 sn w l2 h12 hPq2)
  · refine xx_iconst (q := 16) rfl rfl (by decide) ?_
    refine xx_iret rfl trivial ⟨congrArg (fun z => some (Sum.inl z)) (by unfold puldF; rw [if_pos (by omega)]), _, rfl, ?_⟩
    exact hP0
