/-! A law that stands: the reference answers as the class. -/
theorem LwR.fr {w : Nat} {L : List LN1} {D E : KK} (h : LwR w L D) (g : ∀ b k, 499 ≤ b → b ≤ 505 → E b k = D b k) : LwR w L E := by
  refine ⟨(g _ _ (by omega) (by omega)).trans h.1, h.2.1, fun i l q => ?_, h.2.2.2.1, fun j hj => ?_⟩
  · rw [g 500 _ (by omega) (by omega), g 501 _ (by omega) (by omega), g 502 _ (by omega) (by omega), g 503 _ (by omega) (by omega)]
    exact h.2.2.1 i l q
  · rw [g 504 _ (by omega) (by omega), g 505 _ (by omega) (by omega)]
    exact h.2.2.2.2 j hj
theorem AsK_G {f : Nat → Int} {E : KK} (h : ∀ k, k < 11 → E 508 k = f k) : AsK (rlh 0) f E := fun c q1 q2 q3 => by
  have q4 : (-1 - c).toNat < 11 := q3
  have e : (opR c).2 = -1 - c := by unfold opR; rw [if_neg (by omega), if_pos (by omega)]
  rw [e]
  exact h _ q4
theorem AsK_H {f : Nat → Int} {E : KK} (h : ∀ k, k < 5 → E 508 k = f k) (g : ∀ k, 10 < k → k < 15 → E 508 (k + 1) = f k) : AsK (rlh 1) f E := fun c q1 q2 q3 => by
  have q4 : (-1 - c).toNat < 5 ∨ (10 < (-1 - c).toNat ∧ (-1 - c).toNat < 15) := q3
  rcases q4 with q4 | q4
  · have e : (opR c).2 = -1 - c := by unfold opR; rw [if_neg (by omega), if_pos (by omega)]
    rw [e]
    exact h _ q4
  · have e : (opR c).2 = -c := by unfold opR; rw [if_neg (by omega), if_neg (by omega), if_pos (by omega)]
    rw [e, show (-c).toNat = (-1 - c).toNat + 1 by omega]
    exact g _ q4.1 q4.2
theorem r_lineOfG {n : Nat} {R : Nat → Nat → Option Nat} {E : KK} {f : Nat → Int} {L : List LN1} (hR : RF R) (hf : AsK (rlh 0) f E) (hL : LwR 0 L E) (hok : ∀ l ∈ L, ok1 0 l) : ∃ z E2, XC 3 227 [.inr (some 479), .inl 0] (xS n, R, E) (some (.inl z)) (xS n, R, E2) ∧ (∀ x j, x ≠ 509 → E2 x j = E x j) ∧ ((z = -1 ∧ ∀ o, lwV 0 f o L = o) ∨ ∃ j l, L[j]? = some l ∧ z = ((16 * 0 + j : Nat) : Int) ∧ ∀ o, lwV 0 f o L = lnV 0 f l) := by
  have hq : XX (XC 2) 227 (LoQ 0 0 f L E n R) 0 [some (.inr (some 479)), some (.inl 0), none, none] [] (xS n, R, E) := by
    refine xx_iconst (q := 1) rfl rfl (by decide) ?_
    refine xx_istore_n (q := 2) (loc2 := [_, _, _, _]) rfl rfl (Nat.le_of_ble_eq_true rfl) rfl ?_
    exact r_loG_L hR hf hL hok L.length 0 E none (by omega) (fun _ _ _ => rfl) (fun _ => rfl)
  obtain ⟨r, m2, hx, z, E2, rfl, rfl, q⟩ := XR_of (i := 227) (args := [.inr (some 479), .inl 0]) (Nat.le_of_ble_eq_true rfl) (Nat.le_of_ble_eq_true rfl) rfl hq
  exact ⟨z, E2, hx, q⟩
theorem r_lineOfH {n : Nat} {R : Nat → Nat → Option Nat} {E : KK} {f : Nat → Int} {L : List LN1} (hR : RF R) (hf : AsK (rlh 1) f E) (hL : LwR 1 L E) (hok : ∀ l ∈ L, ok1 1 l) : ∃ z E2, XC 3 227 [.inr (some 479), .inl 1] (xS n, R, E) (some (.inl z)) (xS n, R, E2) ∧ (∀ x j, x ≠ 509 → E2 x j = E x j) ∧ ((z = -1 ∧ ∀ o, lwV 1 f o L = o) ∨ ∃ j l, L[j]? = some l ∧ z = ((16 * 1 + j : Nat) : Int) ∧ ∀ o, lwV 1 f o L = lnV 1 f l) := by
  have hq : XX (XC 2) 227 (LoQ 1 1 f L E n R) 0 [some (.inr (some 479)), some (.inl 1), none, none] [] (xS n, R, E) := by
    refine xx_iconst (q := 1) rfl rfl (by decide) ?_
    refine xx_istore_n (q := 2) (loc2 := [_, _, _, _]) rfl rfl (Nat.le_of_ble_eq_true rfl) rfl ?_
    exact r_loH_L hR hf hL hok L.length 0 E none (by omega) (fun _ _ _ => rfl) (fun _ => rfl)
  obtain ⟨r, m2, hx, z, E2, rfl, rfl, q⟩ := XR_of (i := 227) (args := [.inr (some 479), .inl 1]) (Nat.le_of_ble_eq_true rfl) (Nat.le_of_ble_eq_true rfl) rfl hq
  exact ⟨z, E2, hx, q⟩
theorem RLG_of {n : Nat} {R : Nat → Nat → Option Nat} {D : KK} {L : List LN1} {G : LwF} (hR : RF R) (hL : LwR 0 L D) (hok : ∀ l ∈ L, ok1 0 l) (hG : ∀ f o, G f o = lwV 0 f o L) : RLG G n R D := fun E f h1 h2 => by
  obtain ⟨z, E2, hx, hF, hq⟩ := r_lineOfG (n := n) hR (AsK_G h2) (hL.fr h1) hok
  refine ⟨E2, z, XC_le (by omega) hx, hF, ?_⟩
  rw [hG f 1]
  rcases hq with ⟨e, q⟩ | ⟨j, l, e1, e2, q⟩
  · exact Or.inl ⟨e, by rw [q]; decide⟩
  · have hj : j < L.length := (List.getElem?_eq_some_iff.mp e1).1
    have h16 := hL.2.1
    have hw := (hL.2.2.1 j l e1).1
    refine Or.inr ⟨by omega, by omega, ?_⟩
    rw [q, show z.toNat = 16 * 0 + j by omega, hw]
    show l.1 = 0 ↔ ¬ (if l.1 = 0 then (1 : Int) else 0) = 0
    split
    · rename_i r; exact ⟨fun _ => by decide, fun _ => r⟩
    · rename_i r; exact ⟨fun q => absurd q r, fun q => absurd rfl q⟩
theorem RLH_of {n : Nat} {R : Nat → Nat → Option Nat} {D : KK} {L : List LN1} {G : LwF} (hR : RF R) (hL : LwR 1 L D) (hok : ∀ l ∈ L, ok1 1 l) (hG : ∀ f o, G f o = lwV 1 f o L) : RLH G n R D := fun E f h1 h2 h3 => by
  have hf := AsK_H h2 h3
  have hLE := hL.fr h1
  obtain ⟨z, E2, hx, hF, hq⟩ := r_lineOfH (n := n) hR hf hLE hok
  refine ⟨E2, z, XC_le (by omega) hx, hF, ?_⟩
  rcases hq with ⟨e, q⟩ | ⟨j, l, e1, e2, q⟩
  · exact Or.inl ⟨e, fun o => (hG f o).trans (q o)⟩
  · have hj : j < L.length := (List.getElem?_eq_some_iff.mp e1).1
    have h16 := hL.2.1
    have hw := hL.2.2.1 j l e1
    obtain ⟨rr, hrr⟩ := rfC_at e1
    have hlt : (rfC L).length = (rfC (L.take j)).length + ((rf1 l).length + rr.length) := by rw [hrr, List.length_append, List.length_append]
    have hlr : (rf1 l).length = l.2.1.length + (l.2.2.getD []).length := by unfold rf1; rw [List.length_append]
    have hL4 := hL.2.2.2.1
    have hz : z.toNat = 16 * 1 + j := by omega
    refine Or.inr ⟨by omega, by omega, vlX (rlh 1) f l.2.1, fun o => (hG f o).trans (q o), fun E3 h5 => ?_⟩
    rw [hz, hw.2.1, hw.2.2.1]
    obtain ⟨E4, hx4, hF4⟩ := r_runsH (n := n) (E := E3) (rl := rlh 1) (f := f) (V := vlX (rlh 1) f l.2.1) (δ := l.2.1) (rfC (L.take j)).length ((rfC (L.take j)).length + l.2.1.length) hR (fun c q1 q2 q3 => (h5 508 _ (by omega)).trans (hf c q1 q2 q3)) rfl rfl rfl (by omega) (fun i hi => by
      have h9 := hLE.2.2.2.2 ((rfC (L.take j)).length + i) (by omega)
      rw [hrr, getD_r, getD_l (by omega)] at h9
      unfold rf1 at h9
      rw [getD_l hi] at h9
      rw [h5 504 _ (by omega), h5 505 _ (by omega), show 400 * 1 + (rfC (L.take j)).length + i = 400 * 1 + ((rfC (L.take j)).length + i) by omega]
      exact h9) (fun k q => vlX_s (ok1_v (hok l (List.mem_of_getElem? e1)) (by decide)) (by omega) f [] k (by show 0 + 23 ≤ 64; omega) q)
    exact ⟨E4, XC_le (by omega) hx4, hF4⟩
/-- the codes of the class's lines ask only what its law may ask -/
theorem ev_rl {rl : Nat → Prop} {f : Nat → Int} {k : List Int → Prop} : ∀ (δ st : List Int), evP rl f δ st k → ∀ c ∈ δ, -15 ≤ c → c < 0 → rl (-1 - c).toNat
  | [], _, _, c, hc, _, _ => by cases hc
  | d :: δ, st, h, c, hc, q1, q2 => by
    have h2 : ev1 rl f d st (fun s3 => evP rl f δ s3 k) := h
    obtain ⟨_, h4⟩ := h2
    rcases List.mem_cons.mp hc with e | e
    · subst e
      rcases h4 with ⟨q, _⟩ | ⟨_, _, q, _⟩ | ⟨q, _⟩ | ⟨_, q, _⟩
      · omega
      · exact q
      · omega
      · omega
    · rcases h4 with ⟨_, r⟩ | ⟨_, _, _, r⟩ | ⟨_, x, r, _, _, r2⟩ | ⟨_, _, y, x, r, _, _, _, r2⟩
      · exact ev_rl δ _ r c e q1 q2
      · exact ev_rl δ _ r c e q1 q2
      · exact ev_rl δ _ r2 c e q1 q2
      · exact ev_rl δ _ r2 c e q1 q2
theorem EvX.rl {rl : Nat → Prop} {d : Nat} {bl : Prop} {δ : List Int} (h : EvX rl d bl δ) (hd : d ≤ 64) : ∀ c ∈ δ, -15 ≤ c → c < 0 → rl (-1 - c).toNat := by
  obtain ⟨v, _, h2⟩ := h (fun _ => 0)
  exact ev_rl δ [] (h2 [] (fun _ => True) (by show 0 + d ≤ 64; omega) trivial)
theorem clC_rl {h : Int} {L : List LN1} (hok : ∀ l ∈ L, ok1 h l) : ∀ c ∈ clC h L, -15 ≤ c → c < 0 → rlh h (-1 - c).toNat := fun c hc q1 q2 => by
  obtain ⟨l, hl, hc⟩ := List.mem_flatMap.mp hc
  have hk := hok l hl
  unfold cl1 at hc
  rcases List.mem_append.mp hc with r | r
  · rcases Classical.em (h = 0) with e | e
    · rw [if_pos e] at r
      rw [List.mem_singleton.mp r] at q2
      split at q2 <;> omega
    · rw [if_neg e] at r
      exact (ok1_v hk e).rl (by omega) c r q1 q2
  · cases hc2 : l.2.2 with
    | none =>
      rw [hc2] at r
      have := List.mem_singleton.mp r
      omega
    | some d =>
      rw [hc2] at r
      rcases List.mem_append.mp r with r | r
      · exact (ok1_c hk hc2).rl (by omega) c r q1 q2
      · have := List.mem_singleton.mp r
        omega
