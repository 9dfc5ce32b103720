/-! The tape: what is fed, ended, told; the world with other texts. -/
abbrev Wld.tx (W : Wld) (L0 L1 : List LN1) (P : List PSt) (bs : List Int) (f p : Int) : Wld := ((W.K, (W.b, W.B), W.Y, W.sn, W.nd, L0, L1, P), W.U, bs, f, p, W.im)
theorem CWd_tx {W : Wld} {R R2 : Nat → Nat → Option Nat} {D E : KK} {L0 L1 : List LN1} {P : List PSt} {bs : List Int} {f p : Int} (h : CWd W R D) (hR2 : RF R2) (g : ∀ x k, (x < 7 ∨ (18 ≤ x ∧ x < 474)) → E x k = D x k) (l : ∃ c1 c2 c3, R2 7 3 = some c1 ∧ R2 11 3 = some c2 ∧ R2 15 4 = some c3 ∧ LwC 7 c1 (l3 0 L0) E ∧ LwC 11 c2 (l3 1 L1) E ∧ PCa 15 c3 P E) (t : TpC bs E) (hf : E 474 1 = f) (hp : E 474 2 = p) (h7 : E 7 1 = 0) (h11 : E 11 1 = 1) : CWd (W.tx L0 L1 P bs f p) R2 E := by
  obtain ⟨hR, ⟨n1, n2, n3, _⟩, ⟨c1, c2, c3, e1, e2, e3, hS⟩, a3, a4, a5, a6, a7, a8, a9⟩ := h
  obtain ⟨h1, h2, h3, h4, h5, h6⟩ := hS
  obtain ⟨d1, d2, d3, f1, f2, f3, l1, l2, l4⟩ := l
  have m1 : CK 27 W.K E := CK_fr n1 (fun o k ho => g _ _ (by omega))
  have m2 : ∀ k, k < 750 → E 26 k = W.B k := fun k hk => (g 26 k (by omega)).trans (n2.2.2.2 k hk)
  have m25 : E 25 0 = W.b := (g 25 0 (by omega)).trans n2.1
  refine ⟨hR2, ⟨m1, ⟨m25, n2.2.1, n2.2.2.1, m2⟩, n3.fr (fun b k q1 q2 => g b k (by omega)), fun _ _ _ _ _ => rfl⟩, ⟨d1, d2, d3, f1, f2, f3, m1, ⟨m25, m2⟩, ⟨(g _ _ (by omega)).trans h3.1, fun i hi => ⟨(g _ _ (by omega)).trans (h3.2.1 i hi).1, (g _ _ (by omega)).trans (h3.2.1 i hi).2.1, (g _ _ (by omega)).trans (h3.2.1 i hi).2.2⟩, fun k hk => ⟨(g _ _ (by omega)).trans (h3.2.2 k hk).1, (g _ _ (by omega)).trans (h3.2.2 k hk).2⟩⟩, l1, l2, l4⟩, t, a4.fr (fun x k q1 q2 => g x k (by omega)), hf, hp, h7, h11, ?_⟩
  show match W.im with | none => E 5 5 = 0 | some s => E 5 5 = 1 ∧ SnC 47 48 51 52 55 56 58 65 67 (snX s) E
  cases hm : W.im with
  | none =>
    rw [hm] at a9
    exact (g 5 5 (by omega)).trans a9
  | some s =>
    rw [hm] at a9
    exact ⟨(g 5 5 (by omega)).trans a9.1, SnC_m a9.2 (fun x k q => g x k (by omega))⟩
theorem RWd_tx {W : Wld} {D E : KK} {L0 L1 : List LN1} {P : List PSt} {bs : List Int} {f p : Int} (h : RWd W D) (g : ∀ x k, 479 ≤ x → (x = 479 → k = 3 ∨ k = 5 ∨ k = 6 ∨ k = 7 ∨ k = 16 ∨ k = 63) → (x < 497 ∨ x = 498 ∨ x = 515) → E x k = D x k) (l0 : LwR 0 L0 E) (l1 : LwR 1 L1 E) (pl : PlR P E) (t : TpR bs E) (hf : E 479 44 = f) (hp : E 479 45 = p) : RWd (W.tx L0 L1 P bs f p) E := by
  obtain ⟨a1, a2, a3, a4, a5, a6, a7⟩ := h
  obtain ⟨v1, v2, v3, v4, v5, v6, v7⟩ := a1
  obtain ⟨b1, b2, b3, b4, b5, b6, b7, b8⟩ := a2
  have h480 : E 480 = D 480 := funext (fun k => g 480 k (by omega) (by omega) (by omega))
  have w1 : RW W.K W.b (E 480) := by rw [h480]; exact v1
  have w2 : RCf W.K E := by
    obtain ⟨c1, c2, c3, c4, c5, c6, c7, c8, c9, c10⟩ := v2
    exact ⟨(g _ _ (by omega) (by omega) (by omega)).trans c1, (g _ _ (by omega) (by omega) (by omega)).trans c2, fun i q => (g _ _ (by omega) (by omega) (by omega)).trans (c3 i q), fun i q => (g _ _ (by omega) (by omega) (by omega)).trans (c4 i q), fun i q => (g _ _ (by omega) (by omega) (by omega)).trans (c5 i q), fun i q => (g _ _ (by omega) (by omega) (by omega)).trans (c6 i q), fun i q => (g _ _ (by omega) (by omega) (by omega)).trans (c7 i q), fun i q => (g _ _ (by omega) (by omega) (by omega)).trans (c8 i q), fun i q => (g _ _ (by omega) (by omega) (by omega)).trans (c9 i q), fun i q => (g _ _ (by omega) (by omega) (by omega)).trans (c10 i q)⟩
  have w5 : ∀ k, k < 750 → E 496 k = W.B k := fun k hk => (g 496 k (by omega) (by omega) (by omega)).trans (v5 k hk)
  refine ⟨⟨w1, w2, (g 479 5 (by omega) (by omega) (by omega)).trans v3, v4, w5, v6.up (fun k => g 481 k (by omega) (by omega) (by omega)) (g 479 3 (by omega) (by omega) (by omega)), fun _ _ _ _ _ _ _ _ => rfl⟩, ⟨w1, w2, w5, ⟨(g _ _ (by omega) (by omega) (by omega)).trans b4.1, fun i hi => ⟨(g _ _ (by omega) (by omega) (by omega)).trans (b4.2 i hi).1, (g _ _ (by omega) (by omega) (by omega)).trans (b4.2 i hi).2.1, (g _ _ (by omega) (by omega) (by omega)).trans (b4.2 i hi).2.2⟩⟩, fun k hk => ⟨(g _ _ (by omega) (by omega) (by omega)).trans (b5 k hk).1, (g _ _ (by omega) (by omega) (by omega)).trans (b5 k hk).2⟩, l0, l1, pl⟩, t, fun j hj => (g 498 j (by omega) (by omega) (by omega)).trans (a4 j hj), hf, hp, ?_⟩
  show match W.im with | none => E 479 63 = 0 | some s => E 479 63 = 1 ∧ ∃ Dm, SnR s Dm ∧ ∀ j, j < 2904 → E 515 j = Dm (ad j).1 (ad j).2
  cases hm : W.im with
  | none =>
    rw [hm] at a7
    exact (g 479 63 (by omega) (by omega) (by omega)).trans a7
  | some s =>
    rw [hm] at a7
    obtain ⟨c1, Dm, c2, c3⟩ := a7
    exact ⟨(g 479 63 (by omega) (by omega) (by omega)).trans c1, Dm, c2, fun j hj => (g 515 j (by omega) (by omega) (by omega)).trans (c3 j hj)⟩
theorem WI_tx {W : Wld} {L0 L1 : List LN1} {P : List PSt} {bs : List Int} {f p : Int} (h : WI W) (hL0 : ∀ l ∈ L0, ok1 0 l) (hL1 : ∀ l ∈ L1, ok1 1 l) (h40 : (clC 0 L0).length ≤ 400) (h41 : (clC 1 L1).length ≤ 400) (hP : ∀ K : KK, K 13 0 = W.K 13 0 → K 0 0 = W.K 0 0 → PlV K P) (hPl : P.length ≤ 30) (hb : bs.length ≤ 400) (hby : ∀ j, 0 ≤ bs.getD j 0 ∧ bs.getD j 0 ≤ 255) : WI (W.tx L0 L1 P bs f p) := by
  obtain ⟨⟨a1, a2, a3, a4, a5, a6, a7, _⟩, u1, u2, _, _, im⟩ := h
  refine ⟨⟨a1, a2, a3, a4, a5, a6, a7, hL0, hL1, h40, h41, hP _ rfl rfl, hPl⟩, u1, fun u hu => ?_, hb, hby, im⟩
  obtain ⟨b1, b2, b3, b4, b5, b6, b7, _⟩ := u2 u hu
  have e := RCf_LB (u1 u hu)
  exact ⟨b1, b2, b3, b4, b5, b6, b7, hL0, hL1, h40, h41, hP _ e.2.symm e.1.symm, hPl⟩
theorem WI.pl {W : Wld} (h : WI W) : ∀ K : KK, K 13 0 = W.K 13 0 → K 0 0 = W.K 0 0 → PlV K W.P := fun K q1 q2 s hs => VS_eq (h.1.2.2.2.2.2.2.2.2.2.2.2.1 s hs) q2 q1
theorem WI_bs {W : Wld} {bs : List Int} {f p : Int} (h : WI W) (hb : bs.length ≤ 400) (hby : ∀ j, 0 ≤ bs.getD j 0 ∧ bs.getD j 0 ≤ 255) : WI (W.tx W.L0 W.L1 W.P bs f p) := WI_tx h h.1.2.2.2.2.2.2.2.1 h.1.2.2.2.2.2.2.2.2.1 h.1.2.2.2.2.2.2.2.2.2.1 h.1.2.2.2.2.2.2.2.2.2.2.1 h.pl h.1.2.2.2.2.2.2.2.2.2.2.2.2 hb hby
theorem CWd_bs {W : Wld} {R : Nat → Nat → Option Nat} {D E : KK} {bs : List Int} {f p : Int} (h : CWd W R D) (g : ∀ x k, x < 474 → E x k = D x k) (t : TpC bs E) (hf : E 474 1 = f) (hp : E 474 2 = p) : CWd (W.tx W.L0 W.L1 W.P bs f p) R E := by
  obtain ⟨c1, c2, c3, e1, e2, e3, hS⟩ := h.2.2.1
  obtain ⟨d1, d2, d3⟩ := RF_c h.1 e1 e2 e3
  have hS2 := SnC_m hS (E := E) (fun x k q => g x k (by omega))
  exact CWd_tx h h.1 (fun x k q => g x k (by omega)) ⟨c1, c2, c3, e1, e2, e3, hS2.2.2.2.1, hS2.2.2.2.2.1, hS2.2.2.2.2.2⟩ t hf hp ((g 7 1 (by omega)).trans h.2.2.2.2.2.2.2.1) ((g 11 1 (by omega)).trans h.2.2.2.2.2.2.2.2.1)
theorem RWd_bs {W : Wld} {D E : KK} {bs : List Int} {f p : Int} (h : RWd W D) (g : ∀ x k, 479 ≤ x → x ≠ 497 → (x = 479 → k = 3 ∨ k = 5 ∨ k = 6 ∨ k = 7 ∨ k = 16 ∨ k = 47 ∨ k = 63) → E x k = D x k) (t : TpR bs E) (hf : E 479 44 = f) (hp : E 479 45 = p) : RWd (W.tx W.L0 W.L1 W.P bs f p) E := by
  obtain ⟨b1, b2, b3, b4, b5, b6, b7, b8⟩ := h.2.1
  exact RWd_tx h (fun x k q1 q2 q3 => g x k (by omega) (by omega) (by omega)) (b6.fr (fun x k q1 q2 => g x k (by omega) (by omega) (by omega))) (b7.fr (fun x k q1 q2 => g x k (by omega) (by omega) (by omega))) (b8.fr (g 479 47 (by omega) (by omega) (by omega)) (fun k => g 507 k (by omega) (by omega) (by omega))) t hf hp
theorem by_mem {bs : List Int} (h : ∀ x ∈ bs, 0 ≤ x ∧ x ≤ 255) : ∀ j, 0 ≤ bs.getD j 0 ∧ bs.getD j 0 ≤ 255 := fun j => by
  rw [List.getD_eq_getElem?_getD]
  rcases Nat.lt_or_ge j bs.length with q | q
  · rw [List.getElem?_eq_getElem q]; exact h _ (List.getElem_mem q)
  · rw [List.getElem?_eq_none q]; exact ⟨by decide, by decide⟩
theorem mem_by {bs : List Int} (h : ∀ j, 0 ≤ bs.getD j 0 ∧ bs.getD j 0 ≤ 255) : ∀ x ∈ bs, 0 ≤ x ∧ x ≤ 255 := fun x hx => by
  obtain ⟨j, hj, e⟩ := List.getElem_of_mem hx
  have q := h j
  rw [List.getD_eq_getElem?_getD, List.getElem?_eq_getElem hj] at q
  have e2 : (some bs[j]).getD 0 = bs[j] := rfl
  rw [e2, e] at q
  exact q
theorem fedL_by (v : Int) : ∀ (k : Nat), ∀ x ∈ fedL v k, 0 ≤ x ∧ x ≤ 255
  | 0, x, hx => by cases hx
  | k + 1, x, hx => by
    rcases List.mem_cons.mp hx with e | e
    · rw [e]; exact xand_255 _
    · exact fedL_by v k x e
theorem fedN_by {bs : List Int} {a b c d e : Int} (h : ∀ j, 0 ≤ bs.getD j 0 ∧ bs.getD j 0 ≤ 255) : ∀ j, 0 ≤ (fedN bs a b c d e).getD j 0 ∧ (fedN bs a b c d e).getD j 0 ≤ 255 := by
  unfold fedN
  split
  · refine by_mem (fun x hx => ?_)
    unfold fedB at hx
    simp only [List.mem_append] at hx
    rcases hx with ((((q | q) | q) | q) | q) | q
    · exact mem_by h x q
    · exact fedL_by _ _ x q
    · exact fedL_by _ _ x q
    · exact fedL_by _ _ x q
    · exact fedL_by _ _ x q
    · exact fedL_by _ _ x q
  · exact h
theorem fedN_ln {bs : List Int} {a b c d e : Int} (h : bs.length ≤ 400) : (fedN bs a b c d e).length ≤ 400 := by
  unfold fedN
  split
  · have := fedB_len (bs := bs) (a := a) (b := b) (c := c) (d := d) (e := e); omega
  · exact h
theorem endN_by {bs : List Int} {m : Int} (h : ∀ j, 0 ≤ bs.getD j 0 ∧ bs.getD j 0 ≤ 255) : ∀ j, 0 ≤ (endN bs m).getD j 0 ∧ (endN bs m).getD j 0 ≤ 255 := by
  unfold endN
  split
  · exact by_mem (fun x hx => mem_by h x (List.mem_of_mem_take hx))
  · exact h
theorem endN_ln {bs : List Int} {m : Int} (h : bs.length ≤ 400) : (endN bs m).length ≤ 400 := by
  unfold endN
  split
  · rw [List.length_take]; omega
  · exact h
theorem b_feed {n : Nat} {R : Nat → Nat → Option Nat} {D : KK} {W : Wld} (h : JWd W R D) (a b c d e : Int) : Both 2 2 124 192 n R D [.inl a, .inl b, .inl c, .inl d, .inl e] := by
  have hi := h.2.2
  obtain ⟨D1, x1, t1, f1⟩ := c_feed (n := n) h.1.1 W.bs h.1.2.2.2.1 hi.2.2.2.1 a b c d e
  have hr := RWd_m h.2.1 (E := D1) (fun x k q => f1 x k (by omega) (by omega))
  obtain ⟨D2, x2, t2, f2⟩ := r_feed (n := n) h.1.1 W.bs hr.2.2.1 hi.2.2.2.1 a b c d e
  have hc := CWd_bs h.1 (fun x k q => f1 x k (by omega) (by omega)) t1 ((f1 474 1 (by omega) (by omega)).trans h.1.2.2.2.2.2.1) ((f1 474 2 (by omega) (by omega)).trans h.1.2.2.2.2.2.2.1)
  refine ⟨_, R, D1, D2, _, x1, x2, CWd_m hc (fun x k q => f2 x k (by omega) (by omega)), RWd_bs hr (fun x k q1 q2 q3 => f2 x k (by omega) (by omega)) t2 ((f2 479 44 (by omega) (by omega)).trans hr.2.2.2.2.1) ((f2 479 45 (by omega) (by omega)).trans hr.2.2.2.2.2.1), WI_bs hi (fedN_ln hi.2.2.2.1) (fedN_by hi.2.2.2.2.1)⟩
theorem b_end {n : Nat} {R : Nat → Nat → Option Nat} {D : KK} {W : Wld} (h : JWd W R D) (m : Int) : Both 2 2 125 193 n R D [.inl m] := by
  have hi := h.2.2
  obtain ⟨D1, x1, t1, f1⟩ := c_end (n := n) h.1.1 W.bs h.1.2.2.2.1 hi.2.2.2.1 m
  have hr := RWd_m h.2.1 (E := D1) (fun x k q => f1 x k (by omega))
  obtain ⟨D2, x2, t2, f2⟩ := r_end (n := n) h.1.1 W.bs hr.2.2.1 hi.2.2.2.1 m
  have hc := CWd_bs h.1 (fun x k q => f1 x k (by omega)) t1 ((f1 474 1 (by omega)).trans h.1.2.2.2.2.2.1) ((f1 474 2 (by omega)).trans h.1.2.2.2.2.2.2.1)
  refine ⟨_, R, D1, D2, _, x1, x2, CWd_m hc (fun x k q => f2 x k (by omega)), RWd_bs hr (fun x k q1 q2 q3 => f2 x k (by omega)) t2 ((f2 479 44 (by omega)).trans hr.2.2.2.2.1) ((f2 479 45 (by omega)).trans hr.2.2.2.2.2.1), WI_bs hi (endN_ln hi.2.2.2.1) (endN_by hi.2.2.2.2.1)⟩
theorem b_fault {n : Nat} {R : Nat → Nat → Option Nat} {D : KK} {W : Wld} (h : JWd W R D) (w : Int) : Both 1 1 127 224 n R D [.inl w] := by
  have hi := h.2.2
  have x1 := c_fault (n := n) h.1.1 h.1.2.2.2.2.2.1 h.1.2.2.2.2.2.2.1 w
  have hr := h.2.1
  obtain ⟨D2, x2, f2⟩ := r_fault (n := n) h.1.1 hr.2.2.2.2.1 hr.2.2.2.2.2.1 w
  exact ⟨_, R, D, D2, W, x1, x2, CWd_m h.1 (fun x k q => f2 x k (by omega)), RWd_bs hr (fun x k q1 q2 q3 => f2 x k (by omega)) (hr.2.2.1.fr (fun x k q => f2 x k (by omega))) ((f2 479 44 (by omega)).trans hr.2.2.2.2.1) ((f2 479 45 (by omega)).trans hr.2.2.2.2.2.1), hi⟩
theorem by_nil : ∀ j, 0 ≤ ([] : List Int).getD j 0 ∧ ([] : List Int).getD j 0 ≤ 255 := by_mem (fun x hx => by cases hx)
theorem b_textN {n : Nat} {R : Nat → Nat → Option Nat} {D : KK} {W : Wld} (h : JWd W R D) (a : Int) (ha : ¬ (0 ≤ a ∧ a ≤ 2)) : Both 35 10 126 223 n R D [.inl a] := by
  have hi := h.2.2
  obtain ⟨D1, x1, t0, t1, t2, f1⟩ := c_textN (n := n) h.1.1 h.1.2.2.2.1 hi.2.2.2.1 hi.2.2.2.2.1 h.1.2.2.2.2.1 a ha
  have hr := RWd_m h.2.1 (E := D1) (fun x k q => f1 x k (by omega) (by omega) (by omega) (by omega))
  obtain ⟨D2, x2, s0, s24, s44, s45, f2⟩ := r_textN (n := n) (R := R) (D := D1) a ha
  have hc := CWd_bs (bs := []) h.1 (fun x k q => f1 x k (by omega) (by omega) (by omega) (by omega)) ⟨t0, fun k hk => absurd hk (Nat.not_lt_zero _)⟩ t1 t2
  exact ⟨_, R, D1, D2, _, x1, x2, CWd_m hc (fun x k q => f2 x k (by omega)), RWd_bs hr (fun x k q1 q2 q3 => f2 x k (by omega)) ⟨s24, fun k hk => absurd hk (Nat.not_lt_zero _)⟩ s44 s45, WI_bs hi (Nat.zero_le _) by_nil⟩
/-! The class's code is never longer than its row. -/
theorem wt4 {op : Int} {s : Sg} (h : s.2.length ≤ 400) : (wtS op s).2.length ≤ 400 := by
  show (if s.2.length < 400 then s.2 ++ [op] else s.2).length ≤ 400
  split
  · rw [List.length_append]; show s.2.length + 1 ≤ 400; omega
  · exact h
theorem q4_un (h : Int) (s : Sg) (q : s.2.length ≤ 400) : (unF h s).2.length ≤ 400 := by
  unfold unF
  split
  · exact wt4 q
  · split
    · exact wt4 q
    · exact q
theorem q4_prL (h : Int) : ∀ (k : Nat) (s : Sg), s.2.length ≤ 400 → (prL h k s).2.length ≤ 400
  | 0, s, q => q
  | k + 1, s, q => by
    unfold prL
    split
    · exact q4_prL h k _ (wt4 (q4_un h (stS s) q))
    · split
      · exact q4_prL h k _ (wt4 (wt4 (s := nwS 1 9999 (stS s)) q))
      · exact q
theorem q4_pr (h : Int) (s : Sg) (q : s.2.length ≤ 400) : (prF h s).2.length ≤ 400 := q4_prL h 400 _ (q4_un h s q)
theorem q4_smL (h : Int) : ∀ (k : Nat) (s : Sg), s.2.length ≤ 400 → (smL h k s).2.length ≤ 400
  | 0, s, q => q
  | k + 1, s, q => by
    unfold smL
    split
    · exact q4_smL h k _ (wt4 (q4_pr h (stS s) q))
    · exact q
theorem q4_sm (h : Int) (s : Sg) (q : s.2.length ≤ 400) : (smS h s).2.length ≤ 400 := q4_smL h 400 _ (q4_pr h s q)
theorem q4_tk3 (s : Sg) (q : s.2.length ≤ 400) : (tk3 s).2.length ≤ 400 := by
  unfold tk3
  split
  · exact q
  · exact q
theorem q4_cm (h : Int) (s : Sg) (q : s.2.length ≤ 400) : (cmF h s).2.length ≤ 400 := wt4 (q4_sm h _ (q4_tk3 _ (q4_sm h s q)))
theorem q4_boL {cl : Sg → Sg} (hc : ∀ s : Sg, s.2.length ≤ 400 → (cl s).2.length ≤ 400) : ∀ (k : Nat) (s : Sg), s.2.length ≤ 400 → (boL cl k s).2.length ≤ 400
  | 0, s, q => q
  | k + 1, s, q => by
    unfold boL
    split
    · exact q4_boL hc k _ (wt4 (hc (stS s) q))
    · exact q
theorem q4_bo {cl : Sg → Sg} (hc : ∀ s : Sg, s.2.length ≤ 400 → (cl s).2.length ≤ 400) (s : Sg) (q : s.2.length ≤ 400) : (boG cl s).2.length ≤ 400 := q4_boL hc 400 _ (hc s q)
theorem q4_eiL {cl : Sg → Sg} (hc : ∀ s : Sg, s.2.length ≤ 400 → (cl s).2.length ≤ 400) : ∀ (k : Nat) (s : Sg), s.2.length ≤ 400 → (eiL cl k s).2.length ≤ 400
  | 0, s, q => q
  | k + 1, s, q => by
    unfold eiL
    split
    · exact q4_eiL hc k _ (wt4 (q4_bo hc (stS s) q))
    · exact q
theorem q4_ei {cl : Sg → Sg} (hc : ∀ s : Sg, s.2.length ≤ 400 → (cl s).2.length ≤ 400) (s : Sg) (q : s.2.length ≤ 400) : (eiG cl s).2.length ≤ 400 := q4_eiL hc 400 _ (q4_bo hc s q)
theorem q4_cl (h : Int) : ∀ (m : Nat) (s : Sg), s.2.length ≤ 400 → (clF h m s).2.length ≤ 400
  | 0, s, q => by
    unfold clF
    split
    · exact q
    · exact q4_cm h s q
  | m + 1, s, q => by
    unfold clF
    split
    · exact wt4 (q4_cl h m (stS s) q)
    · split
      · exact q4_ei (q4_cl h m) (stS s) q
      · exact q4_cm h s q
theorem q4_li (h r : Int) (s : Sg) (q : s.2.length ≤ 400) : (liF h r s).2.length ≤ 400 := by
  have hv : (vaF h s).2.length ≤ 400 := by
    unfold vaF
    split
    · exact wt4 (s := stS s) q
    · exact q4_sm h (stS s) q
  have hw : (whF h (vaF h s)).2.length ≤ 400 := by
    generalize vaF h s = u at hv
    unfold whF
    split
    · exact wt4 (q4_ei (q4_cl h 8) (stS u) hv)
    · exact wt4 hv
  unfold liF
  split
  · exact q
  · split
    · exact hw
    · exact q
theorem q4_lw (h : Int) : ∀ (k : Nat) (r : Int) (s : Sg), s.2.length ≤ 400 → (lwL h k r s).2.2.length ≤ 400
  | 0, r, s, q => q
  | k + 1, r, s, q => by
    unfold lwL
    split
    · exact q
    · exact q4_lw h k (r + 1) _ (q4_li h r s q)
