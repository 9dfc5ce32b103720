/-! What else leaves the world alone; readers of what was said, of the plan, and undo. -/
def FNQ (D E : KK) : Prop := ∀ x k, (x < 24 ∨ (46 ≤ x ∧ x < 86) ∨ 474 ≤ x) → x ≠ 10 → x ≠ 14 → (x = 15 → k = 0) → E x k = D x k
theorem SnC_g {lg lc hg hc pl ps hs bk cn : Nat} {X : XX9} {D E : KK} (h : SnC lg lc hg hc pl ps hs bk cn X D) (g : ∀ x k, ((x = lg ∧ (k = 0 ∨ k = 2)) ∨ x = lc ∨ (x = hg ∧ (k = 0 ∨ k = 2)) ∨ x = hc ∨ (x = pl ∧ k = 0) ∨ x = ps ∨ (hs ≤ x ∧ x ≤ hs + 5) ∨ (bk ≤ x ∧ x ≤ bk + 1) ∨ (cn ≤ x ∧ x ≤ cn + 17)) → E x k = D x k) : SnC lg lc hg hc pl ps hs bk cn X E := by
  obtain ⟨h1, h2, h3, h4, h5, h6⟩ := h
  refine ⟨fun o k ho => (g _ _ ?_).trans (h1 o k ho), ⟨(g _ _ (by omega)).trans h2.1, fun k hk => (g _ _ (by omega)).trans (h2.2 k hk)⟩, ⟨(g _ _ (by omega)).trans h3.1, fun i hi => ⟨(g _ _ (by omega)).trans (h3.2.1 i hi).1, (g _ _ (by omega)).trans (h3.2.1 i hi).2.1, (g _ _ (by omega)).trans (h3.2.1 i hi).2.2⟩, fun k hk => ⟨(g _ _ (by omega)).trans (h3.2.2 k hk).1, (g _ _ (by omega)).trans (h3.2.2 k hk).2⟩⟩, ⟨(g _ _ (by omega)).trans h4.1, (g _ _ (by omega)).trans h4.2.1, fun i hi => (g _ _ (by omega)).trans (h4.2.2 i hi)⟩, ⟨(g _ _ (by omega)).trans h5.1, (g _ _ (by omega)).trans h5.2.1, fun i hi => (g _ _ (by omega)).trans (h5.2.2 i hi)⟩, ⟨(g _ _ (by omega)).trans h6.1, fun j s q => ?_⟩⟩
  · have := o_18 ho; omega
  have u := h6.2 j s q
  exact ⟨(g _ _ (by omega)).trans u.1, (g _ _ (by omega)).trans u.2.1, fun z => (g _ _ (by omega)).trans (u.2.2.1 z), fun z => (g _ _ (by omega)).trans (u.2.2.2.1 z), fun z => (g _ _ (by omega)).trans (u.2.2.2.2 z)⟩
theorem CWd_q {W : Wld} {R : Nat → Nat → Option Nat} {D E : KK} {K : KK} {b : Int} {B : Nat → Int} {U : UU} (h : CWd W R D) (g : NWd K b B U E E) (f : FNQ D E) : CWd (W.kb K b B U) R E := by
  obtain ⟨hR, ⟨n1, n2, n3, _⟩, ⟨c1, c2, c3, e1, e2, e3, hS⟩, a3, a4, a5, a6, a7, a8, a9⟩ := h
  obtain ⟨d1, d2, d3⟩ := RF_c hR e1 e2 e3
  obtain ⟨m1, m2, m3, m4⟩ := g
  obtain ⟨h1, h2, h3, h4, h5, h6⟩ := hS
  have hf : ∀ x k, x < 24 ∨ (46 ≤ x ∧ x < 86) ∨ 474 ≤ x → x ≠ 10 → x ≠ 14 → (x = 15 → k = 0) → E x k = D x k := f
  refine ⟨hR, ⟨m1, m2, m3, fun _ _ _ _ _ => rfl⟩, ⟨c1, c2, c3, e1, e2, e3, ?_⟩, ⟨(hf _ _ (by omega) (by omega) (by omega) (by omega)).trans a3.1, fun k hk => (hf _ _ (by omega) (by omega) (by omega) (by omega)).trans (a3.2 k hk)⟩, a4.fr (fun x k q1 q2 => hf x k (by omega) (by omega) (by omega) (by omega)), (hf _ _ (by omega) (by omega) (by omega) (by omega)).trans a5, (hf _ _ (by omega) (by omega) (by omega) (by omega)).trans a6, (hf _ _ (by omega) (by omega) (by omega) (by omega)).trans a7, (hf _ _ (by omega) (by omega) (by omega) (by omega)).trans a8, ?_⟩
  · refine ⟨m1, ⟨m2.1, m2.2.2.2⟩, ⟨(hf _ _ (by omega) (by omega) (by omega) (by omega)).trans h3.1, fun i hi => ⟨(hf _ _ (by omega) (by omega) (by omega) (by omega)).trans (h3.2.1 i hi).1, (hf _ _ (by omega) (by omega) (by omega) (by omega)).trans (h3.2.1 i hi).2.1, (hf _ _ (by omega) (by omega) (by omega) (by omega)).trans (h3.2.1 i hi).2.2⟩, fun k hk => ⟨(hf _ _ (by omega) (by omega) (by omega) (by omega)).trans (h3.2.2 k hk).1, (hf _ _ (by omega) (by omega) (by omega) (by omega)).trans (h3.2.2 k hk).2⟩⟩, ⟨(hf _ _ (by omega) (by omega) (by omega) (by omega)).trans h4.1, (hf _ _ (by omega) (by omega) (by omega) (by omega)).trans h4.2.1, fun i hi => (hf _ _ (by omega) (by omega) (by omega) (by omega)).trans (h4.2.2 i hi)⟩, ⟨(hf _ _ (by omega) (by omega) (by omega) (by omega)).trans h5.1, (hf _ _ (by omega) (by omega) (by omega) (by omega)).trans h5.2.1, fun i hi => (hf _ _ (by omega) (by omega) (by omega) (by omega)).trans (h5.2.2 i hi)⟩, ⟨(hf _ _ (by omega) (by omega) (by omega) (by omega)).trans h6.1, fun j s q => ?_⟩⟩
    have u := h6.2 j s q
    exact ⟨(hf _ _ (by omega) (by omega) (by omega) (by omega)).trans u.1, (hf _ _ (by omega) (by omega) (by omega) (by omega)).trans u.2.1, fun z => (hf _ _ (by omega) (by omega) (by omega) (by omega)).trans (u.2.2.1 z), fun z => (hf _ _ (by omega) (by omega) (by omega) (by omega)).trans (u.2.2.2.1 z), fun z => (hf _ _ (by omega) (by omega) (by omega) (by omega)).trans (u.2.2.2.2 z)⟩
  · show match W.im with | none => E 5 5 = 0 | some s => E 5 5 = 1 ∧ SnC 47 48 51 52 55 56 58 65 67 (snX s) E
    cases hm : W.im with
    | none =>
      rw [hm] at a9
      exact (hf 5 5 (by omega) (by omega) (by omega) (by omega)).trans a9
    | some s =>
      rw [hm] at a9
      exact ⟨(hf 5 5 (by omega) (by omega) (by omega) (by omega)).trans a9.1, SnC_g a9.2 (fun x k q => hf x k (by omega) (by omega) (by omega) (by omega))⟩
theorem FNQ.hi {D E : KK} (f : FNQ D E) : ∀ x k, 479 ≤ x → E x k = D x k := fun x k q => f x k (by omega) (by omega) (by omega) (by omega)
theorem JWd.q {W : Wld} {R : Nat → Nat → Option Nat} {D D1 D2 : KK} {K : KK} {b : Int} {B : Nat → Int} {U : UU} (h : JWd W R D) (g : NWd K b B U D1 D1) (f : FNQ D D1) (r : PV K b B U D1 D2) (i : WI (W.kb K b B U)) : JWd (W.kb K b B U) R D2 := ⟨CWd_m (CWd_q h.1 g f) r.lo, RWd_kb (RWd_m h.2.1 f.hi) r, i⟩
theorem JWd.yc {W : Wld} {R : Nat → Nat → Option Nat} {D : KK} (h : JWd W R D) : YC W.Y D ∧ (∀ k, k < 10 → D 22 k = W.sn k) ∧ (∀ k, k < 10 → D 23 k = W.nd k) := by
  obtain ⟨⟨_, _, ⟨c1, c2, c3, e1, e2, e3, hS⟩, _⟩, _⟩ := h
  exact ⟨⟨hS.2.2.1.1, fun i hi => hS.2.2.1.2.1 i hi⟩, fun k hk => (hS.2.2.1.2.2 k hk).1, fun k hk => (hS.2.2.1.2.2 k hk).2⟩
theorem b_pulled {n : Nat} {R : Nat → Nat → Option Nat} {D : KK} {W : Wld} (h : JWd W R D) (w : Int) : Both 5 5 142 278 n R D [.inl w] := by
  have hI : KI W.K := h.2.2.1.1
  obtain ⟨D1, x1, f⟩ := c_pulled (n := n) h.1.1 h.1.2.1.1 hI W.sn h.2.2.1.2.2.2.2.2.1 h.yc.2.1 w
  have hh := (f.nw h.1.2.1).2
  have hr := RWd_m h.2.1 hh
  obtain ⟨D2, x2, r⟩ := r_pulled (n := n) h.1.1 hr.1 hI W.sn h.2.2.1.2.2.2.2.2.1 (fun k hk => (hr.2.1.2.2.2.2.1 k hk).1) w
  exact ⟨_, R, D1, D2, W, x1, x2, h.x f r⟩
theorem b_mend {n : Nat} {R : Nat → Nat → Option Nat} {D : KK} {W : Wld} (h : JWd W R D) (w : Int) : Both 2 3 143 280 n R D [.inl w] := by
  have hI : KI W.K := h.2.2.1.1
  obtain ⟨D1, x1, f⟩ := c_mend (n := n) h.1.1 h.1.2.1.1 hI W.nd h.2.2.1.2.2.2.2.2.2.1 h.yc.2.2 w
  have hr := RWd_m h.2.1 (E := D1) (fun x k q => f x k (by omega))
  obtain ⟨D2, x2, r⟩ := r_mend (n := n) h.1.1 hr.1 hI W.nd h.2.2.1.2.2.2.2.2.2.1 (fun k hk => (hr.2.1.2.2.2.2.1 k hk).2) (D 24) w
  obtain ⟨n1, n2, n3, _⟩ := h.1.2.1
  have g : NWd W.K W.b W.B W.U D1 D1 := ⟨CK_fr n1 (fun o k ho => f _ _ (by omega)), ⟨(f 25 0 (by omega)).trans n2.1, n2.2.1, n2.2.2.1, fun k hk => (f 26 k (by omega)).trans (n2.2.2.2 k hk)⟩, n3.fr (fun b k q1 q2 => f b k (by omega)), fun _ _ _ _ _ => rfl⟩
  exact ⟨_, R, D1, D2, W, x1, x2, h.q g (fun x k q1 q2 q3 q4 => f x k (by omega)) r h.2.2⟩
theorem b_range {n : Nat} {R : Nat → Nat → Option Nat} {D : KK} {W : Wld} (h : JWd W R D) (p w : Int) : Both 4 3 140 274 n R D [.inl p, .inl w] := by
  have hI : KI W.K := h.2.2.1.1
  have c := h.1.2.1
  have x1 := c_range (n := n) h.1.1 c.1 hI h.yc.1 h.2.2.1.2.2.2.2.1 p w
  obtain ⟨D2, x2, r⟩ := r_range (n := n) h.1.1 h.2.1.1 hI h.2.1.2.1.2.2.2.1 h.2.2.1.2.2.2.2.1 p w
  exact ⟨_, R, D, D2, W, x1, x2, h.kb c r h.2.2⟩
theorem b_share {n : Nat} {R : Nat → Nat → Option Nat} {D : KK} {W : Wld} (h : JWd W R D) (s up : Int) (hs : xok s) : Both 10 3 145 289 n R D [.inl s, .inl up] := by
  have hI : KI W.K := h.2.2.1.1
  have c := h.1.2.1
  have x1 := c_share (n := n) h.1.1 c.1 hI s up
  obtain ⟨D2, x2, r⟩ := r_share (n := n) h.1.1 h.2.1.1 hI s up hs
  exact ⟨_, R, D, D2, W, x1, x2, h.kb c r h.2.2⟩
theorem b_order {n : Nat} {R : Nat → Nat → Option Nat} {D : KK} {W : Wld} (h : JWd W R D) (s up w : Int) (hs : xok s) (hw6 : alP W.K s → bcF s < 6 → nrm (9 + bcF s) ≤ 15) : Both 14 11 144 286 n R D [.inl s, .inl up, .inl w] := by
  have hI : KI W.K := h.2.2.1.1
  obtain ⟨g1, g2, g3, g4⟩ := h.laws (n := n)
  obtain ⟨D1, x1, f⟩ := c_order (n := n) h.1.1 h.1.2.1.1 hI g1 s up w hw6
  have hh := (f.nw h.1.2.1).2
  have g5 : ∀ b k, 499 ≤ b → b ≤ 505 → D1 b k = D b k := fun b k q _ => hh b k (by omega)
  obtain ⟨D2, x2, r⟩ := r_order (n := n) h.1.1 (RWd_m h.2.1 hh).1 hI (g3.fr g5) s up w hs (-1, D 281, D 282)
  exact ⟨_, R, D1, D2, W, x1, x2, h.x f r⟩
theorem JWd.plc {W : Wld} {R : Nat → Nat → Option Nat} {D : KK} (h : JWd W R D) : ∃ sa, R 15 4 = some sa ∧ (sa = 16 ∨ sa = 17) ∧ PlC sa W.P D := by
  obtain ⟨⟨hR, _, ⟨c1, c2, c3, e1, e2, e3, hS⟩, _⟩, _, hi⟩ := h
  have hv : PlV W.K W.P := hi.1.2.2.2.2.2.2.2.2.2.2.2.1
  exact ⟨c3, e3, (RF_c hR e1 e2 e3).2.2, hS.2.2.2.2.2.1, hi.1.2.2.2.2.2.2.2.2.2.2.2.2, fun j s q => ⟨(hv s (List.mem_of_getElem? q)).1, hS.2.2.2.2.2.2 j s q⟩⟩
theorem b_run {n : Nat} {R : Nat → Nat → Option Nat} {D : KK} {W : Wld} (h : JWd W R D) (hi : WI (W.kb ((carZ (lwG W.L0) (lwH W.L1) W.P (W.K, W.b, W.B, W.U) 0 0 0).2.2.2.2.1) ((carZ (lwG W.L0) (lwH W.L1) W.P (W.K, W.b, W.B, W.U) 0 0 0).2.2.2.2.2.1) ((carZ (lwG W.L0) (lwH W.L1) W.P (W.K, W.b, W.B, W.U) 0 0 0).2.2.2.2.2.2.1) ((carZ (lwG W.L0) (lwH W.L1) W.P (W.K, W.b, W.B, W.U) 0 0 0).2.2.2.2.2.2.2))) : Both 12 11 132 256 n R D [] := by
  have hI : KI W.K := h.2.2.1.1
  obtain ⟨g1, g2, g3, g4⟩ := h.laws (n := n)
  obtain ⟨sa, s1, s2, s3⟩ := h.plc
  obtain ⟨D1, x1, c, f⟩ := c_run (n := n) h.1.1 h.1.2.1 hI g1 g2 s1 s2 W.P s3
  have fq : FNQ D D1 := fun x k q1 q2 q3 q4 => f x k (by omega) q2 q3 q4
  have hr := RWd_m h.2.1 fq.hi
  have g5 : ∀ b k, 499 ≤ b → b ≤ 505 → D1 b k = D b k := fun b k q _ => fq.hi b k (by omega)
  obtain ⟨D2, x2, r⟩ := r_run (n := n) h.1.1 hr.1 hI (g3.fr g5) (g4.fr g5) W.P hr.2.1.2.2.2.2.2.2.2 h.2.2.1.2.2.2.2.2.2.2.2.2.2.2.1
  exact ⟨_, R, D1, D2, _, x1, x2, h.q c fq r hi⟩
theorem b_planned {n : Nat} {R : Nat → Nat → Option Nat} {D : KK} {W : Wld} (h : JWd W R D) (w : Int) : Both 12 11 149 257 n R D [.inl w] := by
  have hI : KI W.K := h.2.2.1.1
  obtain ⟨g1, g2, g3, g4⟩ := h.laws (n := n)
  obtain ⟨sa, s1, s2, s3⟩ := h.plc
  obtain ⟨D1, x1, f⟩ := c_planned (n := n) h.1.1 h.1.2.1 hI g1 g2 s1 s2 W.P s3 w
  have fq : FNQ D D1 := fun x k q1 q2 q3 q4 => f x k (by omega) q2 q3 q4
  have hr := RWd_m h.2.1 fq.hi
  have g5 : ∀ b k, 499 ≤ b → b ≤ 505 → D1 b k = D b k := fun b k q _ => fq.hi b k (by omega)
  obtain ⟨D2, x2, r⟩ := r_planned (n := n) h.1.1 hr.1 hI (g3.fr g5) (g4.fr g5) W.P hr.2.1.2.2.2.2.2.2.2 h.2.2.1.2.2.2.2.2.2.2.2.2.2.2.1 w
  obtain ⟨n1, n2, n3, _⟩ := h.1.2.1
  have g : NWd W.K W.b W.B W.U D1 D1 := ⟨CK_fr n1 (fun o k ho => f _ _ (by omega) (by omega) (by omega) (by omega)), ⟨(f 25 0 (by omega) (by omega) (by omega) (by omega)).trans n2.1, n2.2.1, n2.2.2.1, fun k hk => (f 26 k (by omega) (by omega) (by omega) (by omega)).trans (n2.2.2.2 k hk)⟩, n3.fr (fun b k q1 q2 => f b k (by omega) (by omega) (by omega) (by omega)), fun _ _ _ _ _ => rfl⟩
  exact ⟨_, R, D1, D2, W, x1, x2, h.q g fq r h.2.2⟩
theorem b_look {n : Nat} {R : Nat → Nat → Option Nat} {D : KK} {W : Wld} (h : JWd W R D) (w : Int) : Both 2 3 152 300 n R D [.inl w] := by
  have hI : KI W.K := h.2.2.1.1
  have c := h.1.2.1
  have hy := h.yc
  obtain ⟨c1, c2, c3, e1, e2, e3, hS⟩ := h.1.2.2.1
  obtain ⟨nx, _, _, hu, _⟩ := c.2.2.1
  have x1 := c_look (n := n) h.1.1 c.1 hI c.2.1 (lg := (W.L0.length : Int)) (lh := (W.L1.length : Int)) (pc := (W.P.length : Int)) (uc := (W.U.length : Int)) (yc := W.Y.1) (sn := W.sn) (nd := W.nd) hS.2.2.2.1.1 hS.2.2.2.2.1.1 hS.2.2.2.2.2.1 hu hy.1.1 hy.2.1 hy.2.2 w
  have hr := h.2.1.2.1
  obtain ⟨D2, x2, r⟩ := r_look (n := n) h.1.1 h.2.1.1 hI (lg := (W.L0.length : Int)) (lh := (W.L1.length : Int)) (pc := (W.P.length : Int)) (yc := W.Y.1) (sn := W.sn) (nd := W.nd) hr.2.2.2.2.2.1.1 hr.2.2.2.2.2.2.1.1 hr.2.2.2.2.2.2.2.1 hr.2.2.2.1.1 (fun k hk => (hr.2.2.2.2.1 k hk).1) (fun k hk => (hr.2.2.2.2.1 k hk).2) w
  exact ⟨_, R, D, D2, W, x1, x2, h.kb c r h.2.2⟩
/-! Undo. -/
def cfD (K : KK) : KK := fun a i => if a = 479 then (if i = 6 then K 0 0 else K 13 0) else if a = 483 then K 2 i - 10 else if a = 484 then K 3 i else if a = 485 then K 4 i - 4 else if a = 486 then K 9 i + 1 else if a = 487 then K 11 i else if a = 488 then K 15 i else if a = 489 then K 16 i else K 6 i
theorem cfD_r (K : KK) : RCf K (cfD K) := ⟨rfl, rfl, fun _ _ => rfl, fun _ _ => rfl, fun _ _ => rfl, fun _ _ => rfl, fun _ _ => rfl, fun _ _ => rfl, fun _ _ => rfl, fun _ _ => rfl⟩
theorem RCf_back {K L : KK} (h : ∀ D, RCf K D → RCf L D) {D : KK} (g : RCf L D) : RCf K D := by
  have e := h _ (cfD_r K)
  obtain ⟨e1, e2, e3, e4, e5, e6, e7, e8, e9, e10⟩ := e
  obtain ⟨g1, g2, g3, g4, g5, g6, g7, g8, g9, g10⟩ := g
  exact ⟨g1.trans e1.symm, g2.trans e2.symm, fun i q => (g3 i q).trans (e3 i q).symm, fun i q => (g4 i q).trans (e4 i q).symm, fun i q => (g5 i q).trans (e5 i q).symm, fun i q => (g6 i q).trans (e6 i q).symm, fun i q => (g7 i q).trans (e7 i q).symm, fun i q => (g8 i q).trans (e8 i q).symm, fun i q => (g9 i q).trans (e9 i q).symm, fun i q => (g10 i q).trans (e10 i q).symm⟩
theorem RCf_LB {K L : KK} (h : ∀ D, RCf K D → RCf L D) : K 0 0 = L 0 0 ∧ K 13 0 = L 13 0 := ⟨(h _ (cfD_r K)).1, (h _ (cfD_r K)).2.1⟩
theorem b_undo {n : Nat} {R : Nat → Nat → Option Nat} {D : KK} {W : Wld} (h : JWd W R D) : Both 4 1 150 165 n R D [] := by
  have hI : KI W.K := h.2.2.1.1
  obtain ⟨D1, x1, c⟩ := c_undo (n := n) h.1.1 h.1.2.1 hI
  obtain ⟨⟨K, ⟨b, B⟩, S⟩, U, T⟩ := W
  cases U with
  | nil =>
    obtain ⟨D2, x2, r⟩ := r_undo (n := n) h.1.1 (RWd_m h.2.1 (NWd.hi c.1)).1 hI (fun L c V q => by cases q)
    exact ⟨_, R, D1, D2, _, x1, x2, h.kb c.1 r.1 h.2.2⟩
  | cons u V =>
    obtain ⟨L, d⟩ := u
    have hw := h.2.2
    have hc0 : ∀ E, RCf K E → RCf L E := fun E => hw.2.1 (L, d) (List.mem_cons_self ..) E
    have hr := (RWd_m h.2.1 (NWd.hi c.1)).1
    obtain ⟨D2, x2, r⟩ := r_undo (n := n) h.1.1 hr hI (fun L2 c2 V2 q => by
      have q2 := (List.cons.inj q).1
      have q3 : L = L2 := (Prod.mk.inj q2).1
      subst q3
      exact hc0 _ hr.2.1)
    refine ⟨_, R, D1, D2, _, x1, x2, h.kb c.1 r.1 ⟨hw.2.2.1 (L, d) (List.mem_cons_self ..), fun u hu E g => hw.2.1 u (List.mem_cons_of_mem _ hu) E (RCf_back hc0 g), fun u hu => hw.2.2.1 u (List.mem_cons_of_mem _ hu), hw.2.2.2⟩⟩
