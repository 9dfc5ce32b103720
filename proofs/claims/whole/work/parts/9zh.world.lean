/-! The world that both programs picture. -/
abbrev Snp : Type := KK × (Int × (Nat → Int)) × YY × (Nat → Int) × (Nat → Int) × List LN1 × List LN1 × List PSt
abbrev Wld : Type := Snp × UU × List Int × Int × Int × Option Snp
abbrev Wld.snp (W : Wld) : Snp := W.1
abbrev Wld.K (W : Wld) : KK := W.1.1
abbrev Wld.b (W : Wld) : Int := W.1.2.1.1
abbrev Wld.B (W : Wld) : Nat → Int := W.1.2.1.2
abbrev Wld.Y (W : Wld) : YY := W.1.2.2.1
abbrev Wld.sn (W : Wld) : Nat → Int := W.1.2.2.2.1
abbrev Wld.nd (W : Wld) : Nat → Int := W.1.2.2.2.2.1
abbrev Wld.L0 (W : Wld) : List LN1 := W.1.2.2.2.2.2.1
abbrev Wld.L1 (W : Wld) : List LN1 := W.1.2.2.2.2.2.2.1
abbrev Wld.P (W : Wld) : List PSt := W.1.2.2.2.2.2.2.2
abbrev Wld.U (W : Wld) : UU := W.2.1
abbrev Wld.bs (W : Wld) : List Int := W.2.2.1
abbrev Wld.f (W : Wld) : Int := W.2.2.2.1
abbrev Wld.p (W : Wld) : Int := W.2.2.2.2.1
abbrev Wld.im (W : Wld) : Option Snp := W.2.2.2.2.2
def l3 (h : Int) (L : List LN1) : LW3 := ((L.length : Int), ((clC h L).length : Int), fun j => (clC h L).getD j 0)
def snX (s : Snp) : XX9 := (s.1, s.2.1, s.2.2.1, s.2.2.2.1, s.2.2.2.2.1, l3 0 s.2.2.2.2.2.1, l3 1 s.2.2.2.2.2.2.1, s.2.2.2.2.2.2.2)
def SnR (s : Snp) (D : KK) : Prop := RW s.1 s.2.1.1 (D 480) ∧ RCf s.1 D ∧ (∀ k, k < 750 → D 496 k = s.2.1.2 k) ∧ YR s.2.2.1 D ∧ (∀ k, k < 10 → D 494 k = s.2.2.2.1 k ∧ D 495 k = s.2.2.2.2.1 k) ∧ LwR 0 s.2.2.2.2.2.1 D ∧ LwR 1 s.2.2.2.2.2.2.1 D ∧ PlR s.2.2.2.2.2.2.2 D
/-- what holds of every picture that can stand -/
def SnI (s : Snp) : Prop := KI s.1 ∧ (∀ c : Nat, (c : Int) < s.1 13 0 → s.1 14 c ≤ s.1 0 0) ∧ NoB s.1 ∧ (0 ≤ s.2.1.1 ∧ s.2.1.1 ≤ 150) ∧ YI s.2.2.1 ∧ (∀ k, 0 ≤ s.2.2.2.1 k ∧ s.2.2.2.1 k ≤ 999) ∧ (∀ k, 0 ≤ s.2.2.2.2.1 k ∧ s.2.2.2.2.1 k ≤ 999) ∧ (∀ l ∈ s.2.2.2.2.2.1, ok1 0 l) ∧ (∀ l ∈ s.2.2.2.2.2.2.1, ok1 1 l) ∧ (clC 0 s.2.2.2.2.2.1).length ≤ 400 ∧ (clC 1 s.2.2.2.2.2.2.1).length ≤ 400 ∧ PlV s.1 s.2.2.2.2.2.2.2 ∧ s.2.2.2.2.2.2.2.length ≤ 30
def CWd (W : Wld) (R : Nat → Nat → Option Nat) (D : KK) : Prop := RF R ∧ NWd W.K W.b W.B W.U D D ∧ (∃ c1 c2 c3, R 7 3 = some c1 ∧ R 11 3 = some c2 ∧ R 15 4 = some c3 ∧ SnC 7 c1 11 c2 15 c3 18 25 27 (snX W.snp) D) ∧ TpC W.bs D ∧ StrD D ∧ D 474 1 = W.f ∧ D 474 2 = W.p ∧ D 7 1 = 0 ∧ D 11 1 = 1 ∧ (match W.im with | none => D 5 5 = 0 | some s => D 5 5 = 1 ∧ SnC 47 48 51 52 55 56 58 65 67 (snX s) D)
def RWd (W : Wld) (D : KK) : Prop := RV 0 W.K W.b W.B W.U D D ∧ SnR W.snp D ∧ TpR W.bs D ∧ WdR D ∧ D 479 44 = W.f ∧ D 479 45 = W.p ∧ (match W.im with | none => D 479 63 = 0 | some s => D 479 63 = 1 ∧ ∃ Dm, SnR s Dm ∧ ∀ j, j < 2904 → D 515 j = Dm (ad j).1 (ad j).2)
def WI (W : Wld) : Prop := SnI W.snp ∧ (∀ u ∈ W.U, ∀ D, RCf W.K D → RCf u.1 D) ∧ (∀ u ∈ W.U, SnI (u.1, (u.2, W.B), W.Y, W.sn, W.nd, W.L0, W.L1, W.P)) ∧ W.bs.length ≤ 400 ∧ (∀ j, 0 ≤ W.bs.getD j 0 ∧ W.bs.getD j 0 ≤ 255) ∧ ∀ s, W.im = some s → SnI s
/-- both stand in one memory -/
def JWd (W : Wld) (R : Nat → Nat → Option Nat) (D : KK) : Prop := CWd W R D ∧ RWd W D ∧ WI W
theorem l3_G {L : List LN1} {lc : Nat} {D : KK} (h : LwC 7 lc (l3 0 L) D) (hok : ∀ l ∈ L, ok1 0 l) (h4 : (clC 0 L).length ≤ 400) : LawC 7 lc rlG (fun j => (clC 0 L).getD j 0) ((clC 0 L).length : Int) D := by
  refine ⟨⟨by omega, by omega⟩, h.2.1, h.2.2, fun i hi q1 q2 => ?_⟩
  have hi2 : i < (clC 0 L).length := by omega
  have e2 : (clC 0 L).getD i 0 = (clC 0 L)[i] := by rw [List.getD_eq_getElem?_getD, List.getElem?_eq_getElem hi2]; rfl
  have q3 := clC_rl hok ((clC 0 L)[i]) (List.getElem_mem hi2)
  rw [← e2] at q3
  exact q3 q1 q2
theorem l3_H {L : List LN1} {lc : Nat} {D : KK} (h : LwC 11 lc (l3 1 L) D) (hok : ∀ l ∈ L, ok1 1 l) (h4 : (clC 1 L).length ≤ 400) : LawC 11 lc rlH (fun j => (clC 1 L).getD j 0) ((clC 1 L).length : Int) D := by
  refine ⟨⟨by omega, by omega⟩, h.2.1, h.2.2, fun i hi q1 q2 => ?_⟩
  have hi2 : i < (clC 1 L).length := by omega
  have e2 : (clC 1 L).getD i 0 = (clC 1 L)[i] := by rw [List.getD_eq_getElem?_getD, List.getElem?_eq_getElem hi2]; rfl
  have q3 := clC_rl hok ((clC 1 L)[i]) (List.getElem_mem hi2)
  rw [← e2] at q3
  exact q3 q1 q2
noncomputable def lwG (L : List LN1) : LwF := fun f o => lwV 0 f o L
noncomputable def lwH (L : List LN1) : LwF := fun f o => lwV 1 f o L
theorem an_G {L : List LN1} (hok : ∀ l ∈ L, ok1 0 l) : ansF (fun j => (clC 0 L).getD j 0) ((clC 0 L).length : Int) = lwG L := funext (fun f => funext (fun o => an_F hok (fun _ _ => rfl)))
theorem an_H {L : List LN1} (hok : ∀ l ∈ L, ok1 1 l) : ansF (fun j => (clC 1 L).getD j 0) ((clC 1 L).length : Int) = lwH L := funext (fun f => funext (fun o => an_F hok (fun _ _ => rfl)))
/-- the laws of both, in one memory -/
theorem JWd.laws {W : Wld} {n : Nat} {R : Nat → Nat → Option Nat} {D : KK} (h : JWd W R D) : LwG (lwG W.L0) n R D ∧ LwH (lwH W.L1) n R D ∧ RLG (lwG W.L0) n R D ∧ RLH (lwH W.L1) n R D := by
  obtain ⟨⟨hR, _, ⟨c1, c2, c3, e1, e2, e3, hS⟩, _⟩, ⟨_, hSr, _⟩, hI⟩ := h
  have ho0 : ∀ l ∈ W.L0, ok1 0 l := hI.1.2.2.2.2.2.2.2.1
  have ho1 : ∀ l ∈ W.L1, ok1 1 l := hI.1.2.2.2.2.2.2.2.2.1
  have h40 : (clC 0 W.L0).length ≤ 400 := hI.1.2.2.2.2.2.2.2.2.2.1
  have h41 : (clC 1 W.L1).length ≤ 400 := hI.1.2.2.2.2.2.2.2.2.2.2.1
  have d1 : c1 = 8 ∨ c1 = 9 := by
    rcases hR.2.1 with q | q
    · rw [q.1] at e1; exact Or.inl (Option.some.inj e1).symm
    · rw [q.1] at e1; exact Or.inr (Option.some.inj e1).symm
  have d2 : c2 = 12 ∨ c2 = 13 := by
    rcases hR.2.2.1 with q | q
    · rw [q.1] at e2; exact Or.inl (Option.some.inj e2).symm
    · rw [q.1] at e2; exact Or.inr (Option.some.inj e2).symm
  refine ⟨?_, ?_, RLG_of hR hSr.2.2.2.2.2.1 ho0 (fun _ _ => rfl), RLH_of hR hSr.2.2.2.2.2.2.1 ho1 (fun _ _ => rfl)⟩
  · rw [← an_G ho0]
    exact LawC_G hR e1 d1 (l3_G hS.2.2.2.1 ho0 h40)
  · rw [← an_H ho1]
    exact LawC_H hR e2 d2 (l3_H hS.2.2.2.2.1 ho1 h41)
