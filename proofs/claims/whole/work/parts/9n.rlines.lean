/-! Lines of a law: the reference. -/
abbrev LN1 : Type := Int × List Int × Option (List Int)
def rf1 (l : LN1) : List Int := l.2.1 ++ l.2.2.getD []
def rfC (L : List LN1) : List Int := L.flatMap rf1
def cl1 (h : Int) (l : LN1) : List Int := (if h = 0 then [if l.1 = 0 then 1 else 0] else l.2.1) ++ (match l.2.2 with | none => [-30] | some c => c ++ [-31])
def clC (h : Int) (L : List LN1) : List Int := L.flatMap (cl1 h)
def LnD (b : Nat) (L : List LN1) (E : KK) : Prop := ∀ i l, L[i]? = some l → E 500 (b + i) = l.1 ∧ E 501 (b + i) = ((rfC (L.take i)).length : Int) ∧ E 502 (b + i) = ((rfC (L.take i)).length : Int) + (l.2.1.length : Int) ∧ E 503 (b + i) = ((rfC (L.take i)).length : Int) + ((rf1 l).length : Int)
def ok1 (h : Int) (l : LN1) : Prop := (if h = 0 then (l.2.1 = [] ∧ (l.1 = 0 ∨ l.1 = 1)) else ∃ t, wfL t.2.2 ∧ (smS h (t, [])).1.1 = 0 ∧ (smS h (t, [])).2.length < 400 ∧ l.2.1 = (smS h (t, [])).2) ∧ (l.2.2 = none ∨ ∃ t, wfL t.2.2 ∧ (eiG (clF h 8) (t, [])).1.1 = 0 ∧ (eiG (clF h 8) (t, [])).2.length < 400 ∧ l.2.2 = some (eiG (clF h 8) (t, [])).2)
theorem rfC_app (L : List LN1) (l : LN1) : rfC (L ++ [l]) = rfC L ++ rf1 l := by unfold rfC; simp
theorem clC_app (h : Int) (L : List LN1) (l : LN1) : clC h (L ++ [l]) = clC h L ++ cl1 h l := by unfold clC; simp
theorem LnD_app {b : Nat} {L : List LN1} {E F : KK} {l : LN1} (h : LnD b L E) (g : ∀ x k, 500 ≤ x → x ≤ 503 → k ≠ b + L.length → F x k = E x k) (h0 : F 500 (b + L.length) = l.1) (h1 : F 501 (b + L.length) = ((rfC L).length : Int)) (h2 : F 502 (b + L.length) = ((rfC L).length : Int) + (l.2.1.length : Int)) (h3 : F 503 (b + L.length) = ((rfC L).length : Int) + ((rf1 l).length : Int)) : LnD b (L ++ [l]) F := by
  intro i l2 hi
  rcases Nat.lt_or_ge i L.length with q | q
  · rw [List.getElem?_append_left q] at hi
    rw [List.take_append_of_le_length (by omega), g _ _ (by omega) (by omega) (by omega), g _ _ (by omega) (by omega) (by omega), g _ _ (by omega) (by omega) (by omega), g _ _ (by omega) (by omega) (by omega)]
    exact h i l2 hi
  · rw [List.getElem?_append_right q] at hi
    have e : i = L.length := by
      rcases Nat.lt_or_ge (i - L.length) 1 with r | r
      · omega
      · rw [List.getElem?_eq_none (by show 1 ≤ _; exact r)] at hi; cases hi
    rw [e, Nat.sub_self] at hi
    have e2 : l = l2 := Option.some.inj hi
    rw [e, ← e2, List.take_append_of_le_length (Nat.le_refl _), List.take_length]
    exact ⟨h0, h1, h2, h3⟩
def FRl (D0 D : KK) : Prop := ∀ x k, (x = 479 → k ≠ 25 ∧ k ≠ 26 ∧ k ≠ 27 ∧ k ≠ 28 ∧ k ≠ 38 ∧ k ≠ 39 ∧ k ≠ 41 ∧ k ≠ 42 ∧ k ≠ 43) → ((x = 504 ∨ x = 505) → k < 800) → ((500 ≤ x ∧ x ≤ 503) → k < 32) → x ≠ 506 → D x k = D0 x k
def RlS (bs : List Int) (wh : Int) (D0 : KK) (LE : KK) (s : Sg) (o : Int) (P : Option (List Int)) (D : KK) : Prop := RgO bs D s o P D ∧ TpR bs D ∧ WdR D ∧ D 479 37 = wh ∧ FRl D0 D ∧ ∀ x k, 500 ≤ x → x ≤ 503 → D x k = LE x k
theorem RgO.me {bs : List Int} {D0 D : KK} {s : Sg} {o : Int} {P : Option (List Int)} (h : RgO bs D0 s o P D) : RgO bs D s o P D := ⟨h.1, h.2.1, h.2.2.1, h.2.2.2.1, h.2.2.2.2.1, h.2.2.2.2.2.1, h.2.2.2.2.2.2.1, fun _ _ _ _ _ => rfl⟩
theorem RlS.step {bs : List Int} {wh : Int} {D0 LE D E : KK} {s s2 : Sg} {o o2 : Int} {P P2 : Option (List Int)} (h : RlS bs wh D0 LE s o P D) (g : RgO bs D s2 o2 P2 E) : RlS bs wh D0 LE s2 o2 P2 E := by
  have f := g.2.2.2.2.2.2.2
  exact ⟨g.me, h.2.1.fr (fun x k q => f x k (by omega) (by omega) (by omega)), fun j hj => (f 498 j (by omega) (by omega) (by omega)).trans (h.2.2.1 j hj), (f 479 37 (by omega) (by omega) (by omega)).trans h.2.2.2.1, fun x k q1 q2 q3 q4 => (f x k q1 q2 q4).trans (h.2.2.2.2.1 x k q1 q2 q3 q4), fun x k q1 q2 => (f x k (by omega) (by omega) (by omega)).trans (h.2.2.2.2.2 x k q1 q2)⟩
theorem RlS.wr {bs : List Int} {wh : Int} {D0 LE D : KK} {s : Sg} {o : Int} {P : Option (List Int)} (h : RlS bs wh D0 LE s o P D) (c j : Nat) (v : Int) (h0 : 500 ≤ c) (h1 : c ≤ 503) (hj : 32 ≤ j) : RlS bs wh D0 (xui LE c j v) s o P (xui D c j v) := by
  obtain ⟨⟨g1, g2, g3, g4, g5, g6, g7, _⟩, h2, h3, h4, h5, h6⟩ := h
  refine ⟨⟨g1.fr (fun k q => xui_a (by omega)), g2, g3, (xui_a (by omega)).trans g4, fun i hi => ⟨(xui_a (by omega)).trans (g5 i hi).1, (xui_a (by omega)).trans (g5 i hi).2⟩, (xui_a (by omega)).trans g6, PnO_fr g7 (xui_a (by omega)) (fun k => xui_a (by omega)), fun _ _ _ _ _ => rfl⟩, h2.fr (fun x k q => xui_a (by omega)), fun i hi => (xui_a (by omega)).trans (h3 i hi), (xui_a (by omega)).trans h4, fun x k q1 q2 q3 q4 => (if_neg (fun r => by have := q3 (by omega); omega)).trans (h5 x k q1 q2 q3 q4), fun x k q1 q2 => ?_⟩
  show (if x = c ∧ k = j then v else D x k) = if x = c ∧ k = j then v else LE x k
  rw [h6 x k q1 q2]
theorem RlS.fl {bs : List Int} {wh : Int} {D0 LE D E : KK} {s : Sg} {o f p : Int} {P : Option (List Int)} (h : RlS bs wh D0 LE s o P D) (g : RgF f p D E) : E 479 42 = f ∧ E 479 43 = p ∧ FRl D0 E := ⟨g.1, g.2.1, fun x k q1 q2 q3 q4 => (g.2.2 x k q1 q2 q4).trans (h.2.2.2.2.1 x k q1 q2 q3 q4)⟩
/-- what reading a law ends in: c is what the class makes of it -/
def RlQ (h : Int) (D0 : KK) (c : Int × Sg) (n : Nat) (R : Nat → Nat → Option Nat) : XQ := fun r m2 => ∃ z D', r = some (.inl z) ∧ m2 = (xS n, R, D') ∧ FRl D0 D' ∧ ((c.2.1.1 = 0 ∧ ∃ L : List LN1, z = (L.length : Int) ∧ c.1 = (L.length : Int) ∧ L.length ≤ 16 ∧ c.2.2 = clC h L ∧ (∀ l ∈ L, ok1 h l) ∧ LnD 32 L D' ∧ D' 479 38 = ((rfC L).length : Int) ∧ (rfC L).length ≤ 400 ∧ ∀ j, j < (rfC L).length → D' 504 (800 + j) = (opR ((rfC L).getD j 0)).1 ∧ D' 505 (800 + j) = (opR ((rfC L).getD j 0)).2) ∨ (c.2.1.1 ≠ 0 ∧ z = -1 ∧ D' 479 42 = c.2.1.1 ∧ D' 479 43 = c.2.1.2.1))
theorem lwL_d {h : Int} {k : Nat} {r : Int} {s : Sg} (q : s.1.1 ≠ 0) : (lwL h k r s).2 = s := by
  cases k with
  | zero => rfl
  | succ k => rw [show lwL h (k + 1) r s = (r, s) from if_pos (kd_d q)]

