/-! A law's code: the class runs it. -/
def StK (s : Nat → Int) (st : List Int) : Prop := ∀ j, j < st.length → s (st.length - 1 - j) = st.getD j 0
theorem StK.push {s : Nat → Int} {st : List Int} {v : Int} (h : StK s st) : StK (fset s st.length v) (v :: st) := by
  intro j hj
  have hj2 : j < st.length + 1 := hj
  show fset s st.length v (st.length + 1 - 1 - j) = _
  cases j with
  | zero => exact if_pos (by omega)
  | succ j =>
    refine (if_neg (by omega)).trans ?_
    rw [show st.length + 1 - 1 - (j + 1) = st.length - 1 - j by omega]
    exact h j (by omega)
theorem StK.tl {s : Nat → Int} {st : List Int} {x : Int} (h : StK s (x :: st)) : StK s st ∧ s st.length = x := by
  constructor
  · intro j hj
    have := h (j + 1) (by show j + 1 < st.length + 1; omega)
    rw [show (x :: st).length - 1 - (j + 1) = st.length - 1 - j by show st.length + 1 - 1 - (j + 1) = _; omega] at this
    exact this
  · have := h 0 (by show 0 < st.length + 1; omega)
    exact this
theorem an_s {f c : Nat → Int} {oth : Int} {k : Nat} {i top : Int} {s : Nat → Int} : ansL f c oth (k + 1) i top s = if ¬ top < 64 then oth else if 0 ≤ c i.toNat then ansL f c oth k (i + 1) (top + 1) (fset s top.toNat (c i.toNat)) else if -15 ≤ c i.toNat then ansL f c oth k (i + 1) (top + 1) (fset s top.toNat (f (-1 - c i.toNat).toNat)) else if c i.toNat = -30 ∧ 1 ≤ top then s (top - 1).toNat else if c i.toNat = -29 ∧ 1 ≤ top then ansL f c oth k (i + 1) top (fset s (top - 1).toNat (nrm (1 - s (top - 1).toNat))) else if c i.toNat = -31 ∧ 2 ≤ top then (if s (top - 1).toNat = 0 then ansL f c oth k (i + 1) 0 s else s (top - 2).toNat) else if 2 ≤ top then ansL f c oth k (i + 1) (top - 1) (fset s (top - 1 - 1).toNat (jnF (c i.toNat) (s (top - 1 - 1).toNat) (s (top - 1).toNat))) else ansL f c oth k (i + 1) top s := rfl
theorem an_ev {rl : Nat → Prop} {f cd : Nat → Int} {oth : Int} {Q : Int → Prop} (k : Nat) : ∀ (δ st : List Int) (i : Nat) (s : Nat → Int), StK s st → (∀ j, j < δ.length → cd (i + j) = δ.getD j 0) → evP rl f δ st (fun st2 => ∀ s2, StK s2 st2 → Q (ansL f cd oth k ((i + δ.length : Nat) : Int) (st2.length : Int) s2)) → Q (ansL f cd oth (k + δ.length) (i : Int) (st.length : Int) s)
  | [], st, i, s, hs, _, h => h s hs
  | c :: δ, st, i, s, hs, hc, h => by
    have h2 : ev1 rl f c st (fun s3 => evP rl f δ s3 (fun st2 => ∀ s2, StK s2 st2 → Q (ansL f cd oth k ((i + (δ.length + 1) : Nat) : Int) (st2.length : Int) s2))) := h
    obtain ⟨h3, h4⟩ := h2
    have e0 : cd i = c := hc 0 (by show 0 < δ.length + 1; omega)
    have ec : ∀ j, j < δ.length → cd (i + 1 + j) = δ.getD j 0 := fun j hj => by
      have := hc (j + 1) (by show j + 1 < δ.length + 1; omega)
      rw [show i + 1 + j = i + (j + 1) by omega]
      exact this
    have ei : (i : Int) + 1 = ((i + 1 : Nat) : Int) := by omega
    have ih : ∀ st' s', StK s' st' → evP rl f δ st' (fun st2 => ∀ s2, StK s2 st2 → Q (ansL f cd oth k ((i + (δ.length + 1) : Nat) : Int) (st2.length : Int) s2)) → Q (ansL f cd oth (k + δ.length) ((i + 1 : Nat) : Int) (st'.length : Int) s') := fun st' s' hs' h' => an_ev k δ st' (i + 1) s' hs' ec (by rw [show i + 1 + δ.length = i + (δ.length + 1) by omega]; exact h')
    show Q (ansL f cd oth (k + δ.length + 1) (i : Int) (st.length : Int) s)
    rw [an_s, if_neg (by omega), show ((i : Int)).toNat = i by omega, e0, ei, show ((st.length : Int)).toNat = st.length by omega]
    rcases h4 with ⟨q, r⟩ | ⟨q1, q2, q3, r⟩ | ⟨q1, x, r, q2, q3, q4⟩ | ⟨q1, q2, y, x, r, q3, q4, q5, q6⟩
    · rw [if_pos q]
      exact ih (c :: st) _ hs.push r
    · rw [if_neg (by omega), if_pos q1]
      exact ih (f (-1 - c).toNat :: st) _ hs.push r
    · subst q2
      have ht := hs.tl
      have hl : ((x :: r).length : Int) = (r.length : Int) + 1 := by show ((r.length + 1 : Nat) : Int) = _; omega
      rw [if_neg (by omega), if_neg (by omega), if_neg (by omega), if_pos (by omega), hl, show ((r.length : Int) + 1 - 1).toNat = r.length by omega, ht.2]
      have := ih (nrm (1 - x) :: r) _ ht.1.push q4
      rw [show ((nrm (1 - x) :: r).length : Int) = (r.length : Int) + 1 by show ((r.length + 1 : Nat) : Int) = _; omega] at this
      exact this
    · subst q3
      have ht := hs.tl
      have ht2 := ht.1.tl
      have hl : ((y :: x :: r).length : Int) = (r.length : Int) + 2 := by show ((r.length + 1 + 1 : Nat) : Int) = _; omega
      have hl2 : (x :: r).length = r.length + 1 := rfl
      rw [if_neg (by omega), if_neg (by omega), if_neg (by omega), if_neg (by omega), if_neg (by omega), if_pos (by omega), hl, show ((r.length : Int) + 2 - 1 - 1).toNat = r.length by omega, show ((r.length : Int) + 2 - 1).toNat = r.length + 1 by omega, ht2.2, ← hl2, ht.2]
      have := ih (jnF c x y :: r) _ ht2.1.push q6
      rw [show ((jnF c x y :: r).length : Int) = (r.length : Int) + 2 - 1 by show ((r.length + 1 : Nat) : Int) = _; omega] at this
      exact this
noncomputable def vlX (rl : Nat → Prop) (f : Nat → Int) (δ : List Int) : Int := Classical.epsilon (fun v => ∀ (st : List Int) (k : List Int → Prop), st.length + 23 ≤ 64 → k (v :: st) → evP rl f δ st k)
theorem vlX_s {rl : Nat → Prop} {d : Nat} {bl : Prop} {δ : List Int} (h : EvX rl d bl δ) (hd : d ≤ 23) (f : Nat → Int) : ∀ (st : List Int) (k : List Int → Prop), st.length + 23 ≤ 64 → k (vlX rl f δ :: st) → evP rl f δ st k := by
  obtain ⟨v, _, h2⟩ := h f
  exact Classical.epsilon_spec (p := fun v => ∀ (st : List Int) (k : List Int → Prop), st.length + 23 ≤ 64 → k (v :: st) → evP rl f δ st k) ⟨v, fun st k q1 q2 => h2 st k (by omega) q2⟩
def cvv (h : Int) (l : LN1) : List Int := if h = 0 then [if l.1 = 0 then 1 else 0] else l.2.1
noncomputable def lnV (h : Int) (f : Nat → Int) (l : LN1) : Int := if h = 0 then (if l.1 = 0 then 1 else 0) else vlX (rlh h) f l.2.1
noncomputable def lnB (h : Int) (f : Nat → Int) (l : LN1) : Int := match l.2.2 with | none => 1 | some c => vlX (rlh h) f c
noncomputable def lwV (h : Int) (f : Nat → Int) (oth : Int) : List LN1 → Int
  | [] => oth
  | l :: L => if lnB h f l = 0 then lwV h f oth L else lnV h f l
theorem lnV_s {h : Int} {l : LN1} (hk : ok1 h l) (f : Nat → Int) (st : List Int) (k : List Int → Prop) (hd : st.length + 23 ≤ 64) (q : k (lnV h f l :: st)) : evP (rlh h) f (cvv h l) st k := by
  rcases Classical.em (h = 0) with e | e
  · unfold cvv
    unfold lnV at q
    rw [if_pos e] at q
    rw [if_pos e]
    exact ⟨by omega, Or.inl ⟨by split <;> omega, q⟩⟩
  · unfold cvv
    unfold lnV at q
    rw [if_neg e] at q
    rw [if_neg e]
    exact vlX_s (ok1_v hk e) (by omega) f st k hd q
theorem getD_l {a b : List Int} {j : Nat} (h : j < a.length) : (a ++ b).getD j 0 = a.getD j 0 := by
  rw [List.getD_eq_getElem?_getD, List.getD_eq_getElem?_getD, List.getElem?_append_left h]
theorem getD_r {a b : List Int} {j : Nat} : (a ++ b).getD (a.length + j) 0 = b.getD j 0 := by
  rw [List.getD_eq_getElem?_getD, List.getD_eq_getElem?_getD, List.getElem?_append_right (by omega), Nat.add_sub_cancel_left]
def cn1 (l : LN1) : List Int := match l.2.2 with | none => [-30] | some c => c ++ [-31]
theorem an_law {h : Int} {f cd : Nat → Int} {oth : Int} : ∀ (L : List LN1) (i : Nat) (s : Nat → Int), (∀ l ∈ L, ok1 h l) → (∀ j, j < (clC h L).length → cd (i + j) = (clC h L).getD j 0) → ansL f cd oth (clC h L).length (i : Int) 0 s = lwV h f oth L
  | [], i, s, _, _ => rfl
  | l :: L, i, s, hok, hcd => by
    have hk := hok l (List.mem_cons_self ..)
    have hcl : clC h (l :: L) = cvv h l ++ (cn1 l ++ clC h L) := by
      show cl1 h l ++ clC h L = _
      unfold cl1 cvv cn1
      cases l.2.2 <;> rw [List.append_assoc]
    rw [hcl] at hcd
    rw [hcl]
    have hlen : (cvv h l ++ (cn1 l ++ clC h L)).length = (cn1 l ++ clC h L).length + (cvv h l).length := by rw [List.length_append]; omega
    rw [hlen]
    refine an_ev (rl := rlh h) (Q := fun z => z = lwV h f oth (l :: L)) _ (cvv h l) [] i s (fun j hj => absurd hj (Nat.not_lt_zero _)) (fun j hj => (hcd j (by rw [List.length_append]; omega)).trans (getD_l hj)) (lnV_s hk f [] _ (by show 0 + 23 ≤ 64; omega) (fun s2 hs2 => ?_))
    have hcd2 : ∀ j, j < (cn1 l ++ clC h L).length → cd (i + (cvv h l).length + j) = (cn1 l ++ clC h L).getD j 0 := fun j hj => by
      rw [show i + (cvv h l).length + j = i + ((cvv h l).length + j) by omega, hcd _ (by rw [hlen]; omega)]
      exact getD_r
    have e1 : s2 0 = lnV h f l := hs2.tl.2
    cases hc : l.2.2 with
    | none =>
      have el : lwV h f oth (l :: L) = lnV h f l := by
        show (if lnB h f l = 0 then lwV h f oth L else lnV h f l) = _
        have eb : lnB h f l = 1 := by unfold lnB; rw [hc]
        rw [eb]
        exact if_neg (by decide)
      have ecn : cn1 l = [-30] := by unfold cn1; rw [hc]
      rw [ecn] at hcd2
      rw [ecn]
      have e0 : cd (i + (cvv h l).length) = -30 := hcd2 0 (by show 0 < (clC h L).length + 1; omega)
      show ansL f cd oth ((clC h L).length + 1) _ 1 s2 = _
      rw [an_s, if_neg (by omega), show (((i + (cvv h l).length : Nat) : Int)).toNat = i + (cvv h l).length by omega, e0, if_neg (by omega), if_neg (by omega), if_pos (by omega), el]
      exact e1
    | some c =>
      have ecn : cn1 l = c ++ [-31] := by unfold cn1; rw [hc]
      rw [ecn] at hcd2
      rw [ecn]
      have hcd2 : ∀ j, j < (c ++ ([-31] ++ clC h L)).length → cd (i + (cvv h l).length + j) = (c ++ ([-31] ++ clC h L)).getD j 0 := by rw [← List.append_assoc]; exact hcd2
      have hlen2 : (c ++ ([-31] ++ clC h L)).length = ((clC h L).length + 1) + c.length := by rw [List.length_append, List.length_append]; show c.length + (1 + _) = _; omega
      show ansL f cd oth ((c ++ [-31]) ++ clC h L).length _ _ s2 = _
      rw [List.append_assoc, hlen2]
      refine an_ev (rl := rlh h) (Q := fun z => z = lwV h f oth (l :: L)) _ c [lnV h f l] (i + (cvv h l).length) s2 hs2 (fun j hj => (hcd2 j (by rw [hlen2]; omega)).trans (getD_l hj)) (vlX_s (ok1_c hk hc) (by omega) f _ _ (by show 1 + 23 ≤ 64; omega) (fun s3 hs3 => ?_))
      have e0 : cd (i + (cvv h l).length + c.length) = -31 := (hcd2 c.length (by rw [hlen2]; omega)).trans (getD_r (j := 0))
      have e2 := hs3.tl
      have e3 : s3 0 = lnV h f l := e2.1.tl.2
      have e4 : s3 1 = vlX (rlh h) f c := e2.2
      have eb : lnB h f l = vlX (rlh h) f c := by unfold lnB; rw [hc]
      show ansL f cd oth ((clC h L).length + 1) _ 2 s3 = (if lnB h f l = 0 then lwV h f oth L else lnV h f l)
      rw [an_s, if_neg (by omega), show (((i + (cvv h l).length + c.length : Nat) : Int)).toNat = i + (cvv h l).length + c.length by omega, e0, if_neg (by omega), if_neg (by omega), if_neg (by omega), if_neg (by omega), if_pos (by omega), show ((2 : Int) - 1).toNat = 1 from rfl, show ((2 : Int) - 2).toNat = 0 from rfl, e4, e3, eb]
      split
      · have ih := an_law (f := f) (oth := oth) (cd := cd) L (i + (cvv h l).length + c.length + 1) s3 (fun l2 q => hok l2 (List.mem_cons_of_mem _ q)) (fun j hj => by
          have h9 := hcd2 (c.length + (1 + j)) (by rw [hlen2]; omega)
          rw [show i + (cvv h l).length + c.length + 1 + j = i + (cvv h l).length + (c.length + (1 + j)) by omega, h9]
          exact getD_r.trans (getD_r (a := [-31]) (j := j)))
        rw [show ((i + (cvv h l).length + c.length : Nat) : Int) + 1 = ((i + (cvv h l).length + c.length + 1 : Nat) : Int) by omega]
        exact ih
      · rfl
theorem an_F {h : Int} {f cd : Nat → Int} {oth : Int} {L : List LN1} (h1 : ∀ l ∈ L, ok1 h l) (h2 : ∀ j, j < (clC h L).length → cd j = (clC h L).getD j 0) : ansF cd ((clC h L).length : Int) f oth = lwV h f oth L := an_law L 0 _ h1 (fun j hj => by rw [Nat.zero_add]; exact h2 j hj)
