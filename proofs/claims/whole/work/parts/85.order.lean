/-! Orders: the class's search = the reference's rows. -/
def pmM (rec : Int → List (List Int)) (s : Int) : Nat → Int → List (List Int)
  | 0, _ => []
  | k + 1, b => if inS s b then (rec (rmS s b)).map (fun l => b :: l) ++ pmM rec s k (b + 1) else pmM rec s k (b + 1)
def pmF : Nat → Int → List (List Int)
  | 0, s => if s = 0 then [[]] else []
  | d + 1, s => (if s = 0 then [[]] else []) ++ pmM (pmF d) s 6 0
def fldO (G : LwF) (up : Int) (K : KK) (gone : Int) : List (List Int) → Int × Option (List Int) → Int × Option (List Int)
  | [], a => a
  | l :: r, a => fldO G up K gone r (if a.1 < gone + (farS G up l K).1 then (gone + (farS G up l K).1, some l) else a)
theorem fldO_app {G : LwF} {up : Int} {K : KK} {gone : Int} : ∀ (p q : List (List Int)) (a : Int × Option (List Int)), fldO G up K gone (p ++ q) a = fldO G up K gone q (fldO G up K gone p a)
  | [], _, _ => rfl
  | l :: p, q, a => fldO_app p q _
theorem fldO_map {G : LwF} {up : Int} {K : KK} {gone b : Int} {x0 : Option (List Int)} : ∀ (L : List (List Int)) (i o : Int × Option (List Int)), o.1 = i.1 → (o.2 = match i.2 with | none => x0 | some l => some (b :: l)) → (fldO G up K gone (L.map (fun l => b :: l)) o).1 = (fldO G up (farF K G b up).2.2 (gone + (farF K G b up).1) L i).1 ∧ (fldO G up K gone (L.map (fun l => b :: l)) o).2 = (match (fldO G up (farF K G b up).2.2 (gone + (farF K G b up).1) L i).2 with | none => x0 | some l => some (b :: l))
  | [], i, o, h1, h2 => ⟨h1, h2⟩
  | l :: L, i, o, h1, h2 => by
    have e : gone + (farS G up (b :: l) K).1 = gone + (farF K G b up).1 + (farS G up l (farF K G b up).2.2).1 := by
      show gone + ((farF K G b up).1 + (farS G up l (farF K G b up).2.2).1) = _
      omega
    show (fldO G up K gone (L.map (fun l => b :: l)) (if o.1 < gone + (farS G up (b :: l) K).1 then (gone + (farS G up (b :: l) K).1, some (b :: l)) else o)).1 = (fldO G up (farF K G b up).2.2 (gone + (farF K G b up).1) L (if i.1 < gone + (farF K G b up).1 + (farS G up l (farF K G b up).2.2).1 then (gone + (farF K G b up).1 + (farS G up l (farF K G b up).2.2).1, some l) else i)).1 ∧ (fldO G up K gone (L.map (fun l => b :: l)) (if o.1 < gone + (farS G up (b :: l) K).1 then (gone + (farS G up (b :: l) K).1, some (b :: l)) else o)).2 = (match (fldO G up (farF K G b up).2.2 (gone + (farF K G b up).1) L (if i.1 < gone + (farF K G b up).1 + (farS G up l (farF K G b up).2.2).1 then (gone + (farF K G b up).1 + (farS G up l (farF K G b up).2.2).1, some l) else i)).2 with | none => x0 | some l => some (b :: l))
    rw [e, h1]
    rcases Classical.em (i.1 < gone + (farF K G b up).1 + (farS G up l (farF K G b up).2.2).1) with q | q
    · rw [if_pos q, if_pos q]; exact fldO_map L _ _ rfl rfl
    · rw [if_neg q, if_neg q]; exact fldO_map L _ _ h1 h2
def RelO (lv : Nat) (a0 r : OS) (x : Int × Option (List Int)) : Prop := r.1 = x.1 ∧ (∀ i, i < lv → r.2.2 i = a0.2.2 i) ∧ (match x.2 with | none => r.2.1 = a0.2.1 | some l => ∀ i, i < lv + l.length → r.2.1 i = if i < lv then a0.2.2 i else l.getD (i - lv) 0)
theorem RelO_u {G : LwF} {up : Int} {K : KK} {lv : Nat} {s gone : Int} {a0 a : OS} {x : Int × Option (List Int)} (h : RelO lv a0 a x) : RelO lv a0 (ordU s gone a) (fldO G up K gone (if s = 0 then [[]] else []) x) := by
  unfold ordU
  rcases Classical.em (s = 0) with e | e
  · rw [if_pos e]
    show RelO lv a0 (if s = 0 ∧ a.1 < gone then (gone, a.2.2, a.2.2) else a) (if x.1 < gone + 0 then (gone + 0, some []) else x)
    rw [Int.add_zero, ← h.1]
    rcases Classical.em (a.1 < gone) with q | q
    · rw [if_pos ⟨e, q⟩, if_pos q]
      refine ⟨rfl, h.2.1, fun i hi => ?_⟩
      have hi2 : i < lv := hi
      rw [if_pos hi2]
      exact h.2.1 i hi2
    · rw [if_neg (fun r => q r.2), if_neg q]; exact h
  · rw [if_neg e, if_neg (fun r => e r.1)]; exact h
theorem RelO_F {G : LwF} {up : Int} : ∀ (d lv : Nat) (K : KK) (s gone : Int) (a0 a : OS) (x : Int × Option (List Int)), RelO lv a0 a x → RelO lv a0 (ordF G up d lv K s gone a) (fldO G up K gone (pmF d s) x)
  | 0, lv, K, s, gone, a0, a, x, h => RelO_u h
  | d + 1, lv, K, s, gone, a0, a, x, h => by
    have hM : ∀ (k : Nat) (b : Int) (a : OS) (x : Int × Option (List Int)), RelO lv a0 a x → RelO lv a0 (ordM (ordF G up d (lv + 1)) G up lv K s gone k b a) (fldO G up K gone (pmM (pmF d) s k b) x) := by
      intro k
      induction k with
      | zero => intro b a x h; exact h
      | succ k ih =>
        intro b a x h
        show RelO lv a0 (ordM (ordF G up d (lv + 1)) G up lv K s gone k (b + 1) (if inS s b then ordF G up d (lv + 1) (farF K G b up).2.2 (rmS s b) (gone + (farF K G b up).1) (a.1, a.2.1, fset a.2.2 lv b) else a)) (fldO G up K gone (if inS s b then (pmF d (rmS s b)).map (fun l => b :: l) ++ pmM (pmF d) s k (b + 1) else pmM (pmF d) s k (b + 1)) x)
        rcases Classical.em (inS s b) with q | q
        · rw [if_pos q, if_pos q, fldO_app]
          refine ih _ _ _ ?_
          have hi := RelO_F (G := G) (up := up) d (lv + 1) (farF K G b up).2.2 (rmS s b) (gone + (farF K G b up).1) (a.1, a.2.1, fset a.2.2 lv b) (a.1, a.2.1, fset a.2.2 lv b) (a.1, none) ⟨rfl, fun _ _ => rfl, rfl⟩
          have hm := fldO_map (G := G) (up := up) (K := K) (gone := gone) (b := b) (x0 := x.2) (pmF d (rmS s b)) (a.1, none) x h.1.symm rfl
          obtain ⟨r1, r2, r3⟩ := hi
          refine ⟨r1.trans hm.1.symm, fun i hlt => ?_, ?_⟩
          · rw [r2 i (by omega)]
            show fset a.2.2 lv b i = _
            rw [fset_n (by omega)]
            exact h.2.1 i hlt
          · rw [hm.2]
            revert r3
            cases (fldO G up (farF K G b up).2.2 (gone + (farF K G b up).1) (pmF d (rmS s b)) (a.1, none)).2 with
            | none =>
              intro r3
              have r3' : (ordF G up d (lv + 1) (farF K G b up).2.2 (rmS s b) (gone + (farF K G b up).1) (a.1, a.2.1, fset a.2.2 lv b)).2.1 = a.2.1 := r3
              rw [r3']
              exact h.2.2
            | some l =>
              intro r3 i hi
              have hi2 : i < lv + (l.length + 1) := hi
              have r4 := r3 i (by omega)
              rw [r4]
              show (if i < lv + 1 then fset a.2.2 lv b i else l.getD (i - (lv + 1)) 0) = if i < lv then a0.2.2 i else (b :: l).getD (i - lv) 0
              rcases Classical.em (i < lv) with q1 | q1
              · rw [if_pos (by omega), if_pos q1, fset_n (by omega)]; exact h.2.1 i q1
              · rw [if_neg q1]
                rcases Classical.em (i = lv) with q2 | q2
                · rw [if_pos (by omega), q2, fset_s, Nat.sub_self]; rfl
                · rw [if_neg (by omega), show i - lv = (i - (lv + 1)) + 1 by omega]; rfl
        · rw [if_neg q, if_neg q]
          exact ih _ _ _ h
    show RelO lv a0 (ordM (ordF G up d (lv + 1)) G up lv K s gone 6 0 (ordU s gone a)) (fldO G up K gone ((if s = 0 then [[]] else []) ++ pmM (pmF d) s 6 0) x)
    rw [fldO_app]
    exact hM 6 0 _ _ (RelO_u h)
theorem fldR_O {G : LwF} {up : Int} {K : KK} : ∀ (L : List (List Int)) (x : Int × Option (List Int)), fldR G up K L (x.1, x.2.getD []) = ((fldO G up K 0 L x).1, (fldO G up K 0 L x).2.getD [])
  | [], _ => rfl
  | l :: L, x => by
    show fldR G up K L (if x.1 < (farS G up l K).1 then ((farS G up l K).1, l) else (x.1, x.2.getD [])) = ((fldO G up K 0 L (if x.1 < 0 + (farS G up l K).1 then (0 + (farS G up l K).1, some l) else x)).1, (fldO G up K 0 L (if x.1 < 0 + (farS G up l K).1 then (0 + (farS G up l K).1, some l) else x)).2.getD [])
    rw [Int.zero_add]
    rcases Classical.em (x.1 < (farS G up l K).1) with q | q
    · rw [if_pos q, if_pos q]; exact fldR_O L ((farS G up l K).1, some l)
    · rw [if_neg q, if_neg q]; exact fldR_O L x
theorem fldO_mem {G : LwF} {up : Int} {K : KK} {gone : Int} : ∀ (L : List (List Int)) (x : Int × Option (List Int)), (fldO G up K gone L x).2 = x.2 ∨ ∃ l ∈ L, (fldO G up K gone L x).2 = some l
  | [], _ => Or.inl rfl
  | l :: L, x => by
    show (fldO G up K gone L (if x.1 < gone + (farS G up l K).1 then (gone + (farS G up l K).1, some l) else x)).2 = x.2 ∨ ∃ l' ∈ l :: L, (fldO G up K gone L (if x.1 < gone + (farS G up l K).1 then (gone + (farS G up l K).1, some l) else x)).2 = some l'
    rcases Classical.em (x.1 < gone + (farS G up l K).1) with q | q
    · rw [if_pos q]
      rcases fldO_mem L (gone + (farS G up l K).1, some l) with h | ⟨l2, h1, h2⟩
      · exact Or.inr ⟨l, List.mem_cons_self .., h⟩
      · exact Or.inr ⟨l2, List.mem_cons_of_mem _ h1, h2⟩
    · rw [if_neg q]
      rcases fldO_mem L x with h | ⟨l2, h1, h2⟩
      · exact Or.inl h
      · exact Or.inr ⟨l2, List.mem_cons_of_mem _ h1, h2⟩
theorem fldO_some {G : LwF} {up : Int} {K : KK} {L : List (List Int)} (h : L ≠ []) : ∃ l ∈ L, (fldO G up K 0 L (-1, none)).2 = some l := by
  cases L with
  | nil => exact absurd rfl h
  | cons l L =>
    have hb := farS_b (G := G) (up := up) l K
    show ∃ l' ∈ l :: L, (fldO G up K 0 L (if (-1 : Int) < 0 + (farS G up l K).1 then (0 + (farS G up l K).1, some l) else (-1, none))).2 = some l'
    rw [if_pos (by omega)]
    rcases fldO_mem (G := G) (up := up) (K := K) (gone := 0) L (0 + (farS G up l K).1, some l) with h | ⟨l2, h1, h2⟩
    · exact ⟨l, List.mem_cons_self .., h⟩
    · exact ⟨l2, List.mem_cons_of_mem _ h1, h2⟩
/-! What is finite is looked through. -/
set_option maxRecDepth 100000 in
theorem fin_1 : ∀ s : Nat, s < 64 → 0 < s → onL 8 (s : Int) 0 = some (bcF (s : Int)) ∧ 1 ≤ bcF (s : Int) ∧ bcF (s : Int) ≤ 6 ∧ (((bitF (s : Int) 6 0).length : Nat) : Int) = bcF (s : Int) := by decide +kernel
set_option maxRecDepth 100000 in
theorem fin_2 : ∀ B : Nat, B < 7 → ∀ s : Nat, s < 2 ^ B → bitF (s : Int) B 0 = bitF (s : Int) 6 0 := by decide +kernel
def finB (s : Int) : Bool := decide (lnT 121 (bitF s 6 0) = some (pmF 6 s)) && (!(pmF 6 s).isEmpty && (pmF 6 s).all (fun l => decide ((l.length : Int) = bcF s)))
set_option maxRecDepth 100000 in
theorem fin_3b : ∀ s : Nat, s < 64 → 0 < s → bcF (s : Int) ≤ 5 → finB (s : Int) = true := by decide +kernel
theorem fin_3 : ∀ s : Nat, s < 64 → 0 < s → bcF (s : Int) ≤ 5 → lnT 121 (bitF (s : Int) 6 0) = some (pmF 6 (s : Int)) ∧ pmF 6 (s : Int) ≠ [] ∧ ∀ l ∈ pmF 6 (s : Int), (l.length : Int) = bcF (s : Int) := by
  intro s h1 h2 h3
  have h := fin_3b s h1 h2 h3
  unfold finB at h
  rw [Bool.and_eq_true, Bool.and_eq_true, decide_eq_true_eq, List.all_eq_true] at h
  refine ⟨h.1, fun e => ?_, fun l hl => of_decide_eq_true (h.2.2 l hl)⟩
  have h4 := h.2.1
  rw [e] at h4
  cases h4
theorem xshl_B : ∀ B : Nat, B < 7 → xshl 1 (B : Int) = ((2 ^ B : Nat) : Int) := by decide +kernel
theorem alR_64 {K : KK} {s : Int} (hI : KI K) (h : alR K s) : s < ((2 ^ (K 13 0).toNat : Nat) : Int) ∧ s < 64 := by
  have hb := ki_B hI
  have h1 := xshl_B (K 13 0).toNat (by omega)
  rw [show (((K 13 0).toNat : Nat) : Int) = K 13 0 by omega] at h1
  have h2 := h.2
  rw [h1] at h2
  refine ⟨h2, ?_⟩
  have h3 : 2 ^ (K 13 0).toNat ≤ 2 ^ 6 := Nat.pow_le_pow_right (by omega) (by omega)
  omega
