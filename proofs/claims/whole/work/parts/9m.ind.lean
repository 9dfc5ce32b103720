/-! What is read does not hang on what was written before. -/
def Ind (F : Sg → Sg) : Prop := ∀ (t : Tt) (c : List Int), c.length ≤ 400 → F (t, c) = ((F (t, [])).1, (c ++ (F (t, [])).2).take 400)
theorem tk_400 {c d : List Int} : (c ++ d.take 400).take 400 = (c ++ d).take 400 := by
  rw [List.take_append, List.take_append, List.take_take]
  congr 2
  omega
theorem tk_l {c d e : List Int} : ((c ++ d).take 400 ++ e).take 400 = (c ++ (d ++ e)).take 400 := by
  rw [← List.append_assoc]
  rcases Nat.lt_or_ge (c ++ d).length 400 with h | h
  · rw [show (c ++ d).take 400 = c ++ d from List.take_of_length_le (by omega)]
  · rw [List.take_append_of_le_length (by rw [List.length_take]; omega), List.take_append_of_le_length h, List.take_take, Nat.min_self]
theorem Ind.le {F : Sg → Sg} (h : Ind F) (t : Tt) : (F (t, [])).2.length ≤ 400 := by
  have := congrArg (fun s : Sg => s.2.length) (h t [] (Nat.zero_le _))
  have e : (F (t, [])).2.length = (([] ++ (F (t, [])).2).take 400).length := this
  rw [e, List.length_take]
  omega
theorem Ind.comp {F G : Sg → Sg} (hF : Ind F) (hG : Ind G) : Ind (fun s => F (G s)) := by
  intro t c hc
  have hg := hG t c hc
  show F (G (t, c)) = ((F (G (t, []))).1, (c ++ (F (G (t, []))).2).take 400)
  have e0 : G (t, []) = ((G (t, [])).1, (G (t, [])).2) := rfl
  have h1 := hF (G (t, [])).1 ((c ++ (G (t, [])).2).take 400) (by rw [List.length_take]; omega)
  have h2 := hF (G (t, [])).1 (G (t, [])).2 (hG.le t)
  have h3 : F (G (t, [])) = ((F ((G (t, [])).1, [])).1, ((G (t, [])).2 ++ (F ((G (t, [])).1, [])).2).take 400) := h2
  rw [hg, h1, h3]
  refine Prod.ext rfl ?_
  show (((c ++ (G (t, [])).2).take 400) ++ (F ((G (t, [])).1, [])).2).take 400 = (c ++ ((G (t, [])).2 ++ (F ((G (t, [])).1, [])).2).take 400).take 400
  rw [tk_l, tk_400]
theorem Ind.id : Ind (fun s => s) := by
  intro t c hc
  show (t, c) = (t, (c ++ []).take 400)
  rw [List.append_nil, List.take_of_length_le hc]
theorem Ind.tape {f : Tt → Tt} : Ind (fun s => (f s.1, s.2)) := by
  intro t c hc
  show (f t, c) = (f t, (c ++ []).take 400)
  rw [List.append_nil, List.take_of_length_le hc]
theorem Ind.wt {op : Tt → Int} : Ind (fun s => wtS (op s.1) s) := by
  intro t c hc
  show (t, if c.length < 400 then c ++ [op t] else c) = (t, (c ++ (if ([] : List Int).length < 400 then [] ++ [op t] else [])).take 400)
  rw [if_pos (show ([] : List Int).length < 400 by decide)]
  refine Prod.ext rfl ?_
  show (if c.length < 400 then c ++ [op t] else c) = (c ++ ([] ++ [op t])).take 400
  rw [List.nil_append]
  split
  · rw [List.take_of_length_le (by rw [List.length_append]; show c.length + 1 ≤ 400; omega)]
  · rw [List.take_append_of_le_length (by omega), List.take_of_length_le hc]
theorem Ind.ite {p : Tt → Prop} [∀ t, Decidable (p t)] {F G : Sg → Sg} (hF : Ind F) (hG : Ind G) : Ind (fun s => if p s.1 then F s else G s) := by
  intro t c hc
  show (if p t then F (t, c) else G (t, c)) = ((if p t then F (t, []) else G (t, [])).1, (c ++ (if p t then F (t, []) else G (t, [])).2).take 400)
  split
  · exact hF t c hc
  · exact hG t c hc
theorem I_st : Ind stS := Ind.tape (f := stT)
theorem I_wr (k : Int) : Ind (wrS k) := Ind.tape (f := wrT k)
theorem I_ex (k : Int) : Ind (exS k) := Ind.tape (f := exT k)
theorem I_nw (a b : Int) : Ind (nwS a b) := Ind.tape (f := nwT a b)
theorem I_wt (op : Int) : Ind (wtS op) := Ind.wt (op := fun _ => op)
theorem I_un (h : Int) : Ind (unF h) := Ind.ite (p := fun t => kdT t = 256) (I_st.comp (Ind.wt (op := vlT))) (Ind.ite (p := fun t => ftP h (kdT t - 307)) (I_st.comp (Ind.wt (op := fun t => -1 - (kdT t - 307)))) (I_wr 1))
theorem I_pa : Ind (fun s => wtS (vlT (stS s).1) (nwS 1 9999 (stS s))) := by
  intro t c hc
  have h := Ind.wt (op := fun _ => vlT (stT t)) (nwT 1 9999 (stT t)) c hc
  exact h
theorem I_prL (h : Int) : ∀ k : Nat, Ind (prL h k)
  | 0 => Ind.id
  | k + 1 => Ind.ite (p := fun t => kdT t = 42) ((I_prL h k).comp ((I_wt (-22)).comp ((I_un h).comp I_st))) (Ind.ite (p := fun t => kdT t = 47) ((I_prL h k).comp ((I_wt (-23)).comp I_pa)) Ind.id)
theorem I_pr (h : Int) : Ind (prF h) := (I_prL h 400).comp (I_un h)
theorem I_smL (h : Int) : ∀ k : Nat, Ind (smL h k)
  | 0 => Ind.id
  | k + 1 => by
    refine Ind.ite (p := fun t => kdT t = 43 ∨ kdT t = 45) ((I_smL h k).comp ?_) Ind.id
    intro t c hc
    have h1 := ((I_wt (if kdT t = 43 then -20 else -21)).comp ((I_pr h).comp I_st)) t c hc
    exact h1
theorem I_sm (h : Int) : Ind (smS h) := (I_smL h 400).comp (I_pr h)
theorem I_tk3 : Ind tk3 := Ind.ite (p := fun t => kdT t = 60 ∨ kdT t = 61 ∨ kdT t = 62) I_st (I_wr 1)
theorem I_cm (h : Int) : Ind (cmF h) := by
  intro t c hc
  have e : (smS h (t, c)).1 = (smS h (t, [])).1 := by rw [I_sm h t c hc]
  have h1 := ((I_wt (cpF (kdT (smS h (t, [])).1))).comp ((I_sm h).comp (I_tk3.comp (I_sm h)))) t c hc
  show wtS (cpF (kdT (smS h (t, c)).1)) (smS h (tk3 (smS h (t, c)))) = _
  rw [e]
  exact h1
theorem I_boL {cl : Sg → Sg} (hc : Ind cl) : ∀ k : Nat, Ind (boL cl k)
  | 0 => Ind.id
  | k + 1 => Ind.ite (p := fun t => kdT t = 305) ((I_boL hc k).comp ((I_wt (-27)).comp (hc.comp I_st))) Ind.id
theorem I_bo {cl : Sg → Sg} (hc : Ind cl) : Ind (boG cl) := (I_boL hc 400).comp hc
theorem I_eiL {cl : Sg → Sg} (hc : Ind cl) : ∀ k : Nat, Ind (eiL cl k)
  | 0 => Ind.id
  | k + 1 => Ind.ite (p := fun t => kdT t = 304) ((I_eiL hc k).comp ((I_wt (-28)).comp ((I_bo hc).comp I_st))) Ind.id
theorem I_ei {cl : Sg → Sg} (hc : Ind cl) : Ind (eiG cl) := (I_eiL hc 400).comp (I_bo hc)
theorem I_cl (h : Int) : ∀ m : Nat, Ind (clF h m)
  | 0 => Ind.ite (p := fun t => kdT t = 40 ∨ kdT t = 306) (I_wr 3) (I_cm h)
  | m + 1 => Ind.ite (p := fun t => kdT t = 306) ((I_wt (-29)).comp ((I_cl h m).comp I_st)) (Ind.ite (p := fun t => kdT t = 40) ((I_ex 41).comp ((I_ei (I_cl h m)).comp I_st)) (I_cm h))
/-- so much and no more is written -/
theorem Ind.fit {F : Sg → Sg} (h : Ind F) (t : Tt) (c : List Int) (hc : c.length + (F (t, [])).2.length ≤ 400) : F (t, c) = ((F (t, [])).1, c ++ (F (t, [])).2) := by
  rw [h t c (by omega), List.take_of_length_le (by rw [List.length_append]; omega)]
