/-! Words: the class's and the reference's search. -/
def CWL : List (List Int) := [[108, 101, 116], [104, 111, 108, 100], [108, 105, 107, 101], [119, 104, 101, 110], [111, 114], [97, 110, 100], [110, 111, 116], [108, 105, 107, 105, 110, 103], [109, 111, 111, 100], [114, 105, 118, 97, 108], [108, 111, 99, 107], [104, 111, 117, 114], [100, 114, 97, 117, 103, 104, 116], [97, 98, 111, 118, 101], [98, 101, 108, 111, 119], [117, 112], [112, 97, 115, 115, 101, 115], [116, 119, 111], [103, 111, 111, 100], [97, 109, 111, 117, 110, 116], [116, 97, 115, 116, 101], [112, 114, 101, 115, 101, 110, 116, 115], [112, 97, 115, 115], [103, 105, 118, 101], [112, 117, 108, 108], [119, 97, 105, 116], [100, 111, 119, 110], [119, 105, 116, 104], [111, 102], [116, 111], [98, 121]]
def RWL : List (List Int) := [[108, 101, 116], [104, 111, 108, 100], [119, 104, 101, 110], [111, 114], [97, 110, 100], [110, 111, 116], [108, 105, 107, 105, 110, 103], [109, 111, 111, 100], [114, 105, 118, 97, 108], [108, 111, 99, 107], [104, 111, 117, 114], [100, 114, 97, 117, 103, 104, 116], [97, 98, 111, 118, 101], [98, 101, 108, 111, 119], [117, 112], [112, 97, 115, 115, 101, 115], [116, 119, 111], [108, 105, 107, 101], [103, 111, 111, 100], [97, 109, 111, 117, 110, 116], [116, 97, 115, 116, 101], [112, 114, 101, 115, 101, 110, 116, 115], [112, 97, 115, 115], [100, 111, 119, 110], [119, 105, 116, 104], [103, 105, 118, 101], [111, 102], [116, 111], [98, 121], [112, 117, 108, 108], [119, 97, 105, 116]]
def RWD : List Int := [32, 108, 101, 116, 32, 104, 111, 108, 100, 32, 119, 104, 101, 110, 32, 111, 114, 32, 97, 110, 100, 32, 110, 111, 116, 32, 108, 105, 107, 105, 110, 103, 32, 109, 111, 111, 100, 32, 114, 105, 118, 97, 108, 32, 108, 111, 99, 107, 32, 104, 111, 117, 114, 32, 100, 114, 97, 117, 103, 104, 116, 32, 97, 98, 111, 118, 101, 32, 98, 101, 108, 111, 119, 32, 117, 112, 32, 112, 97, 115, 115, 101, 115, 32, 116, 119, 111, 32, 108, 105, 107, 101, 32, 103, 111, 111, 100, 32, 97, 109, 111, 117, 110, 116, 32, 116, 97, 115, 116, 101, 32, 112, 114, 101, 115, 101, 110, 116, 115, 32, 112, 97, 115, 115, 32, 100, 111, 119, 110, 32, 119, 105, 116, 104, 32, 103, 105, 118, 101, 32, 111, 102, 32, 116, 111, 32, 98, 121, 32, 112, 117, 108, 108, 32, 119, 97, 105, 116, 32]
def flW (ws : List (List Int)) : List Int := ws.flatMap (fun w => w ++ [32])
def mtW (bs : List Int) (j : Nat) : Nat → List Int → Bool
  | _, [] => true
  | i, c :: w => decide (i < j ∧ bs.getD i 0 = c) && mtW bs j (i + 1) w
def eqW (bs : List Int) (i j : Nat) (w : List Int) : Bool := mtW bs j i w && decide (i + w.length = j)
def fnW (e : List Int → Bool) : List (List Int) → Int → Int
  | [], _ => -1
  | w :: ws, n => if e w = true then n else fnW e ws (n + 1)
theorem WDS_f : WDS = flW CWL := by decide +kernel
theorem RWD_f : RWD = 32 :: flW RWL := by decide +kernel
def okW (ws : List (List Int)) : Prop := ∀ w ∈ ws, w ≠ [] ∧ ∀ c ∈ w, c ≠ 32
theorem CWL_ok : okW CWL := by unfold okW; decide +kernel
theorem RWL_ok : okW RWL := by unfold okW; decide +kernel
theorem dr_c {l r : List Int} {q : Nat} {c : Int} (h : l.drop q = c :: r) : l.getD q 0 = c ∧ q < l.length ∧ l.drop (q + 1) = r := by
  have hq : q < l.length := by
    rcases Nat.lt_or_ge q l.length with x | x
    · exact x
    · rw [List.drop_eq_nil_of_le x] at h; cases h
  have h2 := List.drop_eq_getElem_cons hq
  rw [h] at h2
  injection h2 with h3 h4
  refine ⟨?_, hq, h4.symm⟩
  rw [h3]
  simp [List.getD, hq]
theorem kw_scan {bs : List Int} {fr : Int} {to : Nat} {rest : List Int} : ∀ (v : List Int) (p k : Nat) (kd sm : Int), WDS.drop p = v ++ 32 :: rest → (∀ c ∈ v, c ≠ 32) → -1 ≤ sm → kwL bs fr (to : Int) (v.length + 1 + k) p kd sm = (if ¬ sm = -1 ∧ mtW bs to sm.toNat v = true ∧ sm + v.length = (to : Int) then kd else kwL bs fr (to : Int) k (p + v.length + 1) (kd + 1) fr)
  | [], p, k, kd, sm, h, _, h0 => by
    obtain ⟨e, _, _⟩ := dr_c h
    rw [show ([] : List Int).length + 1 + k = k + 1 by simp; omega]
    show (if WDS.getD p 0 = 32 then (if sm = (to : Int) then kd else kwL bs fr (to : Int) k (p + 1) (kd + 1) fr) else _) = _
    rw [if_pos e]
    rcases Classical.em (sm = (to : Int)) with q | q
    · rw [if_pos q, if_pos ⟨by omega, rfl, by show sm + 0 = _; omega⟩]
    · rw [if_neg q, if_neg (fun r => q (by have r3 : sm + ((0 : Nat) : Int) = (to : Int) := r.2.2; omega))]
      rfl
  | c :: v, p, k, kd, sm, h, hc, h0 => by
    obtain ⟨e, _, e2⟩ := dr_c h
    have hc0 := hc c (List.mem_cons_self ..)
    rw [show (c :: v).length + 1 + k = (v.length + 1 + k) + 1 by rw [List.length_cons]; omega]
    show (if WDS.getD p 0 = 32 then _ else kwL bs fr (to : Int) (v.length + 1 + k) (p + 1) kd (if sm = -1 then -1 else if sm < (to : Int) ∧ bs.getD sm.toNat 0 = WDS.getD p 0 then sm + 1 else -1)) = _
    rw [if_neg (by rw [e]; exact hc0)]
    have hcv : ∀ x ∈ v, x ≠ 32 := fun x hx => hc x (List.mem_cons_of_mem _ hx)
    have hp : p + 1 + v.length + 1 = p + (c :: v).length + 1 := by rw [List.length_cons]; omega
    have hm : mtW bs to sm.toNat (c :: v) = (decide (sm.toNat < to ∧ bs.getD sm.toNat 0 = c) && mtW bs to (sm.toNat + 1) v) := rfl
    rcases Classical.em (sm = -1) with q | q
    · rw [if_pos q, kw_scan v (p + 1) k kd (-1) e2 hcv (by omega), if_neg (fun r => r.1 rfl), if_neg (fun r => r.1 q), hp]
    · rw [if_neg q, e]
      rcases Classical.em (sm < (to : Int) ∧ bs.getD sm.toNat 0 = c) with r | r
      · rw [if_pos r, kw_scan v (p + 1) k kd (sm + 1) e2 hcv (by omega), hp]
        have hd : decide (sm.toNat < to ∧ bs.getD sm.toNat 0 = c) = true := decide_eq_true ⟨by omega, r.2⟩
        rw [hm, hd, Bool.true_and, show (sm + 1).toNat = sm.toNat + 1 by omega]
        rcases Classical.em (mtW bs to (sm.toNat + 1) v = true ∧ sm + 1 + (v.length : Int) = (to : Int)) with x | x
        · rw [if_pos ⟨by omega, x.1, x.2⟩, if_pos ⟨q, x.1, by rw [List.length_cons]; omega⟩]
        · rw [if_neg (fun y => x y.2), if_neg (fun y => x ⟨y.2.1, by have := y.2.2; rw [List.length_cons] at this; omega⟩)]
      · rw [if_neg r, kw_scan v (p + 1) k kd (-1) e2 hcv (by omega), if_neg (fun y => y.1 rfl), hp]
        have hd : decide (sm.toNat < to ∧ bs.getD sm.toNat 0 = c) = false := decide_eq_false (fun y => r ⟨by omega, y.2⟩)
        rw [if_neg (fun y => by rw [hm, hd] at y; exact absurd y.2.1 (by simp))]
theorem kw_ws {bs : List Int} {i j : Nat} : ∀ (ws : List (List Int)) (p : Nat) (kd : Int), WDS.drop p = flW ws → okW ws → 0 ≤ kd → kwL bs (i : Int) (j : Int) (flW ws).length p kd (i : Int) = (if fnW (eqW bs i j) ws kd = -1 then 257 else fnW (eqW bs i j) ws kd)
  | [], p, kd, h, _, _ => rfl
  | w :: ws, p, kd, h, hk, h0 => by
    have hf : flW (w :: ws) = w ++ 32 :: flW ws := by unfold flW; simp
    have hw := hk w (List.mem_cons_self ..)
    have hl : (flW (w :: ws)).length = w.length + 1 + (flW ws).length := by rw [hf, List.length_append, List.length_cons]; omega
    rw [hf] at h
    rw [hl, kw_scan w p (flW ws).length kd (i : Int) h hw.2 (by omega)]
    have hfn : fnW (eqW bs i j) (w :: ws) kd = if eqW bs i j w = true then kd else fnW (eqW bs i j) ws (kd + 1) := rfl
    have he : eqW bs i j w = true ↔ (mtW bs j i w = true ∧ (i : Int) + (w.length : Int) = (j : Int)) := by
      unfold eqW
      rw [Bool.and_eq_true, decide_eq_true_eq]
      exact ⟨fun x => ⟨x.1, by omega⟩, fun x => ⟨x.1, by omega⟩⟩
    rw [hfn]
    rcases Classical.em (eqW bs i j w = true) with q | q
    · rw [if_pos ⟨by omega, by rw [show (i : Int).toNat = i by omega]; exact (he.mp q).1, (he.mp q).2⟩, if_pos q, if_neg (by omega)]
    · rw [if_neg (fun x => q (he.mpr ⟨by have := x.2.1; rw [show (i : Int).toNat = i by omega] at this; exact this, x.2.2⟩)), if_neg q]
      have hd : WDS.drop (p + w.length + 1) = flW ws := by
        rw [show p + w.length + 1 = p + (w.length + 1) by omega, ← List.drop_drop, h, show w ++ 32 :: flW ws = (w ++ [32]) ++ flW ws by simp, List.drop_left' (by simp)]
      exact kw_ws ws _ _ hd (fun v hv => hk v (List.mem_cons_of_mem _ hv)) (by omega)
theorem kwF_e {bs : List Int} {i j : Nat} : kwF bs i j = (if fnW (eqW bs i j) CWL 300 = -1 then 257 else fnW (eqW bs i j) CWL 300) := by
  have h := kw_ws (bs := bs) (i := i) (j := j) CWL 0 300 (by rw [List.drop_zero]; exact WDS_f) CWL_ok (by omega)
  rw [show (flW CWL).length = 158 by decide +kernel] at h
  exact h
theorem mtW_u {bs : List Int} {j : Nat} : ∀ (v w : List Int) (i : Nat), mtW bs j i v = true → mtW bs j i w = true → v.length = w.length → v = w
  | [], [], _, _, _, _ => rfl
  | [], _ :: _, _, _, _, h => by cases h
  | _ :: _, [], _, _, _, h => by cases h
  | c :: v, d :: w, i, h1, h2, h => by
    unfold mtW at h1 h2
    rw [Bool.and_eq_true, decide_eq_true_eq] at h1 h2
    rw [← h1.1.2, ← h2.1.2, mtW_u v w (i + 1) h1.2 h2.2 (by rw [List.length_cons, List.length_cons] at h; omega)]
theorem eqW_u {bs : List Int} {i j : Nat} {v w : List Int} (h1 : eqW bs i j v = true) (h2 : eqW bs i j w = true) : v = w := by
  unfold eqW at h1 h2
  rw [Bool.and_eq_true, decide_eq_true_eq] at h1 h2
  exact mtW_u v w i h1.1 h2.1 (by omega)
theorem fnW_c {e e2 : List Int → Bool} : ∀ (ws : List (List Int)) (n : Int), (∀ w ∈ ws, e w = e2 w) → fnW e ws n = fnW e2 ws n
  | [], _, _ => rfl
  | w :: ws, n, h => by
    unfold fnW
    rw [h w (List.mem_cons_self ..), fnW_c ws (n + 1) (fun v hv => h v (List.mem_cons_of_mem _ hv))]
theorem fnW_n {e : List Int → Bool} : ∀ (ws : List (List Int)) (n : Int), (∀ w ∈ ws, e w = false) → fnW e ws n = -1
  | [], _, _ => rfl
  | w :: ws, n, h => by
    unfold fnW
    rw [if_neg (by rw [h w (List.mem_cons_self ..)]; simp)]
    exact fnW_n ws (n + 1) (fun v hv => h v (List.mem_cons_of_mem _ hv))
def WMP : List Int := [0, 1, 17, 2, 3, 4, 5, 6, 7, 8, 9, 10, 11, 12, 13, 14, 15, 16, 18, 19, 20, 21, 22, 25, 29, 30, 23, 24, 26, 27, 28]
def wmp (k : Int) : Int := WMP.getD (k - 300).toNat 0
theorem W_all : ∀ w ∈ CWL, fnW (fun v => decide (v = w)) RWL 0 = wmp (fnW (fun v => decide (v = w)) CWL 300) ∧ 300 ≤ fnW (fun v => decide (v = w)) CWL 300 ∧ fnW (fun v => decide (v = w)) CWL 300 ≤ 330 := by decide +kernel
theorem W_sub : ∀ w ∈ RWL, w ∈ CWL := by decide +kernel
theorem W_rel {bs : List Int} {i j : Nat} : (fnW (eqW bs i j) CWL 300 = -1 ∧ fnW (eqW bs i j) RWL 0 = -1) ∨ (300 ≤ fnW (eqW bs i j) CWL 300 ∧ fnW (eqW bs i j) CWL 300 ≤ 330 ∧ fnW (eqW bs i j) RWL 0 = wmp (fnW (eqW bs i j) CWL 300)) := by
  rcases Classical.em (∃ w ∈ CWL, eqW bs i j w = true) with ⟨w, hw, he⟩ | h
  · right
    have hc : ∀ v : List Int, eqW bs i j v = decide (v = w) := fun v => by
      rcases Classical.em (v = w) with q | q
      · rw [q, he]; simp
      · rw [decide_eq_false q]
        cases hh : eqW bs i j v with
        | false => rfl
        | true => exact absurd (eqW_u hh he) q
    rw [fnW_c CWL 300 (fun v _ => hc v), fnW_c RWL 0 (fun v _ => hc v)]
    obtain ⟨a, b, c⟩ := W_all w hw
    exact ⟨b, c, a⟩
  · left
    have hf : ∀ w ∈ CWL, eqW bs i j w = false := fun w hw => by
      cases hh : eqW bs i j w with
      | false => rfl
      | true => exact absurd ⟨w, hw, hh⟩ h
    exact ⟨fnW_n _ _ hf, fnW_n _ _ (fun w hw => hf w (W_sub w hw))⟩
