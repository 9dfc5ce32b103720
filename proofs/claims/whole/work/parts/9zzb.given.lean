/-! The start's premises, in the words of the memory. -/
def d0 (xs : Nat → Int32) : KK := fun a j => match a with
  | 0 => (xs j).toInt
  | 3 => WDS.getD j 0
  | 4 => SGS.getD j 0
  | _ => 0
theorem d0_S (xs : Nat → Int32) : StrD (d0 xs) := ⟨fun _ _ => rfl, fun _ _ => rfl, rfl, rfl⟩
theorem d0_b0 : ∀ j, j < 158 → WDS.getD j 0 = ((xbyt.getD 0 []).getD j 0).toInt := by decide +kernel
theorem d0_b1 : ∀ j, j < 10 → SGS.getD j 0 = ((xbyt.getD 1 []).getD j 0).toInt := by decide +kernel
theorem gd_out {l : List Int} {j : Nat} (h : l.length ≤ j) : l.getD j 0 = 0 := by rw [List.getD_eq_getElem?_getD, List.getElem?_eq_none h]; rfl
theorem d0_ok (xs : Nat → Int32) (a j : Nat) : xok (d0 xs a j) := by
  match a with
  | 0 => exact xok_to _
  | 1 => exact xok_0
  | 2 => exact xok_0
  | 3 =>
    show xok (WDS.getD j 0)
    rcases Nat.lt_or_ge j 158 with q | q
    · have h := WDS_b j q
      exact ⟨by omega, by omega⟩
    · rw [gd_out (show WDS.length ≤ j from q)]
      exact xok_0
  | 4 =>
    show xok (SGS.getD j 0)
    rcases Nat.lt_or_ge j 10 with q | q
    · have h := SGS_b j q
      exact ⟨by omega, by omega⟩
    · rw [gd_out (show SGS.length ≤ j from q)]
      exact xok_0
  | a + 5 => exact xok_0
theorem d0_M {L : Nat} (xs : Nat → Int32) : xMx L xs (b5 L, R00, d0 xs) := by
  refine ⟨⟨rfl, rfl, rfl, rfl, rfl⟩, fun j _ => rfl, ⟨rfl, rfl⟩, ⟨rfl, rfl⟩, fun i j hi hj => ?_⟩
  rcases (show i = 0 ∨ i = 1 by omega) with e | e
  · subst e
    exact d0_b0 j hj
  · subst e
    exact d0_b1 j hj
/-! the words of the tables, by their places -/
def xinsB : Bool := (List.range 13).all (fun ci => match vwCl[ci]? with
  | some q => decide (lw_tbl[xcp1 ci]? = some (.instantiable q.1 q.2.2))
  | none => false)
set_option maxRecDepth 100000 in
theorem xins_ok : xinsB = true := by decide +kernel
theorem xins {ci : Nat} {q : vw_C} (h : vwCl[ci]? = some q) : Cond.instantiable q.1 q.2.2 ∈ lw_tbl := by
  have hl : ci < 13 := (List.getElem?_eq_some_iff.mp h).1
  have h1 := List.all_eq_true.mp xins_ok ci (List.mem_range.mpr hl)
  rw [h] at h1
  exact List.mem_of_getElem? (of_decide_eq_true h1)
set_option maxRecDepth 100000 in
theorem xw_csL : Cond.laysStatic "java/lang/String" "COMPACT_STRINGS" "Z" ∈ lw_tbl := List.mem_of_getElem? (i := 718) (by decide +kernel)
set_option maxRecDepth 100000 in
theorem xw_si : Cond.initialized "java/lang/String" ∈ lw_tbl := List.mem_of_getElem? (i := 155) (by decide +kernel)
set_option maxRecDepth 100000 in
theorem xw_pf : Cond.laysStatic "jdk/internal/util/Preconditions" "SIOOBE_FORMATTER" "Ljava/util/function/BiFunction;" ∈ lw_tbl := List.mem_of_getElem? (i := 734) (by decide +kernel)
set_option maxRecDepth 100000 in
theorem xw_pi : Cond.initialized "jdk/internal/util/Preconditions" ∈ lw_tbl := List.mem_of_getElem? (i := 157) (by decide +kernel)
set_option maxRecDepth 100000 in
theorem xw_t1 : Cond.stringRef "LockWives$Tape" 89 (xtx 1).2 ∈ lw_tbl := List.mem_of_getElem? (i := 708) (by decide +kernel)
set_option maxRecDepth 100000 in
theorem xw_t2 : Cond.stringRef "LockWives$Tape" 60 (xtx 2).2 ∈ lw_tbl := List.mem_of_getElem? (i := 768) (by decide +kernel)
/-! the parts of the given start, by their places -/
def gvnC : Cond := Jvm.Cond.and given_1 narrow_1
def xtm (i : Nat) : Term := bif Nat.beq i 0 then .string "LockWives$Tape" 89 else .string "LockWives$Tape" 60
def gvl (i : Nat) : Nat := bif Nat.beq i 0 then 9 else 171
def gvB : Bool := (List.range 2).all (fun i => decide ((flatC gvnC)[gvl i]? = some (Cond.exactly (xtm i) "java/lang/String")) && (decide ((flatC gvnC)[gvl i + 1]? = some (Cond.eq (.field (xtm i) "java/lang/String" "coder" "B") (.int 0))) && (decide ((flatC gvnC)[gvl i + 2]? = some (Cond.arrayOf (.field (xtm i) "java/lang/String" "value" "[B") .byte)) && (decide ((flatC gvnC)[gvl i + 3]? = some (Cond.eq (.length (.field (xtm i) "java/lang/String" "value" "[B")) (.int (Int32.ofNat ([158, 10].getD i 0))))) && (List.range ([158, 10].getD i 0)).all (fun j => decide ((flatC gvnC)[gvl i + 4 + j]? = some (Cond.eq (.elem (.field (xtm i) "java/lang/String" "value" "[B") (.int (Int32.ofNat j))) (.int ((xbyt.getD i []).getD j 0)))))))))
set_option maxRecDepth 100000 in
theorem gvB_ok : gvB = true := by decide +kernel
set_option maxRecDepth 100000 in
theorem gv_cs : Cond.eq (.static "java/lang/String" "COMPACT_STRINGS" "Z") (.int 1) ∈ flatC gvnC := List.mem_of_getElem? (i := 4) (by decide +kernel)
set_option maxRecDepth 100000 in
theorem gv_pf : Cond.isRef (.static "jdk/internal/util/Preconditions" "SIOOBE_FORMATTER" "Ljava/util/function/BiFunction;") ∈ flatC gvnC := List.mem_of_getElem? (i := 5) (by decide +kernel)
set_option maxRecDepth 100000 in
theorem gv_ne : Cond.not (Cond.eq (xtm 0) (xtm 1)) ∈ flatC gvnC := List.mem_of_getElem? (i := 185) (by decide +kernel)
theorem gv_S {s : State} {args : Array Value} {A : Nat → Prop} (hs : ∀ c ∈ flatC gvnC, c.before args s = true) (hA : ∀ a : Nat, a < s.heap.size → ¬ A a) : ∃ adK adV : Nat → Nat, vk_S 2 [158, 10] xbyt adK adV A s s.heap ∧ ∀ i : Nat, i < 2 → (xtm i).eval args s none [] s = some (.ref (adK i)) := by
  have h := fun i (hi : i < 2) => List.all_eq_true.mp gvB_ok i (List.mem_range.mpr hi)
  simp only [Bool.and_eq_true, decide_eq_true_eq, List.all_eq_true, List.mem_range] at h
  refine vk_Sof (tm := xtm) (fun i hi => ?_) (fun i hi => hs _ (List.mem_of_getElem? (h i hi).1)) (fun i hi => hs _ (List.mem_of_getElem? (h i hi).2.1)) (fun i hi => hs _ (List.mem_of_getElem? (h i hi).2.2.1)) (fun i hi => hs _ (List.mem_of_getElem? (h i hi).2.2.2.1)) (fun i hi j hj => hs _ (List.mem_of_getElem? ((h i hi).2.2.2.2 j hj))) (fun i j hi hj hij => ?_) hA
  · rcases (show i = 0 ∨ i = 1 by omega) with e | e <;> subst e <;> decide
  · rcases (show i = 0 ∧ j = 1 ∨ i = 1 ∧ j = 0 by omega) with ⟨e1, e2⟩ | ⟨e1, e2⟩
    · subst e1
      subst e2
      exact Or.inl (hs _ gv_ne)
    · subst e1
      subst e2
      exact Or.inr (hs _ gv_ne)
theorem xsl_S {L : Nat} : xsl (xS L) = L + xsl xS0 := by
  show ((20, L) :: xS0 |>.map (fun q => q.2)).sum = L + (xS0.map (fun q => q.2)).sum
  rw [List.map_cons, List.sum_cons]
set_option maxRecDepth 100000 in
theorem xsl_0 : xsl xS0 ≤ 100000 := by decide +kernel
set_option maxRecDepth 100000 in
theorem xS_len {L : Nat} : (xS L).length = 516 := by
  show xS0.length + 1 = 516
  rw [show xS0.length = 515 by decide +kernel]
