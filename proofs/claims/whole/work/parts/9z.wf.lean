/-! The tape's tokens are well formed. -/
theorem nb_0 {bs : List Int} {i : Nat} {v : Int} (h0 : 0 ≤ v) (h1 : v ≤ 9999) : 0 ≤ nuL bs 0 i v ∧ nuL bs 0 i v ≤ 9999 := ⟨h0, h1⟩
theorem nb_1 {bs : List Int} {i : Nat} {v : Int} (h0 : 0 ≤ v) (h1 : v ≤ 999) (hd : ∀ t, i ≤ t → t < i + 1 → dgP (bs.getD t 0)) : 0 ≤ nuL bs 1 i v ∧ nuL bs 1 i v ≤ 9999 := by
  have h2 := hd i (by omega) (by omega)
  have e : nuL bs 1 i v = nuL bs 0 (i + 1) (10 * v + bs.getD i 0 - 48) := by
    show nuL bs 0 (i + 1) (nrm (nrm (nrm (v * 10) + bs.getD i 0) - 48)) = _
    rw [nu_s h0 (by omega) h2.1 h2.2]
  rw [e]
  exact nb_0 (by omega) (by omega)
theorem nb_2 {bs : List Int} {i : Nat} {v : Int} (h0 : 0 ≤ v) (h1 : v ≤ 99) (hd : ∀ t, i ≤ t → t < i + 2 → dgP (bs.getD t 0)) : 0 ≤ nuL bs 2 i v ∧ nuL bs 2 i v ≤ 9999 := by
  have h2 := hd i (by omega) (by omega)
  have e : nuL bs 2 i v = nuL bs 1 (i + 1) (10 * v + bs.getD i 0 - 48) := by
    show nuL bs 1 (i + 1) (nrm (nrm (nrm (v * 10) + bs.getD i 0) - 48)) = _
    rw [nu_s h0 (by omega) h2.1 h2.2]
  rw [e]
  exact nb_1 (by omega) (by omega) (fun t q1 q2 => hd t (by omega) (by omega))
theorem nb_3 {bs : List Int} {i : Nat} {v : Int} (h0 : 0 ≤ v) (h1 : v ≤ 9) (hd : ∀ t, i ≤ t → t < i + 3 → dgP (bs.getD t 0)) : 0 ≤ nuL bs 3 i v ∧ nuL bs 3 i v ≤ 9999 := by
  have h2 := hd i (by omega) (by omega)
  have e : nuL bs 3 i v = nuL bs 2 (i + 1) (10 * v + bs.getD i 0 - 48) := by
    show nuL bs 2 (i + 1) (nrm (nrm (nrm (v * 10) + bs.getD i 0) - 48)) = _
    rw [nu_s h0 (by omega) h2.1 h2.2]
  rw [e]
  exact nb_2 (by omega) (by omega) (fun t q1 q2 => hd t (by omega) (by omega))
theorem nb_4 {bs : List Int} {i : Nat} {v : Int} (h0 : 0 ≤ v) (h1 : v ≤ 0) (hd : ∀ t, i ≤ t → t < i + 4 → dgP (bs.getD t 0)) : 0 ≤ nuL bs 4 i v ∧ nuL bs 4 i v ≤ 9999 := by
  have h2 := hd i (by omega) (by omega)
  have e : nuL bs 4 i v = nuL bs 3 (i + 1) (10 * v + bs.getD i 0 - 48) := by
    show nuL bs 3 (i + 1) (nrm (nrm (nrm (v * 10) + bs.getD i 0) - 48)) = _
    rw [nu_s h0 (by omega) h2.1 h2.2]
  rw [e]
  exact nb_3 (by omega) (by omega) (fun t q1 q2 => hd t (by omega) (by omega))
theorem nuF_b {bs : List Int} {i : Nat} (hi : i < bs.length) (hd : dgP (bs.getD i 0)) (h4 : rD bs (i + 1) - i ≤ 4) : 0 ≤ nuF bs i (rD bs (i + 1)) ∧ nuF bs i (rD bs (i + 1)) ≤ 9999 := by
  have hb := rD_b (bs := bs) (j := i + 1) (by omega)
  have hds : ∀ t, i ≤ t → t < i + (rD bs (i + 1) - i) → dgP (bs.getD t 0) := fun t q1 q2 => by
    rcases Nat.eq_or_lt_of_le q1 with e | e
    · rw [← e]; exact hd
    · exact rnD_d _ (i + 1) t (by omega) (by show t < rD bs (i + 1); omega)
  unfold nuF
  generalize rD bs (i + 1) - i = k at h4 hds
  have c : k = 0 ∨ k = 1 ∨ k = 2 ∨ k = 3 ∨ k = 4 := by omega
  rcases c with c | c | c | c | c <;> subst c
  · exact nb_0 (by omega) (by omega)
  · exact nb_1 (by omega) (by omega) hds
  · exact nb_2 (by omega) (by omega) hds
  · exact nb_3 (by omega) (by omega) hds
  · exact nb_4 (by omega) (by omega) hds
theorem wfL_k {t : Tk} {r : List Tk} (h : wfT t) (h2 : t.1 ≠ 258) (h3 : wfL r) : wfL (t :: r) := by
  cases r with
  | nil => exact h3.elim
  | cons u r => exact ⟨h, h2, h3⟩
theorem lx_wf {bs : List Int} : ∀ (m i : Nat), bs.length ≤ i + m → wfL (lx bs i) ∧ (lx bs i).length ≤ bs.length - i + 1 := by
  intro m
  induction m with
  | zero =>
    intro i hi
    rw [lx_e (by omega)]
    exact ⟨⟨Or.inl rfl, rfl⟩, by show 1 ≤ _; omega⟩
  | succ m ih =>
    intro i hi
    rcases Nat.lt_or_ge i bs.length with q | q
    · have h1 := rL_b (bs := bs) (j := i + 1) (by omega)
      have h2 := rD_b (bs := bs) (j := i + 1) (by omega)
      rw [lx_u q]
      split
      · have h3 := ih (rL bs (i + 1)) (by omega)
        have hk : kwF bs i (rL bs (i + 1)) = 257 ∨ (300 ≤ kwF bs i (rL bs (i + 1)) ∧ kwF bs i (rL bs (i + 1)) ≤ 330) := by
          rw [kwF_e]
          rcases W_rel (bs := bs) (i := i) (j := rL bs (i + 1)) with w | w
          · rw [if_pos w.1]; exact Or.inl rfl
          · rw [if_neg (by omega)]; exact Or.inr ⟨w.1, w.2.1⟩
        refine ⟨wfL_k ?_ ?_ h3.1, by show _ + 1 ≤ _; omega⟩
        · rcases hk with hk | hk
          · exact Or.inr (Or.inl hk)
          · exact Or.inr (Or.inr (Or.inr (Or.inl hk)))
        · show kwF bs i (rL bs (i + 1)) ≠ 258
          omega
      · split
        · rename_i _ hd
          have h3 := ih (rD bs (i + 1)) (by omega)
          refine ⟨wfL_k ?_ ?_ h3.1, by show _ + 1 ≤ _; omega⟩
          · split
            · exact Or.inr (Or.inr (Or.inl ⟨rfl, nuF_b q hd (by omega)⟩))
            · exact Or.inr (Or.inl rfl)
          · show (if (rD bs (i + 1) : Int) - (i : Int) ≤ 4 then (256 : Int) else 257) ≠ 258
            split <;> omega
        · have h3 := ih (i + 1) (by omega)
          split
          · exact ⟨h3.1, by omega⟩
          · refine ⟨wfL_k ?_ ?_ h3.1, by show _ + 1 ≤ _; omega⟩
            · split
              · rename_i hs; exact Or.inr (Or.inr (Or.inr (Or.inr hs)))
              · exact Or.inr (Or.inl rfl)
            · show (if sgP (bs.getD i 0) then bs.getD i 0 else 257) ≠ 258
              split
              · rename_i hs; unfold sgP at hs; omega
              · omega
    · rw [lx_e q]
      exact ⟨⟨Or.inl rfl, rfl⟩, by show 1 ≤ _; omega⟩
/-- the state in which a reading begins -/
def tp0 (bs : List Int) : Tt := (0, -1, lx bs 0)
