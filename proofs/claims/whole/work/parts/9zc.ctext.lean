/-! A text is read: the class. -/
theorem wfL_m : ∀ {l : List Tk} {t : Tk}, wfL l → t ∈ l → wfT t
  | [], _, h, _ => h.elim
  | u :: r, t, h, ht => by
    obtain ⟨h1, h2⟩ := wfL_c h
    rcases List.mem_cons.mp ht with e | e
    · rw [e]; exact h1
    · rcases h2 with ⟨e2, _⟩ | ⟨_, h3, _⟩
      · rw [e2] at e; cases e
      · exact wfL_m h3 e
theorem wfT_b {t : Tk} (h : wfT t) : 0 ≤ t.1 ∧ t.1 ≤ 400 := by
  rcases h with h | h | h | h | h
  · omega
  · omega
  · omega
  · omega
  · unfold sgP at h; omega
theorem TS_0 {bs : List Int} {D : KK} (hl4 : bs.length ≤ 400) (h1 : D 474 1 = 0) (h2 : D 474 2 = -1) (h3 : D 474 8 = 0) (h4 : TkC (lexL bs bs.length 0) D) : TS (lx bs 0) (tp0 bs) D := by
  have w := lx_wf (bs := bs) bs.length 0 (by omega)
  refine ⟨h1, h2, ⟨0, rfl, h3⟩, ?_, h4, by have := w.2; omega, fun j => ?_⟩
  · intro e
    have e2 : lx bs 0 = [] := e
    rw [e2] at w
    exact w.1
  · show 0 ≤ ((lx bs 0).getD j (0, 0, 0)).1 ∧ ((lx bs 0).getD j (0, 0, 0)).1 ≤ 400
    rcases Nat.lt_or_ge j (lx bs 0).length with q | q
    · have e : (lx bs 0).getD j (0, 0, 0) = (lx bs 0)[j] := by rw [List.getD_eq_getElem?_getD, List.getElem?_eq_getElem q]; rfl
      rw [e]
      exact wfT_b (wfL_m w.1 (List.getElem_mem q))
    · have e : (lx bs 0).getD j (0, 0, 0) = (0, 0, 0) := by rw [List.getD_eq_getElem?_getD, List.getElem?_eq_none q]; rfl
      rw [e]
      exact ⟨by decide, by decide⟩
theorem RF_xu {R : Nat → Nat → Option Nat} (h : ∀ a k, rV a k = false → R a k = rT a k) {a j i : Nat} {u v : Option Nat} (h1 : rV a j = true) (h2 : rV a i = true) : ∀ b k, rV b k = false → (xur (xur R a j u) a i v) b k = rT b k := fun b k q => by
  refine (if_neg (fun r => ?_)).trans ((if_neg (fun r => ?_)).trans (h b k q))
  · rw [r.1, r.2, h2] at q; cases q
  · rw [r.1, r.2, h1] at q; cases q
theorem RF_7 {R : Nat → Nat → Option Nat} {dr cd : Nat} (hR : RF R) (h5 : R 7 5 = some dr) (h3 : R 7 3 = some cd) : RF (xur (xur R 7 3 (some dr)) 7 5 (some cd)) := by
  refine ⟨RF_xu hR.1 rfl rfl, ?_, hR.2.2.1, hR.2.2.2⟩
  show (some dr = some 8 ∧ some cd = some 9) ∨ (some dr = some 9 ∧ some cd = some 8)
  rw [← h5, ← h3]
  rcases hR.2.1 with q | q
  · exact Or.inr ⟨q.2, q.1⟩
  · exact Or.inl ⟨q.2, q.1⟩
theorem RF_11 {R : Nat → Nat → Option Nat} {dr cd : Nat} (hR : RF R) (h5 : R 11 5 = some dr) (h3 : R 11 3 = some cd) : RF (xur (xur R 11 3 (some dr)) 11 5 (some cd)) := by
  refine ⟨RF_xu hR.1 rfl rfl, hR.2.1, ?_, hR.2.2.2⟩
  show (some dr = some 12 ∧ some cd = some 13) ∨ (some dr = some 13 ∧ some cd = some 12)
  rw [← h5, ← h3]
  rcases hR.2.2.1 with q | q
  · exact Or.inr ⟨q.2, q.1⟩
  · exact Or.inl ⟨q.2, q.1⟩
theorem RF_15 {R : Nat → Nat → Option Nat} {dr cd : Nat} (hR : RF R) (h5 : R 15 5 = some dr) (h3 : R 15 4 = some cd) : RF (xur (xur R 15 4 (some dr)) 15 5 (some cd)) := by
  refine ⟨RF_xu hR.1 rfl rfl, hR.2.1, hR.2.2.1, ?_⟩
  show (some dr = some 16 ∧ some cd = some 17) ∨ (some dr = some 17 ∧ some cd = some 16)
  rw [← h5, ← h3]
  rcases hR.2.2.2 with q | q
  · exact Or.inr ⟨q.2, q.1⟩
  · exact Or.inl ⟨q.2, q.1⟩
