/-! What pleases: the reference. -/
def ixF (up pool : Int) (n : Nat) (j : Int) : Int := if up = 1 then pool + n - 1 - j else j - (pool - n)
theorem DS_lk {K : KK} {boat up pool : Int} {n : Nat} (h : DS K boat up pool (n + 1)) : lckF K (K 14 boat.toNat) up = (if up = 1 then pool + n else pool - (n + 1)) ∧ (up = 0 ∨ up = 1) := by
  obtain ⟨h1, h2, h3, h4⟩ := h
  unfold lckF
  rcases h1 with ⟨q1, q2⟩ | ⟨q1, q2⟩
  · rw [if_neg (show ¬ up = 0 by omega), if_pos q1]
    rw [if_pos ⟨by omega, by omega⟩]; omega
  · rw [if_pos q1, if_neg (show ¬ up = 1 by omega)]
    rw [if_pos ⟨by omega, by omega⟩]; omega
theorem zp_v {G Hh : LwF} {boat good up pool : Int} : ∀ (l : List Int) (K : KK), DS K boat up pool l.length → cmbB G Hh boat good up K l = true → ∀ j : Nat, gvn (zpL G Hh boat good up K l) (fun _ => 0) j = (if 0 ≤ ixF up pool l.length j then l.getD (ixF up pool l.length j).toNat 0 else 0)
  | [], K, _, _, j => by
    show (0 : Int) = _
    split <;> rfl
  | a :: r, K, hD, hc, j => by
    have hp : ¬ pasR (gvP K Hh boat good up a) G boat up (-1) < 0 := fun q => by
      unfold cmbB at hc
      rw [if_pos q] at hc
      cases hc
    have hc2 : cmbB G Hh boat good up (pasT (gvP K Hh boat good up a) G boat up (-1)) r = true := by
      unfold cmbB at hc
      rw [if_neg hp] at hc
      exact hc
    have hD' : DS K boat up pool (r.length + 1) := hD
    have hD2 := DS_s (G := G) (Hh := Hh) (good := good) (a := a) hD' hp
    obtain ⟨hk, hu⟩ := DS_lk hD'
    have ih := zp_v r _ hD2 hc2 j
    show fset (gvn (zpL G Hh boat good up _ r) (fun _ => 0)) (lckF K (K 14 boat.toNat) up).toNat a j = _
    have hl0 := (DS_l hD').1
    have e1 : ixF up pool (a :: r).length j = ixF up pool r.length j + 1 := by
      unfold ixF
      rw [List.length_cons]
      split <;> omega
    rw [e1]
    rcases Classical.em (j = (lckF K (K 14 boat.toNat) up).toNat) with q | q
    · have e0 : ixF up pool r.length j = -1 := by
        unfold ixF
        rcases hu with u | u
        · rw [if_neg (by omega)] at hk ⊢; omega
        · rw [if_pos u] at hk ⊢; omega
      rw [q, fset_s, ← q, e0]
      rfl
    · have e0 : ¬ ixF up pool r.length j = -1 := by
        unfold ixF
        rcases hu with u | u
        · rw [if_neg (by omega)] at hk ⊢; omega
        · rw [if_pos u] at hk ⊢; omega
      rw [fset_n q, ih]
      rcases Classical.em (0 ≤ ixF up pool r.length j) with s | s
      · rw [if_pos s, if_pos (by omega), show (ixF up pool r.length j + 1).toNat = (ixF up pool r.length j).toNat + 1 by omega]
        rfl
      · rw [if_neg s, if_neg (by omega)]
theorem rfwL_s {G Hh : LwF} {boat good up : Int} {K : KK} {N : Nat} : ∀ (k : Nat) (a : Int), 0 ≤ a → ((rfwL G Hh boat good up K N k a).1 = -1 ∧ (rfwL G Hh boat good up K N k a).2 = none) ∨ (0 ≤ (rfwL G Hh boat good up K N k a).1 ∧ ∃ l, (rfwL G Hh boat good up K N k a).2 = some l ∧ cmbB G Hh boat good up K l = true)
  | 0, _, _ => Or.inl ⟨rfl, rfl⟩
  | k + 1, a, h => by
    unfold rfwL
    split
    · rename_i l hl
      exact Or.inr ⟨h, l, rfl, List.find?_some hl⟩
    · exact rfwL_s k (a + 1) (by omega)
theorem few_0 {G Hh : LwF} {boat good pool : Int} {K : KK} (hI : KI K) (h : K 14 boat.toNat = pool) : fewF G Hh boat good pool K = (0, some []) := by
  have h17 := ki_17 hI (boat * 4 + good).toNat
  have hm := mnF_sp 6 (K 17 (boat * 4 + good).toNat)
  unfold fewF
  obtain ⟨k, hk⟩ : ∃ k, (mnF 6 (K 17 (boat * 4 + good).toNat) + 1).toNat = k + 1 := ⟨(mnF 6 (K 17 (boat * 4 + good).toNat)).toNat, by omega⟩
  rw [hk]
  unfold fewL
  have e : plsF G Hh boat good pool 9 K 0 = some [] := by
    unfold plsF
    rw [if_pos h, if_pos rfl]
  rw [e]
