/-! Presents: the search by depth finds what the rows of amounts, one after another, find. -/
def cpA (rec : Int → List (List Int)) (s : Int) : Nat → Int → List (List Int)
  | 0, _ => []
  | k + 1, a => (rec (s - a)).map (List.cons a) ++ cpA rec s k (a + 1)
def cps : Nat → Int → List (List Int)
  | 0, s => if s = 0 then [[]] else []
  | n + 1, s => cpA (cps n) s (s + 1).toNat 0
def gvP (K : KK) (Hh : LwF) (boat good up a : Int) : KK := if a ≤ 0 then K else givK K Hh boat good a (lckF K (K 14 boat.toNat) up)
def cmbB (G Hh : LwF) (boat good up : Int) : KK → List Int → Bool
  | _, [] => true
  | K, a :: r => if pasR (gvP K Hh boat good up a) G boat up (-1) < 0 then false else cmbB G Hh boat good up (pasT (gvP K Hh boat good up a) G boat up (-1)) r
def zpL (G Hh : LwF) (boat good up : Int) : KK → List Int → List (Int × Int)
  | _, [] => []
  | K, a :: r => (lckF K (K 14 boat.toNat) up, a) :: zpL G Hh boat good up (pasT (gvP K Hh boat good up a) G boat up (-1)) r
/-- so far it is to the pool -/
def DS (K : KK) (boat up pool : Int) (n : Nat) : Prop := ((up = 1 ∧ K 14 boat.toNat = pool + n) ∨ (up = 0 ∧ K 14 boat.toNat = pool - n)) ∧ (0 ≤ pool ∧ pool ≤ K 0 0) ∧ K 14 boat.toNat ≤ K 0 0 ∧ 0 ≤ K 14 boat.toNat
theorem DS_l {K : KK} {boat up pool : Int} {n : Nat} (h : DS K boat up pool (n + 1)) : (0 ≤ lckF K (K 14 boat.toNat) up ∧ lckF K (K 14 boat.toNat) up < K 0 0) ∧ (lckF K (K 14 boat.toNat) up = K 14 boat.toNat ∨ lckF K (K 14 boat.toNat) up + 1 = K 14 boat.toNat) ∧ upP K boat pool = up ∧ ¬ K 14 boat.toNat = pool := by
  obtain ⟨h1, h2, h3, h4⟩ := h
  unfold lckF upP
  rcases h1 with ⟨q1, q2⟩ | ⟨q1, q2⟩
  · rw [if_neg (show ¬ up = 0 by omega), if_pos ⟨by omega, by omega⟩, if_pos (by omega)]; omega
  · rw [if_pos q1, if_pos ⟨by omega, by omega⟩, if_neg (by omega)]; omega
theorem gvP_e {K : KK} {Hh : LwF} {boat good up a : Int} (ha : 0 ≤ a) (hc : a = 0 ∨ canF K boat good a (lckF K (K 14 boat.toNat) up)) : prsK K Hh boat good a (lckF K (K 14 boat.toNat) up) = gvP K Hh boat good up a := by
  unfold prsK gvP givT
  rcases hc with q | q
  · rw [if_pos q, if_pos (by omega)]
  · have q1 : 1 ≤ a := q.2.2.2.2.1.1
    rw [if_neg (show ¬ a = 0 by omega), if_neg (show ¬ a ≤ 0 by omega), if_pos q]
theorem gvP_k {K : KK} {Hh : LwF} {boat good up a : Int} {o j : Nat} (h : o ≠ 8 ∧ o ≠ 10 ∧ o ≠ 12 ∧ o ≠ 17) : gvP K Hh boat good up a o j = K o j := by
  unfold gvP
  split
  · rfl
  · exact givK_k h
theorem gvP_17 {K : KK} {Hh : LwF} {boat good up a : Int} (ha : 0 ≤ a) : gvP K Hh boat good up a 17 (boat * 4 + good).toNat = K 17 (boat * 4 + good).toNat - a := by
  unfold gvP
  split
  · have : a = 0 := by omega
    omega
  · exact givK_17
theorem gvP_I {K : KK} {Hh : LwF} {boat good up a : Int} (h : KI K) (hc : a ≤ 0 ∨ canF K boat good a (lckF K (K 14 boat.toNat) up)) : KI (gvP K Hh boat good up a) := by
  unfold gvP
  split
  · exact h
  · exact givK_I h (hc.resolve_left (by assumption))
theorem DS_s {K : KK} {G Hh : LwF} {boat good up pool a : Int} {n : Nat} (h : DS K boat up pool (n + 1)) (hp : ¬ pasR (gvP K Hh boat good up a) G boat up (-1) < 0) : DS (pasT (gvP K Hh boat good up a) G boat up (-1)) boat up pool n := by
  have h0 : refF (gvP K Hh boat good up a) G boat up (-1) = 0 := Classical.not_not.mp (fun q => hp (pasR_lt.mpr q))
  have h1 := refF_0 h0
  have h2 := lck_e h1.2.1.1
  have h3 : pasT (gvP K Hh boat good up a) G boat up (-1) = pasK (gvP K Hh boat good up a) boat up (-1) := if_pos h0
  have h4 := pasT_k (K := gvP K Hh boat good up a) (G := G) (boat := boat) (up := up) (wth := -1) (o := 0) (Or.inl rfl)
  have h5 : gvP K Hh boat good up a 0 0 = K 0 0 := gvP_k (by omega)
  have h6 : gvP K Hh boat good up a 14 boat.toNat = K 14 boat.toNat := gvP_k (by omega)
  obtain ⟨a1, a2, a3, a4⟩ := h
  unfold DS
  rw [h4, h3, pasK_14, h5]
  rw [h6] at h2 ⊢
  rw [h5] at h2
  rcases a1 with ⟨q1, q2⟩ | ⟨q1, q2⟩
  · rw [if_neg (by omega)]; omega
  · rw [if_pos q1]; omega
theorem find_map {p : List Int → Bool} {a : Int} : ∀ l : List (List Int), (l.map (List.cons a)).find? p = (l.find? (fun r => p (a :: r))).map (List.cons a)
  | [] => rfl
  | x :: l => by
    rw [List.map_cons, List.find?_cons, List.find?_cons]
    cases h : p (a :: x) with
    | true => rfl
    | false => exact find_map l
theorem find_no {p : List Int → Bool} : ∀ l : List (List Int), (∀ x, p x = false) → l.find? p = none
  | [], _ => rfl
  | x :: l, h => by rw [List.find?_cons, h x]; exact find_no l h
theorem pls_A {G Hh : LwF} {boat good up pool : Int} {n d : Nat} {K : KK} (hI : KI K) (hb : 0 ≤ boat ∧ boat < K 13 0) (hg : 0 ≤ good ∧ good ≤ 3) (hD : DS K boat up pool (n + 1)) (left : Int) (hl : left ≤ K 17 (boat * 4 + good).toNat) (ih : ∀ (L : KK) (l2 : Int), KI L → (0 ≤ boat ∧ boat < L 13 0) → DS L boat up pool n → 0 ≤ l2 → l2 ≤ L 17 (boat * 4 + good).toNat → plsF G Hh boat good pool d L l2 = ((cps n l2).find? (cmbB G Hh boat good up L)).map (zpL G Hh boat good up L)) : ∀ (k : Nat) (a : Int), 0 ≤ a → a + k = left + 1 → plsA G Hh boat good (plsF G Hh boat good pool d) K (lckF K (K 14 boat.toNat) up) up left k a = ((cpA (cps n) left k a).find? (cmbB G Hh boat good up K)).map (zpL G Hh boat good up K)
  | 0, _, _, _ => rfl
  | k + 1, a, h0, h1 => by
    have hd := DS_l hD
    have h17 := ki_17 hI (boat * 4 + good).toNat
    have hc : a = 0 ∨ canF K boat good a (lckF K (K 14 boat.toNat) up) := by
      rcases Classical.em (a = 0) with q | q
      · exact Or.inl q
      · exact Or.inr ⟨hb, hd.1, hg, hd.2.1, ⟨by omega, by omega⟩, by omega⟩
    have hr := pls_A hI hb hg hD left hl ih k (a + 1) (by omega) (by omega)
    have hcp : cpA (cps n) left (k + 1) a = ((cps n (left - a)).map (List.cons a)) ++ cpA (cps n) left k (a + 1) := rfl
    rw [hcp, List.find?_append, find_map]
    unfold plsA
    rw [gvP_e h0 hc]
    rcases Classical.em (pasR (gvP K Hh boat good up a) G boat up (-1) < 0) with q | q
    · rw [if_neg (fun r => r.2 q), find_no (p := fun r => cmbB G Hh boat good up K (a :: r)) _ (fun x => if_pos q), hr]
      rfl
    · rw [if_pos ⟨hc, q⟩]
      have hI2 : KI (pasT (gvP K Hh boat good up a) G boat up (-1)) := pasT_I (gvP_I hI (hc.elim (fun r => Or.inl (by omega)) Or.inr))
      have hx := ih (pasT (gvP K Hh boat good up a) G boat up (-1)) (left - a) hI2 (by rw [pasT_k (Or.inr rfl), gvP_k (by omega)]; exact hb) (DS_s hD q) (by omega) (by rw [pasT_17, gvP_17 h0]; omega)
      have hf : (fun r => cmbB G Hh boat good up K (a :: r)) = cmbB G Hh boat good up (pasT (gvP K Hh boat good up a) G boat up (-1)) := funext (fun r => if_neg q)
      rw [hf, hx]
      cases hq : (cps n (left - a)).find? (cmbB G Hh boat good up (pasT (gvP K Hh boat good up a) G boat up (-1))) with
      | none => exact hr
      | some r => rfl
theorem pls_find {G Hh : LwF} {boat good up pool : Int} (hg : 0 ≤ good ∧ good ≤ 3) : ∀ (n d : Nat) (K : KK) (left : Int), n ≤ d → KI K → (0 ≤ boat ∧ boat < K 13 0) → DS K boat up pool n → 0 ≤ left → left ≤ K 17 (boat * 4 + good).toNat → plsF G Hh boat good pool d K left = ((cps n left).find? (cmbB G Hh boat good up K)).map (zpL G Hh boat good up K)
  | 0, d, K, left, h1, hI, hb, hD, h0, hl => by
    have e : K 14 boat.toNat = pool := by have := hD.1; omega
    have e2 : plsF G Hh boat good pool d K left = if left = 0 then some [] else none := by
      cases d with
      | zero => exact if_pos e
      | succ d => exact if_pos e
    rw [e2]
    unfold cps
    split
    · rfl
    · rfl
  | n + 1, 0, K, left, h1, hI, hb, hD, h0, hl => by omega
  | n + 1, d + 1, K, left, h1, hI, hb, hD, h0, hl => by
    have hd := DS_l hD
    unfold plsF
    rw [if_neg hd.2.2.2, hd.2.2.1, if_neg (show ¬ lckF K (K 14 boat.toNat) up = -1 by omega)]
    exact pls_A hI hb hg hD left hl (fun L l2 q1 q2 q3 q4 q5 => pls_find hg n d L l2 (by omega) q1 q2 q3 q4 q5) (left + 1).toNat 0 (by omega) (by omega)
