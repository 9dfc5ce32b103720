/-! Rows of amounts follow each other. -/
def fsL : Nat → Int → List Int
  | 0, s => [s]
  | n + 1, s => 0 :: fsL n s
def nl : List Int → Option (List Int)
  | [] => none
  | a :: r => match r with
    | [] => none
    | b :: t => match nl (b :: t) with
      | some r2 => some (a :: r2)
      | none => if (b :: t).sum = 0 then none else some ((a + 1) :: fsL t.length ((b :: t).sum - 1))
def chE : List (List Int) → Option (List Int) → Prop
  | [], _ => False
  | x :: l, e => match l with
    | [] => nl x = e
    | y :: t => nl x = some y ∧ chE (y :: t) e
theorem chE_app {h : List Int} {t : List (List Int)} {e : Option (List Int)} (h2 : chE (h :: t) e) : ∀ l : List (List Int), chE l (some h) → chE (l ++ h :: t) e
  | [], q => q.elim
  | [x], q => ⟨q, h2⟩
  | x :: y :: l, q => ⟨q.1, chE_app h2 (y :: l) q.2⟩
theorem nl_c {a : Int} {r r2 : List Int} (h : nl r = some r2) : nl (a :: r) = some (a :: r2) := by
  cases r with
  | nil => cases h
  | cons b t =>
    show (match nl (b :: t) with | some r2 => some (a :: r2) | none => _) = _
    rw [h]
theorem nl_n {a s : Int} {n : Nat} {r : List Int} (h : nl r = none) (hs : r.sum = s) (hn : r.length = n + 1) : nl (a :: r) = if s = 0 then none else some ((a + 1) :: fsL n (s - 1)) := by
  cases r with
  | nil => cases hn
  | cons b t =>
    show (match nl (b :: t) with | some r2 => some (a :: r2) | none => if (b :: t).sum = 0 then none else some ((a + 1) :: fsL t.length ((b :: t).sum - 1))) = _
    rw [h, hs]
    have : t.length = n := by
      have : t.length + 1 = n + 1 := hn
      omega
    rw [this]
theorem chE_map {a s : Int} {n : Nat} : ∀ l : List (List Int), chE l none → (∀ r ∈ l, r.sum = s ∧ r.length = n + 1) → chE (l.map (List.cons a)) (if s = 0 then none else some ((a + 1) :: fsL n (s - 1)))
  | [], q, _ => q.elim
  | [x], q, h => nl_n q (h x (List.mem_singleton.mpr rfl)).1 (h x (List.mem_singleton.mpr rfl)).2
  | x :: y :: l, q, h => ⟨nl_c q.1, chE_map (y :: l) q.2 (fun r hr => h r (List.mem_cons_of_mem _ hr))⟩
theorem cps_1 : ∀ (k : Nat) (s a : Int), 0 ≤ a → a + k = s → cpA (cps 0) s (k + 1) a = [[s]]
  | 0, s, a, h0, h1 => by
    show (cps 0 (s - a)).map (List.cons a) ++ [] = _
    have e : s - a = 0 := by omega
    have e2 : a = s := by omega
    rw [e, e2]
    rfl
  | k + 1, s, a, h0, h1 => by
    show (cps 0 (s - a)).map (List.cons a) ++ cpA (cps 0) s (k + 1) (a + 1) = _
    rw [cps_1 k s (a + 1) (by omega) (by omega)]
    have e : cps 0 (s - a) = [] := if_neg (by omega)
    rw [e]
    rfl
def GoodL (l : List (List Int)) (n : Nat) (s : Int) : Prop := (∃ t, l = fsL n s :: t) ∧ chE l none ∧ ∀ r ∈ l, (r.sum = s ∧ r.length = n + 1) ∧ ∀ x ∈ r, 0 ≤ x
theorem cps_A {n : Nat} (ih : ∀ s : Int, 0 ≤ s → GoodL (cps (n + 1) s) n s) (s : Int) : ∀ (k : Nat) (a : Int), 0 ≤ a → a + k = s → (∃ t, cpA (cps (n + 1)) s (k + 1) a = (a :: fsL n (s - a)) :: t) ∧ chE (cpA (cps (n + 1)) s (k + 1) a) none ∧ ∀ r ∈ cpA (cps (n + 1)) s (k + 1) a, (r.sum = s ∧ r.length = n + 2) ∧ ∀ x ∈ r, 0 ≤ x
  | k, a, h0, h1 => by
    obtain ⟨⟨t, e1⟩, e2, e3⟩ := ih (s - a) (by omega)
    have hm := chE_map (a := a) _ e2 (fun r hr => (e3 r hr).1)
    have hmem : ∀ r ∈ (cps (n + 1) (s - a)).map (List.cons a), (r.sum = s ∧ r.length = n + 2) ∧ ∀ x ∈ r, 0 ≤ x := fun r hr => by
      obtain ⟨r2, q1, rfl⟩ := List.mem_map.mp hr
      have q2 := e3 r2 q1
      refine ⟨⟨by rw [List.sum_cons]; omega, by rw [List.length_cons]; omega⟩, fun x hx => ?_⟩
      rcases List.mem_cons.mp hx with rfl | q
      · exact h0
      · exact q2.2 x q
    cases k with
    | zero =>
      have e4 : cpA (cps (n + 1)) s (0 + 1) a = (cps (n + 1) (s - a)).map (List.cons a) := List.append_nil _
      rw [e4]
      have e5 : s - a = 0 := by omega
      rw [if_pos e5] at hm
      exact ⟨⟨t.map (List.cons a), by rw [e1]; rfl⟩, hm, hmem⟩
    | succ k =>
      have e4 : cpA (cps (n + 1)) s (k + 1 + 1) a = (cps (n + 1) (s - a)).map (List.cons a) ++ cpA (cps (n + 1)) s (k + 1) (a + 1) := rfl
      obtain ⟨⟨t2, f1⟩, f2, f3⟩ := cps_A ih s k (a + 1) (by omega) (by omega)
      rw [if_neg (show ¬ s - a = 0 by omega)] at hm
      rw [e4]
      refine ⟨⟨t.map (List.cons a) ++ cpA (cps (n + 1)) s (k + 1) (a + 1), by rw [e1]; rfl⟩, ?_, fun r hr => ?_⟩
      · rw [f1] at f2 ⊢
        refine chE_app f2 _ ?_
        rw [show s - (a + 1) = s - a - 1 by omega]
        exact hm
      · rcases List.mem_append.mp hr with q | q
        · exact hmem r q
        · exact f3 r q
theorem cps_G : ∀ (n : Nat) (s : Int), 0 ≤ s → GoodL (cps (n + 1) s) n s
  | 0, s, h => by
    have e : cps 1 s = [[s]] := by
      obtain ⟨k, hk⟩ : ∃ k : Nat, (s + 1).toNat = k + 1 := ⟨s.toNat, by omega⟩
      show cpA (cps 0) s (s + 1).toNat 0 = _
      rw [hk]
      exact cps_1 k s 0 (by omega) (by omega)
    rw [e]
    refine ⟨⟨[], rfl⟩, rfl, fun r hr => ?_⟩
    obtain rfl := List.mem_singleton.mp hr
    refine ⟨⟨by rw [List.sum_cons, List.sum_nil]; omega, rfl⟩, fun x hx => ?_⟩
    obtain rfl := List.mem_singleton.mp hx
    exact h
  | n + 1, s, h => by
    obtain ⟨k, hk⟩ : ∃ k : Nat, (s + 1).toNat = k + 1 := ⟨s.toNat, by omega⟩
    obtain ⟨⟨t, e1⟩, e2, e3⟩ := cps_A (cps_G n) s k 0 (by omega) (by omega)
    have e : cps (n + 2) s = cpA (cps (n + 1)) s (k + 1) 0 := by
      show cpA (cps (n + 1)) s (s + 1).toNat 0 = _
      rw [hk]
    rw [e]
    refine ⟨⟨t, ?_⟩, e2, e3⟩
    rw [e1, show s - 0 = s by omega]
    rfl
/-- the amounts from place p on, k of them -/
def sfx (f : Nat → Int) : Nat → Nat → List Int
  | 0, _ => []
  | k + 1, p => f p :: sfx f k (p + 1)
theorem sfx_len {f : Nat → Int} : ∀ k p, (sfx f k p).length = k
  | 0, _ => rfl
  | k + 1, p => by show (sfx f k (p + 1)).length + 1 = _; rw [sfx_len k]
theorem sfx_c {f g : Nat → Int} : ∀ k p, (∀ j, p ≤ j → j < p + k → f j = g j) → sfx f k p = sfx g k p
  | 0, _, _ => rfl
  | k + 1, p, h => by
    show f p :: sfx f k (p + 1) = g p :: sfx g k (p + 1)
    rw [h p (by omega) (by omega), sfx_c k (p + 1) (fun j q1 q2 => h j (by omega) (by omega))]
theorem sfx_i {f g : Nat → Int} : ∀ k p, sfx f k p = sfx g k p → ∀ j, p ≤ j → j < p + k → f j = g j
  | 0, _, _, j, h1, h2 => by omega
  | k + 1, p, h, j, h1, h2 => by
    have h3 : f p :: sfx f k (p + 1) = g p :: sfx g k (p + 1) := h
    obtain ⟨q1, q2⟩ := List.cons.inj h3
    rcases Classical.em (j = p) with rfl | q
    · exact q1
    · exact sfx_i k (p + 1) q2 j (by omega) (by omega)
theorem sfx_cmb {G Hh : LwF} {boat good up : Int} {sh : Nat → Int} : ∀ (k : Nat) (i : Nat) (K : KK), cmbL G Hh boat good up sh k (i : Int) K = cmbB G Hh boat good up K (sfx sh k i)
  | 0, _, _ => rfl
  | k + 1, i, K => by
    unfold cmbL
    show _ = (if _ then _ else _)
    rw [show (i : Int) + 1 = ((i + 1 : Nat) : Int) by omega, sfx_cmb k (i + 1)]
    rfl
theorem sfx_sum {sh : Nat → Int} : ∀ (k i : Nat), smF sh k (i : Int) = (sfx sh k i).sum
  | 0, _ => rfl
  | k + 1, i => by
    show sh ((i : Int)).toNat + smF sh k ((i : Int) + 1) = (sh i :: sfx sh k (i + 1)).sum
    rw [List.sum_cons, show (i : Int) + 1 = ((i + 1 : Nat) : Int) by omega, sfx_sum k (i + 1)]
    rfl
theorem sfx_fs {sh : Nat → Int} {nn all : Int} : ∀ (k p : Nat), (p : Int) + k + 1 = nn → sfx (fsF sh nn all) (k + 1) p = fsL k all
  | 0, p, h => by
    show [fsF sh nn all p] = [all]
    rw [show fsF sh nn all p = all from if_pos (by omega)]
  | k + 1, p, h => by
    show fsF sh nn all p :: sfx (fsF sh nn all) (k + 1) (p + 1) = 0 :: fsL k all
    rw [sfx_fs k (p + 1) (by omega)]
    congr 1
    unfold fsF
    rw [if_neg (by omega), if_pos (by omega)]
theorem sfx_nx0 {sh : Nat → Int} {i bh nn : Int} : ∀ (k p : Nat), (p : Int) + k + 1 = nn → i < p → sfx (nxF sh i bh nn) (k + 1) p = fsL k (bh - 1)
  | 0, p, h, hi => by
    show [nxF sh i bh nn p] = [bh - 1]
    rw [show nxF sh i bh nn p = bh - 1 from if_pos (by omega)]
  | k + 1, p, h, hi => by
    show nxF sh i bh nn p :: sfx (nxF sh i bh nn) (k + 1) (p + 1) = 0 :: fsL k (bh - 1)
    rw [sfx_nx0 k (p + 1) (by omega) (by omega)]
    congr 1
    unfold nxF
    rw [if_neg (by omega), if_neg (by omega), if_pos ⟨by omega, by omega⟩]
/-- the search from the right is the search by rows -/
theorem nl_nf {sh : Nat → Int} {n : Nat} (hsh : ∀ j, j ≤ n → 0 ≤ sh j) : ∀ (k p : Nat), p + k = n → (nl (sfx sh (k + 1) p) = none ∧ (sfx sh k (p + 1)).sum = 0 ∧ nfL sh n (sh n) = nfL sh p (sfx sh (k + 1) p).sum) ∨ (∃ i bh, nfL sh n (sh n) = (i, bh) ∧ (p : Int) ≤ i ∧ i < n ∧ nl (sfx sh (k + 1) p) = some (sfx (nxF sh i bh (n + 1)) (k + 1) p))
  | 0, p, h => by
    left
    obtain rfl : p = n := by omega
    refine ⟨rfl, rfl, ?_⟩
    show _ = nfL sh p (sh p :: []).sum
    rw [List.sum_cons, List.sum_nil, Int.add_zero]
  | k + 1, p, h => by
    have hsum : (sfx sh (k + 2) p).sum = sh p + (sfx sh (k + 1) (p + 1)).sum := List.sum_cons
    rcases nl_nf hsh k (p + 1) (by omega) with ⟨h1, h2, h3⟩ | ⟨i, bh, h1, h2, h3, h4⟩
    · have e := nl_n (a := sh p) h1 rfl (sfx_len (k + 1) (p + 1))
      have e' : nl (sfx sh (k + 1 + 1) p) = if (sfx sh (k + 1) (p + 1)).sum = 0 then none else some ((sh p + 1) :: fsL k ((sfx sh (k + 1) (p + 1)).sum - 1)) := e
      rcases Classical.em ((sfx sh (k + 1) (p + 1)).sum = 0) with q | q
      · left
        rw [if_pos q] at e'
        refine ⟨e', q, ?_⟩
        rw [h3, show nfL sh (p + 1) (sfx sh (k + 1) (p + 1)).sum = nfL sh p ((sfx sh (k + 1) (p + 1)).sum + sh p) from if_pos q, hsum, Int.add_comm]
      · right
        rw [if_neg q] at e'
        refine ⟨p, (sfx sh (k + 1) (p + 1)).sum, ?_, Int.le_refl _, by omega, ?_⟩
        · rw [h3]
          exact if_neg q
        · rw [e']
          show _ = some (nxF sh p _ _ p :: sfx (nxF sh p _ _) (k + 1) (p + 1))
          rw [sfx_nx0 k (p + 1) (by omega) (by omega)]
          congr 2
          unfold nxF
          rw [if_neg (by omega), if_pos rfl]
    · right
      refine ⟨i, bh, h1, by omega, h3, ?_⟩
      have e : nl (sfx sh (k + 1 + 1) p) = some (sh p :: sfx (nxF sh i bh (n + 1)) (k + 1) (p + 1)) := nl_c h4
      rw [e]
      show _ = some (nxF sh i bh (n + 1) p :: sfx (nxF sh i bh (n + 1)) (k + 1) (p + 1))
      congr 2
      unfold nxF
      rw [if_neg (by omega), if_neg (by omega), if_neg (fun q => by omega)]
theorem nl_nf0 {sh : Nat → Int} {n : Nat} (hsh : ∀ j, j ≤ n → 0 ≤ sh j) : (nl (sfx sh (n + 1) 0) = none ∧ (nfL sh n (sh n)).1 < 0) ∨ (0 ≤ (nfL sh n (sh n)).1 ∧ nl (sfx sh (n + 1) 0) = some (sfx (nxF sh (nfL sh n (sh n)).1 (nfL sh n (sh n)).2 (n + 1)) (n + 1) 0)) := by
  rcases nl_nf hsh n 0 (by omega) with ⟨h1, h2, h3⟩ | ⟨i, bh, h1, h2, h3, h4⟩
  · left
    rw [h3]
    exact ⟨h1, by show (-1 : Int) < 0; omega⟩
  · right
    rw [h1]
    exact ⟨by omega, h4⟩
