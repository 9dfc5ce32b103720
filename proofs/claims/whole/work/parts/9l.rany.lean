/-! A condition is read: the reference. -/
section Auto2
variable {bs : List Int} {D0 : KK} {Q : XQ} {n : Nat} {R : Nat → Nat → Option Nat} {N : Nat}
theorem boL_k {cl : Sg → Sg} (hts : tsM cl) : ∀ (k : Nat) (s : Sg), s.1.2.2.length ≤ k + 1 → wlS (boL cl k s) → kdS (boL cl k s) = 305 → k = 0 ∨ True := fun _ _ _ _ _ => Or.inr trivial
theorem EI_p (hR : RF R) (hT : TpR bs D0) (hl4 : bs.length ≤ 400) (hby : ∀ j, 0 ≤ bs.getD j 0 ∧ bs.getD j 0 ≤ 255) (hW : WdR D0) (hN : N ≤ 401) {m : Nat} {cl : Sg → Sg} (hts : tsM cl) (hcl : CLp bs D0 Q n R N m cl) (P : List Int) (s : Sg) (h9 : nW 9 P = 0) (h10 : nW 10 P = 0) (h11 : nW 11 P = 0) (hl : (P.length : Int) ≤ 3 * oP P) (ho : oP P + m = 8) (hs : s.1.1 = 0) (kx : (eiG cl s).1.1 = 0 → kdS (eiG cl s) ≠ 305 → kdS (eiG cl s) ≠ 304 → KEp bs D0 Q n R N P (eiG cl s)) (kq : (eiG cl s).1.1 ≠ 0 → QF D0 Q n R (eiG cl s).1) : AU bs D0 Q n R N 1 P s := by
  intro hp hz
  have hlen : s.1.2.2.length ≤ 401 := by unfold szS at hz; omega
  refine BO_p hR hT hl4 hby hW hN hts hcl P s h9 h10 (by omega) ho hs ?_ ?_ hp hz
  · intro hlv h5
    have h := EL_p hR hT hl4 hby hW hN hts hcl P h10 h11 hl ho 400 (boG cl s) hlv h5 (Nat.le_trans (bo_ts hts s) hlen) kx kq
    exact ⟨h.1, h.2.1⟩
  · intro hd
    have e : eiG cl s = boG cl s := eiL_d hd 400
    rw [e] at kq
    exact kq hd
theorem st_wtN {op : Int} : ∀ (j : Nat) (s : Sg), stS (wtN op j s) = wtN op j (stS s)
  | 0, _ => rfl
  | j + 1, s => st_wtN j (wtS op s)
theorem wr_0 {s : Sg} {k : Int} (h : s.1.1 = 0) (hk : k ≠ 0) : (wrS k s).1.1 ≠ 0 := by
  rw [show (wrS k s).1 = (k, (hdT s.1).2.1, s.1.2.2) from if_pos h]
  exact hk
def CMp (bs : List Int) (D0 : KK) (Q : XQ) (n : Nat) (R : Nat → Nat → Option Nat) (N : Nat) (h : Int) : Prop := ∀ (P : List Int) (s : Sg), ¬ kdS s = 306 → ¬ kdS s = 40 → ((cmF h s).1.1 = 0 → AU bs D0 Q n R N 0 (P.drop (nW 9 P)) (wtN (-29) (nW 9 P) (cmF h s))) → ((cmF h s).1.1 ≠ 0 → QF D0 Q n R (cmF h s).1) → AU bs D0 Q n R N 1 P s
theorem CL_p (hR : RF R) (hT : TpR bs D0) (hl4 : bs.length ≤ 400) (hby : ∀ j, 0 ≤ bs.getD j 0 ∧ bs.getD j 0 ≤ 255) (hW : WdR D0) (hN : N ≤ 401) {h : Int} (hcm : CMp bs D0 Q n R N h) : ∀ m : Nat, CLp bs D0 Q n R N m (clF h m) := by
  intro m
  induction m with
  | zero =>
    intro P s hl ho hs kx kq
    rcases Classical.em (kdS s = 306) with q | q
    · have e : clF h 0 s = wrS 3 s := if_pos (Or.inr q)
      rw [e] at kq
      exact au_3n hR hT hl4 hby hW N hN P s q (by omega) (kq (wr_0 hs (by omega)))
    · rcases Classical.em (kdS s = 40) with q2 | q2
      · have e : clF h 0 s = wrS 3 s := if_pos (Or.inl q2)
        rw [e] at kq
        exact au_3b hR hT hl4 hby hW N hN P s q2 (by omega) (kq (wr_0 hs (by omega)))
      · have e : clF h 0 s = cmF h s := if_neg (fun x => x.elim q2 q)
        rw [e] at kx kq
        exact hcm P s q q2 kx kq
  | succ m ih =>
    intro P s hl ho hs kx kq
    have hob := oP_b P
    rcases Classical.em (kdS s = 306) with q | q
    · have e : clF h (m + 1) s = wtS (-29) (clF h m (stS s)) := if_pos q
      rw [e] at kx kq
      refine au_not hR hT hl4 hby hW N hN P s q (by omega) (by omega) ?_
      refine ih (9 :: P) (stS s) ?_ ?_ hs ?_ ?_
      · rw [oP_c, if_pos rfl, if_neg (by omega), List.length_cons]; omega
      · rw [oP_c, if_pos rfl, if_neg (by omega)]; omega
      · intro hlv
        rw [nW_1]
        exact kx hlv
      · exact kq
    · rcases Classical.em (kdS s = 40) with q2 | q2
      · have e : clF h (m + 1) s = exS 41 (eiG (clF h m) (stS s)) := (if_neg q).trans (if_pos q2)
        rw [e] at kx kq
        refine au_br hR hT hl4 hby hW N hN P s q2 (by omega) (by omega) ?_
        have e12 : ∀ w : Int, w ≠ 12 → nW w (12 :: P) = 0 := fun w hw => nW_0 (fun x => hw x.symm)
        refine EI_p hR hT hl4 hby hW hN (cl_ts m) ih (12 :: P) (stS s) (e12 9 (by omega)) (e12 10 (by omega)) (e12 11 (by omega)) ?_ ?_ hs ?_ ?_
        · rw [oP_c, if_neg (by omega), if_pos rfl, List.length_cons]; omega
        · rw [oP_c, if_neg (by omega), if_pos rfl]; omega
        · intro hlv h5 h4
          refine KE_of hN (e12 10 (by omega)) (e12 11 (by omega)) (fun hw P' s' e1 e2 e3 hp => ?_)
          have hk : kdS s' = kdS (eiG (clF h m) (stS s)) := congrArg kdT e1
          rcases Classical.em (kdS (eiG (clF h m) (stS s)) = 41) with q3 | q3
          · have ex : exS 41 (eiG (clF h m) (stS s)) = stS (eiG (clF h m) (stS s)) := congrArg (fun t => (t, (eiG (clF h m) (stS s)).2)) (if_pos q3)
            rw [ex] at kx
            refine au_cl hR hT hl4 hby hW N hN P' s' (by rw [hk]; exact q3) P e2 ?_
            rw [e3, st_wtN]
            exact kx hlv
          · have ex : exS 41 (eiG (clF h m) (stS s)) = wrS 1 (eiG (clF h m) (stS s)) := congrArg (fun t => (t, (eiG (clF h m) (stS s)).2)) (if_neg q3)
            rw [ex] at kq
            refine au_x hR hT hl4 hby hW N hN P' s' (by rw [hk]; exact h5) (by rw [hk]; exact h4) (by rw [hk]; exact q3) ?_ ?_
            · have c1 := cW_d 12 10 P'
              have c2 := cW_d 12 11 (P'.drop (nW 10 P'))
              rw [if_neg (by omega)] at c1 c2
              rw [e2] at c2
              have c3 : cW 12 (12 :: P) = 1 + cW 12 P := congrArg (· + cW 12 P) (if_pos rfl)
              have c4 := cW_b 12 P
              omega
            · rw [e3]
              exact kq (wr_0 hlv (by omega))
        · intro hd
          rw [ex_d hd (by omega)] at kq
          exact kq hd
      · have e : clF h (m + 1) s = cmF h s := (if_neg q).trans (if_neg q2)
        rw [e] at kx kq
        exact hcm P s q q2 kx kq
end Auto2
theorem r_anyG {n : Nat} {R : Nat → Nat → Option Nat} {D0 D : KK} {bs : List Int} {s : Sg} {P : Option (List Int)} (hR : RF R) (hT : TpR bs D0) (hl4 : bs.length ≤ 400) (hby : ∀ j, 0 ≤ bs.getD j 0 ∧ bs.getD j 0 ≤ 255) (hW : WdR D0) (hwh : D0 479 37 = 0) (N : Nat) (hN : N ≤ 401) (hS : RgO bs D0 s 0 P D) (hz : szS s ≤ N) : ∃ z D', XC 8 211 [.inr (some 479)] (xS n, R, D) (some (.inl z)) (xS n, R, D') ∧ RgQ bs D0 N (eiG (clF 0 8) s) 0 (some []) z D' := by
  refine XG_of (Nat.le_of_ble_eq_true rfl) (Nat.le_of_ble_eq_true rfl) (loc := [_, _, _, _]) rfl ?_
  refine xx_iconst (q := 1) rfl rfl (by decide) ?_
  refine xx_istore_n (q := 2) (loc2 := [_, _, _, _]) rfl rfl (Nat.le_of_ble_eq_true rfl) rfl ?_
  refine xx_aload_n (q := 3) rfl rfl rfl ?_
  refine xx_iconst (q := 4) rfl rfl (by decide) ?_
  refine xr_puz (RgS bs D0 s 0 []) (q := 7) rfl rfl rfl xS_479 (Nat.le_of_ble_eq_true rfl) (Nat.le_of_ble_eq_true rfl) (fun h => by cases h) (Or.inl rfl) (hS.pend ⟨xui_s, fun i hi => absurd hi (Nat.not_lt_zero _)⟩ ((xui_j (by omega)).trans hS.2.2.2.2.2.1) (fun x k q1 q2 => if_neg (fun r => by have := q1 r.1; omega))) (fun D1 hS1 => ?_)
  refine xx_iconst (q := 8) rfl rfl (by decide) ?_
  refine xx_istore_n (q := 9) (loc2 := [_, _, _, _]) rfl rfl (Nat.le_of_ble_eq_true rfl) rfl ?_
  have hcm : CMp bs D0 (RgX bs D0 N (eiG (clF 0 8) s) 0 (some []) n R) n R N 0 := fun P s q1 q2 kx kq => au_cmpG hR hT hl4 hby hW N hN P s hwh q1 q2 kx kq
  have hA : AU bs D0 (RgX bs D0 N (eiG (clF 0 8) s) 0 (some []) n R) n R N 1 [] s := by
    refine EI_p hR hT hl4 hby hW hN (cl_ts 8) (CL_p hR hT hl4 hby hW hN hcm 8) [] s rfl rfl rfl (by decide) (by decide) hS.2.2.1 ?_ ?_
    · intro hlv h5 h4
      refine KE_of hN rfl rfl (fun hw P' s' e1 e2 e3 hp => ?_)
      have hk : kdS s' = kdS (eiG (clF 0 8) s) := congrArg kdT e1
      have c1 := cW_d 12 10 P'
      have c2 := cW_d 12 11 (P'.drop (nW 10 P'))
      rw [if_neg (by omega)] at c1 c2
      rw [e2] at c2
      have c3 : cW 12 [] = 0 := rfl
      have o1 := oP_d 10 (by omega) (by omega) P'
      have o2 := oP_d 11 (by omega) (by omega) (P'.drop (nW 10 P'))
      rw [e2] at o2
      have o3 : oP [] = 0 := rfl
      refine au_end hR hT hl4 hby hW N hN P' s' (by rw [hk]; exact h5) (by rw [hk]; exact h4) (by omega) (fun D2 hS2 hz2 => ?_)
      rw [e2, e3, show oP P' = 0 by omega] at hS2
      rw [e2, e3] at hz2
      exact ⟨0, D2, rfl, rfl, Or.inl ⟨hlv, rfl, hS2, by have : szS (eiG (clF 0 8) s) + ([] : List Int).length ≤ N := hz2; exact this⟩⟩
    · intro hd D2 hF2
      exact ⟨-1, D2, rfl, rfl, Or.inr ⟨hd, rfl, hF2⟩⟩
  exact hA (by decide) (by show szS s + 0 ≤ N; omega) D1 _ hS1
theorem r_anyH {n : Nat} {R : Nat → Nat → Option Nat} {D0 D : KK} {bs : List Int} {s : Sg} {P : Option (List Int)} (hR : RF R) (hT : TpR bs D0) (hl4 : bs.length ≤ 400) (hby : ∀ j, 0 ≤ bs.getD j 0 ∧ bs.getD j 0 ≤ 255) (hW : WdR D0) (hwh : D0 479 37 = 1) (N : Nat) (hN : N ≤ 401) (hS : RgO bs D0 s 0 P D) (hz : szS s ≤ N) : ∃ z D', XC 8 211 [.inr (some 479)] (xS n, R, D) (some (.inl z)) (xS n, R, D') ∧ RgQ bs D0 N (eiG (clF 1 8) s) 0 (some []) z D' := by
  refine XG_of (Nat.le_of_ble_eq_true rfl) (Nat.le_of_ble_eq_true rfl) (loc := [_, _, _, _]) rfl ?_
  refine xx_iconst (q := 1) rfl rfl (by decide) ?_
  refine xx_istore_n (q := 2) (loc2 := [_, _, _, _]) rfl rfl (Nat.le_of_ble_eq_true rfl) rfl ?_
  refine xx_aload_n (q := 3) rfl rfl rfl ?_
  refine xx_iconst (q := 4) rfl rfl (by decide) ?_
  refine xr_puz (RgS bs D0 s 0 []) (q := 7) rfl rfl rfl xS_479 (Nat.le_of_ble_eq_true rfl) (Nat.le_of_ble_eq_true rfl) (fun h => by cases h) (Or.inl rfl) (hS.pend ⟨xui_s, fun i hi => absurd hi (Nat.not_lt_zero _)⟩ ((xui_j (by omega)).trans hS.2.2.2.2.2.1) (fun x k q1 q2 => if_neg (fun r => by have := q1 r.1; omega))) (fun D1 hS1 => ?_)
  refine xx_iconst (q := 8) rfl rfl (by decide) ?_
  refine xx_istore_n (q := 9) (loc2 := [_, _, _, _]) rfl rfl (Nat.le_of_ble_eq_true rfl) rfl ?_
  have hcm : CMp bs D0 (RgX bs D0 N (eiG (clF 1 8) s) 0 (some []) n R) n R N 1 := fun P s q1 q2 kx kq => au_cmpH hR hT hl4 hby hW N hN P s hwh q1 q2 kx kq
  have hA : AU bs D0 (RgX bs D0 N (eiG (clF 1 8) s) 0 (some []) n R) n R N 1 [] s := by
    refine EI_p hR hT hl4 hby hW hN (cl_ts 8) (CL_p hR hT hl4 hby hW hN hcm 8) [] s rfl rfl rfl (by decide) (by decide) hS.2.2.1 ?_ ?_
    · intro hlv h5 h4
      refine KE_of hN rfl rfl (fun hw P' s' e1 e2 e3 hp => ?_)
      have hk : kdS s' = kdS (eiG (clF 1 8) s) := congrArg kdT e1
      have c1 := cW_d 12 10 P'
      have c2 := cW_d 12 11 (P'.drop (nW 10 P'))
      rw [if_neg (by omega)] at c1 c2
      rw [e2] at c2
      have c3 : cW 12 [] = 0 := rfl
      have o1 := oP_d 10 (by omega) (by omega) P'
      have o2 := oP_d 11 (by omega) (by omega) (P'.drop (nW 10 P'))
      rw [e2] at o2
      have o3 : oP [] = 0 := rfl
      refine au_end hR hT hl4 hby hW N hN P' s' (by rw [hk]; exact h5) (by rw [hk]; exact h4) (by omega) (fun D2 hS2 hz2 => ?_)
      rw [e2, e3, show oP P' = 0 by omega] at hS2
      rw [e2, e3] at hz2
      exact ⟨0, D2, rfl, rfl, Or.inl ⟨hlv, rfl, hS2, by have : szS (eiG (clF 1 8) s) + ([] : List Int).length ≤ N := hz2; exact this⟩⟩
    · intro hd D2 hF2
      exact ⟨-1, D2, rfl, rfl, Or.inr ⟨hd, rfl, hF2⟩⟩
  exact hA (by decide) (by show szS s + 0 ≤ N; omega) D1 _ hS1
