/-! A condition: the reference's row = the class's descent. -/
theorem exS_ts {s : Sg} {k : Int} : (exS k s).1.2.2.length ≤ s.1.2.2.length := by
  unfold exS exT
  show (if kdT s.1 = k then stT s.1 else wrT 1 s.1).2.2.length ≤ _
  split
  · exact st_le (s := s)
  · exact Nat.le_of_eq (congrArg List.length (wr_ts (s := s) (k := 1)))
theorem tk3_ts {s : Sg} : (tk3 s).1.2.2.length ≤ s.1.2.2.length := by
  unfold tk3
  split
  · exact st_le
  · exact Nat.le_of_eq (congrArg List.length (wr_ts (s := s) (k := 1)))
theorem cm_ts {h : Int} {s : Sg} : (cmF h s).1.2.2.length ≤ s.1.2.2.length := Nat.le_trans (sm_ts (h := h) (s := tk3 (smS h s))) (Nat.le_trans tk3_ts sm_ts)
def tsM (cl : Sg → Sg) : Prop := ∀ s, (cl s).1.2.2.length ≤ s.1.2.2.length
theorem boL_ts {cl : Sg → Sg} (hc : tsM cl) : ∀ (k : Nat) (s : Sg), (boL cl k s).1.2.2.length ≤ s.1.2.2.length
  | 0, _ => Nat.le_refl _
  | k + 1, s => by
    unfold boL
    split
    · exact Nat.le_trans (boL_ts hc k _) (Nat.le_trans (hc (stS s)) st_le)
    · exact Nat.le_refl _
theorem bo_ts {cl : Sg → Sg} (hc : tsM cl) : tsM (boG cl) := fun s => Nat.le_trans (boL_ts hc 400 _) (hc s)
theorem eiL_ts {cl : Sg → Sg} (hc : tsM cl) : ∀ (k : Nat) (s : Sg), (eiL cl k s).1.2.2.length ≤ s.1.2.2.length
  | 0, _ => Nat.le_refl _
  | k + 1, s => by
    unfold eiL
    split
    · exact Nat.le_trans (eiL_ts hc k _) (Nat.le_trans (bo_ts hc (stS s)) st_le)
    · exact Nat.le_refl _
theorem ei_ts {cl : Sg → Sg} (hc : tsM cl) : tsM (eiG cl) := fun s => Nat.le_trans (eiL_ts hc 400 _) (bo_ts hc s)
theorem cl_ts {h : Int} : ∀ m : Nat, tsM (clF h m)
  | 0, s => by
    unfold clF
    split
    · exact Nat.le_of_eq (congrArg List.length (wr_ts (s := s) (k := 3)))
    · exact cm_ts
  | m + 1, s => by
    unfold clF
    split
    · exact Nat.le_trans (cl_ts m (stS s)) st_le
    · split
      · exact Nat.le_trans exS_ts (Nat.le_trans (ei_ts (cl_ts m) (stS s)) st_le)
      · exact cm_ts
theorem boL_d {cl : Sg → Sg} {s : Sg} (q : s.1.1 ≠ 0) : ∀ k : Nat, boL cl k s = s
  | 0 => rfl
  | k + 1 => if_neg (by rw [kd_d q]; omega)
theorem eiL_d {cl : Sg → Sg} {s : Sg} (q : s.1.1 ≠ 0) : ∀ k : Nat, eiL cl k s = s
  | 0 => rfl
  | k + 1 => if_neg (by rw [kd_d q]; omega)
theorem ex_d {s : Sg} {k : Int} (q : s.1.1 ≠ 0) (hk : k ≠ 258) : exS k s = s := by
  have e : exT k s.1 = s.1 := (if_neg (by rw [show kdT s.1 = 258 from if_neg q]; omega)).trans (if_neg q)
  unfold exS
  rw [e]
def wlS (s : Sg) : Prop := s.1.1 = 0 ∧ wfL s.1.2.2
theorem wl_2 {s : Sg} (h : wlS s) (hk : kdS s ≠ 258) : 2 ≤ s.1.2.2.length := by
  obtain ⟨h1, h2⟩ := h
  cases e : s.1.2.2 with
  | nil => rw [e] at h2; exact h2.elim
  | cons t r =>
    rw [e] at h2
    have ek : kdS s = t.1 := by
      show kdT s.1 = t.1
      unfold kdT hdT
      rw [if_pos h1, e]
      rfl
    obtain ⟨_, ⟨_, q⟩ | ⟨_, _, hrn⟩⟩ := wfL_c h2
    · exact absurd (ek.trans q) hk
    · rw [List.length_cons]
      cases r with
      | nil => exact absurd rfl hrn
      | cons u r => rw [List.length_cons]; omega
section Auto
variable {bs : List Int} {D0 : KK} {Q : XQ} {n : Nat} {R : Nat → Nat → Option Nat} {N : Nat}
theorem AU_w {due : Int} {P : List Int} {s : Sg} (hN : N ≤ 401) (h : wlS s → s.2.length + P.length ≤ 400 → AU bs D0 Q n R N due P s) : AU bs D0 Q n R N due P s := by
  intro hp hz D x hS
  have h1 := hS.hd.2.2.2
  exact h ⟨hS.2.2.1, hS.2.1⟩ (by have := hz; unfold szS at this; omega) hp hz D x hS
theorem nW_0 {w a : Int} {P : List Int} (h : a ≠ w) : nW w (a :: P) = 0 := if_neg h
theorem nW_1 {w : Int} {P : List Int} : nW w (w :: P) = nW w P + 1 := if_pos rfl
/-- what a condition of some depth does -/
def CLp (bs : List Int) (D0 : KK) (Q : XQ) (n : Nat) (R : Nat → Nat → Option Nat) (N m : Nat) (cl : Sg → Sg) : Prop := ∀ (P : List Int) (s : Sg), (P.length : Int) ≤ 3 * oP P + 2 → oP P + m = 8 → s.1.1 = 0 → ((cl s).1.1 = 0 → AU bs D0 Q n R N 0 (P.drop (nW 9 P)) (wtN (-29) (nW 9 P) (cl s))) → ((cl s).1.1 ≠ 0 → QF D0 Q n R (cl s).1) → AU bs D0 Q n R N 1 P s
def ANp (bs : List Int) (D0 : KK) (Q : XQ) (n : Nat) (R : Nat → Nat → Option Nat) (N : Nat) (P : List Int) (s : Sg) : Prop := AU bs D0 Q n R N 0 P s ∧ ∀ t c0, s = (t, c0 ++ [-27]) → AU bs D0 Q n R N 0 (10 :: P) (t, c0)
theorem BL_p (hR : RF R) (hT : TpR bs D0) (hl4 : bs.length ≤ 400) (hby : ∀ j, 0 ≤ bs.getD j 0 ∧ bs.getD j 0 ≤ 255) (hW : WdR D0) (hN : N ≤ 401) {m : Nat} {cl : Sg → Sg} (hts : tsM cl) (hcl : CLp bs D0 Q n R N m cl) (P : List Int) (h9 : nW 9 P = 0) (h10 : nW 10 P = 0) (hl : (P.length : Int) ≤ 3 * oP P + 1) (ho : oP P + m = 8) : ∀ (k : Nat) (s1 : Sg), s1.1.1 = 0 → s1.1.2.2.length ≤ k + 1 → ((boL cl k s1).1.1 = 0 → kdS (boL cl k s1) ≠ 305 → ANp bs D0 Q n R N P (boL cl k s1)) → ((boL cl k s1).1.1 ≠ 0 → QF D0 Q n R (boL cl k s1).1) → ANp bs D0 Q n R N P s1 := by
  intro k
  induction k with
  | zero =>
    intro s1 hs hk kx kq
    have hne : wlS s1 → kdS s1 ≠ 305 := fun h q => by have := wl_2 h (by omega); omega
    refine ⟨AU_w hN (fun hw _ => (kx hs (hne hw)).1), fun t c0 e => AU_w hN (fun hw _ => (kx hs (hne ?_)).2 t c0 e)⟩
    rw [e]; exact hw
  | succ k ih =>
    intro s1 hs hk kx kq
    rcases Classical.em (kdS s1 = 305) with q | q
    · have eb : boL cl (k + 1) s1 = boL cl k (wtS (-27) (cl (stS s1))) := if_pos q
      rw [eb] at kx kq
      have T : wlS s1 → AU bs D0 Q n R N 1 (10 :: P) (stS s1) := fun hw => by
        have h2 := st_l2 (wl_2 hw (by omega))
        have h9' : nW 9 (10 :: P) = 0 := nW_0 (by omega)
        refine hcl (10 :: P) (stS s1) ?_ ?_ hs ?_ ?_
        · rw [oP_c, if_neg (by omega), if_neg (by omega), List.length_cons]; omega
        · rw [oP_c, if_neg (by omega), if_neg (by omega)]; omega
        · intro hlv
          rw [h9']
          show AU bs D0 Q n R N 0 (10 :: P) (cl (stS s1))
          refine AU_w hN (fun hw2 hsz => ?_)
          rw [List.length_cons] at hsz
          have ew := wt_l (op := -27) (s := cl (stS s1)) (by omega)
          exact (ih (wtS (-27) (cl (stS s1))) hlv (Nat.le_trans (hts (stS s1)) (by omega)) kx kq).2 (cl (stS s1)).1 (cl (stS s1)).2 ew
        · intro hd
          rw [boL_d (s := wtS (-27) (cl (stS s1))) hd] at kq
          exact kq hd
      refine ⟨AU_w hN (fun hw _ => ?_), fun t c0 e => AU_w hN (fun hw hsz => ?_)⟩
      · refine au_and hR hT hl4 hby hW N hN P s1 q (by rw [h10]; show P.length < 30; omega) ?_
        rw [h10]
        exact T hw
      · have hw1 : wlS s1 := by rw [e]; exact hw
        have e10 : nW 10 (10 :: P) = 1 := by rw [nW_1, h10]
        refine au_and hR hT hl4 hby hW N hN (10 :: P) (t, c0) (by rw [e] at q; exact q) (by rw [e10]; show P.length < 30; omega) ?_
        rw [e10]
        show AU bs D0 Q n R N 1 (10 :: P) (stS (wtS (-27) (t, c0)))
        rw [List.length_cons] at hsz
        rw [wt_l (s := (t, c0)) (show c0.length < 400 by have : c0.length + (P.length + 1) ≤ 400 := hsz; omega)]
        show AU bs D0 Q n R N 1 (10 :: P) (stS (t, c0 ++ [-27]))
        rw [← e]
        exact T hw1
    · have eb : boL cl (k + 1) s1 = s1 := if_neg q
      rw [eb] at kx
      exact kx hs q
theorem BO_p (hR : RF R) (hT : TpR bs D0) (hl4 : bs.length ≤ 400) (hby : ∀ j, 0 ≤ bs.getD j 0 ∧ bs.getD j 0 ≤ 255) (hW : WdR D0) (hN : N ≤ 401) {m : Nat} {cl : Sg → Sg} (hts : tsM cl) (hcl : CLp bs D0 Q n R N m cl) (P : List Int) (s : Sg) (h9 : nW 9 P = 0) (h10 : nW 10 P = 0) (hl : (P.length : Int) ≤ 3 * oP P + 1) (ho : oP P + m = 8) (hs : s.1.1 = 0) (kx : (boG cl s).1.1 = 0 → kdS (boG cl s) ≠ 305 → ANp bs D0 Q n R N P (boG cl s)) (kq : (boG cl s).1.1 ≠ 0 → QF D0 Q n R (boG cl s).1) : AU bs D0 Q n R N 1 P s := by
  refine AU_w hN (fun hw hsz => ?_)
  intro hp hz
  have hlen : s.1.2.2.length ≤ 401 := by unfold szS at hz; omega
  refine hcl P s (by omega) ho hs ?_ ?_ hp hz
  · intro hlv
    rw [h9]
    exact (BL_p hR hT hl4 hby hW hN hts hcl P h9 h10 hl ho 400 (cl s) hlv (Nat.le_trans (hts s) hlen) kx kq).1
  · intro hd
    have e : boG cl s = cl s := boL_d hd 400
    rw [e] at kq
    exact kq hd
def KEp (bs : List Int) (D0 : KK) (Q : XQ) (n : Nat) (R : Nat → Nat → Option Nat) (N : Nat) (P : List Int) (s : Sg) : Prop := AU bs D0 Q n R N 0 P s ∧ (∀ t c0, s = (t, c0 ++ [-27]) → AU bs D0 Q n R N 0 (10 :: P) (t, c0)) ∧ (∀ t c0, s = (t, c0 ++ [-28]) → AU bs D0 Q n R N 0 (11 :: P) (t, c0)) ∧ ∀ t c0, s = (t, c0 ++ [-27] ++ [-28]) → AU bs D0 Q n R N 0 (10 :: 11 :: P) (t, c0)
/-- the four ways in which a state may still wait, when both settle -/
theorem KE_of (hN : N ≤ 401) {P : List Int} {s : Sg} (h10 : nW 10 P = 0) (h11 : nW 11 P = 0) (T : wlS s → ∀ (P' : List Int) (s' : Sg), s'.1 = s.1 → (P'.drop (nW 10 P')).drop (nW 11 (P'.drop (nW 10 P'))) = P → wtN (-28) (nW 11 (P'.drop (nW 10 P'))) (wtN (-27) (nW 10 P') s') = s → P'.length ≤ P.length + 2 → AU bs D0 Q n R N 0 P' s') : KEp bs D0 Q n R N P s := by
  have e10 : nW 10 (10 :: P) = 1 := by rw [nW_1, h10]
  have e11 : nW 11 (11 :: P) = 1 := by rw [nW_1, h11]
  refine ⟨AU_w hN (fun hw _ => T hw P s rfl ?_ ?_ (by omega)), fun t c0 e => AU_w hN (fun hw hsz => T (by rw [e]; exact hw) (10 :: P) (t, c0) (by rw [e]) ?_ ?_ (by rw [List.length_cons]; omega)), fun t c0 e => AU_w hN (fun hw hsz => T (by rw [e]; exact hw) (11 :: P) (t, c0) (by rw [e]) ?_ ?_ (by rw [List.length_cons]; omega)), fun t c0 e => AU_w hN (fun hw hsz => T (by rw [e]; exact hw) (10 :: 11 :: P) (t, c0) (by rw [e]) ?_ ?_ (by rw [List.length_cons, List.length_cons]; omega))⟩
  · rw [h10]; show P.drop (nW 11 P) = P; rw [h11]; rfl
  · rw [h10]; show wtN (-28) (nW 11 P) s = s; rw [h11]; rfl
  · rw [e10]; show P.drop (nW 11 P) = P; rw [h11]; rfl
  · rw [e10]
    show wtN (-28) (nW 11 P) (wtS (-27) (t, c0)) = s
    rw [List.length_cons] at hsz
    have hc : c0.length + (P.length + 1) ≤ 400 := hsz
    rw [h11, wt_l (s := (t, c0)) (show c0.length < 400 by omega), e]
    rfl
  · rw [show nW 10 (11 :: P) = 0 from nW_0 (by omega)]; show (11 :: P).drop (nW 11 (11 :: P)) = P; rw [e11]; rfl
  · rw [show nW 10 (11 :: P) = 0 from nW_0 (by omega)]
    show wtN (-28) (nW 11 (11 :: P)) (t, c0) = s
    rw [e11]
    show wtS (-28) (t, c0) = s
    rw [List.length_cons] at hsz
    have hc : c0.length + (P.length + 1) ≤ 400 := hsz
    rw [wt_l (s := (t, c0)) (show c0.length < 400 by omega), e]
  · rw [show nW 10 (10 :: 11 :: P) = 1 by rw [nW_1, nW_0 (by omega)]]; show (11 :: P).drop (nW 11 (11 :: P)) = P; rw [e11]; rfl
  · rw [show nW 10 (10 :: 11 :: P) = 1 by rw [nW_1, nW_0 (by omega)]]
    show wtN (-28) (nW 11 (11 :: P)) (wtS (-27) (t, c0)) = s
    rw [e11]
    show wtS (-28) (wtS (-27) (t, c0)) = s
    rw [List.length_cons, List.length_cons] at hsz
    have hc : c0.length + (P.length + 1 + 1) ≤ 400 := hsz
    rw [wt_l (s := (t, c0)) (show c0.length < 400 by omega), wt_l (s := ((t, c0).1, (t, c0).2 ++ [-27])) (show (c0 ++ [-27]).length < 400 by rw [List.length_append]; show c0.length + 1 < 400; omega), e]
theorem EL_p (hR : RF R) (hT : TpR bs D0) (hl4 : bs.length ≤ 400) (hby : ∀ j, 0 ≤ bs.getD j 0 ∧ bs.getD j 0 ≤ 255) (hW : WdR D0) (hN : N ≤ 401) {m : Nat} {cl : Sg → Sg} (hts : tsM cl) (hcl : CLp bs D0 Q n R N m cl) (P : List Int) (h10 : nW 10 P = 0) (h11 : nW 11 P = 0) (hl : (P.length : Int) ≤ 3 * oP P) (ho : oP P + m = 8) : ∀ (k : Nat) (s1 : Sg), s1.1.1 = 0 → kdS s1 ≠ 305 → s1.1.2.2.length ≤ k + 1 → ((eiL cl k s1).1.1 = 0 → kdS (eiL cl k s1) ≠ 305 → kdS (eiL cl k s1) ≠ 304 → KEp bs D0 Q n R N P (eiL cl k s1)) → ((eiL cl k s1).1.1 ≠ 0 → QF D0 Q n R (eiL cl k s1).1) → KEp bs D0 Q n R N P s1 := by
  intro k
  induction k with
  | zero =>
    intro s1 hs h305 hk kx kq
    have hne : wlS s1 → kdS s1 ≠ 304 := fun h q => by have := wl_2 h (by omega); omega
    have kx2 : wlS s1 → KEp bs D0 Q n R N P s1 := fun hw => kx hs h305 (hne hw)
    refine ⟨AU_w hN (fun hw _ => (kx2 hw).1), fun t c0 e => AU_w hN (fun hw _ => (kx2 (by rw [e]; exact hw)).2.1 t c0 e), fun t c0 e => AU_w hN (fun hw _ => (kx2 (by rw [e]; exact hw)).2.2.1 t c0 e), fun t c0 e => AU_w hN (fun hw _ => (kx2 (by rw [e]; exact hw)).2.2.2 t c0 e)⟩
  | succ k ih =>
    intro s1 hs h305 hk kx kq
    rcases Classical.em (kdS s1 = 304) with q | q
    · have eb : eiL cl (k + 1) s1 = eiL cl k (wtS (-28) (boG cl (stS s1))) := if_pos q
      rw [eb] at kx kq
      have T : wlS s1 → AU bs D0 Q n R N 1 (11 :: P) (stS s1) := fun hw => by
        have h2 := st_l2 (wl_2 hw (by omega))
        have hob := oP_b P
        refine BO_p hR hT hl4 hby hW hN hts hcl (11 :: P) (stS s1) (nW_0 (by omega)) (nW_0 (by omega)) ?_ ?_ hs ?_ ?_
        · rw [oP_c, if_neg (by omega), if_neg (by omega), List.length_cons]; omega
        · rw [oP_c, if_neg (by omega), if_neg (by omega)]; omega
        · intro hlv h5
          have hK : ∀ (hsz : (boG cl (stS s1)).2.length < 400), KEp bs D0 Q n R N P (wtS (-28) (boG cl (stS s1))) := fun _ => ih (wtS (-28) (boG cl (stS s1))) hlv h5 (Nat.le_trans (bo_ts hts (stS s1)) (by omega)) kx kq
          refine ⟨AU_w hN (fun hw2 hsz => ?_), fun t c0 e => AU_w hN (fun hw2 hsz => ?_)⟩
          · rw [List.length_cons] at hsz
            exact (hK (by omega)).2.2.1 (boG cl (stS s1)).1 (boG cl (stS s1)).2 (wt_l (by omega))
          · rw [List.length_cons, List.length_cons] at hsz
            have hc : c0.length + (P.length + 1 + 1) ≤ 400 := hsz
            have hlt : (boG cl (stS s1)).2.length < 400 := by rw [e]; show (c0 ++ [-27]).length < 400; rw [List.length_append]; show c0.length + 1 < 400; omega
            exact (hK hlt).2.2.2 t c0 ((wt_l hlt).trans (by rw [e]))
        · intro hd
          rw [eiL_d (s := wtS (-28) (boG cl (stS s1))) hd] at kq
          exact kq hd
      refine KE_of hN h10 h11 (fun hw P' s' e1 e2 e3 hp => ?_)
      have hob := oP_b P
      refine au_or hR hT hl4 hby hW N hN P' s' (by show kdT s'.1 = 304; rw [e1]; exact q) (by rw [e2]; omega) ?_
      rw [e2, e3]
      exact T hw
    · have eb : eiL cl (k + 1) s1 = s1 := if_neg q
      rw [eb] at kx
      exact kx hs h305 q
end Auto
