/-! Sums are read: the reference does as the class. -/
def opR (c : Int) : Int × Int := if 0 ≤ c then (0, c) else if -11 ≤ c then (1, -1 - c) else if -15 ≤ c then (1, -c) else if c = -29 then (9, 0) else if c = -27 then (10, 0) else if c = -28 then (11, 0) else (-18 - c, 0)
def wfT (t : Tk) : Prop := t.1 = 258 ∨ t.1 = 257 ∨ (t.1 = 256 ∧ 0 ≤ t.2.2 ∧ t.2.2 ≤ 9999) ∨ (300 ≤ t.1 ∧ t.1 ≤ 330) ∨ sgP t.1
def wfL : List Tk → Prop
  | [] => False
  | [t] => wfT t ∧ t.1 = 258
  | t :: r => wfT t ∧ t.1 ≠ 258 ∧ wfL r
theorem wfL_c {t : Tk} {r : List Tk} (h : wfL (t :: r)) : wfT t ∧ ((r = [] ∧ t.1 = 258) ∨ (t.1 ≠ 258 ∧ wfL r ∧ r ≠ [])) := by
  cases r with
  | nil => exact ⟨h.1, Or.inl ⟨rfl, h.2⟩⟩
  | cons u r => exact ⟨h.1, Or.inr ⟨h.2.1, h.2.2, by simp⟩⟩
def PnR (P : List Int) (D : KK) : Prop := D 479 41 = (P.length : Int) ∧ ∀ i, i < P.length → D 506 (P.length - 1 - i) = P.getD i 0
abbrev PnO (P : Option (List Int)) (D : KK) : Prop := match P with | none => True | some P => PnR P D
def FRg (D0 D : KK) : Prop := ∀ x k, (x = 479 → k ≠ 25 ∧ k ≠ 26 ∧ k ≠ 27 ∧ k ≠ 28 ∧ k ≠ 38 ∧ k ≠ 39 ∧ k ≠ 41 ∧ k ≠ 42 ∧ k ≠ 43) → ((x = 504 ∨ x = 505) → k < 800) → x ≠ 506 → D x k = D0 x k
def RgO (bs : List Int) (D0 : KK) (s : Sg) (o : Int) (P : Option (List Int)) (D : KK) : Prop := RdS bs s.1.2.2 D ∧ wfL s.1.2.2 ∧ s.1.1 = 0 ∧ D 479 38 = (s.2.length : Int) ∧ (∀ j, j < s.2.length → D 504 (800 + j) = (opR (s.2.getD j 0)).1 ∧ D 505 (800 + j) = (opR (s.2.getD j 0)).2) ∧ D 479 39 = o ∧ PnO P D ∧ FRg D0 D
def RgF (f p : Int) (D0 D : KK) : Prop := D 479 42 = f ∧ D 479 43 = p ∧ FRg D0 D
def szS (s : Sg) : Nat := s.2.length + s.1.2.2.length
def RgQ (bs : List Int) (D0 : KK) (N : Nat) (s : Sg) (o : Int) (P : Option (List Int)) (z : Int) (D : KK) : Prop := (s.1.1 = 0 ∧ z = 0 ∧ RgO bs D0 s o P D ∧ szS s ≤ N) ∨ (s.1.1 ≠ 0 ∧ z = -1 ∧ RgF s.1.1 s.1.2.1 D0 D)
theorem RgO.hd {bs : List Int} {D0 D : KK} {s : Sg} {o : Int} {P : Option (List Int)} (h : RgO bs D0 s o P D) : RTok (hdT s.1) D ∧ wfT (hdT s.1) ∧ kdS s = (hdT s.1).1 ∧ 1 ≤ s.1.2.2.length := by
  obtain ⟨⟨t, r, e, h1, _⟩, h2, h3, _⟩ := h
  have e2 : hdT s.1 = t := by unfold hdT; rw [e]; rfl
  rw [e] at h2
  rw [e2]
  refine ⟨h1, (wfL_c h2).1, ?_, by rw [e, List.length_cons]; omega⟩
  show kdT s.1 = t.1
  unfold kdT
  rw [if_pos h3, e2]
theorem WMP_i : ∀ a, a < 31 → ∀ b, b < 31 → WMP.getD a 0 = WMP.getD b 0 → a = b := by decide +kernel
theorem wmp_i {a b : Int} (h0 : 300 ≤ a) (h1 : a ≤ 330) (h2 : 300 ≤ b) (h3 : b ≤ 330) (h : wmp a = wmp b) : a = b := by
  have := WMP_i (a - 300).toNat (by omega) (b - 300).toNat (by omega) h
  omega
theorem wmp_f : ∀ f : Nat, f < 15 → wmp (307 + (f : Int)) - 6 = (opR (-1 - (f : Int))).2 ∧ (opR (-1 - (f : Int))).1 = 1 := by decide +kernel
theorem canA : ∀ a, a < 31 → ((6 ≤ WMP.getD a 0 ∧ WMP.getD a 0 ≤ 16) ↔ ftP 0 ((a : Int) - 7)) ∧ (((6 ≤ WMP.getD a 0 ∧ WMP.getD a 0 ≤ 10) ∨ (18 ≤ WMP.getD a 0 ∧ WMP.getD a 0 ≤ 21)) ↔ ftP 1 ((a : Int) - 7)) := by decide +kernel
theorem tok_w {t : Tk} {D : KK} {kk w : Int} (h : RTok t D) (hw : wfT t) (h0 : 300 ≤ kk) (h1 : kk ≤ 330) (hk : wmp kk = w) : (D 479 27 = 2 ∧ D 479 28 = w) ↔ t.1 = kk := by
  obtain ⟨_, a1, a2, a3, a4, a5⟩ := h
  constructor
  · rintro ⟨q1, q2⟩
    rcases hw with e | e | ⟨e, _⟩ | ⟨e1, e2⟩ | e
    · have := a1 e; omega
    · have := a2 e; omega
    · have := (a3 e).1; omega
    · exact wmp_i e1 e2 h0 h1 ((a5 e1).2.symm.trans (q2.trans hk.symm))
    · have := (a4 (by omega)).1; omega
  · intro e
    have := a5 (by omega)
    rw [e] at this
    exact ⟨this.1, this.2.trans hk⟩
theorem tok_s {t : Tk} {D : KK} {c : Int} (h : RTok t D) (hw : wfT t) (h1 : c < 256) : (D 479 27 = 4 ∧ D 479 28 = c) ↔ t.1 = c := by
  obtain ⟨_, a1, a2, a3, a4, a5⟩ := h
  constructor
  · rintro ⟨q1, q2⟩
    rcases hw with e | e | ⟨e, _⟩ | ⟨e1, e2⟩ | e
    · have := a1 e; omega
    · have := a2 e; omega
    · have := (a3 e).1; omega
    · have := (a5 e1).1; omega
    · exact (a4 (by omega)).2.symm.trans q2
  · intro e
    have := a4 (by omega)
    exact ⟨this.1, this.2.trans e⟩
theorem tok_n {t : Tk} {D : KK} (h : RTok t D) (hw : wfT t) : D 479 27 = 3 ↔ t.1 = 256 := by
  obtain ⟨_, a1, a2, a3, a4, a5⟩ := h
  constructor
  · intro q
    rcases hw with e | e | ⟨e, _⟩ | ⟨e1, e2⟩ | e
    · have := a1 e; omega
    · have := a2 e; omega
    · exact e
    · have := (a5 e1).1; omega
    · have := (a4 (by omega)).1; omega
  · exact fun e => (a3 e).1
theorem tok_2 {t : Tk} {D : KK} (h : RTok t D) (hw : wfT t) : D 479 27 = 2 ↔ (300 ≤ t.1 ∧ t.1 ≤ 330) := by
  obtain ⟨_, a1, a2, a3, a4, a5⟩ := h
  constructor
  · intro q
    rcases hw with e | e | ⟨e, _⟩ | ⟨e1, e2⟩ | e
    · have := a1 e; omega
    · have := a2 e; omega
    · have := (a3 e).1; omega
    · exact ⟨e1, e2⟩
    · have := (a4 (by omega)).1; omega
  · exact fun e => (a5 e.1).1
theorem tok_0 {t : Tk} {D : KK} (h : RTok t D) (hw : wfT t) : D 479 27 = 0 ↔ t.1 = 258 := by
  obtain ⟨_, a1, a2, a3, a4, a5⟩ := h
  constructor
  · intro q
    rcases hw with e | e | ⟨e, _⟩ | ⟨e1, e2⟩ | e
    · exact e
    · have := a2 e; omega
    · have := (a3 e).1; omega
    · have := (a5 e1).1; omega
    · have := (a4 (by omega)).1; omega
  · exact a1
set_option maxHeartbeats 1000000 in
theorem r_isWord {n : Nat} {R : Nat → Nat → Option Nat} {D0 D : KK} {bs : List Int} {s : Sg} {o : Int} {P : Option (List Int)} (hR : RF R) (hS : RgO bs D0 s o P D) (kk w : Int) (h0 : 300 ≤ kk) (h1 : kk ≤ 330) (hk : wmp kk = w) : XC 1 201 [.inr (some 479), .inl w] (xS n, R, D) (some (.inl (bi (kdS s = kk)))) (xS n, R, D) := by
  obtain ⟨hK, hw, hkd, hl1⟩ := hS.hd
  refine XC_of (Nat.le_of_ble_eq_true rfl) (Nat.le_of_ble_eq_true rfl) (loc := [_, _]) rfl ?_
  refine xx_aload_n (q := 1) rfl rfl rfl ?_
  refine xx_gez (q := 4) rfl rfl rfl xS_479 (Nat.le_of_ble_eq_true rfl) rfl rfl ?_
  refine xx_iconst (q := 5) rfl rfl (by decide) ?_
  refine xx_icmp_ne (q := 20) (q2 := 8) rfl rfl rfl (fun h5 => ?_) (fun h5 => ?_)
  · refine xx_iconst (q := 21) rfl rfl (by decide) ?_
    exact xx_iret rfl (Or.inl rfl) ⟨congrArg (fun z => some (Sum.inl z)) (by exact (bi_f (fun q => by rw [hkd] at q; have := (tok_w hK hw h0 h1 hk).mpr q; omega)).symm), rfl⟩
  · refine xx_aload_n (q := 9) rfl rfl rfl ?_
    refine xx_gez (q := 12) rfl rfl rfl xS_479 (Nat.le_of_ble_eq_true rfl) rfl rfl ?_
    refine xx_iload_n (q := 13) rfl rfl rfl ?_
    refine xx_icmp_ne (q := 20) (q2 := 16) rfl rfl rfl (fun h13 => ?_) (fun h13 => ?_)
    · refine xx_iconst (q := 21) rfl rfl (by decide) ?_
      exact xx_iret rfl (Or.inl rfl) ⟨congrArg (fun z => some (Sum.inl z)) (by exact (bi_f (fun q => by rw [hkd] at q; have := (tok_w hK hw h0 h1 hk).mpr q; omega)).symm), rfl⟩
    · refine xx_iconst (q := 17) rfl rfl (by decide) ?_
      refine xx_goto (q := 21) rfl rfl ?_
      exact xx_iret rfl (Or.inr rfl) ⟨congrArg (fun z => some (Sum.inl z)) (by exact (bi_t (by rw [hkd]; exact (tok_w hK hw h0 h1 hk).mp ⟨by omega, by omega⟩)).symm), rfl⟩
set_option maxHeartbeats 1000000 in
theorem r_isSign {n : Nat} {R : Nat → Nat → Option Nat} {D0 D : KK} {bs : List Int} {s : Sg} {o : Int} {P : Option (List Int)} (hR : RF R) (hS : RgO bs D0 s o P D) (c : Int) (h1 : c < 256) : XC 1 202 [.inr (some 479), .inl c] (xS n, R, D) (some (.inl (bi (kdS s = c)))) (xS n, R, D) := by
  obtain ⟨hK, hw, hkd, hl1⟩ := hS.hd
  refine XC_of (Nat.le_of_ble_eq_true rfl) (Nat.le_of_ble_eq_true rfl) (loc := [_, _]) rfl ?_
  refine xx_aload_n (q := 1) rfl rfl rfl ?_
  refine xx_gez (q := 4) rfl rfl rfl xS_479 (Nat.le_of_ble_eq_true rfl) rfl rfl ?_
  refine xx_iconst (q := 5) rfl rfl (by decide) ?_
  refine xx_icmp_ne (q := 20) (q2 := 8) rfl rfl rfl (fun h5 => ?_) (fun h5 => ?_)
  · refine xx_iconst (q := 21) rfl rfl (by decide) ?_
    exact xx_iret rfl (Or.inl rfl) ⟨congrArg (fun z => some (Sum.inl z)) (by exact (bi_f (fun q => by rw [hkd] at q; have := (tok_s hK hw h1).mpr q; omega)).symm), rfl⟩
  · refine xx_aload_n (q := 9) rfl rfl rfl ?_
    refine xx_gez (q := 12) rfl rfl rfl xS_479 (Nat.le_of_ble_eq_true rfl) rfl rfl ?_
    refine xx_iload_n (q := 13) rfl rfl rfl ?_
    refine xx_icmp_ne (q := 20) (q2 := 16) rfl rfl rfl (fun h13 => ?_) (fun h13 => ?_)
    · refine xx_iconst (q := 21) rfl rfl (by decide) ?_
      exact xx_iret rfl (Or.inl rfl) ⟨congrArg (fun z => some (Sum.inl z)) (by exact (bi_f (fun q => by rw [hkd] at q; have := (tok_s hK hw h1).mpr q; omega)).symm), rfl⟩
    · refine xx_iconst (q := 17) rfl rfl (by decide) ?_
      refine xx_goto (q := 21) rfl rfl ?_
      exact xx_iret rfl (Or.inr rfl) ⟨congrArg (fun z => some (Sum.inl z)) (by exact (bi_t (by rw [hkd]; exact (tok_s hK hw h1).mp ⟨by omega, by omega⟩)).symm), rfl⟩
set_option maxHeartbeats 1000000 in
theorem r_errs {n : Nat} {R : Nat → Nat → Option Nat} {D0 D : KK} {bs : List Int} {s : Sg} {o : Int} {P : Option (List Int)} (hR : RF R) (hS : RgO bs D0 s o P D) (k : Int) : ∃ D', XC 1 200 [.inr (some 479), .inl k] (xS n, R, D) (some (.inl (-1))) (xS n, R, D') ∧ RgF (wrS k s).1.1 (wrS k s).1.2.1 D0 D' := by
  obtain ⟨hK, hw, hkd, hl1⟩ := hS.hd
  refine XE_of (Nat.le_of_ble_eq_true rfl) (Nat.le_of_ble_eq_true rfl) (loc := [_, _]) rfl ?_
  refine xx_aload_n (q := 1) rfl rfl rfl ?_
  refine xx_iload_n (q := 2) rfl rfl rfl ?_
  refine xx_puz (q := 5) rfl rfl rfl xS_479 (Nat.le_of_ble_eq_true rfl) (Nat.le_of_ble_eq_true rfl) (fun h => by cases h) (Or.inl rfl) rfl ?_
  refine xx_aload_n (q := 6) rfl rfl rfl ?_
  refine xx_aload_n (q := 7) rfl rfl rfl ?_
  refine xx_gez (q := 10) rfl rfl rfl xS_479 (Nat.le_of_ble_eq_true rfl) rfl ((xui_j (by omega)).trans hK.1) ?_
  refine xx_puz (q := 13) rfl rfl rfl xS_479 (Nat.le_of_ble_eq_true rfl) (Nat.le_of_ble_eq_true rfl) (fun h => by cases h) (Or.inl rfl) rfl ?_
  refine xx_iconst (q := 14) rfl rfl (by decide) ?_
  refine xx_iret rfl trivial ⟨congrArg (fun z => some (Sum.inl z)) (by rfl), _, rfl, ?_⟩
  rw [show (wrS k s).1 = (k, (hdT s.1).2.1, s.1.2.2) from if_pos hS.2.2.1]
  exact ⟨(xui_j (by omega)).trans xui_s, xui_s, fun x j q1 q2 q3 => (if_neg (fun r => by have := q1 r.1; omega)).trans ((if_neg (fun r => by have := q1 r.1; omega)).trans (hS.2.2.2.2.2.2.2 x j q1 q2 q3))⟩
theorem RdS.fr {bs : List Int} {ts : List Tk} {D E : KK} (h : RdS bs ts D) (g : ∀ k, k = 25 ∨ k = 26 ∨ k = 27 ∨ k = 28 → E 479 k = D 479 k) : RdS bs ts E := by
  obtain ⟨t, r, e, ⟨h1, h2, h3, h4, h5, h6⟩, h7⟩ := h
  refine ⟨t, r, e, ⟨(g 26 (by omega)).trans h1, fun q => (g 27 (by omega)).trans (h2 q), fun q => (g 27 (by omega)).trans (h3 q), fun q => ⟨(g 27 (by omega)).trans (h4 q).1, (g 28 (by omega)).trans (h4 q).2⟩, fun q => ⟨(g 27 (by omega)).trans (h5 q).1, (g 28 (by omega)).trans (h5 q).2⟩, fun q => ⟨(g 27 (by omega)).trans (h6 q).1, (g 28 (by omega)).trans (h6 q).2⟩⟩, fun q => ?_⟩
  obtain ⟨i, a, b⟩ := h7 q
  exact ⟨i, (g 25 (by omega)).trans a, b⟩
theorem PnR.fr {P : List Int} {D E : KK} (h : PnR P D) (g : E 479 41 = D 479 41) (g2 : ∀ k, E 506 k = D 506 k) : PnR P E := ⟨g.trans h.1, fun i hi => (g2 _).trans (h.2 i hi)⟩
theorem PnO_fr {P : Option (List Int)} {D E : KK} (h : PnO P D) (g : E 479 41 = D 479 41) (g2 : ∀ k, E 506 k = D 506 k) : PnO P E := by
  cases P with
  | none => trivial
  | some P => exact PnR.fr h g g2
theorem wt_l {s : Sg} {op : Int} (h : s.2.length < 400) : wtS op s = (s.1, s.2 ++ [op]) := congrArg (Prod.mk s.1) (if_pos h)
theorem RgO.emit {bs : List Int} {D0 D : KK} {s : Sg} {o : Int} {P : Option (List Int)} (h : RgO bs D0 s o P D) (op a b : Int) (hl : s.2.length < 400) (ho : opR op = (a, b)) : RgO bs D0 (wtS op s) o P (xui (xui (xui D 504 (800 + s.2.length) a) 505 (800 + s.2.length) b) 479 38 ((s.2.length : Int) + 1)) := by
  obtain ⟨h1, h2, h3, h4, h5, h6, h7, h8⟩ := h
  rw [wt_l hl]
  refine ⟨h1.fr (fun k q => (if_neg (fun r => by omega)).trans ((xui_a (by omega)).trans (xui_a (by omega)))), h2, h3, xui_s.trans (by show _ = (((s.2 ++ [op]).length : Nat) : Int); rw [List.length_append]; rfl), fun j hj => ?_, (xui_j (by omega)).trans ((xui_a (by omega)).trans ((xui_a (by omega)).trans h6)), PnO_fr h7 ((xui_j (by omega)).trans ((xui_a (by omega)).trans (xui_a (by omega)))) (fun k => (xui_a (by omega)).trans ((xui_a (by omega)).trans (xui_a (by omega)))), fun x k q1 q2 q3 => (if_neg (fun r => by have := q1 r.1; omega)).trans ((if_neg (fun r => by have := q2 (Or.inr r.1); omega)).trans ((if_neg (fun r => by have := q2 (Or.inl r.1); omega)).trans (h8 x k q1 q2 q3)))⟩
  have hj2 : j < s.2.length + 1 := by
    have := hj
    rw [show ((s.1, s.2 ++ [op]) : Sg).2 = s.2 ++ [op] from rfl, List.length_append] at this
    exact this
  show xui _ 479 38 _ 504 (800 + j) = (opR ((s.2 ++ [op]).getD j 0)).1 ∧ xui _ 479 38 _ 505 (800 + j) = (opR ((s.2 ++ [op]).getD j 0)).2
  rcases Classical.em (j = s.2.length) with q | q
  · have e : (s.2 ++ [op]).getD j 0 = op := by rw [q]; simp [List.getD]
    rw [e, ho, q]
    exact ⟨(xui_a (by omega)).trans ((xui_a (by omega)).trans xui_s), (xui_a (by omega)).trans xui_s⟩
  · have e : (s.2 ++ [op]).getD j 0 = s.2.getD j 0 := by simp [List.getD, List.getElem?_append, show j < s.2.length by omega]
    rw [e]
    have := h5 j (by omega)
    exact ⟨(xui_a (by omega)).trans ((xui_a (by omega)).trans ((xui_j (by omega)).trans this.1)), (xui_a (by omega)).trans ((xui_j (by omega)).trans ((xui_a (by omega)).trans this.2))⟩
set_option maxHeartbeats 1000000 in
theorem r_emits {n : Nat} {R : Nat → Nat → Option Nat} {D0 D : KK} {bs : List Int} {s : Sg} {o : Int} {P : Option (List Int)} (hR : RF R) (hS : RgO bs D0 s o P D) (op a c : Int) (ho : opR op = (a, c)) (hl : s.2.length < 400) : ∃ D', XC 1 203 [.inr (some 479), .inl a, .inl c] (xS n, R, D) none (xS n, R, D') ∧ RgO bs D0 (wtS op s) o P D' := by
  refine XE_of (Nat.le_of_ble_eq_true rfl) (Nat.le_of_ble_eq_true rfl) (loc := [_, _, _]) rfl ?_
  refine xx_aload_n (q := 1) rfl rfl rfl ?_
  refine xx_getR (q := 4) rfl rfl rfl xS_479 (Nat.le_of_ble_eq_true rfl) rfl (hR.1 479 35 rfl) ?_
  refine xx_sipush (q := 7) rfl rfl (by decide) ?_
  refine xx_aload_n (q := 8) rfl rfl rfl ?_
  refine xx_gez (q := 11) rfl rfl rfl xS_479 (Nat.le_of_ble_eq_true rfl) rfl (hS.2.2.2.1) ?_
  refine xx_iaddR (q := 12) rfl rfl (by omega) (by omega) ?_
  refine xx_iload_n (q := 13) rfl rfl rfl ?_
  refine xx_isz (q := 14) rfl rfl xS_504 (by omega) (by omega) rfl ?_
  refine xx_aload_n (q := 15) rfl rfl rfl ?_
  refine xx_getR (q := 18) rfl rfl rfl xS_479 (Nat.le_of_ble_eq_true rfl) rfl (hR.1 479 36 rfl) ?_
  refine xx_sipush (q := 21) rfl rfl (by decide) ?_
  refine xx_aload_n (q := 22) rfl rfl rfl ?_
  refine xx_gez (q := 25) rfl rfl rfl xS_479 (Nat.le_of_ble_eq_true rfl) rfl ((xui_a (by omega)).trans (hS.2.2.2.1)) ?_
  refine xx_iaddR (q := 26) rfl rfl (by omega) (by omega) ?_
  refine xx_iload_n (q := 27) rfl rfl rfl ?_
  refine xx_isz (q := 28) rfl rfl xS_505 (by omega) (by omega) rfl ?_
  refine xx_aload_n (q := 29) rfl rfl rfl ?_
  refine xx_aload_n (q := 30) rfl rfl rfl ?_
  refine xx_gez (q := 33) rfl rfl rfl xS_479 (Nat.le_of_ble_eq_true rfl) rfl ((xui_a (by omega)).trans ((xui_a (by omega)).trans (hS.2.2.2.1))) ?_
  refine xx_iconst (q := 34) rfl rfl (by decide) ?_
  refine xx_iaddR (q := 35) rfl rfl (by omega) (by omega) ?_
  refine xx_puz (q := 38) rfl rfl rfl xS_479 (Nat.le_of_ble_eq_true rfl) (Nat.le_of_ble_eq_true rfl) (fun h => by cases h) (Or.inl rfl) rfl ?_
  refine xx_vret rfl rfl ⟨rfl, _, rfl, ?_⟩
  rw [show (800 + (s.2.length : Int)).toNat = 800 + s.2.length by omega]
  exact hS.emit op a c hl ho
theorem r_nexT {n : Nat} {R : Nat → Nat → Option Nat} {D0 D : KK} {bs : List Int} {s : Sg} {o : Int} {P : Option (List Int)} (hR : RF R) (hT : TpR bs D0) (hl4 : bs.length ≤ 400) (hby : ∀ j, 0 ≤ bs.getD j 0 ∧ bs.getD j 0 ≤ 255) (hW : WdR D0) (hS : RgO bs D0 s o P D) (hne : kdS s ≠ 258) : ∃ D', XC 3 199 [.inr (some 479)] (xS n, R, D) none (xS n, R, D') ∧ RgO bs D0 (stS s) o P D' ∧ szS (stS s) + 1 = szS s := by
  obtain ⟨hK, hw, hkd, hl1⟩ := hS.hd
  obtain ⟨⟨t, r, e, h1, h7⟩, h2, h3, h4, h5, h6, hp, h8⟩ := hS
  have et : hdT s.1 = t := by unfold hdT; rw [e]; rfl
  rw [hkd, et] at hne
  obtain ⟨i, i1, i2, i3⟩ := h7 hne
  rw [e] at h2
  obtain ⟨_, ⟨_, q⟩ | ⟨_, hwr, hrn⟩⟩ := wfL_c h2
  · exact absurd q hne
  have hTD : TpR bs D := hT.fr (fun x k q => h8 x k (by omega) (by omega) (by omega))
  have hWD : WdR D := fun j hj => (h8 498 j (by omega) (by omega) (by omega)).trans (hW j hj)
  obtain ⟨D', hx, hr, hf⟩ := r_reads (n := n) hR bs hTD hl4 hby hWD i1 i2
  rw [i3] at hr
  have es : stS s = ((s.1.1, s.1.2.1, r), s.2) := by
    unfold stS stT
    rw [e, if_pos (by rw [List.length_cons]; cases r with | nil => exact absurd rfl hrn | cons u r => rw [List.length_cons]; omega)]
    rfl
  refine ⟨D', hx, ?_, ?_⟩
  · rw [es]
    exact ⟨hr, hwr, h3, (hf _ _ (by omega)).trans h4, fun j hj => ⟨(hf _ _ (by omega)).trans (h5 j hj).1, (hf _ _ (by omega)).trans (h5 j hj).2⟩, (hf _ _ (by omega)).trans h6, PnO_fr hp (hf _ _ (by omega)) (fun k => hf _ _ (by omega)), fun x k q1 q2 q3 => (hf x k (by omega)).trans (h8 x k q1 q2 q3)⟩
  · rw [es]
    unfold szS
    rw [e, List.length_cons]
    show s.2.length + r.length + 1 = _
    omega
