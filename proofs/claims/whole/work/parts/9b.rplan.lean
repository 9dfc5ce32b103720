/-! A plan is read: the class. -/
abbrev Pg : Type := Tt × (Nat → Int)
def kdP (s : Pg) : Int := kdT s.1
def stP (s : Pg) : Pg := (stT s.1, s.2)
def wrP (k : Int) (s : Pg) : Pg := (wrT k s.1, s.2)
def tkP (k : Int) (s : Pg) : Pg := (tkT k s.1, s.2)
def exP (k : Int) (s : Pg) : Pg := (exT k s.1, s.2)
def ptP (j v : Int) (s : Pg) : Pg := (s.1, fset s.2 j.toNat v)
def nwP (lo hi j : Int) (s : Pg) : Pg := (nwT lo hi s.1, fset s.2 j.toNat (vlT s.1))
def upQ (s : Pg) : Pg := if kdP s = 315 then stP s else exP 326 s
def wiP (a B : Int) (s : Pg) : Pg := if kdP s = 327 then nwP 0 (B - 1) (a + 3) (stP s) else ptP (a + 3) (-1) s
def psQ (a B : Int) (s : Pg) : Pg := wiP a B (ptP (a + 2) (if kdP (nwP 0 (B - 1) (a + 1) s) = 315 then 1 else 0) (upQ (nwP 0 (B - 1) (a + 1) s)))
def gvP9 (a Lk B : Int) (s : Pg) : Pg := nwP 0 (B - 1) (a + 4) (exP 330 (nwP 0 (Lk - 1) (a + 3) (exP 329 (nwP 0 3 (a + 2) (exP 328 (nwP 1 99 (a + 1) s))))))
def doQ (k a Lk B : Int) (s : Pg) : Pg := if k = 322 then psQ a B s else if k = 323 then gvP9 a Lk B s else if k = 324 then nwP 1 9 (a + 2) (nwP 0 (Lk - 1) (a + 1) s) else nwP 1 99 (a + 1) s
def spP (bf Lk B : Int) (s : Pg) : Pg := if ¬ (322 ≤ kdP s ∧ kdP s ≤ 325) then wrP 1 s else if bf < 30 then exP 59 (doQ (kdP s) (bf * 5) Lk B (stP (ptP (bf * 5) (kdP s) s))) else wrP 3 s
def plQ (Lk B : Int) : Nat → Int → Pg → Int × Pg
  | 0, r, s => (r, s)
  | k + 1, r, s => if kdP s = 258 then (r, s) else plQ Lk B k (r + 1) (spP r Lk B s)
def PlS (dr : Nat) (al : List Tk) (D0 : KK) (s : Pg) (D : KK) : Prop := TS al s.1 D ∧ (∀ j, j < 150 → D dr j = s.2 j) ∧ ∀ x k, (x = 474 → k ≠ 1 ∧ k ≠ 2 ∧ k ≠ 8) → x ≠ dr → D x k = D0 x k
theorem PlS.tp {dr : Nat} {al : List Tk} {D0 D E : KK} {s : Pg} {t : Tt} (h : PlS dr al D0 s D) (hd : dr ≠ 474) (g : TS al t E) (f : FSt D E) : PlS dr al D0 (t, s.2) E := ⟨g, fun j hj => (f _ _ (by omega)).trans (h.2.1 j hj), fun x k q1 q2 => (f x k q1).trans (h.2.2 x k q1 q2)⟩
theorem PlS.put {dr : Nat} {al : List Tk} {D0 D : KK} {s : Pg} (h : PlS dr al D0 s D) (hd : dr = 16 ∨ dr = 17) (j : Nat) (v : Int) : PlS dr al D0 (s.1, fset s.2 j v) (xui D dr j v) := by
  obtain ⟨⟨t1, t2, ⟨m, e1, e2⟩, t4, t5, t6⟩, h2, h3⟩ := h
  refine ⟨⟨(xui_a (by omega)).trans t1, (xui_a (by omega)).trans t2, ⟨m, e1, (xui_a (by omega)).trans e2⟩, t4, t5.fr (fun x k q => xui_a (by omega)), t6⟩, fun i hi => ?_, fun x k q1 q2 => (xui_a q2).trans (h3 x k q1 q2)⟩
  rw [xui_f]
  show fset (D dr) j v i = fset s.2 j v i
  unfold fset
  split
  · rfl
  · exact h2 i hi
theorem c_kindP {n : Nat} {R : Nat → Nat → Option Nat} {D : KK} {al : List Tk} {s : Pg} (hR : RF R) (hS : TS al s.1 D) : XC 1 93 [.inr (some 474)] (xS n, R, D) (some (.inl (kdP s))) (xS n, R, D) := c_kind hR hS
theorem tkp_n {k : Int} {s : Pg} (h : ¬ kdP s = k) : tkP k s = s := congrArg (fun t => (t, s.2)) (if_neg h)
theorem tkp_y {k : Int} {s : Pg} (h : kdP s = k) : tkP k s = stP s := congrArg (fun t => (t, s.2)) (if_pos h)
set_option maxHeartbeats 1000000 in
theorem c_ps9 {n dr : Nat} {R : Nat → Nat → Option Nat} {D0 D : KK} {al : List Tk} {s : Pg} (hR : RF R) (hdr : R 15 5 = some dr) (hdr2 : dr = 16 ∨ dr = 17) (hS : PlS dr al D0 s D) (a B : Int) (ha0 : 0 ≤ a) (ha1 : a ≤ 145) (hB0 : 0 ≤ B) (hB1 : B ≤ 6) : ∃ D', XC 4 87 [.inr (some 15), .inr (some 474), .inl a, .inl B] (xS n, R, D) none (xS n, R, D') ∧ PlS dr al D0 (psQ a B s) D' := by
  have hsdr := sh_sa (n := n) hdr2
  refine XE_of (Nat.le_of_ble_eq_true rfl) (Nat.le_of_ble_eq_true rfl) (loc := [_, _, _, _, _]) rfl ?_
  refine xx_aload_n (q := 1) rfl rfl rfl ?_
  refine xx_getR (q := 4) rfl rfl rfl xS_15 (Nat.le_of_ble_eq_true rfl) rfl (hdr) ?_
  refine xx_iload_n (q := 5) rfl rfl rfl ?_
  refine xx_iconst (q := 6) rfl rfl (by decide) ?_
  refine xx_iaddR (q := 7) rfl rfl (by omega) (by omega) ?_
  refine xx_aload_n (q := 8) rfl rfl rfl ?_
  refine xx_iconst (q := 9) rfl rfl (by decide) ?_
  refine xx_iload_n (q := 10) rfl rfl rfl ?_
  refine xx_iconst (q := 11) rfl rfl (by decide) ?_
  refine xx_isubR (q := 12) rfl rfl (by omega) (by omega) ?_
  obtain ⟨D1, hx1, hq1, hg1⟩ := c_nw (n := n) hR hS.1 0 (B - 1)
  have hS1 : PlS dr al D0 ((nwT 0 (B - 1) s.1, s.2)) D1 := hS.tp (by omega) hq1 hg1
  refine xx_callV (q := 15) (As := [_, _]) (rest := [_, _]) rfl rfl rfl (Or.inl rfl) rfl rfl (Nat.le_of_ble_eq_true rfl) xS_474 (XCm hx1 rfl) rfl ?_
  refine xr_isz (PlS dr al D0 (nwP 0 (B - 1) (a + 1) s)) (q := 16) rfl rfl hsdr (by omega) (by omega) (hS1.put hdr2 _ _) (fun D3 hS3 => ?_)
  refine xx_aload_n (q := 17) rfl rfl rfl ?_
  refine xx_sipush (q := 20) rfl rfl (by decide) ?_
  obtain ⟨D4, hx4, hq4, hg4⟩ := c_take (n := n) hR hS3.1 315
  have hS4 : PlS dr al D0 (tkP 315 (nwP 0 (B - 1) (a + 1) s)) D4 := hS3.tp (by omega) hq4 hg4
  refine xx_callV (q := 23) (As := [_]) (rest := []) rfl rfl rfl (Or.inl rfl) rfl rfl (Nat.le_of_ble_eq_true rfl) xS_474 (XCm hx4 rfl) rfl ?_
  refine xx_istore (q := 25) (loc2 := [_, _, _, _, _]) rfl rfl (Nat.le_of_ble_eq_true rfl) rfl ?_
  refine xx_iload (q := 27) rfl rfl rfl ?_
  refine xx_ifb_ne (q := 37) (q2 := 30) rfl rfl rfl (fun h27 => ?_) (fun h27 => ?_)
  · refine xx_aload_n (q := 38) rfl rfl rfl ?_
    refine xx_getR (q := 41) rfl rfl rfl xS_15 (Nat.le_of_ble_eq_true rfl) rfl (hdr) ?_
    refine xx_iload_n (q := 42) rfl rfl rfl ?_
    refine xx_iconst (q := 43) rfl rfl (by decide) ?_
    refine xx_iaddR (q := 44) rfl rfl (by omega) (by omega) ?_
    refine xx_iload (q := 46) rfl rfl rfl ?_
    refine xx_ifb_eq (q := 53) (q2 := 49) rfl rfl rfl (fun h46 => (by exfalso; (exact h46 h27))) (fun _ => ?_)
    refine xx_iconst (q := 50) rfl rfl (by decide) ?_
    refine xx_goto (q := 54) rfl rfl ?_
    refine xr_isz (PlS dr al D0 (ptP (a + 2) 1 (tkP 315 (nwP 0 (B - 1) (a + 1) s)))) (q := 55) rfl rfl hsdr (by omega) (by omega) (hS4.put hdr2 _ _) (fun D6 hS6 => ?_)
    refine xx_aload_n (q := 56) rfl rfl rfl ?_
    refine xx_getR (q := 59) rfl rfl rfl xS_15 (Nat.le_of_ble_eq_true rfl) rfl (hdr) ?_
    refine xx_iload_n (q := 60) rfl rfl rfl ?_
    refine xx_iconst (q := 61) rfl rfl (by decide) ?_
    refine xx_iaddR (q := 62) rfl rfl (by omega) (by omega) ?_
    refine xx_aload_n (q := 63) rfl rfl rfl ?_
    refine xx_sipush (q := 66) rfl rfl (by decide) ?_
    obtain ⟨D7, hx7, hq7, hg7⟩ := c_take (n := n) hR hS6.1 327
    have hS7 : PlS dr al D0 (tkP 327 (ptP (a + 2) 1 (tkP 315 (nwP 0 (B - 1) (a + 1) s)))) D7 := hS6.tp (by omega) hq7 hg7
    refine xx_callV (q := 69) (As := [_]) (rest := [_, _]) rfl rfl rfl (Or.inl rfl) rfl rfl (Nat.le_of_ble_eq_true rfl) xS_474 (XCm hx7 rfl) rfl ?_
    refine xx_ifb_eq (q := 83) (q2 := 72) rfl rfl rfl (fun h69 => ?_) (fun h69 => ?_)
    · refine xx_iconst (q := 84) rfl rfl (by decide) ?_
      refine xr_isz (PlS dr al D0 (ptP (a + 3) (-1) (tkP 327 (ptP (a + 2) 1 (tkP 315 (nwP 0 (B - 1) (a + 1) s)))))) (q := 85) rfl rfl hsdr (by omega) (by omega) (hS7.put hdr2 _ _) (fun D9 hS9 => ?_)
      refine xx_vret rfl rfl ⟨rfl, _, rfl, ?_⟩
      have eu : upQ (nwP 0 (B - 1) (a + 1) s) = tkP 315 (nwP 0 (B - 1) (a + 1) s) := (if_pos h27).trans (tkp_y h27).symm
      have ev : (if kdP (nwP 0 (B - 1) (a + 1) s) = 315 then (1 : Int) else 0) = 1 := if_pos h27
      have ew : wiP a B (ptP (a + 2) 1 (tkP 315 (nwP 0 (B - 1) (a + 1) s))) = ptP (a + 3) (-1) (tkP 327 (ptP (a + 2) 1 (tkP 315 (nwP 0 (B - 1) (a + 1) s)))) := (if_neg h69).trans (by rw [tkp_n h69])
      have e : psQ a B s = ptP (a + 3) (-1) (tkP 327 (ptP (a + 2) 1 (tkP 315 (nwP 0 (B - 1) (a + 1) s)))) := by unfold psQ; rw [eu, ev, ew]
      rw [e]
      exact hS9
    · refine xx_aload_n (q := 73) rfl rfl rfl ?_
      refine xx_iconst (q := 74) rfl rfl (by decide) ?_
      refine xx_iload_n (q := 75) rfl rfl rfl ?_
      refine xx_iconst (q := 76) rfl rfl (by decide) ?_
      refine xx_isubR (q := 77) rfl rfl (by omega) (by omega) ?_
      obtain ⟨D10, hx10, hq10, hg10⟩ := c_nw (n := n) hR hS7.1 0 (B - 1)
      have hS10 : PlS dr al D0 ((nwT 0 (B - 1) (tkP 327 (ptP (a + 2) 1 (tkP 315 (nwP 0 (B - 1) (a + 1) s)))).1, (tkP 327 (ptP (a + 2) 1 (tkP 315 (nwP 0 (B - 1) (a + 1) s)))).2)) D10 := hS7.tp (by omega) hq10 hg10
      refine xx_callV (q := 80) (As := [_, _]) (rest := [_, _]) rfl rfl rfl (Or.inl rfl) rfl rfl (Nat.le_of_ble_eq_true rfl) xS_474 (XCm hx10 rfl) rfl ?_
      refine xx_goto (q := 84) rfl rfl ?_
      refine xr_isz (PlS dr al D0 (nwP 0 (B - 1) (a + 3) (tkP 327 (ptP (a + 2) 1 (tkP 315 (nwP 0 (B - 1) (a + 1) s)))))) (q := 85) rfl rfl hsdr (by omega) (by omega) (hS10.put hdr2 _ _) (fun D12 hS12 => ?_)
      refine xx_vret rfl rfl ⟨rfl, _, rfl, ?_⟩
      have eu : upQ (nwP 0 (B - 1) (a + 1) s) = tkP 315 (nwP 0 (B - 1) (a + 1) s) := (if_pos h27).trans (tkp_y h27).symm
      have ev : (if kdP (nwP 0 (B - 1) (a + 1) s) = 315 then (1 : Int) else 0) = 1 := if_pos h27
      have ew : wiP a B (ptP (a + 2) 1 (tkP 315 (nwP 0 (B - 1) (a + 1) s))) = nwP 0 (B - 1) (a + 3) (tkP 327 (ptP (a + 2) 1 (tkP 315 (nwP 0 (B - 1) (a + 1) s)))) := (if_pos h69).trans (by rw [tkp_y h69])
      have e : psQ a B s = nwP 0 (B - 1) (a + 3) (tkP 327 (ptP (a + 2) 1 (tkP 315 (nwP 0 (B - 1) (a + 1) s)))) := by unfold psQ; rw [eu, ev, ew]
      rw [e]
      exact hS12
  · refine xx_aload_n (q := 31) rfl rfl rfl ?_
    refine xx_sipush (q := 34) rfl rfl (by decide) ?_
    obtain ⟨D13, hx13, hq13, hg13⟩ := c_expect (n := n) hR hS4.1 326
    have hS13 : PlS dr al D0 (exP 326 (tkP 315 (nwP 0 (B - 1) (a + 1) s))) D13 := hS4.tp (by omega) hq13 hg13
    refine xx_callV (q := 37) (As := [_]) (rest := []) rfl rfl rfl (Or.inl rfl) rfl rfl (Nat.le_of_ble_eq_true rfl) xS_474 (XCm hx13 rfl) rfl ?_
    refine xx_aload_n (q := 38) rfl rfl rfl ?_
    refine xx_getR (q := 41) rfl rfl rfl xS_15 (Nat.le_of_ble_eq_true rfl) rfl (hdr) ?_
    refine xx_iload_n (q := 42) rfl rfl rfl ?_
    refine xx_iconst (q := 43) rfl rfl (by decide) ?_
    refine xx_iaddR (q := 44) rfl rfl (by omega) (by omega) ?_
    refine xx_iload (q := 46) rfl rfl rfl ?_
    refine xx_ifb_eq (q := 53) (q2 := 49) rfl rfl rfl (fun _ => ?_) (fun h46 => (by exfalso; (exact h27 h46)))
    refine xx_iconst (q := 54) rfl rfl (by decide) ?_
    refine xr_isz (PlS dr al D0 (ptP (a + 2) 0 (exP 326 (tkP 315 (nwP 0 (B - 1) (a + 1) s))))) (q := 55) rfl rfl hsdr (by omega) (by omega) (hS13.put hdr2 _ _) (fun D15 hS15 => ?_)
    refine xx_aload_n (q := 56) rfl rfl rfl ?_
    refine xx_getR (q := 59) rfl rfl rfl xS_15 (Nat.le_of_ble_eq_true rfl) rfl (hdr) ?_
    refine xx_iload_n (q := 60) rfl rfl rfl ?_
    refine xx_iconst (q := 61) rfl rfl (by decide) ?_
    refine xx_iaddR (q := 62) rfl rfl (by omega) (by omega) ?_
    refine xx_aload_n (q := 63) rfl rfl rfl ?_
    refine xx_sipush (q := 66) rfl rfl (by decide) ?_
    obtain ⟨D16, hx16, hq16, hg16⟩ := c_take (n := n) hR hS15.1 327
    have hS16 : PlS dr al D0 (tkP 327 (ptP (a + 2) 0 (exP 326 (tkP 315 (nwP 0 (B - 1) (a + 1) s))))) D16 := hS15.tp (by omega) hq16 hg16
    refine xx_callV (q := 69) (As := [_]) (rest := [_, _]) rfl rfl rfl (Or.inl rfl) rfl rfl (Nat.le_of_ble_eq_true rfl) xS_474 (XCm hx16 rfl) rfl ?_
    refine xx_ifb_eq (q := 83) (q2 := 72) rfl rfl rfl (fun h69 => ?_) (fun h69 => ?_)
    · refine xx_iconst (q := 84) rfl rfl (by decide) ?_
      refine xr_isz (PlS dr al D0 (ptP (a + 3) (-1) (tkP 327 (ptP (a + 2) 0 (exP 326 (tkP 315 (nwP 0 (B - 1) (a + 1) s))))))) (q := 85) rfl rfl hsdr (by omega) (by omega) (hS16.put hdr2 _ _) (fun D18 hS18 => ?_)
      refine xx_vret rfl rfl ⟨rfl, _, rfl, ?_⟩
      have eu : upQ (nwP 0 (B - 1) (a + 1) s) = exP 326 (tkP 315 (nwP 0 (B - 1) (a + 1) s)) := (if_neg h27).trans (by rw [tkp_n h27])
      have ev : (if kdP (nwP 0 (B - 1) (a + 1) s) = 315 then (1 : Int) else 0) = 0 := if_neg h27
      have ew : wiP a B (ptP (a + 2) 0 (exP 326 (tkP 315 (nwP 0 (B - 1) (a + 1) s)))) = ptP (a + 3) (-1) (tkP 327 (ptP (a + 2) 0 (exP 326 (tkP 315 (nwP 0 (B - 1) (a + 1) s))))) := (if_neg h69).trans (by rw [tkp_n h69])
      have e : psQ a B s = ptP (a + 3) (-1) (tkP 327 (ptP (a + 2) 0 (exP 326 (tkP 315 (nwP 0 (B - 1) (a + 1) s))))) := by unfold psQ; rw [eu, ev, ew]
      rw [e]
      exact hS18
    · refine xx_aload_n (q := 73) rfl rfl rfl ?_
      refine xx_iconst (q := 74) rfl rfl (by decide) ?_
      refine xx_iload_n (q := 75) rfl rfl rfl ?_
      refine xx_iconst (q := 76) rfl rfl (by decide) ?_
      refine xx_isubR (q := 77) rfl rfl (by omega) (by omega) ?_
      obtain ⟨D19, hx19, hq19, hg19⟩ := c_nw (n := n) hR hS16.1 0 (B - 1)
      have hS19 : PlS dr al D0 ((nwT 0 (B - 1) (tkP 327 (ptP (a + 2) 0 (exP 326 (tkP 315 (nwP 0 (B - 1) (a + 1) s))))).1, (tkP 327 (ptP (a + 2) 0 (exP 326 (tkP 315 (nwP 0 (B - 1) (a + 1) s))))).2)) D19 := hS16.tp (by omega) hq19 hg19
      refine xx_callV (q := 80) (As := [_, _]) (rest := [_, _]) rfl rfl rfl (Or.inl rfl) rfl rfl (Nat.le_of_ble_eq_true rfl) xS_474 (XCm hx19 rfl) rfl ?_
      refine xx_goto (q := 84) rfl rfl ?_
      refine xr_isz (PlS dr al D0 (nwP 0 (B - 1) (a + 3) (tkP 327 (ptP (a + 2) 0 (exP 326 (tkP 315 (nwP 0 (B - 1) (a + 1) s))))))) (q := 85) rfl rfl hsdr (by omega) (by omega) (hS19.put hdr2 _ _) (fun D21 hS21 => ?_)
      refine xx_vret rfl rfl ⟨rfl, _, rfl, ?_⟩
      have eu : upQ (nwP 0 (B - 1) (a + 1) s) = exP 326 (tkP 315 (nwP 0 (B - 1) (a + 1) s)) := (if_neg h27).trans (by rw [tkp_n h27])
      have ev : (if kdP (nwP 0 (B - 1) (a + 1) s) = 315 then (1 : Int) else 0) = 0 := if_neg h27
      have ew : wiP a B (ptP (a + 2) 0 (exP 326 (tkP 315 (nwP 0 (B - 1) (a + 1) s)))) = nwP 0 (B - 1) (a + 3) (tkP 327 (ptP (a + 2) 0 (exP 326 (tkP 315 (nwP 0 (B - 1) (a + 1) s))))) := (if_pos h69).trans (by rw [tkp_y h69])
      have e : psQ a B s = nwP 0 (B - 1) (a + 3) (tkP 327 (ptP (a + 2) 0 (exP 326 (tkP 315 (nwP 0 (B - 1) (a + 1) s))))) := by unfold psQ; rw [eu, ev, ew]
      rw [e]
      exact hS21
set_option maxHeartbeats 1000000 in
theorem c_gv9 {n dr : Nat} {R : Nat → Nat → Option Nat} {D0 D : KK} {al : List Tk} {s : Pg} (hR : RF R) (hdr : R 15 5 = some dr) (hdr2 : dr = 16 ∨ dr = 17) (hS : PlS dr al D0 s D) (a Lk B : Int) (ha0 : 0 ≤ a) (ha1 : a ≤ 145) (hB0 : 0 ≤ B) (hB1 : B ≤ 6) (hL0 : 0 ≤ Lk) (hL1 : Lk ≤ 9) : ∃ D', XC 4 88 [.inr (some 15), .inr (some 474), .inl a, .inl Lk, .inl B] (xS n, R, D) none (xS n, R, D') ∧ PlS dr al D0 (gvP9 a Lk B s) D' := by
  have hsdr := sh_sa (n := n) hdr2
  refine XE_of (Nat.le_of_ble_eq_true rfl) (Nat.le_of_ble_eq_true rfl) (loc := [_, _, _, _, _]) rfl ?_
  refine xx_aload_n (q := 1) rfl rfl rfl ?_
  refine xx_getR (q := 4) rfl rfl rfl xS_15 (Nat.le_of_ble_eq_true rfl) rfl (hdr) ?_
  refine xx_iload_n (q := 5) rfl rfl rfl ?_
  refine xx_iconst (q := 6) rfl rfl (by decide) ?_
  refine xx_iaddR (q := 7) rfl rfl (by omega) (by omega) ?_
  refine xx_aload_n (q := 8) rfl rfl rfl ?_
  refine xx_iconst (q := 9) rfl rfl (by decide) ?_
  refine xx_bipush (q := 11) rfl rfl (by decide) ?_
  obtain ⟨D1, hx1, hq1, hg1⟩ := c_nw (n := n) hR hS.1 1 99
  have hS1 : PlS dr al D0 ((nwT 1 99 s.1, s.2)) D1 := hS.tp (by omega) hq1 hg1
  refine xx_callV (q := 14) (As := [_, _]) (rest := [_, _]) rfl rfl rfl (Or.inl rfl) rfl rfl (Nat.le_of_ble_eq_true rfl) xS_474 (XCm hx1 rfl) rfl ?_
  refine xr_isz (PlS dr al D0 (nwP 1 99 (a + 1) s)) (q := 15) rfl rfl hsdr (by omega) (by omega) (hS1.put hdr2 _ _) (fun D3 hS3 => ?_)
  refine xx_aload_n (q := 16) rfl rfl rfl ?_
  refine xx_sipush (q := 19) rfl rfl (by decide) ?_
  obtain ⟨D4, hx4, hq4, hg4⟩ := c_expect (n := n) hR hS3.1 328
  have hS4 : PlS dr al D0 (exP 328 (nwP 1 99 (a + 1) s)) D4 := hS3.tp (by omega) hq4 hg4
  refine xx_callV (q := 22) (As := [_]) (rest := []) rfl rfl rfl (Or.inl rfl) rfl rfl (Nat.le_of_ble_eq_true rfl) xS_474 (XCm hx4 rfl) rfl ?_
  refine xx_aload_n (q := 23) rfl rfl rfl ?_
  refine xx_getR (q := 26) rfl rfl rfl xS_15 (Nat.le_of_ble_eq_true rfl) rfl (hdr) ?_
  refine xx_iload_n (q := 27) rfl rfl rfl ?_
  refine xx_iconst (q := 28) rfl rfl (by decide) ?_
  refine xx_iaddR (q := 29) rfl rfl (by omega) (by omega) ?_
  refine xx_aload_n (q := 30) rfl rfl rfl ?_
  refine xx_iconst (q := 31) rfl rfl (by decide) ?_
  refine xx_iconst (q := 32) rfl rfl (by decide) ?_
  obtain ⟨D5, hx5, hq5, hg5⟩ := c_nw (n := n) hR hS4.1 0 3
  have hS5 : PlS dr al D0 ((nwT 0 3 (exP 328 (nwP 1 99 (a + 1) s)).1, (exP 328 (nwP 1 99 (a + 1) s)).2)) D5 := hS4.tp (by omega) hq5 hg5
  refine xx_callV (q := 35) (As := [_, _]) (rest := [_, _]) rfl rfl rfl (Or.inl rfl) rfl rfl (Nat.le_of_ble_eq_true rfl) xS_474 (XCm hx5 rfl) rfl ?_
  refine xr_isz (PlS dr al D0 (nwP 0 3 (a + 2) (exP 328 (nwP 1 99 (a + 1) s)))) (q := 36) rfl rfl hsdr (by omega) (by omega) (hS5.put hdr2 _ _) (fun D7 hS7 => ?_)
  refine xx_aload_n (q := 37) rfl rfl rfl ?_
  refine xx_sipush (q := 40) rfl rfl (by decide) ?_
  obtain ⟨D8, hx8, hq8, hg8⟩ := c_expect (n := n) hR hS7.1 329
  have hS8 : PlS dr al D0 (exP 329 (nwP 0 3 (a + 2) (exP 328 (nwP 1 99 (a + 1) s)))) D8 := hS7.tp (by omega) hq8 hg8
  refine xx_callV (q := 43) (As := [_]) (rest := []) rfl rfl rfl (Or.inl rfl) rfl rfl (Nat.le_of_ble_eq_true rfl) xS_474 (XCm hx8 rfl) rfl ?_
  refine xx_aload_n (q := 44) rfl rfl rfl ?_
  refine xx_getR (q := 47) rfl rfl rfl xS_15 (Nat.le_of_ble_eq_true rfl) rfl (hdr) ?_
  refine xx_iload_n (q := 48) rfl rfl rfl ?_
  refine xx_iconst (q := 49) rfl rfl (by decide) ?_
  refine xx_iaddR (q := 50) rfl rfl (by omega) (by omega) ?_
  refine xx_aload_n (q := 51) rfl rfl rfl ?_
  refine xx_iconst (q := 52) rfl rfl (by decide) ?_
  refine xx_iload_n (q := 53) rfl rfl rfl ?_
  refine xx_iconst (q := 54) rfl rfl (by decide) ?_
  refine xx_isubR (q := 55) rfl rfl (by omega) (by omega) ?_
  obtain ⟨D9, hx9, hq9, hg9⟩ := c_nw (n := n) hR hS8.1 0 (Lk - 1)
  have hS9 : PlS dr al D0 ((nwT 0 (Lk - 1) (exP 329 (nwP 0 3 (a + 2) (exP 328 (nwP 1 99 (a + 1) s)))).1, (exP 329 (nwP 0 3 (a + 2) (exP 328 (nwP 1 99 (a + 1) s)))).2)) D9 := hS8.tp (by omega) hq9 hg9
  refine xx_callV (q := 58) (As := [_, _]) (rest := [_, _]) rfl rfl rfl (Or.inl rfl) rfl rfl (Nat.le_of_ble_eq_true rfl) xS_474 (XCm hx9 rfl) rfl ?_
  refine xr_isz (PlS dr al D0 (nwP 0 (Lk - 1) (a + 3) (exP 329 (nwP 0 3 (a + 2) (exP 328 (nwP 1 99 (a + 1) s)))))) (q := 59) rfl rfl hsdr (by omega) (by omega) (hS9.put hdr2 _ _) (fun D11 hS11 => ?_)
  refine xx_aload_n (q := 60) rfl rfl rfl ?_
  refine xx_sipush (q := 63) rfl rfl (by decide) ?_
  obtain ⟨D12, hx12, hq12, hg12⟩ := c_expect (n := n) hR hS11.1 330
  have hS12 : PlS dr al D0 (exP 330 (nwP 0 (Lk - 1) (a + 3) (exP 329 (nwP 0 3 (a + 2) (exP 328 (nwP 1 99 (a + 1) s)))))) D12 := hS11.tp (by omega) hq12 hg12
  refine xx_callV (q := 66) (As := [_]) (rest := []) rfl rfl rfl (Or.inl rfl) rfl rfl (Nat.le_of_ble_eq_true rfl) xS_474 (XCm hx12 rfl) rfl ?_
  refine xx_aload_n (q := 67) rfl rfl rfl ?_
  refine xx_getR (q := 70) rfl rfl rfl xS_15 (Nat.le_of_ble_eq_true rfl) rfl (hdr) ?_
  refine xx_iload_n (q := 71) rfl rfl rfl ?_
  refine xx_iconst (q := 72) rfl rfl (by decide) ?_
  refine xx_iaddR (q := 73) rfl rfl (by omega) (by omega) ?_
  refine xx_aload_n (q := 74) rfl rfl rfl ?_
  refine xx_iconst (q := 75) rfl rfl (by decide) ?_
  refine xx_iload (q := 77) rfl rfl rfl ?_
  refine xx_iconst (q := 78) rfl rfl (by decide) ?_
  refine xx_isubR (q := 79) rfl rfl (by omega) (by omega) ?_
  obtain ⟨D13, hx13, hq13, hg13⟩ := c_nw (n := n) hR hS12.1 0 (B - 1)
  have hS13 : PlS dr al D0 ((nwT 0 (B - 1) (exP 330 (nwP 0 (Lk - 1) (a + 3) (exP 329 (nwP 0 3 (a + 2) (exP 328 (nwP 1 99 (a + 1) s)))))).1, (exP 330 (nwP 0 (Lk - 1) (a + 3) (exP 329 (nwP 0 3 (a + 2) (exP 328 (nwP 1 99 (a + 1) s)))))).2)) D13 := hS12.tp (by omega) hq13 hg13
  refine xx_callV (q := 82) (As := [_, _]) (rest := [_, _]) rfl rfl rfl (Or.inl rfl) rfl rfl (Nat.le_of_ble_eq_true rfl) xS_474 (XCm hx13 rfl) rfl ?_
  refine xr_isz (PlS dr al D0 (nwP 0 (B - 1) (a + 4) (exP 330 (nwP 0 (Lk - 1) (a + 3) (exP 329 (nwP 0 3 (a + 2) (exP 328 (nwP 1 99 (a + 1) s)))))))) (q := 83) rfl rfl hsdr (by omega) (by omega) (hS13.put hdr2 _ _) (fun D15 hS15 => ?_)
  refine xx_vret rfl rfl ⟨rfl, _, rfl, ?_⟩
  exact hS15
set_option maxHeartbeats 4000000 in
theorem c_sp9 {n dr : Nat} {R : Nat → Nat → Option Nat} {D0 D : KK} {al : List Tk} {s : Pg} (hR : RF R) (hdr : R 15 5 = some dr) (hdr2 : dr = 16 ∨ dr = 17) (hS : PlS dr al D0 s D) (bf Lk B : Int) (hb0 : 0 ≤ bf) (hb30 : bf ≤ 30) (hB0 : 0 ≤ B) (hB1 : B ≤ 6) (hL0 : 0 ≤ Lk) (hL1 : Lk ≤ 9) : ∃ D', XC 5 86 [.inr (some 15), .inr (some 474), .inl bf, .inl Lk, .inl B] (xS n, R, D) none (xS n, R, D') ∧ PlS dr al D0 (spP bf Lk B s) D' := by
  have hsdr := sh_sa (n := n) hdr2
  refine XE_of (Nat.le_of_ble_eq_true rfl) (Nat.le_of_ble_eq_true rfl) (loc := [_, _, _, _, _, _, _, _]) rfl ?_
  refine xx_aload_n (q := 1) rfl rfl rfl ?_
  have hkb1 := kdT_b hS.1
  change 0 ≤ kdP s ∧ kdP s ≤ 400 at hkb1
  refine xx_callV (q := 4) (As := []) (rest := []) rfl rfl rfl (Or.inl rfl) rfl rfl (Nat.le_of_ble_eq_true rfl) xS_474 (XCm (c_kindP (n := n) (s := s) hR hS.1) rfl) rfl ?_
  refine xx_istore (q := 6) (loc2 := [_, _, _, _, _, _, _, _]) rfl rfl (Nat.le_of_ble_eq_true rfl) rfl ?_
  refine xx_iload (q := 8) rfl rfl rfl ?_
  refine xx_sipush (q := 11) rfl rfl (by decide) ?_
  refine xx_sipush (q := 14) rfl rfl (by decide) ?_
  refine xx_callS (q := 17) (As := [_, _, _]) (rest := []) rfl rfl rfl (Or.inr rfl) rfl rfl (Nat.le_of_ble_eq_true rfl) (XCm (c_within (kdP s) 322 325) rfl) rfl ?_
  refine xx_istore (q := 19) (loc2 := [_, _, _, _, _, _, _, _]) rfl rfl (Nat.le_of_ble_eq_true rfl) rfl ?_
  refine xx_iload (q := 21) rfl rfl rfl ?_
  refine xx_ifb_eq (q := 30) (q2 := 24) rfl rfl rfl (fun h21 => ?_) (fun h21 => ?_)
  · refine xx_aload_n (q := 31) rfl rfl rfl ?_
    refine xx_iload (q := 33) rfl rfl rfl ?_
    refine xx_ifb_eq (q := 40) (q2 := 36) rfl rfl rfl (fun _ => ?_) (fun h33 => (by exfalso; (exact h21 h33)))
    refine xx_iconst (q := 41) rfl rfl (by decide) ?_
    obtain ⟨D2, hx2, hq2, hg2⟩ := c_wrong (n := n) hR hS.1 1
    have hS2 : PlS dr al D0 (wrP 1 s) D2 := hS.tp (by omega) hq2 hg2
    refine xx_callV (q := 44) (As := [_]) (rest := []) rfl rfl rfl (Or.inl rfl) rfl rfl (Nat.le_of_ble_eq_true rfl) xS_474 (XCm hx2 rfl) rfl ?_
    refine xx_vret rfl rfl ⟨rfl, _, rfl, ?_⟩
    rw [show spP bf Lk B s = wrP 1 s from if_pos h21]
    exact hS2
  · refine xx_iload_n (q := 25) rfl rfl rfl ?_
    refine xx_bipush (q := 27) rfl rfl (by decide) ?_
    refine xx_icmp_lt (q := 45) (q2 := 30) rfl rfl rfl (fun h27 => ?_) (fun h27 => ?_)
    · refine xx_iload_n (q := 46) rfl rfl rfl ?_
      refine xx_iconst (q := 47) rfl rfl (by decide) ?_
      refine xx_imulR (q := 48) rfl rfl (by omega) (by omega) ?_
      refine xx_istore (q := 50) (loc2 := [_, _, _, _, _, _, _, _]) rfl rfl (Nat.le_of_ble_eq_true rfl) rfl ?_
      refine xx_aload_n (q := 51) rfl rfl rfl ?_
      refine xx_getR (q := 54) rfl rfl rfl xS_15 (Nat.le_of_ble_eq_true rfl) rfl (hdr) ?_
      refine xx_iload (q := 56) rfl rfl rfl ?_
      refine xx_iload (q := 58) rfl rfl rfl ?_
      refine xr_isz (PlS dr al D0 (ptP (bf * 5) (kdP s) s)) (q := 59) rfl rfl hsdr (by omega) (by omega) (hS.put hdr2 _ _) (fun D4 hS4 => ?_)
      refine xx_aload_n (q := 60) rfl rfl rfl ?_
      obtain ⟨D5, hx5, hq5, hg5⟩ := c_step (n := n) hR hS4.1 
      have hS5 : PlS dr al D0 (stP (ptP (bf * 5) (kdP s) s)) D5 := hS4.tp (by omega) hq5 hg5
      refine xx_callV (q := 63) (As := []) (rest := []) rfl rfl rfl (Or.inl rfl) rfl rfl (Nat.le_of_ble_eq_true rfl) xS_474 (XCm hx5 rfl) rfl ?_
      refine xx_iload (q := 65) rfl rfl rfl ?_
      by_cases h65_322 : kdP s = 322
      · refine xx_swK (q := 92) (zl := 322) (off := 27) rfl h65_322 (by decide) (by decide) rfl rfl ?_
        refine xx_aload_n (q := 93) rfl rfl rfl ?_
        refine xx_aload_n (q := 94) rfl rfl rfl ?_
        refine xx_iload (q := 96) rfl rfl rfl ?_
        refine xx_iload (q := 98) rfl rfl rfl ?_
        obtain ⟨D6, hx6, hS6⟩ := c_ps9 (n := n) hR hdr hdr2 hS5 (bf * 5) B (by omega) (by omega) (by omega) (by omega)
        refine xx_callV (q := 101) (As := [_, _, _]) (rest := []) rfl rfl rfl (Or.inl rfl) rfl rfl (Nat.le_of_ble_eq_true rfl) xS_15 (XCm hx6 rfl) rfl ?_
        refine xx_goto (q := 169) rfl rfl ?_
        refine xx_aload_n (q := 170) rfl rfl rfl ?_
        refine xx_bipush (q := 172) rfl rfl (by decide) ?_
        obtain ⟨D7, hx7, hq7, hg7⟩ := c_expect (n := n) hR hS6.1 59
        have hS7 : PlS dr al D0 (exP 59 (psQ (bf * 5) B (stP (ptP (bf * 5) (kdP s) s)))) D7 := hS6.tp (by omega) hq7 hg7
        refine xx_callV (q := 175) (As := [_]) (rest := []) rfl rfl rfl (Or.inl rfl) rfl rfl (Nat.le_of_ble_eq_true rfl) xS_474 (XCm hx7 rfl) rfl ?_
        refine xx_vret rfl rfl ⟨rfl, _, rfl, ?_⟩
        rw [show spP bf Lk B s = exP 59 (psQ (bf * 5) B (stP (ptP (bf * 5) (kdP s) s))) from (if_neg (fun q => q h21)).trans ((if_pos (by omega)).trans (congrArg (exP 59) (if_pos h65_322)))]
        exact hS7
      by_cases h65_323 : kdP s = 323
      · refine xx_swK (q := 104) (zl := 323) (off := 39) rfl h65_323 (by decide) (by decide) rfl rfl ?_
        refine xx_aload_n (q := 105) rfl rfl rfl ?_
        refine xx_aload_n (q := 106) rfl rfl rfl ?_
        refine xx_iload (q := 108) rfl rfl rfl ?_
        refine xx_iload_n (q := 109) rfl rfl rfl ?_
        refine xx_iload (q := 111) rfl rfl rfl ?_
        obtain ⟨D8, hx8, hS8⟩ := c_gv9 (n := n) hR hdr hdr2 hS5 (bf * 5) Lk B (by omega) (by omega) (by omega) (by omega) (by omega) (by omega)
        refine xx_callV (q := 114) (As := [_, _, _, _]) (rest := []) rfl rfl rfl (Or.inl rfl) rfl rfl (Nat.le_of_ble_eq_true rfl) xS_15 (XCm hx8 rfl) rfl ?_
        refine xx_goto (q := 169) rfl rfl ?_
        refine xx_aload_n (q := 170) rfl rfl rfl ?_
        refine xx_bipush (q := 172) rfl rfl (by decide) ?_
        obtain ⟨D9, hx9, hq9, hg9⟩ := c_expect (n := n) hR hS8.1 59
        have hS9 : PlS dr al D0 (exP 59 (gvP9 (bf * 5) Lk B (stP (ptP (bf * 5) (kdP s) s)))) D9 := hS8.tp (by omega) hq9 hg9
        refine xx_callV (q := 175) (As := [_]) (rest := []) rfl rfl rfl (Or.inl rfl) rfl rfl (Nat.le_of_ble_eq_true rfl) xS_474 (XCm hx9 rfl) rfl ?_
        refine xx_vret rfl rfl ⟨rfl, _, rfl, ?_⟩
        rw [show spP bf Lk B s = exP 59 (gvP9 (bf * 5) Lk B (stP (ptP (bf * 5) (kdP s) s))) from (if_neg (fun q => q h21)).trans ((if_pos (by omega)).trans (congrArg (exP 59) ((if_neg (show ¬ kdP s = 322 by omega)).trans (if_pos h65_323))))]
        exact hS9
      by_cases h65_324 : kdP s = 324
      · refine xx_swK (q := 117) (zl := 324) (off := 52) rfl h65_324 (by decide) (by decide) rfl rfl ?_
        refine xx_aload_n (q := 118) rfl rfl rfl ?_
        refine xx_getR (q := 121) rfl rfl rfl xS_15 (Nat.le_of_ble_eq_true rfl) rfl (hdr) ?_
        refine xx_iload (q := 123) rfl rfl rfl ?_
        refine xx_iconst (q := 124) rfl rfl (by decide) ?_
        refine xx_iaddR (q := 125) rfl rfl (by omega) (by omega) ?_
        refine xx_aload_n (q := 126) rfl rfl rfl ?_
        refine xx_iconst (q := 127) rfl rfl (by decide) ?_
        refine xx_iload_n (q := 128) rfl rfl rfl ?_
        refine xx_iconst (q := 129) rfl rfl (by decide) ?_
        refine xx_isubR (q := 130) rfl rfl (by omega) (by omega) ?_
        obtain ⟨D10, hx10, hq10, hg10⟩ := c_nw (n := n) hR hS5.1 0 (Lk - 1)
        have hS10 : PlS dr al D0 ((nwT 0 (Lk - 1) (stP (ptP (bf * 5) (kdP s) s)).1, (stP (ptP (bf * 5) (kdP s) s)).2)) D10 := hS5.tp (by omega) hq10 hg10
        refine xx_callV (q := 133) (As := [_, _]) (rest := [_, _]) rfl rfl rfl (Or.inl rfl) rfl rfl (Nat.le_of_ble_eq_true rfl) xS_474 (XCm hx10 rfl) rfl ?_
        refine xr_isz (PlS dr al D0 (nwP 0 (Lk - 1) ((bf * 5) + 1) (stP (ptP (bf * 5) (kdP s) s)))) (q := 134) rfl rfl hsdr (by omega) (by omega) (hS10.put hdr2 _ _) (fun D12 hS12 => ?_)
        refine xx_aload_n (q := 135) rfl rfl rfl ?_
        refine xx_getR (q := 138) rfl rfl rfl xS_15 (Nat.le_of_ble_eq_true rfl) rfl (hdr) ?_
        refine xx_iload (q := 140) rfl rfl rfl ?_
        refine xx_iconst (q := 141) rfl rfl (by decide) ?_
        refine xx_iaddR (q := 142) rfl rfl (by omega) (by omega) ?_
        refine xx_aload_n (q := 143) rfl rfl rfl ?_
        refine xx_iconst (q := 144) rfl rfl (by decide) ?_
        refine xx_bipush (q := 146) rfl rfl (by decide) ?_
        obtain ⟨D13, hx13, hq13, hg13⟩ := c_nw (n := n) hR hS12.1 1 9
        have hS13 : PlS dr al D0 ((nwT 1 9 (nwP 0 (Lk - 1) ((bf * 5) + 1) (stP (ptP (bf * 5) (kdP s) s))).1, (nwP 0 (Lk - 1) ((bf * 5) + 1) (stP (ptP (bf * 5) (kdP s) s))).2)) D13 := hS12.tp (by omega) hq13 hg13
        refine xx_callV (q := 149) (As := [_, _]) (rest := [_, _]) rfl rfl rfl (Or.inl rfl) rfl rfl (Nat.le_of_ble_eq_true rfl) xS_474 (XCm hx13 rfl) rfl ?_
        refine xr_isz (PlS dr al D0 (nwP 1 9 ((bf * 5) + 2) (nwP 0 (Lk - 1) ((bf * 5) + 1) (stP (ptP (bf * 5) (kdP s) s))))) (q := 150) rfl rfl hsdr (by omega) (by omega) (hS13.put hdr2 _ _) (fun D15 hS15 => ?_)
        refine xx_goto (q := 169) rfl rfl ?_
        refine xx_aload_n (q := 170) rfl rfl rfl ?_
        refine xx_bipush (q := 172) rfl rfl (by decide) ?_
        obtain ⟨D16, hx16, hq16, hg16⟩ := c_expect (n := n) hR hS15.1 59
        have hS16 : PlS dr al D0 (exP 59 (nwP 1 9 ((bf * 5) + 2) (nwP 0 (Lk - 1) ((bf * 5) + 1) (stP (ptP (bf * 5) (kdP s) s))))) D16 := hS15.tp (by omega) hq16 hg16
        refine xx_callV (q := 175) (As := [_]) (rest := []) rfl rfl rfl (Or.inl rfl) rfl rfl (Nat.le_of_ble_eq_true rfl) xS_474 (XCm hx16 rfl) rfl ?_
        refine xx_vret rfl rfl ⟨rfl, _, rfl, ?_⟩
        rw [show spP bf Lk B s = exP 59 (nwP 1 9 ((bf * 5) + 2) (nwP 0 (Lk - 1) ((bf * 5) + 1) (stP (ptP (bf * 5) (kdP s) s)))) from (if_neg (fun q => q h21)).trans ((if_pos (by omega)).trans (congrArg (exP 59) ((if_neg (show ¬ kdP s = 322 by omega)).trans ((if_neg (show ¬ kdP s = 323 by omega)).trans (if_pos h65_324)))))]
        exact hS16
      refine xx_swOut (q := 153) rfl (by omega) rfl ?_
      refine xx_aload_n (q := 154) rfl rfl rfl ?_
      refine xx_getR (q := 157) rfl rfl rfl xS_15 (Nat.le_of_ble_eq_true rfl) rfl (hdr) ?_
      refine xx_iload (q := 159) rfl rfl rfl ?_
      refine xx_iconst (q := 160) rfl rfl (by decide) ?_
      refine xx_iaddR (q := 161) rfl rfl (by omega) (by omega) ?_
      refine xx_aload_n (q := 162) rfl rfl rfl ?_
      refine xx_iconst (q := 163) rfl rfl (by decide) ?_
      refine xx_bipush (q := 165) rfl rfl (by decide) ?_
      obtain ⟨D17, hx17, hq17, hg17⟩ := c_nw (n := n) hR hS5.1 1 99
      have hS17 : PlS dr al D0 ((nwT 1 99 (stP (ptP (bf * 5) (kdP s) s)).1, (stP (ptP (bf * 5) (kdP s) s)).2)) D17 := hS5.tp (by omega) hq17 hg17
      refine xx_callV (q := 168) (As := [_, _]) (rest := [_, _]) rfl rfl rfl (Or.inl rfl) rfl rfl (Nat.le_of_ble_eq_true rfl) xS_474 (XCm hx17 rfl) rfl ?_
      refine xr_isz (PlS dr al D0 (nwP 1 99 ((bf * 5) + 1) (stP (ptP (bf * 5) (kdP s) s)))) (q := 169) rfl rfl hsdr (by omega) (by omega) (hS17.put hdr2 _ _) (fun D19 hS19 => ?_)
      refine xx_aload_n (q := 170) rfl rfl rfl ?_
      refine xx_bipush (q := 172) rfl rfl (by decide) ?_
      obtain ⟨D20, hx20, hq20, hg20⟩ := c_expect (n := n) hR hS19.1 59
      have hS20 : PlS dr al D0 (exP 59 (nwP 1 99 ((bf * 5) + 1) (stP (ptP (bf * 5) (kdP s) s)))) D20 := hS19.tp (by omega) hq20 hg20
      refine xx_callV (q := 175) (As := [_]) (rest := []) rfl rfl rfl (Or.inl rfl) rfl rfl (Nat.le_of_ble_eq_true rfl) xS_474 (XCm hx20 rfl) rfl ?_
      refine xx_vret rfl rfl ⟨rfl, _, rfl, ?_⟩
      rw [show spP bf Lk B s = exP 59 (nwP 1 99 ((bf * 5) + 1) (stP (ptP (bf * 5) (kdP s) s))) from (if_neg (fun q => q h21)).trans ((if_pos (by omega)).trans (congrArg (exP 59) ((if_neg (show ¬ kdP s = 322 by omega)).trans ((if_neg (show ¬ kdP s = 323 by omega)).trans (if_neg (show ¬ kdP s = 324 by omega))))))]
      exact hS20
    · refine xx_aload_n (q := 31) rfl rfl rfl ?_
      refine xx_iload (q := 33) rfl rfl rfl ?_
      refine xx_ifb_eq (q := 40) (q2 := 36) rfl rfl rfl (fun h33 => (by exfalso; (exact h33 h21))) (fun _ => ?_)
      refine xx_iconst (q := 37) rfl rfl (by decide) ?_
      refine xx_goto (q := 41) rfl rfl ?_
      obtain ⟨D21, hx21, hq21, hg21⟩ := c_wrong (n := n) hR hS.1 3
      have hS21 : PlS dr al D0 (wrP 3 s) D21 := hS.tp (by omega) hq21 hg21
      refine xx_callV (q := 44) (As := [_]) (rest := []) rfl rfl rfl (Or.inl rfl) rfl rfl (Nat.le_of_ble_eq_true rfl) xS_474 (XCm hx21 rfl) rfl ?_
      refine xx_vret rfl rfl ⟨rfl, _, rfl, ?_⟩
      rw [show spP bf Lk B s = wrP 3 s from (if_neg (fun q => q h21)).trans (if_neg (by omega))]
      exact hS21
def PdP (dr cd : Nat) (al : List Tk) (R : Nat → Nat → Option Nat) (D0 : KK) (c : Int × Pg) (n : Nat) : XQ := fun r m2 => ∃ (z : Int) (R2 : Nat → Nat → Option Nat) (D2 : KK), r = some (.inl z) ∧ m2 = (xS n, R2, D2) ∧ z = (if c.2.1.1 = 0 then c.1 else -1) ∧ TS al c.2.1 D2 ∧ (∀ x k, (x = 474 → k ≠ 1 ∧ k ≠ 2 ∧ k ≠ 8) → (x = 15 → k ≠ 0) → x ≠ dr → D2 x k = D0 x k) ∧ (if c.2.1.1 = 0 then (R2 = xur (xur R 15 4 (some dr)) 15 5 (some cd) ∧ D2 15 0 = c.1 ∧ ∀ j, j < 150 → D2 dr j = c.2.2 j) else (R2 = R ∧ D2 15 0 = D0 15 0))
set_option maxHeartbeats 1000000 in
theorem c_rdP_L {n dr : Nat} {R : Nat → Nat → Option Nat} {D0 : KK} {al : List Tk} {Q : XQ} (hR : RF R) (hdr : R 15 5 = some dr) (hdr2 : dr = 16 ∨ dr = 17) (Lk B : Int) (hB0 : 0 ≤ B) (hB1 : B ≤ 6) (hL0 : 0 ≤ Lk) (hL1 : Lk ≤ 9) : ∀ (k : Nat) (s : Pg) (D : KK) (r : Int), PlS dr al D0 s D → 0 ≤ r → r + k = 31 → (∀ (D2 : KK) (i2 : Int), PlS dr al D0 (plQ Lk B k r s).2 D2 → XX (XC 5) 85 Q 41 [some (.inr (some 15)), some (.inr (some 474)), some (.inl Lk), some (.inl B), some (.inl (plQ Lk B k r s).1), some (.inl i2)] [] (xS n, R, D2)) → XX (XC 5) 85 (Q) 6 [some (.inr (some 15)), some (.inr (some 474)), some (.inl Lk), some (.inl B), some (.inl r), some (.inl r)] [] (xS n, R, D) := by
  intro k
  induction k using Nat.strongRecOn with
  | ind k ih =>
  intro s D r hS h0 hk kx
  have hsdr := sh_sa (n := n) hdr2
  refine xx_iload (q := 8) rfl rfl rfl ?_
  refine xx_bipush (q := 10) rfl rfl (by decide) ?_
  refine xx_icmp_gt (q := 41) (q2 := 13) rfl rfl rfl (fun h10 => ?_) (fun h10 => ?_)
  · obtain rfl : k = 0 := by omega
    exact kx D r hS
  · refine xx_aload_n (q := 14) rfl rfl rfl ?_
    have hkb1 := kdT_b hS.1
    change 0 ≤ kdP s ∧ kdP s ≤ 400 at hkb1
    refine xx_callV (q := 17) (As := []) (rest := []) rfl rfl rfl (Or.inl rfl) rfl rfl (Nat.le_of_ble_eq_true rfl) xS_474 (XCm (c_kindP (n := n) (s := s) hR hS.1) rfl) rfl ?_
    refine xx_sipush (q := 20) rfl rfl (by decide) ?_
    refine xx_icmp_eq (q := 41) (q2 := 23) rfl rfl rfl (fun h20 => ?_) (fun h20 => ?_)
    · obtain ⟨k, rfl⟩ : ∃ k2, k = k2 + 1 := ⟨k - 1, by omega⟩
      rw [show plQ Lk B (k + 1) r s = (r, s) from if_pos h20] at kx
      exact kx D r hS
    · refine xx_aload_n (q := 24) rfl rfl rfl ?_
      refine xx_aload_n (q := 25) rfl rfl rfl ?_
      refine xx_iload (q := 27) rfl rfl rfl ?_
      refine xx_iload_n (q := 28) rfl rfl rfl ?_
      refine xx_iload_n (q := 29) rfl rfl rfl ?_
      obtain ⟨D2, hx2, hS2⟩ := c_sp9 (n := n) hR hdr hdr2 hS r Lk B (by omega) (by omega) (by omega) (by omega) (by omega) (by omega)
      refine xx_callV (q := 32) (As := [_, _, _, _]) (rest := []) rfl rfl rfl (Or.inl rfl) rfl rfl (Nat.le_of_ble_eq_true rfl) xS_15 (XCm hx2 rfl) rfl ?_
      refine xx_incz (q := 35) (loc2 := [_, _, _, _, _, _]) rfl rfl rfl (by omega) (by omega) rfl rfl ?_
      refine xx_incz (q := 38) (loc2 := [_, _, _, _, _, _]) rfl rfl rfl (by omega) (by omega) rfl rfl ?_
      refine xx_goto (q := 6) rfl rfl ?_
      obtain ⟨k, rfl⟩ : ∃ k2, k = k2 + 1 := ⟨k - 1, by omega⟩
      rw [show plQ Lk B (k + 1) r s = plQ Lk B k (r + 1) (spP r Lk B s) from if_neg h20] at kx
      exact ih k (by omega) _ _ _ hS2 (by omega) (by omega) kx
set_option maxHeartbeats 1000000 in
theorem c_rdP_E {n dr cd : Nat} {R : Nat → Nat → Option Nat} {D0 D : KK} {al : List Tk} (hdr : R 15 5 = some dr) (hcd : R 15 4 = some cd) (hdr2 : dr = 16 ∨ dr = 17) (Lk B : Int) (c : Int × Pg) (hS : PlS dr al D0 c.2 D) (i : Int) : XX (XC 5) 85 (PdP dr cd al R D0 c n) 41 [some (.inr (some 15)), some (.inr (some 474)), some (.inl Lk), some (.inl B), some (.inl c.1), some (.inl i)] [] (xS n, R, D) := by
  refine xx_aload_n (q := 42) rfl rfl rfl ?_
  refine xx_gez (q := 45) rfl rfl rfl xS_474 (Nat.le_of_ble_eq_true rfl) rfl hS.1.1 ?_
  refine xx_if_eq (q := 50) (q2 := 48) rfl rfl rfl (fun h45 => ?_) (fun h45 => ?_)
  · refine xx_aload_n (q := 51) rfl rfl rfl ?_
    refine xx_getR (q := 54) rfl rfl rfl xS_15 (Nat.le_of_ble_eq_true rfl) rfl (hcd) ?_
    refine xx_astore (q := 56) (loc2 := [_, _, _, _, _, _]) rfl rfl (Nat.le_of_ble_eq_true rfl) rfl ?_
    refine xx_aload_n (q := 57) rfl rfl rfl ?_
    refine xx_aload_n (q := 58) rfl rfl rfl ?_
    refine xx_getR (q := 61) rfl rfl rfl xS_15 (Nat.le_of_ble_eq_true rfl) rfl (hdr) ?_
    refine xx_putR (q := 64) rfl rfl rfl xS_15 (Nat.le_of_ble_eq_true rfl) (Nat.le_of_ble_eq_true rfl) (fun h => by cases h) rfl ?_
    refine xx_aload_n (q := 65) rfl rfl rfl ?_
    refine xx_aload (q := 67) rfl rfl rfl ?_
    refine xx_putR (q := 70) rfl rfl rfl xS_15 (Nat.le_of_ble_eq_true rfl) (Nat.le_of_ble_eq_true rfl) (fun h => by cases h) rfl ?_
    refine xx_aload_n (q := 71) rfl rfl rfl ?_
    refine xx_iload (q := 73) rfl rfl rfl ?_
    refine xx_puz (q := 76) rfl rfl rfl xS_15 (Nat.le_of_ble_eq_true rfl) (Nat.le_of_ble_eq_true rfl) (fun h => by cases h) (Or.inl rfl) rfl ?_
    refine xx_iload (q := 78) rfl rfl rfl ?_
    have hx : ∀ x k, (x = 15 → k ≠ 0) → xui D 15 0 c.1 x k = D x k := fun x k q => if_neg (fun r => q r.1 r.2)
    refine xx_iret rfl trivial ⟨_, _, _, rfl, rfl, (if_pos h45).symm, ?_, fun x k q1 q2 q3 => (hx x k q2).trans (hS.2.2 x k q1 q3), ?_⟩
    · obtain ⟨t1, t2, ⟨m, e1, e2⟩, t4, t5, t6⟩ := hS.1
      exact ⟨(hx _ _ (by omega)).trans t1, (hx _ _ (by omega)).trans t2, ⟨m, e1, (hx _ _ (by omega)).trans e2⟩, t4, t5.fr (fun x k q => hx x k (by omega)), t6⟩
    · rw [if_pos h45]
      exact ⟨rfl, xui_s, fun j hj => (hx _ _ (by omega)).trans (hS.2.1 j hj)⟩
  · refine xx_iconst (q := 49) rfl rfl (by decide) ?_
    exact xx_iret rfl trivial ⟨_, R, _, rfl, rfl, (if_neg h45).symm, hS.1, fun x k q1 q2 q3 => hS.2.2 x k q1 q3, by rw [if_neg h45]; exact ⟨rfl, hS.2.2 15 0 (by omega) (by omega)⟩⟩
theorem c_rdP {n dr cd : Nat} {R : Nat → Nat → Option Nat} {D : KK} {al : List Tk} {t : Tt} (hR : RF R) (hdr : R 15 5 = some dr) (hcd : R 15 4 = some cd) (hdr2 : dr = 16 ∨ dr = 17) (Lk B : Int) (hB0 : 0 ≤ B) (hB1 : B ≤ 6) (hL0 : 0 ≤ Lk) (hL1 : Lk ≤ 9) (hT : TS al t D) : ∃ r m2, XC 6 85 [.inr (some 15), .inr (some 474), .inl Lk, .inl B] (xS n, R, D) r m2 ∧ PdP dr cd al R D (plQ Lk B 31 0 (t, D dr)) n r m2 := by
  refine XR_of (Nat.le_of_ble_eq_true rfl) (Nat.le_of_ble_eq_true rfl) (loc := [_, _, _, _, _, _]) rfl ?_
  refine xx_iconst (q := 1) rfl rfl (by decide) ?_
  refine xx_istore (q := 3) (loc2 := [_, _, _, _, _, _]) rfl rfl (Nat.le_of_ble_eq_true rfl) rfl ?_
  refine xx_iconst (q := 4) rfl rfl (by decide) ?_
  refine xx_istore (q := 6) (loc2 := [_, _, _, _, _, _]) rfl rfl (Nat.le_of_ble_eq_true rfl) rfl ?_
  have hS : PlS dr al D (t, D dr) D := ⟨hT, fun _ _ => rfl, fun _ _ _ _ => rfl⟩
  exact c_rdP_L hR hdr hdr2 Lk B hB0 hB1 hL0 hL1 31 _ _ 0 hS (by omega) (by omega) (fun D2 i2 hS2 => c_rdP_E hdr hcd hdr2 Lk B _ hS2 i2)
