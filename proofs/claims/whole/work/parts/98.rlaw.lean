/-! A law is read: the class. -/
abbrev Sg : Type := Tt × List Int
def kdS (s : Sg) : Int := kdT s.1
def stS (s : Sg) : Sg := (stT s.1, s.2)
def wrS (k : Int) (s : Sg) : Sg := (wrT k s.1, s.2)
def tkS (k : Int) (s : Sg) : Sg := (tkT k s.1, s.2)
def exS (k : Int) (s : Sg) : Sg := (exT k s.1, s.2)
def nwS (lo hi : Int) (s : Sg) : Sg := (nwT lo hi s.1, s.2)
def wtS (op : Int) (s : Sg) : Sg := (s.1, if s.2.length < 400 then s.2 ++ [op] else s.2)
def FL (lw dr : Nat) (D E : KK) : Prop := ∀ x k, (x = 474 → k ≠ 1 ∧ k ≠ 2 ∧ k ≠ 8) → (x = lw → k ≠ 4) → x ≠ dr → E x k = D x k
def LwS (lw dr : Nat) (al : List Tk) (D0 : KK) (s : Sg) (D : KK) : Prop := TS al s.1 D ∧ D lw 4 = (s.2.length : Int) ∧ s.2.length ≤ 400 ∧ (∀ j, j < s.2.length → D dr j = s.2.getD j 0) ∧ FL lw dr D0 D
theorem LwS.tp {lw dr : Nat} {al : List Tk} {D0 D E : KK} {s : Sg} {t : Tt} (h : LwS lw dr al D0 s D) (hl : lw ≠ 474) (hd : dr ≠ 474) (g : TS al t E) (f : FSt D E) : LwS lw dr al D0 (t, s.2) E := ⟨g, (f _ _ (by omega)).trans h.2.1, h.2.2.1, fun j hj => (f _ _ (by omega)).trans (h.2.2.2.1 j hj), fun x k q1 q2 q3 => (f x k q1).trans (h.2.2.2.2 x k q1 q2 q3)⟩
abbrev ftP (h f : Int) : Prop := (0 ≤ f ∧ f ≤ 4) ∨ (if h = 0 then (5 ≤ f ∧ f ≤ 10) else (11 ≤ f ∧ f ≤ 14))
def unF (h : Int) (s : Sg) : Sg := if kdS s = 256 then stS (wtS (vlT s.1) s) else if ftP h (kdS s - 307) then stS (wtS (-1 - (kdS s - 307)) s) else wrS 1 s
def prL (h : Int) : Nat → Sg → Sg
  | 0, s => s
  | k + 1, s => if kdS s = 42 then prL h k (wtS (-22) (unF h (stS s))) else if kdS s = 47 then prL h k (wtS (-23) (wtS (vlT (stS s).1) (nwS 1 9999 (stS s)))) else s
def prF (h : Int) (s : Sg) : Sg := prL h 400 (unF h s)
def smL (h : Int) : Nat → Sg → Sg
  | 0, s => s
  | k + 1, s => if kdS s = 43 ∨ kdS s = 45 then smL h k (wtS (if kdS s = 43 then -20 else -21) (prF h (stS s))) else s
def smS (h : Int) (s : Sg) : Sg := smL h 400 (prF h s)
def cpF (k : Int) : Int := if k = 61 then -25 else if k = 60 then -24 else -26
def tk3 (s : Sg) : Sg := if kdS s = 60 ∨ kdS s = 61 ∨ kdS s = 62 then stS s else wrS 1 s
def cmF (h : Int) (s : Sg) : Sg := wtS (cpF (kdS (smS h s))) (smS h (tk3 (smS h s)))
def boL (cl : Sg → Sg) : Nat → Sg → Sg
  | 0, s => s
  | k + 1, s => if kdS s = 305 then boL cl k (wtS (-27) (cl (stS s))) else s
def boG (cl : Sg → Sg) (s : Sg) : Sg := boL cl 400 (cl s)
def eiL (cl : Sg → Sg) : Nat → Sg → Sg
  | 0, s => s
  | k + 1, s => if kdS s = 304 then eiL cl k (wtS (-28) (boG cl (stS s))) else s
def eiG (cl : Sg → Sg) (s : Sg) : Sg := eiL cl 400 (boG cl s)
def clF (h : Int) : Nat → Sg → Sg
  | 0, s => if kdS s = 40 ∨ kdS s = 306 then wrS 3 s else cmF h s
  | m + 1, s => if kdS s = 306 then wtS (-29) (clF h m (stS s)) else if kdS s = 40 then exS 41 (eiG (clF h m) (stS s)) else cmF h s
abbrev bgP (h k : Int) : Prop := if h = 0 then (k = 300 ∨ k = 301) else k = 302
def vaF (h : Int) (s : Sg) : Sg := if h = 0 then wtS (if kdS s = 300 then 1 else 0) (stS s) else smS h (stS s)
def whF (h : Int) (s : Sg) : Sg := if kdS s = 303 then wtS (-31) (eiG (clF h 8) (stS s)) else wtS (-30) s
def liF (h : Int) (before : Int) (s : Sg) : Sg := if ¬ bgP h (kdS s) then wrS 1 s else if before < 16 then exS 59 (whF h (vaF h s)) else wrS 3 s
def lwL (h : Int) : Nat → Int → Sg → Int × Sg
  | 0, r, s => (r, s)
  | k + 1, r, s => if kdS s = 258 then (r, s) else lwL h k (r + 1) (liF h r s)
def lwF (h : Int) (t : Tt) : Int × Sg := lwL h 17 0 (t, [])
theorem c_kindS {n : Nat} {R : Nat → Nat → Option Nat} {D : KK} {al : List Tk} {s : Sg} (hR : RF R) (hS : TS al s.1 D) : XC 1 93 [.inr (some 474)] (xS n, R, D) (some (.inl (kdS s))) (xS n, R, D) := c_kind hR hS
set_option maxHeartbeats 1000000 in
theorem c_wtG {n dr : Nat} {R : Nat → Nat → Option Nat} {D0 D : KK} {al : List Tk} {s : Sg} (hR : RF R) (hdr : R 7 5 = some dr) (hdr2 : dr = 8 ∨ dr = 9) (hh : D0 7 1 = 0) (hS : LwS 7 dr al D0 s D) (op : Int) : ∃ D', XC 1 76 [.inr (some 7), .inl op] (xS n, R, D) none (xS n, R, D') ∧ LwS 7 dr al D0 (wtS op s) D' := by
  have hsdr := sh_cc (n := n) hdr2
  refine XE_of (Nat.le_of_ble_eq_true rfl) (Nat.le_of_ble_eq_true rfl) (loc := [_, _]) rfl ?_
  refine xx_aload_n (q := 1) rfl rfl rfl ?_
  refine xx_gez (q := 4) rfl rfl rfl xS_7 (Nat.le_of_ble_eq_true rfl) rfl hS.2.1 ?_
  refine xx_aload_n (q := 5) rfl rfl rfl ?_
  refine xx_getR (q := 8) rfl rfl rfl xS_7 (Nat.le_of_ble_eq_true rfl) rfl (hdr) ?_
  refine xx_alen (q := 9) rfl rfl hsdr (by decide) (Nat.le_of_ble_eq_true rfl) ?_
  refine xx_icmp_ge (q := 32) (q2 := 12) rfl rfl rfl (fun h9 => ?_) (fun h9 => ?_)
  · refine xx_vret rfl rfl ⟨rfl, _, rfl, ?_⟩
    rw [show wtS op s = s from congrArg (Prod.mk s.1) (if_neg (by omega))]
    exact hS
  · refine xx_aload_n (q := 13) rfl rfl rfl ?_
    refine xx_getR (q := 16) rfl rfl rfl xS_7 (Nat.le_of_ble_eq_true rfl) rfl (hdr) ?_
    refine xx_aload_n (q := 17) rfl rfl rfl ?_
    refine xx_gez (q := 20) rfl rfl rfl xS_7 (Nat.le_of_ble_eq_true rfl) rfl hS.2.1 ?_
    refine xx_iload_n (q := 21) rfl rfl rfl ?_
    refine xx_isz (q := 22) rfl rfl hsdr (by omega) (by omega) rfl ?_
    refine xx_aload_n (q := 23) rfl rfl rfl ?_
    refine xx_dup (q := 24) rfl rfl ?_
    refine xx_gez (q := 27) rfl rfl rfl xS_7 (Nat.le_of_ble_eq_true rfl) rfl ((xui_a (by omega)).trans hS.2.1) ?_
    refine xx_iconst (q := 28) rfl rfl (by decide) ?_
    refine xx_iaddR (q := 29) rfl rfl (by omega) (by omega) ?_
    refine xx_puz (q := 32) rfl rfl rfl xS_7 (Nat.le_of_ble_eq_true rfl) (Nat.le_of_ble_eq_true rfl) (fun h => by cases h) (Or.inl rfl) rfl ?_
    refine xx_vret rfl rfl ⟨rfl, _, rfl, ?_⟩
    rw [show wtS op s = (s.1, s.2 ++ [op]) from congrArg (Prod.mk s.1) (if_pos (by omega)), show ((s.2.length : Nat) : Int).toNat = s.2.length by omega]
    obtain ⟨q1, q2, q3, q4, q5⟩ := hS
    have hf : FSt D (xui (xui D dr s.2.length op) 7 4 ((s.2.length : Int) + 1)) ∨ True := Or.inr trivial
    have ht : ∀ x k, (x = 474 ∨ x = 476 ∨ x = 477 ∨ x = 478) → xui (xui D dr s.2.length op) 7 4 ((s.2.length : Int) + 1) x k = D x k := fun x k q => (xui_a (by omega)).trans (xui_a (by omega))
    refine ⟨⟨(ht _ _ (by omega)).trans q1.1, (ht _ _ (by omega)).trans q1.2.1, ?_, q1.2.2.2.1, q1.2.2.2.2.1.fr (fun x k q => ht x k (by omega)), q1.2.2.2.2.2⟩, xui_s.trans (by rw [List.length_append]; rfl), by rw [List.length_append]; show s.2.length + 1 ≤ 400; omega, ?_, fun x k r1 r2 r3 => (if_neg (fun r => r2 r.1 r.2)).trans ((xui_a r3).trans (q5 x k r1 r2 r3))⟩
    · obtain ⟨m, e1, e2⟩ := q1.2.2.1
      exact ⟨m, e1, (ht _ _ (by omega)).trans e2⟩
    · intro j hj
      rw [xui_a (by omega)]
      exact gd_ap q4 j hj
theorem c_ftG {n dr : Nat} {R : Nat → Nat → Option Nat} {D0 D : KK} {al : List Tk} {s : Sg} (hR : RF R) (hdr : R 7 5 = some dr) (hdr2 : dr = 8 ∨ dr = 9) (hh : D0 7 1 = 0) (hS : LwS 7 dr al D0 s D) (f : Int) : XC 2 75 [.inr (some 7), .inl f] (xS n, R, D) (some (.inl (bi (ftP 0 f)))) (xS n, R, D) := by
  have hsdr := sh_cc (n := n) hdr2
  refine XC_of (Nat.le_of_ble_eq_true rfl) (Nat.le_of_ble_eq_true rfl) (loc := [_, _]) rfl ?_
  refine xx_iload_n (q := 1) rfl rfl rfl ?_
  refine xx_iconst (q := 2) rfl rfl (by decide) ?_
  refine xx_icmp_gt (q := 15) (q2 := 5) rfl rfl rfl (fun h2 => ?_) (fun h2 => ?_)
  · refine xx_aload_n (q := 16) rfl rfl rfl ?_
    refine xx_gez (q := 19) rfl rfl rfl xS_7 (Nat.le_of_ble_eq_true rfl) rfl ((hS.2.2.2.2 7 1 (by omega) (by omega) (by omega)).trans hh) ?_
    refine xx_if_eq (q := 42) (q2 := 22) rfl rfl rfl (fun _ => ?_) (fun h19 => (by exfalso; omega))
    refine xx_iload_n (q := 43) rfl rfl rfl ?_
    refine xx_bipush (q := 45) rfl rfl (by decide) ?_
    refine xx_icmp_gt (q := 52) (q2 := 48) rfl rfl rfl (fun h45 => ?_) (fun h45 => ?_)
    · refine xx_iconst (q := 53) rfl rfl (by decide) ?_
      exact xx_iret rfl (Or.inl rfl) ⟨congrArg (fun z => some (Sum.inl z)) (by grind [bi]), rfl⟩
    · refine xx_iconst (q := 49) rfl rfl (by decide) ?_
      refine xx_goto (q := 53) rfl rfl ?_
      exact xx_iret rfl (Or.inr rfl) ⟨congrArg (fun z => some (Sum.inl z)) (by grind [bi]), rfl⟩
  · refine xx_iload_n (q := 6) rfl rfl rfl ?_
    refine xx_if_lt (q := 13) (q2 := 9) rfl rfl rfl (fun h6 => ?_) (fun h6 => ?_)
    · refine xx_iconst (q := 14) rfl rfl (by decide) ?_
      exact xx_iret rfl (Or.inl rfl) ⟨congrArg (fun z => some (Sum.inl z)) (by grind [bi]), rfl⟩
    · refine xx_iconst (q := 10) rfl rfl (by decide) ?_
      refine xx_goto (q := 14) rfl rfl ?_
      exact xx_iret rfl (Or.inr rfl) ⟨congrArg (fun z => some (Sum.inl z)) (by grind [bi]), rfl⟩
set_option maxHeartbeats 1000000 in
theorem c_unG {n dr : Nat} {R : Nat → Nat → Option Nat} {D0 D : KK} {al : List Tk} {s : Sg} (hR : RF R) (hdr : R 7 5 = some dr) (hdr2 : dr = 8 ∨ dr = 9) (hh : D0 7 1 = 0) (hS : LwS 7 dr al D0 s D) : ∃ D', XC 3 74 [.inr (some 7), .inr (some 474)] (xS n, R, D) none (xS n, R, D') ∧ LwS 7 dr al D0 (unF 0 s) D' := by
  have hsdr := sh_cc (n := n) hdr2
  refine XE_of (Nat.le_of_ble_eq_true rfl) (Nat.le_of_ble_eq_true rfl) (loc := [_, _, _, _]) rfl ?_
  refine xx_aload_n (q := 1) rfl rfl rfl ?_
  have hkb1 := kdT_b hS.1
  change 0 ≤ kdS s ∧ kdS s ≤ 400 at hkb1
  refine xx_callV (q := 4) (As := []) (rest := []) rfl rfl rfl (Or.inl rfl) rfl rfl (Nat.le_of_ble_eq_true rfl) xS_474 (XCm (c_kindS (n := n) (s := s) hR hS.1) rfl) rfl ?_
  refine xx_istore_n (q := 5) (loc2 := [_, _, _, _]) rfl rfl (Nat.le_of_ble_eq_true rfl) rfl ?_
  refine xx_iload_n (q := 6) rfl rfl rfl ?_
  refine xx_sipush (q := 9) rfl rfl (by decide) ?_
  refine xx_isubR (q := 10) rfl rfl (by omega) (by omega) ?_
  refine xx_istore_n (q := 11) (loc2 := [_, _, _, _]) rfl rfl (Nat.le_of_ble_eq_true rfl) rfl ?_
  refine xx_iload_n (q := 12) rfl rfl rfl ?_
  refine xx_sipush (q := 15) rfl rfl (by decide) ?_
  refine xx_icmp_ne (q := 29) (q2 := 18) rfl rfl rfl (fun h15 => ?_) (fun h15 => ?_)
  · refine xx_aload_n (q := 30) rfl rfl rfl ?_
    refine xx_iload_n (q := 31) rfl rfl rfl ?_
    refine xx_callV (q := 34) (As := [_]) (rest := []) rfl rfl rfl (Or.inl rfl) rfl rfl (Nat.le_of_ble_eq_true rfl) xS_7 (XCm (c_ftG (n := n) hR hdr hdr2 hh hS ((kdS s) - 307)) rfl) rfl ?_
    refine xx_ifb_eq (q := 47) (q2 := 37) rfl rfl rfl (fun h34 => ?_) (fun h34 => ?_)
    · refine xx_aload_n (q := 48) rfl rfl rfl ?_
      refine xx_iconst (q := 49) rfl rfl (by decide) ?_
      obtain ⟨D2, hx2, hq2, hg2⟩ := c_wrong (n := n) hR hS.1 1
      have hS2 : LwS 7 dr al D0 (wrS 1 s) D2 := hS.tp (by omega) (by omega) hq2 hg2
      refine xx_callV (q := 52) (As := [_]) (rest := []) rfl rfl rfl (Or.inl rfl) rfl rfl (Nat.le_of_ble_eq_true rfl) xS_474 (XCm hx2 rfl) rfl ?_
      refine xx_vret rfl rfl ⟨rfl, _, rfl, ?_⟩
      rw [show unF 0 s = wrS 1 s from (if_neg h15).trans (if_neg h34)]
      exact hS2
    · refine xx_aload_n (q := 38) rfl rfl rfl ?_
      refine xx_iconst (q := 39) rfl rfl (by decide) ?_
      refine xx_iload_n (q := 40) rfl rfl rfl ?_
      refine xx_isubR (q := 41) rfl rfl (by omega) (by omega) ?_
      obtain ⟨D3, hx3, hS3⟩ := c_wtG (n := n) hR hdr hdr2 hh hS ((-1) - ((kdS s) - 307))
      refine xx_callV (q := 44) (As := [_]) (rest := []) rfl rfl rfl (Or.inl rfl) rfl rfl (Nat.le_of_ble_eq_true rfl) xS_7 (XCm hx3 rfl) rfl ?_
      refine xx_goto (q := 53) rfl rfl ?_
      refine xx_aload_n (q := 54) rfl rfl rfl ?_
      obtain ⟨D4, hx4, hq4, hg4⟩ := c_step (n := n) hR hS3.1 
      have hS4 : LwS 7 dr al D0 (stS (wtS ((-1) - ((kdS s) - 307)) s)) D4 := hS3.tp (by omega) (by omega) hq4 hg4
      refine xx_callV (q := 57) (As := []) (rest := []) rfl rfl rfl (Or.inl rfl) rfl rfl (Nat.le_of_ble_eq_true rfl) xS_474 (XCm hx4 rfl) rfl ?_
      refine xx_vret rfl rfl ⟨rfl, _, rfl, ?_⟩
      rw [show unF 0 s = stS (wtS ((-1) - ((kdS s) - 307)) s) from (if_neg h15).trans (if_pos h34)]
      exact hS4
  · refine xx_aload_n (q := 19) rfl rfl rfl ?_
    refine xx_aload_n (q := 20) rfl rfl rfl ?_
    refine xx_callV (q := 23) (As := []) (rest := [_]) rfl rfl rfl (Or.inl rfl) rfl rfl (Nat.le_of_ble_eq_true rfl) xS_474 (XCm (c_value (n := n) hR hS.1) rfl) rfl ?_
    obtain ⟨D5, hx5, hS5⟩ := c_wtG (n := n) hR hdr hdr2 hh hS (vlT s.1)
    refine xx_callV (q := 26) (As := [_]) (rest := []) rfl rfl rfl (Or.inl rfl) rfl rfl (Nat.le_of_ble_eq_true rfl) xS_7 (XCm hx5 rfl) rfl ?_
    refine xx_goto (q := 53) rfl rfl ?_
    refine xx_aload_n (q := 54) rfl rfl rfl ?_
    obtain ⟨D6, hx6, hq6, hg6⟩ := c_step (n := n) hR hS5.1 
    have hS6 : LwS 7 dr al D0 (stS (wtS (vlT s.1) s)) D6 := hS5.tp (by omega) (by omega) hq6 hg6
    refine xx_callV (q := 57) (As := []) (rest := []) rfl rfl rfl (Or.inl rfl) rfl rfl (Nat.le_of_ble_eq_true rfl) xS_474 (XCm hx6 rfl) rfl ?_
    refine xx_vret rfl rfl ⟨rfl, _, rfl, ?_⟩
    rw [show unF 0 s = stS (wtS (vlT s.1) s) from if_pos h15]
    exact hS6
set_option maxHeartbeats 1000000 in
theorem c_prG_L {n dr : Nat} {R : Nat → Nat → Option Nat} {D0 : KK} {al : List Tk} (hR : RF R) (hdr : R 7 5 = some dr) (hdr2 : dr = 8 ∨ dr = 9) (hh : D0 7 1 = 0) : ∀ (k : Nat) (s : Sg) (D : KK) (i : Int) (x : Option XV), LwS 7 dr al D0 s D → 0 ≤ i → i + k = 400 → XX (XC 3) 73 (XP none (xS n) R (fun D' => LwS 7 dr al D0 (prL 0 k s) D')) 7 [some (.inr (some 7)), some (.inr (some 474)), some (.inl i), x] [] (xS n, R, D) := by
  intro k
  induction k using Nat.strongRecOn with
  | ind k ih =>
  intro s D i x hS h0 hk
  have hsdr := sh_cc (n := n) hdr2
  refine xx_iload_n (q := 8) rfl rfl rfl ?_
  refine xx_sipush (q := 11) rfl rfl (by decide) ?_
  refine xx_icmp_ge (q := 81) (q2 := 14) rfl rfl rfl (fun h11 => ?_) (fun h11 => ?_)
  · obtain rfl : k = 0 := by omega
    exact xx_vret rfl rfl ⟨rfl, _, rfl, hS⟩
  · refine xx_aload_n (q := 15) rfl rfl rfl ?_
    have hkb1 := kdT_b hS.1
    change 0 ≤ kdS s ∧ kdS s ≤ 400 at hkb1
    refine xx_callV (q := 18) (As := []) (rest := []) rfl rfl rfl (Or.inl rfl) rfl rfl (Nat.le_of_ble_eq_true rfl) xS_474 (XCm (c_kindS (n := n) (s := s) hR hS.1) rfl) rfl ?_
    refine xx_istore_n (q := 19) (loc2 := [_, _, _, _]) rfl rfl (Nat.le_of_ble_eq_true rfl) rfl ?_
    refine xx_iload_n (q := 20) rfl rfl rfl ?_
    refine xx_bipush (q := 22) rfl rfl (by decide) ?_
    refine xx_icmp_ne (q := 43) (q2 := 25) rfl rfl rfl (fun h22 => ?_) (fun h22 => ?_)
    · refine xx_iload_n (q := 44) rfl rfl rfl ?_
      refine xx_bipush (q := 46) rfl rfl (by decide) ?_
      refine xx_icmp_ne (q := 74) (q2 := 49) rfl rfl rfl (fun h46 => ?_) (fun h46 => ?_)
      · obtain ⟨k, rfl⟩ : ∃ k2, k = k2 + 1 := ⟨k - 1, by omega⟩
        rw [show prL 0 (k + 1) s = s from (if_neg h22).trans (if_neg h46)]
        exact xx_vret rfl rfl ⟨rfl, _, rfl, hS⟩
      · refine xx_aload_n (q := 50) rfl rfl rfl ?_
        obtain ⟨D2, hx2, hq2, hg2⟩ := c_step (n := n) hR hS.1 
        have hS2 : LwS 7 dr al D0 (stS s) D2 := hS.tp (by omega) (by omega) hq2 hg2
        refine xx_callV (q := 53) (As := []) (rest := []) rfl rfl rfl (Or.inl rfl) rfl rfl (Nat.le_of_ble_eq_true rfl) xS_474 (XCm hx2 rfl) rfl ?_
        refine xx_aload_n (q := 54) rfl rfl rfl ?_
        refine xx_aload_n (q := 55) rfl rfl rfl ?_
        refine xx_iconst (q := 56) rfl rfl (by decide) ?_
        refine xx_sipush (q := 59) rfl rfl (by decide) ?_
        obtain ⟨D3, hx3, hq3, hg3⟩ := c_nw (n := n) hR hS2.1 1 9999
        have hS3 : LwS 7 dr al D0 (nwS 1 9999 (stS s)) D3 := hS2.tp (by omega) (by omega) hq3 hg3
        refine xx_callV (q := 62) (As := [_, _]) (rest := [_]) rfl rfl rfl (Or.inl rfl) rfl rfl (Nat.le_of_ble_eq_true rfl) xS_474 (XCm hx3 rfl) rfl ?_
        obtain ⟨D4, hx4, hS4⟩ := c_wtG (n := n) hR hdr hdr2 hh hS3 (vlT (stS s).1)
        refine xx_callV (q := 65) (As := [_]) (rest := []) rfl rfl rfl (Or.inl rfl) rfl rfl (Nat.le_of_ble_eq_true rfl) xS_7 (XCm hx4 rfl) rfl ?_
        refine xx_aload_n (q := 66) rfl rfl rfl ?_
        refine xx_bipush (q := 68) rfl rfl (by decide) ?_
        obtain ⟨D5, hx5, hS5⟩ := c_wtG (n := n) hR hdr hdr2 hh hS4 (-23)
        refine xx_callV (q := 71) (As := [_]) (rest := []) rfl rfl rfl (Or.inl rfl) rfl rfl (Nat.le_of_ble_eq_true rfl) xS_7 (XCm hx5 rfl) rfl ?_
        refine xx_goto (q := 75) rfl rfl ?_
        refine xx_incz (q := 78) (loc2 := [_, _, _, _]) rfl rfl rfl (by omega) (by omega) rfl rfl ?_
        refine xx_goto (q := 7) rfl rfl ?_
        obtain ⟨k, rfl⟩ : ∃ k2, k = k2 + 1 := ⟨k - 1, by omega⟩
        rw [show prL 0 (k + 1) s = prL 0 k (wtS (-23) (wtS (vlT (stS s).1) (nwS 1 9999 (stS s)))) from (if_neg h22).trans (if_pos h46)]
        exact ih k (by omega) _ _ _ _ hS5 (by omega) (by omega)
    · refine xx_aload_n (q := 26) rfl rfl rfl ?_
      obtain ⟨D6, hx6, hq6, hg6⟩ := c_step (n := n) hR hS.1 
      have hS6 : LwS 7 dr al D0 (stS s) D6 := hS.tp (by omega) (by omega) hq6 hg6
      refine xx_callV (q := 29) (As := []) (rest := []) rfl rfl rfl (Or.inl rfl) rfl rfl (Nat.le_of_ble_eq_true rfl) xS_474 (XCm hx6 rfl) rfl ?_
      refine xx_aload_n (q := 30) rfl rfl rfl ?_
      refine xx_aload_n (q := 31) rfl rfl rfl ?_
      obtain ⟨D7, hx7, hS7⟩ := c_unG (n := n) hR hdr hdr2 hh hS6
      refine xx_callV (q := 34) (As := [_]) (rest := []) rfl rfl rfl (Or.inl rfl) rfl rfl (Nat.le_of_ble_eq_true rfl) xS_7 (XCm hx7 rfl) rfl ?_
      refine xx_aload_n (q := 35) rfl rfl rfl ?_
      refine xx_bipush (q := 37) rfl rfl (by decide) ?_
      obtain ⟨D8, hx8, hS8⟩ := c_wtG (n := n) hR hdr hdr2 hh hS7 (-22)
      refine xx_callV (q := 40) (As := [_]) (rest := []) rfl rfl rfl (Or.inl rfl) rfl rfl (Nat.le_of_ble_eq_true rfl) xS_7 (XCm hx8 rfl) rfl ?_
      refine xx_goto (q := 75) rfl rfl ?_
      refine xx_incz (q := 78) (loc2 := [_, _, _, _]) rfl rfl rfl (by omega) (by omega) rfl rfl ?_
      refine xx_goto (q := 7) rfl rfl ?_
      obtain ⟨k, rfl⟩ : ∃ k2, k = k2 + 1 := ⟨k - 1, by omega⟩
      rw [show prL 0 (k + 1) s = prL 0 k (wtS (-22) (unF 0 (stS s))) from if_pos h22]
      exact ih k (by omega) _ _ _ _ hS8 (by omega) (by omega)
set_option maxHeartbeats 1000000 in
theorem c_prG {n dr : Nat} {R : Nat → Nat → Option Nat} {D0 D : KK} {al : List Tk} {s : Sg} (hR : RF R) (hdr : R 7 5 = some dr) (hdr2 : dr = 8 ∨ dr = 9) (hh : D0 7 1 = 0) (hS : LwS 7 dr al D0 s D) : ∃ D', XC 4 73 [.inr (some 7), .inr (some 474)] (xS n, R, D) none (xS n, R, D') ∧ LwS 7 dr al D0 (prF 0 s) D' := by
  have hsdr := sh_cc (n := n) hdr2
  refine XE_of (Nat.le_of_ble_eq_true rfl) (Nat.le_of_ble_eq_true rfl) (loc := [_, _, _, _]) rfl ?_
  refine xx_aload_n (q := 1) rfl rfl rfl ?_
  refine xx_aload_n (q := 2) rfl rfl rfl ?_
  obtain ⟨D1, hx1, hS1⟩ := c_unG (n := n) hR hdr hdr2 hh hS
  refine xx_callV (q := 5) (As := [_]) (rest := []) rfl rfl rfl (Or.inl rfl) rfl rfl (Nat.le_of_ble_eq_true rfl) xS_7 (XCm hx1 rfl) rfl ?_
  refine xx_iconst (q := 6) rfl rfl (by decide) ?_
  refine xx_istore_n (q := 7) (loc2 := [_, _, _, _]) rfl rfl (Nat.le_of_ble_eq_true rfl) rfl ?_
  exact c_prG_L hR hdr hdr2 hh 400 _ _ 0 _ hS1 (by omega) (by omega)
set_option maxHeartbeats 1000000 in
theorem c_smG_L {n dr : Nat} {R : Nat → Nat → Option Nat} {D0 : KK} {al : List Tk} (hR : RF R) (hdr : R 7 5 = some dr) (hdr2 : dr = 8 ∨ dr = 9) (hh : D0 7 1 = 0) : ∀ (k : Nat) (s : Sg) (D : KK) (i : Int) (x : Option XV), LwS 7 dr al D0 s D → 0 ≤ i → i + k = 400 → XX (XC 4) 72 (XP none (xS n) R (fun D' => LwS 7 dr al D0 (smL 0 k s) D')) 7 [some (.inr (some 7)), some (.inr (some 474)), some (.inl i), x] [] (xS n, R, D) := by
  intro k
  induction k using Nat.strongRecOn with
  | ind k ih =>
  intro s D i x hS h0 hk
  have hsdr := sh_cc (n := n) hdr2
  refine xx_iload_n (q := 8) rfl rfl rfl ?_
  refine xx_sipush (q := 11) rfl rfl (by decide) ?_
  refine xx_icmp_ge (q := 64) (q2 := 14) rfl rfl rfl (fun h11 => ?_) (fun h11 => ?_)
  · obtain rfl : k = 0 := by omega
    exact xx_vret rfl rfl ⟨rfl, _, rfl, hS⟩
  · refine xx_aload_n (q := 15) rfl rfl rfl ?_
    have hkb1 := kdT_b hS.1
    change 0 ≤ kdS s ∧ kdS s ≤ 400 at hkb1
    refine xx_callV (q := 18) (As := []) (rest := []) rfl rfl rfl (Or.inl rfl) rfl rfl (Nat.le_of_ble_eq_true rfl) xS_474 (XCm (c_kindS (n := n) (s := s) hR hS.1) rfl) rfl ?_
    refine xx_istore_n (q := 19) (loc2 := [_, _, _, _]) rfl rfl (Nat.le_of_ble_eq_true rfl) rfl ?_
    refine xx_iload_n (q := 20) rfl rfl rfl ?_
    refine xx_bipush (q := 22) rfl rfl (by decide) ?_
    refine xx_icmp_eq (q := 32) (q2 := 25) rfl rfl rfl (fun h22 => ?_) (fun h22 => ?_)
    · refine xx_aload_n (q := 33) rfl rfl rfl ?_
      obtain ⟨D2, hx2, hq2, hg2⟩ := c_step (n := n) hR hS.1 
      have hS2 : LwS 7 dr al D0 (stS s) D2 := hS.tp (by omega) (by omega) hq2 hg2
      refine xx_callV (q := 36) (As := []) (rest := []) rfl rfl rfl (Or.inl rfl) rfl rfl (Nat.le_of_ble_eq_true rfl) xS_474 (XCm hx2 rfl) rfl ?_
      refine xx_aload_n (q := 37) rfl rfl rfl ?_
      refine xx_aload_n (q := 38) rfl rfl rfl ?_
      obtain ⟨D3, hx3, hS3⟩ := c_prG (n := n) hR hdr hdr2 hh hS2
      refine xx_callV (q := 41) (As := [_]) (rest := []) rfl rfl rfl (Or.inl rfl) rfl rfl (Nat.le_of_ble_eq_true rfl) xS_7 (XCm hx3 rfl) rfl ?_
      refine xx_aload_n (q := 42) rfl rfl rfl ?_
      refine xx_iload_n (q := 43) rfl rfl rfl ?_
      refine xx_bipush (q := 45) rfl rfl (by decide) ?_
      refine xx_icmp_ne (q := 53) (q2 := 48) rfl rfl rfl (fun h45 => ?_) (fun h45 => ?_)
      · refine xx_bipush (q := 55) rfl rfl (by decide) ?_
        obtain ⟨D4, hx4, hS4⟩ := c_wtG (n := n) hR hdr hdr2 hh hS3 (-21)
        refine xx_callV (q := 58) (As := [_]) (rest := []) rfl rfl rfl (Or.inl rfl) rfl rfl (Nat.le_of_ble_eq_true rfl) xS_7 (XCm hx4 rfl) rfl ?_
        refine xx_incz (q := 61) (loc2 := [_, _, _, _]) rfl rfl rfl (by omega) (by omega) rfl rfl ?_
        refine xx_goto (q := 7) rfl rfl ?_
        obtain ⟨k, rfl⟩ : ∃ k2, k = k2 + 1 := ⟨k - 1, by omega⟩
        rw [show smL 0 (k + 1) s = smL 0 k (wtS (-21) (prF 0 (stS s))) from (if_pos (Or.inl h22)).trans (by rw [show (if kdS s = 43 then (-20 : Int) else -21) = -21 from if_neg (by omega)])]
        exact ih k (by omega) _ _ _ _ hS4 (by omega) (by omega)
      · refine xx_bipush (q := 50) rfl rfl (by decide) ?_
        refine xx_goto (q := 55) rfl rfl ?_
        obtain ⟨D5, hx5, hS5⟩ := c_wtG (n := n) hR hdr hdr2 hh hS3 (-20)
        refine xx_callV (q := 58) (As := [_]) (rest := []) rfl rfl rfl (Or.inl rfl) rfl rfl (Nat.le_of_ble_eq_true rfl) xS_7 (XCm hx5 rfl) rfl ?_
        refine xx_incz (q := 61) (loc2 := [_, _, _, _]) rfl rfl rfl (by omega) (by omega) rfl rfl ?_
        refine xx_goto (q := 7) rfl rfl ?_
        obtain ⟨k, rfl⟩ : ∃ k2, k = k2 + 1 := ⟨k - 1, by omega⟩
        rw [show smL 0 (k + 1) s = smL 0 k (wtS (-20) (prF 0 (stS s))) from (if_pos (Or.inl h22)).trans (by rw [show (if kdS s = 43 then (-20 : Int) else -21) = -20 from if_pos (by omega)])]
        exact ih k (by omega) _ _ _ _ hS5 (by omega) (by omega)
    · refine xx_iload_n (q := 26) rfl rfl rfl ?_
      refine xx_bipush (q := 28) rfl rfl (by decide) ?_
      refine xx_icmp_eq (q := 32) (q2 := 31) rfl rfl rfl (fun h28 => ?_) (fun h28 => ?_)
      · refine xx_aload_n (q := 33) rfl rfl rfl ?_
        obtain ⟨D6, hx6, hq6, hg6⟩ := c_step (n := n) hR hS.1 
        have hS6 : LwS 7 dr al D0 (stS s) D6 := hS.tp (by omega) (by omega) hq6 hg6
        refine xx_callV (q := 36) (As := []) (rest := []) rfl rfl rfl (Or.inl rfl) rfl rfl (Nat.le_of_ble_eq_true rfl) xS_474 (XCm hx6 rfl) rfl ?_
        refine xx_aload_n (q := 37) rfl rfl rfl ?_
        refine xx_aload_n (q := 38) rfl rfl rfl ?_
        obtain ⟨D7, hx7, hS7⟩ := c_prG (n := n) hR hdr hdr2 hh hS6
        refine xx_callV (q := 41) (As := [_]) (rest := []) rfl rfl rfl (Or.inl rfl) rfl rfl (Nat.le_of_ble_eq_true rfl) xS_7 (XCm hx7 rfl) rfl ?_
        refine xx_aload_n (q := 42) rfl rfl rfl ?_
        refine xx_iload_n (q := 43) rfl rfl rfl ?_
        refine xx_bipush (q := 45) rfl rfl (by decide) ?_
        refine xx_icmp_ne (q := 53) (q2 := 48) rfl rfl rfl (fun h45 => ?_) (fun h45 => ?_)
        · refine xx_bipush (q := 55) rfl rfl (by decide) ?_
          obtain ⟨D8, hx8, hS8⟩ := c_wtG (n := n) hR hdr hdr2 hh hS7 (-21)
          refine xx_callV (q := 58) (As := [_]) (rest := []) rfl rfl rfl (Or.inl rfl) rfl rfl (Nat.le_of_ble_eq_true rfl) xS_7 (XCm hx8 rfl) rfl ?_
          refine xx_incz (q := 61) (loc2 := [_, _, _, _]) rfl rfl rfl (by omega) (by omega) rfl rfl ?_
          refine xx_goto (q := 7) rfl rfl ?_
          obtain ⟨k, rfl⟩ : ∃ k2, k = k2 + 1 := ⟨k - 1, by omega⟩
          rw [show smL 0 (k + 1) s = smL 0 k (wtS (-21) (prF 0 (stS s))) from (if_pos (Or.inr h28)).trans (by rw [show (if kdS s = 43 then (-20 : Int) else -21) = -21 from if_neg (by omega)])]
          exact ih k (by omega) _ _ _ _ hS8 (by omega) (by omega)
        · refine xx_bipush (q := 50) rfl rfl (by decide) ?_
          refine xx_goto (q := 55) rfl rfl ?_
          obtain ⟨D9, hx9, hS9⟩ := c_wtG (n := n) hR hdr hdr2 hh hS7 (-20)
          refine xx_callV (q := 58) (As := [_]) (rest := []) rfl rfl rfl (Or.inl rfl) rfl rfl (Nat.le_of_ble_eq_true rfl) xS_7 (XCm hx9 rfl) rfl ?_
          refine xx_incz (q := 61) (loc2 := [_, _, _, _]) rfl rfl rfl (by omega) (by omega) rfl rfl ?_
          refine xx_goto (q := 7) rfl rfl ?_
          obtain ⟨k, rfl⟩ : ∃ k2, k = k2 + 1 := ⟨k - 1, by omega⟩
          rw [show smL 0 (k + 1) s = smL 0 k (wtS (-20) (prF 0 (stS s))) from (if_pos (Or.inr h28)).trans (by rw [show (if kdS s = 43 then (-20 : Int) else -21) = -20 from if_pos (by omega)])]
          exact ih k (by omega) _ _ _ _ hS9 (by omega) (by omega)
      · obtain ⟨k, rfl⟩ : ∃ k2, k = k2 + 1 := ⟨k - 1, by omega⟩
        rw [show smL 0 (k + 1) s = s from if_neg (fun q => q.elim h22 h28)]
        exact xx_vret rfl rfl ⟨rfl, _, rfl, hS⟩
set_option maxHeartbeats 1000000 in
theorem c_smG {n dr : Nat} {R : Nat → Nat → Option Nat} {D0 D : KK} {al : List Tk} {s : Sg} (hR : RF R) (hdr : R 7 5 = some dr) (hdr2 : dr = 8 ∨ dr = 9) (hh : D0 7 1 = 0) (hS : LwS 7 dr al D0 s D) : ∃ D', XC 5 72 [.inr (some 7), .inr (some 474)] (xS n, R, D) none (xS n, R, D') ∧ LwS 7 dr al D0 (smS 0 s) D' := by
  have hsdr := sh_cc (n := n) hdr2
  refine XE_of (Nat.le_of_ble_eq_true rfl) (Nat.le_of_ble_eq_true rfl) (loc := [_, _, _, _]) rfl ?_
  refine xx_aload_n (q := 1) rfl rfl rfl ?_
  refine xx_aload_n (q := 2) rfl rfl rfl ?_
  obtain ⟨D1, hx1, hS1⟩ := c_prG (n := n) hR hdr hdr2 hh hS
  refine xx_callV (q := 5) (As := [_]) (rest := []) rfl rfl rfl (Or.inl rfl) rfl rfl (Nat.le_of_ble_eq_true rfl) xS_7 (XCm hx1 rfl) rfl ?_
  refine xx_iconst (q := 6) rfl rfl (by decide) ?_
  refine xx_istore_n (q := 7) (loc2 := [_, _, _, _]) rfl rfl (Nat.le_of_ble_eq_true rfl) rfl ?_
  exact c_smG_L hR hdr hdr2 hh 400 _ _ 0 _ hS1 (by omega) (by omega)
set_option maxHeartbeats 1000000 in
theorem c_wtH {n dr : Nat} {R : Nat → Nat → Option Nat} {D0 D : KK} {al : List Tk} {s : Sg} (hR : RF R) (hdr : R 11 5 = some dr) (hdr2 : dr = 12 ∨ dr = 13) (hh : D0 11 1 = 1) (hS : LwS 11 dr al D0 s D) (op : Int) : ∃ D', XC 1 76 [.inr (some 11), .inl op] (xS n, R, D) none (xS n, R, D') ∧ LwS 11 dr al D0 (wtS op s) D' := by
  have hsdr := sh_ch (n := n) hdr2
  refine XE_of (Nat.le_of_ble_eq_true rfl) (Nat.le_of_ble_eq_true rfl) (loc := [_, _]) rfl ?_
  refine xx_aload_n (q := 1) rfl rfl rfl ?_
  refine xx_gez (q := 4) rfl rfl rfl xS_11 (Nat.le_of_ble_eq_true rfl) rfl hS.2.1 ?_
  refine xx_aload_n (q := 5) rfl rfl rfl ?_
  refine xx_getR (q := 8) rfl rfl rfl xS_11 (Nat.le_of_ble_eq_true rfl) rfl (hdr) ?_
  refine xx_alen (q := 9) rfl rfl hsdr (by decide) (Nat.le_of_ble_eq_true rfl) ?_
  refine xx_icmp_ge (q := 32) (q2 := 12) rfl rfl rfl (fun h9 => ?_) (fun h9 => ?_)
  · refine xx_vret rfl rfl ⟨rfl, _, rfl, ?_⟩
    rw [show wtS op s = s from congrArg (Prod.mk s.1) (if_neg (by omega))]
    exact hS
  · refine xx_aload_n (q := 13) rfl rfl rfl ?_
    refine xx_getR (q := 16) rfl rfl rfl xS_11 (Nat.le_of_ble_eq_true rfl) rfl (hdr) ?_
    refine xx_aload_n (q := 17) rfl rfl rfl ?_
    refine xx_gez (q := 20) rfl rfl rfl xS_11 (Nat.le_of_ble_eq_true rfl) rfl hS.2.1 ?_
    refine xx_iload_n (q := 21) rfl rfl rfl ?_
    refine xx_isz (q := 22) rfl rfl hsdr (by omega) (by omega) rfl ?_
    refine xx_aload_n (q := 23) rfl rfl rfl ?_
    refine xx_dup (q := 24) rfl rfl ?_
    refine xx_gez (q := 27) rfl rfl rfl xS_11 (Nat.le_of_ble_eq_true rfl) rfl ((xui_a (by omega)).trans hS.2.1) ?_
    refine xx_iconst (q := 28) rfl rfl (by decide) ?_
    refine xx_iaddR (q := 29) rfl rfl (by omega) (by omega) ?_
    refine xx_puz (q := 32) rfl rfl rfl xS_11 (Nat.le_of_ble_eq_true rfl) (Nat.le_of_ble_eq_true rfl) (fun h => by cases h) (Or.inl rfl) rfl ?_
    refine xx_vret rfl rfl ⟨rfl, _, rfl, ?_⟩
    rw [show wtS op s = (s.1, s.2 ++ [op]) from congrArg (Prod.mk s.1) (if_pos (by omega)), show ((s.2.length : Nat) : Int).toNat = s.2.length by omega]
    obtain ⟨q1, q2, q3, q4, q5⟩ := hS
    have hf : FSt D (xui (xui D dr s.2.length op) 11 4 ((s.2.length : Int) + 1)) ∨ True := Or.inr trivial
    have ht : ∀ x k, (x = 474 ∨ x = 476 ∨ x = 477 ∨ x = 478) → xui (xui D dr s.2.length op) 11 4 ((s.2.length : Int) + 1) x k = D x k := fun x k q => (xui_a (by omega)).trans (xui_a (by omega))
    refine ⟨⟨(ht _ _ (by omega)).trans q1.1, (ht _ _ (by omega)).trans q1.2.1, ?_, q1.2.2.2.1, q1.2.2.2.2.1.fr (fun x k q => ht x k (by omega)), q1.2.2.2.2.2⟩, xui_s.trans (by rw [List.length_append]; rfl), by rw [List.length_append]; show s.2.length + 1 ≤ 400; omega, ?_, fun x k r1 r2 r3 => (if_neg (fun r => r2 r.1 r.2)).trans ((xui_a r3).trans (q5 x k r1 r2 r3))⟩
    · obtain ⟨m, e1, e2⟩ := q1.2.2.1
      exact ⟨m, e1, (ht _ _ (by omega)).trans e2⟩
    · intro j hj
      rw [xui_a (by omega)]
      exact gd_ap q4 j hj
theorem c_ftH {n dr : Nat} {R : Nat → Nat → Option Nat} {D0 D : KK} {al : List Tk} {s : Sg} (hR : RF R) (hdr : R 11 5 = some dr) (hdr2 : dr = 12 ∨ dr = 13) (hh : D0 11 1 = 1) (hS : LwS 11 dr al D0 s D) (f : Int) : XC 2 75 [.inr (some 11), .inl f] (xS n, R, D) (some (.inl (bi (ftP 1 f)))) (xS n, R, D) := by
  have hsdr := sh_ch (n := n) hdr2
  refine XC_of (Nat.le_of_ble_eq_true rfl) (Nat.le_of_ble_eq_true rfl) (loc := [_, _]) rfl ?_
  refine xx_iload_n (q := 1) rfl rfl rfl ?_
  refine xx_iconst (q := 2) rfl rfl (by decide) ?_
  refine xx_icmp_gt (q := 15) (q2 := 5) rfl rfl rfl (fun h2 => ?_) (fun h2 => ?_)
  · refine xx_aload_n (q := 16) rfl rfl rfl ?_
    refine xx_gez (q := 19) rfl rfl rfl xS_11 (Nat.le_of_ble_eq_true rfl) rfl ((hS.2.2.2.2 11 1 (by omega) (by omega) (by omega)).trans hh) ?_
    refine xx_if_eq (q := 42) (q2 := 22) rfl rfl rfl (fun h19 => (by exfalso; omega)) (fun _ => ?_)
    refine xx_iload_n (q := 23) rfl rfl rfl ?_
    refine xx_bipush (q := 25) rfl rfl (by decide) ?_
    refine xx_icmp_lt (q := 38) (q2 := 28) rfl rfl rfl (fun h25 => ?_) (fun h25 => ?_)
    · refine xx_iconst (q := 39) rfl rfl (by decide) ?_
      refine xx_goto (q := 53) rfl rfl ?_
      exact xx_iret rfl (Or.inl rfl) ⟨congrArg (fun z => some (Sum.inl z)) (by grind [bi]), rfl⟩
    · refine xx_iload_n (q := 29) rfl rfl rfl ?_
      refine xx_bipush (q := 31) rfl rfl (by decide) ?_
      refine xx_icmp_gt (q := 38) (q2 := 34) rfl rfl rfl (fun h31 => ?_) (fun h31 => ?_)
      · refine xx_iconst (q := 39) rfl rfl (by decide) ?_
        refine xx_goto (q := 53) rfl rfl ?_
        exact xx_iret rfl (Or.inl rfl) ⟨congrArg (fun z => some (Sum.inl z)) (by grind [bi]), rfl⟩
      · refine xx_iconst (q := 35) rfl rfl (by decide) ?_
        refine xx_goto (q := 53) rfl rfl ?_
        exact xx_iret rfl (Or.inr rfl) ⟨congrArg (fun z => some (Sum.inl z)) (by grind [bi]), rfl⟩
  · refine xx_iload_n (q := 6) rfl rfl rfl ?_
    refine xx_if_lt (q := 13) (q2 := 9) rfl rfl rfl (fun h6 => ?_) (fun h6 => ?_)
    · refine xx_iconst (q := 14) rfl rfl (by decide) ?_
      exact xx_iret rfl (Or.inl rfl) ⟨congrArg (fun z => some (Sum.inl z)) (by grind [bi]), rfl⟩
    · refine xx_iconst (q := 10) rfl rfl (by decide) ?_
      refine xx_goto (q := 14) rfl rfl ?_
      exact xx_iret rfl (Or.inr rfl) ⟨congrArg (fun z => some (Sum.inl z)) (by grind [bi]), rfl⟩
set_option maxHeartbeats 1000000 in
theorem c_unH {n dr : Nat} {R : Nat → Nat → Option Nat} {D0 D : KK} {al : List Tk} {s : Sg} (hR : RF R) (hdr : R 11 5 = some dr) (hdr2 : dr = 12 ∨ dr = 13) (hh : D0 11 1 = 1) (hS : LwS 11 dr al D0 s D) : ∃ D', XC 3 74 [.inr (some 11), .inr (some 474)] (xS n, R, D) none (xS n, R, D') ∧ LwS 11 dr al D0 (unF 1 s) D' := by
  have hsdr := sh_ch (n := n) hdr2
  refine XE_of (Nat.le_of_ble_eq_true rfl) (Nat.le_of_ble_eq_true rfl) (loc := [_, _, _, _]) rfl ?_
  refine xx_aload_n (q := 1) rfl rfl rfl ?_
  have hkb1 := kdT_b hS.1
  change 0 ≤ kdS s ∧ kdS s ≤ 400 at hkb1
  refine xx_callV (q := 4) (As := []) (rest := []) rfl rfl rfl (Or.inl rfl) rfl rfl (Nat.le_of_ble_eq_true rfl) xS_474 (XCm (c_kindS (n := n) (s := s) hR hS.1) rfl) rfl ?_
  refine xx_istore_n (q := 5) (loc2 := [_, _, _, _]) rfl rfl (Nat.le_of_ble_eq_true rfl) rfl ?_
  refine xx_iload_n (q := 6) rfl rfl rfl ?_
  refine xx_sipush (q := 9) rfl rfl (by decide) ?_
  refine xx_isubR (q := 10) rfl rfl (by omega) (by omega) ?_
  refine xx_istore_n (q := 11) (loc2 := [_, _, _, _]) rfl rfl (Nat.le_of_ble_eq_true rfl) rfl ?_
  refine xx_iload_n (q := 12) rfl rfl rfl ?_
  refine xx_sipush (q := 15) rfl rfl (by decide) ?_
  refine xx_icmp_ne (q := 29) (q2 := 18) rfl rfl rfl (fun h15 => ?_) (fun h15 => ?_)
  · refine xx_aload_n (q := 30) rfl rfl rfl ?_
    refine xx_iload_n (q := 31) rfl rfl rfl ?_
    refine xx_callV (q := 34) (As := [_]) (rest := []) rfl rfl rfl (Or.inl rfl) rfl rfl (Nat.le_of_ble_eq_true rfl) xS_11 (XCm (c_ftH (n := n) hR hdr hdr2 hh hS ((kdS s) - 307)) rfl) rfl ?_
    refine xx_ifb_eq (q := 47) (q2 := 37) rfl rfl rfl (fun h34 => ?_) (fun h34 => ?_)
    · refine xx_aload_n (q := 48) rfl rfl rfl ?_
      refine xx_iconst (q := 49) rfl rfl (by decide) ?_
      obtain ⟨D2, hx2, hq2, hg2⟩ := c_wrong (n := n) hR hS.1 1
      have hS2 : LwS 11 dr al D0 (wrS 1 s) D2 := hS.tp (by omega) (by omega) hq2 hg2
      refine xx_callV (q := 52) (As := [_]) (rest := []) rfl rfl rfl (Or.inl rfl) rfl rfl (Nat.le_of_ble_eq_true rfl) xS_474 (XCm hx2 rfl) rfl ?_
      refine xx_vret rfl rfl ⟨rfl, _, rfl, ?_⟩
      rw [show unF 1 s = wrS 1 s from (if_neg h15).trans (if_neg h34)]
      exact hS2
    · refine xx_aload_n (q := 38) rfl rfl rfl ?_
      refine xx_iconst (q := 39) rfl rfl (by decide) ?_
      refine xx_iload_n (q := 40) rfl rfl rfl ?_
      refine xx_isubR (q := 41) rfl rfl (by omega) (by omega) ?_
      obtain ⟨D3, hx3, hS3⟩ := c_wtH (n := n) hR hdr hdr2 hh hS ((-1) - ((kdS s) - 307))
      refine xx_callV (q := 44) (As := [_]) (rest := []) rfl rfl rfl (Or.inl rfl) rfl rfl (Nat.le_of_ble_eq_true rfl) xS_11 (XCm hx3 rfl) rfl ?_
      refine xx_goto (q := 53) rfl rfl ?_
      refine xx_aload_n (q := 54) rfl rfl rfl ?_
      obtain ⟨D4, hx4, hq4, hg4⟩ := c_step (n := n) hR hS3.1 
      have hS4 : LwS 11 dr al D0 (stS (wtS ((-1) - ((kdS s) - 307)) s)) D4 := hS3.tp (by omega) (by omega) hq4 hg4
      refine xx_callV (q := 57) (As := []) (rest := []) rfl rfl rfl (Or.inl rfl) rfl rfl (Nat.le_of_ble_eq_true rfl) xS_474 (XCm hx4 rfl) rfl ?_
      refine xx_vret rfl rfl ⟨rfl, _, rfl, ?_⟩
      rw [show unF 1 s = stS (wtS ((-1) - ((kdS s) - 307)) s) from (if_neg h15).trans (if_pos h34)]
      exact hS4
  · refine xx_aload_n (q := 19) rfl rfl rfl ?_
    refine xx_aload_n (q := 20) rfl rfl rfl ?_
    refine xx_callV (q := 23) (As := []) (rest := [_]) rfl rfl rfl (Or.inl rfl) rfl rfl (Nat.le_of_ble_eq_true rfl) xS_474 (XCm (c_value (n := n) hR hS.1) rfl) rfl ?_
    obtain ⟨D5, hx5, hS5⟩ := c_wtH (n := n) hR hdr hdr2 hh hS (vlT s.1)
    refine xx_callV (q := 26) (As := [_]) (rest := []) rfl rfl rfl (Or.inl rfl) rfl rfl (Nat.le_of_ble_eq_true rfl) xS_11 (XCm hx5 rfl) rfl ?_
    refine xx_goto (q := 53) rfl rfl ?_
    refine xx_aload_n (q := 54) rfl rfl rfl ?_
    obtain ⟨D6, hx6, hq6, hg6⟩ := c_step (n := n) hR hS5.1 
    have hS6 : LwS 11 dr al D0 (stS (wtS (vlT s.1) s)) D6 := hS5.tp (by omega) (by omega) hq6 hg6
    refine xx_callV (q := 57) (As := []) (rest := []) rfl rfl rfl (Or.inl rfl) rfl rfl (Nat.le_of_ble_eq_true rfl) xS_474 (XCm hx6 rfl) rfl ?_
    refine xx_vret rfl rfl ⟨rfl, _, rfl, ?_⟩
    rw [show unF 1 s = stS (wtS (vlT s.1) s) from if_pos h15]
    exact hS6
set_option maxHeartbeats 1000000 in
theorem c_prH_L {n dr : Nat} {R : Nat → Nat → Option Nat} {D0 : KK} {al : List Tk} (hR : RF R) (hdr : R 11 5 = some dr) (hdr2 : dr = 12 ∨ dr = 13) (hh : D0 11 1 = 1) : ∀ (k : Nat) (s : Sg) (D : KK) (i : Int) (x : Option XV), LwS 11 dr al D0 s D → 0 ≤ i → i + k = 400 → XX (XC 3) 73 (XP none (xS n) R (fun D' => LwS 11 dr al D0 (prL 1 k s) D')) 7 [some (.inr (some 11)), some (.inr (some 474)), some (.inl i), x] [] (xS n, R, D) := by
  intro k
  induction k using Nat.strongRecOn with
  | ind k ih =>
  intro s D i x hS h0 hk
  have hsdr := sh_ch (n := n) hdr2
  refine xx_iload_n (q := 8) rfl rfl rfl ?_
  refine xx_sipush (q := 11) rfl rfl (by decide) ?_
  refine xx_icmp_ge (q := 81) (q2 := 14) rfl rfl rfl (fun h11 => ?_) (fun h11 => ?_)
  · obtain rfl : k = 0 := by omega
    exact xx_vret rfl rfl ⟨rfl, _, rfl, hS⟩
  · refine xx_aload_n (q := 15) rfl rfl rfl ?_
    have hkb1 := kdT_b hS.1
    change 0 ≤ kdS s ∧ kdS s ≤ 400 at hkb1
    refine xx_callV (q := 18) (As := []) (rest := []) rfl rfl rfl (Or.inl rfl) rfl rfl (Nat.le_of_ble_eq_true rfl) xS_474 (XCm (c_kindS (n := n) (s := s) hR hS.1) rfl) rfl ?_
    refine xx_istore_n (q := 19) (loc2 := [_, _, _, _]) rfl rfl (Nat.le_of_ble_eq_true rfl) rfl ?_
    refine xx_iload_n (q := 20) rfl rfl rfl ?_
    refine xx_bipush (q := 22) rfl rfl (by decide) ?_
    refine xx_icmp_ne (q := 43) (q2 := 25) rfl rfl rfl (fun h22 => ?_) (fun h22 => ?_)
    · refine xx_iload_n (q := 44) rfl rfl rfl ?_
      refine xx_bipush (q := 46) rfl rfl (by decide) ?_
      refine xx_icmp_ne (q := 74) (q2 := 49) rfl rfl rfl (fun h46 => ?_) (fun h46 => ?_)
      · obtain ⟨k, rfl⟩ : ∃ k2, k = k2 + 1 := ⟨k - 1, by omega⟩
        rw [show prL 1 (k + 1) s = s from (if_neg h22).trans (if_neg h46)]
        exact xx_vret rfl rfl ⟨rfl, _, rfl, hS⟩
      · refine xx_aload_n (q := 50) rfl rfl rfl ?_
        obtain ⟨D2, hx2, hq2, hg2⟩ := c_step (n := n) hR hS.1 
        have hS2 : LwS 11 dr al D0 (stS s) D2 := hS.tp (by omega) (by omega) hq2 hg2
        refine xx_callV (q := 53) (As := []) (rest := []) rfl rfl rfl (Or.inl rfl) rfl rfl (Nat.le_of_ble_eq_true rfl) xS_474 (XCm hx2 rfl) rfl ?_
        refine xx_aload_n (q := 54) rfl rfl rfl ?_
        refine xx_aload_n (q := 55) rfl rfl rfl ?_
        refine xx_iconst (q := 56) rfl rfl (by decide) ?_
        refine xx_sipush (q := 59) rfl rfl (by decide) ?_
        obtain ⟨D3, hx3, hq3, hg3⟩ := c_nw (n := n) hR hS2.1 1 9999
        have hS3 : LwS 11 dr al D0 (nwS 1 9999 (stS s)) D3 := hS2.tp (by omega) (by omega) hq3 hg3
        refine xx_callV (q := 62) (As := [_, _]) (rest := [_]) rfl rfl rfl (Or.inl rfl) rfl rfl (Nat.le_of_ble_eq_true rfl) xS_474 (XCm hx3 rfl) rfl ?_
        obtain ⟨D4, hx4, hS4⟩ := c_wtH (n := n) hR hdr hdr2 hh hS3 (vlT (stS s).1)
        refine xx_callV (q := 65) (As := [_]) (rest := []) rfl rfl rfl (Or.inl rfl) rfl rfl (Nat.le_of_ble_eq_true rfl) xS_11 (XCm hx4 rfl) rfl ?_
        refine xx_aload_n (q := 66) rfl rfl rfl ?_
        refine xx_bipush (q := 68) rfl rfl (by decide) ?_
        obtain ⟨D5, hx5, hS5⟩ := c_wtH (n := n) hR hdr hdr2 hh hS4 (-23)
        refine xx_callV (q := 71) (As := [_]) (rest := []) rfl rfl rfl (Or.inl rfl) rfl rfl (Nat.le_of_ble_eq_true rfl) xS_11 (XCm hx5 rfl) rfl ?_
        refine xx_goto (q := 75) rfl rfl ?_
        refine xx_incz (q := 78) (loc2 := [_, _, _, _]) rfl rfl rfl (by omega) (by omega) rfl rfl ?_
        refine xx_goto (q := 7) rfl rfl ?_
        obtain ⟨k, rfl⟩ : ∃ k2, k = k2 + 1 := ⟨k - 1, by omega⟩
        rw [show prL 1 (k + 1) s = prL 1 k (wtS (-23) (wtS (vlT (stS s).1) (nwS 1 9999 (stS s)))) from (if_neg h22).trans (if_pos h46)]
        exact ih k (by omega) _ _ _ _ hS5 (by omega) (by omega)
    · refine xx_aload_n (q := 26) rfl rfl rfl ?_
      obtain ⟨D6, hx6, hq6, hg6⟩ := c_step (n := n) hR hS.1 
      have hS6 : LwS 11 dr al D0 (stS s) D6 := hS.tp (by omega) (by omega) hq6 hg6
      refine xx_callV (q := 29) (As := []) (rest := []) rfl rfl rfl (Or.inl rfl) rfl rfl (Nat.le_of_ble_eq_true rfl) xS_474 (XCm hx6 rfl) rfl ?_
      refine xx_aload_n (q := 30) rfl rfl rfl ?_
      refine xx_aload_n (q := 31) rfl rfl rfl ?_
      obtain ⟨D7, hx7, hS7⟩ := c_unH (n := n) hR hdr hdr2 hh hS6
      refine xx_callV (q := 34) (As := [_]) (rest := []) rfl rfl rfl (Or.inl rfl) rfl rfl (Nat.le_of_ble_eq_true rfl) xS_11 (XCm hx7 rfl) rfl ?_
      refine xx_aload_n (q := 35) rfl rfl rfl ?_
      refine xx_bipush (q := 37) rfl rfl (by decide) ?_
      obtain ⟨D8, hx8, hS8⟩ := c_wtH (n := n) hR hdr hdr2 hh hS7 (-22)
      refine xx_callV (q := 40) (As := [_]) (rest := []) rfl rfl rfl (Or.inl rfl) rfl rfl (Nat.le_of_ble_eq_true rfl) xS_11 (XCm hx8 rfl) rfl ?_
      refine xx_goto (q := 75) rfl rfl ?_
      refine xx_incz (q := 78) (loc2 := [_, _, _, _]) rfl rfl rfl (by omega) (by omega) rfl rfl ?_
      refine xx_goto (q := 7) rfl rfl ?_
      obtain ⟨k, rfl⟩ : ∃ k2, k = k2 + 1 := ⟨k - 1, by omega⟩
      rw [show prL 1 (k + 1) s = prL 1 k (wtS (-22) (unF 1 (stS s))) from if_pos h22]
      exact ih k (by omega) _ _ _ _ hS8 (by omega) (by omega)
set_option maxHeartbeats 1000000 in
theorem c_prH {n dr : Nat} {R : Nat → Nat → Option Nat} {D0 D : KK} {al : List Tk} {s : Sg} (hR : RF R) (hdr : R 11 5 = some dr) (hdr2 : dr = 12 ∨ dr = 13) (hh : D0 11 1 = 1) (hS : LwS 11 dr al D0 s D) : ∃ D', XC 4 73 [.inr (some 11), .inr (some 474)] (xS n, R, D) none (xS n, R, D') ∧ LwS 11 dr al D0 (prF 1 s) D' := by
  have hsdr := sh_ch (n := n) hdr2
  refine XE_of (Nat.le_of_ble_eq_true rfl) (Nat.le_of_ble_eq_true rfl) (loc := [_, _, _, _]) rfl ?_
  refine xx_aload_n (q := 1) rfl rfl rfl ?_
  refine xx_aload_n (q := 2) rfl rfl rfl ?_
  obtain ⟨D1, hx1, hS1⟩ := c_unH (n := n) hR hdr hdr2 hh hS
  refine xx_callV (q := 5) (As := [_]) (rest := []) rfl rfl rfl (Or.inl rfl) rfl rfl (Nat.le_of_ble_eq_true rfl) xS_11 (XCm hx1 rfl) rfl ?_
  refine xx_iconst (q := 6) rfl rfl (by decide) ?_
  refine xx_istore_n (q := 7) (loc2 := [_, _, _, _]) rfl rfl (Nat.le_of_ble_eq_true rfl) rfl ?_
  exact c_prH_L hR hdr hdr2 hh 400 _ _ 0 _ hS1 (by omega) (by omega)
set_option maxHeartbeats 1000000 in
theorem c_smH_L {n dr : Nat} {R : Nat → Nat → Option Nat} {D0 : KK} {al : List Tk} (hR : RF R) (hdr : R 11 5 = some dr) (hdr2 : dr = 12 ∨ dr = 13) (hh : D0 11 1 = 1) : ∀ (k : Nat) (s : Sg) (D : KK) (i : Int) (x : Option XV), LwS 11 dr al D0 s D → 0 ≤ i → i + k = 400 → XX (XC 4) 72 (XP none (xS n) R (fun D' => LwS 11 dr al D0 (smL 1 k s) D')) 7 [some (.inr (some 11)), some (.inr (some 474)), some (.inl i), x] [] (xS n, R, D) := by
  intro k
  induction k using Nat.strongRecOn with
  | ind k ih =>
  intro s D i x hS h0 hk
  have hsdr := sh_ch (n := n) hdr2
  refine xx_iload_n (q := 8) rfl rfl rfl ?_
  refine xx_sipush (q := 11) rfl rfl (by decide) ?_
  refine xx_icmp_ge (q := 64) (q2 := 14) rfl rfl rfl (fun h11 => ?_) (fun h11 => ?_)
  · obtain rfl : k = 0 := by omega
    exact xx_vret rfl rfl ⟨rfl, _, rfl, hS⟩
  · refine xx_aload_n (q := 15) rfl rfl rfl ?_
    have hkb1 := kdT_b hS.1
    change 0 ≤ kdS s ∧ kdS s ≤ 400 at hkb1
    refine xx_callV (q := 18) (As := []) (rest := []) rfl rfl rfl (Or.inl rfl) rfl rfl (Nat.le_of_ble_eq_true rfl) xS_474 (XCm (c_kindS (n := n) (s := s) hR hS.1) rfl) rfl ?_
    refine xx_istore_n (q := 19) (loc2 := [_, _, _, _]) rfl rfl (Nat.le_of_ble_eq_true rfl) rfl ?_
    refine xx_iload_n (q := 20) rfl rfl rfl ?_
    refine xx_bipush (q := 22) rfl rfl (by decide) ?_
    refine xx_icmp_eq (q := 32) (q2 := 25) rfl rfl rfl (fun h22 => ?_) (fun h22 => ?_)
    · refine xx_aload_n (q := 33) rfl rfl rfl ?_
      obtain ⟨D2, hx2, hq2, hg2⟩ := c_step (n := n) hR hS.1 
      have hS2 : LwS 11 dr al D0 (stS s) D2 := hS.tp (by omega) (by omega) hq2 hg2
      refine xx_callV (q := 36) (As := []) (rest := []) rfl rfl rfl (Or.inl rfl) rfl rfl (Nat.le_of_ble_eq_true rfl) xS_474 (XCm hx2 rfl) rfl ?_
      refine xx_aload_n (q := 37) rfl rfl rfl ?_
      refine xx_aload_n (q := 38) rfl rfl rfl ?_
      obtain ⟨D3, hx3, hS3⟩ := c_prH (n := n) hR hdr hdr2 hh hS2
      refine xx_callV (q := 41) (As := [_]) (rest := []) rfl rfl rfl (Or.inl rfl) rfl rfl (Nat.le_of_ble_eq_true rfl) xS_11 (XCm hx3 rfl) rfl ?_
      refine xx_aload_n (q := 42) rfl rfl rfl ?_
      refine xx_iload_n (q := 43) rfl rfl rfl ?_
      refine xx_bipush (q := 45) rfl rfl (by decide) ?_
      refine xx_icmp_ne (q := 53) (q2 := 48) rfl rfl rfl (fun h45 => ?_) (fun h45 => ?_)
      · refine xx_bipush (q := 55) rfl rfl (by decide) ?_
        obtain ⟨D4, hx4, hS4⟩ := c_wtH (n := n) hR hdr hdr2 hh hS3 (-21)
        refine xx_callV (q := 58) (As := [_]) (rest := []) rfl rfl rfl (Or.inl rfl) rfl rfl (Nat.le_of_ble_eq_true rfl) xS_11 (XCm hx4 rfl) rfl ?_
        refine xx_incz (q := 61) (loc2 := [_, _, _, _]) rfl rfl rfl (by omega) (by omega) rfl rfl ?_
        refine xx_goto (q := 7) rfl rfl ?_
        obtain ⟨k, rfl⟩ : ∃ k2, k = k2 + 1 := ⟨k - 1, by omega⟩
        rw [show smL 1 (k + 1) s = smL 1 k (wtS (-21) (prF 1 (stS s))) from (if_pos (Or.inl h22)).trans (by rw [show (if kdS s = 43 then (-20 : Int) else -21) = -21 from if_neg (by omega)])]
        exact ih k (by omega) _ _ _ _ hS4 (by omega) (by omega)
      · refine xx_bipush (q := 50) rfl rfl (by decide) ?_
        refine xx_goto (q := 55) rfl rfl ?_
        obtain ⟨D5, hx5, hS5⟩ := c_wtH (n := n) hR hdr hdr2 hh hS3 (-20)
        refine xx_callV (q := 58) (As := [_]) (rest := []) rfl rfl rfl (Or.inl rfl) rfl rfl (Nat.le_of_ble_eq_true rfl) xS_11 (XCm hx5 rfl) rfl ?_
        refine xx_incz (q := 61) (loc2 := [_, _, _, _]) rfl rfl rfl (by omega) (by omega) rfl rfl ?_
        refine xx_goto (q := 7) rfl rfl ?_
        obtain ⟨k, rfl⟩ : ∃ k2, k = k2 + 1 := ⟨k - 1, by omega⟩
        rw [show smL 1 (k + 1) s = smL 1 k (wtS (-20) (prF 1 (stS s))) from (if_pos (Or.inl h22)).trans (by rw [show (if kdS s = 43 then (-20 : Int) else -21) = -20 from if_pos (by omega)])]
        exact ih k (by omega) _ _ _ _ hS5 (by omega) (by omega)
    · refine xx_iload_n (q := 26) rfl rfl rfl ?_
      refine xx_bipush (q := 28) rfl rfl (by decide) ?_
      refine xx_icmp_eq (q := 32) (q2 := 31) rfl rfl rfl (fun h28 => ?_) (fun h28 => ?_)
      · refine xx_aload_n (q := 33) rfl rfl rfl ?_
        obtain ⟨D6, hx6, hq6, hg6⟩ := c_step (n := n) hR hS.1 
        have hS6 : LwS 11 dr al D0 (stS s) D6 := hS.tp (by omega) (by omega) hq6 hg6
        refine xx_callV (q := 36) (As := []) (rest := []) rfl rfl rfl (Or.inl rfl) rfl rfl (Nat.le_of_ble_eq_true rfl) xS_474 (XCm hx6 rfl) rfl ?_
        refine xx_aload_n (q := 37) rfl rfl rfl ?_
        refine xx_aload_n (q := 38) rfl rfl rfl ?_
        obtain ⟨D7, hx7, hS7⟩ := c_prH (n := n) hR hdr hdr2 hh hS6
        refine xx_callV (q := 41) (As := [_]) (rest := []) rfl rfl rfl (Or.inl rfl) rfl rfl (Nat.le_of_ble_eq_true rfl) xS_11 (XCm hx7 rfl) rfl ?_
        refine xx_aload_n (q := 42) rfl rfl rfl ?_
        refine xx_iload_n (q := 43) rfl rfl rfl ?_
        refine xx_bipush (q := 45) rfl rfl (by decide) ?_
        refine xx_icmp_ne (q := 53) (q2 := 48) rfl rfl rfl (fun h45 => ?_) (fun h45 => ?_)
        · refine xx_bipush (q := 55) rfl rfl (by decide) ?_
          obtain ⟨D8, hx8, hS8⟩ := c_wtH (n := n) hR hdr hdr2 hh hS7 (-21)
          refine xx_callV (q := 58) (As := [_]) (rest := []) rfl rfl rfl (Or.inl rfl) rfl rfl (Nat.le_of_ble_eq_true rfl) xS_11 (XCm hx8 rfl) rfl ?_
          refine xx_incz (q := 61) (loc2 := [_, _, _, _]) rfl rfl rfl (by omega) (by omega) rfl rfl ?_
          refine xx_goto (q := 7) rfl rfl ?_
          obtain ⟨k, rfl⟩ : ∃ k2, k = k2 + 1 := ⟨k - 1, by omega⟩
          rw [show smL 1 (k + 1) s = smL 1 k (wtS (-21) (prF 1 (stS s))) from (if_pos (Or.inr h28)).trans (by rw [show (if kdS s = 43 then (-20 : Int) else -21) = -21 from if_neg (by omega)])]
          exact ih k (by omega) _ _ _ _ hS8 (by omega) (by omega)
        · refine xx_bipush (q := 50) rfl rfl (by decide) ?_
          refine xx_goto (q := 55) rfl rfl ?_
          obtain ⟨D9, hx9, hS9⟩ := c_wtH (n := n) hR hdr hdr2 hh hS7 (-20)
          refine xx_callV (q := 58) (As := [_]) (rest := []) rfl rfl rfl (Or.inl rfl) rfl rfl (Nat.le_of_ble_eq_true rfl) xS_11 (XCm hx9 rfl) rfl ?_
          refine xx_incz (q := 61) (loc2 := [_, _, _, _]) rfl rfl rfl (by omega) (by omega) rfl rfl ?_
          refine xx_goto (q := 7) rfl rfl ?_
          obtain ⟨k, rfl⟩ : ∃ k2, k = k2 + 1 := ⟨k - 1, by omega⟩
          rw [show smL 1 (k + 1) s = smL 1 k (wtS (-20) (prF 1 (stS s))) from (if_pos (Or.inr h28)).trans (by rw [show (if kdS s = 43 then (-20 : Int) else -21) = -20 from if_pos (by omega)])]
          exact ih k (by omega) _ _ _ _ hS9 (by omega) (by omega)
      · obtain ⟨k, rfl⟩ : ∃ k2, k = k2 + 1 := ⟨k - 1, by omega⟩
        rw [show smL 1 (k + 1) s = s from if_neg (fun q => q.elim h22 h28)]
        exact xx_vret rfl rfl ⟨rfl, _, rfl, hS⟩
set_option maxHeartbeats 1000000 in
theorem c_smH {n dr : Nat} {R : Nat → Nat → Option Nat} {D0 D : KK} {al : List Tk} {s : Sg} (hR : RF R) (hdr : R 11 5 = some dr) (hdr2 : dr = 12 ∨ dr = 13) (hh : D0 11 1 = 1) (hS : LwS 11 dr al D0 s D) : ∃ D', XC 5 72 [.inr (some 11), .inr (some 474)] (xS n, R, D) none (xS n, R, D') ∧ LwS 11 dr al D0 (smS 1 s) D' := by
  have hsdr := sh_ch (n := n) hdr2
  refine XE_of (Nat.le_of_ble_eq_true rfl) (Nat.le_of_ble_eq_true rfl) (loc := [_, _, _, _]) rfl ?_
  refine xx_aload_n (q := 1) rfl rfl rfl ?_
  refine xx_aload_n (q := 2) rfl rfl rfl ?_
  obtain ⟨D1, hx1, hS1⟩ := c_prH (n := n) hR hdr hdr2 hh hS
  refine xx_callV (q := 5) (As := [_]) (rest := []) rfl rfl rfl (Or.inl rfl) rfl rfl (Nat.le_of_ble_eq_true rfl) xS_11 (XCm hx1 rfl) rfl ?_
  refine xx_iconst (q := 6) rfl rfl (by decide) ?_
  refine xx_istore_n (q := 7) (loc2 := [_, _, _, _]) rfl rfl (Nat.le_of_ble_eq_true rfl) rfl ?_
  exact c_smH_L hR hdr hdr2 hh 400 _ _ 0 _ hS1 (by omega) (by omega)
set_option maxHeartbeats 1000000 in
theorem c_cp {m : XM} (k : Int) : XC 1 71 [.inl k] m (some (.inl (cpF k))) m := by
  refine XC_of (Nat.le_of_ble_eq_true rfl) (Nat.le_of_ble_eq_true rfl) (loc := [_]) rfl ?_
  refine xx_iload_n (q := 1) rfl rfl rfl ?_
  refine xx_bipush (q := 3) rfl rfl (by decide) ?_
  refine xx_icmp_ne (q := 9) (q2 := 6) rfl rfl rfl (fun h3 => ?_) (fun h3 => ?_)
  · refine xx_iload_n (q := 10) rfl rfl rfl ?_
    refine xx_bipush (q := 12) rfl rfl (by decide) ?_
    refine xx_icmp_ne (q := 20) (q2 := 15) rfl rfl rfl (fun h12 => ?_) (fun h12 => ?_)
    · refine xx_bipush (q := 22) rfl rfl (by decide) ?_
      exact xx_iret rfl trivial ⟨congrArg (fun z => some (Sum.inl z)) (by grind [cpF]), rfl⟩
    · refine xx_bipush (q := 17) rfl rfl (by decide) ?_
      refine xx_goto (q := 22) rfl rfl ?_
      exact xx_iret rfl trivial ⟨congrArg (fun z => some (Sum.inl z)) (by grind [cpF]), rfl⟩
  · refine xx_bipush (q := 8) rfl rfl (by decide) ?_
    exact xx_iret rfl trivial ⟨congrArg (fun z => some (Sum.inl z)) (by grind [cpF]), rfl⟩
