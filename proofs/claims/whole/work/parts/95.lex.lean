/-! Tokens: the class. -/
abbrev Tk : Type := Int × Int × Int
abbrev ltP (c : Int) : Prop := (97 ≤ c ∧ c ≤ 122) ∨ (65 ≤ c ∧ c ≤ 90)
abbrev dgP (c : Int) : Prop := 48 ≤ c ∧ c ≤ 57
def rnL (bs : List Int) : Nat → Nat → Nat
  | 0, j => j
  | f + 1, j => if j < bs.length ∧ ltP (bs.getD j 0) then rnL bs f (j + 1) else j
def rnD (bs : List Int) : Nat → Nat → Nat
  | 0, j => j
  | f + 1, j => if j < bs.length ∧ dgP (bs.getD j 0) then rnD bs f (j + 1) else j
def rL (bs : List Int) (j : Nat) : Nat := rnL bs (bs.length - j) j
def rD (bs : List Int) (j : Nat) : Nat := rnD bs (bs.length - j) j
theorem rnL_b (bs : List Int) : ∀ (f j : Nat), j ≤ bs.length → f + j = bs.length → j ≤ rnL bs f j ∧ rnL bs f j ≤ bs.length
  | 0, j, h, _ => ⟨Nat.le_refl _, h⟩
  | f + 1, j, h, h2 => by
    unfold rnL
    split
    · have := rnL_b bs f (j + 1) (by omega) (by omega); omega
    · omega
theorem rnD_b (bs : List Int) : ∀ (f j : Nat), j ≤ bs.length → f + j = bs.length → j ≤ rnD bs f j ∧ rnD bs f j ≤ bs.length
  | 0, j, h, _ => ⟨Nat.le_refl _, h⟩
  | f + 1, j, h, h2 => by
    unfold rnD
    split
    · have := rnD_b bs f (j + 1) (by omega) (by omega); omega
    · omega
theorem rL_b {bs : List Int} {j : Nat} (h : j ≤ bs.length) : j ≤ rL bs j ∧ rL bs j ≤ bs.length := rnL_b bs _ j h (by omega)
theorem rD_b {bs : List Int} {j : Nat} (h : j ≤ bs.length) : j ≤ rD bs j ∧ rD bs j ≤ bs.length := rnD_b bs _ j h (by omega)
def kwL (bs : List Int) (fr to : Int) : Nat → Nat → Int → Int → Int
  | 0, _, _, _ => 257
  | k + 1, p, kd, sm => if WDS.getD p 0 = 32 then (if sm = to then kd else kwL bs fr to k (p + 1) (kd + 1) fr) else kwL bs fr to k (p + 1) kd (if sm = -1 then -1 else if sm < to ∧ bs.getD sm.toNat 0 = WDS.getD p 0 then sm + 1 else -1)
def kwF (bs : List Int) (i j : Nat) : Int := kwL bs (i : Int) (j : Int) 158 0 300 (i : Int)
def nuL (bs : List Int) : Nat → Nat → Int → Int
  | 0, _, v => v
  | k + 1, i, v => nuL bs k (i + 1) (nrm (nrm (nrm (v * 10) + bs.getD i 0) - 48))
def nuF (bs : List Int) (i j : Nat) : Int := nuL bs (j - i) i 0
def lexL (bs : List Int) : Nat → Nat → List Tk
  | 0, _ => [(258, (bs.length : Int), 0)]
  | f + 1, i => if bs.length ≤ i then [(258, (bs.length : Int), 0)] else if ltP (bs.getD i 0) then (kwF bs i (rL bs (i + 1)), (i : Int), 0) :: lexL bs f (rL bs (i + 1)) else if dgP (bs.getD i 0) then ((if (rD bs (i + 1) : Int) - (i : Int) ≤ 4 then 256 else 257), (i : Int), nuF bs i (rD bs (i + 1))) :: lexL bs f (rD bs (i + 1)) else if bs.getD i 0 = 32 ∨ bs.getD i 0 = 10 then lexL bs f (i + 1) else ((if sgP (bs.getD i 0) then bs.getD i 0 else 257), (i : Int), 0) :: lexL bs f (i + 1)
def tkg (ts : List Tk) (j : Nat) : Tk := ts.getD j (0, 0, 0)
def TkC (ts : List Tk) (D : KK) : Prop := D 474 7 = (ts.length : Int) ∧ ∀ j, j < ts.length → D 476 j = (tkg ts j).1 ∧ D 477 j = (tkg ts j).2.1 ∧ D 478 j = (tkg ts j).2.2
theorem tkg_app {ts : List Tk} {t : Tk} {j : Nat} (h : j < (ts ++ [t]).length) : tkg (ts ++ [t]) j = if j < ts.length then tkg ts j else t := by
  rw [List.length_append] at h
  have h2 : j < ts.length + 1 := h
  unfold tkg
  rcases Nat.lt_or_ge j ts.length with q | q
  · rw [if_pos q]; simp [List.getD, List.getElem?_append, q]
  · rw [if_neg (by omega), show j = ts.length by omega]; simp [List.getD]
set_option maxHeartbeats 1000000 in
theorem c_isDigit {m : XM} (c : Int) : XC 2 104 [.inl c] m (some (.inl (bi (dgP c)))) m := by
  refine XC_of (Nat.le_of_ble_eq_true rfl) (Nat.le_of_ble_eq_true rfl) (loc := [_]) rfl ?_
  refine xx_iload_n (q := 1) rfl rfl rfl ?_
  refine xx_bipush (q := 3) rfl rfl (by decide) ?_
  refine xx_bipush (q := 5) rfl rfl (by decide) ?_
  refine xx_callS (q := 8) (As := [_, _, _]) (rest := []) rfl rfl rfl (Or.inr rfl) rfl rfl (Nat.le_of_ble_eq_true rfl) (XCm (c_within c 48 57) rfl) rfl ?_
  exact xx_iret rfl (bi_01 _) ⟨congrArg (fun z => some (Sum.inl z)) (by rfl), rfl⟩
set_option maxHeartbeats 1000000 in
theorem c_isLetter {m : XM} (c : Int) : XC 2 103 [.inl c] m (some (.inl (bi (ltP c)))) m := by
  refine XC_of (Nat.le_of_ble_eq_true rfl) (Nat.le_of_ble_eq_true rfl) (loc := [_]) rfl ?_
  refine xx_iload_n (q := 1) rfl rfl rfl ?_
  refine xx_bipush (q := 3) rfl rfl (by decide) ?_
  refine xx_bipush (q := 5) rfl rfl (by decide) ?_
  refine xx_callS (q := 8) (As := [_, _, _]) (rest := []) rfl rfl rfl (Or.inr rfl) rfl rfl (Nat.le_of_ble_eq_true rfl) (XCm (c_within c 97 122) rfl) rfl ?_
  refine xx_ifb_ne (q := 22) (q2 := 11) rfl rfl rfl (fun h8 => ?_) (fun h8 => ?_)
  · refine xx_iconst (q := 23) rfl rfl (by decide) ?_
    refine xx_goto (q := 27) rfl rfl ?_
    exact xx_iret rfl (Or.inr rfl) ⟨congrArg (fun z => some (Sum.inl z)) (by grind [bi]), rfl⟩
  · refine xx_iload_n (q := 12) rfl rfl rfl ?_
    refine xx_bipush (q := 14) rfl rfl (by decide) ?_
    refine xx_bipush (q := 16) rfl rfl (by decide) ?_
    refine xx_callS (q := 19) (As := [_, _, _]) (rest := []) rfl rfl rfl (Or.inr rfl) rfl rfl (Nat.le_of_ble_eq_true rfl) (XCm (c_within c 65 90) rfl) rfl ?_
    refine xx_ifb_eq (q := 26) (q2 := 22) rfl rfl rfl (fun h19 => ?_) (fun h19 => ?_)
    · refine xx_iconst (q := 27) rfl rfl (by decide) ?_
      exact xx_iret rfl (Or.inl rfl) ⟨congrArg (fun z => some (Sum.inl z)) (by grind [bi]), rfl⟩
    · refine xx_iconst (q := 23) rfl rfl (by decide) ?_
      refine xx_goto (q := 27) rfl rfl ?_
      exact xx_iret rfl (Or.inr rfl) ⟨congrArg (fun z => some (Sum.inl z)) (by grind [bi]), rfl⟩
set_option maxHeartbeats 1000000 in
theorem c_num_L {n : Nat} {R : Nat → Nat → Option Nat} {D : KK} (hR : RF R) (bs : List Int) (hT : TpC bs D) (hl4 : bs.length ≤ 400) (hby : ∀ j, 0 ≤ bs.getD j 0 ∧ bs.getD j 0 ≤ 255) (fr to : Int) (ht1 : to ≤ (bs.length : Int)) : ∀ (k : Nat) (v i : Int), 0 ≤ i → i + k = to → XX (XC 0) 101 (fun r2 m2 => r2 = some (.inl (nuL bs k i.toNat v)) ∧ m2 = (xS n, R, D)) 5 [some (.inr (some 474)), some (.inl fr), some (.inl to), some (.inl v), some (.inl i)] [] (xS n, R, D) := by
  intro k
  induction k using Nat.strongRecOn with
  | ind k ih =>
  intro v i h0 hk
  refine xx_iload (q := 7) rfl rfl rfl ?_
  refine xx_iload_n (q := 8) rfl rfl rfl ?_
  refine xx_icmp_ge (q := 33) (q2 := 11) rfl rfl rfl (fun h8 => ?_) (fun h8 => ?_)
  · refine xx_iload_n (q := 34) rfl rfl rfl ?_
    obtain rfl : k = 0 := by omega
    exact xx_iret rfl trivial ⟨rfl, rfl⟩
  · obtain ⟨k, rfl⟩ : ∃ k2, k = k2 + 1 := ⟨k - 1, by omega⟩
    refine xx_iload_n (q := 12) rfl rfl rfl ?_
    refine xx_bipush (q := 14) rfl rfl (by decide) ?_
    refine xx_imul (q := 15) rfl rfl ?_
    refine xx_aload_n (q := 16) rfl rfl rfl ?_
    refine xx_getR (q := 19) rfl rfl rfl xS_474 (Nat.le_of_ble_eq_true rfl) rfl (hR.1 474 3 rfl) ?_
    refine xx_iload (q := 21) rfl rfl rfl ?_
    refine xx_iaz (v := bs.getD (i).toNat 0) (q := 22) rfl rfl xS_475 (by omega) (by omega) (hT.2 _ (by omega)) ?_
    have hyb1 := hby (i).toNat
    refine xx_iadd (q := 23) rfl rfl ?_
    refine xx_bipush (q := 25) rfl rfl (by decide) ?_
    refine xx_isub (q := 26) rfl rfl ?_
    refine xx_istore_n (q := 27) (loc2 := [_, _, _, _, _]) rfl rfl (Nat.le_of_ble_eq_true rfl) rfl ?_
    refine xx_incz (q := 30) (loc2 := [_, _, _, _, _]) rfl rfl rfl (by omega) (by omega) rfl rfl ?_
    refine xx_goto (q := 5) rfl rfl ?_
    have e : nuL bs (k + 1) i.toNat v = nuL bs k (i.toNat + 1) (nrm (nrm (nrm (v * 10) + bs.getD i.toNat 0) - 48)) := rfl
    rw [e, show i.toNat + 1 = (i + 1).toNat by omega]
    exact ih k (by omega) _ _ (by omega) (by omega)
set_option maxHeartbeats 1000000 in
theorem c_number {n : Nat} {R : Nat → Nat → Option Nat} {D : KK} (hR : RF R) (bs : List Int) (hT : TpC bs D) (hl4 : bs.length ≤ 400) (hby : ∀ j, 0 ≤ bs.getD j 0 ∧ bs.getD j 0 ≤ 255) (i j : Int) (h0 : 0 ≤ i) (h1 : i ≤ j) (h2 : j ≤ (bs.length : Int)) : XC 1 101 [.inr (some 474), .inl i, .inl j] (xS n, R, D) (some (.inl (nuF bs i.toNat j.toNat))) (xS n, R, D) := by
  refine XC_of (Nat.le_of_ble_eq_true rfl) (Nat.le_of_ble_eq_true rfl) (loc := [_, _, _, _, _]) rfl ?_
  refine xx_iconst (q := 1) rfl rfl (by decide) ?_
  refine xx_istore_n (q := 2) (loc2 := [_, _, _, _, _]) rfl rfl (Nat.le_of_ble_eq_true rfl) rfl ?_
  refine xx_iload_n (q := 3) rfl rfl rfl ?_
  refine xx_istore (q := 5) (loc2 := [_, _, _, _, _]) rfl rfl (Nat.le_of_ble_eq_true rfl) rfl ?_
  unfold nuF
  exact c_num_L hR bs hT hl4 hby i j h2 (j.toNat - i.toNat) 0 i h0 (by omega)
set_option maxHeartbeats 1000000 in
theorem c_kw_L {n : Nat} {R : Nat → Nat → Option Nat} {D : KK} (hR : RF R) (bs : List Int) (hT : TpC bs D) (hl4 : bs.length ≤ 400) (hby : ∀ j, 0 ≤ bs.getD j 0 ∧ bs.getD j 0 ≤ 255) (hs : StrD D) (fr to : Int) (hf0 : 0 ≤ fr) (hf1 : fr ≤ to) (ht1 : to ≤ (bs.length : Int)) : ∀ (k : Nat) (p : Nat) (kd sm : Int) (x : Option XV), p + k = 158 → 300 ≤ kd → kd ≤ 300 + p → -1 ≤ sm → sm ≤ to → True → XX (XC 2) 102 (fun r2 m2 => r2 = some (.inl (kwL bs fr to k p kd sm)) ∧ m2 = (xS n, R, D)) 10 [some (.inr (some 474)), some (.inl fr), some (.inl to), some (.inl kd), some (.inl sm), some (.inl (p : Int)), x] [] (xS n, R, D) := by
  intro k
  induction k using Nat.strongRecOn with
  | ind k ih =>
  intro p kd sm x hk hk0 hk1 hs0 hs1 _
  refine xx_iload (q := 12) rfl rfl rfl ?_
  refine xx_ldcS (q := 14) rfl rfl rfl ?_
  refine xx_callV (q := 17) (As := []) (rest := [_]) rfl rfl rfl (Or.inl rfl) rfl rfl (Nat.le_of_ble_eq_true rfl) xS_1 (XCm (j_len1 (n := n) hR hs) rfl) rfl ?_
  refine xx_icmp_ge (q := 93) (q2 := 20) rfl rfl rfl (fun h17 => ?_) (fun h17 => ?_)
  · refine xx_sipush (q := 96) rfl rfl (by decide) ?_
    obtain rfl : k = 0 := by omega
    exact xx_iret rfl trivial ⟨rfl, rfl⟩
  · refine xx_ldcS (q := 22) rfl rfl rfl ?_
    refine xx_iload (q := 24) rfl rfl rfl ?_
    refine xx_callV (q := 27) (As := [_]) (rest := []) rfl rfl rfl (Or.inl rfl) rfl rfl (Nat.le_of_ble_eq_true rfl) xS_1 (XCm (j_charAt (n := n) hR hs (p : Int) (by omega) (by omega)) rfl) rfl ?_
    have hwb1 := WDS_b ((p : Int)).toNat (by omega)
    refine xx_istore (q := 29) (loc2 := [_, _, _, _, _, _, _]) rfl rfl (Nat.le_of_ble_eq_true rfl) rfl ?_
    refine xx_iload (q := 31) rfl rfl rfl ?_
    refine xx_bipush (q := 33) rfl rfl (by decide) ?_
    refine xx_icmp_ne (q := 53) (q2 := 36) rfl rfl rfl (fun h33 => ?_) (fun h33 => ?_)
    · refine xx_iload (q := 55) rfl rfl rfl ?_
      refine xx_iconst (q := 56) rfl rfl (by decide) ?_
      refine xx_icmp_eq (q := 87) (q2 := 59) rfl rfl rfl (fun h56 => ?_) (fun h56 => ?_)
      · refine xx_incz (q := 90) (loc2 := [_, _, _, _, _, _, _]) rfl rfl rfl (by omega) (by omega) rfl rfl ?_
        refine xx_goto (q := 10) rfl rfl ?_
        obtain ⟨k, rfl⟩ : ∃ k2, k = k2 + 1 := ⟨k - 1, by omega⟩
        have ep : (p : Int).toNat = p := by omega
        rw [ep] at h33
        have e9 : (if sm = -1 then -1 else if sm < to ∧ bs.getD sm.toNat 0 = WDS.getD p 0 then sm + 1 else -1) = -1 := if_pos h56
        have e : kwL bs fr to (k + 1) p kd sm = kwL bs fr to k (p + 1) kd (-1) := (if_neg h33).trans (congrArg (kwL bs fr to k (p + 1) kd) e9)
        rw [e, show (p : Int) + 1 = ((p + 1 : Nat) : Int) by omega]
        rw [show sm = -1 from h56]
        exact ih k (by omega) (p + 1) _ _ _ (by omega) (by omega) (by omega) (by omega) (by omega) trivial
      · refine xx_iload (q := 61) rfl rfl rfl ?_
        refine xx_iload_n (q := 62) rfl rfl rfl ?_
        refine xx_icmp_ge (q := 84) (q2 := 65) rfl rfl rfl (fun h62 => ?_) (fun h62 => ?_)
        · refine xx_iconst (q := 85) rfl rfl (by decide) ?_
          refine xx_istore (q := 87) (loc2 := [_, _, _, _, _, _, _]) rfl rfl (Nat.le_of_ble_eq_true rfl) rfl ?_
          refine xx_incz (q := 90) (loc2 := [_, _, _, _, _, _, _]) rfl rfl rfl (by omega) (by omega) rfl rfl ?_
          refine xx_goto (q := 10) rfl rfl ?_
          obtain ⟨k, rfl⟩ : ∃ k2, k = k2 + 1 := ⟨k - 1, by omega⟩
          have ep : (p : Int).toNat = p := by omega
          rw [ep] at h33
          have e9 : (if sm = -1 then -1 else if sm < to ∧ bs.getD sm.toNat 0 = WDS.getD p 0 then sm + 1 else -1) = -1 := (if_neg h56).trans (if_neg (fun q => by omega))
          have e : kwL bs fr to (k + 1) p kd sm = kwL bs fr to k (p + 1) kd (-1) := (if_neg h33).trans (congrArg (kwL bs fr to k (p + 1) kd) e9)
          rw [e, show (p : Int) + 1 = ((p + 1 : Nat) : Int) by omega]
          exact ih k (by omega) (p + 1) _ _ _ (by omega) (by omega) (by omega) (by omega) (by omega) trivial
        · refine xx_aload_n (q := 66) rfl rfl rfl ?_
          refine xx_getR (q := 69) rfl rfl rfl xS_474 (Nat.le_of_ble_eq_true rfl) rfl (hR.1 474 3 rfl) ?_
          refine xx_iload (q := 71) rfl rfl rfl ?_
          refine xx_iaz (v := bs.getD (sm).toNat 0) (q := 72) rfl rfl xS_475 (by omega) (by omega) (hT.2 _ (by omega)) ?_
          have hyb2 := hby (sm).toNat
          refine xx_iload (q := 74) rfl rfl rfl ?_
          refine xx_icmp_ne (q := 84) (q2 := 77) rfl rfl rfl (fun h74 => ?_) (fun h74 => ?_)
          · refine xx_iconst (q := 85) rfl rfl (by decide) ?_
            refine xx_istore (q := 87) (loc2 := [_, _, _, _, _, _, _]) rfl rfl (Nat.le_of_ble_eq_true rfl) rfl ?_
            refine xx_incz (q := 90) (loc2 := [_, _, _, _, _, _, _]) rfl rfl rfl (by omega) (by omega) rfl rfl ?_
            refine xx_goto (q := 10) rfl rfl ?_
            obtain ⟨k, rfl⟩ : ∃ k2, k = k2 + 1 := ⟨k - 1, by omega⟩
            have ep : (p : Int).toNat = p := by omega
            rw [ep] at h33
            have e9 : (if sm = -1 then -1 else if sm < to ∧ bs.getD sm.toNat 0 = WDS.getD p 0 then sm + 1 else -1) = -1 := (if_neg h56).trans (if_neg (fun q => h74 (by rw [ep]; exact q.2)))
            have e : kwL bs fr to (k + 1) p kd sm = kwL bs fr to k (p + 1) kd (-1) := (if_neg h33).trans (congrArg (kwL bs fr to k (p + 1) kd) e9)
            rw [e, show (p : Int) + 1 = ((p + 1 : Nat) : Int) by omega]
            exact ih k (by omega) (p + 1) _ _ _ (by omega) (by omega) (by omega) (by omega) (by omega) trivial
          · refine xx_iload (q := 79) rfl rfl rfl ?_
            refine xx_iconst (q := 80) rfl rfl (by decide) ?_
            refine xx_iaddR (q := 81) rfl rfl (by omega) (by omega) ?_
            refine xx_goto (q := 85) rfl rfl ?_
            refine xx_istore (q := 87) (loc2 := [_, _, _, _, _, _, _]) rfl rfl (Nat.le_of_ble_eq_true rfl) rfl ?_
            refine xx_incz (q := 90) (loc2 := [_, _, _, _, _, _, _]) rfl rfl rfl (by omega) (by omega) rfl rfl ?_
            refine xx_goto (q := 10) rfl rfl ?_
            obtain ⟨k, rfl⟩ : ∃ k2, k = k2 + 1 := ⟨k - 1, by omega⟩
            have ep : (p : Int).toNat = p := by omega
            rw [ep] at h33
            have e9 : (if sm = -1 then -1 else if sm < to ∧ bs.getD sm.toNat 0 = WDS.getD p 0 then sm + 1 else -1) = sm + 1 := (if_neg h56).trans (if_pos ⟨by omega, by rw [ep] at h74; exact h74⟩)
            have e : kwL bs fr to (k + 1) p kd sm = kwL bs fr to k (p + 1) kd (sm + 1) := (if_neg h33).trans (congrArg (kwL bs fr to k (p + 1) kd) e9)
            rw [e, show (p : Int) + 1 = ((p + 1 : Nat) : Int) by omega]
            exact ih k (by omega) (p + 1) _ _ _ (by omega) (by omega) (by omega) (by omega) (by omega) trivial
    · refine xx_iload (q := 38) rfl rfl rfl ?_
      refine xx_iload_n (q := 39) rfl rfl rfl ?_
      refine xx_icmp_ne (q := 44) (q2 := 42) rfl rfl rfl (fun h39 => ?_) (fun h39 => ?_)
      · refine xx_incz (q := 47) (loc2 := [_, _, _, _, _, _, _]) rfl rfl rfl (by omega) (by omega) rfl rfl ?_
        refine xx_iload_n (q := 48) rfl rfl rfl ?_
        refine xx_istore (q := 50) (loc2 := [_, _, _, _, _, _, _]) rfl rfl (Nat.le_of_ble_eq_true rfl) rfl ?_
        refine xx_goto (q := 87) rfl rfl ?_
        refine xx_incz (q := 90) (loc2 := [_, _, _, _, _, _, _]) rfl rfl rfl (by omega) (by omega) rfl rfl ?_
        refine xx_goto (q := 10) rfl rfl ?_
        obtain ⟨k, rfl⟩ : ∃ k2, k = k2 + 1 := ⟨k - 1, by omega⟩
        have ep : (p : Int).toNat = p := by omega
        rw [ep] at h33
        have e : kwL bs fr to (k + 1) p kd sm = kwL bs fr to k (p + 1) (kd + 1) fr := (if_pos h33).trans (if_neg h39)
        rw [e, show (p : Int) + 1 = ((p + 1 : Nat) : Int) by omega]
        exact ih k (by omega) (p + 1) _ _ _ (by omega) (by omega) (by omega) (by omega) (by omega) trivial
      · refine xx_iload_n (q := 43) rfl rfl rfl ?_
        obtain ⟨k, rfl⟩ : ∃ k2, k = k2 + 1 := ⟨k - 1, by omega⟩
        have ep : (p : Int).toNat = p := by omega
        rw [ep] at h33
        exact xx_iret rfl trivial ⟨congrArg (fun z => some (Sum.inl z)) ((if_pos h33).trans (if_pos h39)).symm, rfl⟩
set_option maxHeartbeats 1000000 in
theorem c_keyword {n : Nat} {R : Nat → Nat → Option Nat} {D : KK} (hR : RF R) (bs : List Int) (hT : TpC bs D) (hl4 : bs.length ≤ 400) (hby : ∀ j, 0 ≤ bs.getD j 0 ∧ bs.getD j 0 ≤ 255) (hs : StrD D) (i j : Int) (h0 : 0 ≤ i) (h1 : i ≤ j) (h2 : j ≤ (bs.length : Int)) : XC 3 102 [.inr (some 474), .inl i, .inl j] (xS n, R, D) (some (.inl (kwF bs i.toNat j.toNat))) (xS n, R, D) := by
  refine XC_of (Nat.le_of_ble_eq_true rfl) (Nat.le_of_ble_eq_true rfl) (loc := [_, _, _, _, _, _, _]) rfl ?_
  refine xx_sipush (q := 3) rfl rfl (by decide) ?_
  refine xx_istore_n (q := 4) (loc2 := [_, _, _, _, _, _, _]) rfl rfl (Nat.le_of_ble_eq_true rfl) rfl ?_
  refine xx_iload_n (q := 5) rfl rfl rfl ?_
  refine xx_istore (q := 7) (loc2 := [_, _, _, _, _, _, _]) rfl rfl (Nat.le_of_ble_eq_true rfl) rfl ?_
  refine xx_iconst (q := 8) rfl rfl (by decide) ?_
  refine xx_istore (q := 10) (loc2 := [_, _, _, _, _, _, _]) rfl rfl (Nat.le_of_ble_eq_true rfl) rfl ?_
  unfold kwF
  rw [show ((i.toNat : Nat) : Int) = i by omega, show ((j.toNat : Nat) : Int) = j by omega]
  exact c_kw_L hR bs hT hl4 hby hs i j h0 h1 h2 158 0 300 i _ (by omega) (by omega) (by omega) (by omega) (by omega) trivial
