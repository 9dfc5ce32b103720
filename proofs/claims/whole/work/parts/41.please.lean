/-! Presents on the way: the search by depth. -/
abbrev OL : Type := Option (List (Int × Int))
def prsK (K : KK) (Hh : LwF) (boat good a lock : Int) : KK := if a = 0 then K else givT K Hh boat good a lock
def plsA (G Hh : LwF) (boat good : Int) (rec : KK → Int → OL) (K : KK) (lock up left : Int) : Nat → Int → OL
  | 0, _ => none
  | k + 1, a => if (a = 0 ∨ canF K boat good a lock) ∧ ¬ pasR (prsK K Hh boat good a lock) G boat up (-1) < 0 then (match rec (pasT (prsK K Hh boat good a lock) G boat up (-1)) (left - a) with
      | some l => some ((lock, a) :: l)
      | none => plsA G Hh boat good rec K lock up left k (a + 1)) else plsA G Hh boat good rec K lock up left k (a + 1)
def upP (K : KK) (boat pool : Int) : Int := if pool < K 14 boat.toNat then 1 else 0
def plsF (G Hh : LwF) (boat good pool : Int) : Nat → KK → Int → OL
  | 0, K, left => if K 14 boat.toNat = pool then (if left = 0 then some [] else none) else none
  | d + 1, K, left => if K 14 boat.toNat = pool then (if left = 0 then some [] else none) else if lckF K (K 14 boat.toNat) (upP K boat pool) = -1 then none else plsA G Hh boat good (plsF G Hh boat good pool d) K (lckF K (K 14 boat.toNat) (upP K boat pool)) (upP K boat pool) left (left + 1).toNat 0
def gvn (l : List (Int × Int)) (f : Nat → Int) : Nat → Int := match l with
  | [] => f
  | (lock, a) :: l => fset (gvn l f) lock.toNat a
def gvO (o : OL) (f : Nat → Int) : Nat → Int := match o with
  | none => f
  | some l => gvn l f
def FU (top : Nat) (D E : KK) : Prop := ∀ b k, (b < 284 + 19 * top ∨ 474 ≤ b) → b ≠ 10 → b ≠ 14 → b ≠ 280 → E b k = D b k
theorem FU.rf {top : Nat} {D : KK} : FU top D D := fun _ _ _ _ _ _ => rfl
theorem FU.trans {a : Nat} {D E F : KK} (h : FU a D E) (g : FU a E F) : FU a D F := fun b k h1 h2 h3 h4 => (g b k h1 h2 h3 h4).trans (h b k h1 h2 h3 h4)
theorem FU.le {a c : Nat} {D E : KK} (h : FU a D E) (hac : c ≤ a) : FU c D E := fun b k h1 h2 h3 h4 => h b k (by omega) h2 h3 h4
theorem Fr.fu {s : Nat} {D E : KK} (h : Fr (284 + 19 * s) D E) (hs : s < 10) : FU s D E := fun b k h1 h2 h3 _ => h b k (by omega) h2 h3
theorem LwG.fu {G : LwF} {n s : Nat} {R : Nat → Nat → Option Nat} {D E : KK} (h : LwG G n R D) (g : FU s D E) : LwG G n R E := LawS.fr h (fun b k q1 q2 => g b k (by omega) (by omega) (by omega) (by omega))
theorem LwH.fu {G : LwF} {n s : Nat} {R : Nat → Nat → Option Nat} {D E : KK} (h : LwH G n R D) (g : FU s D E) : LwH G n R E := LawS.fr h (fun b k q1 q2 => g b k (by omega) (by omega) (by omega) (by omega))
theorem CK_fu {K D E : KK} {s lv : Nat} (h : CK (284 + 19 * lv) K D) (g : FU s D E) (hs : lv < s) : CK (284 + 19 * lv) K E := CK_fr h (fun o k ho => g _ _ (by omega) (by omega) (by omega) (by omega))
theorem givT_k {K : KK} {Hh : LwF} {boat good amount lock : Int} {o : Nat} (h : o = 0 ∨ o = 13) : givT K Hh boat good amount lock o 0 = K o 0 := by
  unfold givT
  split
  · exact (xui_a (by omega)).trans (rcvF_k (by omega) (by omega) (by omega))
  · rfl
theorem prsK_I {K : KK} {Hh : LwF} {boat good a lock : Int} (h : KI K) : KI (prsK K Hh boat good a lock) := by
  unfold prsK
  split
  · exact h
  · exact givT_I h
set_option maxHeartbeats 2000000 in
theorem c_pls_L {n L lv c0 c1 : Nat} {R : Nat → Nat → Option Nat} {D0 : KK} (hR : RF R) (hL : 5 ≤ L) (hlv : lv < 9) (ec0 : c0 = 284 + 19 * lv) (ec1 : c1 = 284 + 19 * (lv + 1)) {G Hh : LwF} (boat good pool left lock up frm : Int) (f : Nat → Int) (hb0 : 0 ≤ boat) (hg0 : 0 ≤ good) (hg1 : good ≤ 3) (hl0 : 0 ≤ left) (hl1 : left ≤ 6) (hk0 : 0 ≤ lock) (hk1 : lock < 9) (K : KK) (hI : KI K) (hb1 : boat < K 13 0) (RR : Nat → Int → OL) (rec : KK → Int → OL) (hrec : ∀ (K2 : KK) (l2 : Int) (D2 : KK), CK c1 K2 D2 → KI K2 → boat < K2 13 0 → 0 ≤ l2 → l2 ≤ 6 → LwG G n R D2 → LwH Hh n R D2 → ∃ D', XC L 109 [.inr (some 279), .inl ((lv : Int) + 1), .inl boat, .inl good, .inl pool, .inl l2] (xS n, R, D2) (some (.inl (bi ((rec K2 l2).isSome = true)))) (xS n, R, D') ∧ FU (lv + 2) D2 D' ∧ D' 280 = gvO (rec K2 l2) (D2 280)) (hRR : RR = plsA G Hh boat good rec K lock up left) : ∀ (k : Nat) (D : KK) (a : Int) (x y : Option XV), CK c0 K D → LwG G n R D → LwH Hh n R D → FU (lv + 1) D0 D → D 280 = f → 0 ≤ a → a + k = left + 1 → XX (XC L) 109 (XP (some (.inl (bi ((RR k a).isSome = true)))) (xS n) R (fun D' => FU (lv + 1) D0 D' ∧ D' 280 = gvO (RR k a) f)) 95 [some (.inr (some 279)), some (.inl (lv : Int)), some (.inl boat), some (.inl good), some (.inl pool), some (.inl left), some (.inr (some c0)), some (.inl frm), some (.inl up), some (.inl lock), some (.inr (some c1)), some (.inl a), x, y] [] (xS n, R, D) := by
  intro k
  induction k using Nat.strongRecOn with
  | ind k ih =>
  intro D a x y hK hG hH hF hgv h1 hk
  subst hRR
  have ht1 : isT c1 := ec1 ▸ isT_k (by omega)
  have hc1 := isT_C ht1
  have hn1 := isT_N ht1
  have hc0 : isC c0 := isT_C (ec0 ▸ isT_k (by omega))
  have hbB := ki_B hI
  refine xx_iload (q := 97) rfl rfl rfl ?_
  refine xx_iload (q := 99) rfl rfl rfl ?_
  refine xx_icmp_gt (q := 203) (q2 := 102) rfl rfl rfl (fun h99 => ?_) (fun h99 => ?_)
  · refine xx_iconst (q := 204) rfl rfl (by decide) ?_
    obtain rfl : k = 0 := by omega
    exact xx_iret rfl (Or.inl rfl) ⟨congrArg (fun z => some (Sum.inl z)) (bi_f (by intro q; cases q)).symm, _, rfl, hF, hgv⟩
  · obtain ⟨k, rfl⟩ : ∃ k2, k = k2 + 1 := ⟨k - 1, by omega⟩
    refine xx_aload (q := 104) rfl rfl rfl ?_
    refine xx_aload (q := 106) rfl rfl rfl ?_
    obtain ⟨D1, hx1, hK1, hG1⟩ := c_copy (n := n) hR hc1 hc0 (by omega) hK hI
    refine xx_callV (q := 109) (As := [_]) (rest := []) rfl rfl rfl (Or.inl rfl) rfl rfl (Nat.le_of_ble_eq_true rfl) (xSc_0 hc1) (XC_le (by omega) hx1) rfl ?_
    refine xx_iload (q := 111) rfl rfl rfl ?_
    refine xx_if_eq (q := 131) (q2 := 114) rfl rfl rfl (fun h111 => ?_) (fun h111 => ?_)
    · refine xx_iconst (q := 132) rfl rfl (by decide) ?_
      refine xx_goto (q := 136) rfl rfl ?_
      refine xx_istore (q := 138) (loc2 := [_, _, _, _, _, _, _, _, _, _, _, _, _, _]) rfl rfl (Nat.le_of_ble_eq_true rfl) rfl ?_
      refine xx_iload (q := 140) rfl rfl rfl ?_
      refine xx_if_eq (q := 159) (q2 := 143) rfl rfl rfl (fun h140 => (by exfalso; omega)) (fun _ => ?_)
      refine xx_aload (q := 145) rfl rfl rfl ?_
      refine xx_iload_n (q := 146) rfl rfl rfl ?_
      refine xx_iload (q := 148) rfl rfl rfl ?_
      refine xx_iconst (q := 149) rfl rfl (by decide) ?_
      obtain ⟨D2, hx2, hK2, hG2⟩ := c_passT (n := n) hR ht1 hK1 hI (LwG.fr hG hG1 hc1) boat up (-1)
      have hF2 := hG1.trans hG2
      have hI2 : KI (pasT K G boat up (-1)) := pasT_I hI
      refine xx_callV (q := 152) (As := [_, _, _]) (rest := []) rfl rfl rfl (Or.inl rfl) rfl rfl (Nat.le_of_ble_eq_true rfl) (xSc_0 hc1) (XC_le (by omega) hx2) rfl ?_
      refine xx_if_lt (q := 159) (q2 := 155) rfl rfl rfl (fun h152 => ?_) (fun h152 => ?_)
      · refine xx_iconst (q := 160) rfl rfl (by decide) ?_
        refine xx_istore (q := 162) (loc2 := [_, _, _, _, _, _, _, _, _, _, _, _, _, _]) rfl rfl (Nat.le_of_ble_eq_true rfl) rfl ?_
        refine xx_iload (q := 164) rfl rfl rfl ?_
        refine xx_if_eq (q := 197) (q2 := 167) rfl rfl rfl (fun _ => ?_) (fun h164 => (by exfalso; omega))
        refine xx_incz (q := 200) (loc2 := [_, _, _, _, _, _, _, _, _, _, _, _, _, _]) rfl rfl rfl (by omega) (by omega) rfl rfl ?_
        refine xx_goto (q := 95) rfl rfl ?_
        have hpk : prsK K Hh boat good a lock = K := if_pos h111
        have e : plsA G Hh boat good rec K lock up left (k + 1) a = plsA G Hh boat good rec K lock up left k (a + 1) := if_neg (fun q => q.2 (by rw [hpk]; exact h152))
        rw [e]
        have hfz : FU (lv + 1) D D2 := (fun b k h1 h2 h3 _ => hF2 b k (by omega) h2 h3 : FU (lv + 1) D D2)
        exact ih k (by omega) _ _ _ _ (CK_fr hK (fun o k ho => hfz _ _ (by omega) (by omega) (by omega) (by omega))) (LwG.fu hG hfz) (LwH.fu hH hfz) (hF.trans hfz) ((funext (fun x => hF2 280 x (by omega) (by omega) (by omega))).trans hgv) (by omega) (by omega)
      · refine xx_iconst (q := 156) rfl rfl (by decide) ?_
        refine xx_goto (q := 160) rfl rfl ?_
        refine xx_istore (q := 162) (loc2 := [_, _, _, _, _, _, _, _, _, _, _, _, _, _]) rfl rfl (Nat.le_of_ble_eq_true rfl) rfl ?_
        refine xx_iload (q := 164) rfl rfl rfl ?_
        refine xx_if_eq (q := 197) (q2 := 167) rfl rfl rfl (fun h164 => (by exfalso; omega)) (fun _ => ?_)
        refine xx_aload_n (q := 168) rfl rfl rfl ?_
        refine xx_iload_n (q := 169) rfl rfl rfl ?_
        refine xx_iconst (q := 170) rfl rfl (by decide) ?_
        refine xx_iaddR (q := 171) rfl rfl (by omega) (by omega) ?_
        refine xx_iload_n (q := 172) rfl rfl rfl ?_
        refine xx_iload_n (q := 173) rfl rfl rfl ?_
        refine xx_iload (q := 175) rfl rfl rfl ?_
        refine xx_iload (q := 177) rfl rfl rfl ?_
        refine xx_iload (q := 179) rfl rfl rfl ?_
        refine xx_isubR (q := 180) rfl rfl (by omega) (by omega) ?_
        have hfu3 : FU (lv + 1) D D2 := fun b k h1 h2 h3 _ => hF2 b k (by omega) h2 h3
        obtain ⟨D3, hx3, hF3, hg3⟩ := hrec (pasT K G boat up (-1)) (left - a) D2 hK2 hI2 (by rw [pasT_k (Or.inr rfl)]; omega) (by omega) (by omega) (LwG.fu hG hfu3) (LwH.fu hH hfu3)
        refine xx_callV (q := 183) (As := [_, _, _, _, _]) (rest := []) rfl rfl rfl (Or.inl rfl) rfl rfl (Nat.le_of_ble_eq_true rfl) xS_279 (XC_le (by omega) hx3) rfl ?_
        refine xx_ifb_eq (q := 197) (q2 := 186) rfl rfl rfl (fun h183 => ?_) (fun h183 => ?_)
        · refine xx_incz (q := 200) (loc2 := [_, _, _, _, _, _, _, _, _, _, _, _, _, _]) rfl rfl rfl (by omega) (by omega) rfl rfl ?_
          refine xx_goto (q := 95) rfl rfl ?_
          have hpk : prsK K Hh boat good a lock = K := if_pos h111
          have hno : rec (pasT K G boat up (-1)) (left - a) = none := Option.not_isSome_iff_eq_none.mp h183
          have e : plsA G Hh boat good rec K lock up left (k + 1) a = plsA G Hh boat good rec K lock up left k (a + 1) := by
            show (if _ then _ else _) = _
            rw [if_pos ⟨(Or.inl h111), by rw [hpk]; exact h152⟩, hpk]
            show (match rec (pasT K G boat up (-1)) (left - a) with | some l => some ((lock, a) :: l) | none => _) = _
            rw [hno]
          rw [e]
          have hfz : FU (lv + 1) D D3 := (hfu3.trans (hF3.le (by omega)))
          exact ih k (by omega) _ _ _ _ (CK_fr hK (fun o k ho => hfz _ _ (by omega) (by omega) (by omega) (by omega))) (LwG.fu hG hfz) (LwH.fu hH hfz) (hF.trans hfz) (by rw [hg3, hno]; exact (funext (fun x => hF2 280 x (by omega) (by omega) (by omega))).trans hgv) (by omega) (by omega)
        · refine xx_aload_n (q := 187) rfl rfl rfl ?_
          refine xx_getR (q := 190) rfl rfl rfl xS_279 (Nat.le_of_ble_eq_true rfl) rfl (hR.1 279 4 rfl) ?_
          refine xx_iload (q := 192) rfl rfl rfl ?_
          refine xx_iload (q := 194) rfl rfl rfl ?_
          refine xx_isz (q := 195) rfl rfl xS_280 (by omega) (by omega) rfl ?_
          refine xx_iconst (q := 196) rfl rfl (by decide) ?_
          have hpk : prsK K Hh boat good a lock = K := if_pos h111
          obtain ⟨ll, hll⟩ := Option.isSome_iff_exists.mp h183
          have e : plsA G Hh boat good rec K lock up left (k + 1) a = some ((lock, a) :: ll) := by
            show (if _ then _ else _) = _
            rw [if_pos ⟨(Or.inl h111), by rw [hpk]; exact h152⟩, hpk]
            show (match rec (pasT K G boat up (-1)) (left - a) with | some l => some ((lock, a) :: l) | none => _) = _
            rw [hll]
          rw [e]
          refine xx_iret rfl (Or.inr rfl) ⟨congrArg (fun z => some (Sum.inl z)) (bi_t rfl).symm, _, rfl, fun b k h1 h2 h3 h4 => (xui_a (by omega)).trans ((hF.trans (hfu3.trans (hF3.le (by omega)))) b k h1 h2 h3 h4), ?_⟩
          rw [xui_f, hg3, hll]
          show fset (gvn ll _) lock.toNat a = fset (gvn ll f) lock.toNat a
          rw [(funext (fun x => hF2 280 x (by omega) (by omega) (by omega))).trans hgv]
    · refine xx_aload (q := 116) rfl rfl rfl ?_
      refine xx_iload_n (q := 117) rfl rfl rfl ?_
      refine xx_iload_n (q := 118) rfl rfl rfl ?_
      refine xx_iload (q := 120) rfl rfl rfl ?_
      refine xx_iload (q := 122) rfl rfl rfl ?_
      obtain ⟨D5, hx5, hK5, hG5⟩ := c_giveT (n := n) hR ht1 hK1 hI (LwH.fr hH hG1 hc1) boat good a lock
      have hF5 := hG1.trans hG5
      have hI5 : KI (givT K Hh boat good a lock) := givT_I hI
      refine xx_callV (q := 125) (As := [_, _, _, _]) (rest := []) rfl rfl rfl (Or.inl rfl) rfl rfl (Nat.le_of_ble_eq_true rfl) (xSc_0 hc1) (XC_le (by omega) hx5) rfl ?_
      refine xx_sipush (q := 128) rfl rfl (by decide) ?_
      refine xx_icmp_eq (q := 135) (q2 := 131) rfl rfl rfl (fun h128 => ?_) (fun h128 => ?_)
      · refine xx_iconst (q := 136) rfl rfl (by decide) ?_
        refine xx_istore (q := 138) (loc2 := [_, _, _, _, _, _, _, _, _, _, _, _, _, _]) rfl rfl (Nat.le_of_ble_eq_true rfl) rfl ?_
        refine xx_iload (q := 140) rfl rfl rfl ?_
        refine xx_if_eq (q := 159) (q2 := 143) rfl rfl rfl (fun _ => ?_) (fun h140 => (by exfalso; omega))
        refine xx_iconst (q := 160) rfl rfl (by decide) ?_
        refine xx_istore (q := 162) (loc2 := [_, _, _, _, _, _, _, _, _, _, _, _, _, _]) rfl rfl (Nat.le_of_ble_eq_true rfl) rfl ?_
        refine xx_iload (q := 164) rfl rfl rfl ?_
        refine xx_if_eq (q := 197) (q2 := 167) rfl rfl rfl (fun _ => ?_) (fun h164 => (by exfalso; omega))
        refine xx_incz (q := 200) (loc2 := [_, _, _, _, _, _, _, _, _, _, _, _, _, _]) rfl rfl rfl (by omega) (by omega) rfl rfl ?_
        refine xx_goto (q := 95) rfl rfl ?_
        have e : plsA G Hh boat good rec K lock up left (k + 1) a = plsA G Hh boat good rec K lock up left k (a + 1) := if_neg (fun q => by rcases q.1 with q1 | q1; exact h111 q1; exact givR_n.mp h128 q1)
        rw [e]
        have hfz : FU (lv + 1) D D5 := (fun b k h1 h2 h3 _ => hF5 b k (by omega) h2 h3 : FU (lv + 1) D D5)
        exact ih k (by omega) _ _ _ _ (CK_fr hK (fun o k ho => hfz _ _ (by omega) (by omega) (by omega) (by omega))) (LwG.fu hG hfz) (LwH.fu hH hfz) (hF.trans hfz) ((funext (fun x => hF5 280 x (by omega) (by omega) (by omega))).trans hgv) (by omega) (by omega)
      · refine xx_iconst (q := 132) rfl rfl (by decide) ?_
        refine xx_goto (q := 136) rfl rfl ?_
        refine xx_istore (q := 138) (loc2 := [_, _, _, _, _, _, _, _, _, _, _, _, _, _]) rfl rfl (Nat.le_of_ble_eq_true rfl) rfl ?_
        refine xx_iload (q := 140) rfl rfl rfl ?_
        refine xx_if_eq (q := 159) (q2 := 143) rfl rfl rfl (fun h140 => (by exfalso; omega)) (fun _ => ?_)
        refine xx_aload (q := 145) rfl rfl rfl ?_
        refine xx_iload_n (q := 146) rfl rfl rfl ?_
        refine xx_iload (q := 148) rfl rfl rfl ?_
        refine xx_iconst (q := 149) rfl rfl (by decide) ?_
        obtain ⟨D6, hx6, hK6, hG6⟩ := c_passT (n := n) hR ht1 hK5 hI5 (LwG.fr hG hF5 hc1) boat up (-1)
        have hF6 := hF5.trans hG6
        have hI6 : KI (pasT (givT K Hh boat good a lock) G boat up (-1)) := pasT_I hI5
        refine xx_callV (q := 152) (As := [_, _, _]) (rest := []) rfl rfl rfl (Or.inl rfl) rfl rfl (Nat.le_of_ble_eq_true rfl) (xSc_0 hc1) (XC_le (by omega) hx6) rfl ?_
        refine xx_if_lt (q := 159) (q2 := 155) rfl rfl rfl (fun h152 => ?_) (fun h152 => ?_)
        · refine xx_iconst (q := 160) rfl rfl (by decide) ?_
          refine xx_istore (q := 162) (loc2 := [_, _, _, _, _, _, _, _, _, _, _, _, _, _]) rfl rfl (Nat.le_of_ble_eq_true rfl) rfl ?_
          refine xx_iload (q := 164) rfl rfl rfl ?_
          refine xx_if_eq (q := 197) (q2 := 167) rfl rfl rfl (fun _ => ?_) (fun h164 => (by exfalso; omega))
          refine xx_incz (q := 200) (loc2 := [_, _, _, _, _, _, _, _, _, _, _, _, _, _]) rfl rfl rfl (by omega) (by omega) rfl rfl ?_
          refine xx_goto (q := 95) rfl rfl ?_
          have hpk : prsK K Hh boat good a lock = givT K Hh boat good a lock := if_neg h111
          have e : plsA G Hh boat good rec K lock up left (k + 1) a = plsA G Hh boat good rec K lock up left k (a + 1) := if_neg (fun q => q.2 (by rw [hpk]; exact h152))
          rw [e]
          have hfz : FU (lv + 1) D D6 := (fun b k h1 h2 h3 _ => hF6 b k (by omega) h2 h3 : FU (lv + 1) D D6)
          exact ih k (by omega) _ _ _ _ (CK_fr hK (fun o k ho => hfz _ _ (by omega) (by omega) (by omega) (by omega))) (LwG.fu hG hfz) (LwH.fu hH hfz) (hF.trans hfz) ((funext (fun x => hF6 280 x (by omega) (by omega) (by omega))).trans hgv) (by omega) (by omega)
        · refine xx_iconst (q := 156) rfl rfl (by decide) ?_
          refine xx_goto (q := 160) rfl rfl ?_
          refine xx_istore (q := 162) (loc2 := [_, _, _, _, _, _, _, _, _, _, _, _, _, _]) rfl rfl (Nat.le_of_ble_eq_true rfl) rfl ?_
          refine xx_iload (q := 164) rfl rfl rfl ?_
          refine xx_if_eq (q := 197) (q2 := 167) rfl rfl rfl (fun h164 => (by exfalso; omega)) (fun _ => ?_)
          refine xx_aload_n (q := 168) rfl rfl rfl ?_
          refine xx_iload_n (q := 169) rfl rfl rfl ?_
          refine xx_iconst (q := 170) rfl rfl (by decide) ?_
          refine xx_iaddR (q := 171) rfl rfl (by omega) (by omega) ?_
          refine xx_iload_n (q := 172) rfl rfl rfl ?_
          refine xx_iload_n (q := 173) rfl rfl rfl ?_
          refine xx_iload (q := 175) rfl rfl rfl ?_
          refine xx_iload (q := 177) rfl rfl rfl ?_
          refine xx_iload (q := 179) rfl rfl rfl ?_
          refine xx_isubR (q := 180) rfl rfl (by omega) (by omega) ?_
          have hfu7 : FU (lv + 1) D D6 := fun b k h1 h2 h3 _ => hF6 b k (by omega) h2 h3
          obtain ⟨D7, hx7, hF7, hg7⟩ := hrec (pasT (givT K Hh boat good a lock) G boat up (-1)) (left - a) D6 hK6 hI6 (by rw [pasT_k (Or.inr rfl), givT_k (Or.inr rfl)]; omega) (by omega) (by omega) (LwG.fu hG hfu7) (LwH.fu hH hfu7)
          refine xx_callV (q := 183) (As := [_, _, _, _, _]) (rest := []) rfl rfl rfl (Or.inl rfl) rfl rfl (Nat.le_of_ble_eq_true rfl) xS_279 (XC_le (by omega) hx7) rfl ?_
          refine xx_ifb_eq (q := 197) (q2 := 186) rfl rfl rfl (fun h183 => ?_) (fun h183 => ?_)
          · refine xx_incz (q := 200) (loc2 := [_, _, _, _, _, _, _, _, _, _, _, _, _, _]) rfl rfl rfl (by omega) (by omega) rfl rfl ?_
            refine xx_goto (q := 95) rfl rfl ?_
            have hpk : prsK K Hh boat good a lock = givT K Hh boat good a lock := if_neg h111
            have hno : rec (pasT (givT K Hh boat good a lock) G boat up (-1)) (left - a) = none := Option.not_isSome_iff_eq_none.mp h183
            have e : plsA G Hh boat good rec K lock up left (k + 1) a = plsA G Hh boat good rec K lock up left k (a + 1) := by
              show (if _ then _ else _) = _
              rw [if_pos ⟨(Or.inr (Classical.not_not.mp (fun q => h128 (givR_n.mpr q)))), by rw [hpk]; exact h152⟩, hpk]
              show (match rec (pasT (givT K Hh boat good a lock) G boat up (-1)) (left - a) with | some l => some ((lock, a) :: l) | none => _) = _
              rw [hno]
            rw [e]
            have hfz : FU (lv + 1) D D7 := (hfu7.trans (hF7.le (by omega)))
            exact ih k (by omega) _ _ _ _ (CK_fr hK (fun o k ho => hfz _ _ (by omega) (by omega) (by omega) (by omega))) (LwG.fu hG hfz) (LwH.fu hH hfz) (hF.trans hfz) (by rw [hg7, hno]; exact (funext (fun x => hF6 280 x (by omega) (by omega) (by omega))).trans hgv) (by omega) (by omega)
          · refine xx_aload_n (q := 187) rfl rfl rfl ?_
            refine xx_getR (q := 190) rfl rfl rfl xS_279 (Nat.le_of_ble_eq_true rfl) rfl (hR.1 279 4 rfl) ?_
            refine xx_iload (q := 192) rfl rfl rfl ?_
            refine xx_iload (q := 194) rfl rfl rfl ?_
            refine xx_isz (q := 195) rfl rfl xS_280 (by omega) (by omega) rfl ?_
            refine xx_iconst (q := 196) rfl rfl (by decide) ?_
            have hpk : prsK K Hh boat good a lock = givT K Hh boat good a lock := if_neg h111
            obtain ⟨ll, hll⟩ := Option.isSome_iff_exists.mp h183
            have e : plsA G Hh boat good rec K lock up left (k + 1) a = some ((lock, a) :: ll) := by
              show (if _ then _ else _) = _
              rw [if_pos ⟨(Or.inr (Classical.not_not.mp (fun q => h128 (givR_n.mpr q)))), by rw [hpk]; exact h152⟩, hpk]
              show (match rec (pasT (givT K Hh boat good a lock) G boat up (-1)) (left - a) with | some l => some ((lock, a) :: l) | none => _) = _
              rw [hll]
            rw [e]
            refine xx_iret rfl (Or.inr rfl) ⟨congrArg (fun z => some (Sum.inl z)) (bi_t rfl).symm, _, rfl, fun b k h1 h2 h3 h4 => (xui_a (by omega)).trans ((hF.trans (hfu7.trans (hF7.le (by omega)))) b k h1 h2 h3 h4), ?_⟩
            rw [xui_f, hg7, hll]
            show fset (gvn ll _) lock.toNat a = fset (gvn ll f) lock.toNat a
            rw [(funext (fun x => hF6 280 x (by omega) (by omega) (by omega))).trans hgv]
set_option maxHeartbeats 2000000 in
theorem c_pls_W {n L lv c0 c1 : Nat} {R : Nat → Nat → Option Nat} (hR : RF R) (hL : 5 ≤ L) (hlv : lv ≤ 9) (ec0 : c0 = 284 + 19 * lv) (ec1 : c1 = 284 + 19 * (lv + 1)) {G Hh : LwF} (boat good pool left : Int) (hb0 : 0 ≤ boat) (hg0 : 0 ≤ good) (hg1 : good ≤ 3) (hl0 : 0 ≤ left) (hl1 : left ≤ 6) (K D : KK) (hI : KI K) (hb1 : boat < K 13 0) (hK : CK c0 K D) (hG : LwG G n R D) (hH : LwH Hh n R D) (rec : KK → Int → OL) (hrec : lv < 9 → ∀ (K2 : KK) (l2 : Int) (D2 : KK), CK c1 K2 D2 → KI K2 → boat < K2 13 0 → 0 ≤ l2 → l2 ≤ 6 → LwG G n R D2 → LwH Hh n R D2 → ∃ D', XC L 109 [.inr (some 279), .inl ((lv : Int) + 1), .inl boat, .inl good, .inl pool, .inl l2] (xS n, R, D2) (some (.inl (bi ((rec K2 l2).isSome = true)))) (xS n, R, D') ∧ FU (lv + 2) D2 D' ∧ D' 280 = gvO (rec K2 l2) (D2 280)) (RES : OL) (hRes : RES = if K 14 boat.toNat = pool then (if left = 0 then some [] else none) else if lckF K (K 14 boat.toNat) (upP K boat pool) = -1 ∨ lv = 9 then none else plsA G Hh boat good rec K (lckF K (K 14 boat.toNat) (upP K boat pool)) (upP K boat pool) left (left + 1).toNat 0) : ∃ D', XC (L + 1) 109 [.inr (some 279), .inl (lv : Int), .inl boat, .inl good, .inl pool, .inl left] (xS n, R, D) (some (.inl (bi (RES.isSome = true)))) (xS n, R, D') ∧ FU (lv + 1) D D' ∧ D' 280 = gvO RES (D 280) := by
  have hc0 : isC c0 := isT_C (ec0 ▸ isT_k (by omega))
  have hbB := ki_B hI
  have hbL := ki_L hI
  have e0 : R 283 ((lv : Int)).toNat = some c0 := ec0 ▸ rk_283 hR (by omega)
  have e1 : lv < 9 → R 283 ((lv : Int) + 1).toNat = some c1 := fun q => by rw [show ((lv : Int) + 1).toNat = lv + 1 by omega]; exact ec1 ▸ rk_283 hR (by omega)
  refine XE_of (Nat.le_of_ble_eq_true rfl) (Nat.le_of_ble_eq_true rfl) (loc := [_, _, _, _, _, _, _, _, _, _, _, _, _, _]) rfl ?_
  refine xx_aload_n (q := 1) rfl rfl rfl ?_
  refine xx_getR (q := 4) rfl rfl rfl xS_279 (Nat.le_of_ble_eq_true rfl) rfl (hR.1 279 7 rfl) ?_
  refine xx_iload_n (q := 5) rfl rfl rfl ?_
  refine xx_aaz (q := 6) rfl rfl xS_283 (by omega) (by omega) e0 ?_
  refine xx_astore (q := 8) (loc2 := [_, _, _, _, _, _, _, _, _, _, _, _, _, _]) rfl rfl (Nat.le_of_ble_eq_true rfl) rfl ?_
  refine xx_aload (q := 10) rfl rfl rfl ?_
  refine xx_getR (q := 13) rfl rfl rfl (xSc_0 hc0) (Nat.le_of_ble_eq_true rfl) rfl (rc_fleet hR hc0) ?_
  refine xx_getR (q := 16) rfl rfl rfl (xSc_13 hc0) (Nat.le_of_ble_eq_true rfl) rfl (rc_where hR hc0) ?_
  refine xx_iload_n (q := 17) rfl rfl rfl ?_
  refine xx_iaz (v := K 14 (boat).toNat) (q := 18) rfl rfl (xSc_14 hc0) (by omega) (by omega) (ck_w hK (by omega) (by omega)) ?_
  have hb1 : 0 ≤ K 14 (boat).toNat ∧ K 14 (boat).toNat ≤ 9 := by have h := ki_14 hI (boat).toNat; exact h
  refine xx_istore (q := 20) (loc2 := [_, _, _, _, _, _, _, _, _, _, _, _, _, _]) rfl rfl (Nat.le_of_ble_eq_true rfl) rfl ?_
  refine xx_iload (q := 22) rfl rfl rfl ?_
  refine xx_iload (q := 24) rfl rfl rfl ?_
  refine xx_icmp_ne (q := 38) (q2 := 27) rfl rfl rfl (fun h24 => ?_) (fun h24 => ?_)
  · refine xx_iload (q := 40) rfl rfl rfl ?_
    refine xx_iload (q := 42) rfl rfl rfl ?_
    refine xx_icmp_ge (q := 49) (q2 := 45) rfl rfl rfl (fun h42 => ?_) (fun h42 => ?_)
    · refine xx_iconst (q := 50) rfl rfl (by decide) ?_
      refine xx_istore (q := 52) (loc2 := [_, _, _, _, _, _, _, _, _, _, _, _, _, _]) rfl rfl (Nat.le_of_ble_eq_true rfl) rfl ?_
      refine xx_aload (q := 54) rfl rfl rfl ?_
      refine xx_iload (q := 56) rfl rfl rfl ?_
      refine xx_iload (q := 58) rfl rfl rfl ?_
      refine xx_callV (q := 61) (As := [_, _]) (rest := []) rfl rfl rfl (Or.inl rfl) rfl rfl (Nat.le_of_ble_eq_true rfl) (xSc_0 hc0) (XC_le (by omega) (c_lockOnWay hR hc0 hK hI (K 14 (boat).toNat) 0 (by omega) (by omega))) rfl ?_
      have hb2 := lckF_b K (K 14 (boat).toNat) 0
      refine xx_istore (q := 63) (loc2 := [_, _, _, _, _, _, _, _, _, _, _, _, _, _]) rfl rfl (Nat.le_of_ble_eq_true rfl) rfl ?_
      refine xx_iload (q := 65) rfl rfl rfl ?_
      refine xx_iconst (q := 66) rfl rfl (by decide) ?_
      refine xx_icmp_eq (q := 80) (q2 := 69) rfl rfl rfl (fun h66 => ?_) (fun h66 => ?_)
      · refine xx_iconst (q := 81) rfl rfl (by decide) ?_
        have hu : upP K boat pool = 0 := if_neg (by omega)
        have e : RES = none := by rw [hRes, if_neg h24, hu]; exact if_pos (Or.inl h66)
        rw [e]
        exact xx_iret rfl (Or.inl rfl) ⟨congrArg (fun z => some (Sum.inl z)) (bi_f (by intro q; cases q)).symm, _, rfl, FU.rf, rfl⟩
      · refine xx_iload_n (q := 70) rfl rfl rfl ?_
        refine xx_iconst (q := 71) rfl rfl (by decide) ?_
        refine xx_iaddR (q := 72) rfl rfl (by omega) (by omega) ?_
        refine xx_aload_n (q := 73) rfl rfl rfl ?_
        refine xx_getR (q := 76) rfl rfl rfl xS_279 (Nat.le_of_ble_eq_true rfl) rfl (hR.1 279 7 rfl) ?_
        refine xx_alen (q := 77) rfl rfl xS_283 (by decide) (Nat.le_of_ble_eq_true rfl) ?_
        refine xx_icmp_lt (q := 82) (q2 := 80) rfl rfl rfl (fun h77 => ?_) (fun h77 => ?_)
        · refine xx_aload_n (q := 83) rfl rfl rfl ?_
          refine xx_getR (q := 86) rfl rfl rfl xS_279 (Nat.le_of_ble_eq_true rfl) rfl (hR.1 279 7 rfl) ?_
          refine xx_iload_n (q := 87) rfl rfl rfl ?_
          refine xx_iconst (q := 88) rfl rfl (by decide) ?_
          refine xx_iaddR (q := 89) rfl rfl (by omega) (by omega) ?_
          refine xx_aaz (q := 90) rfl rfl xS_283 (by omega) (by omega) (e1 (by omega)) ?_
          refine xx_astore (q := 92) (loc2 := [_, _, _, _, _, _, _, _, _, _, _, _, _, _]) rfl rfl (Nat.le_of_ble_eq_true rfl) rfl ?_
          refine xx_iconst (q := 93) rfl rfl (by decide) ?_
          refine xx_istore (q := 95) (loc2 := [_, _, _, _, _, _, _, _, _, _, _, _, _, _]) rfl rfl (Nat.le_of_ble_eq_true rfl) rfl ?_
          have hu : upP K boat pool = 0 := if_neg (by omega)
          have hl9 : lv < 9 := by omega
          have e : RES = plsA G Hh boat good rec K (lckF K (K 14 (boat).toNat) 0) 0 left (left + 1).toNat 0 := by rw [hRes, if_neg h24, hu]; exact if_neg (fun q => by rcases q with q | q; exact h66 q; omega)
          rw [e]
          exact c_pls_L hR hL hl9 ec0 ec1 boat good pool left _ _ _ (D 280) hb0 hg0 hg1 hl0 hl1 (by omega) (by omega) K hI (by omega) _ rec (hrec hl9) rfl (left + 1).toNat D 0 _ _ hK hG hH FU.rf rfl (by omega) (by omega)
        · refine xx_iconst (q := 81) rfl rfl (by decide) ?_
          have hu : upP K boat pool = 0 := if_neg (by omega)
          have e : RES = none := by rw [hRes, if_neg h24, hu]; exact if_pos (Or.inr (by omega))
          rw [e]
          exact xx_iret rfl (Or.inl rfl) ⟨congrArg (fun z => some (Sum.inl z)) (bi_f (by intro q; cases q)).symm, _, rfl, FU.rf, rfl⟩
    · refine xx_iconst (q := 46) rfl rfl (by decide) ?_
      refine xx_goto (q := 50) rfl rfl ?_
      refine xx_istore (q := 52) (loc2 := [_, _, _, _, _, _, _, _, _, _, _, _, _, _]) rfl rfl (Nat.le_of_ble_eq_true rfl) rfl ?_
      refine xx_aload (q := 54) rfl rfl rfl ?_
      refine xx_iload (q := 56) rfl rfl rfl ?_
      refine xx_iload (q := 58) rfl rfl rfl ?_
      refine xx_callV (q := 61) (As := [_, _]) (rest := []) rfl rfl rfl (Or.inl rfl) rfl rfl (Nat.le_of_ble_eq_true rfl) (xSc_0 hc0) (XC_le (by omega) (c_lockOnWay hR hc0 hK hI (K 14 (boat).toNat) 1 (by omega) (by omega))) rfl ?_
      have hb3 := lckF_b K (K 14 (boat).toNat) 1
      refine xx_istore (q := 63) (loc2 := [_, _, _, _, _, _, _, _, _, _, _, _, _, _]) rfl rfl (Nat.le_of_ble_eq_true rfl) rfl ?_
      refine xx_iload (q := 65) rfl rfl rfl ?_
      refine xx_iconst (q := 66) rfl rfl (by decide) ?_
      refine xx_icmp_eq (q := 80) (q2 := 69) rfl rfl rfl (fun h66 => ?_) (fun h66 => ?_)
      · refine xx_iconst (q := 81) rfl rfl (by decide) ?_
        have hu : upP K boat pool = 1 := if_pos (by omega)
        have e : RES = none := by rw [hRes, if_neg h24, hu]; exact if_pos (Or.inl h66)
        rw [e]
        exact xx_iret rfl (Or.inl rfl) ⟨congrArg (fun z => some (Sum.inl z)) (bi_f (by intro q; cases q)).symm, _, rfl, FU.rf, rfl⟩
      · refine xx_iload_n (q := 70) rfl rfl rfl ?_
        refine xx_iconst (q := 71) rfl rfl (by decide) ?_
        refine xx_iaddR (q := 72) rfl rfl (by omega) (by omega) ?_
        refine xx_aload_n (q := 73) rfl rfl rfl ?_
        refine xx_getR (q := 76) rfl rfl rfl xS_279 (Nat.le_of_ble_eq_true rfl) rfl (hR.1 279 7 rfl) ?_
        refine xx_alen (q := 77) rfl rfl xS_283 (by decide) (Nat.le_of_ble_eq_true rfl) ?_
        refine xx_icmp_lt (q := 82) (q2 := 80) rfl rfl rfl (fun h77 => ?_) (fun h77 => ?_)
        · refine xx_aload_n (q := 83) rfl rfl rfl ?_
          refine xx_getR (q := 86) rfl rfl rfl xS_279 (Nat.le_of_ble_eq_true rfl) rfl (hR.1 279 7 rfl) ?_
          refine xx_iload_n (q := 87) rfl rfl rfl ?_
          refine xx_iconst (q := 88) rfl rfl (by decide) ?_
          refine xx_iaddR (q := 89) rfl rfl (by omega) (by omega) ?_
          refine xx_aaz (q := 90) rfl rfl xS_283 (by omega) (by omega) (e1 (by omega)) ?_
          refine xx_astore (q := 92) (loc2 := [_, _, _, _, _, _, _, _, _, _, _, _, _, _]) rfl rfl (Nat.le_of_ble_eq_true rfl) rfl ?_
          refine xx_iconst (q := 93) rfl rfl (by decide) ?_
          refine xx_istore (q := 95) (loc2 := [_, _, _, _, _, _, _, _, _, _, _, _, _, _]) rfl rfl (Nat.le_of_ble_eq_true rfl) rfl ?_
          have hu : upP K boat pool = 1 := if_pos (by omega)
          have hl9 : lv < 9 := by omega
          have e : RES = plsA G Hh boat good rec K (lckF K (K 14 (boat).toNat) 1) 1 left (left + 1).toNat 0 := by rw [hRes, if_neg h24, hu]; exact if_neg (fun q => by rcases q with q | q; exact h66 q; omega)
          rw [e]
          exact c_pls_L hR hL hl9 ec0 ec1 boat good pool left _ _ _ (D 280) hb0 hg0 hg1 hl0 hl1 (by omega) (by omega) K hI (by omega) _ rec (hrec hl9) rfl (left + 1).toNat D 0 _ _ hK hG hH FU.rf rfl (by omega) (by omega)
        · refine xx_iconst (q := 81) rfl rfl (by decide) ?_
          have hu : upP K boat pool = 1 := if_pos (by omega)
          have e : RES = none := by rw [hRes, if_neg h24, hu]; exact if_pos (Or.inr (by omega))
          rw [e]
          exact xx_iret rfl (Or.inl rfl) ⟨congrArg (fun z => some (Sum.inl z)) (bi_f (by intro q; cases q)).symm, _, rfl, FU.rf, rfl⟩
  · refine xx_iload (q := 29) rfl rfl rfl ?_
    refine xx_if_ne (q := 36) (q2 := 32) rfl rfl rfl (fun h29 => ?_) (fun h29 => ?_)
    · refine xx_iconst (q := 37) rfl rfl (by decide) ?_
      have e : RES = none := by rw [hRes, if_pos h24]; exact if_neg h29
      rw [e]
      exact xx_iret rfl (Or.inl rfl) ⟨congrArg (fun z => some (Sum.inl z)) (bi_f (by intro q; cases q)).symm, _, rfl, FU.rf, rfl⟩
    · refine xx_iconst (q := 33) rfl rfl (by decide) ?_
      refine xx_goto (q := 37) rfl rfl ?_
      have e : RES = some [] := by rw [hRes, if_pos h24]; exact if_pos h29
      rw [e]
      exact xx_iret rfl (Or.inr rfl) ⟨congrArg (fun z => some (Sum.inl z)) (bi_t rfl).symm, _, rfl, FU.rf, rfl⟩
theorem c_pls {n : Nat} {R : Nat → Nat → Option Nat} (hR : RF R) {G Hh : LwF} (boat good pool : Int) (hb0 : 0 ≤ boat) (hg0 : 0 ≤ good) (hg1 : good ≤ 3) : ∀ (d lv : Nat) (left : Int) (K D : KK), lv + d = 9 → 0 ≤ left → left ≤ 6 → KI K → boat < K 13 0 → CK (284 + 19 * lv) K D → LwG G n R D → LwH Hh n R D → ∃ D', XC (5 + d + 1) 109 [.inr (some 279), .inl (lv : Int), .inl boat, .inl good, .inl pool, .inl left] (xS n, R, D) (some (.inl (bi ((plsF G Hh boat good pool d K left).isSome = true)))) (xS n, R, D') ∧ FU (lv + 1) D D' ∧ D' 280 = gvO (plsF G Hh boat good pool d K left) (D 280)
  | 0, lv, left, K, D, h1, h2, h3, hI, hb1, hK, hG, hH => c_pls_W (c1 := 284 + 19 * (lv + 1)) hR (by omega) (by omega) rfl rfl boat good pool left hb0 hg0 hg1 h2 h3 K D hI hb1 hK hG hH (fun _ _ => none) (fun q => by omega) _ (by
      rw [if_pos (show lckF K (K 14 boat.toNat) (upP K boat pool) = -1 ∨ lv = 9 from Or.inr (by omega))]
      rfl)
  | d + 1, lv, left, K, D, h1, h2, h3, hI, hb1, hK, hG, hH => c_pls_W (c1 := 284 + 19 * (lv + 1)) hR (by omega) (by omega) rfl rfl boat good pool left hb0 hg0 hg1 h2 h3 K D hI hb1 hK hG hH (plsF G Hh boat good pool d) (fun _ K2 l2 D2 q1 q2 q3 q4 q5 q6 q7 => by
      have h := c_pls hR boat good pool hb0 hg0 hg1 d (lv + 1) l2 K2 D2 (by omega) q4 q5 q2 q3 q1 q6 q7
      rw [show ((lv + 1 : Nat) : Int) = (lv : Int) + 1 by omega] at h
      exact h) _ (by
      exact ite_congr rfl (fun _ => rfl) (fun _ => ite_congr (propext ⟨Or.inl, fun q => q.resolve_right (by omega)⟩) (fun _ => rfl) (fun _ => rfl)))
