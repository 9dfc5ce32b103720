/-! The plan is carried out. -/
abbrev PSt : Type := Nat × Int × Int × Int × Int
/-- the step s stands at place a of the row r, in the class's numbers -/
def StC (r : Nat) (a : Int) (s : PSt) (D : KK) : Prop := D r a.toNat = 322 + (s.1 : Int) ∧ D r (a + 1).toNat = s.2.1 ∧ (s.1 ≤ 2 → D r (a + 2).toNat = s.2.2.1) ∧ (s.1 ≤ 1 → D r (a + 3).toNat = s.2.2.2.1) ∧ (s.1 = 1 → D r (a + 4).toNat = s.2.2.2.2)
def up1 (b : Int) : Int := if b = 1 then 1 else 0
def stpW (K : KK) (G Hh : LwF) (s : PSt) : Int := match s with
  | (0, a, b, c, _) => mnF (pasR K G a (up1 b) c) 0
  | (1, a, b, c, d) => if canF K d b a c then 0 else -1
  | (2, a, b, _, _) => if pulP K a b then 0 else -1
  | (_, a, _, _, _) => if waiP K a then 0 else -1
def stpF (K : KK) (G : LwF) (s : PSt) (f : Int) : Int := match s with
  | (0, a, b, c, _) => nrm (f + (if pasR K G a (up1 b) c < 0 then 0 else 1))
  | (2, a, b, _, _) => nrm (f + mxF (pulR K a b) 0)
  | (_, _, _, _, _) => f
def stpG (K : KK) (s : PSt) (g : Int) : Int := match s with
  | (1, a, b, c, d) => nrm (g + (if canF K d b a c then a else 0))
  | (_, _, _, _, _) => g
def stpT (K : KK) (G Hh : LwF) (s : PSt) : KK := match s with
  | (0, a, b, c, _) => pasT K G a (up1 b) c
  | (1, a, b, c, d) => givT K Hh d b a c
  | (2, a, b, _, _) => pulT K a b
  | (_, a, _, _, _) => waiT K a
def stpZ (Z : ZZ) (G Hh : LwF) (s : PSt) : ZZ := match s with
  | (0, a, b, c, _) => (pasT Z.1 G a (up1 b) c, pasb Z.1 G a (up1 b) c Z.2.1, pasB Z.1 G a (up1 b) c Z.2.1 Z.2.2.1, pasU Z.1 G a (up1 b) c Z.2.1 Z.2.2.2)
  | (1, a, b, c, d) => (givT Z.1 Hh d b a c, givb Z.1 d b a c Z.2.1, givB Z.1 d b a c Z.2.1 Z.2.2.1, givU Z.1 d b a c Z.2.1 Z.2.2.2)
  | (2, a, b, _, _) => (pulT Z.1 a b, pullb Z.1 a b Z.2.1, pullB Z.1 a b Z.2.1 Z.2.2.1, pullU Z.1 a b Z.2.1 Z.2.2.2)
  | (_, a, _, _, _) => waiZ Z a
theorem stpT_I {K : KK} {G Hh : LwF} {s : PSt} (h : KI K) : KI (stpT K G Hh s) := by
  unfold stpT
  split
  · exact pasT_I h
  · exact givT_I h
  · exact pulT_I h
  · exact waiT_I h
theorem stpZ_I {Z : ZZ} {G Hh : LwF} {s : PSt} (h : KI Z.1) : KI (stpZ Z G Hh s).1 := by
  unfold stpZ
  split
  · exact pasT_I h
  · exact givT_I h
  · exact pulT_I h
  · exact waiZ_I h
def FP (c : Nat) (D E : KK) : Prop := ∀ b k, (b < c ∨ c + 19 ≤ b) → b ≠ 10 → b ≠ 14 → (b = 15 → k = 0) → E b k = D b k
theorem FP.trans {c : Nat} {D E F : KK} (h : FP c D E) (g : FP c E F) : FP c D F := fun b k h1 h2 h3 h4 => (g b k h1 h2 h3 h4).trans (h b k h1 h2 h3 h4)
theorem Fr.fp {c : Nat} {D E : KK} (h : Fr c D E) : FP c D E := fun b k h1 h2 h3 _ => h b k h1 h2 h3
theorem FP.up {c : Nat} {D E : KK} (h : FP c D E) {j : Nat} {v : Int} (hj : j ≠ 0) : FP c D (xui E 15 j v) := fun b k h1 h2 h3 h4 => (show xui E 15 j v b k = E b k from if_neg (fun q => by have := h4 q.1; omega)).trans (h b k h1 h2 h3 h4)
def FNP (D E : KK) : Prop := ∀ b k, (b < 25 ∨ (46 ≤ b ∧ b < 86) ∨ 279 ≤ b) → b ≠ 10 → b ≠ 14 → (b = 15 → k = 0) → E b k = D b k
theorem FNP.trans {D E F : KK} (h : FNP D E) (g : FNP E F) : FNP D F := fun b k h1 h2 h3 h4 => (g b k h1 h2 h3 h4).trans (h b k h1 h2 h3 h4)
theorem FN.fp {D E : KK} (h : FN D E) : FNP D E := fun b k h1 h2 h3 _ => h b k h1 h2 h3
theorem FNP.up {D E : KK} (h : FNP D E) {j : Nat} {v : Int} (hj : j ≠ 0) : FNP D (xui E 15 j v) := fun b k h1 h2 h3 h4 => (show xui E 15 j v b k = E b k from if_neg (fun q => by have := h4 q.1; omega)).trans (h b k h1 h2 h3 h4)
theorem NWd.self {K : KK} {b : Int} {B : Nat → Int} {U : UU} {D0 D E : KK} (h : NWd K b B U D0 D) (g : ∀ x k, ((25 ≤ x ∧ x < 46) ∨ (86 ≤ x ∧ x < 279)) → E x k = D x k) : NWd K b B U E E := ⟨CK_fr h.1 (fun o k ho => g _ _ (by omega)), h.2.1.fr (fun k => ⟨g _ _ (by omega), g _ _ (by omega)⟩), h.2.2.1.fr (fun b k h1 h2 => g _ _ (by omega)), FN.rf⟩
theorem NWd.up15 {K : KK} {b : Int} {B : Nat → Int} {U : UU} {D0 D : KK} {j : Nat} {v : Int} (h : NWd K b B U D0 D) : NWd K b B U (xui D 15 j v) (xui D 15 j v) := h.self (fun x k hx => xui_a (by omega))
theorem NWd.me {K : KK} {b : Int} {B : Nat → Int} {U : UU} {D0 D : KK} (h : NWd K b B U D0 D) : NWd K b B U D D := h.self (fun x k hx => rfl)
theorem sa_sh {n sa : Nat} (h : sa = 16 ∨ sa = 17) : (xS n)[sa]? = some (0, 150) := by
  rcases h with rfl | rfl
  · exact xS_16
  · exact xS_17
theorem givR_n {K : KK} {Hh : LwF} {boat good amount lock : Int} : givR K Hh boat good amount lock = -1000 ↔ ¬ canF K boat good amount lock := by
  unfold givR
  have h : -99 ≤ dlgF K Hh boat good amount lock := (hld_b _).1
  rcases Classical.em (canF K boat good amount lock) with q | q
  · rw [if_pos q]; exact ⟨fun e => by omega, fun e => absurd q e⟩
  · rw [if_neg q]; exact ⟨fun _ => q, fun _ => rfl⟩
theorem hrsR_n : ∀ (k : Nat) (Z : ZZ), 0 ≤ hrsR k Z
  | 0, _ => Int.le_refl _
  | k + 1, Z => by
    have h := hrsR_n k (hrZ Z)
    have h2 := bi_01 (ranP Z.1)
    show 0 ≤ bi (ranP Z.1) + hrsR k (hrZ Z)
    omega
theorem waiR_m {Z : ZZ} {m : Int} : mnF (waiR Z m) 0 = if waiP Z.1 m then 0 else -1 := by
  unfold waiR
  have h := hrsR_n m.toNat Z
  have h2 := mnF_sp (hrsR m.toNat Z) 0
  split
  · omega
  · rfl
theorem waiT_m {K : KK} {m : Int} : mnF (bi (waiP K m) - 1) 0 = if waiP K m then 0 else -1 := by
  rcases Classical.em (waiP K m) with q | q
  · rw [bi_t q, if_pos q]; rfl
  · rw [bi_f q, if_neg q]; rfl
theorem pulR_m {K : KK} {l m : Int} : mnF (pulR K l m) 0 = if pulP K l m then 0 else -1 := by
  unfold pulR
  have h2 := mnF_sp ((pulN m.toNat K l : Nat) : Int) 0
  split
  · omega
  · rfl
set_option maxHeartbeats 1000000 in
theorem c_stp0T {n c sa : Nat} {R : Nat → Nat → Option Nat} {D K : KK} (hR : RF R) (ht : isT c) (hK : CK c K D) (hI : KI K) {G Hh : LwF} (hG : LwG G n R D) (hH : LwH Hh n R D) (hsa : R 15 4 = some sa) (hsa2 : sa = 16 ∨ sa = 17) (at5 f g a b c4 d : Int) (ha0 : 0 ≤ at5) (ha1 : at5 ≤ 145) (hs : StC sa at5 (0, a, b, c4, d) D) (hf : D 15 2 = f) (hg : D 15 3 = g) : ∃ D', XC 6 84 [.inr (some 15), .inr (some c), .inl at5] (xS n, R, D) (some (.inl (stpW K G Hh (0, a, b, c4, d)))) (xS n, R, D') ∧ CK c (stpT K G Hh (0, a, b, c4, d)) D' ∧ FP c D D' ∧ D' 15 2 = stpF K G (0, a, b, c4, d) f ∧ D' 15 3 = stpG K (0, a, b, c4, d) g := by
  have hc := isT_C ht
  have hn := isT_N ht
  have hcg := isC_gt hc
  have hbL := ki_L hI
  have hn5 : (5 : Int) ≠ 0 := by decide
  refine XE_of (Nat.le_of_ble_eq_true rfl) (Nat.le_of_ble_eq_true rfl) (loc := [_, _, _, _, _, _, _]) rfl ?_
  refine xx_aload_n (q := 1) rfl rfl rfl ?_
  refine xx_getR (q := 4) rfl rfl rfl xS_15 (Nat.le_of_ble_eq_true rfl) rfl (hsa) ?_
  refine xx_iload_n (q := 5) rfl rfl rfl ?_
  refine xx_iconst (q := 6) rfl rfl (by decide) ?_
  refine xx_iaddR (q := 7) rfl rfl (by omega) (by omega) ?_
  refine xx_iaz (q := 8) rfl rfl (sa_sh hsa2) (by omega) (by omega) hs.2.1 ?_
  refine xx_istore_n (q := 9) (loc2 := [_, _, _, _, _, _, _]) rfl rfl (Nat.le_of_ble_eq_true rfl) rfl ?_
  refine xx_aload_n (q := 10) rfl rfl rfl ?_
  refine xx_getR (q := 13) rfl rfl rfl xS_15 (Nat.le_of_ble_eq_true rfl) rfl (hsa) ?_
  refine xx_iload_n (q := 14) rfl rfl rfl ?_
  refine xx_iconst (q := 15) rfl rfl (by decide) ?_
  refine xx_iaddR (q := 16) rfl rfl (by omega) (by omega) ?_
  refine xx_iaz (q := 17) rfl rfl (sa_sh hsa2) (by omega) (by omega) (hs.2.2.1 (Nat.le_of_ble_eq_true rfl)) ?_
  refine xx_istore (q := 19) (loc2 := [_, _, _, _, _, _, _]) rfl rfl (Nat.le_of_ble_eq_true rfl) rfl ?_
  refine xx_aload_n (q := 20) rfl rfl rfl ?_
  refine xx_getR (q := 23) rfl rfl rfl xS_15 (Nat.le_of_ble_eq_true rfl) rfl (hsa) ?_
  refine xx_iload_n (q := 24) rfl rfl rfl ?_
  refine xx_iconst (q := 25) rfl rfl (by decide) ?_
  refine xx_iaddR (q := 26) rfl rfl (by omega) (by omega) ?_
  refine xx_iaz (q := 27) rfl rfl (sa_sh hsa2) (by omega) (by omega) (hs.2.2.2.1 (Nat.le_of_ble_eq_true rfl)) ?_
  refine xx_istore (q := 29) (loc2 := [_, _, _, _, _, _, _]) rfl rfl (Nat.le_of_ble_eq_true rfl) rfl ?_
  refine xx_aload_n (q := 30) rfl rfl rfl ?_
  refine xx_getR (q := 33) rfl rfl rfl xS_15 (Nat.le_of_ble_eq_true rfl) rfl (hsa) ?_
  refine xx_iload_n (q := 34) rfl rfl rfl ?_
  refine xx_iaz (q := 35) rfl rfl (sa_sh hsa2) (by omega) (by omega) hs.1 ?_
  refine xx_swK (q := 60) (zl := 322) (off := 25) rfl rfl (by decide) (by decide) rfl rfl ?_
  refine xx_aload_n (q := 61) rfl rfl rfl ?_
  refine xx_iload_n (q := 62) rfl rfl rfl ?_
  refine xx_iload (q := 64) rfl rfl rfl ?_
  refine xx_iconst (q := 65) rfl rfl (by decide) ?_
  refine xx_icmp_ne (q := 72) (q2 := 68) rfl rfl rfl (fun h65 => ?_) (fun h65 => ?_)
  · refine xx_iconst (q := 73) rfl rfl (by decide) ?_
    refine xx_iload (q := 75) rfl rfl rfl ?_
    obtain ⟨D1, hx1, hK1, hG1⟩ := c_passT (n := n) hR ht hK hI (LwG.fr hG Fr.rf hc) a 0 c4
    have hF1 := Fr.rf.trans hG1
    have hI1 : KI (pasT K G a 0 c4) := pasT_I hI
    refine xx_callV (q := 78) (As := [_, _, _]) (rest := []) rfl rfl rfl (Or.inl rfl) rfl rfl (Nat.le_of_ble_eq_true rfl) (xSc_0 hc) (XCm hx1 rfl) rfl ?_
    refine xx_istore (q := 80) (loc2 := [_, _, _, _, _, _, _]) rfl rfl (Nat.le_of_ble_eq_true rfl) rfl ?_
    refine xx_aload_n (q := 81) rfl rfl rfl ?_
    refine xx_dup (q := 82) rfl rfl ?_
    refine xx_gez (q := 85) rfl rfl rfl xS_15 (Nat.le_of_ble_eq_true rfl) rfl ((hF1 15 2 (by omega) (by omega) (by omega)).trans hf) ?_
    refine xx_iload (q := 87) rfl rfl rfl ?_
    refine xx_if_ge (q := 94) (q2 := 90) rfl rfl rfl (fun h87 => ?_) (fun h87 => ?_)
    · refine xx_iconst (q := 95) rfl rfl (by decide) ?_
      refine xx_iadd (q := 96) rfl rfl ?_
      refine xx_puz (q := 99) rfl rfl rfl xS_15 (Nat.le_of_ble_eq_true rfl) (Nat.le_of_ble_eq_true rfl) (fun h => by cases h) (Or.inl rfl) rfl ?_
      refine xx_iload (q := 101) rfl rfl rfl ?_
      refine xx_iconst (q := 102) rfl rfl (by decide) ?_
      refine xx_minF (q := 105) rfl rfl rfl (Nat.le_of_ble_eq_true rfl) ?_
      have hb3 := mnF_sp (pasR K G a 0 c4) 0
      refine xx_iret rfl trivial ⟨congrArg (fun z => some (Sum.inl z)) (by have hu : up1 b = 0 := if_neg h65; show _ = mnF (pasR K G a (up1 b) c4) 0; rw [hu]), _, rfl, ?_⟩
      have hu : up1 b = 0 := if_neg h65
      have hi : (if pasR K G a (up1 b) c4 < 0 then (0 : Int) else 1) = 1 := by rw [hu]; exact if_neg (by omega)
      exact ⟨by show CK c (pasT K G a (up1 b) c4) _; rw [hu]; exact CK_fr hK1 (fun o k ho => xui_a (by omega)), (hF1.fp).up (by decide), by show _ = nrm (f + (if pasR K G a (up1 b) c4 < 0 then (0 : Int) else 1)); rw [hi]; exact xui_s, (xui_j (by decide)).trans ((hF1 15 3 (by omega) (by omega) (by omega)).trans hg)⟩
    · refine xx_iconst (q := 91) rfl rfl (by decide) ?_
      refine xx_goto (q := 95) rfl rfl ?_
      refine xx_iadd (q := 96) rfl rfl ?_
      refine xx_puz (q := 99) rfl rfl rfl xS_15 (Nat.le_of_ble_eq_true rfl) (Nat.le_of_ble_eq_true rfl) (fun h => by cases h) (Or.inl rfl) rfl ?_
      refine xx_iload (q := 101) rfl rfl rfl ?_
      refine xx_iconst (q := 102) rfl rfl (by decide) ?_
      refine xx_minF (q := 105) rfl rfl rfl (Nat.le_of_ble_eq_true rfl) ?_
      have hb5 := mnF_sp (pasR K G a 0 c4) 0
      refine xx_iret rfl trivial ⟨congrArg (fun z => some (Sum.inl z)) (by have hu : up1 b = 0 := if_neg h65; show _ = mnF (pasR K G a (up1 b) c4) 0; rw [hu]), _, rfl, ?_⟩
      have hu : up1 b = 0 := if_neg h65
      have hi : (if pasR K G a (up1 b) c4 < 0 then (0 : Int) else 1) = 0 := by rw [hu]; exact if_pos (by omega)
      exact ⟨by show CK c (pasT K G a (up1 b) c4) _; rw [hu]; exact CK_fr hK1 (fun o k ho => xui_a (by omega)), (hF1.fp).up (by decide), by show _ = nrm (f + (if pasR K G a (up1 b) c4 < 0 then (0 : Int) else 1)); rw [hi]; exact xui_s, (xui_j (by decide)).trans ((hF1 15 3 (by omega) (by omega) (by omega)).trans hg)⟩
  · refine xx_iconst (q := 69) rfl rfl (by decide) ?_
    refine xx_goto (q := 73) rfl rfl ?_
    refine xx_iload (q := 75) rfl rfl rfl ?_
    obtain ⟨D6, hx6, hK6, hG6⟩ := c_passT (n := n) hR ht hK hI (LwG.fr hG Fr.rf hc) a 1 c4
    have hF6 := Fr.rf.trans hG6
    have hI6 : KI (pasT K G a 1 c4) := pasT_I hI
    refine xx_callV (q := 78) (As := [_, _, _]) (rest := []) rfl rfl rfl (Or.inl rfl) rfl rfl (Nat.le_of_ble_eq_true rfl) (xSc_0 hc) (XCm hx6 rfl) rfl ?_
    refine xx_istore (q := 80) (loc2 := [_, _, _, _, _, _, _]) rfl rfl (Nat.le_of_ble_eq_true rfl) rfl ?_
    refine xx_aload_n (q := 81) rfl rfl rfl ?_
    refine xx_dup (q := 82) rfl rfl ?_
    refine xx_gez (q := 85) rfl rfl rfl xS_15 (Nat.le_of_ble_eq_true rfl) rfl ((hF6 15 2 (by omega) (by omega) (by omega)).trans hf) ?_
    refine xx_iload (q := 87) rfl rfl rfl ?_
    refine xx_if_ge (q := 94) (q2 := 90) rfl rfl rfl (fun h87 => ?_) (fun h87 => ?_)
    · refine xx_iconst (q := 95) rfl rfl (by decide) ?_
      refine xx_iadd (q := 96) rfl rfl ?_
      refine xx_puz (q := 99) rfl rfl rfl xS_15 (Nat.le_of_ble_eq_true rfl) (Nat.le_of_ble_eq_true rfl) (fun h => by cases h) (Or.inl rfl) rfl ?_
      refine xx_iload (q := 101) rfl rfl rfl ?_
      refine xx_iconst (q := 102) rfl rfl (by decide) ?_
      refine xx_minF (q := 105) rfl rfl rfl (Nat.le_of_ble_eq_true rfl) ?_
      have hb8 := mnF_sp (pasR K G a 1 c4) 0
      refine xx_iret rfl trivial ⟨congrArg (fun z => some (Sum.inl z)) (by have hu : up1 b = 1 := if_pos h65; show _ = mnF (pasR K G a (up1 b) c4) 0; rw [hu]), _, rfl, ?_⟩
      have hu : up1 b = 1 := if_pos h65
      have hi : (if pasR K G a (up1 b) c4 < 0 then (0 : Int) else 1) = 1 := by rw [hu]; exact if_neg (by omega)
      exact ⟨by show CK c (pasT K G a (up1 b) c4) _; rw [hu]; exact CK_fr hK6 (fun o k ho => xui_a (by omega)), (hF6.fp).up (by decide), by show _ = nrm (f + (if pasR K G a (up1 b) c4 < 0 then (0 : Int) else 1)); rw [hi]; exact xui_s, (xui_j (by decide)).trans ((hF6 15 3 (by omega) (by omega) (by omega)).trans hg)⟩
    · refine xx_iconst (q := 91) rfl rfl (by decide) ?_
      refine xx_goto (q := 95) rfl rfl ?_
      refine xx_iadd (q := 96) rfl rfl ?_
      refine xx_puz (q := 99) rfl rfl rfl xS_15 (Nat.le_of_ble_eq_true rfl) (Nat.le_of_ble_eq_true rfl) (fun h => by cases h) (Or.inl rfl) rfl ?_
      refine xx_iload (q := 101) rfl rfl rfl ?_
      refine xx_iconst (q := 102) rfl rfl (by decide) ?_
      refine xx_minF (q := 105) rfl rfl rfl (Nat.le_of_ble_eq_true rfl) ?_
      have hb10 := mnF_sp (pasR K G a 1 c4) 0
      refine xx_iret rfl trivial ⟨congrArg (fun z => some (Sum.inl z)) (by have hu : up1 b = 1 := if_pos h65; show _ = mnF (pasR K G a (up1 b) c4) 0; rw [hu]), _, rfl, ?_⟩
      have hu : up1 b = 1 := if_pos h65
      have hi : (if pasR K G a (up1 b) c4 < 0 then (0 : Int) else 1) = 0 := by rw [hu]; exact if_pos (by omega)
      exact ⟨by show CK c (pasT K G a (up1 b) c4) _; rw [hu]; exact CK_fr hK6 (fun o k ho => xui_a (by omega)), (hF6.fp).up (by decide), by show _ = nrm (f + (if pasR K G a (up1 b) c4 < 0 then (0 : Int) else 1)); rw [hi]; exact xui_s, (xui_j (by decide)).trans ((hF6 15 3 (by omega) (by omega) (by omega)).trans hg)⟩
set_option maxHeartbeats 1000000 in
theorem c_stp0N {n sa : Nat} {R : Nat → Nat → Option Nat} {D K : KK} {bb : Int} {B : Nat → Int} {U : UU} (hR : RF R) (hW : NWd K bb B U D D) (hI : KI K) {G Hh : LwF} (hG : LwG G n R D) (hH : LwH Hh n R D) (hsa : R 15 4 = some sa) (hsa2 : sa = 16 ∨ sa = 17) (at5 f g a b c4 d : Int) (ha0 : 0 ≤ at5) (ha1 : at5 ≤ 145) (hs : StC sa at5 (0, a, b, c4, d) D) (hf : D 15 2 = f) (hg : D 15 3 = g) : ∃ D', XC 6 84 [.inr (some 15), .inr (some 27), .inl at5] (xS n, R, D) (some (.inl (stpW K G Hh (0, a, b, c4, d)))) (xS n, R, D') ∧ NZ (stpZ (K, bb, B, U) G Hh (0, a, b, c4, d)) D' D' ∧ FNP D D' ∧ D' 15 2 = stpF K G (0, a, b, c4, d) f ∧ D' 15 3 = stpG K (0, a, b, c4, d) g := by
  have hbL := ki_L hI
  have hn5 : (5 : Int) ≠ 0 := by decide
  refine XE_of (Nat.le_of_ble_eq_true rfl) (Nat.le_of_ble_eq_true rfl) (loc := [_, _, _, _, _, _, _]) rfl ?_
  refine xx_aload_n (q := 1) rfl rfl rfl ?_
  refine xx_getR (q := 4) rfl rfl rfl xS_15 (Nat.le_of_ble_eq_true rfl) rfl (hsa) ?_
  refine xx_iload_n (q := 5) rfl rfl rfl ?_
  refine xx_iconst (q := 6) rfl rfl (by decide) ?_
  refine xx_iaddR (q := 7) rfl rfl (by omega) (by omega) ?_
  refine xx_iaz (q := 8) rfl rfl (sa_sh hsa2) (by omega) (by omega) hs.2.1 ?_
  refine xx_istore_n (q := 9) (loc2 := [_, _, _, _, _, _, _]) rfl rfl (Nat.le_of_ble_eq_true rfl) rfl ?_
  refine xx_aload_n (q := 10) rfl rfl rfl ?_
  refine xx_getR (q := 13) rfl rfl rfl xS_15 (Nat.le_of_ble_eq_true rfl) rfl (hsa) ?_
  refine xx_iload_n (q := 14) rfl rfl rfl ?_
  refine xx_iconst (q := 15) rfl rfl (by decide) ?_
  refine xx_iaddR (q := 16) rfl rfl (by omega) (by omega) ?_
  refine xx_iaz (q := 17) rfl rfl (sa_sh hsa2) (by omega) (by omega) (hs.2.2.1 (Nat.le_of_ble_eq_true rfl)) ?_
  refine xx_istore (q := 19) (loc2 := [_, _, _, _, _, _, _]) rfl rfl (Nat.le_of_ble_eq_true rfl) rfl ?_
  refine xx_aload_n (q := 20) rfl rfl rfl ?_
  refine xx_getR (q := 23) rfl rfl rfl xS_15 (Nat.le_of_ble_eq_true rfl) rfl (hsa) ?_
  refine xx_iload_n (q := 24) rfl rfl rfl ?_
  refine xx_iconst (q := 25) rfl rfl (by decide) ?_
  refine xx_iaddR (q := 26) rfl rfl (by omega) (by omega) ?_
  refine xx_iaz (q := 27) rfl rfl (sa_sh hsa2) (by omega) (by omega) (hs.2.2.2.1 (Nat.le_of_ble_eq_true rfl)) ?_
  refine xx_istore (q := 29) (loc2 := [_, _, _, _, _, _, _]) rfl rfl (Nat.le_of_ble_eq_true rfl) rfl ?_
  refine xx_aload_n (q := 30) rfl rfl rfl ?_
  refine xx_getR (q := 33) rfl rfl rfl xS_15 (Nat.le_of_ble_eq_true rfl) rfl (hsa) ?_
  refine xx_iload_n (q := 34) rfl rfl rfl ?_
  refine xx_iaz (q := 35) rfl rfl (sa_sh hsa2) (by omega) (by omega) hs.1 ?_
  refine xx_swK (q := 60) (zl := 322) (off := 25) rfl rfl (by decide) (by decide) rfl rfl ?_
  refine xx_aload_n (q := 61) rfl rfl rfl ?_
  refine xx_iload_n (q := 62) rfl rfl rfl ?_
  refine xx_iload (q := 64) rfl rfl rfl ?_
  refine xx_iconst (q := 65) rfl rfl (by decide) ?_
  refine xx_icmp_ne (q := 72) (q2 := 68) rfl rfl rfl (fun h65 => ?_) (fun h65 => ?_)
  · refine xx_iconst (q := 73) rfl rfl (by decide) ?_
    refine xx_iload (q := 75) rfl rfl rfl ?_
    obtain ⟨D1, hx1, hW1⟩ := c_passN (n := n) hR hW hI hG a 0 c4
    have hI1 : KI (pasT K G a 0 c4) := pasT_I hI
    refine xx_callV (q := 78) (As := [_, _, _]) (rest := []) rfl rfl rfl (Or.inl rfl) rfl rfl (Nat.le_of_ble_eq_true rfl) (xSc_0 isC_27) (XCm hx1 rfl) rfl ?_
    refine xx_istore (q := 80) (loc2 := [_, _, _, _, _, _, _]) rfl rfl (Nat.le_of_ble_eq_true rfl) rfl ?_
    refine xx_aload_n (q := 81) rfl rfl rfl ?_
    refine xx_dup (q := 82) rfl rfl ?_
    refine xx_gez (q := 85) rfl rfl rfl xS_15 (Nat.le_of_ble_eq_true rfl) rfl ((hW1.2.2.2 15 2 (by omega) (by omega) (by omega)).trans hf) ?_
    refine xx_iload (q := 87) rfl rfl rfl ?_
    refine xx_if_ge (q := 94) (q2 := 90) rfl rfl rfl (fun h87 => ?_) (fun h87 => ?_)
    · refine xx_iconst (q := 95) rfl rfl (by decide) ?_
      refine xx_iadd (q := 96) rfl rfl ?_
      refine xx_puz (q := 99) rfl rfl rfl xS_15 (Nat.le_of_ble_eq_true rfl) (Nat.le_of_ble_eq_true rfl) (fun h => by cases h) (Or.inl rfl) rfl ?_
      refine xx_iload (q := 101) rfl rfl rfl ?_
      refine xx_iconst (q := 102) rfl rfl (by decide) ?_
      refine xx_minF (q := 105) rfl rfl rfl (Nat.le_of_ble_eq_true rfl) ?_
      have hb3 := mnF_sp (pasR K G a 0 c4) 0
      refine xx_iret rfl trivial ⟨congrArg (fun z => some (Sum.inl z)) (by have hu : up1 b = 0 := if_neg h65; show _ = mnF (pasR K G a (up1 b) c4) 0; rw [hu]), _, rfl, ?_⟩
      have hu : up1 b = 0 := if_neg h65
      have hi : (if pasR K G a (up1 b) c4 < 0 then (0 : Int) else 1) = 1 := by rw [hu]; exact if_neg (by omega)
      exact ⟨by show NWd (pasT K G a (up1 b) c4) (pasb K G a (up1 b) c4 bb) (pasB K G a (up1 b) c4 bb B) (pasU K G a (up1 b) c4 bb U) _ _; rw [hu]; exact (hW1).up15, (hW1.2.2.2.fp).up (by decide), by show _ = nrm (f + (if pasR K G a (up1 b) c4 < 0 then (0 : Int) else 1)); rw [hi]; exact xui_s, (xui_j (by decide)).trans ((hW1.2.2.2 15 3 (by omega) (by omega) (by omega)).trans hg)⟩
    · refine xx_iconst (q := 91) rfl rfl (by decide) ?_
      refine xx_goto (q := 95) rfl rfl ?_
      refine xx_iadd (q := 96) rfl rfl ?_
      refine xx_puz (q := 99) rfl rfl rfl xS_15 (Nat.le_of_ble_eq_true rfl) (Nat.le_of_ble_eq_true rfl) (fun h => by cases h) (Or.inl rfl) rfl ?_
      refine xx_iload (q := 101) rfl rfl rfl ?_
      refine xx_iconst (q := 102) rfl rfl (by decide) ?_
      refine xx_minF (q := 105) rfl rfl rfl (Nat.le_of_ble_eq_true rfl) ?_
      have hb5 := mnF_sp (pasR K G a 0 c4) 0
      refine xx_iret rfl trivial ⟨congrArg (fun z => some (Sum.inl z)) (by have hu : up1 b = 0 := if_neg h65; show _ = mnF (pasR K G a (up1 b) c4) 0; rw [hu]), _, rfl, ?_⟩
      have hu : up1 b = 0 := if_neg h65
      have hi : (if pasR K G a (up1 b) c4 < 0 then (0 : Int) else 1) = 0 := by rw [hu]; exact if_pos (by omega)
      exact ⟨by show NWd (pasT K G a (up1 b) c4) (pasb K G a (up1 b) c4 bb) (pasB K G a (up1 b) c4 bb B) (pasU K G a (up1 b) c4 bb U) _ _; rw [hu]; exact (hW1).up15, (hW1.2.2.2.fp).up (by decide), by show _ = nrm (f + (if pasR K G a (up1 b) c4 < 0 then (0 : Int) else 1)); rw [hi]; exact xui_s, (xui_j (by decide)).trans ((hW1.2.2.2 15 3 (by omega) (by omega) (by omega)).trans hg)⟩
  · refine xx_iconst (q := 69) rfl rfl (by decide) ?_
    refine xx_goto (q := 73) rfl rfl ?_
    refine xx_iload (q := 75) rfl rfl rfl ?_
    obtain ⟨D6, hx6, hW6⟩ := c_passN (n := n) hR hW hI hG a 1 c4
    have hI6 : KI (pasT K G a 1 c4) := pasT_I hI
    refine xx_callV (q := 78) (As := [_, _, _]) (rest := []) rfl rfl rfl (Or.inl rfl) rfl rfl (Nat.le_of_ble_eq_true rfl) (xSc_0 isC_27) (XCm hx6 rfl) rfl ?_
    refine xx_istore (q := 80) (loc2 := [_, _, _, _, _, _, _]) rfl rfl (Nat.le_of_ble_eq_true rfl) rfl ?_
    refine xx_aload_n (q := 81) rfl rfl rfl ?_
    refine xx_dup (q := 82) rfl rfl ?_
    refine xx_gez (q := 85) rfl rfl rfl xS_15 (Nat.le_of_ble_eq_true rfl) rfl ((hW6.2.2.2 15 2 (by omega) (by omega) (by omega)).trans hf) ?_
    refine xx_iload (q := 87) rfl rfl rfl ?_
    refine xx_if_ge (q := 94) (q2 := 90) rfl rfl rfl (fun h87 => ?_) (fun h87 => ?_)
    · refine xx_iconst (q := 95) rfl rfl (by decide) ?_
      refine xx_iadd (q := 96) rfl rfl ?_
      refine xx_puz (q := 99) rfl rfl rfl xS_15 (Nat.le_of_ble_eq_true rfl) (Nat.le_of_ble_eq_true rfl) (fun h => by cases h) (Or.inl rfl) rfl ?_
      refine xx_iload (q := 101) rfl rfl rfl ?_
      refine xx_iconst (q := 102) rfl rfl (by decide) ?_
      refine xx_minF (q := 105) rfl rfl rfl (Nat.le_of_ble_eq_true rfl) ?_
      have hb8 := mnF_sp (pasR K G a 1 c4) 0
      refine xx_iret rfl trivial ⟨congrArg (fun z => some (Sum.inl z)) (by have hu : up1 b = 1 := if_pos h65; show _ = mnF (pasR K G a (up1 b) c4) 0; rw [hu]), _, rfl, ?_⟩
      have hu : up1 b = 1 := if_pos h65
      have hi : (if pasR K G a (up1 b) c4 < 0 then (0 : Int) else 1) = 1 := by rw [hu]; exact if_neg (by omega)
      exact ⟨by show NWd (pasT K G a (up1 b) c4) (pasb K G a (up1 b) c4 bb) (pasB K G a (up1 b) c4 bb B) (pasU K G a (up1 b) c4 bb U) _ _; rw [hu]; exact (hW6).up15, (hW6.2.2.2.fp).up (by decide), by show _ = nrm (f + (if pasR K G a (up1 b) c4 < 0 then (0 : Int) else 1)); rw [hi]; exact xui_s, (xui_j (by decide)).trans ((hW6.2.2.2 15 3 (by omega) (by omega) (by omega)).trans hg)⟩
    · refine xx_iconst (q := 91) rfl rfl (by decide) ?_
      refine xx_goto (q := 95) rfl rfl ?_
      refine xx_iadd (q := 96) rfl rfl ?_
      refine xx_puz (q := 99) rfl rfl rfl xS_15 (Nat.le_of_ble_eq_true rfl) (Nat.le_of_ble_eq_true rfl) (fun h => by cases h) (Or.inl rfl) rfl ?_
      refine xx_iload (q := 101) rfl rfl rfl ?_
      refine xx_iconst (q := 102) rfl rfl (by decide) ?_
      refine xx_minF (q := 105) rfl rfl rfl (Nat.le_of_ble_eq_true rfl) ?_
      have hb10 := mnF_sp (pasR K G a 1 c4) 0
      refine xx_iret rfl trivial ⟨congrArg (fun z => some (Sum.inl z)) (by have hu : up1 b = 1 := if_pos h65; show _ = mnF (pasR K G a (up1 b) c4) 0; rw [hu]), _, rfl, ?_⟩
      have hu : up1 b = 1 := if_pos h65
      have hi : (if pasR K G a (up1 b) c4 < 0 then (0 : Int) else 1) = 0 := by rw [hu]; exact if_pos (by omega)
      exact ⟨by show NWd (pasT K G a (up1 b) c4) (pasb K G a (up1 b) c4 bb) (pasB K G a (up1 b) c4 bb B) (pasU K G a (up1 b) c4 bb U) _ _; rw [hu]; exact (hW6).up15, (hW6.2.2.2.fp).up (by decide), by show _ = nrm (f + (if pasR K G a (up1 b) c4 < 0 then (0 : Int) else 1)); rw [hi]; exact xui_s, (xui_j (by decide)).trans ((hW6.2.2.2 15 3 (by omega) (by omega) (by omega)).trans hg)⟩
set_option maxHeartbeats 1000000 in
theorem c_stp1T {n c sa : Nat} {R : Nat → Nat → Option Nat} {D K : KK} (hR : RF R) (ht : isT c) (hK : CK c K D) (hI : KI K) {G Hh : LwF} (hG : LwG G n R D) (hH : LwH Hh n R D) (hsa : R 15 4 = some sa) (hsa2 : sa = 16 ∨ sa = 17) (at5 f g a b c4 d : Int) (ha0 : 0 ≤ at5) (ha1 : at5 ≤ 145) (hs : StC sa at5 (1, a, b, c4, d) D) (hf : D 15 2 = f) (hg : D 15 3 = g) : ∃ D', XC 5 84 [.inr (some 15), .inr (some c), .inl at5] (xS n, R, D) (some (.inl (stpW K G Hh (1, a, b, c4, d)))) (xS n, R, D') ∧ CK c (stpT K G Hh (1, a, b, c4, d)) D' ∧ FP c D D' ∧ D' 15 2 = stpF K G (1, a, b, c4, d) f ∧ D' 15 3 = stpG K (1, a, b, c4, d) g := by
  have hc := isT_C ht
  have hn := isT_N ht
  have hcg := isC_gt hc
  have hbL := ki_L hI
  have hn5 : (5 : Int) ≠ 0 := by decide
  refine XE_of (Nat.le_of_ble_eq_true rfl) (Nat.le_of_ble_eq_true rfl) (loc := [_, _, _, _, _, _, _]) rfl ?_
  refine xx_aload_n (q := 1) rfl rfl rfl ?_
  refine xx_getR (q := 4) rfl rfl rfl xS_15 (Nat.le_of_ble_eq_true rfl) rfl (hsa) ?_
  refine xx_iload_n (q := 5) rfl rfl rfl ?_
  refine xx_iconst (q := 6) rfl rfl (by decide) ?_
  refine xx_iaddR (q := 7) rfl rfl (by omega) (by omega) ?_
  refine xx_iaz (q := 8) rfl rfl (sa_sh hsa2) (by omega) (by omega) hs.2.1 ?_
  refine xx_istore_n (q := 9) (loc2 := [_, _, _, _, _, _, _]) rfl rfl (Nat.le_of_ble_eq_true rfl) rfl ?_
  refine xx_aload_n (q := 10) rfl rfl rfl ?_
  refine xx_getR (q := 13) rfl rfl rfl xS_15 (Nat.le_of_ble_eq_true rfl) rfl (hsa) ?_
  refine xx_iload_n (q := 14) rfl rfl rfl ?_
  refine xx_iconst (q := 15) rfl rfl (by decide) ?_
  refine xx_iaddR (q := 16) rfl rfl (by omega) (by omega) ?_
  refine xx_iaz (q := 17) rfl rfl (sa_sh hsa2) (by omega) (by omega) (hs.2.2.1 (Nat.le_of_ble_eq_true rfl)) ?_
  refine xx_istore (q := 19) (loc2 := [_, _, _, _, _, _, _]) rfl rfl (Nat.le_of_ble_eq_true rfl) rfl ?_
  refine xx_aload_n (q := 20) rfl rfl rfl ?_
  refine xx_getR (q := 23) rfl rfl rfl xS_15 (Nat.le_of_ble_eq_true rfl) rfl (hsa) ?_
  refine xx_iload_n (q := 24) rfl rfl rfl ?_
  refine xx_iconst (q := 25) rfl rfl (by decide) ?_
  refine xx_iaddR (q := 26) rfl rfl (by omega) (by omega) ?_
  refine xx_iaz (q := 27) rfl rfl (sa_sh hsa2) (by omega) (by omega) (hs.2.2.2.1 (Nat.le_of_ble_eq_true rfl)) ?_
  refine xx_istore (q := 29) (loc2 := [_, _, _, _, _, _, _]) rfl rfl (Nat.le_of_ble_eq_true rfl) rfl ?_
  refine xx_aload_n (q := 30) rfl rfl rfl ?_
  refine xx_getR (q := 33) rfl rfl rfl xS_15 (Nat.le_of_ble_eq_true rfl) rfl (hsa) ?_
  refine xx_iload_n (q := 34) rfl rfl rfl ?_
  refine xx_iaz (q := 35) rfl rfl (sa_sh hsa2) (by omega) (by omega) hs.1 ?_
  refine xx_swK (q := 106) (zl := 323) (off := 71) rfl rfl (by decide) (by decide) rfl rfl ?_
  refine xx_aload_n (q := 107) rfl rfl rfl ?_
  refine xx_aload_n (q := 108) rfl rfl rfl ?_
  refine xx_getR (q := 111) rfl rfl rfl xS_15 (Nat.le_of_ble_eq_true rfl) rfl (hsa) ?_
  refine xx_iload_n (q := 112) rfl rfl rfl ?_
  refine xx_iconst (q := 113) rfl rfl (by decide) ?_
  refine xx_iaddR (q := 114) rfl rfl (by omega) (by omega) ?_
  refine xx_iaz (q := 115) rfl rfl (sa_sh hsa2) (by omega) (by omega) (hs.2.2.2.2 rfl) ?_
  refine xx_iload (q := 117) rfl rfl rfl ?_
  refine xx_iload_n (q := 118) rfl rfl rfl ?_
  refine xx_iload (q := 120) rfl rfl rfl ?_
  obtain ⟨D1, hx1, hK1, hG1⟩ := c_giveT (n := n) hR ht hK hI (LwH.fr hH Fr.rf hc) d b a c4
  have hF1 := Fr.rf.trans hG1
  have hI1 : KI (givT K Hh d b a c4) := givT_I hI
  refine xx_callV (q := 123) (As := [_, _, _, _]) (rest := []) rfl rfl rfl (Or.inl rfl) rfl rfl (Nat.le_of_ble_eq_true rfl) (xSc_0 hc) (XCm hx1 rfl) rfl ?_
  refine xx_istore (q := 125) (loc2 := [_, _, _, _, _, _, _]) rfl rfl (Nat.le_of_ble_eq_true rfl) rfl ?_
  refine xx_aload_n (q := 126) rfl rfl rfl ?_
  refine xx_dup (q := 127) rfl rfl ?_
  refine xx_gez (q := 130) rfl rfl rfl xS_15 (Nat.le_of_ble_eq_true rfl) rfl ((hF1 15 3 (by omega) (by omega) (by omega)).trans hg) ?_
  refine xx_iload (q := 132) rfl rfl rfl ?_
  refine xx_sipush (q := 135) rfl rfl (by decide) ?_
  refine xx_icmp_ne (q := 142) (q2 := 138) rfl rfl rfl (fun h135 => ?_) (fun h135 => ?_)
  · refine xx_iload_n (q := 143) rfl rfl rfl ?_
    refine xx_iadd (q := 144) rfl rfl ?_
    refine xx_puz (q := 147) rfl rfl rfl xS_15 (Nat.le_of_ble_eq_true rfl) (Nat.le_of_ble_eq_true rfl) (fun h => by cases h) (Or.inl rfl) rfl ?_
    refine xx_iload (q := 149) rfl rfl rfl ?_
    refine xx_sipush (q := 152) rfl rfl (by decide) ?_
    refine xx_icmp_ne (q := 159) (q2 := 155) rfl rfl rfl (fun _ => ?_) (fun h152 => (by exfalso; omega))
    refine xx_iconst (q := 160) rfl rfl (by decide) ?_
    refine xx_iret rfl trivial ⟨congrArg (fun z => some (Sum.inl z)) (by show _ = (if canF K d b a c4 then (0 : Int) else -1); exact (if_pos (Classical.not_not.mp (fun q => h135 (givR_n.mpr q)))).symm), _, rfl, ?_⟩
    have hcn : canF K d b a c4 := Classical.not_not.mp (fun q => h135 (givR_n.mpr q))
    have hi : (if canF K d b a c4 then a else (0 : Int)) = a := if_pos hcn
    exact ⟨CK_fr hK1 (fun o k ho => xui_a (by omega)), (hF1.fp).up (by decide), (xui_j (by decide)).trans ((hF1 15 2 (by omega) (by omega) (by omega)).trans hf), by show _ = nrm (g + (if canF K d b a c4 then a else (0 : Int))); rw [hi]; exact xui_s⟩
  · refine xx_iconst (q := 139) rfl rfl (by decide) ?_
    refine xx_goto (q := 143) rfl rfl ?_
    refine xx_iadd (q := 144) rfl rfl ?_
    refine xx_puz (q := 147) rfl rfl rfl xS_15 (Nat.le_of_ble_eq_true rfl) (Nat.le_of_ble_eq_true rfl) (fun h => by cases h) (Or.inl rfl) rfl ?_
    refine xx_iload (q := 149) rfl rfl rfl ?_
    refine xx_sipush (q := 152) rfl rfl (by decide) ?_
    refine xx_icmp_ne (q := 159) (q2 := 155) rfl rfl rfl (fun h152 => (by exfalso; omega)) (fun _ => ?_)
    refine xx_iconst (q := 156) rfl rfl (by decide) ?_
    refine xx_goto (q := 160) rfl rfl ?_
    refine xx_iret rfl trivial ⟨congrArg (fun z => some (Sum.inl z)) (by show _ = (if canF K d b a c4 then (0 : Int) else -1); exact (if_neg (givR_n.mp h135)).symm), _, rfl, ?_⟩
    have hcn : ¬ canF K d b a c4 := givR_n.mp h135
    have hi : (if canF K d b a c4 then a else (0 : Int)) = 0 := if_neg hcn
    exact ⟨CK_fr hK1 (fun o k ho => xui_a (by omega)), (hF1.fp).up (by decide), (xui_j (by decide)).trans ((hF1 15 2 (by omega) (by omega) (by omega)).trans hf), by show _ = nrm (g + (if canF K d b a c4 then a else (0 : Int))); rw [hi]; exact xui_s⟩
set_option maxHeartbeats 1000000 in
theorem c_stp1N {n sa : Nat} {R : Nat → Nat → Option Nat} {D K : KK} {bb : Int} {B : Nat → Int} {U : UU} (hR : RF R) (hW : NWd K bb B U D D) (hI : KI K) {G Hh : LwF} (hG : LwG G n R D) (hH : LwH Hh n R D) (hsa : R 15 4 = some sa) (hsa2 : sa = 16 ∨ sa = 17) (at5 f g a b c4 d : Int) (ha0 : 0 ≤ at5) (ha1 : at5 ≤ 145) (hs : StC sa at5 (1, a, b, c4, d) D) (hf : D 15 2 = f) (hg : D 15 3 = g) : ∃ D', XC 5 84 [.inr (some 15), .inr (some 27), .inl at5] (xS n, R, D) (some (.inl (stpW K G Hh (1, a, b, c4, d)))) (xS n, R, D') ∧ NZ (stpZ (K, bb, B, U) G Hh (1, a, b, c4, d)) D' D' ∧ FNP D D' ∧ D' 15 2 = stpF K G (1, a, b, c4, d) f ∧ D' 15 3 = stpG K (1, a, b, c4, d) g := by
  have hbL := ki_L hI
  have hn5 : (5 : Int) ≠ 0 := by decide
  refine XE_of (Nat.le_of_ble_eq_true rfl) (Nat.le_of_ble_eq_true rfl) (loc := [_, _, _, _, _, _, _]) rfl ?_
  refine xx_aload_n (q := 1) rfl rfl rfl ?_
  refine xx_getR (q := 4) rfl rfl rfl xS_15 (Nat.le_of_ble_eq_true rfl) rfl (hsa) ?_
  refine xx_iload_n (q := 5) rfl rfl rfl ?_
  refine xx_iconst (q := 6) rfl rfl (by decide) ?_
  refine xx_iaddR (q := 7) rfl rfl (by omega) (by omega) ?_
  refine xx_iaz (q := 8) rfl rfl (sa_sh hsa2) (by omega) (by omega) hs.2.1 ?_
  refine xx_istore_n (q := 9) (loc2 := [_, _, _, _, _, _, _]) rfl rfl (Nat.le_of_ble_eq_true rfl) rfl ?_
  refine xx_aload_n (q := 10) rfl rfl rfl ?_
  refine xx_getR (q := 13) rfl rfl rfl xS_15 (Nat.le_of_ble_eq_true rfl) rfl (hsa) ?_
  refine xx_iload_n (q := 14) rfl rfl rfl ?_
  refine xx_iconst (q := 15) rfl rfl (by decide) ?_
  refine xx_iaddR (q := 16) rfl rfl (by omega) (by omega) ?_
  refine xx_iaz (q := 17) rfl rfl (sa_sh hsa2) (by omega) (by omega) (hs.2.2.1 (Nat.le_of_ble_eq_true rfl)) ?_
  refine xx_istore (q := 19) (loc2 := [_, _, _, _, _, _, _]) rfl rfl (Nat.le_of_ble_eq_true rfl) rfl ?_
  refine xx_aload_n (q := 20) rfl rfl rfl ?_
  refine xx_getR (q := 23) rfl rfl rfl xS_15 (Nat.le_of_ble_eq_true rfl) rfl (hsa) ?_
  refine xx_iload_n (q := 24) rfl rfl rfl ?_
  refine xx_iconst (q := 25) rfl rfl (by decide) ?_
  refine xx_iaddR (q := 26) rfl rfl (by omega) (by omega) ?_
  refine xx_iaz (q := 27) rfl rfl (sa_sh hsa2) (by omega) (by omega) (hs.2.2.2.1 (Nat.le_of_ble_eq_true rfl)) ?_
  refine xx_istore (q := 29) (loc2 := [_, _, _, _, _, _, _]) rfl rfl (Nat.le_of_ble_eq_true rfl) rfl ?_
  refine xx_aload_n (q := 30) rfl rfl rfl ?_
  refine xx_getR (q := 33) rfl rfl rfl xS_15 (Nat.le_of_ble_eq_true rfl) rfl (hsa) ?_
  refine xx_iload_n (q := 34) rfl rfl rfl ?_
  refine xx_iaz (q := 35) rfl rfl (sa_sh hsa2) (by omega) (by omega) hs.1 ?_
  refine xx_swK (q := 106) (zl := 323) (off := 71) rfl rfl (by decide) (by decide) rfl rfl ?_
  refine xx_aload_n (q := 107) rfl rfl rfl ?_
  refine xx_aload_n (q := 108) rfl rfl rfl ?_
  refine xx_getR (q := 111) rfl rfl rfl xS_15 (Nat.le_of_ble_eq_true rfl) rfl (hsa) ?_
  refine xx_iload_n (q := 112) rfl rfl rfl ?_
  refine xx_iconst (q := 113) rfl rfl (by decide) ?_
  refine xx_iaddR (q := 114) rfl rfl (by omega) (by omega) ?_
  refine xx_iaz (q := 115) rfl rfl (sa_sh hsa2) (by omega) (by omega) (hs.2.2.2.2 rfl) ?_
  refine xx_iload (q := 117) rfl rfl rfl ?_
  refine xx_iload_n (q := 118) rfl rfl rfl ?_
  refine xx_iload (q := 120) rfl rfl rfl ?_
  obtain ⟨D1, hx1, hW1⟩ := c_giveN (n := n) hR hW hI hH d b a c4
  have hI1 : KI (givT K Hh d b a c4) := givT_I hI
  refine xx_callV (q := 123) (As := [_, _, _, _]) (rest := []) rfl rfl rfl (Or.inl rfl) rfl rfl (Nat.le_of_ble_eq_true rfl) (xSc_0 isC_27) (XCm hx1 rfl) rfl ?_
  refine xx_istore (q := 125) (loc2 := [_, _, _, _, _, _, _]) rfl rfl (Nat.le_of_ble_eq_true rfl) rfl ?_
  refine xx_aload_n (q := 126) rfl rfl rfl ?_
  refine xx_dup (q := 127) rfl rfl ?_
  refine xx_gez (q := 130) rfl rfl rfl xS_15 (Nat.le_of_ble_eq_true rfl) rfl ((hW1.2.2.2 15 3 (by omega) (by omega) (by omega)).trans hg) ?_
  refine xx_iload (q := 132) rfl rfl rfl ?_
  refine xx_sipush (q := 135) rfl rfl (by decide) ?_
  refine xx_icmp_ne (q := 142) (q2 := 138) rfl rfl rfl (fun h135 => ?_) (fun h135 => ?_)
  · refine xx_iload_n (q := 143) rfl rfl rfl ?_
    refine xx_iadd (q := 144) rfl rfl ?_
    refine xx_puz (q := 147) rfl rfl rfl xS_15 (Nat.le_of_ble_eq_true rfl) (Nat.le_of_ble_eq_true rfl) (fun h => by cases h) (Or.inl rfl) rfl ?_
    refine xx_iload (q := 149) rfl rfl rfl ?_
    refine xx_sipush (q := 152) rfl rfl (by decide) ?_
    refine xx_icmp_ne (q := 159) (q2 := 155) rfl rfl rfl (fun _ => ?_) (fun h152 => (by exfalso; omega))
    refine xx_iconst (q := 160) rfl rfl (by decide) ?_
    refine xx_iret rfl trivial ⟨congrArg (fun z => some (Sum.inl z)) (by show _ = (if canF K d b a c4 then (0 : Int) else -1); exact (if_pos (Classical.not_not.mp (fun q => h135 (givR_n.mpr q)))).symm), _, rfl, ?_⟩
    have hcn : canF K d b a c4 := Classical.not_not.mp (fun q => h135 (givR_n.mpr q))
    have hi : (if canF K d b a c4 then a else (0 : Int)) = a := if_pos hcn
    exact ⟨(hW1).up15, (hW1.2.2.2.fp).up (by decide), (xui_j (by decide)).trans ((hW1.2.2.2 15 2 (by omega) (by omega) (by omega)).trans hf), by show _ = nrm (g + (if canF K d b a c4 then a else (0 : Int))); rw [hi]; exact xui_s⟩
  · refine xx_iconst (q := 139) rfl rfl (by decide) ?_
    refine xx_goto (q := 143) rfl rfl ?_
    refine xx_iadd (q := 144) rfl rfl ?_
    refine xx_puz (q := 147) rfl rfl rfl xS_15 (Nat.le_of_ble_eq_true rfl) (Nat.le_of_ble_eq_true rfl) (fun h => by cases h) (Or.inl rfl) rfl ?_
    refine xx_iload (q := 149) rfl rfl rfl ?_
    refine xx_sipush (q := 152) rfl rfl (by decide) ?_
    refine xx_icmp_ne (q := 159) (q2 := 155) rfl rfl rfl (fun h152 => (by exfalso; omega)) (fun _ => ?_)
    refine xx_iconst (q := 156) rfl rfl (by decide) ?_
    refine xx_goto (q := 160) rfl rfl ?_
    refine xx_iret rfl trivial ⟨congrArg (fun z => some (Sum.inl z)) (by show _ = (if canF K d b a c4 then (0 : Int) else -1); exact (if_neg (givR_n.mp h135)).symm), _, rfl, ?_⟩
    have hcn : ¬ canF K d b a c4 := givR_n.mp h135
    have hi : (if canF K d b a c4 then a else (0 : Int)) = 0 := if_neg hcn
    exact ⟨(hW1).up15, (hW1.2.2.2.fp).up (by decide), (xui_j (by decide)).trans ((hW1.2.2.2 15 2 (by omega) (by omega) (by omega)).trans hf), by show _ = nrm (g + (if canF K d b a c4 then a else (0 : Int))); rw [hi]; exact xui_s⟩
set_option maxHeartbeats 1000000 in
theorem c_stp2T {n c sa : Nat} {R : Nat → Nat → Option Nat} {D K : KK} (hR : RF R) (ht : isT c) (hK : CK c K D) (hI : KI K) {G Hh : LwF} (hG : LwG G n R D) (hH : LwH Hh n R D) (hsa : R 15 4 = some sa) (hsa2 : sa = 16 ∨ sa = 17) (at5 f g a b c4 d : Int) (ha0 : 0 ≤ at5) (ha1 : at5 ≤ 145) (hs : StC sa at5 (2, a, b, c4, d) D) (hf : D 15 2 = f) (hg : D 15 3 = g) : ∃ D', XC 10 84 [.inr (some 15), .inr (some c), .inl at5] (xS n, R, D) (some (.inl (stpW K G Hh (2, a, b, c4, d)))) (xS n, R, D') ∧ CK c (stpT K G Hh (2, a, b, c4, d)) D' ∧ FP c D D' ∧ D' 15 2 = stpF K G (2, a, b, c4, d) f ∧ D' 15 3 = stpG K (2, a, b, c4, d) g := by
  have hc := isT_C ht
  have hn := isT_N ht
  have hcg := isC_gt hc
  have hbL := ki_L hI
  have hn5 : (5 : Int) ≠ 0 := by decide
  refine XE_of (Nat.le_of_ble_eq_true rfl) (Nat.le_of_ble_eq_true rfl) (loc := [_, _, _, _, _, _, _]) rfl ?_
  refine xx_aload_n (q := 1) rfl rfl rfl ?_
  refine xx_getR (q := 4) rfl rfl rfl xS_15 (Nat.le_of_ble_eq_true rfl) rfl (hsa) ?_
  refine xx_iload_n (q := 5) rfl rfl rfl ?_
  refine xx_iconst (q := 6) rfl rfl (by decide) ?_
  refine xx_iaddR (q := 7) rfl rfl (by omega) (by omega) ?_
  refine xx_iaz (q := 8) rfl rfl (sa_sh hsa2) (by omega) (by omega) hs.2.1 ?_
  refine xx_istore_n (q := 9) (loc2 := [_, _, _, _, _, _, _]) rfl rfl (Nat.le_of_ble_eq_true rfl) rfl ?_
  refine xx_aload_n (q := 10) rfl rfl rfl ?_
  refine xx_getR (q := 13) rfl rfl rfl xS_15 (Nat.le_of_ble_eq_true rfl) rfl (hsa) ?_
  refine xx_iload_n (q := 14) rfl rfl rfl ?_
  refine xx_iconst (q := 15) rfl rfl (by decide) ?_
  refine xx_iaddR (q := 16) rfl rfl (by omega) (by omega) ?_
  refine xx_iaz (q := 17) rfl rfl (sa_sh hsa2) (by omega) (by omega) (hs.2.2.1 (Nat.le_of_ble_eq_true rfl)) ?_
  refine xx_istore (q := 19) (loc2 := [_, _, _, _, _, _, _]) rfl rfl (Nat.le_of_ble_eq_true rfl) rfl ?_
  refine xx_aload_n (q := 20) rfl rfl rfl ?_
  refine xx_getR (q := 23) rfl rfl rfl xS_15 (Nat.le_of_ble_eq_true rfl) rfl (hsa) ?_
  refine xx_iload_n (q := 24) rfl rfl rfl ?_
  refine xx_iconst (q := 25) rfl rfl (by decide) ?_
  refine xx_iaddR (q := 26) rfl rfl (by omega) (by omega) ?_
  refine xx_iaz (q := 27) rfl rfl (sa_sh hsa2) (by omega) (by omega) rfl ?_
  refine xx_istore (q := 29) (loc2 := [_, _, _, _, _, _, _]) rfl rfl (Nat.le_of_ble_eq_true rfl) rfl ?_
  refine xx_aload_n (q := 30) rfl rfl rfl ?_
  refine xx_getR (q := 33) rfl rfl rfl xS_15 (Nat.le_of_ble_eq_true rfl) rfl (hsa) ?_
  refine xx_iload_n (q := 34) rfl rfl rfl ?_
  refine xx_iaz (q := 35) rfl rfl (sa_sh hsa2) (by omega) (by omega) hs.1 ?_
  refine xx_swK (q := 161) (zl := 324) (off := 126) rfl rfl (by decide) (by decide) rfl rfl ?_
  refine xx_aload_n (q := 162) rfl rfl rfl ?_
  refine xx_iload_n (q := 163) rfl rfl rfl ?_
  refine xx_iload (q := 165) rfl rfl rfl ?_
  obtain ⟨D1, hx1, hK1, hG1⟩ := c_pullT (n := n) hR ht hK hI a b
  have hF1 := Fr.rf.trans hG1
  have hI1 : KI (pulT K a b) := pulT_I hI
  refine xx_callV (q := 168) (As := [_, _]) (rest := []) rfl rfl rfl (Or.inl rfl) rfl rfl (Nat.le_of_ble_eq_true rfl) (xSc_0 hc) (XCm hx1 rfl) rfl ?_
  refine xx_istore (q := 170) (loc2 := [_, _, _, _, _, _, _]) rfl rfl (Nat.le_of_ble_eq_true rfl) rfl ?_
  refine xx_aload_n (q := 171) rfl rfl rfl ?_
  refine xx_dup (q := 172) rfl rfl ?_
  refine xx_gez (q := 175) rfl rfl rfl xS_15 (Nat.le_of_ble_eq_true rfl) rfl ((hF1 15 2 (by omega) (by omega) (by omega)).trans hf) ?_
  refine xx_iload (q := 177) rfl rfl rfl ?_
  refine xx_iconst (q := 178) rfl rfl (by decide) ?_
  refine xx_maxF (q := 181) rfl rfl rfl (Nat.le_of_ble_eq_true rfl) ?_
  have hb2 := mxF_sp (pulR K a b) 0
  refine xx_iadd (q := 182) rfl rfl ?_
  refine xx_puz (q := 185) rfl rfl rfl xS_15 (Nat.le_of_ble_eq_true rfl) (Nat.le_of_ble_eq_true rfl) (fun h => by cases h) (Or.inl rfl) rfl ?_
  refine xx_iload (q := 187) rfl rfl rfl ?_
  refine xx_iconst (q := 188) rfl rfl (by decide) ?_
  refine xx_minF (q := 191) rfl rfl rfl (Nat.le_of_ble_eq_true rfl) ?_
  have hb4 := mnF_sp (pulR K a b) 0
  refine xx_iret rfl trivial ⟨congrArg (fun z => some (Sum.inl z)) (by exact pulR_m), _, rfl, ?_⟩
  exact ⟨CK_fr hK1 (fun o k ho => xui_a (by omega)), (hF1.fp).up (by decide), xui_s, (xui_j (by decide)).trans ((hF1 15 3 (by omega) (by omega) (by omega)).trans hg)⟩
set_option maxHeartbeats 1000000 in
theorem c_stp2N {n sa : Nat} {R : Nat → Nat → Option Nat} {D K : KK} {bb : Int} {B : Nat → Int} {U : UU} (hR : RF R) (hW : NWd K bb B U D D) (hI : KI K) {G Hh : LwF} (hG : LwG G n R D) (hH : LwH Hh n R D) (hsa : R 15 4 = some sa) (hsa2 : sa = 16 ∨ sa = 17) (at5 f g a b c4 d : Int) (ha0 : 0 ≤ at5) (ha1 : at5 ≤ 145) (hs : StC sa at5 (2, a, b, c4, d) D) (hf : D 15 2 = f) (hg : D 15 3 = g) : ∃ D', XC 10 84 [.inr (some 15), .inr (some 27), .inl at5] (xS n, R, D) (some (.inl (stpW K G Hh (2, a, b, c4, d)))) (xS n, R, D') ∧ NZ (stpZ (K, bb, B, U) G Hh (2, a, b, c4, d)) D' D' ∧ FNP D D' ∧ D' 15 2 = stpF K G (2, a, b, c4, d) f ∧ D' 15 3 = stpG K (2, a, b, c4, d) g := by
  have hbL := ki_L hI
  have hn5 : (5 : Int) ≠ 0 := by decide
  refine XE_of (Nat.le_of_ble_eq_true rfl) (Nat.le_of_ble_eq_true rfl) (loc := [_, _, _, _, _, _, _]) rfl ?_
  refine xx_aload_n (q := 1) rfl rfl rfl ?_
  refine xx_getR (q := 4) rfl rfl rfl xS_15 (Nat.le_of_ble_eq_true rfl) rfl (hsa) ?_
  refine xx_iload_n (q := 5) rfl rfl rfl ?_
  refine xx_iconst (q := 6) rfl rfl (by decide) ?_
  refine xx_iaddR (q := 7) rfl rfl (by omega) (by omega) ?_
  refine xx_iaz (q := 8) rfl rfl (sa_sh hsa2) (by omega) (by omega) hs.2.1 ?_
  refine xx_istore_n (q := 9) (loc2 := [_, _, _, _, _, _, _]) rfl rfl (Nat.le_of_ble_eq_true rfl) rfl ?_
  refine xx_aload_n (q := 10) rfl rfl rfl ?_
  refine xx_getR (q := 13) rfl rfl rfl xS_15 (Nat.le_of_ble_eq_true rfl) rfl (hsa) ?_
  refine xx_iload_n (q := 14) rfl rfl rfl ?_
  refine xx_iconst (q := 15) rfl rfl (by decide) ?_
  refine xx_iaddR (q := 16) rfl rfl (by omega) (by omega) ?_
  refine xx_iaz (q := 17) rfl rfl (sa_sh hsa2) (by omega) (by omega) (hs.2.2.1 (Nat.le_of_ble_eq_true rfl)) ?_
  refine xx_istore (q := 19) (loc2 := [_, _, _, _, _, _, _]) rfl rfl (Nat.le_of_ble_eq_true rfl) rfl ?_
  refine xx_aload_n (q := 20) rfl rfl rfl ?_
  refine xx_getR (q := 23) rfl rfl rfl xS_15 (Nat.le_of_ble_eq_true rfl) rfl (hsa) ?_
  refine xx_iload_n (q := 24) rfl rfl rfl ?_
  refine xx_iconst (q := 25) rfl rfl (by decide) ?_
  refine xx_iaddR (q := 26) rfl rfl (by omega) (by omega) ?_
  refine xx_iaz (q := 27) rfl rfl (sa_sh hsa2) (by omega) (by omega) rfl ?_
  refine xx_istore (q := 29) (loc2 := [_, _, _, _, _, _, _]) rfl rfl (Nat.le_of_ble_eq_true rfl) rfl ?_
  refine xx_aload_n (q := 30) rfl rfl rfl ?_
  refine xx_getR (q := 33) rfl rfl rfl xS_15 (Nat.le_of_ble_eq_true rfl) rfl (hsa) ?_
  refine xx_iload_n (q := 34) rfl rfl rfl ?_
  refine xx_iaz (q := 35) rfl rfl (sa_sh hsa2) (by omega) (by omega) hs.1 ?_
  refine xx_swK (q := 161) (zl := 324) (off := 126) rfl rfl (by decide) (by decide) rfl rfl ?_
  refine xx_aload_n (q := 162) rfl rfl rfl ?_
  refine xx_iload_n (q := 163) rfl rfl rfl ?_
  refine xx_iload (q := 165) rfl rfl rfl ?_
  obtain ⟨D1, hx1, hW1⟩ := c_pullN (n := n) hR hW hI a b
  have hI1 : KI (pulT K a b) := pulT_I hI
  refine xx_callV (q := 168) (As := [_, _]) (rest := []) rfl rfl rfl (Or.inl rfl) rfl rfl (Nat.le_of_ble_eq_true rfl) (xSc_0 isC_27) (XCm hx1 rfl) rfl ?_
  refine xx_istore (q := 170) (loc2 := [_, _, _, _, _, _, _]) rfl rfl (Nat.le_of_ble_eq_true rfl) rfl ?_
  refine xx_aload_n (q := 171) rfl rfl rfl ?_
  refine xx_dup (q := 172) rfl rfl ?_
  refine xx_gez (q := 175) rfl rfl rfl xS_15 (Nat.le_of_ble_eq_true rfl) rfl ((hW1.2.2.2 15 2 (by omega) (by omega) (by omega)).trans hf) ?_
  refine xx_iload (q := 177) rfl rfl rfl ?_
  refine xx_iconst (q := 178) rfl rfl (by decide) ?_
  refine xx_maxF (q := 181) rfl rfl rfl (Nat.le_of_ble_eq_true rfl) ?_
  have hb2 := mxF_sp (pulR K a b) 0
  refine xx_iadd (q := 182) rfl rfl ?_
  refine xx_puz (q := 185) rfl rfl rfl xS_15 (Nat.le_of_ble_eq_true rfl) (Nat.le_of_ble_eq_true rfl) (fun h => by cases h) (Or.inl rfl) rfl ?_
  refine xx_iload (q := 187) rfl rfl rfl ?_
  refine xx_iconst (q := 188) rfl rfl (by decide) ?_
  refine xx_minF (q := 191) rfl rfl rfl (Nat.le_of_ble_eq_true rfl) ?_
  have hb4 := mnF_sp (pulR K a b) 0
  refine xx_iret rfl trivial ⟨congrArg (fun z => some (Sum.inl z)) (by exact pulR_m), _, rfl, ?_⟩
  exact ⟨(hW1).up15, (hW1.2.2.2.fp).up (by decide), xui_s, (xui_j (by decide)).trans ((hW1.2.2.2 15 3 (by omega) (by omega) (by omega)).trans hg)⟩
set_option maxHeartbeats 1000000 in
theorem c_stp3T {n c sa : Nat} {R : Nat → Nat → Option Nat} {D K : KK} (hR : RF R) (ht : isT c) (hK : CK c K D) (hI : KI K) {G Hh : LwF} (hG : LwG G n R D) (hH : LwH Hh n R D) (hsa : R 15 4 = some sa) (hsa2 : sa = 16 ∨ sa = 17) (at5 f g a b c4 d : Int) (ha0 : 0 ≤ at5) (ha1 : at5 ≤ 145) (hs : StC sa at5 (3, a, b, c4, d) D) (hf : D 15 2 = f) (hg : D 15 3 = g) : ∃ D', XC 8 84 [.inr (some 15), .inr (some c), .inl at5] (xS n, R, D) (some (.inl (stpW K G Hh (3, a, b, c4, d)))) (xS n, R, D') ∧ CK c (stpT K G Hh (3, a, b, c4, d)) D' ∧ FP c D D' ∧ D' 15 2 = stpF K G (3, a, b, c4, d) f ∧ D' 15 3 = stpG K (3, a, b, c4, d) g := by
  have hc := isT_C ht
  have hn := isT_N ht
  have hcg := isC_gt hc
  have hbL := ki_L hI
  have hn5 : (5 : Int) ≠ 0 := by decide
  refine XE_of (Nat.le_of_ble_eq_true rfl) (Nat.le_of_ble_eq_true rfl) (loc := [_, _, _, _, _, _, _]) rfl ?_
  refine xx_aload_n (q := 1) rfl rfl rfl ?_
  refine xx_getR (q := 4) rfl rfl rfl xS_15 (Nat.le_of_ble_eq_true rfl) rfl (hsa) ?_
  refine xx_iload_n (q := 5) rfl rfl rfl ?_
  refine xx_iconst (q := 6) rfl rfl (by decide) ?_
  refine xx_iaddR (q := 7) rfl rfl (by omega) (by omega) ?_
  refine xx_iaz (q := 8) rfl rfl (sa_sh hsa2) (by omega) (by omega) hs.2.1 ?_
  refine xx_istore_n (q := 9) (loc2 := [_, _, _, _, _, _, _]) rfl rfl (Nat.le_of_ble_eq_true rfl) rfl ?_
  refine xx_aload_n (q := 10) rfl rfl rfl ?_
  refine xx_getR (q := 13) rfl rfl rfl xS_15 (Nat.le_of_ble_eq_true rfl) rfl (hsa) ?_
  refine xx_iload_n (q := 14) rfl rfl rfl ?_
  refine xx_iconst (q := 15) rfl rfl (by decide) ?_
  refine xx_iaddR (q := 16) rfl rfl (by omega) (by omega) ?_
  refine xx_iaz (q := 17) rfl rfl (sa_sh hsa2) (by omega) (by omega) rfl ?_
  refine xx_istore (q := 19) (loc2 := [_, _, _, _, _, _, _]) rfl rfl (Nat.le_of_ble_eq_true rfl) rfl ?_
  refine xx_aload_n (q := 20) rfl rfl rfl ?_
  refine xx_getR (q := 23) rfl rfl rfl xS_15 (Nat.le_of_ble_eq_true rfl) rfl (hsa) ?_
  refine xx_iload_n (q := 24) rfl rfl rfl ?_
  refine xx_iconst (q := 25) rfl rfl (by decide) ?_
  refine xx_iaddR (q := 26) rfl rfl (by omega) (by omega) ?_
  refine xx_iaz (q := 27) rfl rfl (sa_sh hsa2) (by omega) (by omega) rfl ?_
  refine xx_istore (q := 29) (loc2 := [_, _, _, _, _, _, _]) rfl rfl (Nat.le_of_ble_eq_true rfl) rfl ?_
  refine xx_aload_n (q := 30) rfl rfl rfl ?_
  refine xx_getR (q := 33) rfl rfl rfl xS_15 (Nat.le_of_ble_eq_true rfl) rfl (hsa) ?_
  refine xx_iload_n (q := 34) rfl rfl rfl ?_
  refine xx_iaz (q := 35) rfl rfl (sa_sh hsa2) (by omega) (by omega) hs.1 ?_
  refine xx_swOut (q := 192) rfl (Or.inr (show (324 : Int) < 325 from by decide)) rfl ?_
  refine xx_aload_n (q := 193) rfl rfl rfl ?_
  refine xx_iload_n (q := 194) rfl rfl rfl ?_
  obtain ⟨D1, hx1, hK1, hG1⟩ := c_waitT (n := n) hR ht hK hI a
  have hF1 := Fr.rf.trans hG1
  have hI1 : KI (waiT K a) := waiT_I hI
  refine xx_callV (q := 197) (As := [_]) (rest := []) rfl rfl rfl (Or.inl rfl) rfl rfl (Nat.le_of_ble_eq_true rfl) (xSc_0 hc) (XCm hx1 rfl) rfl ?_
  refine xx_iconst (q := 198) rfl rfl (by decide) ?_
  refine xx_minF (q := 201) rfl rfl rfl (Nat.le_of_ble_eq_true rfl) ?_
  have hb2 := mnF_sp (bi (waiP K a) - 1) 0
  refine xx_iret rfl trivial ⟨congrArg (fun z => some (Sum.inl z)) (by exact waiT_m), _, rfl, ?_⟩
  exact ⟨hK1, hF1.fp, (hF1 15 2 (by omega) (by omega) (by omega)).trans hf, (hF1 15 3 (by omega) (by omega) (by omega)).trans hg⟩
set_option maxHeartbeats 1000000 in
theorem c_stp3N {n sa : Nat} {R : Nat → Nat → Option Nat} {D K : KK} {bb : Int} {B : Nat → Int} {U : UU} (hR : RF R) (hW : NWd K bb B U D D) (hI : KI K) {G Hh : LwF} (hG : LwG G n R D) (hH : LwH Hh n R D) (hsa : R 15 4 = some sa) (hsa2 : sa = 16 ∨ sa = 17) (at5 f g a b c4 d : Int) (ha0 : 0 ≤ at5) (ha1 : at5 ≤ 145) (hs : StC sa at5 (3, a, b, c4, d) D) (hf : D 15 2 = f) (hg : D 15 3 = g) : ∃ D', XC 8 84 [.inr (some 15), .inr (some 27), .inl at5] (xS n, R, D) (some (.inl (stpW K G Hh (3, a, b, c4, d)))) (xS n, R, D') ∧ NZ (stpZ (K, bb, B, U) G Hh (3, a, b, c4, d)) D' D' ∧ FNP D D' ∧ D' 15 2 = stpF K G (3, a, b, c4, d) f ∧ D' 15 3 = stpG K (3, a, b, c4, d) g := by
  have hbL := ki_L hI
  have hn5 : (5 : Int) ≠ 0 := by decide
  refine XE_of (Nat.le_of_ble_eq_true rfl) (Nat.le_of_ble_eq_true rfl) (loc := [_, _, _, _, _, _, _]) rfl ?_
  refine xx_aload_n (q := 1) rfl rfl rfl ?_
  refine xx_getR (q := 4) rfl rfl rfl xS_15 (Nat.le_of_ble_eq_true rfl) rfl (hsa) ?_
  refine xx_iload_n (q := 5) rfl rfl rfl ?_
  refine xx_iconst (q := 6) rfl rfl (by decide) ?_
  refine xx_iaddR (q := 7) rfl rfl (by omega) (by omega) ?_
  refine xx_iaz (q := 8) rfl rfl (sa_sh hsa2) (by omega) (by omega) hs.2.1 ?_
  refine xx_istore_n (q := 9) (loc2 := [_, _, _, _, _, _, _]) rfl rfl (Nat.le_of_ble_eq_true rfl) rfl ?_
  refine xx_aload_n (q := 10) rfl rfl rfl ?_
  refine xx_getR (q := 13) rfl rfl rfl xS_15 (Nat.le_of_ble_eq_true rfl) rfl (hsa) ?_
  refine xx_iload_n (q := 14) rfl rfl rfl ?_
  refine xx_iconst (q := 15) rfl rfl (by decide) ?_
  refine xx_iaddR (q := 16) rfl rfl (by omega) (by omega) ?_
  refine xx_iaz (q := 17) rfl rfl (sa_sh hsa2) (by omega) (by omega) rfl ?_
  refine xx_istore (q := 19) (loc2 := [_, _, _, _, _, _, _]) rfl rfl (Nat.le_of_ble_eq_true rfl) rfl ?_
  refine xx_aload_n (q := 20) rfl rfl rfl ?_
  refine xx_getR (q := 23) rfl rfl rfl xS_15 (Nat.le_of_ble_eq_true rfl) rfl (hsa) ?_
  refine xx_iload_n (q := 24) rfl rfl rfl ?_
  refine xx_iconst (q := 25) rfl rfl (by decide) ?_
  refine xx_iaddR (q := 26) rfl rfl (by omega) (by omega) ?_
  refine xx_iaz (q := 27) rfl rfl (sa_sh hsa2) (by omega) (by omega) rfl ?_
  refine xx_istore (q := 29) (loc2 := [_, _, _, _, _, _, _]) rfl rfl (Nat.le_of_ble_eq_true rfl) rfl ?_
  refine xx_aload_n (q := 30) rfl rfl rfl ?_
  refine xx_getR (q := 33) rfl rfl rfl xS_15 (Nat.le_of_ble_eq_true rfl) rfl (hsa) ?_
  refine xx_iload_n (q := 34) rfl rfl rfl ?_
  refine xx_iaz (q := 35) rfl rfl (sa_sh hsa2) (by omega) (by omega) hs.1 ?_
  refine xx_swOut (q := 192) rfl (Or.inr (show (324 : Int) < 325 from by decide)) rfl ?_
  refine xx_aload_n (q := 193) rfl rfl rfl ?_
  refine xx_iload_n (q := 194) rfl rfl rfl ?_
  obtain ⟨D1, hx1, hW1⟩ := c_waitN (n := n) hR hW hI a
  have hI1 : KI ((waiZ (K, bb, B, U) a).1) := waiZ_I hI
  refine xx_callV (q := 197) (As := [_]) (rest := []) rfl rfl rfl (Or.inl rfl) rfl rfl (Nat.le_of_ble_eq_true rfl) (xSc_0 isC_27) (XCm hx1 rfl) rfl ?_
  refine xx_iconst (q := 198) rfl rfl (by decide) ?_
  refine xx_minF (q := 201) rfl rfl rfl (Nat.le_of_ble_eq_true rfl) ?_
  have hb2 := mnF_sp (waiR (K, bb, B, U) a) 0
  refine xx_iret rfl trivial ⟨congrArg (fun z => some (Sum.inl z)) (by exact waiR_m), _, rfl, ?_⟩
  exact ⟨hW1.me, hW1.2.2.2.fp, (hW1.2.2.2 15 2 (by omega) (by omega) (by omega)).trans hf, (hW1.2.2.2 15 3 (by omega) (by omega) (by omega)).trans hg⟩
