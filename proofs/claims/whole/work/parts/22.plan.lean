/-! The plan is carried out, step by step. -/
def carT (G Hh : LwF) : List PSt → KK → Int → Int → Int → Int × Int × Int × Int × KK
  | [], K, i, f, g => (i, 0, f, g, K)
  | s :: ss, K, i, f, g => if stpW K G Hh s = 0 then carT G Hh ss (stpT K G Hh s) (i + 1) (stpF K G s f) (stpG K s g) else (i, stpW K G Hh s, stpF K G s f, stpG K s g, stpT K G Hh s)
def carZ (G Hh : LwF) : List PSt → ZZ → Int → Int → Int → Int × Int × Int × Int × ZZ
  | [], Z, i, f, g => (i, 0, f, g, Z)
  | s :: ss, Z, i, f, g => if stpW Z.1 G Hh s = 0 then carZ G Hh ss (stpZ Z G Hh s) (i + 1) (stpF Z.1 G s f) (stpG Z.1 s g) else (i, stpW Z.1 G Hh s, stpF Z.1 G s f, stpG Z.1 s g, stpZ Z G Hh s)
theorem carT_I {G Hh : LwF} : ∀ (P : List PSt) (K : KK) (i f g : Int), KI K → KI (carT G Hh P K i f g).2.2.2.2
  | [], K, i, f, g, h => h
  | s :: ss, K, i, f, g, h => by
    unfold carT
    split
    · exact carT_I ss _ _ _ _ (stpT_I h)
    · exact stpT_I h
theorem carZ_I {G Hh : LwF} : ∀ (P : List PSt) (Z : ZZ) (i f g : Int), KI Z.1 → KI (carZ G Hh P Z i f g).2.2.2.2.1
  | [], K, i, f, g, h => h
  | s :: ss, K, i, f, g, h => by
    unfold carZ
    split
    · exact carZ_I ss _ _ _ _ (stpZ_I h)
    · exact stpZ_I h
theorem StC.fr {r : Nat} {a : Int} {s : PSt} {D E : KK} (h : StC r a s D) (g : ∀ k, E r k = D r k) : StC r a s E := ⟨(g _).trans h.1, (g _).trans h.2.1, fun q => (g _).trans (h.2.2.1 q), fun q => (g _).trans (h.2.2.2.1 q), fun q => (g _).trans (h.2.2.2.2 q)⟩
def PlC (sa : Nat) (P : List PSt) (D : KK) : Prop := D 15 0 = (P.length : Int) ∧ P.length ≤ 30 ∧ ∀ (j : Nat) (s : PSt), P[j]? = some s → s.1 ≤ 3 ∧ StC sa ((j : Int) * 5) s D
theorem PlC.fr {sa : Nat} {P : List PSt} {D E : KK} (h : PlC sa P D) (g0 : E 15 0 = D 15 0) (g : ∀ k, E sa k = D sa k) : PlC sa P E := ⟨g0.trans h.1, h.2.1, fun j s hs => ⟨(h.2.2 j s hs).1, (h.2.2 j s hs).2.fr g⟩⟩
theorem sa_ne {sa : Nat} (h : sa = 16 ∨ sa = 17) : 15 < sa ∧ sa < 18 := by omega
theorem c_stpT {n c sa : Nat} {R : Nat → Nat → Option Nat} {D K : KK} (hR : RF R) (ht : isT c) (hK : CK c K D) (hI : KI K) {G Hh : LwF} (hG : LwG G n R D) (hH : LwH Hh n R D) (hsa : R 15 4 = some sa) (hsa2 : sa = 16 ∨ sa = 17) (at5 f g : Int) (s : PSt) (hs3 : s.1 ≤ 3) (ha0 : 0 ≤ at5) (ha1 : at5 ≤ 145) (hs : StC sa at5 s D) (hf : D 15 2 = f) (hg : D 15 3 = g) : ∃ D', XC 10 84 [.inr (some 15), .inr (some c), .inl at5] (xS n, R, D) (some (.inl (stpW K G Hh s))) (xS n, R, D') ∧ CK c (stpT K G Hh s) D' ∧ FP c D D' ∧ D' 15 2 = stpF K G s f ∧ D' 15 3 = stpG K s g := by
  obtain ⟨w, a, b, c4, d⟩ := s
  have e : w = 0 ∨ w = 1 ∨ w = 2 ∨ w = 3 := by have h3 : w ≤ 3 := hs3; omega
  rcases e with rfl | rfl | rfl | rfl
  · obtain ⟨D', h1, h2⟩ := c_stp0T hR ht hK hI hG hH hsa hsa2 at5 f g a b c4 d ha0 ha1 hs hf hg
    exact ⟨D', XCm h1 rfl, h2⟩
  · obtain ⟨D', h1, h2⟩ := c_stp1T hR ht hK hI hG hH hsa hsa2 at5 f g a b c4 d ha0 ha1 hs hf hg
    exact ⟨D', XCm h1 rfl, h2⟩
  · obtain ⟨D', h1, h2⟩ := c_stp2T hR ht hK hI hG hH hsa hsa2 at5 f g a b c4 d ha0 ha1 hs hf hg
    exact ⟨D', XCm h1 rfl, h2⟩
  · obtain ⟨D', h1, h2⟩ := c_stp3T hR ht hK hI hG hH hsa hsa2 at5 f g a b c4 d ha0 ha1 hs hf hg
    exact ⟨D', XCm h1 rfl, h2⟩
theorem c_stpN {n sa : Nat} {R : Nat → Nat → Option Nat} {D K : KK} {bb : Int} {B : Nat → Int} {U : UU} (hR : RF R) (hW : NWd K bb B U D D) (hI : KI K) {G Hh : LwF} (hG : LwG G n R D) (hH : LwH Hh n R D) (hsa : R 15 4 = some sa) (hsa2 : sa = 16 ∨ sa = 17) (at5 f g : Int) (s : PSt) (hs3 : s.1 ≤ 3) (ha0 : 0 ≤ at5) (ha1 : at5 ≤ 145) (hs : StC sa at5 s D) (hf : D 15 2 = f) (hg : D 15 3 = g) : ∃ D', XC 10 84 [.inr (some 15), .inr (some 27), .inl at5] (xS n, R, D) (some (.inl (stpW K G Hh s))) (xS n, R, D') ∧ NZ (stpZ (K, bb, B, U) G Hh s) D' D' ∧ FNP D D' ∧ D' 15 2 = stpF K G s f ∧ D' 15 3 = stpG K s g := by
  obtain ⟨w, a, b, c4, d⟩ := s
  have e : w = 0 ∨ w = 1 ∨ w = 2 ∨ w = 3 := by have h3 : w ≤ 3 := hs3; omega
  rcases e with rfl | rfl | rfl | rfl
  · obtain ⟨D', h1, h2⟩ := c_stp0N hR hW hI hG hH hsa hsa2 at5 f g a b c4 d ha0 ha1 hs hf hg
    exact ⟨D', XCm h1 rfl, h2⟩
  · obtain ⟨D', h1, h2⟩ := c_stp1N hR hW hI hG hH hsa hsa2 at5 f g a b c4 d ha0 ha1 hs hf hg
    exact ⟨D', XCm h1 rfl, h2⟩
  · obtain ⟨D', h1, h2⟩ := c_stp2N hR hW hI hG hH hsa hsa2 at5 f g a b c4 d ha0 ha1 hs hf hg
    exact ⟨D', XCm h1 rfl, h2⟩
  · obtain ⟨D', h1, h2⟩ := c_stp3N hR hW hI hG hH hsa hsa2 at5 f g a b c4 d ha0 ha1 hs hf hg
    exact ⟨D', XCm h1 rfl, h2⟩
set_option maxHeartbeats 1000000 in
theorem c_car_T {n c sa : Nat} {R : Nat → Nat → Option Nat} {D0 : KK} (hR : RF R) (ht : isT c) {G Hh : LwF} (hsa : R 15 4 = some sa) (hsa2 : sa = 16 ∨ sa = 17) (P : List PSt) : ∀ (k : Nat) (K D : KK) (j : Nat) (f g : Int), CK c K D → KI K → LwG G n R D → LwH Hh n R D → PlC sa P D → FP c D0 D → D 15 1 = 0 → D 15 2 = f → D 15 3 = g → j + k = P.length → XX (XC 10) 83 (XP (some (.inl (carT G Hh (P.drop j) K j f g).1)) (xS n) R (fun D' => CK c (carT G Hh (P.drop j) K j f g).2.2.2.2 D' ∧ FP c D0 D' ∧ D' 15 1 = (carT G Hh (P.drop j) K j f g).2.1 ∧ D' 15 2 = (carT G Hh (P.drop j) K j f g).2.2.1 ∧ D' 15 3 = (carT G Hh (P.drop j) K j f g).2.2.2.1)) 17 [some (.inr (some 15)), some (.inr (some c)), some (.inl (j : Int))] [] (xS n, R, D) := by
  intro k
  induction k using Nat.strongRecOn with
  | ind k ih =>
  intro K D j f g hK hI hG hH hP hF h1 h2 h3 hk
  have hs15 := sa_ne hsa2
  have hP30 := hP.2.1
  have hc := isT_C ht
  have hcg := isC_gt hc
  have hcg2 := isT_ge ht
  refine xx_iload_n (q := 18) rfl rfl rfl ?_
  refine xx_aload_n (q := 19) rfl rfl rfl ?_
  refine xx_gez (q := 22) rfl rfl rfl xS_15 (Nat.le_of_ble_eq_true rfl) rfl hP.1 ?_
  refine xx_icmp_ge (q := 52) (q2 := 25) rfl rfl rfl (fun h22 => ?_) (fun h22 => ?_)
  · refine xx_aload_n (q := 53) rfl rfl rfl ?_
    refine xx_gez (q := 56) rfl rfl rfl xS_15 (Nat.le_of_ble_eq_true rfl) rfl hP.1 ?_
    obtain rfl : k = 0 := by omega
    have e : P.drop j = [] := List.drop_eq_nil_of_le (by omega)
    rw [e]
    have hj : (P.length : Int) = (j : Int) := by omega
    rw [hj]
    exact xx_iret rfl trivial ⟨rfl, _, rfl, hK, hF, h1, h2, h3⟩
  · obtain ⟨k, rfl⟩ : ∃ k2, k = k2 + 1 := ⟨k - 1, by omega⟩
    have hj : j < P.length := by omega
    obtain ⟨s, hsj⟩ : ∃ s, P[j]? = some s := ⟨P[j], List.getElem?_eq_getElem hj⟩
    have hs := hP.2.2 j s hsj
    have hdr : P.drop j = s :: P.drop (j + 1) := by rw [List.drop_eq_getElem_cons hj]; congr 1; exact Option.some.inj ((List.getElem?_eq_getElem hj).symm.trans hsj)
    have hcar : carT G Hh (P.drop j) K j f g = if stpW K G Hh s = 0 then carT G Hh (P.drop (j + 1)) (stpT K G Hh s) (j + 1) (stpF K G s f) (stpG K s g) else ((j : Int), stpW K G Hh s, stpF K G s f, stpG K s g, stpT K G Hh s) := by rw [hdr]; rfl
    subst h2
    subst h3
    refine xx_aload_n (q := 26) rfl rfl rfl ?_
    refine xx_aload_n (q := 27) rfl rfl rfl ?_
    refine xx_aload_n (q := 28) rfl rfl rfl ?_
    refine xx_iload_n (q := 29) rfl rfl rfl ?_
    refine xx_iconst (q := 30) rfl rfl (by decide) ?_
    refine xx_imulR (q := 31) rfl rfl (by omega) (by omega) ?_
    obtain ⟨D1, hx1, hK1, hF1, hf1, hg1⟩ := c_stpT (n := n) hR ht hK hI hG hH hsa hsa2 ((j : Int) * 5) _ _ s hs.1 (by omega) (by omega) hs.2 rfl rfl
    refine xx_callV (q := 34) (As := [_, _]) (rest := [_]) rfl rfl rfl (Or.inl rfl) rfl rfl (Nat.le_of_ble_eq_true rfl) xS_15 (XCm hx1 rfl) rfl ?_
    refine xx_puz (q := 37) rfl rfl rfl xS_15 (Nat.le_of_ble_eq_true rfl) (Nat.le_of_ble_eq_true rfl) (fun h => by cases h) (Or.inl rfl) rfl ?_
    refine xx_aload_n (q := 38) rfl rfl rfl ?_
    refine xx_gez (q := 41) rfl rfl rfl xS_15 (Nat.le_of_ble_eq_true rfl) rfl xui_s ?_
    refine xx_if_eq (q := 46) (q2 := 44) rfl rfl rfl (fun h41 => ?_) (fun h41 => ?_)
    · refine xx_incz (q := 49) (loc2 := [_, _, _]) rfl rfl rfl (by omega) (by omega) rfl rfl ?_
      refine xx_goto (q := 17) rfl rfl ?_
      rw [hcar, if_pos h41]
      have hji : (j : Int) + 1 = ((j + 1 : Nat) : Int) := by omega
      rw [hji]
      exact ih k (by omega) _ _ (j + 1) _ _ (CK_fr hK1 (fun o k ho => xui_a (by omega))) (stpT_I hI) (LawS.fr hG (fun x y q1 q2 => (xui_a (by omega)).trans (hF1 x y (by omega) (by omega) (by omega) (by omega)))) (LawS.fr hH (fun x y q1 q2 => (xui_a (by omega)).trans (hF1 x y (by omega) (by omega) (by omega) (by omega)))) (hP.fr ((xui_j (by decide)).trans (hF1 15 0 (by omega) (by omega) (by omega) (fun _ => rfl))) (fun y => (xui_a (by omega)).trans (hF1 sa y (by omega) (by omega) (by omega) (by omega)))) ((hF.trans hF1).up (by decide)) (xui_s.trans h41) ((xui_j (by decide)).trans hf1) ((xui_j (by decide)).trans hg1) (by omega)
    · refine xx_iload_n (q := 45) rfl rfl rfl ?_
      rw [hcar, if_neg h41]
      exact xx_iret rfl trivial ⟨rfl, _, rfl, CK_fr hK1 (fun o k ho => xui_a (by omega)), (hF.trans hF1).up (by decide), xui_s, (xui_j (by decide)).trans hf1, (xui_j (by decide)).trans hg1⟩
set_option maxHeartbeats 1000000 in
theorem c_car_N {n sa : Nat} {R : Nat → Nat → Option Nat} {D0 : KK} (hR : RF R) {G Hh : LwF} (hsa : R 15 4 = some sa) (hsa2 : sa = 16 ∨ sa = 17) (P : List PSt) : ∀ (k : Nat) (K D : KK) (bb : Int) (B : Nat → Int) (U : UU) (j : Nat) (f g : Int), NWd K bb B U D D → KI K → LwG G n R D → LwH Hh n R D → PlC sa P D → FNP D0 D → D 15 1 = 0 → D 15 2 = f → D 15 3 = g → j + k = P.length → XX (XC 10) 83 (XP (some (.inl (carZ G Hh (P.drop j) (K, bb, B, U) j f g).1)) (xS n) R (fun D' => NZ (carZ G Hh (P.drop j) (K, bb, B, U) j f g).2.2.2.2 D' D' ∧ FNP D0 D' ∧ D' 15 1 = (carZ G Hh (P.drop j) (K, bb, B, U) j f g).2.1 ∧ D' 15 2 = (carZ G Hh (P.drop j) (K, bb, B, U) j f g).2.2.1 ∧ D' 15 3 = (carZ G Hh (P.drop j) (K, bb, B, U) j f g).2.2.2.1)) 17 [some (.inr (some 15)), some (.inr (some 27)), some (.inl (j : Int))] [] (xS n, R, D) := by
  intro k
  induction k using Nat.strongRecOn with
  | ind k ih =>
  intro K D bb B U j f g hW hI hG hH hP hF h1 h2 h3 hk
  have hs15 := sa_ne hsa2
  have hP30 := hP.2.1
  refine xx_iload_n (q := 18) rfl rfl rfl ?_
  refine xx_aload_n (q := 19) rfl rfl rfl ?_
  refine xx_gez (q := 22) rfl rfl rfl xS_15 (Nat.le_of_ble_eq_true rfl) rfl hP.1 ?_
  refine xx_icmp_ge (q := 52) (q2 := 25) rfl rfl rfl (fun h22 => ?_) (fun h22 => ?_)
  · refine xx_aload_n (q := 53) rfl rfl rfl ?_
    refine xx_gez (q := 56) rfl rfl rfl xS_15 (Nat.le_of_ble_eq_true rfl) rfl hP.1 ?_
    obtain rfl : k = 0 := by omega
    have e : P.drop j = [] := List.drop_eq_nil_of_le (by omega)
    rw [e]
    have hj : (P.length : Int) = (j : Int) := by omega
    rw [hj]
    exact xx_iret rfl trivial ⟨rfl, _, rfl, hW, hF, h1, h2, h3⟩
  · obtain ⟨k, rfl⟩ : ∃ k2, k = k2 + 1 := ⟨k - 1, by omega⟩
    have hj : j < P.length := by omega
    obtain ⟨s, hsj⟩ : ∃ s, P[j]? = some s := ⟨P[j], List.getElem?_eq_getElem hj⟩
    have hs := hP.2.2 j s hsj
    have hdr : P.drop j = s :: P.drop (j + 1) := by rw [List.drop_eq_getElem_cons hj]; congr 1; exact Option.some.inj ((List.getElem?_eq_getElem hj).symm.trans hsj)
    have hcar : carZ G Hh (P.drop j) (K, bb, B, U) j f g = if stpW K G Hh s = 0 then carZ G Hh (P.drop (j + 1)) (stpZ (K, bb, B, U) G Hh s) (j + 1) (stpF K G s f) (stpG K s g) else ((j : Int), stpW K G Hh s, stpF K G s f, stpG K s g, stpZ (K, bb, B, U) G Hh s) := by rw [hdr]; rfl
    subst h2
    subst h3
    refine xx_aload_n (q := 26) rfl rfl rfl ?_
    refine xx_aload_n (q := 27) rfl rfl rfl ?_
    refine xx_aload_n (q := 28) rfl rfl rfl ?_
    refine xx_iload_n (q := 29) rfl rfl rfl ?_
    refine xx_iconst (q := 30) rfl rfl (by decide) ?_
    refine xx_imulR (q := 31) rfl rfl (by omega) (by omega) ?_
    obtain ⟨D1, hx1, hW1, hF1, hf1, hg1⟩ := c_stpN (n := n) hR hW hI hG hH hsa hsa2 ((j : Int) * 5) _ _ s hs.1 (by omega) (by omega) hs.2 rfl rfl
    refine xx_callV (q := 34) (As := [_, _]) (rest := [_]) rfl rfl rfl (Or.inl rfl) rfl rfl (Nat.le_of_ble_eq_true rfl) xS_15 (XCm hx1 rfl) rfl ?_
    refine xx_puz (q := 37) rfl rfl rfl xS_15 (Nat.le_of_ble_eq_true rfl) (Nat.le_of_ble_eq_true rfl) (fun h => by cases h) (Or.inl rfl) rfl ?_
    refine xx_aload_n (q := 38) rfl rfl rfl ?_
    refine xx_gez (q := 41) rfl rfl rfl xS_15 (Nat.le_of_ble_eq_true rfl) rfl xui_s ?_
    refine xx_if_eq (q := 46) (q2 := 44) rfl rfl rfl (fun h41 => ?_) (fun h41 => ?_)
    · refine xx_incz (q := 49) (loc2 := [_, _, _]) rfl rfl rfl (by omega) (by omega) rfl rfl ?_
      refine xx_goto (q := 17) rfl rfl ?_
      rw [hcar, if_pos h41]
      have hji : (j : Int) + 1 = ((j + 1 : Nat) : Int) := by omega
      rw [hji]
      exact ih k (by omega) _ _ _ _ _ (j + 1) _ _ (hW1.up15) (stpZ_I (Z := (K, bb, B, U)) hI) (LawS.fr hG (fun x y q1 q2 => (xui_a (by omega)).trans (hF1 x y (by omega) (by omega) (by omega) (by omega)))) (LawS.fr hH (fun x y q1 q2 => (xui_a (by omega)).trans (hF1 x y (by omega) (by omega) (by omega) (by omega)))) (hP.fr ((xui_j (by decide)).trans (hF1 15 0 (by omega) (by omega) (by omega) (fun _ => rfl))) (fun y => (xui_a (by omega)).trans (hF1 sa y (by omega) (by omega) (by omega) (by omega)))) ((hF.trans hF1).up (by decide)) (xui_s.trans h41) ((xui_j (by decide)).trans hf1) ((xui_j (by decide)).trans hg1) (by omega)
    · refine xx_iload_n (q := 45) rfl rfl rfl ?_
      rw [hcar, if_neg h41]
      exact xx_iret rfl trivial ⟨rfl, _, rfl, hW1.up15, (hF.trans hF1).up (by decide), xui_s, (xui_j (by decide)).trans hf1, (xui_j (by decide)).trans hg1⟩
set_option maxHeartbeats 1000000 in
theorem c_carryT {n c sa : Nat} {R : Nat → Nat → Option Nat} {D K : KK} (hR : RF R) (ht : isT c) (hK : CK c K D) (hI : KI K) {G Hh : LwF} (hG : LwG G n R D) (hH : LwH Hh n R D) (hsa : R 15 4 = some sa) (hsa2 : sa = 16 ∨ sa = 17) (P : List PSt) (hP : PlC sa P D) : ∃ D', XC 11 83 [.inr (some 15), .inr (some c)] (xS n, R, D) (some (.inl ((carT G Hh P K 0 0 0).1))) (xS n, R, D') ∧ CK c (carT G Hh P K 0 0 0).2.2.2.2 D' ∧ FP c D D' ∧ D' 15 1 = (carT G Hh P K 0 0 0).2.1 ∧ D' 15 2 = (carT G Hh P K 0 0 0).2.2.1 ∧ D' 15 3 = (carT G Hh P K 0 0 0).2.2.2.1 := by
  have hs15 := sa_ne hsa2
  have hc := isT_C ht
  have hcg := isC_gt hc
  refine XE_of (Nat.le_of_ble_eq_true rfl) (Nat.le_of_ble_eq_true rfl) (loc := [_, _, _]) rfl ?_
  refine xx_aload_n (q := 1) rfl rfl rfl ?_
  refine xx_iconst (q := 2) rfl rfl (by decide) ?_
  refine xx_puz (q := 5) rfl rfl rfl xS_15 (Nat.le_of_ble_eq_true rfl) (Nat.le_of_ble_eq_true rfl) (fun h => by cases h) (Or.inl rfl) rfl ?_
  refine xx_aload_n (q := 6) rfl rfl rfl ?_
  refine xx_iconst (q := 7) rfl rfl (by decide) ?_
  refine xx_puz (q := 10) rfl rfl rfl xS_15 (Nat.le_of_ble_eq_true rfl) (Nat.le_of_ble_eq_true rfl) (fun h => by cases h) (Or.inl rfl) rfl ?_
  refine xx_aload_n (q := 11) rfl rfl rfl ?_
  refine xx_iconst (q := 12) rfl rfl (by decide) ?_
  refine xx_puz (q := 15) rfl rfl rfl xS_15 (Nat.le_of_ble_eq_true rfl) (Nat.le_of_ble_eq_true rfl) (fun h => by cases h) (Or.inl rfl) rfl ?_
  refine xx_iconst (q := 16) rfl rfl (by decide) ?_
  refine xx_istore_n (q := 17) (loc2 := [_, _, _]) rfl rfl (Nat.le_of_ble_eq_true rfl) rfl ?_
  exact c_car_T hR ht hsa hsa2 P P.length K _ 0 0 0 (CK_fr hK (fun o k ho => (xui_a (by omega)).trans ((xui_a (by omega)).trans (xui_a (by omega))))) hI (LawS.fr hG (fun x y q1 q2 => (xui_a (by omega)).trans ((xui_a (by omega)).trans (xui_a (by omega))))) (LawS.fr hH (fun x y q1 q2 => (xui_a (by omega)).trans ((xui_a (by omega)).trans (xui_a (by omega))))) (hP.fr rfl (fun y => (xui_a (by omega)).trans ((xui_a (by omega)).trans (xui_a (by omega))))) (((Fr.rf.fp).up (by decide)).up (by decide) |>.up (by decide)) rfl rfl rfl (by omega)
set_option maxHeartbeats 1000000 in
theorem c_carryN {n sa : Nat} {R : Nat → Nat → Option Nat} {D K : KK} {bb : Int} {B : Nat → Int} {U : UU} (hR : RF R) (hW : NWd K bb B U D D) (hI : KI K) {G Hh : LwF} (hG : LwG G n R D) (hH : LwH Hh n R D) (hsa : R 15 4 = some sa) (hsa2 : sa = 16 ∨ sa = 17) (P : List PSt) (hP : PlC sa P D) : ∃ D', XC 11 83 [.inr (some 15), .inr (some 27)] (xS n, R, D) (some (.inl ((carZ G Hh P (K, bb, B, U) 0 0 0).1))) (xS n, R, D') ∧ NZ (carZ G Hh P (K, bb, B, U) 0 0 0).2.2.2.2 D' D' ∧ FNP D D' ∧ D' 15 1 = (carZ G Hh P (K, bb, B, U) 0 0 0).2.1 ∧ D' 15 2 = (carZ G Hh P (K, bb, B, U) 0 0 0).2.2.1 ∧ D' 15 3 = (carZ G Hh P (K, bb, B, U) 0 0 0).2.2.2.1 := by
  have hs15 := sa_ne hsa2
  refine XE_of (Nat.le_of_ble_eq_true rfl) (Nat.le_of_ble_eq_true rfl) (loc := [_, _, _]) rfl ?_
  refine xx_aload_n (q := 1) rfl rfl rfl ?_
  refine xx_iconst (q := 2) rfl rfl (by decide) ?_
  refine xx_puz (q := 5) rfl rfl rfl xS_15 (Nat.le_of_ble_eq_true rfl) (Nat.le_of_ble_eq_true rfl) (fun h => by cases h) (Or.inl rfl) rfl ?_
  refine xx_aload_n (q := 6) rfl rfl rfl ?_
  refine xx_iconst (q := 7) rfl rfl (by decide) ?_
  refine xx_puz (q := 10) rfl rfl rfl xS_15 (Nat.le_of_ble_eq_true rfl) (Nat.le_of_ble_eq_true rfl) (fun h => by cases h) (Or.inl rfl) rfl ?_
  refine xx_aload_n (q := 11) rfl rfl rfl ?_
  refine xx_iconst (q := 12) rfl rfl (by decide) ?_
  refine xx_puz (q := 15) rfl rfl rfl xS_15 (Nat.le_of_ble_eq_true rfl) (Nat.le_of_ble_eq_true rfl) (fun h => by cases h) (Or.inl rfl) rfl ?_
  refine xx_iconst (q := 16) rfl rfl (by decide) ?_
  refine xx_istore_n (q := 17) (loc2 := [_, _, _]) rfl rfl (Nat.le_of_ble_eq_true rfl) rfl ?_
  exact c_car_N hR hsa hsa2 P P.length K _ _ _ _ 0 0 0 (((hW.up15).up15).up15) hI (LawS.fr hG (fun x y q1 q2 => (xui_a (by omega)).trans ((xui_a (by omega)).trans (xui_a (by omega))))) (LawS.fr hH (fun x y q1 q2 => (xui_a (by omega)).trans ((xui_a (by omega)).trans (xui_a (by omega))))) (hP.fr rfl (fun y => (xui_a (by omega)).trans ((xui_a (by omega)).trans (xui_a (by omega))))) (((FN.rf.fp).up (by decide)).up (by decide) |>.up (by decide)) rfl rfl rfl (by omega)
