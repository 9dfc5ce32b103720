/-! The reference: the plan is carried out. -/
theorem stpF_ok {K : KK} {G : LwF} {s : PSt} {f : Int} (h : xok f) : xok (stpF K G s f) := by
  unfold stpF
  split
  · exact nrm_ok _
  · exact nrm_ok _
  · exact h
theorem stpG_ok {K : KK} {s : PSt} {f : Int} (h : xok f) : xok (stpG K s f) := by
  unfold stpG
  split
  · exact nrm_ok _
  · exact h
def carV (t : Int) (G Hh : LwF) : List PSt → ZZ → Int → Int → Int → Int × Int × Int × Int × ZZ
  | [], Z, i, f, g => (i, 0, f, g, Z)
  | s :: ss, Z, i, f, g => if stpW Z.1 G Hh s = 0 then carV t G Hh ss (stpV t Z G Hh s) (i + 1) (stpF Z.1 G s f) (stpG Z.1 s g) else (i, stpW Z.1 G Hh s, stpF Z.1 G s f, stpG Z.1 s g, stpV t Z G Hh s)
theorem StR.fr {a : Int} {s : PSt} {D E : KK} (h : StR a s D) (g : ∀ k, E 507 k = D 507 k) : StR a s E := ⟨(g _).trans h.1, (g _).trans h.2.1, fun q => (g _).trans (h.2.2.1 q), fun q => (g _).trans (h.2.2.2.1 q), fun q => (g _).trans (h.2.2.2.2 q)⟩
def PlR (P : List PSt) (D : KK) : Prop := D 479 47 = (P.length : Int) ∧ P.length ≤ 30 ∧ ∀ (j : Nat) (s : PSt), P[j]? = some s → StR (5 * (j : Int)) s D
theorem PlR.fr {P : List PSt} {D E : KK} (h : PlR P D) (g0 : E 479 47 = D 479 47) (g : ∀ k, E 507 k = D 507 k) : PlR P E := ⟨g0.trans h.1, h.2.1, fun j s hs => (h.2.2 j s hs).fr g⟩
/-- a plan that can stand: with so many locks and boats -/
def PlV (K : KK) (P : List PSt) : Prop := ∀ s ∈ P, VS K s
theorem VS_eq {K L : KK} {s : PSt} (h : VS K s) (h0 : L 0 0 = K 0 0) (h13 : L 13 0 = K 13 0) : VS L s := by
  unfold VS pulP at h ⊢
  rw [h0, h13]
  exact h
theorem aftT_k {K : KK} {o : Nat} (h : o = 0 ∨ o = 13) : aftT K o 0 = K o 0 := by
  unfold aftT clmF
  rw [show xui (clmL ((gosT K) 0 0).toNat (gosT K) 0) 0 1 (nrm (K 0 1 + 1)) o 0 = clmL ((gosT K) 0 0).toNat (gosT K) 0 o 0 from if_neg (fun q => by omega)]
  rw [clmL_k _ _ _ _ _ (by omega)]
  exact gosT_k (by omega)
theorem tdK_k {t : Int} {K : KK} {o : Nat} (h : o = 0 ∨ o = 13) : tdK t K o 0 = K o 0 := by
  unfold tdK teK
  rw [aftT_k h, tidT_k (by omega) (by omega), lekL_k _ _ _ _ _ (by omega) (by omega), trK_k (by omega) (by omega)]
theorem tdsZ_k {t : Int} {o : Nat} (h : o = 0 ∨ o = 13) : ∀ (k : Nat) (Z : ZZ), (tdsZ t k Z).1 o 0 = Z.1 o 0
  | 0, _ => rfl
  | k + 1, Z => (tdsZ_k h k (tdZ t Z)).trans (tdK_k h)
theorem pasT_k {K : KK} {G : LwF} {boat up wth : Int} {o : Nat} (h : o = 0 ∨ o = 13) : pasT K G boat up wth o 0 = K o 0 := by
  unfold pasT
  split
  · unfold pasK
    rw [xui_a (by omega)]
    split
    · rw [xui_a (by omega)]; exact flowF_k (by omega) (by omega)
    · rw [xui_a (by omega), xui_a (by omega)]; exact flowF_k (by omega) (by omega)
  · rfl
theorem stpV_k {t : Int} {Z : ZZ} {G Hh : LwF} {s : PSt} {o : Nat} (h : o = 0 ∨ o = 13) : (stpV t Z G Hh s).1 o 0 = Z.1 o 0 := by
  unfold stpV
  split
  · exact pasT_k h
  · split
    · exact (xui_a (by omega)).trans (rcvF_k (by omega) (by omega) (by omega))
    · rfl
  · split
    · exact pulL_k _ _ _ _ _ (by omega) (by omega)
    · rfl
  · split
    · exact tdsZ_k h _ _
    · rfl
theorem r_does {n : Nat} {R : Nat → Nat → Option Nat} {t : Int} {K D : KK} {b : Int} {B : Nat → Int} {U : UU} (hR : RF R) (hV : RV t K b B U D D) (hI : KI K) {G Hh : LwF} (hG : RLG G n R D) (hH : RLH Hh n R D) (j f g : Int) (s : PSt) (hj0 : 0 ≤ j) (hj1 : j < 30) (hs : StR (5 * j) s D) (hvs : VS K s) (hf : D 479 51 = f) (hg : D 479 52 = g) (hfk : xok f) (hgk : xok g) : ∃ D', XC 9 254 [.inr (some 479), .inl j] (xS n, R, D) (some (.inl (stpW K G Hh s))) (xS n, R, D') ∧ TZ t (stpV t (K, b, B, U) G Hh s) D' D' ∧ FW D D' ∧ D' 479 51 = stpF K G s f ∧ D' 479 52 = stpG K s g := by
  obtain ⟨w, a, b4, c4, d⟩ := s
  have e : w = 0 ∨ w = 1 ∨ w = 2 ∨ w = 3 := by have h3 : w ≤ 3 := hvs.1; omega
  rcases e with rfl | rfl | rfl | rfl
  · obtain ⟨D', h1, h2⟩ := r_do0 hR hV hI hG hH j f g a b4 c4 d hj0 hj1 hs hvs hf hg hfk hgk
    exact ⟨D', XCm h1 rfl, h2⟩
  · obtain ⟨D', h1, h2⟩ := r_do1 hR hV hI hG hH j f g a b4 c4 d hj0 hj1 hs hvs hf hg hfk hgk
    exact ⟨D', XCm h1 rfl, h2⟩
  · obtain ⟨D', h1, h2⟩ := r_do2 hR hV hI hG hH j f g a b4 c4 d hj0 hj1 hs hvs hf hg hfk hgk
    exact ⟨D', XCm h1 rfl, h2⟩
  · obtain ⟨D', h1, h2⟩ := r_do3 hR hV hI hG hH j f g a b4 c4 d hj0 hj1 hs hvs hf hg hfk hgk
    exact ⟨D', XCm h1 rfl, h2⟩
set_option maxHeartbeats 1000000 in
theorem r_car_L {n : Nat} {R : Nat → Nat → Option Nat} {t : Int} {D0 : KK} (hR : RF R) {G Hh : LwF} (P : List PSt) : ∀ (k : Nat) (K D : KK) (b : Int) (B : Nat → Int) (U : UU) (j : Nat) (f g : Int), RV t K b B U D D → KI K → RLG G n R D → RLH Hh n R D → PlR P D → PlV K P → FW D0 D → D 479 53 = 0 → D 479 51 = f → D 479 52 = g → xok f → xok g → j + k = P.length → XX (XC 9) 255 (XP (some (.inl (carV t G Hh (P.drop j) (K, b, B, U) j f g).1)) (xS n) R (fun D' => TZ t (carV t G Hh (P.drop j) (K, b, B, U) j f g).2.2.2.2 D' D' ∧ FW D0 D' ∧ D' 479 53 = (carV t G Hh (P.drop j) (K, b, B, U) j f g).2.1 ∧ D' 479 51 = (carV t G Hh (P.drop j) (K, b, B, U) j f g).2.2.1 ∧ D' 479 52 = (carV t G Hh (P.drop j) (K, b, B, U) j f g).2.2.2.1)) 17 [some (.inr (some 479)), some (.inl (j : Int))] [] (xS n, R, D) := by
  intro k
  induction k using Nat.strongRecOn with
  | ind k ih =>
  intro K D b B U j f g hV hI hG hH hP hPV hF h1 h2 h3 hfk hgk hk
  have hP30 := hP.2.1
  refine xx_iload_n (q := 18) rfl rfl rfl ?_
  refine xx_aload_n (q := 19) rfl rfl rfl ?_
  refine xx_gez (q := 22) rfl rfl rfl xS_479 (Nat.le_of_ble_eq_true rfl) rfl hP.1 ?_
  refine xx_icmp_ge (q := 55) (q2 := 25) rfl rfl rfl (fun h22 => ?_) (fun h22 => ?_)
  · refine xx_iload_n (q := 56) rfl rfl rfl ?_
    obtain rfl : k = 0 := by omega
    have e : P.drop j = [] := List.drop_eq_nil_of_le (by omega)
    rw [e]
    exact xx_iret rfl trivial ⟨rfl, _, rfl, hV, hF, h1, h2, h3⟩
  · refine xx_aload_n (q := 26) rfl rfl rfl ?_
    refine xx_gez (q := 29) rfl rfl rfl xS_479 (Nat.le_of_ble_eq_true rfl) rfl h1 ?_
    refine xx_if_ne (q := 55) (q2 := 32) rfl rfl rfl (fun h29 => (by exfalso; omega)) (fun _ => ?_)
    obtain ⟨k, rfl⟩ : ∃ k2, k = k2 + 1 := ⟨k - 1, by omega⟩
    have hj : j < P.length := by omega
    obtain ⟨s, hsj⟩ : ∃ s, P[j]? = some s := ⟨P[j], List.getElem?_eq_getElem hj⟩
    have hs := hP.2.2 j s hsj
    have hvs := hPV s (List.mem_of_getElem? hsj)
    have hdr : P.drop j = s :: P.drop (j + 1) := by rw [List.drop_eq_getElem_cons hj]; congr 1; exact Option.some.inj ((List.getElem?_eq_getElem hj).symm.trans hsj)
    have hcar : carV t G Hh (P.drop j) (K, b, B, U) j f g = if stpW K G Hh s = 0 then carV t G Hh (P.drop (j + 1)) (stpV t (K, b, B, U) G Hh s) (j + 1) (stpF K G s f) (stpG K s g) else ((j : Int), stpW K G Hh s, stpF K G s f, stpG K s g, stpV t (K, b, B, U) G Hh s) := by rw [hdr]; rfl
    subst h2
    subst h3
    refine xx_aload_n (q := 33) rfl rfl rfl ?_
    refine xx_aload_n (q := 34) rfl rfl rfl ?_
    refine xx_iload_n (q := 35) rfl rfl rfl ?_
    obtain ⟨D1, hx1, hV1, hF1, hf1, hg1⟩ := r_does (n := n) hR hV hI hG hH (j : Int) _ _ s (by omega) (by omega) hs hvs rfl rfl hfk hgk
    refine xx_callV (q := 38) (As := [_]) (rest := [_]) rfl rfl rfl (Or.inl rfl) rfl rfl (Nat.le_of_ble_eq_true rfl) xS_479 (XCm hx1 rfl) rfl ?_
    refine xx_puz (q := 41) rfl rfl rfl xS_479 (Nat.le_of_ble_eq_true rfl) (Nat.le_of_ble_eq_true rfl) (fun h => by cases h) (Or.inl rfl) rfl ?_
    refine xx_aload_n (q := 42) rfl rfl rfl ?_
    refine xx_gez (q := 45) rfl rfl rfl xS_479 (Nat.le_of_ble_eq_true rfl) rfl xui_s ?_
    refine xx_if_ne (q := 17) (q2 := 48) rfl rfl rfl (fun h45 => ?_) (fun h45 => ?_)
    · refine xx_iload_n (q := 18) rfl rfl rfl ?_
      refine xx_aload_n (q := 19) rfl rfl rfl ?_
      refine xx_gez (q := 22) rfl rfl rfl xS_479 (Nat.le_of_ble_eq_true rfl) rfl ((xui_j (by decide)).trans ((hF1 479 47 (by omega) (by omega) (by omega) (by omega) (by omega) (by omega)).trans hP.1)) ?_
      refine xx_icmp_ge (q := 55) (q2 := 25) rfl rfl rfl (fun h22_3 => (by exfalso; omega)) (fun _ => ?_)
      refine xx_aload_n (q := 26) rfl rfl rfl ?_
      refine xx_gez (q := 29) rfl rfl rfl xS_479 (Nat.le_of_ble_eq_true rfl) rfl xui_s ?_
      refine xx_if_ne (q := 55) (q2 := 32) rfl rfl rfl (fun _ => ?_) (fun h29_4 => (by exfalso; omega))
      refine xx_iload_n (q := 56) rfl rfl rfl ?_
      rw [hcar, if_neg h45]
      exact xx_iret rfl trivial ⟨rfl, _, rfl, hV1.u (by decide), (hF.trans hF1).up (by decide), xui_s, (xui_j (by decide)).trans hf1, (xui_j (by decide)).trans hg1⟩
    · refine xx_iload_n (q := 49) rfl rfl rfl ?_
      refine xx_iconst (q := 50) rfl rfl (by decide) ?_
      refine xx_iaddR (q := 51) rfl rfl (by omega) (by omega) ?_
      refine xx_istore_n (q := 52) (loc2 := [_, _]) rfl rfl (Nat.le_of_ble_eq_true rfl) rfl ?_
      refine xx_goto (q := 17) rfl rfl ?_
      rw [hcar, if_pos h45]
      have hji : (j : Int) + 1 = ((j + 1 : Nat) : Int) := by omega
      rw [hji]
      exact ih k (by omega) _ _ _ _ _ (j + 1) _ _ (hV1.u (by decide)) (stpV_I (Z := (K, b, B, U)) hI) (RLG.fr hG (fun x y q1 q2 => (xui_a (by omega)).trans (hF1 x y (by omega) (by omega) (by omega) (by omega) (by omega) (by omega)))) (RLH.fr hH (fun x y q1 q2 => (xui_a (by omega)).trans (hF1 x y (by omega) (by omega) (by omega) (by omega) (by omega) (by omega)))) (hP.fr ((xui_j (by decide)).trans (hF1 479 47 (by omega) (by omega) (by omega) (by omega) (by omega) (by omega))) (fun y => (xui_a (by omega)).trans (hF1 507 y (by omega) (by omega) (by omega) (by omega) (by omega) (by omega)))) (fun s2 h9 => VS_eq (hPV s2 h9) (stpV_k (Z := (K, b, B, U)) (Or.inl rfl)) (stpV_k (Z := (K, b, B, U)) (Or.inr rfl))) ((hF.trans hF1).up (by decide)) (xui_s.trans h45) ((xui_j (by decide)).trans hf1) ((xui_j (by decide)).trans hg1) (stpF_ok hfk) (stpG_ok hgk) (by omega)
set_option maxHeartbeats 1000000 in
theorem r_runsPlan {n : Nat} {R : Nat → Nat → Option Nat} {t : Int} {K D : KK} {b : Int} {B : Nat → Int} {U : UU} (hR : RF R) (hV : RV t K b B U D D) (hI : KI K) {G Hh : LwF} (hG : RLG G n R D) (hH : RLH Hh n R D) (P : List PSt) (hP : PlR P D) (hPV : PlV K P) : ∃ D', XC 10 255 [.inr (some 479)] (xS n, R, D) (some (.inl ((carV t G Hh P (K, b, B, U) 0 0 0).1))) (xS n, R, D') ∧ TZ t (carV t G Hh P (K, b, B, U) 0 0 0).2.2.2.2 D' D' ∧ FW D D' ∧ D' 479 53 = (carV t G Hh P (K, b, B, U) 0 0 0).2.1 ∧ D' 479 51 = (carV t G Hh P (K, b, B, U) 0 0 0).2.2.1 ∧ D' 479 52 = (carV t G Hh P (K, b, B, U) 0 0 0).2.2.2.1 := by
  refine XE_of (Nat.le_of_ble_eq_true rfl) (Nat.le_of_ble_eq_true rfl) (loc := [_, _]) rfl ?_
  refine xx_aload_n (q := 1) rfl rfl rfl ?_
  refine xx_iconst (q := 2) rfl rfl (by decide) ?_
  refine xx_puz (q := 5) rfl rfl rfl xS_479 (Nat.le_of_ble_eq_true rfl) (Nat.le_of_ble_eq_true rfl) (fun h => by cases h) (Or.inl rfl) rfl ?_
  refine xx_aload_n (q := 6) rfl rfl rfl ?_
  refine xx_iconst (q := 7) rfl rfl (by decide) ?_
  refine xx_puz (q := 10) rfl rfl rfl xS_479 (Nat.le_of_ble_eq_true rfl) (Nat.le_of_ble_eq_true rfl) (fun h => by cases h) (Or.inl rfl) rfl ?_
  refine xx_aload_n (q := 11) rfl rfl rfl ?_
  refine xx_iconst (q := 12) rfl rfl (by decide) ?_
  refine xx_puz (q := 15) rfl rfl rfl xS_479 (Nat.le_of_ble_eq_true rfl) (Nat.le_of_ble_eq_true rfl) (fun h => by cases h) (Or.inl rfl) rfl ?_
  refine xx_iconst (q := 16) rfl rfl (by decide) ?_
  refine xx_istore_n (q := 17) (loc2 := [_, _]) rfl rfl (Nat.le_of_ble_eq_true rfl) rfl ?_
  have hl : ∀ x y, 499 ≤ x → x ≤ 505 → (xui (xui (xui D 479 51 0) 479 52 0) 479 53 0) x y = D x y := fun x y q1 q2 => (xui_a (by omega)).trans ((xui_a (by omega)).trans (xui_a (by omega)))
  exact r_car_L hR P P.length K _ b B U 0 0 0 (((hV.u (by decide)).u (by decide)).u (by decide)) hI (RLG.fr hG hl) (RLH.fr hH hl) (hP.fr rfl (fun y => (xui_a (by omega)).trans ((xui_a (by omega)).trans (xui_a (by omega))))) hPV (((FV.rf.fw).up (by decide)).up (by decide) |>.up (by decide)) rfl rfl rfl xok_0 xok_0 (by omega)
