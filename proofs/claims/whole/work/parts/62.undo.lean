/-! Doings by their names; undo; in thought: the class. -/
def undP (U : UU) : Prop := ¬ U = []
theorem NWd.back {K L : KK} {b c : Int} {B : Nat → Int} {U : UU} {D0 D E F : KK} {nx : Nat} (h : NWd K b B ((L, c) :: U) D0 D) (hnx : nx < 10) (e86 : D 86 1 = (nx : Int)) (g : Fr 27 (xui (xui D 86 1 (((nx + 9) % 10 : Nat) : Int)) 86 0 (U.length : Int)) E) (hK : CK 27 L E) (hF : F = xui E 25 0 c) : NWd L c B U D0 F ∧ KI L := by
  obtain ⟨h1, h2, ⟨n2, p1, p2, p3, p4, p5⟩, h4⟩ := h
  obtain rfl : n2 = nx := by omega
  obtain ⟨r1, r2, r3, r4⟩ := p5 0 (L, c) rfl
  have hg : ∀ x k, x ≠ 25 → (x < 27 ∨ 46 ≤ x) → x ≠ 10 → x ≠ 14 → F x k = xui (xui D 86 1 (((n2 + 9) % 10 : Nat) : Int)) 86 0 (U.length : Int) x k := fun x k q1 q2 q3 q4 => by rw [hF, xui_a q1]; exact g x k (by omega) q3 q4
  have hg2 : ∀ x k, x ≠ 25 → x ≠ 86 → (x < 27 ∨ 46 ≤ x) → x ≠ 10 → x ≠ 14 → F x k = D x k := fun x k q1 q2 q3 q4 q5 => (hg x k q1 q3 q4 q5).trans ((xui_a q2).trans (xui_a q2))
  refine ⟨⟨?_, ⟨?_, r4.1, r4.2, fun k hk => (hg2 26 k (by omega) (by omega) (by omega) (by omega) (by omega)).trans (h2.2.2.2 k hk)⟩, ⟨(n2 + 9) % 10, by omega, ?_, ?_, ?_, ?_⟩, fun x k q1 q2 q3 => (hg2 x k (by omega) (by omega) (by omega) q2 q3).trans (h4 x k q1 q2 q3)⟩, r2⟩
  · exact CK_fr hK (fun o k ho => by rw [hF]; exact xui_a (by omega))
  · rw [hF]; exact xui_s
  · have : U.length + 1 ≤ 10 := p2
    omega
  · rw [hg 86 0 (by omega) (by omega) (by omega) (by omega)]; exact xui_s
  · rw [hg 86 1 (by omega) (by omega) (by omega) (by omega), xui_j (by omega)]; exact xui_s
  · intro i u hu
    obtain ⟨q1, q2, q3, q4⟩ := p5 (i + 1) u hu
    have hi : i < U.length := (List.getElem?_eq_some_iff.mp hu).1
    have : U.length + 1 ≤ 10 := p2
    have e : ((n2 + 9) % 10 + 9 - i) % 10 = (n2 + 9 - (i + 1)) % 10 := by omega
    rw [e]
    exact ⟨CK_fr q1 (fun o k ho => hg2 _ _ (by omega) (by omega) (by omega) (by omega) (by omega)), q2, (hg2 88 _ (by omega) (by omega) (by omega) (by omega) (by omega)).trans q3, q4⟩
set_option maxHeartbeats 1000000 in
theorem c_goBack1 {n : Nat} {R : Nat → Nat → Option Nat} {D0 D K L : KK} {b c : Int} {B : Nat → Int} {U : UU} (hR : RF R) (hW : NWd K b B ((L, c) :: U) D0 D) : ∃ D', XC 3 79 [.inr (some 86), .inr (some 27)] (xS n, R, D) (some (.inl 1)) (xS n, R, D') ∧ NWd L c B U D0 D' ∧ KI L := by
  obtain ⟨nx, hnx, hU, hp0', hp1, hp2⟩ := hW.2.2.1
  have hp0 : D 86 0 = (U.length : Int) + 1 := by rw [hp0', List.length_cons]; omega
  have hU2 : U.length + 1 ≤ 10 := hU
  obtain ⟨r1, r2, r3', r4⟩ := hp2 0 (L, c) rfl
  obtain ⟨c1, ec1⟩ : ∃ c1, c1 = 89 + 19 * ((nx + 9) % 10) := ⟨_, rfl⟩
  have hc1 : isC c1 := ec1 ▸ isC_k (by omega)
  have r1c : CK c1 L D := by rw [ec1]; exact r1
  have hc1g : 89 ≤ c1 ∧ c1 + 19 ≤ 279 := by omega
  have r3 : xui (xui D 86 1 (((nx + 9) % 10 : Nat) : Int)) 86 0 (U.length : Int) 88 ((((nx + 9) % 10 : Nat) : Int)).toNat = c := r3'
  have e87 : R 87 ((((nx + 9) % 10 : Nat) : Int)).toNat = some c1 := ec1 ▸ rk_87 hR (by omega)
  have hx9 : xrem ((nx : Int) + 10 - 1) 10 = (((nx + 9) % 10 : Nat) : Int) := by rw [xrem_p (by omega)]; omega
  refine XE_of (Nat.le_of_ble_eq_true rfl) (Nat.le_of_ble_eq_true rfl) (loc := [_, _]) rfl ?_
  refine xx_aload_n (q := 1) rfl rfl rfl ?_
  refine xx_gez (q := 4) rfl rfl rfl xS_86 (Nat.le_of_ble_eq_true rfl) rfl hp0 ?_
  refine xx_if_gt (q := 9) (q2 := 7) rfl rfl rfl (fun _ => ?_) (fun h4 => (by exfalso; omega))
  refine xx_aload_n (q := 10) rfl rfl rfl ?_
  refine xx_aload_n (q := 11) rfl rfl rfl ?_
  refine xx_gez (q := 14) rfl rfl rfl xS_86 (Nat.le_of_ble_eq_true rfl) rfl hp1 ?_
  refine xx_bipush (q := 16) rfl rfl (by decide) ?_
  refine xx_iaddR (q := 17) rfl rfl (by omega) (by omega) ?_
  refine xx_iconst (q := 18) rfl rfl (by decide) ?_
  refine xx_isubR (q := 19) rfl rfl (by omega) (by omega) ?_
  refine xx_bipush (q := 21) rfl rfl (by decide) ?_
  refine xx_irem (q := 22) rfl rfl (by decide) ?_
  refine xx_puz (q := 25) rfl rfl rfl xS_86 (Nat.le_of_ble_eq_true rfl) (Nat.le_of_ble_eq_true rfl) (fun h => by cases h) (Or.inl rfl) rfl ?_
  rw [hx9]
  have e10 : xui D 86 1 (((nx + 9) % 10 : Nat) : Int) 86 1 = (((nx + 9) % 10 : Nat) : Int) := xui_s
  refine xx_aload_n (q := 26) rfl rfl rfl ?_
  refine xx_dup (q := 27) rfl rfl ?_
  refine xx_gez (q := 30) rfl rfl rfl xS_86 (Nat.le_of_ble_eq_true rfl) rfl hp0 ?_
  refine xx_iconst (q := 31) rfl rfl (by decide) ?_
  refine xx_isubR (q := 32) rfl rfl (by omega) (by omega) ?_
  refine xx_puz (q := 35) rfl rfl rfl xS_86 (Nat.le_of_ble_eq_true rfl) (Nat.le_of_ble_eq_true rfl) (fun h => by cases h) (Or.inl rfl) rfl ?_
  rw [show (U.length : Int) + 1 - 1 = (U.length : Int) by omega]
  have e10 : xui (xui D 86 1 (((nx + 9) % 10 : Nat) : Int)) 86 0 (U.length : Int) 86 1 = (((nx + 9) % 10 : Nat) : Int) := (xui_j (by omega)).trans xui_s
  refine xx_aload_n (q := 36) rfl rfl rfl ?_
  refine xx_aload_n (q := 37) rfl rfl rfl ?_
  refine xx_getR (q := 40) rfl rfl rfl xS_86 (Nat.le_of_ble_eq_true rfl) rfl (hR.1 86 2 rfl) ?_
  refine xx_aload_n (q := 41) rfl rfl rfl ?_
  refine xx_gez (q := 44) rfl rfl rfl xS_86 (Nat.le_of_ble_eq_true rfl) rfl e10 ?_
  refine xx_aaz (q := 45) rfl rfl xS_87 (by omega) (by omega) e87 ?_
  obtain ⟨D3, hx3, hK3, hG3⟩ := c_copy (n := n) (D := (xui (xui D 86 1 (((nx + 9) % 10 : Nat) : Int)) 86 0 (U.length : Int))) hR isC_27 hc1 (by omega) (CK_fr r1c (fun o k ho => (xui_a (by omega)).trans (xui_a (by omega)))) r2
  have e11 : D3 86 1 = (((nx + 9) % 10 : Nat) : Int) := (hG3 86 1 (by omega) (by omega) (by omega)).trans e10
  have e88 : D3 88 ((((nx + 9) % 10 : Nat) : Int)).toNat = c := (hG3 88 _ (by omega) (by omega) (by omega)).trans r3
  refine xx_callV (q := 48) (As := [_]) (rest := []) rfl rfl rfl (Or.inl rfl) rfl rfl (Nat.le_of_ble_eq_true rfl) (xSc_0 isC_27) (XCm hx3 rfl) rfl ?_
  refine xx_aload_n (q := 49) rfl rfl rfl ?_
  refine xx_getR (q := 52) rfl rfl rfl xS_86 (Nat.le_of_ble_eq_true rfl) rfl (hR.1 86 4 rfl) ?_
  refine xx_aload_n (q := 53) rfl rfl rfl ?_
  refine xx_getR (q := 56) rfl rfl rfl xS_86 (Nat.le_of_ble_eq_true rfl) rfl (hR.1 86 3 rfl) ?_
  refine xx_aload_n (q := 57) rfl rfl rfl ?_
  refine xx_gez (q := 60) rfl rfl rfl xS_86 (Nat.le_of_ble_eq_true rfl) rfl e11 ?_
  refine xx_iaz (v := c) (q := 61) rfl rfl xS_88 (by omega) (by omega) e88 ?_
  refine xx_puz (q := 64) rfl rfl rfl xS_25 (Nat.le_of_ble_eq_true rfl) (Nat.le_of_ble_eq_true rfl) (fun h => by cases h) (Or.inl rfl) rfl ?_
  refine xx_iconst (q := 65) rfl rfl (by decide) ?_
  refine xx_iret rfl (Or.inr rfl) ⟨congrArg (fun z => some (Sum.inl z)) (by rfl), _, rfl, ?_⟩
  exact NWd.back hW hnx hp1 hG3 hK3 rfl
set_option maxHeartbeats 1000000 in
theorem c_goBack0 {n : Nat} {R : Nat → Nat → Option Nat} {D : KK} (hR : RF R) (h86 : D 86 0 = 0) : XC 1 79 [.inr (some 86), .inr (some 27)] (xS n, R, D) (some (.inl 0)) (xS n, R, D) := by
  refine XC_of (Nat.le_of_ble_eq_true rfl) (Nat.le_of_ble_eq_true rfl) (loc := [_, _]) rfl ?_
  refine xx_aload_n (q := 1) rfl rfl rfl ?_
  refine xx_gez (q := 4) rfl rfl rfl xS_86 (Nat.le_of_ble_eq_true rfl) rfl h86 ?_
  refine xx_if_gt (q := 9) (q2 := 7) rfl rfl rfl (fun h4 => (by exfalso; omega)) (fun _ => ?_)
  refine xx_iconst (q := 8) rfl rfl (by decide) ?_
  exact xx_iret rfl (Or.inl rfl) ⟨congrArg (fun z => some (Sum.inl z)) (by rfl), rfl⟩
theorem c_goBack {n : Nat} {R : Nat → Nat → Option Nat} {D0 D K : KK} {b : Int} {B : Nat → Int} {U : UU} (hR : RF R) (hW : NWd K b B U D0 D) (hI : KI K) : ∃ D', XC 3 79 [.inr (some 86), .inr (some 27)] (xS n, R, D) (some (.inl (if U = [] then 0 else 1))) (xS n, R, D') ∧ (match U with | [] => NWd K b B [] D0 D' ∧ KI K | (L, c) :: V => NWd L c B V D0 D' ∧ KI L) := by
  cases U with
  | nil =>
    obtain ⟨nx, hnx, hU, hp0, hp1, hp2⟩ := hW.2.2.1
    exact ⟨D, XCm (c_goBack0 hR hp0) rfl, hW, hI⟩
  | cons u V =>
    obtain ⟨L, c⟩ := u
    obtain ⟨D', h1, h2⟩ := c_goBack1 (n := n) hR hW
    rw [if_neg (by intro q; cases q)]
    exact ⟨D', XCm h1 rfl, h2⟩
set_option maxHeartbeats 1000000 in
theorem c_undo {n : Nat} {R : Nat → Nat → Option Nat} {D0 D K : KK} {b : Int} {B : Nat → Int} {U : UU} (hR : RF R) (hW : NWd K b B U D0 D) (hI : KI K) : ∃ D', XC 4 150 [.inr (some 5)] (xS n, R, D) (some (.inl (if U = [] then 0 else 1))) (xS n, R, D') ∧ (match U with | [] => NWd K b B [] D0 D' ∧ KI K | (L, c) :: V => NWd L c B V D0 D' ∧ KI L) := by
  refine XE_of (Nat.le_of_ble_eq_true rfl) (Nat.le_of_ble_eq_true rfl) (loc := [_]) rfl ?_
  refine xx_aload_n (q := 1) rfl rfl rfl ?_
  refine xx_getR (q := 4) rfl rfl rfl xS_5 (Nat.le_of_ble_eq_true rfl) rfl (hR.1 5 2 rfl) ?_
  refine xx_aload_n (q := 5) rfl rfl rfl ?_
  refine xx_getR (q := 8) rfl rfl rfl xS_5 (Nat.le_of_ble_eq_true rfl) rfl (hR.1 5 0 rfl) ?_
  refine xx_getR (q := 11) rfl rfl rfl xS_6 (Nat.le_of_ble_eq_true rfl) rfl (hR.1 6 5 rfl) ?_
  obtain ⟨D1, hx1, hW1⟩ := c_goBack (n := n) hR hW hI
  refine xx_callV (q := 14) (As := [_]) (rest := []) rfl rfl rfl (Or.inl rfl) rfl rfl (Nat.le_of_ble_eq_true rfl) xS_86 (XCm hx1 rfl) rfl ?_
  refine xx_iret rfl (by split; exact Or.inl rfl; exact Or.inr rfl) ⟨congrArg (fun z => some (Sum.inl z)) (by rfl), _, rfl, ?_⟩
  exact hW1
set_option maxHeartbeats 1000000 in
theorem c_pass {n : Nat} {R : Nat → Nat → Option Nat} {D0 D K : KK} {b : Int} {B : Nat → Int} {U : UU} (hR : RF R) (hW : NWd K b B U D0 D) (hI : KI K) {G Hh : LwF} (hG : LwG G n R D0) (hH : LwH Hh n R D0) (boat up wth : Int) : ∃ D', XC 6 128 [.inr (some 5), .inl boat, .inl up, .inl wth] (xS n, R, D) (some (.inl (pasR K G boat up wth))) (xS n, R, D') ∧ NWd (pasT K G boat up wth) (pasb K G boat up wth b) (pasB K G boat up wth b B) (pasU K G boat up wth b U) D0 D' := by
  refine XE_of (Nat.le_of_ble_eq_true rfl) (Nat.le_of_ble_eq_true rfl) (loc := [_, _, _, _]) rfl ?_
  refine xx_aload_n (q := 1) rfl rfl rfl ?_
  refine xx_getR (q := 4) rfl rfl rfl xS_5 (Nat.le_of_ble_eq_true rfl) rfl (hR.1 5 0 rfl) ?_
  refine xx_getR (q := 7) rfl rfl rfl xS_6 (Nat.le_of_ble_eq_true rfl) rfl (hR.1 6 5 rfl) ?_
  refine xx_iload_n (q := 8) rfl rfl rfl ?_
  refine xx_iload_n (q := 9) rfl rfl rfl ?_
  refine xx_iload_n (q := 10) rfl rfl rfl ?_
  obtain ⟨D1, hx1, hW1⟩ := c_passN (n := n) hR hW hI hG boat up wth
  have hI1 : KI (pasT K G boat up wth) := pasT_I hI
  refine xx_callV (q := 13) (As := [_, _, _]) (rest := []) rfl rfl rfl (Or.inl rfl) rfl rfl (Nat.le_of_ble_eq_true rfl) (xSc_0 isC_27) (XCm hx1 rfl) rfl ?_
  refine xx_iret rfl trivial ⟨congrArg (fun z => some (Sum.inl z)) (by rfl), _, rfl, ?_⟩
  exact hW1
set_option maxHeartbeats 1000000 in
theorem c_give {n : Nat} {R : Nat → Nat → Option Nat} {D0 D K : KK} {b : Int} {B : Nat → Int} {U : UU} (hR : RF R) (hW : NWd K b B U D0 D) (hI : KI K) {G Hh : LwF} (hG : LwG G n R D0) (hH : LwH Hh n R D0) (boat good amount lock : Int) : ∃ D', XC 5 129 [.inr (some 5), .inl boat, .inl good, .inl amount, .inl lock] (xS n, R, D) (some (.inl (givR K Hh boat good amount lock))) (xS n, R, D') ∧ NWd (givT K Hh boat good amount lock) (givb K boat good amount lock b) (givB K boat good amount lock b B) (givU K boat good amount lock b U) D0 D' := by
  refine XE_of (Nat.le_of_ble_eq_true rfl) (Nat.le_of_ble_eq_true rfl) (loc := [_, _, _, _, _]) rfl ?_
  refine xx_aload_n (q := 1) rfl rfl rfl ?_
  refine xx_getR (q := 4) rfl rfl rfl xS_5 (Nat.le_of_ble_eq_true rfl) rfl (hR.1 5 0 rfl) ?_
  refine xx_getR (q := 7) rfl rfl rfl xS_6 (Nat.le_of_ble_eq_true rfl) rfl (hR.1 6 5 rfl) ?_
  refine xx_iload_n (q := 8) rfl rfl rfl ?_
  refine xx_iload_n (q := 9) rfl rfl rfl ?_
  refine xx_iload_n (q := 10) rfl rfl rfl ?_
  refine xx_iload (q := 12) rfl rfl rfl ?_
  obtain ⟨D1, hx1, hW1⟩ := c_giveN (n := n) hR hW hI hH boat good amount lock
  have hI1 : KI (givT K Hh boat good amount lock) := givT_I hI
  refine xx_callV (q := 15) (As := [_, _, _, _]) (rest := []) rfl rfl rfl (Or.inl rfl) rfl rfl (Nat.le_of_ble_eq_true rfl) (xSc_0 isC_27) (XCm hx1 rfl) rfl ?_
  refine xx_iret rfl trivial ⟨congrArg (fun z => some (Sum.inl z)) (by rfl), _, rfl, ?_⟩
  exact hW1
set_option maxHeartbeats 1000000 in
theorem c_pull {n : Nat} {R : Nat → Nat → Option Nat} {D0 D K : KK} {b : Int} {B : Nat → Int} {U : UU} (hR : RF R) (hW : NWd K b B U D0 D) (hI : KI K) (lock m : Int) : ∃ D', XC 10 130 [.inr (some 5), .inl lock, .inl m] (xS n, R, D) (some (.inl (pulR K lock m))) (xS n, R, D') ∧ NWd (pulT K lock m) (pullb K lock m b) (pullB K lock m b B) (pullU K lock m b U) D0 D' := by
  refine XE_of (Nat.le_of_ble_eq_true rfl) (Nat.le_of_ble_eq_true rfl) (loc := [_, _, _]) rfl ?_
  refine xx_aload_n (q := 1) rfl rfl rfl ?_
  refine xx_getR (q := 4) rfl rfl rfl xS_5 (Nat.le_of_ble_eq_true rfl) rfl (hR.1 5 0 rfl) ?_
  refine xx_getR (q := 7) rfl rfl rfl xS_6 (Nat.le_of_ble_eq_true rfl) rfl (hR.1 6 5 rfl) ?_
  refine xx_iload_n (q := 8) rfl rfl rfl ?_
  refine xx_iload_n (q := 9) rfl rfl rfl ?_
  obtain ⟨D1, hx1, hW1⟩ := c_pullN (n := n) hR hW hI lock m
  have hI1 : KI (pulT K lock m) := pulT_I hI
  refine xx_callV (q := 12) (As := [_, _]) (rest := []) rfl rfl rfl (Or.inl rfl) rfl rfl (Nat.le_of_ble_eq_true rfl) (xSc_0 isC_27) (XCm hx1 rfl) rfl ?_
  refine xx_iret rfl trivial ⟨congrArg (fun z => some (Sum.inl z)) (by rfl), _, rfl, ?_⟩
  exact hW1
set_option maxHeartbeats 1000000 in
theorem c_hours {n : Nat} {R : Nat → Nat → Option Nat} {D0 D K : KK} {b : Int} {B : Nat → Int} {U : UU} (hR : RF R) (hW : NWd K b B U D0 D) (hI : KI K) (m : Int) : ∃ D', XC 8 131 [.inr (some 5), .inl m] (xS n, R, D) (some (.inl (waiR (K, b, B, U) m))) (xS n, R, D') ∧ NZ (waiZ (K, b, B, U) m) D0 D' := by
  refine XE_of (Nat.le_of_ble_eq_true rfl) (Nat.le_of_ble_eq_true rfl) (loc := [_, _]) rfl ?_
  refine xx_aload_n (q := 1) rfl rfl rfl ?_
  refine xx_getR (q := 4) rfl rfl rfl xS_5 (Nat.le_of_ble_eq_true rfl) rfl (hR.1 5 0 rfl) ?_
  refine xx_getR (q := 7) rfl rfl rfl xS_6 (Nat.le_of_ble_eq_true rfl) rfl (hR.1 6 5 rfl) ?_
  refine xx_iload_n (q := 8) rfl rfl rfl ?_
  obtain ⟨D1, hx1, hW1⟩ := c_waitN (n := n) hR hW hI m
  have hI1 : KI ((waiZ (K, b, B, U) m).1) := waiZ_I hI
  refine xx_callV (q := 11) (As := [_]) (rest := []) rfl rfl rfl (Or.inl rfl) rfl rfl (Nat.le_of_ble_eq_true rfl) (xSc_0 isC_27) (XCm hx1 rfl) rfl ?_
  refine xx_iret rfl trivial ⟨congrArg (fun z => some (Sum.inl z)) (by rfl), _, rfl, ?_⟩
  exact hW1
set_option maxHeartbeats 1000000 in
theorem c_run {n : Nat} {R : Nat → Nat → Option Nat} {D K : KK} {b : Int} {B : Nat → Int} {U : UU} (hR : RF R) (hW : NWd K b B U D D) (hI : KI K) {G Hh : LwF} (hG : LwG G n R D) (hH : LwH Hh n R D) {sa : Nat} (hsa : R 15 4 = some sa) (hsa2 : sa = 16 ∨ sa = 17) (P : List PSt) (hP : PlC sa P D) : ∃ D', XC 12 132 [.inr (some 5)] (xS n, R, D) (some (.inl ((carZ G Hh P (K, b, B, U) 0 0 0).1))) (xS n, R, D') ∧ NZ (carZ G Hh P (K, b, B, U) 0 0 0).2.2.2.2 D' D' ∧ FNP D D' := by
  refine XE_of (Nat.le_of_ble_eq_true rfl) (Nat.le_of_ble_eq_true rfl) (loc := [_]) rfl ?_
  refine xx_aload_n (q := 1) rfl rfl rfl ?_
  refine xx_getR (q := 4) rfl rfl rfl xS_5 (Nat.le_of_ble_eq_true rfl) rfl (hR.1 5 0 rfl) ?_
  refine xx_getR (q := 7) rfl rfl rfl xS_6 (Nat.le_of_ble_eq_true rfl) rfl (hR.1 6 2 rfl) ?_
  refine xx_aload_n (q := 8) rfl rfl rfl ?_
  refine xx_getR (q := 11) rfl rfl rfl xS_5 (Nat.le_of_ble_eq_true rfl) rfl (hR.1 5 0 rfl) ?_
  refine xx_getR (q := 14) rfl rfl rfl xS_6 (Nat.le_of_ble_eq_true rfl) rfl (hR.1 6 5 rfl) ?_
  obtain ⟨D1, hx1, hC1⟩ := c_carryN (n := n) hR hW hI hG hH hsa hsa2 P hP
  refine xx_callV (q := 17) (As := [_]) (rest := []) rfl rfl rfl (Or.inl rfl) rfl rfl (Nat.le_of_ble_eq_true rfl) xS_15 (XCm hx1 rfl) rfl ?_
  refine xx_iret rfl trivial ⟨congrArg (fun z => some (Sum.inl z)) (by rfl), _, rfl, ?_⟩
  exact ⟨hC1.1, hC1.2.1⟩
def pldF (c : Int × Int × Int × Int × KK) (w : Int) : Int := if ¬ (0 ≤ w ∧ w ≤ 3) then -1000 else if w = 0 then c.1 else if w = 1 then c.2.1 else if w = 2 then c.2.2.1 else c.2.2.2.1
set_option maxHeartbeats 1000000 in
theorem c_planned {n : Nat} {R : Nat → Nat → Option Nat} {D K : KK} {b : Int} {B : Nat → Int} {U : UU} (hR : RF R) (hW : NWd K b B U D D) (hI : KI K) {G Hh : LwF} (hG : LwG G n R D) (hH : LwH Hh n R D) {sa : Nat} (hsa : R 15 4 = some sa) (hsa2 : sa = 16 ∨ sa = 17) (P : List PSt) (hP : PlC sa P D) (w : Int) : ∃ D', XC 12 149 [.inr (some 5), .inl w] (xS n, R, D) (some (.inl (pldF (carT G Hh P K 0 0 0) w))) (xS n, R, D') ∧ ∀ x k, (x < 279 ∨ 474 ≤ x) → x ≠ 10 → x ≠ 14 → (x = 15 → k = 0) → D' x k = D x k := by
  have hK := hW.1
  have ht4 : isT 284 := isT_k (s := 0) (by omega)
  have hc4 := isT_C ht4
  have hn4 := isT_N ht4
  have hs15 := sa_ne hsa2
  refine XE_of (Nat.le_of_ble_eq_true rfl) (Nat.le_of_ble_eq_true rfl) (loc := [_, _, _, _]) rfl ?_
  refine xx_iload_n (q := 1) rfl rfl rfl ?_
  refine xx_iconst (q := 2) rfl rfl (by decide) ?_
  refine xx_iconst (q := 3) rfl rfl (by decide) ?_
  refine xx_callS (q := 6) (As := [_, _, _]) (rest := []) rfl rfl rfl (Or.inl rfl) rfl rfl (Nat.le_of_ble_eq_true rfl) (XCm (c_within w 0 3) rfl) rfl ?_
  refine xx_ifb_ne (q := 13) (q2 := 9) rfl rfl rfl (fun h6 => ?_) (fun h6 => ?_)
  · refine xx_aload_n (q := 14) rfl rfl rfl ?_
    refine xx_getR (q := 17) rfl rfl rfl xS_5 (Nat.le_of_ble_eq_true rfl) rfl (hR.1 5 0 rfl) ?_
    refine xx_getR (q := 20) rfl rfl rfl xS_6 (Nat.le_of_ble_eq_true rfl) rfl (hR.1 6 2 rfl) ?_
    refine xx_astore_n (q := 21) (loc2 := [_, _, _, _]) rfl rfl (Nat.le_of_ble_eq_true rfl) rfl ?_
    refine xx_aload_n (q := 22) rfl rfl rfl ?_
    refine xx_aload_n (q := 23) rfl rfl rfl ?_
    refine xx_getR (q := 26) rfl rfl rfl xS_5 (Nat.le_of_ble_eq_true rfl) rfl (hR.1 5 3 rfl) ?_
    refine xx_aload_n (q := 27) rfl rfl rfl ?_
    refine xx_getR (q := 30) rfl rfl rfl xS_5 (Nat.le_of_ble_eq_true rfl) rfl (hR.1 5 0 rfl) ?_
    refine xx_getR (q := 33) rfl rfl rfl xS_6 (Nat.le_of_ble_eq_true rfl) rfl (hR.1 6 5 rfl) ?_
    obtain ⟨D1, hx1, hK1, hG1⟩ := c_start (n := n) hR isC_27 (by decide) hK hI
    refine xx_callV (q := 36) (As := [_]) (rest := [_]) rfl rfl rfl (Or.inl rfl) rfl rfl (Nat.le_of_ble_eq_true rfl) xS_279 (XCm hx1 rfl) rfl ?_
    have hfs : ∀ x k, (x < 284 ∨ 303 ≤ x) → x ≠ 10 → x ≠ 14 → D1 x k = D x k := fun x k q1 q2 q3 => hG1 x k (by omega) q2 q3
    obtain ⟨D2, hx2, hC2⟩ := c_carryT (n := n) hR ht4 hK1 hI (LawS.fr hG (fun x k q1 q2 => hfs x k (by omega) (by omega) (by omega))) (LawS.fr hH (fun x k q1 q2 => hfs x k (by omega) (by omega) (by omega))) hsa hsa2 P (hP.fr (hfs 15 0 (by omega) (by omega) (by omega)) (fun k => hfs sa k (by omega) (by omega) (by omega)))
    refine xx_callV (q := 39) (As := [_]) (rest := []) rfl rfl rfl (Or.inl rfl) rfl rfl (Nat.le_of_ble_eq_true rfl) xS_15 (XCm hx2 rfl) rfl ?_
    refine xx_istore_n (q := 40) (loc2 := [_, _, _, _]) rfl rfl (Nat.le_of_ble_eq_true rfl) rfl ?_
    refine xx_iload_n (q := 41) rfl rfl rfl ?_
    by_cases h41_0 : w = 0
    · refine xx_swK (q := 68) (zl := 0) (off := 27) rfl h41_0 (by decide) (by decide) rfl rfl ?_
      refine xx_iload_n (q := 69) rfl rfl rfl ?_
      refine xx_iret rfl trivial ⟨congrArg (fun z => some (Sum.inl z)) (by unfold pldF; rw [if_neg (fun q => q h6), if_pos h41_0]), _, rfl, ?_⟩
      exact fun x k h1 h2 h3 h4 => (hC2.2.1 x k (by omega) h2 h3 h4).trans (hG1 x k (by omega) h2 h3)
    by_cases h41_1 : w = 1
    · refine xx_swK (q := 70) (zl := 1) (off := 29) rfl h41_1 (by decide) (by decide) rfl rfl ?_
      refine xx_aload_n (q := 71) rfl rfl rfl ?_
      refine xx_gez (q := 74) rfl rfl rfl xS_15 (Nat.le_of_ble_eq_true rfl) rfl hC2.2.2.1 ?_
      refine xx_iret rfl trivial ⟨congrArg (fun z => some (Sum.inl z)) (by unfold pldF; rw [if_neg (fun q => q h6), if_neg h41_0, if_pos h41_1]), _, rfl, ?_⟩
      exact fun x k h1 h2 h3 h4 => (hC2.2.1 x k (by omega) h2 h3 h4).trans (hG1 x k (by omega) h2 h3)
    by_cases h41_2 : w = 2
    · refine xx_swK (q := 75) (zl := 2) (off := 34) rfl h41_2 (by decide) (by decide) rfl rfl ?_
      refine xx_aload_n (q := 76) rfl rfl rfl ?_
      refine xx_gez (q := 79) rfl rfl rfl xS_15 (Nat.le_of_ble_eq_true rfl) rfl hC2.2.2.2.1 ?_
      refine xx_iret rfl trivial ⟨congrArg (fun z => some (Sum.inl z)) (by unfold pldF; rw [if_neg (fun q => q h6), if_neg h41_0, if_neg h41_1, if_pos h41_2]), _, rfl, ?_⟩
      exact fun x k h1 h2 h3 h4 => (hC2.2.1 x k (by omega) h2 h3 h4).trans (hG1 x k (by omega) h2 h3)
    refine xx_swOut (q := 80) rfl (by omega) rfl ?_
    refine xx_aload_n (q := 81) rfl rfl rfl ?_
    refine xx_gez (q := 84) rfl rfl rfl xS_15 (Nat.le_of_ble_eq_true rfl) rfl hC2.2.2.2.2 ?_
    refine xx_iret rfl trivial ⟨congrArg (fun z => some (Sum.inl z)) (by unfold pldF; rw [if_neg (fun q => q h6), if_neg h41_0, if_neg h41_1, if_neg h41_2]), _, rfl, ?_⟩
    exact fun x k h1 h2 h3 h4 => (hC2.2.1 x k (by omega) h2 h3 h4).trans (hG1 x k (by omega) h2 h3)
  · refine xx_sipush (q := 12) rfl rfl (by decide) ?_
    refine xx_iret rfl trivial ⟨congrArg (fun z => some (Sum.inl z)) (by exact (if_pos h6).symm), _, rfl, ?_⟩
    exact fun x k h1 h2 h3 h4 => rfl
