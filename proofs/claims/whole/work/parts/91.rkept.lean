/-! The image: the reference. -/
def ad (i : Nat) : Nat × Nat := if i < 125 then (480, i) else if i = 125 then (479, 6) else if i = 126 then (479, 7) else if i < 163 then (483 + (i - 127) % 4, (i - 127) / 4) else if i < 199 then (487, i - 163) else if i < 211 then (488 + (i - 199) % 2, (i - 199) / 2) else if i < 216 then (490, i - 211) else if i = 216 then (479, 16) else if i < 253 then (491 + (i - 217) % 3, (i - 217) / 3) else if i < 273 then (494 + (i - 253) % 2, (i - 253) / 2) else if i < 1023 then (496, i - 273) else if i = 1023 then (499, 0) else if i < 1088 then (500 + (i - 1024) % 4, (i - 1024) / 4) else if i < 1888 then (504 + (i - 1088) % 2, (i - 1088) / 2) else if i = 1888 then (499, 1) else if i < 1953 then (500 + (i - 1889) % 4, 16 + (i - 1889) / 4) else if i < 2753 then (504 + (i - 1953) % 2, 400 + (i - 1953) / 2) else if i = 2753 then (479, 47) else (507, i - 2754)
def ia (a x : Nat) : Nat := if a = 480 then x else if a = 479 then (if x = 6 then 125 else if x = 7 then 126 else if x = 16 then 216 else 2753) else if a ≤ 486 then 127 + 4 * x + (a - 483) else if a = 487 then 163 + x else if a ≤ 489 then 199 + 2 * x + (a - 488) else if a = 490 then 211 + x else if a ≤ 493 then 217 + 3 * x + (a - 491) else if a ≤ 495 then 253 + 2 * x + (a - 494) else if a = 496 then 273 + x else if a = 499 then (if x = 0 then 1023 else 1888) else if a ≤ 503 then (if x < 16 then 1024 + 4 * x + (a - 500) else 1889 + 4 * (x - 16) + (a - 500)) else if a ≤ 505 then (if x < 400 then 1088 + 2 * x + (a - 504) else 1953 + 2 * (x - 400) + (a - 504)) else 2754 + x
def adk (i : Nat) : Bool := Nat.beq (ia (ad i).1 (ad i).2) i && (!(Nat.beq (ad i).1 515) && (!(Nat.beq (ad i).1 479) || (Nat.beq (ad i).2 6 || (Nat.beq (ad i).2 7 || (Nat.beq (ad i).2 16 || Nat.beq (ad i).2 47)))))
def adA : Nat → Bool
  | 0 => true
  | i + 1 => adk i && adA i
set_option maxRecDepth 100000 in
theorem adA_t : adA 2904 = true := by decide +kernel
theorem adA_i : ∀ (n i : Nat), adA n = true → i < n → adk i = true
  | 0, _, _, h => absurd h (Nat.not_lt_zero _)
  | n + 1, i, h, hi => by
    unfold adA at h
    rw [Bool.and_eq_true] at h
    rcases Classical.em (i = n) with e | e
    · rw [e]; exact h.1
    · exact adA_i n i h.2 (by omega)
theorem ad_p {i : Nat} (h : i < 2904) : ia (ad i).1 (ad i).2 = i ∧ (ad i).1 ≠ 515 ∧ ((ad i).1 = 479 → (ad i).2 = 6 ∨ (ad i).2 = 7 ∨ (ad i).2 = 16 ∨ (ad i).2 = 47) := by
  have h1 := adA_i 2904 i adA_t h
  unfold adk at h1
  simp only [Bool.and_eq_true, Bool.or_eq_true, Bool.not_eq_true', Nat.beq_eq, Nat.beq_eq_true_eq] at h1
  refine ⟨h1.1, ?_, ?_⟩
  · intro e
    rw [e] at h1
    exact absurd h1.2.1 (by decide)
  · intro e
    rw [e] at h1
    rcases h1.2.2 with q | q
    · exact absurd q (by decide)
    · exact q
theorem ad_in {i j : Nat} (hi : i < 2904) (hj : j < 2904) (h : ad i = ad j) : i = j := by
  rw [← (ad_p hi).1, ← (ad_p hj).1, h]
def KpI (t : Int) (i : Nat) (D0 D : KK) : Prop := D 479 62 = t ∧ D 479 64 = (i : Int) ∧ ((t = 1 ∧ (∀ j, j < i → D 515 j = D0 (ad j).1 (ad j).2) ∧ ∀ a x, a ≠ 515 → (a = 479 → x ≠ 64) → D a x = D0 a x) ∨ (t = 0 ∧ (∀ j, j < i → D (ad j).1 (ad j).2 = D0 515 j) ∧ ∀ a x, (∀ j, j < i → ad j ≠ (a, x)) → (a = 479 → x ≠ 64) → D a x = D0 a x))
def KpM (t : Int) (i : Nat) (D0 D : KK) (r : Int) : Prop := D 479 62 = t ∧ D 479 64 = (i : Int) + 1 ∧ ((t = 1 ∧ r = D (ad i).1 (ad i).2 ∧ (∀ j, j < i + 1 → D 515 j = D0 (ad j).1 (ad j).2) ∧ ∀ a x, a ≠ 515 → (a = 479 → x ≠ 64) → D a x = D0 a x) ∨ (t = 0 ∧ r = D0 515 i ∧ (∀ j, j < i → D (ad j).1 (ad j).2 = D0 515 j) ∧ ∀ a x, (∀ j, j < i → ad j ≠ (a, x)) → (a = 479 → x ≠ 64) → D a x = D0 a x))
theorem KpM.w {t : Int} {i : Nat} {D0 D : KK} {r : Int} {c j : Nat} (h : KpM t i D0 D r) (hi : i < 2904) (ha : ad i = (c, j)) : KpI t (i + 1) D0 (xui D c j r) := by
  obtain ⟨p1, p2, p3⟩ := ad_p hi
  rw [ha] at p1 p2 p3
  have e : ∀ a x, (a = 479 → x = 62 ∨ x = 64) → a = 479 → xui D c j r a x = D a x := fun a x q1 q2 => if_neg (fun q => by have := q1 q2; have := p3 (show c = 479 by omega); omega)
  refine ⟨(e 479 62 (by omega) rfl).trans h.1, (e 479 64 (by omega) rfl).trans h.2.1, ?_⟩
  rcases h.2.2 with ⟨t1, h1, h2, h3⟩ | ⟨t1, h1, h2, h3⟩
  · rw [ha] at h1
    have e2 : xui D c j r = D := by rw [h1]; exact xui_id
    rw [e2]
    exact Or.inl ⟨t1, h2, h3⟩
  · refine Or.inr ⟨t1, fun k hk => ?_, fun a x q1 q2 => ?_⟩
    · rcases Classical.em (k = i) with q | q
      · rw [q, ha, h1]; exact xui_s
      · have hne : ¬ ((ad k).1 = c ∧ (ad k).2 = j) := fun r => q (ad_in (by omega) hi (by rw [ha]; exact Prod.ext r.1 r.2))
        rw [show xui D c j r (ad k).1 (ad k).2 = D (ad k).1 (ad k).2 from if_neg hne]
        exact h2 k (by omega)
    · have hne : ¬ (a = c ∧ x = j) := fun r => q1 i (by omega) (by rw [ha, r.1, r.2])
      rw [show xui D c j r a x = D a x from if_neg hne]
      exact h3 a x (fun k hk => q1 k (by omega)) q2
theorem r_kept {n : Nat} {R : Nat → Nat → Option Nat} {t : Int} {D0 D : KK} (hR : RF R) {i : Nat} (hK : KpI t i D0 D) (hi : i < 2904) (v : Int) (hv : D (ad i).1 (ad i).2 = v) : ∃ r, ∃ D1, XC 1 295 [.inr (some 479), .inl v] (xS n, R, D) (some (.inl r)) (xS n, R, D1) ∧ KpM t i D0 D1 r := by
  have hq : ∃ r m2, XC 1 295 [.inr (some 479), .inl v] (xS n, R, D) r m2 ∧ ∃ z D1, m2 = (xS n, R, D1) ∧ r = some (.inl z) ∧ KpM t i D0 D1 z := by
    refine XR_of (Nat.le_of_ble_eq_true rfl) (Nat.le_of_ble_eq_true rfl) (loc := [_, _]) rfl ?_
    refine xx_aload_n (q := 1) rfl rfl rfl ?_
    refine xx_aload_n (q := 2) rfl rfl rfl ?_
    refine xx_gez (q := 5) rfl rfl rfl xS_479 (Nat.le_of_ble_eq_true rfl) rfl hK.2.1 ?_
    refine xx_iconst (q := 6) rfl rfl (by decide) ?_
    refine xx_iaddR (q := 7) rfl rfl (by omega) (by omega) ?_
    refine xx_puz (q := 10) rfl rfl rfl xS_479 (Nat.le_of_ble_eq_true rfl) (Nat.le_of_ble_eq_true rfl) (fun h => by cases h) (Or.inl rfl) rfl ?_
    refine xx_aload_n (q := 11) rfl rfl rfl ?_
    refine xx_gez (q := 14) rfl rfl rfl xS_479 (Nat.le_of_ble_eq_true rfl) rfl ((xui_j (by omega)).trans hK.1) ?_
    refine xx_if_ne (q := 29) (q2 := 17) rfl rfl rfl (fun h14 => ?_) (fun h14 => ?_)
    · refine xx_aload_n (q := 30) rfl rfl rfl ?_
      refine xx_getR (q := 33) rfl rfl rfl xS_479 (Nat.le_of_ble_eq_true rfl) rfl (hR.1 479 65 rfl) ?_
      refine xx_aload_n (q := 34) rfl rfl rfl ?_
      refine xx_gez (q := 37) rfl rfl rfl xS_479 (Nat.le_of_ble_eq_true rfl) rfl xui_s ?_
      refine xx_iconst (q := 38) rfl rfl (by decide) ?_
      refine xx_isubR (q := 39) rfl rfl (by omega) (by omega) ?_
      refine xx_iload_n (q := 40) rfl rfl rfl ?_
      refine xx_isz (q := 41) rfl rfl xS_515 (by omega) (by omega) rfl ?_
      refine xx_iload_n (q := 42) rfl rfl rfl ?_
      rcases hK.2.2 with ⟨t1, h1, h2⟩ | ⟨t1, _⟩
      · have hp := ad_p hi
        have hd : D (ad i).1 (ad i).2 = v := hv
        refine xx_iret rfl trivial ⟨v, _, rfl, rfl, (xui_a (by omega)).trans ((xui_j (by omega)).trans hK.1), (xui_a (by omega)).trans xui_s, Or.inl ⟨t1, ?_, fun j hj => ?_, fun a x q1 q2 => ?_⟩⟩
        · rw [xui_a hp.2.1, show xui D 479 64 ((i : Int) + 1) (ad i).1 (ad i).2 = D (ad i).1 (ad i).2 from if_neg (fun r => by have := hp.2.2 r.1; omega)]
          exact hd.symm
        · rw [show ((i : Int) + 1 - 1).toNat = i by omega]
          rcases Classical.em (j = i) with q | q
          · rw [q, xui_s, ← hd]
            exact h2 _ _ hp.2.1 (fun r => by have := hp.2.2 r; omega)
          · rw [xui_j q, xui_a (by omega)]
            exact h1 j (by omega)
        · rw [xui_a q1, show xui D 479 64 ((i : Int) + 1) a x = D a x from if_neg (fun r => q2 r.1 r.2)]
          exact h2 a x q1 q2
      · omega
    · refine xx_aload_n (q := 18) rfl rfl rfl ?_
      refine xx_getR (q := 21) rfl rfl rfl xS_479 (Nat.le_of_ble_eq_true rfl) rfl (hR.1 479 65 rfl) ?_
      refine xx_aload_n (q := 22) rfl rfl rfl ?_
      refine xx_gez (q := 25) rfl rfl rfl xS_479 (Nat.le_of_ble_eq_true rfl) rfl xui_s ?_
      refine xx_iconst (q := 26) rfl rfl (by decide) ?_
      refine xx_isubR (q := 27) rfl rfl (by omega) (by omega) ?_
      refine xx_iaz (q := 28) rfl rfl xS_515 (by omega) (by omega) rfl ?_
      rcases hK.2.2 with ⟨t1, _⟩ | ⟨t1, h1, h2⟩
      · omega
      · have hv : (xui D 479 64 ((i : Int) + 1)) 515 ((i : Int) + 1 - 1).toNat = D0 515 i := by
          rw [xui_a (by omega), show ((i : Int) + 1 - 1).toNat = i by omega]
          exact h2 515 i (fun j hj e => (ad_p (show j < 2904 by omega)).2.1 (by rw [e])) (by omega)
        refine xx_iret rfl trivial ⟨_, _, rfl, congrArg (fun z => some (Sum.inl z)) hv, (xui_j (by omega)).trans hK.1, xui_s, Or.inr ⟨t1, rfl, fun j hj => ?_, fun a x q1 q2 => ?_⟩⟩
        · have hp := ad_p (show j < 2904 by omega)
          rw [show xui D 479 64 ((i : Int) + 1) (ad j).1 (ad j).2 = D (ad j).1 (ad j).2 from if_neg (fun r => by have := hp.2.2 r.1; omega)]
          exact h1 j hj
        · rw [show xui D 479 64 ((i : Int) + 1) a x = D a x from if_neg (fun r => q2 r.1 r.2)]
          exact h2 a x q1 q2
  obtain ⟨r, m2, h1, z, D1, rfl, rfl, h2⟩ := hq
  exact ⟨z, D1, h1, h2⟩
