/-! Texts taken, and what was said: both. -/
theorem LwR.fb {w : Nat} {L : List LN1} {D E : KK} (h : LwR w L D) (g9 : E 499 w = D 499 w) (g5 : ∀ x k, 500 ≤ x → x ≤ 503 → 16 * w ≤ k → k < 16 * w + 16 → E x k = D x k) (g4 : ∀ x k, (x = 504 ∨ x = 505) → 400 * w ≤ k → k < 400 * w + 400 → E x k = D x k) : LwR w L E := by
  obtain ⟨h1, h2, h3, h4, h5⟩ := h
  refine ⟨g9.trans h1, h2, fun i l q => ?_, h4, fun j hj => ?_⟩
  · have hi : i < L.length := by
      rcases Nat.lt_or_ge i L.length with r | r
      · exact r
      · rw [List.getElem?_eq_none r] at q; cases q
    rw [g5 500 _ (by omega) (by omega) (by omega) (by omega), g5 501 _ (by omega) (by omega) (by omega) (by omega), g5 502 _ (by omega) (by omega) (by omega) (by omega), g5 503 _ (by omega) (by omega) (by omega) (by omega)]
    exact h3 i l q
  · rw [g4 504 _ (by omega) (by omega) (by omega), g4 505 _ (by omega) (by omega) (by omega)]
    exact h5 j hj
theorem PlR.fb {P : List PSt} {D E : KK} (h : PlR P D) (g0 : E 479 47 = D 479 47) (g : ∀ k, k < 150 → E 507 k = D 507 k) : PlR P E := by
  obtain ⟨h1, h2, h3⟩ := h
  refine ⟨g0.trans h1, h2, fun j s q => ?_⟩
  have hj : j < P.length := by
    rcases Nat.lt_or_ge j P.length with r | r
    · exact r
    · rw [List.getElem?_eq_none r] at q; cases q
  have u := h3 j s q
  exact ⟨(g _ (by omega)).trans u.1, (g _ (by omega)).trans u.2.1, fun z => (g _ (by omega)).trans (u.2.2.1 z), fun z => (g _ (by omega)).trans (u.2.2.2.1 z), fun z => (g _ (by omega)).trans (u.2.2.2.2 z)⟩
theorem LwR.fe {w : Nat} {L : List LN1} {D E : KK} (h : LwR w L D) (hw : w ≤ 1) (g : ∀ x k, 499 ≤ x → x ≤ 505 → (x = 499 → k < 2) → ((500 ≤ x ∧ x ≤ 503) → k < 32) → ((x = 504 ∨ x = 505) → k < 800) → E x k = D x k) : LwR w L E := h.fb (g _ _ (by omega) (by omega) (by omega) (by omega) (by omega)) (fun x k q1 q2 q3 q4 => g x k (by omega) (by omega) (by omega) (by omega) (by omega)) (fun x k q1 q2 q3 => g x k (by omega) (by omega) (by omega) (by omega) (by omega))
theorem LwR.fl {w v : Nat} {L : List LN1} {D E : KK} (h : LwR w L D) (hw : w ≤ 1) (hv : v ≤ 1) (hwv : w ≠ v) (g : FXl v D E) : LwR w L E := h.fb (g _ _ (by omega) (by omega) (by omega) (by omega) (by omega)) (fun x k q1 q2 q3 q4 => g x k (by omega) (by omega) (by omega) (by omega) (by omega)) (fun x k q1 q2 q3 => g x k (by omega) (by omega) (by omega) (by omega) (by omega))
theorem LwC.fx {l lc : Nat} {L : LW3} {D E : KK} (h : LwC l lc L D) (g0 : E l 0 = D l 0) (g2 : E l 2 = D l 2) (g : ∀ i, E lc i = D lc i) : LwC l lc L E := ⟨g0.trans h.1, g2.trans h.2.1, fun i hi => (g i).trans (h.2.2 i hi)⟩
theorem PCa.fx {p ps : Nat} {P : List PSt} {D E : KK} (h : PCa p ps P D) (g0 : E p 0 = D p 0) (g : ∀ k, E ps k = D ps k) : PCa p ps P E := ⟨g0.trans h.1, fun j s q => ⟨(g _).trans (h.2 j s q).1, (g _).trans (h.2 j s q).2.1, fun z => (g _).trans ((h.2 j s q).2.2.1 z), fun z => (g _).trans ((h.2 j s q).2.2.2.1 z), fun z => (g _).trans ((h.2 j s q).2.2.2.2 z)⟩⟩
theorem xur_n {R : Nat → Nat → Option Nat} {a j b k : Nat} {v : Option Nat} (h : ¬ (b = a ∧ k = j)) : xur R a j v b k = R b k := if_neg h
theorem xur_y {R : Nat → Nat → Option Nat} {a j : Nat} {v : Option Nat} : xur R a j v a j = v := if_pos ⟨rfl, rfl⟩
theorem b_textG {n : Nat} {R : Nat → Nat → Option Nat} {D : KK} {W : Wld} (h : JWd W R D) : Both 35 10 126 223 n R D [.inl 0] := by
  have hi := h.2.2
  have hR := h.1.1
  obtain ⟨c1, c2, c3, e1, e2, e3, hS⟩ := h.1.2.2.1
  obtain ⟨d1, d2, d3⟩ := RF_c hR e1 e2 e3
  have h4 := hS.2.2.2.1
  have h5 := hS.2.2.2.2.1
  have h6 := hS.2.2.2.2.2
  have hd : ∃ dr, R 7 5 = some dr ∧ (dr = 8 ∨ dr = 9) ∧ dr ≠ c1 := by
    rcases hR.2.1 with ⟨q1, q2⟩ | ⟨q1, q2⟩
    · rw [e1] at q1; have := Option.some.inj q1; exact ⟨_, q2, by omega, by omega⟩
    · rw [e1] at q1; have := Option.some.inj q1; exact ⟨_, q2, by omega, by omega⟩
  obtain ⟨dr, g5, hdr2, hne⟩ := hd
  obtain ⟨z, R2, D1, x1, cx⟩ := c_textG (n := n) hR h.1.2.2.2.1 hi.2.2.2.1 hi.2.2.2.2.1 h.1.2.2.2.2.1 g5 e1 hdr2 h.1.2.2.2.2.2.2.2.1
  have cfr : ∀ x k, x ≠ 476 → x ≠ 477 → x ≠ 478 → (x = 474 → k ≠ 0 ∧ k ≠ 1 ∧ k ≠ 2 ∧ k ≠ 7 ∧ k ≠ 8) → (x = 7 → k ≠ 0 ∧ k ≠ 2 ∧ k ≠ 4) → x ≠ dr → D1 x k = D x k := cx.2.2.2.2.1
  have hr := RWd_m h.2.1 (E := D1) (fun x k q => cfr x k (by omega) (by omega) (by omega) (by omega) (by omega) (by omega))
  have h71 : D1 7 1 = 0 := (cfr 7 1 (by omega) (by omega) (by omega) (by omega) (by omega) (by omega)).trans h.1.2.2.2.2.2.2.2.1
  have h111 : D1 11 1 = 1 := (cfr 11 1 (by omega) (by omega) (by omega) (by omega) (by omega) (by omega)).trans h.1.2.2.2.2.2.2.2.2.1
  have hL1 : LwC 11 c2 (l3 1 W.L1) D1 := h5.fx (cfr _ _ (by omega) (by omega) (by omega) (by omega) (by omega) (by omega)) (cfr _ _ (by omega) (by omega) (by omega) (by omega) (by omega) (by omega)) (fun i => cfr _ _ (by omega) (by omega) (by omega) (by omega) (by omega) (by omega))
  have hcd : ∀ i, D1 c1 i = D c1 i := fun i => cfr _ _ (by omega) (by omega) (by omega) (by omega) (by omega) (by omega)
  have hPl : PCa 15 c3 W.P D1 := h6.fx (cfr _ _ (by omega) (by omega) (by omega) (by omega) (by omega) (by omega)) (fun i => cfr _ _ (by omega) (by omega) (by omega) (by omega) (by omega) (by omega))
  have hfr : ∀ x k, (x < 7 ∨ (18 ≤ x ∧ x < 474)) → D1 x k = D x k := fun x k q => cfr x k (by omega) (by omega) (by omega) (by omega) (by omega) (by omega)
  have r3 : xur (xur R 7 3 (some dr)) 7 5 (some c1) 7 3 = some dr ∧ xur (xur R 7 3 (some dr)) 7 5 (some c1) 11 3 = some c2 ∧ xur (xur R 7 3 (some dr)) 7 5 (some c1) 15 4 = some c3 := ⟨(xur_n (by omega)).trans xur_y, (xur_n (by omega)).trans ((xur_n (by omega)).trans e2), (xur_n (by omega)).trans ((xur_n (by omega)).trans e3)⟩
  have b6 := hr.2.1.2.2.2.2.2.1
  have b7 := hr.2.1.2.2.2.2.2.2.1
  have b8 := hr.2.1.2.2.2.2.2.2.2
  have h400 := q4_lw 0 17 0 (tp0 W.bs, []) (Nat.zero_le _)
  have hpl0 := lw_place (h := 0) (bs := W.bs)
  have hR2 : RF R2 := by
    have cq := cx.2.2.2.2.2
    split at cq
    · rw [cq.1]; exact RF_7 hR g5 e1
    · rw [cq.1]; exact hR
  obtain ⟨z2, D2, x2, sx⟩ := r_textG (n := n) hR2 hr.2.2.1 hi.2.2.2.1 hi.2.2.2.2.1 hr.2.2.2.1
  have sf0 := sx.2.2.1
  have sf : ∀ x k, (x = 479 → k ≠ 0 ∧ k ≠ 24 ∧ k ≠ 25 ∧ k ≠ 26 ∧ k ≠ 27 ∧ k ≠ 28 ∧ k ≠ 37 ∧ k ≠ 38 ∧ k ≠ 39 ∧ k ≠ 41 ∧ k ≠ 42 ∧ k ≠ 43 ∧ k ≠ 44 ∧ k ≠ 45) → (x = 499 → k ≠ 0) → ((500 ≤ x ∧ x ≤ 503) → k < 16 * 0 ∨ (16 * 0 + 16 ≤ k ∧ k < 32)) → ((x = 504 ∨ x = 505) → k < 400 * 0 ∨ (400 * 0 + 400 ≤ k ∧ k < 800)) → x ≠ 506 → D2 x k = D1 x k := sf0
  clear h400
  have sfc : ∀ x k, x < 479 → D2 x k = D1 x k := fun x k q => sf x k (by omega) (by omega) (by omega) (by omega) (by omega)
  have sfr : ∀ x k, 479 ≤ x → (x = 479 → k = 3 ∨ k = 5 ∨ k = 6 ∨ k = 7 ∨ k = 16 ∨ k = 63) → (x < 497 ∨ x = 498 ∨ x = 515) → D2 x k = D1 x k := fun x k q1 q2 q3 => sf x k (by omega) (by omega) (by omega) (by omega) (by omega)
  have sfp : PlR W.P D2 := b8.fr (sf 479 47 (by omega) (by omega) (by omega) (by omega) (by omega)) (fun k => sf 507 k (by omega) (by omega) (by omega) (by omega) (by omega))
  have h400 := q4_lw 0 17 0 (tp0 W.bs, []) (Nat.zero_le _)
  have sc := sx.2.2.2
  have s24 := sx.2.1
  have cq := cx.2.2.2.2.2
  have cz := cx.1
  rcases sc with ⟨hq, e44, e45, L, ez, ec, el, eok, elw⟩ | ⟨hq, ez, e44, e45, ef⟩
  · rw [if_pos hq] at cq cz
    obtain ⟨rfl, k0, k2, kc⟩ := cq
    have ezz : z2 = z := ez.trans (ec.symm.trans cz.symm)
    subst ezz
    rw [el] at k2 kc
    have h401 : (clC 0 L).length ≤ 400 := by rw [← el]; exact h400
    have hnew : LwC 7 dr (l3 0 L) D1 := ⟨k0.trans ec, k2, fun i hi => kc i (Int.ofNat_lt.mp hi)⟩
    have hc := CWd_tx (L0 := L) (L1 := W.L1) (P := W.P) (bs := []) h.1 hR2 hfr ⟨dr, c2, c3, r3.1, r3.2.1, r3.2.2, hnew, hL1, hPl⟩ ⟨cx.2.1, fun k hk => absurd hk (Nat.not_lt_zero _)⟩ (cx.2.2.1.trans hq) (cx.2.2.2.1.trans (hpl0 hq)) h71 h111
    exact ⟨_, _, D1, D2, _, x1, x2, CWd_m hc sfc, RWd_tx (L0 := L) (L1 := W.L1) (P := W.P) (bs := []) hr sfr elw (b7.fl (Nat.le_refl _) (Nat.zero_le _) (by decide) sf0) sfp ⟨s24, fun k hk => absurd hk (Nat.not_lt_zero _)⟩ e44 e45, WI_tx hi eok hi.1.2.2.2.2.2.2.2.2.1 h401 hi.1.2.2.2.2.2.2.2.2.2.2.1 hi.pl hi.1.2.2.2.2.2.2.2.2.2.2.2.2 (Nat.zero_le _) by_nil⟩
  · rw [if_neg hq] at cq cz
    obtain ⟨rfl, k0, k2⟩ := cq
    have ezz : z2 = z := ez.trans cz.symm
    subst ezz
    have hLw := h4.fx k0 k2 hcd
    have hc := CWd_tx (L0 := W.L0) (L1 := W.L1) (P := W.P) (bs := []) h.1 hR2 hfr ⟨c1, c2, c3, e1, e2, e3, hLw, hL1, hPl⟩ ⟨cx.2.1, fun k hk => absurd hk (Nat.not_lt_zero _)⟩ cx.2.2.1 cx.2.2.2.1 h71 h111
    exact ⟨_, _, D1, D2, _, x1, x2, CWd_m hc sfc, RWd_tx (L0 := W.L0) (L1 := W.L1) (P := W.P) (bs := []) hr sfr (b6.fe (Nat.zero_le _) ef) (b7.fe (Nat.le_refl _) ef) sfp ⟨s24, fun k hk => absurd hk (Nat.not_lt_zero _)⟩ e44 e45, WI_bs hi (Nat.zero_le _) by_nil⟩
theorem b_textH {n : Nat} {R : Nat → Nat → Option Nat} {D : KK} {W : Wld} (h : JWd W R D) : Both 35 10 126 223 n R D [.inl 1] := by
  have hi := h.2.2
  have hR := h.1.1
  obtain ⟨c1, c2, c3, e1, e2, e3, hS⟩ := h.1.2.2.1
  obtain ⟨d1, d2, d3⟩ := RF_c hR e1 e2 e3
  have h4 := hS.2.2.2.1
  have h5 := hS.2.2.2.2.1
  have h6 := hS.2.2.2.2.2
  have hd : ∃ dr, R 11 5 = some dr ∧ (dr = 12 ∨ dr = 13) ∧ dr ≠ c2 := by
    rcases hR.2.2.1 with ⟨q1, q2⟩ | ⟨q1, q2⟩
    · rw [e2] at q1; have := Option.some.inj q1; exact ⟨_, q2, by omega, by omega⟩
    · rw [e2] at q1; have := Option.some.inj q1; exact ⟨_, q2, by omega, by omega⟩
  obtain ⟨dr, g5, hdr2, hne⟩ := hd
  obtain ⟨z, R2, D1, x1, cx⟩ := c_textH (n := n) hR h.1.2.2.2.1 hi.2.2.2.1 hi.2.2.2.2.1 h.1.2.2.2.2.1 g5 e2 hdr2 h.1.2.2.2.2.2.2.2.2.1
  have cfr : ∀ x k, x ≠ 476 → x ≠ 477 → x ≠ 478 → (x = 474 → k ≠ 0 ∧ k ≠ 1 ∧ k ≠ 2 ∧ k ≠ 7 ∧ k ≠ 8) → (x = 11 → k ≠ 0 ∧ k ≠ 2 ∧ k ≠ 4) → x ≠ dr → D1 x k = D x k := cx.2.2.2.2.1
  have hr := RWd_m h.2.1 (E := D1) (fun x k q => cfr x k (by omega) (by omega) (by omega) (by omega) (by omega) (by omega))
  have h71 : D1 7 1 = 0 := (cfr 7 1 (by omega) (by omega) (by omega) (by omega) (by omega) (by omega)).trans h.1.2.2.2.2.2.2.2.1
  have h111 : D1 11 1 = 1 := (cfr 11 1 (by omega) (by omega) (by omega) (by omega) (by omega) (by omega)).trans h.1.2.2.2.2.2.2.2.2.1
  have hL0 : LwC 7 c1 (l3 0 W.L0) D1 := h4.fx (cfr _ _ (by omega) (by omega) (by omega) (by omega) (by omega) (by omega)) (cfr _ _ (by omega) (by omega) (by omega) (by omega) (by omega) (by omega)) (fun i => cfr _ _ (by omega) (by omega) (by omega) (by omega) (by omega) (by omega))
  have hcd : ∀ i, D1 c2 i = D c2 i := fun i => cfr _ _ (by omega) (by omega) (by omega) (by omega) (by omega) (by omega)
  have hPl : PCa 15 c3 W.P D1 := h6.fx (cfr _ _ (by omega) (by omega) (by omega) (by omega) (by omega) (by omega)) (fun i => cfr _ _ (by omega) (by omega) (by omega) (by omega) (by omega) (by omega))
  have hfr : ∀ x k, (x < 7 ∨ (18 ≤ x ∧ x < 474)) → D1 x k = D x k := fun x k q => cfr x k (by omega) (by omega) (by omega) (by omega) (by omega) (by omega)
  have r3 : xur (xur R 11 3 (some dr)) 11 5 (some c2) 7 3 = some c1 ∧ xur (xur R 11 3 (some dr)) 11 5 (some c2) 11 3 = some dr ∧ xur (xur R 11 3 (some dr)) 11 5 (some c2) 15 4 = some c3 := ⟨(xur_n (by omega)).trans ((xur_n (by omega)).trans e1), (xur_n (by omega)).trans xur_y, (xur_n (by omega)).trans ((xur_n (by omega)).trans e3)⟩
  have b6 := hr.2.1.2.2.2.2.2.1
  have b7 := hr.2.1.2.2.2.2.2.2.1
  have b8 := hr.2.1.2.2.2.2.2.2.2
  have h400 := q4_lw 1 17 0 (tp0 W.bs, []) (Nat.zero_le _)
  have hpl0 := lw_place (h := 1) (bs := W.bs)
  have hR2 : RF R2 := by
    have cq := cx.2.2.2.2.2
    split at cq
    · rw [cq.1]; exact RF_11 hR g5 e2
    · rw [cq.1]; exact hR
  obtain ⟨z2, D2, x2, sx⟩ := r_textH (n := n) hR2 hr.2.2.1 hi.2.2.2.1 hi.2.2.2.2.1 hr.2.2.2.1
  have sf0 := sx.2.2.1
  have sf : ∀ x k, (x = 479 → k ≠ 0 ∧ k ≠ 24 ∧ k ≠ 25 ∧ k ≠ 26 ∧ k ≠ 27 ∧ k ≠ 28 ∧ k ≠ 37 ∧ k ≠ 38 ∧ k ≠ 39 ∧ k ≠ 41 ∧ k ≠ 42 ∧ k ≠ 43 ∧ k ≠ 44 ∧ k ≠ 45) → (x = 499 → k ≠ 1) → ((500 ≤ x ∧ x ≤ 503) → k < 16 * 1 ∨ (16 * 1 + 16 ≤ k ∧ k < 32)) → ((x = 504 ∨ x = 505) → k < 400 * 1 ∨ (400 * 1 + 400 ≤ k ∧ k < 800)) → x ≠ 506 → D2 x k = D1 x k := sf0
  clear h400
  have sfc : ∀ x k, x < 479 → D2 x k = D1 x k := fun x k q => sf x k (by omega) (by omega) (by omega) (by omega) (by omega)
  have sfr : ∀ x k, 479 ≤ x → (x = 479 → k = 3 ∨ k = 5 ∨ k = 6 ∨ k = 7 ∨ k = 16 ∨ k = 63) → (x < 497 ∨ x = 498 ∨ x = 515) → D2 x k = D1 x k := fun x k q1 q2 q3 => sf x k (by omega) (by omega) (by omega) (by omega) (by omega)
  have sfp : PlR W.P D2 := b8.fr (sf 479 47 (by omega) (by omega) (by omega) (by omega) (by omega)) (fun k => sf 507 k (by omega) (by omega) (by omega) (by omega) (by omega))
  have h400 := q4_lw 1 17 0 (tp0 W.bs, []) (Nat.zero_le _)
  have sc := sx.2.2.2
  have s24 := sx.2.1
  have cq := cx.2.2.2.2.2
  have cz := cx.1
  rcases sc with ⟨hq, e44, e45, L, ez, ec, el, eok, elw⟩ | ⟨hq, ez, e44, e45, ef⟩
  · rw [if_pos hq] at cq cz
    obtain ⟨rfl, k0, k2, kc⟩ := cq
    have ezz : z2 = z := ez.trans (ec.symm.trans cz.symm)
    subst ezz
    rw [el] at k2 kc
    have h401 : (clC 1 L).length ≤ 400 := by rw [← el]; exact h400
    have hnew : LwC 11 dr (l3 1 L) D1 := ⟨k0.trans ec, k2, fun i hi => kc i (Int.ofNat_lt.mp hi)⟩
    have hc := CWd_tx (L0 := W.L0) (L1 := L) (P := W.P) (bs := []) h.1 hR2 hfr ⟨c1, dr, c3, r3.1, r3.2.1, r3.2.2, hL0, hnew, hPl⟩ ⟨cx.2.1, fun k hk => absurd hk (Nat.not_lt_zero _)⟩ (cx.2.2.1.trans hq) (cx.2.2.2.1.trans (hpl0 hq)) h71 h111
    exact ⟨_, _, D1, D2, _, x1, x2, CWd_m hc sfc, RWd_tx (L0 := W.L0) (L1 := L) (P := W.P) (bs := []) hr sfr (b6.fl (Nat.zero_le _) (Nat.le_refl _) (by decide) sf0) elw sfp ⟨s24, fun k hk => absurd hk (Nat.not_lt_zero _)⟩ e44 e45, WI_tx hi hi.1.2.2.2.2.2.2.2.1 eok hi.1.2.2.2.2.2.2.2.2.2.1 h401 hi.pl hi.1.2.2.2.2.2.2.2.2.2.2.2.2 (Nat.zero_le _) by_nil⟩
  · rw [if_neg hq] at cq cz
    obtain ⟨rfl, k0, k2⟩ := cq
    have ezz : z2 = z := ez.trans cz.symm
    subst ezz
    have hLw := h5.fx k0 k2 hcd
    have hc := CWd_tx (L0 := W.L0) (L1 := W.L1) (P := W.P) (bs := []) h.1 hR2 hfr ⟨c1, c2, c3, e1, e2, e3, hL0, hLw, hPl⟩ ⟨cx.2.1, fun k hk => absurd hk (Nat.not_lt_zero _)⟩ cx.2.2.1 cx.2.2.2.1 h71 h111
    exact ⟨_, _, D1, D2, _, x1, x2, CWd_m hc sfc, RWd_tx (L0 := W.L0) (L1 := W.L1) (P := W.P) (bs := []) hr sfr (b6.fe (Nat.zero_le _) ef) (b7.fe (Nat.le_refl _) ef) sfp ⟨s24, fun k hk => absurd hk (Nat.not_lt_zero _)⟩ e44 e45, WI_bs hi (Nat.zero_le _) by_nil⟩
theorem b_textP {n : Nat} {R : Nat → Nat → Option Nat} {D : KK} {W : Wld} (h : JWd W R D) : Both 35 10 126 223 n R D [.inl 2] := by
  have hi := h.2.2
  have hR := h.1.1
  have hI : KI W.K := hi.1.1
  have hL := ki_L hI
  have hB := ki_B hI
  obtain ⟨c1, c2, c3, e1, e2, e3, hS⟩ := h.1.2.2.1
  obtain ⟨d1, d2, d3⟩ := RF_c hR e1 e2 e3
  have h4 := hS.2.2.2.1
  have h5 := hS.2.2.2.2.1
  have h6 := hS.2.2.2.2.2
  have hd : ∃ dr, R 15 5 = some dr ∧ (dr = 16 ∨ dr = 17) ∧ dr ≠ c3 := by
    rcases hR.2.2.2 with ⟨q1, q2⟩ | ⟨q1, q2⟩
    · rw [e3] at q1; have := Option.some.inj q1; exact ⟨_, q2, by omega, by omega⟩
    · rw [e3] at q1; have := Option.some.inj q1; exact ⟨_, q2, by omega, by omega⟩
  obtain ⟨dr, g5, hdr2, hne⟩ := hd
  obtain ⟨z, R2, D1, x1, cx⟩ := c_textP (n := n) hR h.1.2.2.2.1 hi.2.2.2.1 hi.2.2.2.2.1 h.1.2.2.2.2.1 h.1.2.1.1 hI g5 e3 hdr2
  have cfr : ∀ x k, x ≠ 476 → x ≠ 477 → x ≠ 478 → (x = 474 → k ≠ 0 ∧ k ≠ 1 ∧ k ≠ 2 ∧ k ≠ 7 ∧ k ≠ 8) → (x = 15 → k ≠ 0) → x ≠ dr → D1 x k = D x k := cx.2.2.2.2.1
  have hr := RWd_m h.2.1 (E := D1) (fun x k q => cfr x k (by omega) (by omega) (by omega) (by omega) (by omega) (by omega))
  have h71 : D1 7 1 = 0 := (cfr 7 1 (by omega) (by omega) (by omega) (by omega) (by omega) (by omega)).trans h.1.2.2.2.2.2.2.2.1
  have h111 : D1 11 1 = 1 := (cfr 11 1 (by omega) (by omega) (by omega) (by omega) (by omega) (by omega)).trans h.1.2.2.2.2.2.2.2.2.1
  have hL0 : LwC 7 c1 (l3 0 W.L0) D1 := h4.fx (cfr _ _ (by omega) (by omega) (by omega) (by omega) (by omega) (by omega)) (cfr _ _ (by omega) (by omega) (by omega) (by omega) (by omega) (by omega)) (fun i => cfr _ _ (by omega) (by omega) (by omega) (by omega) (by omega) (by omega))
  have hL1 : LwC 11 c2 (l3 1 W.L1) D1 := h5.fx (cfr _ _ (by omega) (by omega) (by omega) (by omega) (by omega) (by omega)) (cfr _ _ (by omega) (by omega) (by omega) (by omega) (by omega) (by omega)) (fun i => cfr _ _ (by omega) (by omega) (by omega) (by omega) (by omega) (by omega))
  have hcd : ∀ i, D1 c3 i = D c3 i := fun i => cfr _ _ (by omega) (by omega) (by omega) (by omega) (by omega) (by omega)
  have hfr : ∀ x k, (x < 7 ∨ (18 ≤ x ∧ x < 474)) → D1 x k = D x k := fun x k q => cfr x k (by omega) (by omega) (by omega) (by omega) (by omega) (by omega)
  have r3 : xur (xur R 15 4 (some dr)) 15 5 (some c3) 7 3 = some c1 ∧ xur (xur R 15 4 (some dr)) 15 5 (some c3) 11 3 = some c2 ∧ xur (xur R 15 4 (some dr)) 15 5 (some c3) 15 4 = some dr := ⟨(xur_n (by omega)).trans ((xur_n (by omega)).trans e1), (xur_n (by omega)).trans ((xur_n (by omega)).trans e2), (xur_n (by omega)).trans xur_y⟩
  have b2 : RCf W.K D1 := hr.2.1.2.1
  have b6 := hr.2.1.2.2.2.2.2.1
  have b7 := hr.2.1.2.2.2.2.2.2.1
  have b8 := hr.2.1.2.2.2.2.2.2.2
  have hR2 : RF R2 := by
    have cq := cx.2.2.2.2.2
    split at cq
    · rw [cq.1]; exact RF_15 hR g5 e3
    · rw [cq.1]; exact hR
  obtain ⟨z2, D2, x2, sx⟩ := r_textP (n := n) hR2 hr.2.2.1 hi.2.2.2.1 hi.2.2.2.2.1 hr.2.2.2.1 b2.1 b2.2.1 (by omega) (by omega) (by omega) (by omega) (D dr)
  have sf : ∀ x k, (x = 479 → k ≠ 0 ∧ k ≠ 24 ∧ k ≠ 25 ∧ k ≠ 26 ∧ k ≠ 27 ∧ k ≠ 28 ∧ k ≠ 37 ∧ k ≠ 38 ∧ k ≠ 39 ∧ k ≠ 41 ∧ k ≠ 42 ∧ k ≠ 43 ∧ k ≠ 44 ∧ k ≠ 45 ∧ k ≠ 47 ∧ k ≠ 48) → ((x = 504 ∨ x = 505) → k < 800) → x ≠ 506 → x ≠ 507 → D2 x k = D1 x k := sx.2.2.1
  have sfc : ∀ x k, x < 479 → D2 x k = D1 x k := fun x k q => sf x k (by omega) (by omega) (by omega) (by omega)
  have sfr : ∀ x k, 479 ≤ x → (x = 479 → k = 3 ∨ k = 5 ∨ k = 6 ∨ k = 7 ∨ k = 16 ∨ k = 63) → (x < 497 ∨ x = 498 ∨ x = 515) → D2 x k = D1 x k := fun x k q1 q2 q3 => sf x k (by omega) (by omega) (by omega) (by omega)
  have sfe : ∀ x k, 499 ≤ x → x ≤ 505 → (x = 499 → k < 2) → ((500 ≤ x ∧ x ≤ 503) → k < 32) → ((x = 504 ∨ x = 505) → k < 800) → D2 x k = D1 x k := fun x k q1 q2 q3 q4 q5 => sf x k (by omega) (by omega) (by omega) (by omega)
  have r0 : LwR 0 W.L0 D2 := b6.fe (Nat.zero_le _) sfe
  have r1 : LwR 1 W.L1 D2 := b7.fe (Nat.le_refl _) sfe
  have sc := sx.2.2.2
  have s24 := sx.2.1
  have cq := cx.2.2.2.2.2
  have cz := cx.1
  rcases sc with ⟨hq, e44, e45, P, ez, ec, el, epl, epv⟩ | ⟨hq, ez, e44, e45, e47, ef⟩
  · have plc := PlC_of cx hq ec epl.2.1 el
    have hpl0 := pl_place hq
    rw [if_pos hq] at cq cz
    obtain ⟨rfl, k0, kc⟩ := cq
    have ezz : z2 = z := ez.trans (ec.symm.trans cz.symm)
    subst ezz
    have hc := CWd_tx (L0 := W.L0) (L1 := W.L1) (P := P) (bs := []) h.1 hR2 hfr ⟨c1, c2, dr, r3.1, r3.2.1, r3.2.2, hL0, hL1, plc.1, fun j s q => (plc.2.2 j s q).2⟩ ⟨cx.2.1, fun k hk => absurd hk (Nat.not_lt_zero _)⟩ (cx.2.2.1.trans hq) (cx.2.2.2.1.trans hpl0) h71 h111
    exact ⟨_, _, D1, D2, _, x1, x2, CWd_m hc sfc, RWd_tx (L0 := W.L0) (L1 := W.L1) (P := P) (bs := []) hr sfr r0 r1 epl ⟨s24, fun k hk => absurd hk (Nat.not_lt_zero _)⟩ e44 e45, WI_tx hi hi.1.2.2.2.2.2.2.2.1 hi.1.2.2.2.2.2.2.2.2.1 hi.1.2.2.2.2.2.2.2.2.2.1 hi.1.2.2.2.2.2.2.2.2.2.2.1 epv epl.2.1 (Nat.zero_le _) by_nil⟩
  · rw [if_neg hq] at cq cz
    obtain ⟨rfl, k0⟩ := cq
    have ezz : z2 = z := ez.trans cz.symm
    subst ezz
    have hPl : PCa 15 c3 W.P D1 := h6.fx k0 hcd
    have hc := CWd_tx (L0 := W.L0) (L1 := W.L1) (P := W.P) (bs := []) h.1 hR2 hfr ⟨c1, c2, c3, e1, e2, e3, hL0, hL1, hPl⟩ ⟨cx.2.1, fun k hk => absurd hk (Nat.not_lt_zero _)⟩ cx.2.2.1 cx.2.2.2.1 h71 h111
    exact ⟨_, _, D1, D2, _, x1, x2, CWd_m hc sfc, RWd_tx (L0 := W.L0) (L1 := W.L1) (P := W.P) (bs := []) hr sfr r0 r1 (b8.fb e47 ef) ⟨s24, fun k hk => absurd hk (Nat.not_lt_zero _)⟩ e44 e45, WI_bs hi (Nat.zero_le _) by_nil⟩
theorem b_text {n : Nat} {R : Nat → Nat → Option Nat} {D : KK} {W : Wld} (h : JWd W R D) (a : Int) : Both 35 10 126 223 n R D [.inl a] := by
  rcases Classical.em (0 ≤ a ∧ a ≤ 2) with q | q
  · have c : a = 0 ∨ a = 1 ∨ a = 2 := by omega
    rcases c with rfl | rfl | rfl
    · exact b_textG h
    · exact b_textH h
    · exact b_textP h
  · exact b_textN h a q
/-! What was said, and told. -/
abbrev Wld.ys (W : Wld) (Y : YY) (sn nd : Nat → Int) : Wld := ((W.K, (W.b, W.B), Y, sn, nd, W.1.2.2.2.2.2), W.2)
theorem CWd_y {W : Wld} {R : Nat → Nat → Option Nat} {D E : KK} {Y : YY} {sn nd : Nat → Int} (h : CWd W R D) (g : ∀ x k, (x < 18 ∨ 24 ≤ x) → E x k = D x k) (y : YCa 18 Y sn nd E) : CWd (W.ys Y sn nd) R E := by
  obtain ⟨hR, ⟨n1, n2, n3, _⟩, ⟨c1, c2, c3, e1, e2, e3, hS⟩, a3, a4, a5, a6, a7, a8, a9⟩ := h
  obtain ⟨d1, d2, d3⟩ := RF_c hR e1 e2 e3
  obtain ⟨h1, h2, h3, h4, h5, h6⟩ := hS
  have m1 : CK 27 W.K E := CK_fr n1 (fun o k ho => g _ _ (by omega))
  have m2 : ∀ k, k < 750 → E 26 k = W.B k := fun k hk => (g 26 k (by omega)).trans (n2.2.2.2 k hk)
  have m25 : E 25 0 = W.b := (g 25 0 (by omega)).trans n2.1
  refine ⟨hR, ⟨m1, ⟨m25, n2.2.1, n2.2.2.1, m2⟩, n3.fr (fun b k q1 q2 => g b k (by omega)), fun _ _ _ _ _ => rfl⟩, ⟨c1, c2, c3, e1, e2, e3, m1, ⟨m25, m2⟩, y, ⟨(g _ _ (by omega)).trans h4.1, (g _ _ (by omega)).trans h4.2.1, fun i hi => (g _ _ (by omega)).trans (h4.2.2 i hi)⟩, ⟨(g _ _ (by omega)).trans h5.1, (g _ _ (by omega)).trans h5.2.1, fun i hi => (g _ _ (by omega)).trans (h5.2.2 i hi)⟩, ⟨(g _ _ (by omega)).trans h6.1, fun j s q => ⟨(g _ _ (by omega)).trans (h6.2 j s q).1, (g _ _ (by omega)).trans (h6.2 j s q).2.1, fun z => (g _ _ (by omega)).trans ((h6.2 j s q).2.2.1 z), fun z => (g _ _ (by omega)).trans ((h6.2 j s q).2.2.2.1 z), fun z => (g _ _ (by omega)).trans ((h6.2 j s q).2.2.2.2 z)⟩⟩⟩, a3.fr (fun x k q => g x k (by omega)), a4.fr (fun x k q1 q2 => g x k (by omega)), (g _ _ (by omega)).trans a5, (g _ _ (by omega)).trans a6, (g _ _ (by omega)).trans a7, (g _ _ (by omega)).trans a8, ?_⟩
  show match W.im with | none => E 5 5 = 0 | some s => E 5 5 = 1 ∧ SnC 47 48 51 52 55 56 58 65 67 (snX s) E
  cases hm : W.im with
  | none =>
    rw [hm] at a9
    exact (g 5 5 (by omega)).trans a9
  | some s =>
    rw [hm] at a9
    exact ⟨(g 5 5 (by omega)).trans a9.1, SnC_m a9.2 (fun x k q => g x k (by omega))⟩
theorem RWd_y {W : Wld} {D E : KK} {Y : YY} {sn nd : Nat → Int} (h : RWd W D) (g : ∀ x k, 479 ≤ x → (x = 479 → k ≠ 16) → (x < 491 ∨ 496 ≤ x) → E x k = D x k) (y : YR Y E) (s : ∀ k, k < 10 → E 494 k = sn k ∧ E 495 k = nd k) : RWd (W.ys Y sn nd) E := by
  obtain ⟨a1, a2, a3, a4, a5, a6, a7⟩ := h
  obtain ⟨v1, v2, v3, v4, v5, v6, v7⟩ := a1
  obtain ⟨b1, b2, b3, b4, b5, b6, b7, b8⟩ := a2
  have h480 : E 480 = D 480 := funext (fun k => g 480 k (by omega) (by omega) (by omega))
  have w1 : RW W.K W.b (E 480) := by rw [h480]; exact v1
  have w2 : RCf W.K E := by
    obtain ⟨c1, c2, c3, c4, c5, c6, c7, c8, c9, c10⟩ := v2
    exact ⟨(g _ _ (by omega) (by omega) (by omega)).trans c1, (g _ _ (by omega) (by omega) (by omega)).trans c2, fun i q => (g _ _ (by omega) (by omega) (by omega)).trans (c3 i q), fun i q => (g _ _ (by omega) (by omega) (by omega)).trans (c4 i q), fun i q => (g _ _ (by omega) (by omega) (by omega)).trans (c5 i q), fun i q => (g _ _ (by omega) (by omega) (by omega)).trans (c6 i q), fun i q => (g _ _ (by omega) (by omega) (by omega)).trans (c7 i q), fun i q => (g _ _ (by omega) (by omega) (by omega)).trans (c8 i q), fun i q => (g _ _ (by omega) (by omega) (by omega)).trans (c9 i q), fun i q => (g _ _ (by omega) (by omega) (by omega)).trans (c10 i q)⟩
  have w5 : ∀ k, k < 750 → E 496 k = W.B k := fun k hk => (g 496 k (by omega) (by omega) (by omega)).trans (v5 k hk)
  refine ⟨⟨w1, w2, (g 479 5 (by omega) (by omega) (by omega)).trans v3, v4, w5, v6.up (fun k => g 481 k (by omega) (by omega) (by omega)) (g 479 3 (by omega) (by omega) (by omega)), fun _ _ _ _ _ _ _ _ => rfl⟩, ⟨w1, w2, w5, y, s, b6.fr (fun x k q1 q2 => g x k (by omega) (by omega) (by omega)), b7.fr (fun x k q1 q2 => g x k (by omega) (by omega) (by omega)), b8.fr (g 479 47 (by omega) (by omega) (by omega)) (fun k => g 507 k (by omega) (by omega) (by omega))⟩, a3.fr (fun x k q => g x k (by omega) (by omega) (by omega)), fun j hj => (g 498 j (by omega) (by omega) (by omega)).trans (a4 j hj), (g 479 44 (by omega) (by omega) (by omega)).trans a5, (g 479 45 (by omega) (by omega) (by omega)).trans a6, ?_⟩
  show match W.im with | none => E 479 63 = 0 | some s => E 479 63 = 1 ∧ ∃ Dm, SnR s Dm ∧ ∀ j, j < 2904 → E 515 j = Dm (ad j).1 (ad j).2
  cases hm : W.im with
  | none =>
    rw [hm] at a7
    exact (g 479 63 (by omega) (by omega) (by omega)).trans a7
  | some s =>
    rw [hm] at a7
    obtain ⟨c1, Dm, c2, c3⟩ := a7
    exact ⟨(g 479 63 (by omega) (by omega) (by omega)).trans c1, Dm, c2, fun j hj => (g 515 j (by omega) (by omega) (by omega)).trans (c3 j hj)⟩
theorem WI_ys {W : Wld} {Y : YY} {sn nd : Nat → Int} (h : WI W) (hy : YI Y) (hs : ∀ k, 0 ≤ sn k ∧ sn k ≤ 999) (hn : ∀ k, 0 ≤ nd k ∧ nd k ≤ 999) : WI (W.ys Y sn nd) := by
  obtain ⟨⟨a1, a2, a3, a4, a5, a6, a7, a8⟩, u1, u2, w1, w2, im⟩ := h
  refine ⟨⟨a1, a2, a3, a4, hy, hs, hn, a8⟩, u1, fun u hu => ?_, w1, w2, im⟩
  obtain ⟨b1, b2, b3, b4, b5, b6, b7, b8⟩ := u2 u hu
  exact ⟨b1, b2, b3, b4, hy, hs, hn, b8⟩
theorem xfs {D : KK} {a j k : Nat} {v : Int} {f : Nat → Int} (h : ¬ k = j → D a k = f k) : xui D a j v a k = fset f j v k := by
  unfold xui fset
  rcases Classical.em (k = j) with e | e
  · rw [if_pos ⟨rfl, e⟩, if_pos e]
  · rw [if_neg (fun q => e q.2), if_neg e, h e]
theorem sad_R {K : KK} {Y : YY} {p h v : Int} {D : KK} (y : YR Y D) (hy : YI Y) : YR (sadY K Y p h v) (sadE K Y p h v D) := by
  have h0 := hy.1.1
  unfold sadY sadE
  split
  · exact ⟨xui_s, fun i hi => by exfalso; have : (i : Int) < 0 := hi; omega⟩
  · split
    · exact y
    · split
      · refine ⟨xui_s, fun i hi => ?_⟩
        have hi2 : (i : Int) < Y.1 + 1 := hi
        show xui (xui (xui (xui D 491 Y.1.toNat p) 492 Y.1.toNat h) 493 Y.1.toNat v) 479 16 (Y.1 + 1) 491 i = fset Y.2.1 Y.1.toNat p i ∧ xui (xui (xui (xui D 491 Y.1.toNat p) 492 Y.1.toNat h) 493 Y.1.toNat v) 479 16 (Y.1 + 1) 492 i = fset Y.2.2.1 Y.1.toNat h i ∧ xui (xui (xui (xui D 491 Y.1.toNat p) 492 Y.1.toNat h) 493 Y.1.toNat v) 479 16 (Y.1 + 1) 493 i = fset Y.2.2.2 Y.1.toNat v i
        have u : ¬ i = Y.1.toNat → D 491 i = Y.2.1 i ∧ D 492 i = Y.2.2.1 i ∧ D 493 i = Y.2.2.2 i := fun e => y.2 i (by omega)
        exact ⟨(xui_a (by decide)).trans ((xui_a (by decide)).trans ((xui_a (by decide)).trans (xfs (fun e => (u e).1)))), (xui_a (by decide)).trans ((xui_a (by decide)).trans (xfs (fun e => (xui_a (by decide)).trans (u e).2.1))), (xui_a (by decide)).trans (xfs (fun e => (xui_a (by decide)).trans ((xui_a (by decide)).trans (u e).2.2)))⟩
      · exact y
theorem sadE_k {K : KK} {Y : YY} {p h v : Int} {D : KK} {x k : Nat} (h1 : x = 479 → k ≠ 16) (h2 : x < 491 ∨ 494 ≤ x) : sadE K Y p h v D x k = D x k := by
  have e : ¬ (x = 479 ∧ k = 16) := fun q => h1 q.1 q.2
  unfold sadE
  split
  · exact if_neg e
  · split
    · rfl
    · split
      · exact (if_neg e).trans ((xui_a (by omega)).trans ((xui_a (by omega)).trans (xui_a (by omega))))
      · rfl
theorem b_said {n : Nat} {R : Nat → Nat → Option Nat} {D : KK} {W : Wld} (h : JWd W R D) (p hh v : Int) : Both 2 2 139 271 n R D [.inl p, .inl hh, .inl v] := by
  have hI : KI W.K := h.2.2.1.1
  have hY : YI W.Y := h.2.2.1.2.2.2.2.1
  have hy := h.yc
  obtain ⟨D1, x1, y1, f10⟩ := c_said (n := n) h.1.1 h.1.2.1.1 hI hy.1 hY p hh v
  have f1 : ∀ x k, (x < 18 ∨ 22 ≤ x) → D1 x k = D x k := f10
  have hr := RWd_m h.2.1 (E := D1) (fun x k q => f1 x k (by omega))
  obtain ⟨D2, x2, r⟩ := r_said (n := n) h.1.1 hr.1 hI hr.2.1.2.2.2.1 hY p hh v
  have hc := CWd_y (Y := sadY W.K W.Y p hh v) (sn := W.sn) (nd := W.nd) h.1 (fun x k q => f1 x k (by omega)) ⟨y1.1, fun i hi => y1.2 i hi, fun k hk => ⟨(f1 22 k (by omega)).trans (hy.2.1 k hk), (f1 23 k (by omega)).trans (hy.2.2 k hk)⟩⟩
  have b5 := hr.2.1.2.2.2.2.1
  have hd := RWd_y (Y := sadY W.K W.Y p hh v) (sn := W.sn) (nd := W.nd) (E := sadE W.K W.Y p hh v D1) hr (fun x k q1 q2 q3 => sadE_k q2 (by omega)) (sad_R hr.2.1.2.2.2.1 hY) (fun k hk => ⟨(sadE_k (by omega) (by omega)).trans (b5 k hk).1, (sadE_k (by omega) (by omega)).trans (b5 k hk).2⟩)
  exact ⟨_, R, D1, D2, _, x1, x2, CWd_m hc (fun x k q => (r.lo x k q).trans (sadE_k (by omega) (by omega))), RWd_kb hd r, WI_ys h.2.2 (sadY_I hY) h.2.2.1.2.2.2.2.2.1 h.2.2.1.2.2.2.2.2.2.1⟩
theorem fset_b {f : Nat → Int} {j : Nat} {v : Int} (h : ∀ k, 0 ≤ f k ∧ f k ≤ 999) (h0 : 0 ≤ v) (h1 : v ≤ 999) : ∀ k, 0 ≤ fset f j v k ∧ fset f j v k ≤ 999 := fun k => by
  unfold fset
  split
  · exact ⟨h0, h1⟩
  · exact h k
theorem b_tell {n : Nat} {R : Nat → Nat → Option Nat} {D : KK} {W : Wld} (h : JWd W R D) (w p v : Int) : Both 3 2 141 275 n R D [.inl w, .inl p, .inl v] := by
  have hI : KI W.K := h.2.2.1.1
  have hy := h.yc
  have hs := h.2.2.1.2.2.2.2.2.1
  have hn := h.2.2.1.2.2.2.2.2.2.1
  obtain ⟨D1, x1, f1⟩ := c_tell (n := n) h.1.1 h.1.2.1.1 hI w p v
  rcases Classical.em (telQ W.K w p v) with hq | hq
  · rw [if_pos hq] at f1
    have hv : 0 ≤ v ∧ v ≤ 999 := hq.2
    rcases Classical.em (w = 0) with e | e
    · rw [if_pos e] at f1
      subst f1
      have hr := RWd_m h.2.1 (E := xui D 22 p.toNat v) (fun x k q => xui_a (by omega))
      obtain ⟨D2, x2, r⟩ := r_tell (n := n) h.1.1 hr.1 hI w p v
      rw [if_pos hq, if_pos e] at r
      have hc := CWd_y (Y := W.Y) (sn := fset W.sn p.toNat v) (nd := W.nd) (E := xui D 22 p.toNat v) h.1 (fun x k q => xui_a (by omega)) ⟨(xui_a (by omega)).trans hy.1.1, fun i hi => ⟨(xui_a (by omega)).trans (hy.1.2 i hi).1, (xui_a (by omega)).trans (hy.1.2 i hi).2.1, (xui_a (by omega)).trans (hy.1.2 i hi).2.2⟩, fun k hk => ⟨xfs (fun _ => (hy.2.1 k hk)), (xui_a (by omega)).trans (hy.2.2 k hk)⟩⟩
      have b4 := hr.2.1.2.2.2.1
      have b5 := hr.2.1.2.2.2.2.1
      have hd := RWd_y (Y := W.Y) (sn := fset W.sn p.toNat v) (nd := W.nd) (E := xui (xui D 22 p.toNat v) 494 p.toNat v) hr (fun x k q1 q2 q3 => xui_a (by omega)) ⟨(xui_a (by omega)).trans b4.1, fun i hi => ⟨(xui_a (by omega)).trans (b4.2 i hi).1, (xui_a (by omega)).trans (b4.2 i hi).2.1, (xui_a (by omega)).trans (b4.2 i hi).2.2⟩⟩ (fun k hk => ⟨xfs (fun _ => (b5 k hk).1), (xui_a (by omega)).trans (b5 k hk).2⟩)
      exact ⟨_, R, _, D2, _, x1, x2, CWd_m hc (fun x k q => (r.lo x k q).trans (xui_a (by omega))), RWd_kb hd r, WI_ys h.2.2 h.2.2.1.2.2.2.2.1 (fset_b hs hv.1 hv.2) hn⟩
    · rw [if_neg e] at f1
      subst f1
      have hr := RWd_m h.2.1 (E := xui D 23 p.toNat v) (fun x k q => xui_a (by omega))
      obtain ⟨D2, x2, r⟩ := r_tell (n := n) h.1.1 hr.1 hI w p v
      rw [if_pos hq, if_neg e] at r
      have hc := CWd_y (Y := W.Y) (sn := W.sn) (nd := fset W.nd p.toNat v) (E := xui D 23 p.toNat v) h.1 (fun x k q => xui_a (by omega)) ⟨(xui_a (by omega)).trans hy.1.1, fun i hi => ⟨(xui_a (by omega)).trans (hy.1.2 i hi).1, (xui_a (by omega)).trans (hy.1.2 i hi).2.1, (xui_a (by omega)).trans (hy.1.2 i hi).2.2⟩, fun k hk => ⟨(xui_a (by omega)).trans (hy.2.1 k hk), xfs (fun _ => (hy.2.2 k hk))⟩⟩
      have b4 := hr.2.1.2.2.2.1
      have b5 := hr.2.1.2.2.2.2.1
      have hd := RWd_y (Y := W.Y) (sn := W.sn) (nd := fset W.nd p.toNat v) (E := xui (xui D 23 p.toNat v) 495 p.toNat v) hr (fun x k q1 q2 q3 => xui_a (by omega)) ⟨(xui_a (by omega)).trans b4.1, fun i hi => ⟨(xui_a (by omega)).trans (b4.2 i hi).1, (xui_a (by omega)).trans (b4.2 i hi).2.1, (xui_a (by omega)).trans (b4.2 i hi).2.2⟩⟩ (fun k hk => ⟨(xui_a (by omega)).trans (b5 k hk).1, xfs (fun _ => (b5 k hk).2)⟩)
      exact ⟨_, R, _, D2, _, x1, x2, CWd_m hc (fun x k q => (r.lo x k q).trans (xui_a (by omega))), RWd_kb hd r, WI_ys h.2.2 h.2.2.1.2.2.2.2.1 hs (fset_b hn hv.1 hv.2)⟩
  · rw [if_neg hq] at f1
    subst f1
    obtain ⟨D2, x2, r⟩ := r_tell (n := n) h.1.1 h.2.1.1 hI w p v
    rw [if_neg hq] at r
    exact ⟨_, R, D1, D2, W, x1, x2, h.kb h.1.2.1 r h.2.2⟩
