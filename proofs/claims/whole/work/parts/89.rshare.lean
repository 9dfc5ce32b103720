/-! Share by its name: the reference. -/
theorem pof_bit {K : KK} {s : Int} (h0 : 0 ≤ s) (h1 : s < 64) : ∀ (k : Nat) (b : Int), 0 ≤ b → b + k ≤ 6 → pofL K s k b = (match bitF s k b with | [] => -1 | c :: _ => K 14 c.toNat)
  | 0, _, _, _ => rfl
  | k + 1, b, h2, h3 => by
    rcases Classical.em (inS s b) with q | q
    · rw [bitF_in h0 h1 h2 (by omega) q]; exact if_pos q
    · rw [bitF_out h0 h1 h2 (by omega) q, ← pof_bit h0 h1 k (b + 1) (by omega) (by omega)]; exact if_neg q
theorem tog_bit {K : KK} {s p : Int} (h0 : 0 ≤ s) (h1 : s < 64) : ∀ (k : Nat) (b : Int), 0 ≤ b → b + k ≤ 6 → (togL K s p k b = true ↔ (¬ p = -1 ∧ ∀ c ∈ bitF s k b, K 14 c.toNat = p))
  | 0, _, _, _ => by
    show (! decide (p = -1)) = true ↔ _
    simp [bitF]
  | k + 1, b, h2, h3 => by
    have ih := tog_bit (K := K) (p := p) h0 h1 k (b + 1) (by omega) (by omega)
    rcases Classical.em (inS s b) with q | q
    · rw [bitF_in h0 h1 h2 (by omega) q]
      rcases Classical.em (K 14 b.toNat = p) with r | r
      · rw [show togL K s p (k + 1) b = togL K s p k (b + 1) from if_neg (fun x => x.2 r), ih]
        constructor
        · rintro ⟨a1, a2⟩
          refine ⟨a1, fun c hc => ?_⟩
          rcases List.mem_cons.mp hc with e | e
          · rw [e]; exact r
          · exact a2 c e
        · rintro ⟨a1, a2⟩
          exact ⟨a1, fun c hc => a2 c (List.mem_cons_of_mem _ hc)⟩
      · rw [show togL K s p (k + 1) b = false from if_pos ⟨q, r⟩]
        constructor
        · intro x; cases x
        · rintro ⟨a1, a2⟩
          exact absurd (a2 b (List.mem_cons_self ..)) r
    · rw [bitF_out h0 h1 h2 (by omega) q, ← ih, show togL K s p (k + 1) b = togL K s p k (b + 1) from if_neg (fun x => q x.1)]
theorem brd_bit {K : KK} {s : Int} (h0 : 0 ≤ s) (h1 : s < 64) : ∀ (k : Nat) (b m : Int), 0 ≤ b → b + k ≤ 6 → m ≤ brdL K s k b m ∧ (∀ c ∈ bitF s k b, brK K c ≤ brdL K s k b m) ∧ (brdL K s k b m = m ∨ ∃ c ∈ bitF s k b, brdL K s k b m = brK K c)
  | 0, _, m, _, _ => ⟨Int.le_refl _, fun c hc => absurd hc (List.not_mem_nil), Or.inl rfl⟩
  | k + 1, b, m, h2, h3 => by
    rcases Classical.em (inS s b) with q | q
    · obtain ⟨i1, i2, i3⟩ := brd_bit (K := K) h0 h1 k (b + 1) (mxF m (K 16 b.toNat)) (by omega) (by omega)
      have hm := mxF_sp m (K 16 b.toNat)
      rw [bitF_in h0 h1 h2 (by omega) q, show brdL K s (k + 1) b m = brdL K s k (b + 1) (mxF m (K 16 b.toNat)) from congrArg (brdL K s k (b + 1)) (if_pos q)]
      refine ⟨by omega, fun c hc => ?_, ?_⟩
      · rcases List.mem_cons.mp hc with e | e
        · rw [e]; unfold brK; omega
        · exact i2 c e
      · rcases i3 with e | ⟨c, hc, e⟩
        · rcases hm.2.2 with x | x
          · exact Or.inl (e.trans x)
          · exact Or.inr ⟨b, List.mem_cons_self .., e.trans x⟩
        · exact Or.inr ⟨c, List.mem_cons_of_mem _ hc, e⟩
    · obtain ⟨i1, i2, i3⟩ := brd_bit (K := K) h0 h1 k (b + 1) m (by omega) (by omega)
      rw [bitF_out h0 h1 h2 (by omega) q, show brdL K s (k + 1) b m = brdL K s k (b + 1) m from congrArg (brdL K s k (b + 1)) (if_neg q)]
      exact ⟨i1, i2, i3⟩
theorem gd_mem {l : List Int} {j : Nat} (h : j < l.length) : l.getD j 0 ∈ l := by
  simp [List.getD, h]
theorem mem_gd {l : List Int} {c : Int} (h : c ∈ l) : ∃ j, j < l.length ∧ l.getD j 0 = c := by
  obtain ⟨j, hj, e⟩ := List.getElem_of_mem h
  exact ⟨j, hj, by simp [List.getD, hj, e]⟩
theorem shr_f {K : KK} {s up : Int} (hI : KI K) (hs : xok s) (h : ¬ alR K s) : shrF K s up = -1 := if_pos (fun q => h ((alP_R hI hs).mp q.1))
theorem shr_p {K : KK} {s : Int} (hI : KI K) (h : alR K s) : pofF K s = K 14 ((bitF s 6 0).getD 0 0).toNat ∧ (togB K s = true ↔ onP K (bitF s 6 0)) := by
  have hb := ki_B hI
  have h64 := (alR_64 hI h).2
  have h0 := h.1
  have hl := (s_nat h0 h64).2
  have e := s_bits hI h
  have h1 := pof_bit (K := K) (s := s) (by omega) h64 (K 13 0).toNat 0 (by omega) (by omega)
  rw [e] at h1
  have e1 : pofF K s = K 14 ((bitF s 6 0).getD 0 0).toNat := by
    unfold pofF
    rw [h1]
    cases hh : bitF s 6 0 with
    | nil => rw [hh] at hl; simp at hl; omega
    | cons c r => rfl
  refine ⟨e1, ?_⟩
  unfold togB
  rw [tog_bit (by omega) h64 (K 13 0).toNat 0 (by omega) (by omega), e, e1]
  have hk := ki_14 hI ((bitF s 6 0).getD 0 0).toNat
  constructor
  · rintro ⟨_, a2⟩ j hj
    exact a2 _ (gd_mem hj)
  · intro a
    refine ⟨by omega, fun c hc => ?_⟩
    obtain ⟨j, hj, x⟩ := mem_gd hc
    rw [← x]
    exact a j hj
theorem shr_n {K : KK} {s up : Int} (hI : KI K) (hs : xok s) (h : alR K s) (h2 : lckF K (K 14 ((bitF s 6 0).getD 0 0).toNat) up = -1 ∨ ¬ onP K (bitF s 6 0)) : shrF K s up = -1 := by
  obtain ⟨p1, p2⟩ := shr_p hI h
  unfold shrF
  rcases Classical.em (alP K s ∧ togB K s = true) with q | q
  · rw [if_neg (fun x => x q), if_pos]
    rw [p1]
    rcases h2 with x | x
    · exact Or.inl x
    · exact absurd (p2.mp q.2) x
  · rw [if_pos q]
theorem brd_l {K : KK} {s : Int} {ls : List Int} (hI : KI K) (h : alR K s) (hp : ls.Perm (bitF s 6 0)) (hst : SrtB (brK K) ls) : brdF K s = brK K (ls.getD (ls.length - 1) 0) := by
  have hb := ki_B hI
  have h64 := (alR_64 hI h).2
  have h0 := h.1
  have hl := (s_nat h0 h64).2
  have e := s_bits hI h
  obtain ⟨i1, i2, i3⟩ := brd_bit (K := K) (s := s) (by omega) h64 (K 13 0).toNat 0 0 (by omega) (by omega)
  rw [e] at i2 i3
  have hlen := hp.length_eq
  have hm : ls.getD (ls.length - 1) 0 ∈ bitF s 6 0 := hp.mem_iff.mp (gd_mem (by omega))
  have h1 := i2 _ hm
  have h3 : ∀ c ∈ bitF s 6 0, brK K c ≤ brK K (ls.getD (ls.length - 1) 0) := fun c hc => by
    obtain ⟨j, hj, x⟩ := mem_gd (hp.mem_iff.mpr hc)
    rw [← x]
    rcases Classical.em (j = ls.length - 1) with y | y
    · rw [y]; exact Int.le_refl _
    · exact hst j (ls.length - 1) (by omega) (by omega)
  have h4 : 0 ≤ brK K (ls.getD (ls.length - 1) 0) := (ki_16 hI _).1
  unfold brdF
  rcases i3 with x | ⟨c, hc, x⟩
  · omega
  · have := h3 c hc; omega
theorem shr_y {K : KK} {s up lock : Int} {ls : List Int} (hI : KI K) (hs : xok s) (h : alR K s) (hlk : lckF K (K 14 ((bitF s 6 0).getD 0 0).toNat) up = lock) (hl0 : ¬ lock = -1) (ho : onP K (bitF s 6 0)) (hp : ls.Perm (bitF s 6 0)) (hst : SrtB (brK K) ls) : shrF K s up = if K 4 lock.toNat < brK K (ls.getD (ls.length - 1) 0) then -1 else ((grL (brK K) (K 4 lock.toNat) ls.length ls : Nat) : Int) := by
  obtain ⟨p1, p2⟩ := shr_p hI h
  have hb := ki_B hI
  have h64 := (alR_64 hI h).2
  unfold shrF
  rw [if_neg (fun x => x ⟨(alP_R hI hs).mpr h, p2.mpr ho⟩), p1, hlk, brd_l hI h hp hst]
  rcases Classical.em (K 4 lock.toNat < brK K (ls.getD (ls.length - 1) 0)) with q | q
  · rw [if_pos (Or.inr q), if_pos q]
  · rw [if_neg (fun x => x.elim hl0 q), if_neg q]
    have h0 := h.1
    exact fps_grL (K 13 0).toNat (by omega) h64 (by omega) (by rw [s_bits hI h]; exact hp) hst
theorem lst3 (q : List Int) : q = [] ∨ (∃ a, q = [a]) ∨ ∃ a m z, q = a :: (m ++ [z]) := by
  cases q with
  | nil => exact Or.inl rfl
  | cons a r =>
    rcases lst_cases r with e | ⟨m, z, e⟩
    · exact Or.inr (Or.inl ⟨a, by rw [e]⟩)
    · exact Or.inr (Or.inr ⟨a, m, z, by rw [e]⟩)
theorem gd_pre {p q : List Int} {a : Int} : (p ++ a :: q).getD p.length 0 = a := gd_app
theorem grL_n {br : Int → Int} {w : Int} : ∀ k : Nat, grL br w k [] = 0
  | 0 => rfl
  | _ + 1 => rfl
set_option maxHeartbeats 4000000 in
theorem r_gr_L {n : Nat} {R : Nat → Nat → Option Nat} {K D0 D : KK} {b : Int} {B : Nat → Int} {U : UU} (hR : RF R) (hV : RV 0 K b B U D0 D) (hI : KI K) (s up nn lock : Int) (hlk0 : 0 ≤ lock) (hlk1 : lock < K 0 0) : ∀ (k : Nat) (p q t : List Int) (ps aa bb : Int), LnR (p ++ q ++ t) D → (p ++ q ++ t).length ≤ 6 → BdL (K 13 0) (p ++ q ++ t) → q.length ≤ k → aa = (p.length : Int) → bb = (p.length : Int) + (q.length : Int) - 1 → 0 ≤ ps → ps + q.length ≤ 6 → XX (XC 2) 289 (fun r2 m2 => r2 = some (.inl (ps + (((grL (brK K) (K 4 lock.toNat) k q : Nat)) : Int))) ∧ m2 = (xS n, R, D)) 98 [some (.inr (some 479)), some (.inl s), some (.inl up), some (.inl nn), some (.inl lock), some (.inl ps), some (.inl aa), some (.inl bb)] [] (xS n, R, D) := by
  intro k
  induction k using Nat.strongRecOn with
  | ind k ih =>
  intro p q t ps aa bb hL hl6 hbd hk haa hbb hps0 hps1
  have hbB := ki_B hI
  have hbL := ki_L hI
  have hlen : (p ++ q ++ t).length = p.length + q.length + t.length := by simp; omega
  rcases lst3 q with e | ⟨a, e⟩ | ⟨a, m, z, e⟩
  · subst e
    have hl0 : ([] : List Int).length = 0 := rfl
    refine xx_iload (q := 100) rfl rfl rfl ?_
    refine xx_iload (q := 102) rfl rfl rfl ?_
    refine xx_icmp_gt (q := 167) (q2 := 105) rfl rfl rfl (fun _ => ?_) (fun h102 => (by exfalso; omega))
    refine xx_iload (q := 169) rfl rfl rfl ?_
    exact xx_iret rfl trivial ⟨congrArg (fun z => some (Sum.inl z)) (show ps = ps + (((grL (brK K) (K 4 lock.toNat) k [] : Nat)) : Int) by rw [grL_n]; omega), rfl⟩
  · subst e
    have hl0 : [a].length = 1 := rfl
    refine xx_iload (q := 100) rfl rfl rfl ?_
    refine xx_iload (q := 102) rfl rfl rfl ?_
    refine xx_icmp_gt (q := 167) (q2 := 105) rfl rfl rfl (fun h102 => (by exfalso; omega)) (fun _ => ?_)
    refine xx_iload (q := 107) rfl rfl rfl ?_
    refine xx_iload (q := 109) rfl rfl rfl ?_
    refine xx_icmp_ge (q := 152) (q2 := 112) rfl rfl rfl (fun _ => ?_) (fun h109 => (by exfalso; omega))
    refine xx_iload (q := 154) rfl rfl rfl ?_
    refine xx_iconst (q := 155) rfl rfl (by decide) ?_
    refine xx_isubR (q := 156) rfl rfl (by omega) (by omega) ?_
    refine xx_istore (q := 158) (loc2 := [_, _, _, _, _, _, _, _]) rfl rfl (Nat.le_of_ble_eq_true rfl) rfl ?_
    refine xx_iload (q := 160) rfl rfl rfl ?_
    refine xx_iconst (q := 161) rfl rfl (by decide) ?_
    refine xx_iaddR (q := 162) rfl rfl (by omega) (by omega) ?_
    refine xx_istore (q := 164) (loc2 := [_, _, _, _, _, _, _, _]) rfl rfl (Nat.le_of_ble_eq_true rfl) rfl ?_
    refine xx_goto (q := 98) rfl rfl ?_
    obtain ⟨k, rfl⟩ : ∃ k2, k = k2 + 1 := ⟨k - 1, by omega⟩
    have e9 : ps + (((grL (brK K) (K 4 lock.toNat) (k + 1) [a] : Nat)) : Int) = ps + 1 + (((grL (brK K) (K 4 lock.toNat) k [] : Nat)) : Int) := by
      rw [show grL (brK K) (K 4 lock.toNat) (k + 1) [a] = grL (brK K) (K 4 lock.toNat) k [] + 1 from if_neg (fun q => absurd q.1 (by simp))]; omega
    rw [e9]
    exact ih k (by omega) p [] (a :: t) _ _ _ (by rw [List.append_nil]; rw [List.append_assoc] at hL; exact hL) (by rw [List.append_nil]; rw [List.append_assoc] at hl6; exact hl6) (by rw [List.append_nil]; rw [List.append_assoc] at hbd; exact hbd) (Nat.zero_le _) (by omega) (by show bb - 1 = (p.length : Int) + 0 - 1; omega) (by omega) (by show ps + 1 + (0 : Int) ≤ 6; omega)
  · subst e
    have hl0 : (a :: (m ++ [z])).length = m.length + 2 := by simp
    have hlm : (m ++ [z]).length = m.length + 1 := List.length_append
    have eA : (p ++ a :: (m ++ [z]) ++ t).getD aa.toNat 0 = a := by
      rw [haa, show ((p.length : Int)).toNat = p.length by omega, List.append_assoc]
      exact gd_pre
    have eZ : (p ++ a :: (m ++ [z]) ++ t).getD bb.toNat 0 = z := by
      rw [show p ++ a :: (m ++ [z]) ++ t = (p ++ a :: m) ++ z :: t by simp, show bb.toNat = (p ++ a :: m).length by rw [List.length_append, List.length_cons]; omega]
      exact gd_pre
    have bA := hbd aa.toNat (by omega)
    rw [eA] at bA
    have bZ := hbd bb.toNat (by omega)
    rw [eZ] at bZ
    refine xx_iload (q := 100) rfl rfl rfl ?_
    refine xx_iload (q := 102) rfl rfl rfl ?_
    refine xx_icmp_gt (q := 167) (q2 := 105) rfl rfl rfl (fun h102 => (by exfalso; omega)) (fun _ => ?_)
    refine xx_iload (q := 107) rfl rfl rfl ?_
    refine xx_iload (q := 109) rfl rfl rfl ?_
    refine xx_icmp_ge (q := 152) (q2 := 112) rfl rfl rfl (fun h109 => (by exfalso; omega)) (fun _ => ?_)
    refine xx_aload_n (q := 113) rfl rfl rfl ?_
    refine xx_getR (q := 116) rfl rfl rfl xS_479 (Nat.le_of_ble_eq_true rfl) rfl (hR.1 479 14 rfl) ?_
    refine xx_aload_n (q := 117) rfl rfl rfl ?_
    refine xx_getR (q := 120) rfl rfl rfl xS_479 (Nat.le_of_ble_eq_true rfl) rfl (hR.1 479 60 rfl) ?_
    refine xx_iload (q := 122) rfl rfl rfl ?_
    refine xx_iaz (v := a) (q := 123) rfl rfl xS_513 (by omega) (by omega) ((hL.z (by omega) (by omega)).trans eA) ?_
    have hbd1 := bA
    refine xx_iaz (v := K 16 (a).toNat) (q := 124) rfl rfl xS_489 (by omega) (by omega) (rv_489 hV (p := a) (by omega) (by omega)) ?_
    have hb2 : 0 ≤ K 16 (a).toNat ∧ K 16 (a).toNat ≤ 9 := by have h := ki_16 hI (a).toNat; exact h
    refine xx_aload_n (q := 125) rfl rfl rfl ?_
    refine xx_getR (q := 128) rfl rfl rfl xS_479 (Nat.le_of_ble_eq_true rfl) rfl (hR.1 479 14 rfl) ?_
    refine xx_aload_n (q := 129) rfl rfl rfl ?_
    refine xx_getR (q := 132) rfl rfl rfl xS_479 (Nat.le_of_ble_eq_true rfl) rfl (hR.1 479 60 rfl) ?_
    refine xx_iload (q := 134) rfl rfl rfl ?_
    refine xx_iaz (v := z) (q := 135) rfl rfl xS_513 (by omega) (by omega) ((hL.z (by omega) (by omega)).trans eZ) ?_
    have hbd3 := bZ
    refine xx_iaz (v := K 16 (z).toNat) (q := 136) rfl rfl xS_489 (by omega) (by omega) (rv_489 hV (p := z) (by omega) (by omega)) ?_
    have hb4 : 0 ≤ K 16 (z).toNat ∧ K 16 (z).toNat ≤ 9 := by have h := ki_16 hI (z).toNat; exact h
    refine xx_iaddR (q := 137) rfl rfl (by omega) (by omega) ?_
    refine xx_aload_n (q := 138) rfl rfl rfl ?_
    refine xx_iload (q := 140) rfl rfl rfl ?_
    refine xx_callV (q := 143) (As := [_]) (rest := [_]) rfl rfl rfl (Or.inl rfl) rfl rfl (Nat.le_of_ble_eq_true rfl) xS_479 (XCm (r_wideOf hR hV hI lock (by omega) (by omega)) rfl) rfl ?_
    have hb5 := ki_4 hI (lock).toNat
    refine xx_icmp_gt (q := 152) (q2 := 146) rfl rfl rfl (fun h143 => ?_) (fun h143 => ?_)
    · refine xx_iload (q := 154) rfl rfl rfl ?_
      refine xx_iconst (q := 155) rfl rfl (by decide) ?_
      refine xx_isubR (q := 156) rfl rfl (by omega) (by omega) ?_
      refine xx_istore (q := 158) (loc2 := [_, _, _, _, _, _, _, _]) rfl rfl (Nat.le_of_ble_eq_true rfl) rfl ?_
      refine xx_iload (q := 160) rfl rfl rfl ?_
      refine xx_iconst (q := 161) rfl rfl (by decide) ?_
      refine xx_iaddR (q := 162) rfl rfl (by omega) (by omega) ?_
      refine xx_istore (q := 164) (loc2 := [_, _, _, _, _, _, _, _]) rfl rfl (Nat.le_of_ble_eq_true rfl) rfl ?_
      refine xx_goto (q := 98) rfl rfl ?_
      obtain ⟨k, rfl⟩ : ∃ k2, k = k2 + 1 := ⟨k - 1, by omega⟩
      have eg0 : grL (brK K) (K 4 lock.toNat) (k + 1) (a :: (m ++ [z])) = if 1 ≤ (m ++ [z]).length ∧ brK K a + brK K ((m ++ [z]).getLastD a) ≤ K 4 lock.toNat then grL (brK K) (K 4 lock.toNat) k (m ++ [z]).dropLast + 1 else grL (brK K) (K 4 lock.toNat) k (a :: (m ++ [z])).dropLast + 1 := rfl
      have hlz : (m ++ [z]).getLastD a = z := by simp
      rw [if_neg (fun q => absurd q.2 (by rw [hlz]; unfold brK; omega)), show (a :: (m ++ [z])).dropLast = a :: m from by rw [← List.cons_append, List.dropLast_concat]] at eg0
      rw [eg0, show ps + ((grL (brK K) (K 4 lock.toNat) k (a :: m) + 1 : Nat) : Int) = ps + 1 + ((grL (brK K) (K 4 lock.toNat) k (a :: m) : Nat) : Int) by omega]
      have eL : p ++ a :: (m ++ [z]) ++ t = p ++ (a :: m) ++ (z :: t) := by simp
      rw [eL] at hL hl6 hbd
      exact ih k (by omega) p (a :: m) (z :: t) _ _ _ hL hl6 hbd (by rw [List.length_cons]; omega) (by omega) (by rw [List.length_cons]; omega) (by omega) (by rw [List.length_cons]; omega)
    · refine xx_iload (q := 148) rfl rfl rfl ?_
      refine xx_iconst (q := 149) rfl rfl (by decide) ?_
      refine xx_iaddR (q := 150) rfl rfl (by omega) (by omega) ?_
      refine xx_istore (q := 152) (loc2 := [_, _, _, _, _, _, _, _]) rfl rfl (Nat.le_of_ble_eq_true rfl) rfl ?_
      refine xx_iload (q := 154) rfl rfl rfl ?_
      refine xx_iconst (q := 155) rfl rfl (by decide) ?_
      refine xx_isubR (q := 156) rfl rfl (by omega) (by omega) ?_
      refine xx_istore (q := 158) (loc2 := [_, _, _, _, _, _, _, _]) rfl rfl (Nat.le_of_ble_eq_true rfl) rfl ?_
      refine xx_iload (q := 160) rfl rfl rfl ?_
      refine xx_iconst (q := 161) rfl rfl (by decide) ?_
      refine xx_iaddR (q := 162) rfl rfl (by omega) (by omega) ?_
      refine xx_istore (q := 164) (loc2 := [_, _, _, _, _, _, _, _]) rfl rfl (Nat.le_of_ble_eq_true rfl) rfl ?_
      refine xx_goto (q := 98) rfl rfl ?_
      obtain ⟨k, rfl⟩ : ∃ k2, k = k2 + 1 := ⟨k - 1, by omega⟩
      have eg0 : grL (brK K) (K 4 lock.toNat) (k + 1) (a :: (m ++ [z])) = if 1 ≤ (m ++ [z]).length ∧ brK K a + brK K ((m ++ [z]).getLastD a) ≤ K 4 lock.toNat then grL (brK K) (K 4 lock.toNat) k (m ++ [z]).dropLast + 1 else grL (brK K) (K 4 lock.toNat) k (a :: (m ++ [z])).dropLast + 1 := rfl
      have hlz : (m ++ [z]).getLastD a = z := by simp
      rw [if_pos ⟨by omega, by rw [hlz]; unfold brK; omega⟩, List.dropLast_concat] at eg0
      rw [eg0, show ps + ((grL (brK K) (K 4 lock.toNat) k m + 1 : Nat) : Int) = ps + 1 + ((grL (brK K) (K 4 lock.toNat) k m : Nat) : Int) by omega]
      have eL : p ++ a :: (m ++ [z]) ++ t = (p ++ [a]) ++ m ++ (z :: t) := by simp
      rw [eL] at hL hl6 hbd
      have hpl : (p ++ [a]).length = p.length + 1 := List.length_append
      exact ih k (by omega) (p ++ [a]) m (z :: t) _ _ _ hL hl6 hbd (by omega) (by omega) (by omega) (by omega) (by omega)
theorem lck_b {K : KK} {pool up : Int} (h : ¬ lckF K pool up = -1) : 0 ≤ lckF K pool up ∧ lckF K pool up < K 0 0 := by
  unfold lckF at h ⊢
  grind
set_option maxHeartbeats 4000000 in
theorem r_share {n : Nat} {R : Nat → Nat → Option Nat} {K D : KK} {b : Int} {B : Nat → Int} {U : UU} (hR : RF R) (hV : RV 0 K b B U D D) (hI : KI K) (s up : Int) (hs : xok s) : ∃ D', XC 3 289 [.inr (some 479), .inl s, .inl up] (xS n, R, D) (some (.inl (shrF K s up))) (xS n, R, D') ∧ PV (K) (b) (B) (U) D D' := by
  have hbB := ki_B hI
  have hbL := ki_L hI
  refine XE_of (Nat.le_of_ble_eq_true rfl) (Nat.le_of_ble_eq_true rfl) (loc := [_, _, _, _, _, _, _, _]) rfl ?_
  refine xx_aload_n (q := 1) rfl rfl rfl ?_
  refine xx_iconst (q := 2) rfl rfl (by decide) ?_
  refine xr_puz (PV K b B U D) (q := 5) rfl rfl rfl xS_479 (Nat.le_of_ble_eq_true rfl) (Nat.le_of_ble_eq_true rfl) (fun h => by cases h) (Or.inl rfl) ⟨hV.u (by decide), FQ.rf.up (by unfold restQ; omega)⟩ (fun D1 hP0 => ?_)
  refine xx_aload_n (q := 6) rfl rfl rfl ?_
  refine xx_iload_n (q := 7) rfl rfl rfl ?_
  refine xx_callV (q := 10) (As := [_]) (rest := []) rfl rfl rfl (Or.inl rfl) rfl rfl (Nat.le_of_ble_eq_true rfl) xS_479 (XCm (r_isSet hR hP0.1 hI s) rfl) rfl ?_
  refine xx_ifb_ne (q := 15) (q2 := 13) rfl rfl rfl (fun h10 => ?_) (fun h10 => ?_)
  · have halr := h10
    have hs64 := (alR_64 hI h10).2
    have hsn := s_nat halr.1 hs64
    refine xx_aload_n (q := 16) rfl rfl rfl ?_
    refine xx_iload_n (q := 17) rfl rfl rfl ?_
    obtain ⟨D1, hx1, hL1, hF1⟩ := r_takesSet (n := n) hR hI (rv_B hP0.1) s
    have hbt := s_bits hI halr
    rw [hbt] at hx1 hL1
    have hP1 : PV K b B U D D1 := ⟨hP0.1.self2 (fun x k q => hF1 x k (by omega)), hP0.2.trans (fun x k q => hF1 x k (by unfold restQ at q; omega))⟩
    have hbd0 : BdL (K 13 0) (bitF s 6 0) := fun j hj => by have := bit_mem s _ _ (show (bitF s 6 0).getD j 0 ∈ bitF s (K 13 0).toNat 0 by rw [hbt]; exact gd_mem hj); omega
    have hlb : 1 ≤ (bitF s 6 0).length ∧ (bitF s 6 0).length ≤ 6 := by omega
    refine xx_callV (q := 20) (As := [_]) (rest := []) rfl rfl rfl (Or.inl rfl) rfl rfl (Nat.le_of_ble_eq_true rfl) xS_479 (XCm hx1 rfl) rfl ?_
    refine xx_istore_n (q := 21) (loc2 := [_, _, _, _, _, _, _, _]) rfl rfl (Nat.le_of_ble_eq_true rfl) rfl ?_
    refine xx_aload_n (q := 22) rfl rfl rfl ?_
    refine xx_aload_n (q := 23) rfl rfl rfl ?_
    refine xx_getR (q := 26) rfl rfl rfl xS_479 (Nat.le_of_ble_eq_true rfl) rfl (hR.1 479 1 rfl) ?_
    refine xx_bipush (q := 28) rfl rfl (by decide) ?_
    refine xx_aload_n (q := 29) rfl rfl rfl ?_
    refine xx_getR (q := 32) rfl rfl rfl xS_479 (Nat.le_of_ble_eq_true rfl) rfl (hR.1 479 60 rfl) ?_
    refine xx_iconst (q := 33) rfl rfl (by decide) ?_
    refine xx_iaz (v := (bitF s 6 0).getD 0 0) (q := 34) rfl rfl xS_513 (by omega) (by omega) (hL1 0 (by omega)) ?_
    have hbd2 := hbd0 0 (by omega)
    refine xx_iaddR (q := 35) rfl rfl (by omega) (by omega) ?_
    refine xx_iaz (v := K 14 ((bitF s 6 0).getD 0 0).toNat) (q := 36) rfl rfl xS_480 (by omega) (by omega) (rv_14 hP1.1 (p := (bitF s 6 0).getD 0 0) (by omega) (by omega)) ?_
    have hb3 : 0 ≤ K 14 ((bitF s 6 0).getD 0 0).toNat ∧ K 14 ((bitF s 6 0).getD 0 0).toNat ≤ 9 := by have h := ki_14 hI ((bitF s 6 0).getD 0 0).toNat; exact h
    refine xx_iload_n (q := 37) rfl rfl rfl ?_
    refine xx_callV (q := 40) (As := [_, _]) (rest := []) rfl rfl rfl (Or.inl rfl) rfl rfl (Nat.le_of_ble_eq_true rfl) xS_479 (XCm (r_lockFrom hR hP1.1 hI (K 14 ((bitF s 6 0).getD 0 0).toNat) up (by omega) (by omega)) rfl) rfl ?_
    have hb4 := lckF_b K (K 14 ((bitF s 6 0).getD 0 0).toNat) up
    refine xx_istore (q := 42) (loc2 := [_, _, _, _, _, _, _, _]) rfl rfl (Nat.le_of_ble_eq_true rfl) rfl ?_
    refine xx_iload (q := 44) rfl rfl rfl ?_
    refine xx_iconst (q := 45) rfl rfl (by decide) ?_
    refine xx_icmp_eq (q := 56) (q2 := 48) rfl rfl rfl (fun h45 => ?_) (fun h45 => ?_)
    · refine xx_iconst (q := 57) rfl rfl (by decide) ?_
      refine xx_iret rfl trivial ⟨congrArg (fun z => some (Sum.inl z)) (by exact (shr_n hI hs h10 (Or.inl h45)).symm), _, rfl, ?_⟩
      exact hP1
    · refine xx_aload_n (q := 49) rfl rfl rfl ?_
      refine xx_iload_n (q := 50) rfl rfl rfl ?_
      refine xx_callV (q := 53) (As := [_]) (rest := []) rfl rfl rfl (Or.inl rfl) rfl rfl (Nat.le_of_ble_eq_true rfl) xS_479 (XCm (r_areInOnePool (n := n) hR hP1.1 hI (bitF s 6 0) hL1 hlb.1 hlb.2 hbd0) rfl) rfl ?_
      refine xx_ifb_ne (q := 58) (q2 := 56) rfl rfl rfl (fun h53 => ?_) (fun h53 => ?_)
      · refine xx_aload_n (q := 59) rfl rfl rfl ?_
        refine xx_iload_n (q := 60) rfl rfl rfl ?_
        obtain ⟨D5, hx5, ls, hL5, hpm, hbd1, hsrt, hF5⟩ := r_sorts (n := n) hR hP1.1 hI (bitF s 6 0) hL1 hlb.1 hlb.2 hbd0
        have hP5 : PV K b B U D D5 := ⟨hP1.1.self2 (fun x k q => hF5 x k (by omega)), hP1.2.trans (fun x k q => hF5 x k (by unfold restQ at q; omega))⟩
        have hle := hpm.length_eq
        refine xx_callV (q := 63) (As := [_]) (rest := []) rfl rfl rfl (Or.inl rfl) rfl rfl (Nat.le_of_ble_eq_true rfl) xS_479 (XCm hx5 rfl) rfl ?_
        refine xx_aload_n (q := 64) rfl rfl rfl ?_
        refine xx_getR (q := 67) rfl rfl rfl xS_479 (Nat.le_of_ble_eq_true rfl) rfl (hR.1 479 14 rfl) ?_
        refine xx_aload_n (q := 68) rfl rfl rfl ?_
        refine xx_getR (q := 71) rfl rfl rfl xS_479 (Nat.le_of_ble_eq_true rfl) rfl (hR.1 479 60 rfl) ?_
        refine xx_iload_n (q := 72) rfl rfl rfl ?_
        refine xx_iconst (q := 73) rfl rfl (by decide) ?_
        refine xx_isubR (q := 74) rfl rfl (by omega) (by omega) ?_
        refine xx_iaz (v := ls.getD ((((bitF s 6 0).length : Nat) : Int) - 1).toNat 0) (q := 75) rfl rfl xS_513 (by omega) (by omega) (hL5.z (by omega) (by omega)) ?_
        have hbd6 := hbd1 ((((bitF s 6 0).length : Nat) : Int) - 1).toNat (by omega)
        refine xx_iaz (v := K 16 (ls.getD ((((bitF s 6 0).length : Nat) : Int) - 1).toNat 0).toNat) (q := 76) rfl rfl xS_489 (by omega) (by omega) (rv_489 hP5.1 (p := ls.getD ((((bitF s 6 0).length : Nat) : Int) - 1).toNat 0) (by omega) (by omega)) ?_
        have hb7 : 0 ≤ K 16 (ls.getD ((((bitF s 6 0).length : Nat) : Int) - 1).toNat 0).toNat ∧ K 16 (ls.getD ((((bitF s 6 0).length : Nat) : Int) - 1).toNat 0).toNat ≤ 9 := by have h := ki_16 hI (ls.getD ((((bitF s 6 0).length : Nat) : Int) - 1).toNat 0).toNat; exact h
        refine xx_aload_n (q := 77) rfl rfl rfl ?_
        refine xx_iload (q := 79) rfl rfl rfl ?_
        refine xx_callV (q := 82) (As := [_]) (rest := [_]) rfl rfl rfl (Or.inl rfl) rfl rfl (Nat.le_of_ble_eq_true rfl) xS_479 (XCm (r_wideOf hR hP5.1 hI (lckF K (K 14 ((bitF s 6 0).getD 0 0).toNat) up) (by omega) (by omega)) rfl) rfl ?_
        have hb8 := ki_4 hI (lckF K (K 14 ((bitF s 6 0).getD 0 0).toNat) up).toNat
        refine xx_icmp_le (q := 87) (q2 := 85) rfl rfl rfl (fun h82 => ?_) (fun h82 => ?_)
        · refine xx_iconst (q := 88) rfl rfl (by decide) ?_
          refine xx_istore (q := 90) (loc2 := [_, _, _, _, _, _, _, _]) rfl rfl (Nat.le_of_ble_eq_true rfl) rfl ?_
          refine xx_iconst (q := 91) rfl rfl (by decide) ?_
          refine xx_istore (q := 93) (loc2 := [_, _, _, _, _, _, _, _]) rfl rfl (Nat.le_of_ble_eq_true rfl) rfl ?_
          refine xx_iload_n (q := 94) rfl rfl rfl ?_
          refine xx_iconst (q := 95) rfl rfl (by decide) ?_
          refine xx_isubR (q := 96) rfl rfl (by omega) (by omega) ?_
          refine xx_istore (q := 98) (loc2 := [_, _, _, _, _, _, _, _]) rfl rfl (Nat.le_of_ble_eq_true rfl) rfl ?_
          have hlk := lck_b (K := K) (pool := K 14 ((bitF s 6 0).getD 0 0).toNat) (up := up) h45
          rw [shr_y hI hs h10 rfl h45 h53 hpm hsrt, if_neg (by unfold brK; rw [show ls.length - 1 = ((((bitF s 6 0).length : Nat) : Int) - 1).toNat by omega]; omega)]
          have h := r_gr_L (n := n) hR hP5.1 hI s up (((bitF s 6 0).length : Nat) : Int) (lckF K (K 14 ((bitF s 6 0).getD 0 0).toNat) up) hlk.1 hlk.2 ls.length [] ls [] 0 0 ((((bitF s 6 0).length : Nat) : Int) - 1) (by rw [List.append_nil]; exact hL5) (by rw [List.append_nil]; show ls.length ≤ 6; omega) (by rw [List.append_nil]; exact hbd1) (Nat.le_refl _) rfl (by show _ = (0 : Int) + _ - 1; omega) (by omega) (by omega)
          rw [Int.zero_add] at h
          exact XX_mono (fun r m2 q => ⟨q.1, _, q.2, hP5⟩) h
        · refine xx_iconst (q := 86) rfl rfl (by decide) ?_
          refine xx_iret rfl trivial ⟨congrArg (fun z => some (Sum.inl z)) (by (rw [shr_y hI hs h10 rfl h45 h53 hpm hsrt, if_pos]; unfold brK; rw [show ls.length - 1 = ((((bitF s 6 0).length : Nat) : Int) - 1).toNat by omega]; omega)), _, rfl, ?_⟩
          exact hP5
      · refine xx_iconst (q := 57) rfl rfl (by decide) ?_
        refine xx_iret rfl trivial ⟨congrArg (fun z => some (Sum.inl z)) (by exact (shr_n hI hs h10 (Or.inr h53)).symm), _, rfl, ?_⟩
        exact hP1
  · refine xx_iconst (q := 14) rfl rfl (by decide) ?_
    refine xx_iret rfl trivial ⟨congrArg (fun z => some (Sum.inl z)) (by exact (shr_f hI hs h10).symm), _, rfl, ?_⟩
    exact hP0
