/-! The new world can stand: doings. -/
def WhB (K : KK) : Prop := ∀ c : Nat, (c : Int) < K 13 0 → K 14 c ≤ K 0 0
def CfE (K L : KK) : Prop := ∀ o k, ((o = 0 ∧ k = 0) ∨ o = 13 ∨ o = 2 ∨ o = 3 ∨ o = 4 ∨ o = 9 ∨ o = 11 ∨ o = 15 ∨ o = 16 ∨ o = 6) → L o k = K o k
theorem CfE.r {K L : KK} (h : CfE K L) {D : KK} (g : RCf L D) : RCf K D := by
  obtain ⟨g1, g2, g3, g4, g5, g6, g7, g8, g9, g10⟩ := g
  exact ⟨g1.trans (h 0 0 (by omega)), g2.trans (h 13 0 (by omega)), fun i q => (g3 i q).trans (by rw [h 2 i (by omega)]), fun i q => (g4 i q).trans (by rw [h 3 i (by omega)]), fun i q => (g5 i q).trans (by rw [h 4 i (by omega)]), fun i q => (g6 i q).trans (by rw [h 9 i (by omega)]), fun i q => (g7 i q).trans (by rw [h 11 i (by omega)]), fun i q => (g8 i q).trans (by rw [h 15 i (by omega)]), fun i q => (g9 i q).trans (by rw [h 16 i (by omega)]), fun i q => (g10 i q).trans (by rw [h 6 i (by omega)])⟩
def DoK (K L : KK) : Prop := CfE K L ∧ KI L ∧ WhB L ∧ NoB L
theorem PlV_eq {K L : KK} {P : List PSt} (h : PlV K P) (h0 : L 0 0 = K 0 0) (h13 : L 13 0 = K 13 0) : PlV L P := fun s hs => VS_eq (h s hs) h0 h13
theorem kepU_m {K : KK} {b : Int} {U : UU} {u : KK × Int} (h : u ∈ kepU K b U) : u = (K, b) ∨ u ∈ U := List.mem_cons.mp (List.mem_of_mem_take h)
theorem WI_do {W : Wld} {K : KK} {b : Int} {B : Nat → Int} {U : UU} (h : WI W) (d : DoK W.K K) (hb : 0 ≤ b ∧ b ≤ 150) (hU : U = W.U ∨ U = kepU W.K W.b W.U) : WI (W.kb K b B U) := by
  obtain ⟨⟨a1, a2, a3, a4, a5, a6, a7, a8, a9, a10, a11, a12, a13⟩, u1, u2, w⟩ := h
  have hm : ∀ u ∈ U, u = (W.K, W.b) ∨ u ∈ W.U := fun u hu => by
    rcases hU with e | e
    · rw [e] at hu; exact Or.inr hu
    · rw [e] at hu; exact kepU_m hu
  refine ⟨⟨d.2.1, d.2.2.1, d.2.2.2, hb, a5, a6, a7, a8, a9, a10, a11, PlV_eq a12 (d.1 0 0 (by omega)) (d.1 13 0 (by omega)), a13⟩, fun u hu D g => ?_, fun u hu => ?_, w⟩
  · rcases hm u hu with e | e
    · rw [e]; exact d.1.r g
    · exact u1 u e D (d.1.r g)
  · rcases hm u hu with e | e
    · rw [e]; exact ⟨a1, a2, a3, a4, a5, a6, a7, a8, a9, a10, a11, a12, a13⟩
    · exact u2 u e
theorem NoB_eq {K L : KK} (h : NoB K) (h13 : L 13 0 = K 13 0) (g : ∀ o : Nat, K 13 0 ≤ (o : Int) → o < 6 → (∀ l : Nat, l < 9 → L 12 (l * 6 + o) = K 12 (l * 6 + o)) ∧ ∀ c : Nat, c < 4 → L 17 (o * 4 + c) = K 17 (o * 4 + c)) : NoB L := fun o q1 q2 => by
  rw [h13] at q1
  exact ⟨fun l hl => ((g o q1 q2).1 l hl).trans ((h o q1 q2).1 l hl), fun c hc => ((g o q1 q2).2 c hc).trans ((h o q1 q2).2 c hc)⟩
theorem WhB_eq {K L : KK} (h : WhB K) (h13 : L 13 0 = K 13 0) (h0 : L 0 0 = K 0 0) (g : ∀ c : Nat, (c : Int) < K 13 0 → L 14 c = K 14 c) : WhB L := fun c q => by
  rw [h13] at q
  rw [g c q, h0]
  exact h c q
theorem DoK.rf {K : KK} (h : KI K) (h2 : WhB K) (h3 : NoB K) : DoK K K := ⟨fun _ _ _ => rfl, h, h2, h3⟩
theorem Do_pul {K : KK} {lock m : Int} (h : KI K) (h2 : WhB K) (h3 : NoB K) : DoK K (pulT K lock m) := by
  have g : ∀ o k, o ≠ 1 → (o = 0 → k ≠ 2) → pulT K lock m o k = K o k := fun o k q1 q2 => by
    unfold pulT
    split
    · exact pulL_k _ _ _ o k q1 q2
    · rfl
  exact ⟨fun o k q => g o k (by omega) (by omega), pulT_I h, WhB_eq h2 (g _ _ (by omega) (by omega)) (g _ _ (by omega) (by omega)) (fun c _ => g _ _ (by omega) (by omega)), NoB_eq h3 (g _ _ (by omega) (by omega)) (fun o _ _ => ⟨fun l _ => g _ _ (by omega) (by omega), fun c _ => g _ _ (by omega) (by omega)⟩)⟩
theorem pasK_k {K : KK} {boat up wth : Int} {o k : Nat} (h1 : o ≠ 1) (h2 : o = 0 → k ≠ 2) (h3 : o ≠ 14) (h4 : o ≠ 5) : pasK K boat up wth o k = K o k := by
  unfold pasK
  rw [xui_a h4]
  split
  · rw [xui_a h3, flowF_k h1 h2]
  · rw [xui_a h3, xui_a h3, flowF_k h1 h2]
theorem Do_pas {K : KK} {G : LwF} {boat up wth : Int} (h : KI K) (h2 : WhB K) (h3 : NoB K) : DoK K (pasT K G boat up wth) := by
  have hI := pasT_I (G := G) (boat := boat) (up := up) (wth := wth) h
  unfold pasT at hI ⊢
  split
  · next q =>
    rw [if_pos q] at hI
    have q2 := refF_0 q
    have g : ∀ o k, o ≠ 1 → (o = 0 → k ≠ 2) → o ≠ 14 → o ≠ 5 → pasK K boat up wth o k = K o k := fun o k a1 a2 a3 a4 => pasK_k a1 a2 a3 a4
    refine ⟨fun o k r => g o k (by omega) (by omega) (by omega) (by omega), hI, fun c hc => ?_, NoB_eq h3 (g _ _ (by omega) (by omega) (by omega) (by omega)) (fun o _ _ => ⟨fun l _ => g _ _ (by omega) (by omega) (by omega) (by omega), fun c _ => g _ _ (by omega) (by omega) (by omega) (by omega)⟩)⟩
    rw [g 13 0 (by omega) (by omega) (by omega) (by omega)] at hc
    rw [g 0 0 (by omega) (by omega) (by omega) (by omega)]
    have e2 : (if up = 0 then lckF K (K 14 boat.toNat) up + 1 else lckF K (K 14 boat.toNat) up) ≤ K 0 0 := by split <;> omega
    have e3 := h2 c hc
    have e4 : flowF K (lckF K (K 14 boat.toNat) up) (K 2 (lckF K (K 14 boat.toNat) up).toNat) 14 c = K 14 c := flowF_k (by omega) (by omega)
    unfold pasK
    rw [xui_a (by omega)]
    generalize (if up = 0 then lckF K (K 14 boat.toNat) up + 1 else lckF K (K 14 boat.toNat) up) = t at e2
    generalize flowF K (lckF K (K 14 boat.toNat) up) (K 2 (lckF K (K 14 boat.toNat) up).toNat) = F at e4
    rcases Classical.em (wth = -1) with r | r
    · rw [if_pos r]
      unfold xui
      split
      · exact e2
      · rw [e4]; exact e3
    · rw [if_neg r]
      unfold xui
      split
      · exact e2
      · split
        · exact e2
        · rw [e4]; exact e3
  · exact DoK.rf h h2 h3
theorem rcvF_12 {K : KK} {lock boat d : Int} {j : Nat} (h1 : j ≠ (lock * 6 + boat).toNat) (h2 : j ≠ (K 9 lock.toNat * 6 + boat).toNat) : rcvF K lock boat d 12 j = K 12 j := by
  have e : ∀ (M : KK) (o : Nat) (i : Nat) (v : Int), o ≠ 12 → xui M o i v 12 j = M 12 j := fun M o i v q => xui_a (fun r => q r.symm)
  have e2 : ∀ (M : KK) (l2 v : Int), j ≠ (l2 * 6 + boat).toNat → lkmF M l2 boat v 12 j = M 12 j := fun M l2 v q => if_neg (fun r => q r.2)
  unfold rcvF
  rw [e _ 10 _ _ (by omega)]
  split
  · rw [e2 _ _ _ h2, e _ 8 _ _ (by omega), e2 _ _ _ h1]
  · rw [e _ 8 _ _ (by omega), e2 _ _ _ h1]
theorem Do_giv {K : KK} {Hh : LwF} {boat good amount lock : Int} (h : KI K) (h2 : WhB K) (h3 : NoB K) : DoK K (givT K Hh boat good amount lock) := by
  have hI := givT_I (Hh := Hh) (boat := boat) (good := good) (amount := amount) (lock := lock) h
  have hB := ki_B h
  unfold givT at hI ⊢
  split
  · next q =>
    rw [if_pos q] at hI
    have g : ∀ o k, o ≠ 8 → o ≠ 10 → o ≠ 12 → o ≠ 17 → givK K Hh boat good amount lock o k = K o k := fun o k a1 a2 a3 a4 => givK_k ⟨a1, a2, a3, a4⟩
    have h9 := ki_9 h lock.toNat
    refine ⟨fun o k r => g o k (by omega) (by omega) (by omega) (by omega), hI, WhB_eq h2 (g _ _ (by omega) (by omega) (by omega) (by omega)) (g _ _ (by omega) (by omega) (by omega) (by omega)) (fun c _ => g _ _ (by omega) (by omega) (by omega) (by omega)), NoB_eq h3 (g _ _ (by omega) (by omega) (by omega) (by omega)) (fun o r1 r2 => ⟨fun l hl => ?_, fun c hc => ?_⟩)⟩
    · unfold givK
      rw [xui_a (by omega)]
      exact rcvF_12 (by omega) (by omega)
    · unfold givK
      have e : ¬ (o * 4 + c = (boat * 4 + good).toNat) := by omega
      rw [show xui (rcvF K lock boat (dlgF K Hh boat good amount lock)) 17 (boat * 4 + good).toNat (K 17 (boat * 4 + good).toNat - amount) 17 (o * 4 + c) = rcvF K lock boat (dlgF K Hh boat good amount lock) 17 (o * 4 + c) from if_neg (fun r => e r.2)]
      exact rcvF_k (by omega) (by omega) (by omega)
  · exact DoK.rf h h2 h3
theorem gspB_12 {j : Nat} : ∀ (k : Nat) (K : KK) (lock boat : Int), (∀ b : Int, boat ≤ b → b < boat + k → j ≠ (lock * 6 + b).toNat) → gspB k K lock boat 12 j = K 12 j
  | 0, K, lock, boat, h => rfl
  | k + 1, K, lock, boat, h => (gspB_12 k _ lock (boat + 1) (fun b q1 q2 => h b (by omega) (by omega))).trans (if_neg (fun r => h boat (by omega) (by omega) r.2))
theorem gspL_12 {l o : Nat} {N : Int} (ho : o < 6) (hN : N ≤ (o : Int)) : ∀ (k : Nat) (K : KK) (lock : Int), K 13 0 = N → 0 ≤ lock → gspL k K lock 12 (l * 6 + o) = K 12 (l * 6 + o)
  | 0, K, lock, e, h => rfl
  | k + 1, K, lock, e, h => (gspL_12 ho hN k _ (lock + 1) ((gspB_k _ _ _ _ 13 0 (by omega)).trans e) (by omega)).trans (gspB_12 _ _ _ _ (fun b q1 q2 => by rw [e] at q2; omega))
theorem hrK_k {K : KK} {o k : Nat} (h1 : o ≠ 1) (h2 : o ≠ 8) (h3 : o ≠ 12) (h4 : o = 0 → k = 0) : hrK K o k = K o k := by
  show xui (clmF (gosT (tidT (lekK K)))) 0 1 (nrm ((tidT (lekK K)) 0 1 + 1)) o k = K o k
  rw [show xui (clmF (gosT (tidT (lekK K)))) 0 1 (nrm ((tidT (lekK K)) 0 1 + 1)) o k = clmF (gosT (tidT (lekK K))) o k from if_neg (fun q => by have := h4 q.1; omega)]
  exact (clmL_k _ _ _ o k h2).trans ((gosT_k h3).trans ((tidT_k h1 (by omega)).trans ((lekL_k _ _ _ o k h1 (by omega)).trans (ranK_k h1 (by omega)))))
theorem hrK_12 {K : KK} {l o : Nat} (ho : o < 6) (hN : K 13 0 ≤ (o : Int)) : hrK K 12 (l * 6 + o) = K 12 (l * 6 + o) := by
  show xui (clmF (gosT (tidT (lekK K)))) 0 1 (nrm ((tidT (lekK K)) 0 1 + 1)) 12 (l * 6 + o) = K 12 (l * 6 + o)
  rw [xui_a (by omega)]
  have e13 : tidT (lekK K) 13 0 = K 13 0 := (tidT_k (by omega) (by omega)).trans ((lekL_k _ _ _ _ _ (by omega) (by omega)).trans (ranK_k (by omega) (by omega)))
  have e12 : tidT (lekK K) 12 (l * 6 + o) = K 12 (l * 6 + o) := (tidT_k (by omega) (by omega)).trans ((lekL_k _ _ _ _ _ (by omega) (by omega)).trans (ranK_k (by omega) (by omega)))
  refine (clmL_k _ _ _ _ _ (by omega)).trans (Eq.trans ?_ e12)
  generalize tidT (lekK K) = M at e13
  unfold gosT
  split
  · exact gspL_12 ho hN _ M 0 e13 (by omega)
  · rfl
theorem Do_hr {K : KK} (h : KI K) (h2 : WhB K) (h3 : NoB K) : DoK K (hrK K) := ⟨fun o k r => hrK_k (by omega) (by omega) (by omega) (by omega), hrK_I h, WhB_eq h2 (hrK_k (by omega) (by omega) (by omega) (by omega)) (hrK_k (by omega) (by omega) (by omega) (by omega)) (fun c _ => hrK_k (by omega) (by omega) (by omega) (by omega)), NoB_eq h3 (hrK_k (by omega) (by omega) (by omega) (by omega)) (fun o r1 r2 => ⟨fun l _ => hrK_12 r2 r1, fun c _ => hrK_k (by omega) (by omega) (by omega) (by omega)⟩)⟩
theorem notb_b {b : Int} (h : 0 ≤ b ∧ b ≤ 150) : 0 ≤ notb b ∧ notb b ≤ 150 := by unfold notb; split <;> omega
theorem hrb_b {K : KK} {b : Int} (h : 0 ≤ b ∧ b ≤ 150) : 0 ≤ hrb K b ∧ hrb K b ≤ 150 := by
  have h1 : 0 ≤ ranb K b ∧ ranb K b ≤ 150 := by
    unfold ranb
    split
    · exact notb_b h
    · exact h
  unfold hrb tidb
  split
  · exact notb_b h1
  · exact h1
theorem pullb_b {K : KK} {lock m b : Int} (h : 0 ≤ b ∧ b ≤ 150) : 0 ≤ pullb K lock m b ∧ pullb K lock m b ≤ 150 := by
  unfold pullb
  split
  · unfold pulb
    split
    · exact h
    · exact notb_b h
  · exact h
theorem pasb_b {K : KK} {G : LwF} {boat up wth b : Int} (h : 0 ≤ b ∧ b ≤ 150) : 0 ≤ pasb K G boat up wth b ∧ pasb K G boat up wth b ≤ 150 := by
  unfold pasb
  split
  · exact notb_b h
  · exact h
theorem givb_b {K : KK} {boat good amount lock b : Int} (h : 0 ≤ b ∧ b ≤ 150) : 0 ≤ givb K boat good amount lock b ∧ givb K boat good amount lock b ≤ 150 := by
  unfold givb
  split
  · exact notb_b h
  · exact h
theorem WI_pull {W : Wld} (h : WI W) (lock m : Int) : WI (W.kb (pulT W.K lock m) (pullb W.K lock m W.b) (pullB W.K lock m W.b W.B) (pullU W.K lock m W.b W.U)) := WI_do h (Do_pul h.1.1 h.1.2.1 h.1.2.2.1) (pullb_b h.1.2.2.2.1) (by unfold pullU; split <;> first | exact Or.inr rfl | exact Or.inl rfl)
theorem WI_pass {W : Wld} (h : WI W) (G : LwF) (boat up wth : Int) : WI (W.kb (pasT W.K G boat up wth) (pasb W.K G boat up wth W.b) (pasB W.K G boat up wth W.b W.B) (pasU W.K G boat up wth W.b W.U)) := WI_do h (Do_pas h.1.1 h.1.2.1 h.1.2.2.1) (pasb_b h.1.2.2.2.1) (by unfold pasU; split <;> first | exact Or.inr rfl | exact Or.inl rfl)
theorem WI_give {W : Wld} (h : WI W) (Hh : LwF) (boat good amount lock : Int) : WI (W.kb (givT W.K Hh boat good amount lock) (givb W.K boat good amount lock W.b) (givB W.K boat good amount lock W.b W.B) (givU W.K boat good amount lock W.b W.U)) := WI_do h (Do_giv h.1.1 h.1.2.1 h.1.2.2.1) (givb_b h.1.2.2.2.1) (by unfold givU; split <;> first | exact Or.inr rfl | exact Or.inl rfl)
abbrev Wld.zz (W : Wld) (Z : ZZ) : Wld := W.kb Z.1 Z.2.1 Z.2.2.1 Z.2.2.2
theorem WI_hr {W : Wld} (Z : ZZ) (h : WI (W.zz Z)) : WI (W.zz (hrZ Z)) := WI_do (W := W.zz Z) h (Do_hr h.1.1 h.1.2.1 h.1.2.2.1) (hrb_b h.1.2.2.2.1) (Or.inr rfl)
theorem WI_hrs {W : Wld} : ∀ (k : Nat) (Z : ZZ), WI (W.zz Z) → WI (W.zz (hrsZ k Z))
  | 0, Z, h => h
  | k + 1, Z, h => WI_hrs k (hrZ Z) (WI_hr Z h)
theorem WI_wai {W : Wld} (Z : ZZ) (m : Int) (h : WI (W.zz Z)) : WI (W.zz (waiZ Z m)) := by
  unfold waiZ
  split
  · exact WI_hrs _ Z h
  · exact h
theorem WI_stp {W : Wld} (G Hh : LwF) (s : PSt) (Z : ZZ) (h : WI (W.zz Z)) : WI (W.zz (stpZ Z G Hh s)) := by
  unfold stpZ
  split
  · exact WI_pass (W := W.zz Z) h G _ _ _
  · exact WI_give (W := W.zz Z) h Hh _ _ _ _
  · exact WI_pull (W := W.zz Z) h _ _
  · exact WI_wai Z _ h
theorem WI_car {W : Wld} (G Hh : LwF) : ∀ (P : List PSt) (Z : ZZ) (i f g : Int), WI (W.zz Z) → WI (W.zz (carZ G Hh P Z i f g).2.2.2.2)
  | [], Z, i, f, g, h => h
  | s :: ss, Z, i, f, g, h => by
    unfold carZ
    split
    · exact WI_car G Hh ss _ _ _ _ (WI_stp G Hh s Z h)
    · exact WI_stp G Hh s Z h
/-! The new world can stand: what is told. -/
theorem WI_tld {W : Wld} {K : KK} {q : Prop} [Decidable q] (h : WI W) (e : ¬ q → K = W.K) (g : q → KI K ∧ WhB K ∧ NoB K ∧ PlV K W.P) : WI (W.kb K W.b W.B (tldU q W.U)) := by
  unfold tldU
  split
  · next hq =>
    obtain ⟨⟨a1, a2, a3, a4, a5, a6, a7, a8, a9, a10, a11, a12, a13⟩, u1, u2, w⟩ := h
    obtain ⟨g1, g2, g3, g4⟩ := g hq
    exact ⟨⟨g1, g2, g3, a4, a5, a6, a7, a8, a9, a10, a11, g4, a13⟩, (fun u hu => (by cases hu)), (fun u hu => (by cases hu)), w⟩
  · next hq =>
    rw [e hq]
    exact h
theorem WI.V {W : Wld} (h : WI W) : PlV W.K W.P := h.1.2.2.2.2.2.2.2.2.2.2.2.1
theorem WI_state {W : Wld} (h : WI W) {v : Int} (hv : xok v) : WI (W.kb (xui W.K 0 3 v) W.b W.B []) := by
  have g : ∀ o k, o ≠ 0 ∨ k ≠ 3 → xui W.K 0 3 v o k = W.K o k := fun o k q => if_neg (by omega)
  have w := WI_tld (W := W) (K := xui W.K 0 3 v) (q := True) h (fun q => absurd trivial q) (fun _ => ⟨KI_up h.1.1 hv.1 (show v ≤ 2147483647 by have := hv.2; omega), WhB_eq (show WhB W.K from h.1.2.1) (g _ _ (by omega)) (g _ _ (by omega)) (fun c _ => g _ _ (by omega)), NoB_eq (show NoB W.K from h.1.2.2.1) (g _ _ (by omega)) (fun o _ _ => ⟨fun l _ => g _ _ (by omega), fun c _ => g _ _ (by omega)⟩), PlV_eq h.V (g _ _ (by omega)) (g _ _ (by omega))⟩)
  exact w
theorem WI_pool {W : Wld} (h : WI W) (p d : Int) : WI (W.kb (polK W.K p d) W.b W.B (tldU (polP W.K p d) W.U)) := by
  refine WI_tld h (fun q => if_neg q) (fun q => ?_)
  have e : polK W.K p d = xui W.K 1 p.toNat d := if_pos q
  rw [e]
  have g : ∀ o k, o ≠ 1 → xui W.K 1 p.toNat d o k = W.K o k := fun o k r => xui_a r
  exact ⟨KI_up h.1.1 q.2.1 q.2.2, WhB_eq (show WhB W.K from h.1.2.1) (g _ _ (by omega)) (g _ _ (by omega)) (fun c _ => g _ _ (by omega)), NoB_eq (show NoB W.K from h.1.2.2.1) (g _ _ (by omega)) (fun o _ _ => ⟨fun l _ => g _ _ (by omega), fun c _ => g _ _ (by omega)⟩), PlV_eq h.V (g _ _ (by omega)) (g _ _ (by omega))⟩
theorem WI_set {W : Wld} (h : WI W) (w v : Int) : WI (W.kb (setK W.K w v) W.b W.B (tldU (setP w v) W.U)) := by
  refine WI_tld h (fun q => if_neg q) (fun q => ?_)
  have e : setK W.K w v = xui W.K 6 w.toNat v := if_pos q
  have hI := setK_I (w := w) (v := v) h.1.1
  rw [e] at hI ⊢
  have g : ∀ o k, o ≠ 6 → xui W.K 6 w.toNat v o k = W.K o k := fun o k r => xui_a r
  exact ⟨hI, WhB_eq (show WhB W.K from h.1.2.1) (g _ _ (by omega)) (g _ _ (by omega)) (fun c _ => g _ _ (by omega)), NoB_eq (show NoB W.K from h.1.2.2.1) (g _ _ (by omega)) (fun o _ _ => ⟨fun l _ => g _ _ (by omega), fun c _ => g _ _ (by omega)⟩), PlV_eq h.V (g _ _ (by omega)) (g _ _ (by omega))⟩
theorem WI_lock {W : Wld} (h : WI W) (l w v : Int) : WI (W.kb (lokK W.K l w v) W.b W.B (tldU (lokP W.K l w v) W.U)) := by
  refine WI_tld h (fun q => if_neg q) (fun q => ?_)
  have e : lokK W.K l w v = lokW W.K l w v := if_pos q
  have hI := lokK_I (l := l) (w := w) (v := v) h.1.1
  have hL : 1 ≤ W.K 0 0 ∧ W.K 0 0 ≤ 9 := ki_L h.1.1
  have hB : 0 ≤ W.K 13 0 ∧ W.K 13 0 ≤ 6 := ki_B h.1.1
  rw [e] at hI ⊢
  have g : ∀ o k, o ≠ 2 → o ≠ 3 → o ≠ 4 → o ≠ 8 → o ≠ 9 → o ≠ 11 → o ≠ 12 → lokW W.K l w v o k = W.K o k := fun o k r1 r2 r3 r4 r5 r6 r7 => by
    unfold lokW
    repeat' split
    all_goals exact xui_a (by assumption)
  have g12 : ∀ a o : Nat, W.K 13 0 ≤ (o : Int) → o < 6 → a < 9 → lokW W.K l w v 12 (a * 6 + o) = W.K 12 (a * 6 + o) := fun a o r1 r2 r3 => by
    unfold lokW
    obtain ⟨q1, q2⟩ := q
    by_cases w0 : w = 0
    · rw [if_pos w0]; exact xui_a (by omega)
    rw [if_neg w0]
    by_cases w1 : w = 1
    · rw [if_pos w1]; exact xui_a (by omega)
    rw [if_neg w1]
    by_cases w2 : w = 2
    · rw [if_pos w2]; exact xui_a (by omega)
    rw [if_neg w2]
    by_cases w3 : w = 3
    · rw [if_pos w3]; exact xui_a (by omega)
    rw [if_neg w3]
    by_cases w4 : w = 4
    · rw [if_pos w4]; exact xui_a (by omega)
    rw [if_neg w4]
    by_cases w5 : w ≤ 13
    · rw [if_pos w5]; exact xui_a (by omega)
    rw [if_neg w5]
    exact if_neg (fun r => by have := r.2; omega)
  exact ⟨hI, WhB_eq (show WhB W.K from h.1.2.1) (g _ _ (by omega) (by omega) (by omega) (by omega) (by omega) (by omega) (by omega)) (g _ _ (by omega) (by omega) (by omega) (by omega) (by omega) (by omega) (by omega)) (fun c _ => g _ _ (by omega) (by omega) (by omega) (by omega) (by omega) (by omega) (by omega)), NoB_eq (show NoB W.K from h.1.2.2.1) (g _ _ (by omega) (by omega) (by omega) (by omega) (by omega) (by omega) (by omega)) (fun o r1 r2 => ⟨fun a ha => g12 a o r1 r2 ha, fun c _ => g _ _ (by omega) (by omega) (by omega) (by omega) (by omega) (by omega) (by omega)⟩), PlV_eq h.V (g _ _ (by omega) (by omega) (by omega) (by omega) (by omega) (by omega) (by omega)) (g _ _ (by omega) (by omega) (by omega) (by omega) (by omega) (by omega) (by omega))⟩
theorem WI_load {W : Wld} (h : WI W) (c w v : Int) : WI (W.kb (lodK W.K c w v) W.b W.B (tldU (lodP W.K c w v) W.U)) := by
  refine WI_tld h (fun q => if_neg q) (fun q => ?_)
  have e : lodK W.K c w v = lodW W.K c w v := if_pos q
  have hI := lodK_I (c := c) (w := w) (v := v) h.1.1
  have hB : 0 ≤ W.K 13 0 ∧ W.K 13 0 ≤ 6 := ki_B h.1.1
  have hw : WhB W.K := h.1.2.1
  rw [e] at hI ⊢
  have g : ∀ o k, o ≠ 14 → o ≠ 15 → o ≠ 16 → o ≠ 17 → lodW W.K c w v o k = W.K o k := fun o k r1 r2 r3 r4 => by
    unfold lodW
    repeat' split
    all_goals exact xui_a (by assumption)
  refine ⟨hI, fun a ha => ?_, NoB_eq (show NoB W.K from h.1.2.2.1) (g _ _ (by omega) (by omega) (by omega) (by omega)) (fun o r1 r2 => ⟨fun a ha => g _ _ (by omega) (by omega) (by omega) (by omega), fun a ha => ?_⟩), PlV_eq h.V (g _ _ (by omega) (by omega) (by omega) (by omega)) (g _ _ (by omega) (by omega) (by omega) (by omega))⟩
  · rw [g 13 0 (by omega) (by omega) (by omega) (by omega)] at ha
    rw [g 0 0 (by omega) (by omega) (by omega) (by omega)]
    have e3 := hw a ha
    obtain ⟨q1, q2⟩ := q
    unfold lodW
    by_cases w0 : w = 0
    · rw [if_pos w0]; unfold xui; split <;> omega
    rw [if_neg w0]
    by_cases w1 : w = 1
    · rw [if_pos w1, xui_a (by omega)]; exact e3
    rw [if_neg w1]
    by_cases w2 : w = 2
    · rw [if_pos w2, xui_a (by omega)]; exact e3
    rw [if_neg w2, xui_a (by omega)]; exact e3
  · obtain ⟨q1, q2⟩ := q
    unfold lodW
    by_cases w0 : w = 0
    · rw [if_pos w0]; exact xui_a (by omega)
    rw [if_neg w0]
    by_cases w1 : w = 1
    · rw [if_pos w1]; exact xui_a (by omega)
    rw [if_neg w1]
    by_cases w2 : w = 2
    · rw [if_pos w2]; exact xui_a (by omega)
    rw [if_neg w2]
    exact if_neg (fun r => by have := r.2; omega)
theorem WI_boat {W : Wld} (h : WI W) (p d c : Int) : WI (W.kb (botK W.K p d c) W.b W.B (tldU (botP W.K p d c) W.U)) := by
  refine WI_tld h (fun q => if_neg q) (fun q => ?_)
  have e : botK W.K p d c = botW W.K p d c := if_pos q
  have hB : 0 ≤ W.K 13 0 ∧ W.K 13 0 ≤ 6 := ki_B h.1.1
  have hw : WhB W.K := h.1.2.1
  have hn : NoB W.K := h.1.2.2.1
  rw [e]
  have g : ∀ o k, o ≠ 13 → o ≠ 14 → o ≠ 15 → o ≠ 16 → botW W.K p d c o k = W.K o k := fun o k r1 r2 r3 r4 => (xui_a r1).trans ((xui_a r4).trans ((xui_a r3).trans (xui_a r2)))
  have e13 : botW W.K p d c 13 0 = W.K 13 0 + 1 := xui_s
  refine ⟨botW_I h.1.1 q, fun a ha => ?_, fun o r1 r2 => ?_, fun s hs => ?_⟩
  · rw [e13] at ha
    rw [g 0 0 (by omega) (by omega) (by omega) (by omega)]
    have e14 : botW W.K p d c 14 a = xui W.K 14 (W.K 13 0).toNat p 14 a := (xui_a (by omega)).trans ((xui_a (by omega)).trans (xui_a (by omega)))
    rw [e14]
    unfold xui
    split
    · omega
    · exact hw a (by omega)
  · rw [e13] at r1
    have u := hn o (by omega) r2
    exact ⟨fun l hl => (g _ _ (by omega) (by omega) (by omega) (by omega)).trans (u.1 l hl), fun a ha => (g _ _ (by omega) (by omega) (by omega) (by omega)).trans (u.2 a ha)⟩
  · have u := h.V s hs
    refine ⟨u.1, fun r => ?_, fun r => ?_, u.2.2.2⟩
    · have := u.2.1 r; rw [e13]; omega
    · have := u.2.2.1 r; unfold pulP at this ⊢; rw [g 0 0 (by omega) (by omega) (by omega) (by omega)]; exact this
