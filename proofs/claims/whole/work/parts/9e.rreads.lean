/-! The next token: the reference. -/
theorem lexL_f {bs : List Int} : ∀ (n f g i : Nat), bs.length ≤ i + n → bs.length ≤ i + f → bs.length ≤ i + g → lexL bs f i = lexL bs g i := by
  intro n
  induction n with
  | zero =>
    intro f g i hn hf hg
    have e : ∀ f, lexL bs f i = [(258, (bs.length : Int), 0)] := fun f => by
      cases f with
      | zero => rfl
      | succ f => exact if_pos (by omega)
    rw [e, e]
  | succ n ih =>
    intro f g i hn hf hg
    rcases Classical.em (bs.length ≤ i) with q | q
    · have e : ∀ f, lexL bs f i = [(258, (bs.length : Int), 0)] := fun f => by
        cases f with
        | zero => rfl
        | succ f => exact if_pos q
      rw [e, e]
    · obtain ⟨f, rfl⟩ : ∃ f2, f = f2 + 1 := ⟨f - 1, by omega⟩
      obtain ⟨g, rfl⟩ : ∃ g2, g = g2 + 1 := ⟨g - 1, by omega⟩
      have h1 := rL_b (bs := bs) (j := i + 1) (by omega)
      have h2 := rD_b (bs := bs) (j := i + 1) (by omega)
      unfold lexL
      rw [ih f g (rL bs (i + 1)) (by omega) (by omega) (by omega), ih f g (rD bs (i + 1)) (by omega) (by omega) (by omega), ih f g (i + 1) (by omega) (by omega) (by omega)]
def lx (bs : List Int) (i : Nat) : List Tk := lexL bs (bs.length - i) i
theorem lx_e {bs : List Int} {i : Nat} (h : bs.length ≤ i) : lx bs i = [(258, (bs.length : Int), 0)] := by
  unfold lx
  rw [show bs.length - i = 0 by omega]
  rfl
theorem lx_u {bs : List Int} {i : Nat} (h : i < bs.length) : lx bs i = if ltP (bs.getD i 0) then (kwF bs i (rL bs (i + 1)), (i : Int), 0) :: lx bs (rL bs (i + 1)) else if dgP (bs.getD i 0) then ((if (rD bs (i + 1) : Int) - (i : Int) ≤ 4 then 256 else 257), (i : Int), nuF bs i (rD bs (i + 1))) :: lx bs (rD bs (i + 1)) else if bs.getD i 0 = 32 ∨ bs.getD i 0 = 10 then lx bs (i + 1) else ((if sgP (bs.getD i 0) then bs.getD i 0 else 257), (i : Int), 0) :: lx bs (i + 1) := by
  have h1 := rL_b (bs := bs) (j := i + 1) (by omega)
  have h2 := rD_b (bs := bs) (j := i + 1) (by omega)
  have e : lx bs i = lexL bs ((bs.length - i - 1) + 1) i := lexL_f bs.length _ _ i (by omega) (by omega) (by omega)
  rw [e]
  unfold lexL lx
  rw [if_neg (by omega), lexL_f bs.length (bs.length - i - 1) (bs.length - rL bs (i + 1)) (rL bs (i + 1)) (by omega) (by omega) (by omega), lexL_f bs.length (bs.length - i - 1) (bs.length - rD bs (i + 1)) (rD bs (i + 1)) (by omega) (by omega) (by omega), lexL_f bs.length (bs.length - i - 1) (bs.length - (i + 1)) (i + 1) (by omega) (by omega) (by omega)]
def RTok (t : Tk) (D : KK) : Prop := D 479 26 = t.2.1 ∧ (t.1 = 258 → D 479 27 = 0) ∧ (t.1 = 257 → D 479 27 = 1) ∧ (t.1 = 256 → D 479 27 = 3 ∧ D 479 28 = t.2.2) ∧ (t.1 < 256 → D 479 27 = 4 ∧ D 479 28 = t.1) ∧ (300 ≤ t.1 → D 479 27 = 2 ∧ D 479 28 = wmp t.1)
def RdS (bs : List Int) (ts : List Tk) (D : KK) : Prop := ∃ t r, ts = t :: r ∧ RTok t D ∧ (t.1 ≠ 258 → ∃ i : Nat, D 479 25 = (i : Int) ∧ i ≤ bs.length ∧ lx bs i = r)
def RdC (i f t v : Int) (D0 D : KK) : Prop := D 479 25 = i ∧ D 479 26 = f ∧ D 479 27 = t ∧ D 479 28 = v ∧ ∀ x k, (x = 479 → k ≠ 25 ∧ k ≠ 26 ∧ k ≠ 27 ∧ k ≠ 28) → D x k = D0 x k
theorem RdC.s {i f t v z : Int} {D0 D : KK} (h : RdC i f t v D0 D) : RdC z f t v D0 (xui D 479 25 z) := ⟨xui_s, (xui_j (by omega)).trans h.2.1, (xui_j (by omega)).trans h.2.2.1, (xui_j (by omega)).trans h.2.2.2.1, fun x k q => (if_neg (fun r => (q r.1).1 r.2)).trans (h.2.2.2.2 x k q)⟩
theorem RdC.f {i f t v z : Int} {D0 D : KK} (h : RdC i f t v D0 D) : RdC i z t v D0 (xui D 479 26 z) := ⟨(xui_j (by omega)).trans h.1, xui_s, (xui_j (by omega)).trans h.2.2.1, (xui_j (by omega)).trans h.2.2.2.1, fun x k q => (if_neg (fun r => (q r.1).2.1 r.2)).trans (h.2.2.2.2 x k q)⟩
theorem RdC.t {i f t v z : Int} {D0 D : KK} (h : RdC i f t v D0 D) : RdC i f z v D0 (xui D 479 27 z) := ⟨(xui_j (by omega)).trans h.1, (xui_j (by omega)).trans h.2.1, xui_s, (xui_j (by omega)).trans h.2.2.2.1, fun x k q => (if_neg (fun r => (q r.1).2.2.1 r.2)).trans (h.2.2.2.2 x k q)⟩
theorem RdC.v {i f t v z : Int} {D0 D : KK} (h : RdC i f t v D0 D) : RdC i f t z D0 (xui D 479 28 z) := ⟨(xui_j (by omega)).trans h.1, (xui_j (by omega)).trans h.2.1, (xui_j (by omega)).trans h.2.2.1, xui_s, fun x k q => (if_neg (fun r => (q r.1).2.2.2 r.2)).trans (h.2.2.2.2 x k q)⟩
theorem RdC.tp {bs : List Int} {i f t v : Int} {D0 D : KK} (h : RdC i f t v D0 D) (q : TpR bs D0) : TpR bs D := q.fr (fun x k r => h.2.2.2.2 x k (by omega))
theorem RdC.wd {i f t v : Int} {D0 D : KK} (h : RdC i f t v D0 D) (q : WdR D0) : WdR D := fun j hj => (h.2.2.2.2 498 j (by omega)).trans (q j hj)
def rvL (bs : List Int) : Nat → Nat → Int → Int
  | 0, _, v => v
  | k + 1, i, v => rvL bs k (i + 1) (if v < 10000 then 10 * v + bs.getD i 0 - 48 else v)
theorem nu_s {v c : Int} (h0 : 0 ≤ v) (h1 : v ≤ 999) (h2 : 48 ≤ c) (h3 : c ≤ 57) : nrm (nrm (nrm (v * 10) + c) - 48) = 10 * v + c - 48 := by
  rw [show nrm (v * 10) = v * 10 from nrm_id ⟨by omega, by omega⟩, show nrm (v * 10 + c) = v * 10 + c from nrm_id ⟨by omega, by omega⟩, nrm_id ⟨by omega, by omega⟩]
  omega
theorem nu_rv {bs : List Int} : ∀ (k i : Nat) (v m : Int), (∀ t, i ≤ t → t < i + k → dgP (bs.getD t 0)) → 0 ≤ v → v ≤ m → (k = 0 ∨ (k = 1 ∧ m ≤ 999) ∨ (k = 2 ∧ m ≤ 99) ∨ (k = 3 ∧ m ≤ 9)) → nuL bs k i v = rvL bs k i v
  | 0, _, _, _, _, _, _, _ => rfl
  | k + 1, i, v, m, hd, h0, h1, hk => by
    have hc := hd i (Nat.le_refl _) (by omega)
    unfold nuL rvL
    rw [nu_s h0 (by omega) hc.1 hc.2, if_pos (by omega)]
    exact nu_rv k (i + 1) _ (10 * m + 9) (fun t q1 q2 => hd t (by omega) (by omega)) (by omega) (by omega) (by omega)
theorem rnD_d {bs : List Int} : ∀ (f j t : Nat), j ≤ t → t < rnD bs f j → dgP (bs.getD t 0)
  | 0, j, t, h1, h2 => absurd h2 (by show ¬ t < j; omega)
  | f + 1, j, t, h1, h2 => by
    unfold rnD at h2
    split at h2
    · next q =>
      rcases Classical.em (t = j) with e | e
      · rw [e]; exact q.2
      · exact rnD_d f (j + 1) t (by omega) h2
    · omega
theorem rnL_d {bs : List Int} : ∀ (f j t : Nat), j ≤ t → t < rnL bs f j → ltP (bs.getD t 0)
  | 0, j, t, h1, h2 => absurd h2 (by show ¬ t < j; omega)
  | f + 1, j, t, h1, h2 => by
    unfold rnL at h2
    split at h2
    · next q =>
      rcases Classical.em (t = j) with e | e
      · rw [e]; exact q.2
      · exact rnL_d f (j + 1) t (by omega) h2
    · omega
theorem nu_ref {bs : List Int} {i : Nat} (hi : i < bs.length) (hd : dgP (bs.getD i 0)) (h4 : rD bs (i + 1) - i ≤ 4) : nuF bs i (rD bs (i + 1)) = rvL bs (rD bs (i + 1) - (i + 1)) (i + 1) (bs.getD i 0 - 48) := by
  have hb := rD_b (bs := bs) (j := i + 1) (by omega)
  unfold nuF
  rw [show rD bs (i + 1) - i = (rD bs (i + 1) - (i + 1)) + 1 by omega]
  unfold nuL
  rw [nu_s (by omega) (by omega) hd.1 hd.2, show 10 * (0 : Int) + bs.getD i 0 - 48 = bs.getD i 0 - 48 by omega]
  exact nu_rv _ _ _ 9 (fun t q1 q2 => rnD_d _ _ t q1 (by show t < rD bs (i + 1); omega)) (by omega) (by omega) (by omega)
set_option maxHeartbeats 1000000 in
theorem r_isMark2 {n : Nat} {R : Nat → Nat → Option Nat} {D : KK} (c : Int) : XC 1 197 [.inr (some 479), .inl c] (xS n, R, D) (some (.inl (bi (sgP c)))) (xS n, R, D) := by
  refine XC_of (Nat.le_of_ble_eq_true rfl) (Nat.le_of_ble_eq_true rfl) (loc := [_, _]) rfl ?_
  refine xx_iload_n (q := 1) rfl rfl rfl ?_
  refine xx_bipush (q := 3) rfl rfl (by decide) ?_
  refine xx_icmp_eq (q := 60) (q2 := 6) rfl rfl rfl (fun h3 => ?_) (fun h3 => ?_)
  · refine xx_iconst (q := 61) rfl rfl (by decide) ?_
    refine xx_goto (q := 65) rfl rfl ?_
    exact xx_iret rfl (Or.inr rfl) ⟨congrArg (fun z => some (Sum.inl z)) (by exact (bi_t (by omega)).symm), rfl⟩
  · refine xx_iload_n (q := 7) rfl rfl rfl ?_
    refine xx_bipush (q := 9) rfl rfl (by decide) ?_
    refine xx_icmp_eq (q := 60) (q2 := 12) rfl rfl rfl (fun h9 => ?_) (fun h9 => ?_)
    · refine xx_iconst (q := 61) rfl rfl (by decide) ?_
      refine xx_goto (q := 65) rfl rfl ?_
      exact xx_iret rfl (Or.inr rfl) ⟨congrArg (fun z => some (Sum.inl z)) (by exact (bi_t (by omega)).symm), rfl⟩
    · refine xx_iload_n (q := 13) rfl rfl rfl ?_
      refine xx_bipush (q := 15) rfl rfl (by decide) ?_
      refine xx_icmp_eq (q := 60) (q2 := 18) rfl rfl rfl (fun h15 => ?_) (fun h15 => ?_)
      · refine xx_iconst (q := 61) rfl rfl (by decide) ?_
        refine xx_goto (q := 65) rfl rfl ?_
        exact xx_iret rfl (Or.inr rfl) ⟨congrArg (fun z => some (Sum.inl z)) (by exact (bi_t (by omega)).symm), rfl⟩
      · refine xx_iload_n (q := 19) rfl rfl rfl ?_
        refine xx_bipush (q := 21) rfl rfl (by decide) ?_
        refine xx_icmp_eq (q := 60) (q2 := 24) rfl rfl rfl (fun h21 => ?_) (fun h21 => ?_)
        · refine xx_iconst (q := 61) rfl rfl (by decide) ?_
          refine xx_goto (q := 65) rfl rfl ?_
          exact xx_iret rfl (Or.inr rfl) ⟨congrArg (fun z => some (Sum.inl z)) (by exact (bi_t (by omega)).symm), rfl⟩
        · refine xx_iload_n (q := 25) rfl rfl rfl ?_
          refine xx_bipush (q := 27) rfl rfl (by decide) ?_
          refine xx_icmp_eq (q := 60) (q2 := 30) rfl rfl rfl (fun h27 => ?_) (fun h27 => ?_)
          · refine xx_iconst (q := 61) rfl rfl (by decide) ?_
            refine xx_goto (q := 65) rfl rfl ?_
            exact xx_iret rfl (Or.inr rfl) ⟨congrArg (fun z => some (Sum.inl z)) (by exact (bi_t (by omega)).symm), rfl⟩
          · refine xx_iload_n (q := 31) rfl rfl rfl ?_
            refine xx_bipush (q := 33) rfl rfl (by decide) ?_
            refine xx_icmp_eq (q := 60) (q2 := 36) rfl rfl rfl (fun h33 => ?_) (fun h33 => ?_)
            · refine xx_iconst (q := 61) rfl rfl (by decide) ?_
              refine xx_goto (q := 65) rfl rfl ?_
              exact xx_iret rfl (Or.inr rfl) ⟨congrArg (fun z => some (Sum.inl z)) (by exact (bi_t (by omega)).symm), rfl⟩
            · refine xx_iload_n (q := 37) rfl rfl rfl ?_
              refine xx_bipush (q := 39) rfl rfl (by decide) ?_
              refine xx_icmp_eq (q := 60) (q2 := 42) rfl rfl rfl (fun h39 => ?_) (fun h39 => ?_)
              · refine xx_iconst (q := 61) rfl rfl (by decide) ?_
                refine xx_goto (q := 65) rfl rfl ?_
                exact xx_iret rfl (Or.inr rfl) ⟨congrArg (fun z => some (Sum.inl z)) (by exact (bi_t (by omega)).symm), rfl⟩
              · refine xx_iload_n (q := 43) rfl rfl rfl ?_
                refine xx_bipush (q := 45) rfl rfl (by decide) ?_
                refine xx_icmp_eq (q := 60) (q2 := 48) rfl rfl rfl (fun h45 => ?_) (fun h45 => ?_)
                · refine xx_iconst (q := 61) rfl rfl (by decide) ?_
                  refine xx_goto (q := 65) rfl rfl ?_
                  exact xx_iret rfl (Or.inr rfl) ⟨congrArg (fun z => some (Sum.inl z)) (by exact (bi_t (by omega)).symm), rfl⟩
                · refine xx_iload_n (q := 49) rfl rfl rfl ?_
                  refine xx_bipush (q := 51) rfl rfl (by decide) ?_
                  refine xx_icmp_eq (q := 60) (q2 := 54) rfl rfl rfl (fun h51 => ?_) (fun h51 => ?_)
                  · refine xx_iconst (q := 61) rfl rfl (by decide) ?_
                    refine xx_goto (q := 65) rfl rfl ?_
                    exact xx_iret rfl (Or.inr rfl) ⟨congrArg (fun z => some (Sum.inl z)) (by exact (bi_t (by omega)).symm), rfl⟩
                  · refine xx_iload_n (q := 55) rfl rfl rfl ?_
                    refine xx_bipush (q := 57) rfl rfl (by decide) ?_
                    refine xx_icmp_ne (q := 64) (q2 := 60) rfl rfl rfl (fun h57 => ?_) (fun h57 => ?_)
                    · refine xx_iconst (q := 65) rfl rfl (by decide) ?_
                      exact xx_iret rfl (Or.inl rfl) ⟨congrArg (fun z => some (Sum.inl z)) (by exact (bi_f (by omega)).symm), rfl⟩
                    · refine xx_iconst (q := 61) rfl rfl (by decide) ?_
                      refine xx_goto (q := 65) rfl rfl ?_
                      exact xx_iret rfl (Or.inr rfl) ⟨congrArg (fun z => some (Sum.inl z)) (by exact (bi_t (by omega)).symm), rfl⟩
theorem raF_l {bs : List Int} {i : Nat} (h : i < bs.length) : raF bs (i : Int) = bs.getD i 0 := by
  unfold raF
  rw [if_pos (by omega), show (i : Int).toNat = i by omega]
theorem raF_e {bs : List Int} {i : Nat} (h : bs.length ≤ i) : raF bs (i : Int) = -1 := if_neg (by omega)
set_option maxHeartbeats 1000000 in
theorem r_re_B {n : Nat} {R : Nat → Nat → Option Nat} {D0 : KK} {Q : XQ} (hR : RF R) (bs : List Int) (hT : TpR bs D0) (hl4 : bs.length ≤ 400) (hby : ∀ j, 0 ≤ bs.getD j 0 ∧ bs.getD j 0 ≤ 255) (f t v : Int) : ∀ (k : Nat) (i : Nat) (D : KK) (x : Option XV), RdC (i : Int) f t v D0 D → i + k = bs.length → (∀ (j : Nat) (D2 : KK), RdC (j : Int) f t v D0 D2 → i ≤ j → j ≤ bs.length → lx bs j = lx bs i → (j < bs.length → ¬ (bs.getD j 0 = 32 ∨ bs.getD j 0 = 10)) → XX (XC 2) 199 Q 39 [some (.inr (some 479)), x] [] (xS n, R, D2)) → XX (XC 2) 199 (Q) 0 [some (.inr (some 479)), x] [] (xS n, R, D) := by
  intro k
  induction k using Nat.strongRecOn with
  | ind k ih =>
  intro i D x hC hk kx
  refine xx_aload_n (q := 1) rfl rfl rfl ?_
  refine xx_aload_n (q := 2) rfl rfl rfl ?_
  refine xx_gez (q := 5) rfl rfl rfl xS_479 (Nat.le_of_ble_eq_true rfl) rfl hC.1 ?_
  refine xx_callV (q := 8) (As := [_]) (rest := []) rfl rfl rfl (Or.inl rfl) rfl rfl (Nat.le_of_ble_eq_true rfl) xS_479 (XCm (r_raw (n := n) hR bs (hC.tp hT) hl4 hby (i : Int) (by omega)) rfl) rfl ?_
  refine xx_bipush (q := 10) rfl rfl (by decide) ?_
  refine xx_icmp_eq (q := 26) (q2 := 13) rfl rfl rfl (fun h10 => ?_) (fun h10 => ?_)
  · refine xx_aload_n (q := 27) rfl rfl rfl ?_
    refine xx_aload_n (q := 28) rfl rfl rfl ?_
    refine xx_gez (q := 31) rfl rfl rfl xS_479 (Nat.le_of_ble_eq_true rfl) rfl hC.1 ?_
    refine xx_iconst (q := 32) rfl rfl (by decide) ?_
    refine xx_iaddR (q := 33) rfl rfl (by omega) (by omega) ?_
    refine xr_puz (RdC ((i : Int) + 1) f t v D0) (q := 36) rfl rfl rfl xS_479 (Nat.le_of_ble_eq_true rfl) (Nat.le_of_ble_eq_true rfl) (fun h => by cases h) (Or.inl rfl) hC.s (fun D2 hC2 => ?_)
    refine xx_goto (q := 0) rfl rfl ?_
    have hi : i < bs.length := by
      rcases Nat.lt_or_ge i bs.length with y | y
      · exact y
      · rw [raF_e y] at h10; omega
    have hb : bs.getD i 0 = 32 ∨ bs.getD i 0 = 10 := by rw [← raF_l hi]; exact Or.inl h10
    obtain ⟨k, rfl⟩ : ∃ k2, k = k2 + 1 := ⟨k - 1, by omega⟩
    have e : lx bs i = lx bs (i + 1) := (lx_u hi).trans ((if_neg (by omega)).trans ((if_neg (by omega)).trans (if_pos hb)))
    refine ih k (by omega) (i + 1) _ x (by rw [show ((i + 1 : Nat) : Int) = (i : Int) + 1 by omega]; exact hC2) (by omega) (fun j D2 q1 q2 q3 q4 q5 => kx j D2 q1 (by omega) q3 (q4.trans e.symm) q5)
  · refine xx_aload_n (q := 14) rfl rfl rfl ?_
    refine xx_aload_n (q := 15) rfl rfl rfl ?_
    refine xx_gez (q := 18) rfl rfl rfl xS_479 (Nat.le_of_ble_eq_true rfl) rfl hC.1 ?_
    refine xx_callV (q := 21) (As := [_]) (rest := []) rfl rfl rfl (Or.inl rfl) rfl rfl (Nat.le_of_ble_eq_true rfl) xS_479 (XCm (r_raw (n := n) hR bs (hC.tp hT) hl4 hby (i : Int) (by omega)) rfl) rfl ?_
    refine xx_bipush (q := 23) rfl rfl (by decide) ?_
    refine xx_icmp_ne (q := 39) (q2 := 26) rfl rfl rfl (fun h23 => ?_) (fun h23 => ?_)
    · refine kx i D hC (Nat.le_refl _) (by omega) rfl (fun hi q => ?_)
      rw [raF_l hi] at h10 h23
      omega
    · refine xx_aload_n (q := 27) rfl rfl rfl ?_
      refine xx_aload_n (q := 28) rfl rfl rfl ?_
      refine xx_gez (q := 31) rfl rfl rfl xS_479 (Nat.le_of_ble_eq_true rfl) rfl hC.1 ?_
      refine xx_iconst (q := 32) rfl rfl (by decide) ?_
      refine xx_iaddR (q := 33) rfl rfl (by omega) (by omega) ?_
      refine xr_puz (RdC ((i : Int) + 1) f t v D0) (q := 36) rfl rfl rfl xS_479 (Nat.le_of_ble_eq_true rfl) (Nat.le_of_ble_eq_true rfl) (fun h => by cases h) (Or.inl rfl) hC.s (fun D4 hC4 => ?_)
      refine xx_goto (q := 0) rfl rfl ?_
      have hi : i < bs.length := by
        rcases Nat.lt_or_ge i bs.length with y | y
        · exact y
        · rw [raF_e y] at h23; omega
      have hb : bs.getD i 0 = 32 ∨ bs.getD i 0 = 10 := by rw [← raF_l hi]; exact Or.inr h23
      obtain ⟨k, rfl⟩ : ∃ k2, k = k2 + 1 := ⟨k - 1, by omega⟩
      have e : lx bs i = lx bs (i + 1) := (lx_u hi).trans ((if_neg (by omega)).trans ((if_neg (by omega)).trans (if_pos hb)))
      refine ih k (by omega) (i + 1) _ x (by rw [show ((i + 1 : Nat) : Int) = (i : Int) + 1 by omega]; exact hC4) (by omega) (fun j D2 q1 q2 q3 q4 q5 => kx j D2 q1 (by omega) q3 (q4.trans e.symm) q5)
set_option maxHeartbeats 1000000 in
theorem r_re_L {n : Nat} {R : Nat → Nat → Option Nat} {D0 : KK} {Q : XQ} (hR : RF R) (bs : List Int) (hT : TpR bs D0) (hl4 : bs.length ≤ 400) (hby : ∀ j, 0 ≤ bs.getD j 0 ∧ bs.getD j 0 ≤ 255) (f t v c : Int) : ∀ (k : Nat) (i : Nat) (D : KK), RdC (i : Int) f t v D0 D → i + k = bs.length → (∀ D2 : KK, RdC ((rnL bs k i : Nat) : Int) f t v D0 D2 → XX (XC 2) 199 Q 123 [some (.inr (some 479)), some (.inl c)] [] (xS n, R, D2)) → XX (XC 2) 199 (Q) 95 [some (.inr (some 479)), some (.inl c)] [] (xS n, R, D) := by
  intro k
  induction k using Nat.strongRecOn with
  | ind k ih =>
  intro i D hC hk kx
  refine xx_aload_n (q := 96) rfl rfl rfl ?_
  refine xx_aload_n (q := 97) rfl rfl rfl ?_
  refine xx_aload_n (q := 98) rfl rfl rfl ?_
  refine xx_gez (q := 101) rfl rfl rfl xS_479 (Nat.le_of_ble_eq_true rfl) rfl hC.1 ?_
  refine xx_callV (q := 104) (As := [_]) (rest := [_]) rfl rfl rfl (Or.inl rfl) rfl rfl (Nat.le_of_ble_eq_true rfl) xS_479 (XCm (r_raw (n := n) hR bs (hC.tp hT) hl4 hby (i : Int) (by omega)) rfl) rfl ?_
  refine xx_callV (q := 107) (As := [_]) (rest := []) rfl rfl rfl (Or.inl rfl) rfl rfl (Nat.le_of_ble_eq_true rfl) xS_479 (XCm (r_isLetter (raF bs (i : Int))) rfl) rfl ?_
  refine xx_ifb_eq (q := 123) (q2 := 110) rfl rfl rfl (fun h107 => ?_) (fun h107 => ?_)
  · cases k with
    | zero => exact kx D hC
    | succ k =>
      rw [raF_l (by omega)] at h107
      rw [show rnL bs (k + 1) i = i from if_neg (fun q => h107 q.2)] at kx
      exact kx D hC
  · refine xx_aload_n (q := 111) rfl rfl rfl ?_
    refine xx_aload_n (q := 112) rfl rfl rfl ?_
    refine xx_gez (q := 115) rfl rfl rfl xS_479 (Nat.le_of_ble_eq_true rfl) rfl hC.1 ?_
    refine xx_iconst (q := 116) rfl rfl (by decide) ?_
    refine xx_iaddR (q := 117) rfl rfl (by omega) (by omega) ?_
    refine xr_puz (RdC ((i : Int) + 1) f t v D0) (q := 120) rfl rfl rfl xS_479 (Nat.le_of_ble_eq_true rfl) (Nat.le_of_ble_eq_true rfl) (fun h => by cases h) (Or.inl rfl) hC.s (fun D2 hC2 => ?_)
    refine xx_goto (q := 95) rfl rfl ?_
    have hi : i < bs.length := by
      rcases Nat.lt_or_ge i bs.length with y | y
      · exact y
      · rw [raF_e y] at h107; omega
    obtain ⟨k, rfl⟩ : ∃ k2, k = k2 + 1 := ⟨k - 1, by omega⟩
    rw [raF_l hi] at h107
    rw [show rnL bs (k + 1) i = rnL bs k (i + 1) from if_pos ⟨hi, h107⟩] at kx
    exact ih k (by omega) (i + 1) _ (by rw [show ((i + 1 : Nat) : Int) = (i : Int) + 1 by omega]; exact hC2) (by omega) kx
set_option maxHeartbeats 1000000 in
theorem r_re_D {n : Nat} {R : Nat → Nat → Option Nat} {D0 : KK} {Q : XQ} (hR : RF R) (bs : List Int) (hT : TpR bs D0) (hl4 : bs.length ≤ 400) (hby : ∀ j, 0 ≤ bs.getD j 0 ∧ bs.getD j 0 ≤ 255) (f t c : Int) : ∀ (k : Nat) (i : Nat) (v : Int) (D : KK), RdC (i : Int) f t v D0 D → i + k = bs.length → 0 ≤ v → v ≤ 100010 → (∀ D2 : KK, RdC ((rnD bs k i : Nat) : Int) f t (rvL bs (rnD bs k i - i) i v) D0 D2 → XX (XC 2) 199 Q 239 [some (.inr (some 479)), some (.inl c)] [] (xS n, R, D2)) → XX (XC 2) 199 (Q) 171 [some (.inr (some 479)), some (.inl c)] [] (xS n, R, D) := by
  intro k
  induction k using Nat.strongRecOn with
  | ind k ih =>
  intro i v D hC hk hv0 hv1 kx
  refine xx_aload_n (q := 172) rfl rfl rfl ?_
  refine xx_aload_n (q := 173) rfl rfl rfl ?_
  refine xx_aload_n (q := 174) rfl rfl rfl ?_
  refine xx_gez (q := 177) rfl rfl rfl xS_479 (Nat.le_of_ble_eq_true rfl) rfl hC.1 ?_
  refine xx_callV (q := 180) (As := [_]) (rest := [_]) rfl rfl rfl (Or.inl rfl) rfl rfl (Nat.le_of_ble_eq_true rfl) xS_479 (XCm (r_raw (n := n) hR bs (hC.tp hT) hl4 hby (i : Int) (by omega)) rfl) rfl ?_
  refine xx_callV (q := 183) (As := [_]) (rest := []) rfl rfl rfl (Or.inl rfl) rfl rfl (Nat.le_of_ble_eq_true rfl) xS_479 (XCm (r_isDigit (raF bs (i : Int))) rfl) rfl ?_
  refine xx_ifb_eq (q := 239) (q2 := 186) rfl rfl rfl (fun h183 => ?_) (fun h183 => ?_)
  · have e : rnD bs k i = i := by
      cases k with
      | zero => rfl
      | succ k =>
        rw [raF_l (by omega)] at h183
        exact if_neg (fun q => h183 q.2)
    rw [e, Nat.sub_self] at kx
    exact kx D hC
  · have hi : i < bs.length := by
      rcases Nat.lt_or_ge i bs.length with y | y
      · exact y
      · rw [raF_e y] at h183; omega
    have hrw := raF_l hi
    refine xx_aload_n (q := 187) rfl rfl rfl ?_
    refine xx_aload_n (q := 188) rfl rfl rfl ?_
    refine xx_gez (q := 191) rfl rfl rfl xS_479 (Nat.le_of_ble_eq_true rfl) rfl hC.2.2.2.1 ?_
    refine xx_sipush (q := 194) rfl rfl (by decide) ?_
    refine xx_icmp_ge (q := 219) (q2 := 197) rfl rfl rfl (fun h194 => ?_) (fun h194 => ?_)
    · refine xx_aload_n (q := 220) rfl rfl rfl ?_
      refine xx_gez (q := 223) rfl rfl rfl xS_479 (Nat.le_of_ble_eq_true rfl) rfl hC.2.2.2.1 ?_
      refine xr_puz (RdC (i : Int) f t v D0) (q := 226) rfl rfl rfl xS_479 (Nat.le_of_ble_eq_true rfl) (Nat.le_of_ble_eq_true rfl) (fun h => by cases h) (Or.inl rfl) hC.v (fun D2 hC2 => ?_)
      refine xx_aload_n (q := 227) rfl rfl rfl ?_
      refine xx_aload_n (q := 228) rfl rfl rfl ?_
      refine xx_gez (q := 231) rfl rfl rfl xS_479 (Nat.le_of_ble_eq_true rfl) rfl hC2.1 ?_
      refine xx_iconst (q := 232) rfl rfl (by decide) ?_
      refine xx_iaddR (q := 233) rfl rfl (by omega) (by omega) ?_
      refine xr_puz (RdC ((i : Int) + 1) f t v D0) (q := 236) rfl rfl rfl xS_479 (Nat.le_of_ble_eq_true rfl) (Nat.le_of_ble_eq_true rfl) (fun h => by cases h) (Or.inl rfl) hC2.s (fun D4 hC4 => ?_)
      refine xx_goto (q := 171) rfl rfl ?_
      obtain ⟨k, rfl⟩ : ∃ k2, k = k2 + 1 := ⟨k - 1, by omega⟩
      have hdd := h183
      rw [hrw] at hdd
      have e1 : rnD bs (k + 1) i = rnD bs k (i + 1) := if_pos ⟨hi, hdd⟩
      have hb := rnD_b bs k (i + 1) (by omega) (by omega)
      have e2 : rvL bs (rnD bs (k + 1) i - i) i v = rvL bs (rnD bs k (i + 1) - (i + 1)) (i + 1) (v) := by
        rw [e1, show rnD bs k (i + 1) - i = (rnD bs k (i + 1) - (i + 1)) + 1 by omega]
        show rvL bs (rnD bs k (i + 1) - (i + 1)) (i + 1) (if v < 10000 then 10 * v + bs.getD i 0 - 48 else v) = _
        rw [if_neg (by omega)]
      rw [e2, e1] at kx
      exact ih k (by omega) (i + 1) _ _ (by rw [show ((i + 1 : Nat) : Int) = (i : Int) + 1 by omega]; exact hC4) (by omega) (by omega) (by omega) kx
    · refine xx_bipush (q := 199) rfl rfl (by decide) ?_
      refine xx_aload_n (q := 200) rfl rfl rfl ?_
      refine xx_gez (q := 203) rfl rfl rfl xS_479 (Nat.le_of_ble_eq_true rfl) rfl hC.2.2.2.1 ?_
      refine xx_imulR (q := 204) rfl rfl (by omega) (by omega) ?_
      refine xx_aload_n (q := 205) rfl rfl rfl ?_
      refine xx_aload_n (q := 206) rfl rfl rfl ?_
      refine xx_gez (q := 209) rfl rfl rfl xS_479 (Nat.le_of_ble_eq_true rfl) rfl hC.1 ?_
      refine xx_callV (q := 212) (As := [_]) (rest := [_, _]) rfl rfl rfl (Or.inl rfl) rfl rfl (Nat.le_of_ble_eq_true rfl) xS_479 (XCm (r_raw (n := n) hR bs (hC.tp hT) hl4 hby (i : Int) (by omega)) rfl) rfl ?_
      refine xx_iaddR (q := 213) rfl rfl (by omega) (by omega) ?_
      refine xx_bipush (q := 215) rfl rfl (by decide) ?_
      refine xx_isubR (q := 216) rfl rfl (by omega) (by omega) ?_
      refine xx_goto (q := 223) rfl rfl ?_
      refine xr_puz (RdC (i : Int) f t (((10 * v) + (raF bs (i : Int))) - 48) D0) (q := 226) rfl rfl rfl xS_479 (Nat.le_of_ble_eq_true rfl) (Nat.le_of_ble_eq_true rfl) (fun h => by cases h) (Or.inl rfl) hC.v (fun D6 hC6 => ?_)
      refine xx_aload_n (q := 227) rfl rfl rfl ?_
      refine xx_aload_n (q := 228) rfl rfl rfl ?_
      refine xx_gez (q := 231) rfl rfl rfl xS_479 (Nat.le_of_ble_eq_true rfl) rfl hC6.1 ?_
      refine xx_iconst (q := 232) rfl rfl (by decide) ?_
      refine xx_iaddR (q := 233) rfl rfl (by omega) (by omega) ?_
      refine xr_puz (RdC ((i : Int) + 1) f t (((10 * v) + (raF bs (i : Int))) - 48) D0) (q := 236) rfl rfl rfl xS_479 (Nat.le_of_ble_eq_true rfl) (Nat.le_of_ble_eq_true rfl) (fun h => by cases h) (Or.inl rfl) hC6.s (fun D8 hC8 => ?_)
      refine xx_goto (q := 171) rfl rfl ?_
      obtain ⟨k, rfl⟩ : ∃ k2, k = k2 + 1 := ⟨k - 1, by omega⟩
      have hdd := h183
      rw [hrw] at hdd
      have e1 : rnD bs (k + 1) i = rnD bs k (i + 1) := if_pos ⟨hi, hdd⟩
      have hb := rnD_b bs k (i + 1) (by omega) (by omega)
      have e2 : rvL bs (rnD bs (k + 1) i - i) i v = rvL bs (rnD bs k (i + 1) - (i + 1)) (i + 1) (((10 * v) + (raF bs (i : Int))) - 48) := by
        rw [e1, show rnD bs k (i + 1) - i = (rnD bs k (i + 1) - (i + 1)) + 1 by omega]
        show rvL bs (rnD bs k (i + 1) - (i + 1)) (i + 1) (if v < 10000 then 10 * v + bs.getD i 0 - 48 else v) = _
        rw [if_pos (by omega), hrw]
      rw [e2, e1] at kx
      exact ih k (by omega) (i + 1) _ _ (by rw [show ((i + 1 : Nat) : Int) = (i : Int) + 1 by omega]; exact hC8) (by omega) (by omega) (by omega) kx
theorem RTok_k {k p w s v t : Int} {D0 D : KK} (h : RdC s p t v D0 D) (hk : (k = 258 ∧ t = 0) ∨ (k = 257 ∧ t = 1) ∨ (k = 256 ∧ t = 3 ∧ v = w) ∨ (k < 256 ∧ t = 4 ∧ v = k) ∨ (300 ≤ k ∧ t = 2 ∧ v = wmp k)) : RTok (k, p, w) D := by
  obtain ⟨h1, h2, h3, h4, _⟩ := h
  refine ⟨h2, fun q => ?_, fun q => ?_, fun q => ?_, fun q => ?_, fun q => ?_⟩
  all_goals (rcases hk with ⟨e1, e2⟩ | ⟨e1, e2⟩ | ⟨e1, e2, e3⟩ | ⟨e1, e2, e3⟩ | ⟨e1, e2, e3⟩ <;> first | (exfalso; simp only at q; omega) | (exact h3.trans e2) | (exact ⟨h3.trans e2, h4.trans e3⟩))
theorem RdS_of {bs : List Int} {t : Tk} {r : List Tk} {D : KK} {j : Nat} (h : RTok t D) (h5 : t.1 ≠ 258 → D 479 25 = (j : Int) ∧ j ≤ bs.length ∧ lx bs j = r) : RdS bs (t :: r) D := ⟨t, r, rfl, h, fun q => ⟨j, h5 q⟩⟩
theorem WMP_b : ∀ j, j < 31 → 0 ≤ WMP.getD j 0 := by decide +kernel
theorem wmp_b {k : Int} (h0 : 300 ≤ k) (h1 : k ≤ 330) : 0 ≤ wmp k := WMP_b _ (by omega)
set_option maxHeartbeats 1000000 in
theorem r_re_1 {n : Nat} {R : Nat → Nat → Option Nat} {D0 D : KK} (hR : RF R) (bs : List Int) (hT : TpR bs D0) (hl4 : bs.length ≤ 400) (hby : ∀ j, 0 ≤ bs.getD j 0 ∧ bs.getD j 0 ≤ 255) (hW : WdR D0) (i : Nat) (hi : i < bs.length) (hlt0 : ltP (bs.getD i 0)) (c v : Int) (hC : RdC ((rL bs (i + 1) : Nat) : Int) (i : Int) 1 v D0 D) : XX (XC 2) 199 (XP none (xS n) R (fun D' => RdS bs (lx bs i) D' ∧ ∀ x k, (x = 479 → k ≠ 25 ∧ k ≠ 26 ∧ k ≠ 27 ∧ k ≠ 28) → D' x k = D0 x k)) 123 [some (.inr (some 479)), some (.inl c)] [] (xS n, R, D) := by
  have hb := rL_b (bs := bs) (j := i + 1) (by omega)
  have hltt : ∀ t, i ≤ t → t < rL bs (i + 1) → ltP (bs.getD t 0) := fun t q1 q2 => by
    rcases Classical.em (t = i) with e | e
    · rw [e]; exact hlt0
    · exact rnL_d _ _ t (by omega) q2
  refine xx_aload_n (q := 124) rfl rfl rfl ?_
  refine xx_aload_n (q := 125) rfl rfl rfl ?_
  refine xx_aload_n (q := 126) rfl rfl rfl ?_
  refine xx_gez (q := 129) rfl rfl rfl xS_479 (Nat.le_of_ble_eq_true rfl) rfl hC.2.1 ?_
  refine xx_aload_n (q := 130) rfl rfl rfl ?_
  refine xx_gez (q := 133) rfl rfl rfl xS_479 (Nat.le_of_ble_eq_true rfl) rfl hC.1 ?_
  refine xx_callV (q := 136) (As := [_, _]) (rest := [_]) rfl rfl rfl (Or.inl rfl) rfl rfl (Nat.le_of_ble_eq_true rfl) xS_479 (XCm (r_wordAt (n := n) hR bs (hC.tp hT) hl4 (hC.wd hW) i (rL bs (i + 1)) (by omega) (by omega) hltt) rfl) rfl ?_
  refine xr_puz (RdC ((rL bs (i + 1) : Nat) : Int) (i : Int) 1 (fnW (eqW bs i (rL bs (i + 1))) RWL 0) D0) (q := 139) rfl rfl rfl xS_479 (Nat.le_of_ble_eq_true rfl) (Nat.le_of_ble_eq_true rfl) (fun h => by cases h) (Or.inl rfl) hC.v (fun D2 hC2 => ?_)
  refine xx_aload_n (q := 140) rfl rfl rfl ?_
  refine xx_gez (q := 143) rfl rfl rfl xS_479 (Nat.le_of_ble_eq_true rfl) rfl hC2.2.2.2.1 ?_
  refine xx_iconst (q := 144) rfl rfl (by decide) ?_
  refine xx_icmp_eq (q := 273) (q2 := 147) rfl rfl rfl (fun h144 => ?_) (fun h144 => ?_)
  · rcases W_rel (bs := bs) (i := i) (j := rL bs (i + 1)) with ⟨e1, e2⟩ | ⟨e0, e1, e2⟩
    · rw [lx_u hi, if_pos hlt0, kwF_e, if_pos e1]
      exact xx_vret rfl rfl ⟨rfl, _, rfl, RdS_of (j := rL bs (i + 1)) (RTok_k hC2 (Or.inr (Or.inl ⟨rfl, rfl⟩))) (fun _ => ⟨hC2.1, by omega, rfl⟩), fun x k q => hC2.2.2.2.2 x k q⟩
    · exfalso
      have := wmp_b e0 e1
      omega
  · refine xx_aload_n (q := 148) rfl rfl rfl ?_
    refine xx_iconst (q := 149) rfl rfl (by decide) ?_
    refine xr_puz (RdC ((rL bs (i + 1) : Nat) : Int) (i : Int) 2 (fnW (eqW bs i (rL bs (i + 1))) RWL 0) D0) (q := 152) rfl rfl rfl xS_479 (Nat.le_of_ble_eq_true rfl) (Nat.le_of_ble_eq_true rfl) (fun h => by cases h) (Or.inl rfl) hC2.t (fun D4 hC4 => ?_)
    refine xx_goto (q := 273) rfl rfl ?_
    rcases W_rel (bs := bs) (i := i) (j := rL bs (i + 1)) with ⟨e1, e2⟩ | ⟨e0, e1, e2⟩
    · exact absurd e2 h144
    · rw [lx_u hi, if_pos hlt0, kwF_e, if_neg (by omega)]
      exact xx_vret rfl rfl ⟨rfl, _, rfl, RdS_of (j := rL bs (i + 1)) (RTok_k hC4 (Or.inr (Or.inr (Or.inr (Or.inr ⟨e0, rfl, e2⟩))))) (fun _ => ⟨hC4.1, by omega, rfl⟩), fun x k q => hC4.2.2.2.2 x k q⟩
set_option maxHeartbeats 1000000 in
theorem r_re_2 {n : Nat} {R : Nat → Nat → Option Nat} {D0 D : KK} (hR : RF R) (bs : List Int) (hT : TpR bs D0) (hl4 : bs.length ≤ 400) (hby : ∀ j, 0 ≤ bs.getD j 0 ∧ bs.getD j 0 ≤ 255) (hW : WdR D0) (i : Nat) (hi : i < bs.length) (hnl : ¬ ltP (bs.getD i 0)) (hdg : dgP (bs.getD i 0)) (c v : Int) (hv : rD bs (i + 1) - i ≤ 4 → v = nuF bs i (rD bs (i + 1))) (hC : RdC ((rD bs (i + 1) : Nat) : Int) (i : Int) 1 v D0 D) : XX (XC 2) 199 (XP none (xS n) R (fun D' => RdS bs (lx bs i) D' ∧ ∀ x k, (x = 479 → k ≠ 25 ∧ k ≠ 26 ∧ k ≠ 27 ∧ k ≠ 28) → D' x k = D0 x k)) 239 [some (.inr (some 479)), some (.inl c)] [] (xS n, R, D) := by
  have hb := rD_b (bs := bs) (j := i + 1) (by omega)
  refine xx_aload_n (q := 240) rfl rfl rfl ?_
  refine xx_gez (q := 243) rfl rfl rfl xS_479 (Nat.le_of_ble_eq_true rfl) rfl hC.1 ?_
  refine xx_aload_n (q := 244) rfl rfl rfl ?_
  refine xx_gez (q := 247) rfl rfl rfl xS_479 (Nat.le_of_ble_eq_true rfl) rfl hC.2.1 ?_
  refine xx_isubR (q := 248) rfl rfl (by omega) (by omega) ?_
  refine xx_iconst (q := 249) rfl rfl (by decide) ?_
  refine xx_icmp_ge (q := 273) (q2 := 252) rfl rfl rfl (fun h249 => ?_) (fun h249 => ?_)
  · rw [lx_u hi, if_neg hnl, if_pos hdg, if_neg (by omega)]
    exact xx_vret rfl rfl ⟨rfl, _, rfl, RdS_of (j := rD bs (i + 1)) (RTok_k hC (Or.inr (Or.inl ⟨rfl, rfl⟩))) (fun _ => ⟨hC.1, by omega, rfl⟩), fun x k q => hC.2.2.2.2 x k q⟩
  · refine xx_aload_n (q := 253) rfl rfl rfl ?_
    refine xx_iconst (q := 254) rfl rfl (by decide) ?_
    refine xr_puz (RdC ((rD bs (i + 1) : Nat) : Int) (i : Int) 3 v D0) (q := 257) rfl rfl rfl xS_479 (Nat.le_of_ble_eq_true rfl) (Nat.le_of_ble_eq_true rfl) (fun h => by cases h) (Or.inl rfl) hC.t (fun D2 hC2 => ?_)
    refine xx_goto (q := 273) rfl rfl ?_
    rw [lx_u hi, if_neg hnl, if_pos hdg, if_pos (by omega)]
    exact xx_vret rfl rfl ⟨rfl, _, rfl, RdS_of (j := rD bs (i + 1)) (RTok_k hC2 (Or.inr (Or.inr (Or.inl ⟨rfl, rfl, hv (by omega)⟩)))) (fun _ => ⟨hC2.1, by omega, rfl⟩), fun x k q => hC2.2.2.2.2 x k q⟩
set_option maxHeartbeats 1000000 in
theorem r_re_3 {n : Nat} {R : Nat → Nat → Option Nat} {D0 D : KK} (hR : RF R) (bs : List Int) (hT : TpR bs D0) (hl4 : bs.length ≤ 400) (hby : ∀ j, 0 ≤ bs.getD j 0 ∧ bs.getD j 0 ≤ 255) (hW : WdR D0) (i : Nat) (hil : i ≤ bs.length) (hnb : i < bs.length → ¬ (bs.getD i 0 = 32 ∨ bs.getD i 0 = 10)) (f t v : Int) (x : Option XV) (hC : RdC (i : Int) f t v D0 D) : XX (XC 2) 199 (XP none (xS n) R (fun D' => RdS bs (lx bs i) D' ∧ ∀ x k, (x = 479 → k ≠ 25 ∧ k ≠ 26 ∧ k ≠ 27 ∧ k ≠ 28) → D' x k = D0 x k)) 39 [some (.inr (some 479)), x] [] (xS n, R, D) := by
  rcases Nat.lt_or_ge i bs.length with hi | hi
  · replace hnb := hnb hi
    refine xx_aload_n (q := 40) rfl rfl rfl ?_
    refine xx_aload_n (q := 41) rfl rfl rfl ?_
    refine xx_gez (q := 44) rfl rfl rfl xS_479 (Nat.le_of_ble_eq_true rfl) rfl hC.1 ?_
    refine xr_puz (RdC (i : Int) (i : Int) t v D0) (q := 47) rfl rfl rfl xS_479 (Nat.le_of_ble_eq_true rfl) (Nat.le_of_ble_eq_true rfl) (fun h => by cases h) (Or.inl rfl) hC.f (fun D2 hC2 => ?_)
    refine xx_aload_n (q := 48) rfl rfl rfl ?_
    refine xx_iconst (q := 49) rfl rfl (by decide) ?_
    refine xr_puz (RdC (i : Int) (i : Int) 1 v D0) (q := 52) rfl rfl rfl xS_479 (Nat.le_of_ble_eq_true rfl) (Nat.le_of_ble_eq_true rfl) (fun h => by cases h) (Or.inl rfl) hC2.t (fun D4 hC4 => ?_)
    refine xx_aload_n (q := 53) rfl rfl rfl ?_
    refine xx_aload_n (q := 54) rfl rfl rfl ?_
    refine xx_gez (q := 57) rfl rfl rfl xS_479 (Nat.le_of_ble_eq_true rfl) rfl hC4.1 ?_
    refine xx_callV (q := 60) (As := [_]) (rest := []) rfl rfl rfl (Or.inl rfl) rfl rfl (Nat.le_of_ble_eq_true rfl) xS_479 (XCm (r_raw (n := n) hR bs (hC4.tp hT) hl4 hby (i : Int) (by omega)) rfl) rfl ?_
    refine xx_istore_n (q := 61) (loc2 := [_, _]) rfl rfl (Nat.le_of_ble_eq_true rfl) rfl ?_
    rw [raF_l hi]
    have hyb := hby i
    refine xx_iload_n (q := 62) rfl rfl rfl ?_
    refine xx_iconst (q := 63) rfl rfl (by decide) ?_
    refine xx_icmp_ne (q := 72) (q2 := 66) rfl rfl rfl (fun _ => ?_) (fun h63 => (by exfalso; omega))
    refine xx_aload_n (q := 73) rfl rfl rfl ?_
    refine xx_aload_n (q := 74) rfl rfl rfl ?_
    refine xx_gez (q := 77) rfl rfl rfl xS_479 (Nat.le_of_ble_eq_true rfl) rfl hC4.1 ?_
    refine xx_iconst (q := 78) rfl rfl (by decide) ?_
    refine xx_iaddR (q := 79) rfl rfl (by omega) (by omega) ?_
    refine xr_puz (RdC ((i : Int) + 1) (i : Int) 1 v D0) (q := 82) rfl rfl rfl xS_479 (Nat.le_of_ble_eq_true rfl) (Nat.le_of_ble_eq_true rfl) (fun h => by cases h) (Or.inl rfl) hC4.s (fun D6 hC6 => ?_)
    refine xx_aload_n (q := 83) rfl rfl rfl ?_
    refine xx_iload_n (q := 84) rfl rfl rfl ?_
    refine xr_puz (RdC ((i : Int) + 1) (i : Int) 1 (bs.getD i 0) D0) (q := 87) rfl rfl rfl xS_479 (Nat.le_of_ble_eq_true rfl) (Nat.le_of_ble_eq_true rfl) (fun h => by cases h) (Or.inl rfl) hC6.v (fun D8 hC8 => ?_)
    refine xx_aload_n (q := 88) rfl rfl rfl ?_
    refine xx_iload_n (q := 89) rfl rfl rfl ?_
    refine xx_callV (q := 92) (As := [_]) (rest := []) rfl rfl rfl (Or.inl rfl) rfl rfl (Nat.le_of_ble_eq_true rfl) xS_479 (XCm (r_isLetter (bs.getD i 0)) rfl) rfl ?_
    refine xx_ifb_eq (q := 155) (q2 := 95) rfl rfl rfl (fun h92 => ?_) (fun h92 => ?_)
    · refine xx_aload_n (q := 156) rfl rfl rfl ?_
      refine xx_iload_n (q := 157) rfl rfl rfl ?_
      refine xx_callV (q := 160) (As := [_]) (rest := []) rfl rfl rfl (Or.inl rfl) rfl rfl (Nat.le_of_ble_eq_true rfl) xS_479 (XCm (r_isDigit (bs.getD i 0)) rfl) rfl ?_
      refine xx_ifb_eq (q := 260) (q2 := 163) rfl rfl rfl (fun h160 => ?_) (fun h160 => ?_)
      · refine xx_aload_n (q := 261) rfl rfl rfl ?_
        refine xx_iload_n (q := 262) rfl rfl rfl ?_
        refine xx_callV (q := 265) (As := [_]) (rest := []) rfl rfl rfl (Or.inl rfl) rfl rfl (Nat.le_of_ble_eq_true rfl) xS_479 (XCm (r_isMark2 (bs.getD i 0)) rfl) rfl ?_
        refine xx_ifb_eq (q := 273) (q2 := 268) rfl rfl rfl (fun h265 => ?_) (fun h265 => ?_)
        · rw [lx_u hi, if_neg h92, if_neg h160, if_neg hnb, if_neg h265]
          exact xx_vret rfl rfl ⟨rfl, _, rfl, RdS_of (j := i + 1) (RTok_k hC8 (Or.inr (Or.inl ⟨rfl, rfl⟩))) (fun _ => ⟨hC8.1.trans (by omega), by omega, rfl⟩), fun x k q => hC8.2.2.2.2 x k q⟩
        · refine xx_aload_n (q := 269) rfl rfl rfl ?_
          refine xx_iconst (q := 270) rfl rfl (by decide) ?_
          refine xr_puz (RdC ((i : Int) + 1) (i : Int) 4 (bs.getD i 0) D0) (q := 273) rfl rfl rfl xS_479 (Nat.le_of_ble_eq_true rfl) (Nat.le_of_ble_eq_true rfl) (fun h => by cases h) (Or.inl rfl) hC8.t (fun D10 hC10 => ?_)
          rw [lx_u hi, if_neg h92, if_neg h160, if_neg hnb, if_pos h265]
          exact xx_vret rfl rfl ⟨rfl, _, rfl, RdS_of (j := i + 1) (RTok_k hC10 (Or.inr (Or.inr (Or.inr (Or.inl ⟨by omega, rfl, rfl⟩))))) (fun _ => ⟨hC10.1.trans (by omega), by omega, rfl⟩), fun x k q => hC10.2.2.2.2 x k q⟩
      · refine xx_aload_n (q := 164) rfl rfl rfl ?_
        refine xx_iload_n (q := 165) rfl rfl rfl ?_
        refine xx_bipush (q := 167) rfl rfl (by decide) ?_
        refine xx_isubR (q := 168) rfl rfl (by omega) (by omega) ?_
        refine xr_puz (RdC ((i : Int) + 1) (i : Int) 1 ((bs.getD i 0) - 48) D0) (q := 171) rfl rfl rfl xS_479 (Nat.le_of_ble_eq_true rfl) (Nat.le_of_ble_eq_true rfl) (fun h => by cases h) (Or.inl rfl) hC8.v (fun D12 hC12 => ?_)
        rw [show (i : Int) + 1 = ((i + 1 : Nat) : Int) by omega] at hC12
        refine r_re_D hR bs hT hl4 hby (i : Int) 1 _ (bs.length - (i + 1)) (i + 1) _ _ hC12 (by omega) (by omega) (by omega) (fun D9 hC9 => ?_)
        exact r_re_2 hR bs hT hl4 hby hW i hi h92 h160 _ _ (fun q => (nu_ref hi h160 q).symm) hC9
    · rw [show (i : Int) + 1 = ((i + 1 : Nat) : Int) by omega] at hC8
      refine r_re_L hR bs hT hl4 hby (i : Int) 1 _ _ (bs.length - (i + 1)) (i + 1) _ hC8 (by omega) (fun D9 hC9 => ?_)
      exact r_re_1 hR bs hT hl4 hby hW i hi h92 _ _ hC9
  · replace hnb := trivial
    refine xx_aload_n (q := 40) rfl rfl rfl ?_
    refine xx_aload_n (q := 41) rfl rfl rfl ?_
    refine xx_gez (q := 44) rfl rfl rfl xS_479 (Nat.le_of_ble_eq_true rfl) rfl hC.1 ?_
    refine xr_puz (RdC (i : Int) (i : Int) t v D0) (q := 47) rfl rfl rfl xS_479 (Nat.le_of_ble_eq_true rfl) (Nat.le_of_ble_eq_true rfl) (fun h => by cases h) (Or.inl rfl) hC.f (fun D2 hC2 => ?_)
    refine xx_aload_n (q := 48) rfl rfl rfl ?_
    refine xx_iconst (q := 49) rfl rfl (by decide) ?_
    refine xr_puz (RdC (i : Int) (i : Int) 1 v D0) (q := 52) rfl rfl rfl xS_479 (Nat.le_of_ble_eq_true rfl) (Nat.le_of_ble_eq_true rfl) (fun h => by cases h) (Or.inl rfl) hC2.t (fun D4 hC4 => ?_)
    refine xx_aload_n (q := 53) rfl rfl rfl ?_
    refine xx_aload_n (q := 54) rfl rfl rfl ?_
    refine xx_gez (q := 57) rfl rfl rfl xS_479 (Nat.le_of_ble_eq_true rfl) rfl hC4.1 ?_
    refine xx_callV (q := 60) (As := [_]) (rest := []) rfl rfl rfl (Or.inl rfl) rfl rfl (Nat.le_of_ble_eq_true rfl) xS_479 (XCm (r_raw (n := n) hR bs (hC4.tp hT) hl4 hby (i : Int) (by omega)) rfl) rfl ?_
    refine xx_istore_n (q := 61) (loc2 := [_, _]) rfl rfl (Nat.le_of_ble_eq_true rfl) rfl ?_
    rw [raF_e (by omega)]
    refine xx_iload_n (q := 62) rfl rfl rfl ?_
    refine xx_iconst (q := 63) rfl rfl (by decide) ?_
    refine xx_icmp_ne (q := 72) (q2 := 66) rfl rfl rfl (fun h63 => (by exfalso; omega)) (fun _ => ?_)
    refine xx_aload_n (q := 67) rfl rfl rfl ?_
    refine xx_iconst (q := 68) rfl rfl (by decide) ?_
    refine xr_puz (RdC (i : Int) (i : Int) 0 v D0) (q := 71) rfl rfl rfl xS_479 (Nat.le_of_ble_eq_true rfl) (Nat.le_of_ble_eq_true rfl) (fun h => by cases h) (Or.inl rfl) hC4.t (fun D6 hC6 => ?_)
    rw [lx_e (by omega)]
    exact xx_vret rfl rfl ⟨rfl, _, rfl, RdS_of (j := 0) (RTok_k (by rw [show (i : Int) = (bs.length : Int) by omega] at hC6; exact hC6) (Or.inl ⟨rfl, rfl⟩)) (fun q => absurd rfl q), fun x k q => hC6.2.2.2.2 x k q⟩
theorem r_reads {n : Nat} {R : Nat → Nat → Option Nat} {D0 : KK} (hR : RF R) (bs : List Int) (hT : TpR bs D0) (hl4 : bs.length ≤ 400) (hby : ∀ j, 0 ≤ bs.getD j 0 ∧ bs.getD j 0 ≤ 255) (hW : WdR D0) {i : Nat} (hi : D0 479 25 = (i : Int)) (hil : i ≤ bs.length) : ∃ D', XC 3 199 [.inr (some 479)] (xS n, R, D0) none (xS n, R, D') ∧ RdS bs (lx bs i) D' ∧ ∀ x k, (x = 479 → k ≠ 25 ∧ k ≠ 26 ∧ k ≠ 27 ∧ k ≠ 28) → D' x k = D0 x k := by
  refine XE_of (Nat.le_of_ble_eq_true rfl) (Nat.le_of_ble_eq_true rfl) (loc := [_, _]) rfl ?_
  refine r_re_B hR bs hT hl4 hby _ _ _ (bs.length - i) i D0 _ ⟨hi, rfl, rfl, rfl, fun _ _ _ => rfl⟩ (by omega) (fun j D2 q1 q2 q3 q4 q5 => ?_)
  have h := r_re_3 (n := n) hR bs hT hl4 hby hW j q3 q5 _ _ _ none q1
  rw [q4] at h
  exact h
