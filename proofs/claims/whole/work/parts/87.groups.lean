/-! Shared passings: the fewest groups. -/
def flt (ps : List (Int × Int)) : List Int := ps.flatMap (fun p => [p.1, p.2])
def PartB (br : Int → Int) (w : Int) (l : List Int) (j : Nat) : Prop := ∃ (ps : List (Int × Int)) (sg : List Int), l.Perm (flt ps ++ sg) ∧ (∀ p ∈ ps, br p.1 + br p.2 ≤ w) ∧ j = ps.length + sg.length
section PartS
variable {br : Int → Int} {w : Int}
theorem PartB.nil : PartB br w [] 0 := ⟨[], [], List.Perm.refl _, fun _ h => absurd h (List.not_mem_nil), rfl⟩
theorem PartB.perm {l l2 : List Int} {j : Nat} (h : PartB br w l j) (p : l2.Perm l) : PartB br w l2 j := by
  obtain ⟨ps, sg, h1, h2, h3⟩ := h
  exact ⟨ps, sg, p.trans h1, h2, h3⟩
theorem PartB.one {a : Int} {r : List Int} {j : Nat} (h : PartB br w r j) : PartB br w (a :: r) (j + 1) := by
  obtain ⟨ps, sg, h1, h2, h3⟩ := h
  refine ⟨ps, a :: sg, ?_, h2, by rw [List.length_cons]; omega⟩
  exact (h1.cons a).trans List.perm_middle.symm
theorem PartB.two {a m : Int} {r : List Int} {j : Nat} (h : PartB br w r j) (hc : br a + br m ≤ w) : PartB br w (a :: m :: r) (j + 1) := by
  obtain ⟨ps, sg, h1, h2, h3⟩ := h
  refine ⟨(a, m) :: ps, sg, ?_, fun p hp => ?_, by rw [List.length_cons]; omega⟩
  · exact (h1.cons m).cons a
  · rcases List.mem_cons.mp hp with e | e
    · rw [e]; exact hc
    · exact h2 p e
theorem PartB.inv {a : Int} {r : List Int} {j : Nat} (h : PartB br w (a :: r) j) : (∃ j2, j = j2 + 1 ∧ PartB br w r j2) ∨ (∃ m r2 j2, r.Perm (m :: r2) ∧ br a + br m ≤ w ∧ j = j2 + 1 ∧ PartB br w r2 j2) := by
  obtain ⟨ps, sg, h1, h2, h3⟩ := h
  have hm : a ∈ flt ps ++ sg := h1.mem_iff.mp (List.mem_cons_self ..)
  rcases List.mem_append.mp hm with q | q
  · right
    obtain ⟨p, hp, hq⟩ := List.mem_flatMap.mp q
    have hps : ps.Perm (p :: ps.erase p) := List.perm_cons_erase hp
    have hf : (flt ps).Perm (p.1 :: p.2 :: flt (ps.erase p)) := hps.flatMap_right _
    have hl : ps.length = (ps.erase p).length + 1 := by rw [hps.length_eq, List.length_cons]
    have h4 : (a :: r).Perm (p.1 :: p.2 :: (flt (ps.erase p) ++ sg)) := h1.trans (hf.append_right sg)
    have hc := h2 p hp
    have hs : ∀ p2 ∈ ps.erase p, br p2.1 + br p2.2 ≤ w := fun p2 hp2 => h2 p2 (List.mem_of_mem_erase hp2)
    have hq2 : a = p.1 ∨ a = p.2 := by simpa using hq
    rcases hq2 with e | e
    · refine ⟨p.2, flt (ps.erase p) ++ sg, (ps.erase p).length + sg.length, ?_, by rw [e]; exact hc, by omega, ⟨ps.erase p, sg, List.Perm.refl _, hs, rfl⟩⟩
      rw [e] at h4
      exact h4.cons_inv
    · refine ⟨p.1, flt (ps.erase p) ++ sg, (ps.erase p).length + sg.length, ?_, by rw [e]; omega, by omega, ⟨ps.erase p, sg, List.Perm.refl _, hs, rfl⟩⟩
      have h5 := h4.trans (List.Perm.swap p.2 p.1 _)
      rw [e] at h5
      exact h5.cons_inv
  · left
    have hsg : sg.Perm (a :: sg.erase a) := List.perm_cons_erase q
    have hl : sg.length = (sg.erase a).length + 1 := by rw [hsg.length_eq, List.length_cons]
    have h4 : (a :: r).Perm (a :: (flt ps ++ sg.erase a)) := (h1.trans (hsg.append_left _)).trans List.perm_middle
    exact ⟨ps.length + (sg.erase a).length, by omega, ps, sg.erase a, h4.cons_inv, h2, rfl⟩
theorem PartB.exch {a z : Int} {r : List Int} {j : Nat} (h : PartB br w (z :: a :: r) j) (hc : br a + br z ≤ w) (hz : ∀ x ∈ r, br x ≤ br z) : ∃ j2, j2 + 1 ≤ j ∧ PartB br w r j2 := by
  rcases h.inv with ⟨j1, e1, h1⟩ | ⟨m, r2, j1, p1, c1, e1, h1⟩
  · rcases h1.inv with ⟨j2, e2, h2⟩ | ⟨m, r2, j2, p2, c2, e2, h2⟩
    · exact ⟨j2, by omega, h2⟩
    · exact ⟨j2 + 1, by omega, (h2.one (a := m)).perm p2⟩
  · rcases Classical.em (m = a) with e | e
    · rw [e] at p1
      exact ⟨j1, by omega, h1.perm p1.cons_inv⟩
    · have ha : a ∈ r2 := by
        have := p1.mem_iff.mp (List.mem_cons_self (a := a) (l := r))
        rcases List.mem_cons.mp this with q | q
        · exact absurd q.symm e
        · exact q
      have pr : r2.Perm (a :: r2.erase a) := List.perm_cons_erase ha
      have p3 : r.Perm (m :: r2.erase a) := ((p1.trans (pr.cons m)).trans (List.Perm.swap a m _)).cons_inv
      rcases (h1.perm pr.symm).inv with ⟨j2, e2, h2⟩ | ⟨y, r4, j2, p4, c4, e2, h2⟩
      · exact ⟨j2 + 1, by omega, (h2.one (a := m)).perm p3⟩
      · have hy : y ∈ r := by
          have : y ∈ m :: r2.erase a := List.mem_cons_of_mem _ (p4.mem_iff.mpr (List.mem_cons_self ..))
          exact p3.mem_iff.mpr this
        have := hz y hy
        exact ⟨j2 + 1, by omega, (h2.two (a := m) (m := y) (by omega)).perm (p3.trans (p4.cons m))⟩
end PartS
def grL (br : Int → Int) (w : Int) : Nat → List Int → Nat
  | 0, _ => 0
  | _ + 1, [] => 0
  | k + 1, a :: r => if 1 ≤ r.length ∧ br a + br (r.getLastD a) ≤ w then grL br w k r.dropLast + 1 else grL br w k (a :: r).dropLast + 1
def SrtB (br : Int → Int) (l : List Int) : Prop := ∀ i j, i < j → j < l.length → br (l.getD i 0) ≤ br (l.getD j 0)
theorem lst_cases (r : List Int) : r = [] ∨ ∃ m z, r = m ++ [z] := by
  rcases List.eq_nil_or_concat r with e | ⟨m, z, e⟩
  · exact Or.inl e
  · exact Or.inr ⟨m, z, by rw [e, List.concat_eq_append]⟩
theorem SrtB.cons {br : Int → Int} {a : Int} {r : List Int} (h : SrtB br (a :: r)) : (∀ x ∈ r, br a ≤ br x) ∧ SrtB br r := by
  refine ⟨fun x hx => ?_, fun i j hij hj => ?_⟩
  · obtain ⟨j, hj, e⟩ := List.getElem_of_mem hx
    have := h 0 (j + 1) (by omega) (by rw [List.length_cons]; omega)
    have e2 : (a :: r).getD (j + 1) 0 = x := by
      show r.getD j 0 = x
      simp [List.getD, hj, e]
    rw [e2] at this
    exact this
  · exact h (i + 1) (j + 1) (by omega) (by rw [List.length_cons]; omega)
theorem SrtB.snoc {br : Int → Int} {z : Int} {m : List Int} (h : SrtB br (m ++ [z])) : (∀ x ∈ m, br x ≤ br z) ∧ SrtB br m := by
  have hl : (m ++ [z]).length = m.length + 1 := List.length_append
  refine ⟨fun x hx => ?_, fun i j hij hj => ?_⟩
  · obtain ⟨j, hj, e⟩ := List.getElem_of_mem hx
    have := h j m.length hj (by omega)
    have e2 : (m ++ [z]).getD j 0 = x := by simp [List.getD, List.getElem?_append, hj, e]
    have e3 : (m ++ [z]).getD m.length 0 = z := by simp [List.getD]
    rw [e2, e3] at this
    exact this
  · have := h i j hij (by omega)
    have e2 : ∀ t, t < m.length → (m ++ [z]).getD t 0 = m.getD t 0 := fun t ht => by simp [List.getD, List.getElem?_append, ht]
    rw [e2 i (by omega), e2 j hj] at this
    exact this
theorem grL_ok {br : Int → Int} {w : Int} : ∀ (k : Nat) (q : List Int), q.length ≤ k → SrtB br q → PartB br w q (grL br w k q) ∧ ∀ j, PartB br w q j → grL br w k q ≤ j
  | 0, q, hk, _ => by
    have e : q = [] := List.eq_nil_of_length_eq_zero (by omega)
    subst e
    exact ⟨PartB.nil, fun j _ => Nat.zero_le _⟩
  | k + 1, [], _, _ => ⟨PartB.nil, fun j _ => Nat.zero_le _⟩
  | k + 1, a :: r, hk, hs => by
    obtain ⟨ha, hr⟩ := hs.cons
    rcases lst_cases r with e | ⟨m, z, e⟩
    · subst e
      have h0 := grL_ok (br := br) (w := w) k [] (Nat.zero_le _) (fun i j _ h => absurd h (Nat.not_lt_zero _))
      have eg : grL br w (k + 1) [a] = grL br w k [] + 1 := if_neg (fun q => absurd q.1 (by simp))
      rw [eg]
      refine ⟨h0.1.one, fun j hj => ?_⟩
      rcases hj.inv with ⟨j2, e2, h2⟩ | ⟨m, r2, j2, p, _, _, _⟩
      · have := h0.2 j2 h2; omega
      · exact absurd p.length_eq (by simp)
    · subst e
      obtain ⟨hz, hm⟩ := hr.snoc
      have hlz : (m ++ [z]).getLastD a = z := by simp
      have hll : (m ++ [z]).length = m.length + 1 := List.length_append
      rw [List.length_cons] at hk
      have pz : (z :: a :: m).Perm (a :: (m ++ [z])) := (List.Perm.swap a z m).trans ((List.perm_append_singleton z m).symm.cons a)
      have eg0 : grL br w (k + 1) (a :: (m ++ [z])) = if 1 ≤ (m ++ [z]).length ∧ br a + br ((m ++ [z]).getLastD a) ≤ w then grL br w k (m ++ [z]).dropLast + 1 else grL br w k (a :: (m ++ [z])).dropLast + 1 := rfl
      rcases Classical.em (br a + br z ≤ w) with c | c
      · have eg : grL br w (k + 1) (a :: (m ++ [z])) = grL br w k m + 1 := by
          rw [eg0, if_pos ⟨by omega, by rw [hlz]; exact c⟩, List.dropLast_concat]
        have h0 := grL_ok (br := br) (w := w) k m (by omega) hm
        rw [eg]
        refine ⟨(h0.1.two (a := z) (m := a) (by omega)).perm pz.symm, fun j hj => ?_⟩
        obtain ⟨j2, e2, h2⟩ := (hj.perm pz).exch c hz
        have := h0.2 j2 h2
        omega
      · have eg : grL br w (k + 1) (a :: (m ++ [z])) = grL br w k (a :: m) + 1 := by
          rw [eg0, if_neg (fun q => c (by rw [← hlz]; exact q.2))]
          rw [show (a :: (m ++ [z])).dropLast = a :: m from by rw [← List.cons_append, List.dropLast_concat]]
        have hs2 : SrtB br (a :: m) := by
          rw [← List.cons_append] at hs
          exact hs.snoc.2
        have h0 := grL_ok (br := br) (w := w) k (a :: m) (by rw [List.length_cons]; omega) hs2
        rw [eg]
        refine ⟨h0.1.one.perm pz.symm, fun j hj => ?_⟩
        rcases (hj.perm pz).inv with ⟨j2, e2, h2⟩ | ⟨y, r2, j2, p, cy, _, _⟩
        · have := h0.2 j2 h2; omega
        · exfalso
          have hy : y ∈ a :: m := p.mem_iff.mpr (List.mem_cons_self ..)
          rcases List.mem_cons.mp hy with e | e
          · rw [e] at cy; omega
          · have := ha y (List.mem_append.mpr (Or.inl e)); omega
/-! The class's search is the fewest. -/
theorem fin_4 : ∀ s : Nat, s < 64 → ∀ b : Nat, b < 6 → (inS (s : Int) (b : Int) ↔ ¬ xand (xshr (s : Int) (b : Int)) 1 = 0) ∧ 0 ≤ rmS (s : Int) (b : Int) ∧ rmS (s : Int) (b : Int) < 64 := by decide +kernel
theorem fin_5 : ∀ s : Nat, s < 64 → ∀ m : Nat, m < 6 → ∀ b : Nat, b < 6 → (inS (rmS (s : Int) (m : Int)) (b : Int) ↔ (inS (s : Int) (b : Int) ∧ ¬ b = m)) := by decide +kernel
theorem in_bit {s b : Int} (h0 : 0 ≤ s) (h1 : s < 64) (h2 : 0 ≤ b) (h3 : b < 6) : (inS s b ↔ ¬ xand (xshr s b) 1 = 0) ∧ 0 ≤ rmS s b ∧ rmS s b < 64 := by
  have h := fin_4 s.toNat (by omega) b.toNat (by omega)
  rw [show ((s.toNat : Nat) : Int) = s by omega, show ((b.toNat : Nat) : Int) = b by omega] at h
  exact h
theorem in_rm {s m b : Int} (h0 : 0 ≤ s) (h1 : s < 64) (h2 : 0 ≤ m) (h3 : m < 6) (h4 : 0 ≤ b) (h5 : b < 6) : inS (rmS s m) b ↔ (inS s b ∧ ¬ b = m) := by
  have h := fin_5 s.toNat (by omega) m.toNat (by omega) b.toNat (by omega)
  rw [show ((s.toNat : Nat) : Int) = s by omega, show ((b.toNat : Nat) : Int) = b by omega, show ((m.toNat : Nat) : Int) = m by omega] at h
  rw [h]
  exact ⟨fun q => ⟨q.1, fun e => q.2 (by omega)⟩, fun q => ⟨q.1, fun e => q.2 (by omega)⟩⟩
theorem bitF_in {s b : Int} {k : Nat} (h0 : 0 ≤ s) (h1 : s < 64) (h2 : 0 ≤ b) (h3 : b < 6) (h : inS s b) : bitF s (k + 1) b = b :: bitF s k (b + 1) := if_neg ((in_bit h0 h1 h2 h3).1.mp h)
theorem bitF_out {s b : Int} {k : Nat} (h0 : 0 ≤ s) (h1 : s < 64) (h2 : 0 ≤ b) (h3 : b < 6) (h : ¬ inS s b) : bitF s (k + 1) b = bitF s k (b + 1) := if_pos (Classical.not_not.mp (fun q => h ((in_bit h0 h1 h2 h3).1.mpr q)))
theorem bit_in {s c : Int} (h0 : 0 ≤ s) (h1 : s < 64) : ∀ (k : Nat) (b : Int), 0 ≤ b → b + k ≤ 6 → (c ∈ bitF s k b ↔ (inS s c ∧ b ≤ c ∧ c < b + k))
  | 0, b, h2, h3 => ⟨fun h => absurd h (List.not_mem_nil), fun h => by omega⟩
  | k + 1, b, h2, h3 => by
    have ih := bit_in (c := c) h0 h1 k (b + 1) (by omega) (by omega)
    rcases Classical.em (inS s b) with q | q
    · rw [bitF_in h0 h1 h2 (by omega) q, List.mem_cons, ih]
      constructor
      · rintro (e | e)
        · exact ⟨e ▸ q, by omega, by omega⟩
        · exact ⟨e.1, by omega, by omega⟩
      · intro e
        rcases Classical.em (c = b) with r | r
        · exact Or.inl r
        · exact Or.inr ⟨e.1, by omega, by omega⟩
    · rw [bitF_out h0 h1 h2 (by omega) q, ih]
      constructor
      · exact fun e => ⟨e.1, by omega, by omega⟩
      · intro e
        have : ¬ c = b := fun r => q (r ▸ e.1)
        exact ⟨e.1, by omega, by omega⟩
theorem bit_rm {s m : Int} (h0 : 0 ≤ s) (h1 : s < 64) (hm : 0 ≤ m) (hm6 : m < 6) : ∀ (k : Nat) (b : Int), 0 ≤ b → b + k ≤ 6 → ((b ≤ m ∧ m < b + k ∧ inS s m) → (bitF s k b).Perm (m :: bitF (rmS s m) k b)) ∧ (¬ (b ≤ m ∧ m < b + k) → bitF s k b = bitF (rmS s m) k b)
  | 0, b, h2, h3 => ⟨fun h => by omega, fun _ => rfl⟩
  | k + 1, b, h2, h3 => by
    obtain ⟨i1, i2⟩ := bit_rm h0 h1 hm hm6 k (b + 1) (by omega) (by omega)
    have hr := in_rm h0 h1 hm hm6 h2 (show b < 6 by omega)
    have hb := (in_bit h0 h1 hm hm6).2
    rcases Classical.em (b = m) with e | e
    · have q2 : ¬ inS (rmS s m) b := fun q => (hr.mp q).2 e
      rw [bitF_out hb.1 hb.2 h2 (by omega) q2]
      refine ⟨fun q => ?_, fun q => absurd e (by omega)⟩
      rw [bitF_in h0 h1 h2 (by omega) (e ▸ q.2.2), i2 (by omega), e]
    · rcases Classical.em (inS s b) with q | q
      · rw [bitF_in h0 h1 h2 (by omega) q, bitF_in hb.1 hb.2 h2 (by omega) (hr.mpr ⟨q, e⟩)]
        refine ⟨fun r => ?_, fun r => ?_⟩
        · exact ((i1 ⟨by omega, by omega, r.2.2⟩).cons b).trans (List.Perm.swap m b _)
        · rw [i2 (by omega)]
      · rw [bitF_out h0 h1 h2 (by omega) q, bitF_out hb.1 hb.2 h2 (by omega) (fun r => q (hr.mp r).1)]
        refine ⟨fun r => ?_, fun r => ?_⟩
        · exact i1 ⟨by omega, by omega, r.2.2⟩
        · exact i2 (by omega)
def brK (K : KK) (c : Int) : Int := K 16 c.toNat
theorem fps_ok {K : KK} {wide : Int} : ∀ (k : Nat) (s f : Int), 0 ≤ s → s < 64 → 0 ≤ f → f + k ≤ 6 → ∃ v : Nat, fpsF K wide k s f = (v : Int) ∧ PartB (brK K) wide (bitF s k f) v ∧ ∀ j, PartB (brK K) wide (bitF s k f) j → v ≤ j
  | 0, s, f, _, _, _, _ => ⟨0, rfl, PartB.nil, fun _ _ => Nat.zero_le _⟩
  | k + 1, s, f, h0, h1, h2, h3 => by
    obtain ⟨v1, e1, p1, l1⟩ := fps_ok (K := K) (wide := wide) k s (f + 1) h0 h1 (by omega) (by omega)
    rcases Classical.em (inS s f) with q | q
    · have e : fpsF K wide (k + 1) s f = fpsM K wide (fun s2 => fpsF K wide k s2 (f + 1)) s f k (f + 1) (fpsF K wide k s (f + 1)) + 1 := if_pos q
      have hM : ∀ (c : Nat) (m : Int) (u : Nat), f + 1 ≤ m → m + c = f + 1 + k → PartB (brK K) wide (bitF s (k + 1) f) (u + 1) → ∃ v : Nat, fpsM K wide (fun s2 => fpsF K wide k s2 (f + 1)) s f c m (u : Int) = (v : Int) ∧ PartB (brK K) wide (bitF s (k + 1) f) (v + 1) ∧ v ≤ u ∧ ∀ m2 : Int, m ≤ m2 → m2 < f + 1 + k → inS s m2 → brK K f + brK K m2 ≤ wide → ∀ v2 : Nat, fpsF K wide k (rmS s m2) (f + 1) = (v2 : Int) → v ≤ v2 := by
        intro c
        induction c with
        | zero => intro m u hm hc hp; exact ⟨u, rfl, hp, Nat.le_refl _, fun m2 a1 a2 => by omega⟩
        | succ c ih =>
          intro m u hm hc hp
          have hu : fpsM K wide (fun s2 => fpsF K wide k s2 (f + 1)) s f (c + 1) m (u : Int) = fpsM K wide (fun s2 => fpsF K wide k s2 (f + 1)) s f c (m + 1) (if inS s m ∧ K 16 f.toNat + K 16 m.toNat ≤ wide then mnF (u : Int) (fpsF K wide k (rmS s m) (f + 1)) else (u : Int)) := rfl
          rw [hu]
          rcases Classical.em (inS s m ∧ K 16 f.toNat + K 16 m.toNat ≤ wide) with r | r
          · rw [if_pos r]
            have hrm := (in_bit h0 h1 (show 0 ≤ m by omega) (show m < 6 by omega)).2
            obtain ⟨v2, e2, p2, l2⟩ := fps_ok (K := K) (wide := wide) k (rmS s m) (f + 1) hrm.1 hrm.2 (by omega) (by omega)
            have hmn := mnF_sp (u : Int) (v2 : Int)
            have hpm := (bit_rm h0 h1 (show 0 ≤ m by omega) (show m < 6 by omega) k (f + 1) (by omega) (by omega)).1 ⟨hm, by omega, r.1⟩
            have hp2 : PartB (brK K) wide (bitF s (k + 1) f) (v2 + 1) := by
              rw [bitF_in h0 h1 h2 (by omega) q]
              exact (p2.two (a := f) (m := m) r.2).perm (hpm.cons f)
            have hpn : PartB (brK K) wide (bitF s (k + 1) f) ((mnF (u : Int) (v2 : Int)).toNat + 1) := by
              rcases hmn.2.2 with x | x
              · rw [x]; exact hp
              · rw [x]; exact hp2
            rw [e2]
            obtain ⟨v, a1, a2, a3, a4⟩ := ih (m + 1) (mnF (u : Int) (v2 : Int)).toNat (by omega) (by omega) hpn
            rw [show (((mnF (u : Int) (v2 : Int)).toNat : Nat) : Int) = mnF (u : Int) (v2 : Int) by omega] at a1
            refine ⟨v, a1, a2, by omega, fun m2 b1 b2 b3 b4 v3 b5 => ?_⟩
            rcases Classical.em (m2 = m) with x | x
            · rw [x, e2] at b5; omega
            · exact a4 m2 (by omega) b2 b3 b4 v3 b5
          · rw [if_neg r]
            obtain ⟨v, a1, a2, a3, a4⟩ := ih (m + 1) u (by omega) (by omega) hp
            refine ⟨v, a1, a2, a3, fun m2 b1 b2 b3 b4 v3 b5 => ?_⟩
            rcases Classical.em (m2 = m) with x | x
            · exact absurd ⟨x ▸ b3, by rw [x] at b4; exact b4⟩ r
            · exact a4 m2 (by omega) b2 b3 b4 v3 b5
      have hp1 : PartB (brK K) wide (bitF s (k + 1) f) (v1 + 1) := by
        rw [bitF_in h0 h1 h2 (by omega) q]
        exact p1.one
      obtain ⟨v, a1, a2, a3, a4⟩ := hM k (f + 1) v1 (by omega) (by omega) hp1
      refine ⟨v + 1, by rw [e, e1, a1]; rfl, a2, fun j hj => ?_⟩
      rw [bitF_in h0 h1 h2 (by omega) q] at hj
      rcases hj.inv with ⟨j2, ej, hj2⟩ | ⟨m, r2, j2, pm, cm, ej, hj2⟩
      · have := l1 j2 hj2; omega
      · have hmm : m ∈ bitF s k (f + 1) := pm.mem_iff.mpr (List.mem_cons_self ..)
        have hmi := (bit_in h0 h1 k (f + 1) (by omega) (by omega)).mp hmm
        have hrm := (in_bit h0 h1 (show 0 ≤ m by omega) (show m < 6 by omega)).2
        obtain ⟨v2, e2, p2, l2⟩ := fps_ok (K := K) (wide := wide) k (rmS s m) (f + 1) hrm.1 hrm.2 (by omega) (by omega)
        have hpm := (bit_rm h0 h1 (show 0 ≤ m by omega) (show m < 6 by omega) k (f + 1) (by omega) (by omega)).1 ⟨hmi.2.1, hmi.2.2, hmi.1⟩
        have := a4 m hmi.2.1 hmi.2.2 hmi.1 cm v2 e2
        have := l2 j2 (hj2.perm ((hpm.symm.trans pm).cons_inv))
        omega
    · have e : fpsF K wide (k + 1) s f = fpsF K wide k s (f + 1) := if_neg q
      rw [e, bitF_out h0 h1 h2 (by omega) q]
      exact ⟨v1, e1, p1, l1⟩
theorem fps_grL {K : KK} {wide : Int} {s : Int} {ls : List Int} (k : Nat) (h0 : 0 ≤ s) (h1 : s < 64) (hk : k ≤ 6) (hp : ls.Perm (bitF s k 0)) (hs : SrtB (brK K) ls) : fpsF K wide k s 0 = (grL (brK K) wide ls.length ls : Nat) := by
  obtain ⟨v, e, p, l⟩ := fps_ok (K := K) (wide := wide) k s 0 h0 h1 (by omega) (by omega)
  obtain ⟨g1, g2⟩ := grL_ok (br := brK K) (w := wide) ls.length ls (Nat.le_refl _) hs
  have a := l _ (g1.perm hp.symm)
  have b := g2 _ (p.perm hp)
  rw [e]
  omega
