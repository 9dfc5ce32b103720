/-! A plan's step, as the tape says it. -/
def ps1 (B : Int) (t : Tt) : Tt := nwT 0 (B - 1) t
def ps2 (B : Int) (t : Tt) : Tt := if kdT (ps1 B t) = 315 then stT (ps1 B t) else exT 326 (ps1 B t)
def ps3 (B : Int) (t : Tt) : Tt := if kdT (ps2 B t) = 327 then nwT 0 (B - 1) (stT (ps2 B t)) else ps2 B t
def psv (B : Int) (t : Tt) : Int := if kdT (ps2 B t) = 327 then vlT (stT (ps2 B t)) else -1
theorem psQ_e {a B : Int} {t : Tt} {d : Nat → Int} : psQ a B (t, d) = (ps3 B t, fset (fset (fset d (a + 1).toNat (vlT t)) (a + 2).toNat (if kdT (ps1 B t) = 315 then 1 else 0)) (a + 3).toNat (psv B t)) := by
  have e1 : nwP 0 (B - 1) (a + 1) (t, d) = (ps1 B t, fset d (a + 1).toNat (vlT t)) := rfl
  have e2 : ∀ g : Nat → Int, upQ (ps1 B t, g) = (ps2 B t, g) := fun g => by
    unfold upQ ps2
    rcases Classical.em (kdT (ps1 B t) = 315) with q | q
    · rw [if_pos q, if_pos (by exact q)]; rfl
    · rw [if_neg q, if_neg (by exact q)]; rfl
  have e3 : ∀ g : Nat → Int, wiP a B (ps2 B t, g) = (ps3 B t, fset g (a + 3).toNat (psv B t)) := fun g => by
    unfold wiP ps3 psv
    rcases Classical.em (kdT (ps2 B t) = 327) with q | q
    · rw [if_pos q, if_pos q, if_pos (by exact q)]; rfl
    · rw [if_neg q, if_neg q, if_neg (by exact q)]; rfl
  unfold psQ
  rw [e1, e2]
  exact e3 _
def gv1 (t : Tt) : Tt := exT 328 (nwT 1 99 t)
def gv2 (t : Tt) : Tt := exT 329 (nwT 0 3 (gv1 t))
def gv3 (Lk : Int) (t : Tt) : Tt := exT 330 (nwT 0 (Lk - 1) (gv2 t))
def stpTt (k Lk B : Int) (t : Tt) : Tt := if k = 322 then ps3 B t else if k = 323 then nwT 0 (B - 1) (gv3 Lk t) else if k = 324 then nwT 1 9 (nwT 0 (Lk - 1) t) else nwT 1 99 t
def stpPs (k Lk B : Int) (t : Tt) : PSt := if k = 322 then (0, vlT t, (if kdT (ps1 B t) = 315 then 1 else 0), psv B t, 0) else if k = 323 then (1, vlT t, vlT (gv1 t), vlT (gv2 t), vlT (gv3 Lk t)) else if k = 324 then (2, vlT t, vlT (nwT 0 (Lk - 1) t), 0, 0) else (3, vlT t, 0, 0, 0)
def UsX (w : Int) (a : Int) (s : PSt) (d : Nat → Int) : Prop := d a.toNat = w + (s.1 : Int) ∧ d (a + 1).toNat = s.2.1 ∧ (s.1 ≤ 2 → d (a + 2).toNat = s.2.2.1) ∧ (s.1 ≤ 1 → d (a + 3).toNat = s.2.2.2.1) ∧ (s.1 = 1 → d (a + 4).toNat = s.2.2.2.2)
theorem fs_s {d : Nat → Int} {j : Nat} {v : Int} : fset d j v j = v := if_pos rfl
theorem fs_n {d : Nat → Int} {j i : Nat} {v : Int} (h : i ≠ j) : fset d j v i = d i := if_neg h
theorem doQ_x {k a Lk B w : Int} {t : Tt} {d : Nat → Int} (hk : 322 ≤ k ∧ k ≤ 325) (ha : 0 ≤ a) (hd : d a.toNat = w + (k - 322)) : (doQ k a Lk B (t, d)).1 = stpTt k Lk B t ∧ UsX w a (stpPs k Lk B t) (doQ k a Lk B (t, d)).2 ∧ ∀ j : Nat, (j : Int) < a ∨ a + 5 ≤ (j : Int) → (doQ k a Lk B (t, d)).2 j = d j := by
  have c : k = 322 ∨ k = 323 ∨ k = 324 ∨ k = 325 := by omega
  rcases c with c | c | c | c
  · subst c
    have e : doQ 322 a Lk B (t, d) = (ps3 B t, fset (fset (fset d (a + 1).toNat (vlT t)) (a + 2).toNat (if kdT (ps1 B t) = 315 then 1 else 0)) (a + 3).toNat (psv B t)) := psQ_e
    rw [e]
    have e2 : stpPs 322 Lk B t = (0, vlT t, (if kdT (ps1 B t) = 315 then 1 else 0), psv B t, 0) := rfl
    rw [e2]
    refine ⟨rfl, ⟨?_, ?_, fun _ => ?_, fun _ => ?_, fun q => absurd q (by show ¬ 0 = 1; omega)⟩, fun j hj => ?_⟩
    · exact (fs_n (by omega)).trans ((fs_n (by omega)).trans ((fs_n (by omega)).trans hd))
    · exact (fs_n (by omega)).trans ((fs_n (by omega)).trans fs_s)
    · exact (fs_n (by omega)).trans fs_s
    · exact fs_s
    · exact (fs_n (by omega)).trans ((fs_n (by omega)).trans (fs_n (by omega)))
  · subst c
    have e : doQ 323 a Lk B (t, d) = (nwT 0 (B - 1) (gv3 Lk t), fset (fset (fset (fset d (a + 1).toNat (vlT t)) (a + 2).toNat (vlT (gv1 t))) (a + 3).toNat (vlT (gv2 t))) (a + 4).toNat (vlT (gv3 Lk t))) := rfl
    rw [e]
    have e2 : stpPs 323 Lk B t = (1, vlT t, vlT (gv1 t), vlT (gv2 t), vlT (gv3 Lk t)) := rfl
    rw [e2]
    refine ⟨rfl, ⟨?_, ?_, fun _ => ?_, fun _ => ?_, fun _ => ?_⟩, fun j hj => ?_⟩
    · exact (fs_n (by omega)).trans ((fs_n (by omega)).trans ((fs_n (by omega)).trans ((fs_n (by omega)).trans hd)))
    · exact (fs_n (by omega)).trans ((fs_n (by omega)).trans ((fs_n (by omega)).trans fs_s))
    · exact (fs_n (by omega)).trans ((fs_n (by omega)).trans fs_s)
    · exact (fs_n (by omega)).trans fs_s
    · exact fs_s
    · exact (fs_n (by omega)).trans ((fs_n (by omega)).trans ((fs_n (by omega)).trans (fs_n (by omega))))
  · subst c
    have e : doQ 324 a Lk B (t, d) = (nwT 1 9 (nwT 0 (Lk - 1) t), fset (fset d (a + 1).toNat (vlT t)) (a + 2).toNat (vlT (nwT 0 (Lk - 1) t))) := rfl
    rw [e]
    have e2 : stpPs 324 Lk B t = (2, vlT t, vlT (nwT 0 (Lk - 1) t), 0, 0) := rfl
    rw [e2]
    refine ⟨rfl, ⟨?_, ?_, fun _ => ?_, fun q => absurd q (by show ¬ 2 ≤ 1; omega), fun q => absurd q (by show ¬ 2 = 1; omega)⟩, fun j hj => ?_⟩
    · exact (fs_n (by omega)).trans ((fs_n (by omega)).trans hd)
    · exact (fs_n (by omega)).trans fs_s
    · exact fs_s
    · exact (fs_n (by omega)).trans (fs_n (by omega))
  · subst c
    have e : doQ 325 a Lk B (t, d) = (nwT 1 99 t, fset d (a + 1).toNat (vlT t)) := rfl
    rw [e]
    have e2 : stpPs 325 Lk B t = (3, vlT t, 0, 0, 0) := rfl
    rw [e2]
    refine ⟨rfl, ⟨?_, ?_, fun q => absurd q (by show ¬ 3 ≤ 2; omega), fun q => absurd q (by show ¬ 3 ≤ 1; omega), fun q => absurd q (by show ¬ 3 = 1; omega)⟩, fun j hj => ?_⟩
    · exact (fs_n (by omega)).trans hd
    · exact fs_s
    · exact fs_n (by omega)
theorem nwT_l {lo hi : Int} {t : Tt} (h : (nwT lo hi t).1 = 0) : t.1 = 0 ∧ lo ≤ vlT t ∧ vlT t ≤ hi := by
  have h2 : (if kdT t = 256 then (if lo ≤ vlT t ∧ vlT t ≤ hi then t else wrT 2 t) else wrT 1 t).1 = 0 := h
  have wz : ∀ (k : Int), k ≠ 0 → (wrT k t).1 ≠ 0 := fun k hk => by
    unfold wrT
    split
    · exact hk
    · rename_i r; exact r
  split at h2
  · split at h2
    · rename_i q; exact ⟨h2, q.1, q.2⟩
    · exact absurd h2 (wz _ (by decide))
  · exact absurd h2 (wz _ (by decide))
theorem exT_l {k : Int} {t : Tt} (h : (exT k t).1 = 0) : t.1 = 0 := by
  unfold exT at h
  split at h
  · exact h
  · unfold wrT at h
    split at h
    · exact absurd h (by show ¬ (1 : Int) = 0; decide)
    · exact h
theorem stp_V {k Lk B : Int} {t : Tt} {K : KK} (hk : 322 ≤ k ∧ k ≤ 325) (hl : (stpTt k Lk B t).1 = 0) (hB : K 13 0 = B) (hL : K 0 0 = Lk) : VS K (stpPs k Lk B t) := by
  have c : k = 322 ∨ k = 323 ∨ k = 324 ∨ k = 325 := by omega
  rcases c with c | c | c | c
  · subst c
    have h3 : (ps3 B t).1 = 0 := hl
    have h2 : (ps2 B t).1 = 0 := by
      unfold ps3 at h3
      split at h3
      · exact (nwT_l h3).1
      · exact h3
    have h1 : (ps1 B t).1 = 0 := by
      unfold ps2 at h2
      split at h2
      · exact h2
      · exact exT_l h2
    have h0 := nwT_l h1
    refine ⟨by show 0 ≤ 3; omega, fun _ => ?_, fun q => absurd q (by show ¬ 0 = 2; omega), fun q => absurd q (by show ¬ 0 = 3; omega)⟩
    show 0 ≤ vlT t ∧ vlT t < K 13 0
    omega
  · subst c
    exact ⟨by show 1 ≤ 3; omega, fun q => absurd q (by show ¬ 1 = 0; omega), fun q => absurd q (by show ¬ 1 = 2; omega), fun q => absurd q (by show ¬ 1 = 3; omega)⟩
  · subst c
    have h3 : (nwT 1 9 (nwT 0 (Lk - 1) t)).1 = 0 := hl
    have h2 := nwT_l h3
    have h1 := nwT_l h2.1
    refine ⟨by show 2 ≤ 3; omega, fun q => absurd q (by show ¬ 2 = 0; omega), fun _ => ?_, fun q => absurd q (by show ¬ 2 = 3; omega)⟩
    show pulP K (vlT t) (vlT (nwT 0 (Lk - 1) t))
    unfold pulP
    omega
  · subst c
    have h3 : (nwT 1 99 t).1 = 0 := hl
    have h1 := nwT_l h3
    exact ⟨by show 3 ≤ 3; omega, fun q => absurd q (by show ¬ 3 = 0; omega), fun q => absurd q (by show ¬ 3 = 2; omega), fun _ => ⟨h1.2.1, h1.2.2⟩⟩
theorem stp_1 {k Lk B : Int} {t : Tt} (hk : 322 ≤ k ∧ k ≤ 325) : ((stpPs k Lk B t).1 : Int) = k - 322 := by
  have c : k = 322 ∨ k = 323 ∨ k = 324 ∨ k = 325 := by omega
  rcases c with c | c | c | c <;> subst c <;> rfl
