/-! while all is well, the place stays: a plan -/
def KpT (F : Tt → Tt) : Prop := ∀ t : Tt, (F t).1 = 0 → t.1 = 0 ∧ (F t).2.1 = t.2.1
theorem KpT.comp {F G : Tt → Tt} (g : KpT G) (f : KpT F) : KpT (fun t => G (F t)) := fun t q => by
  obtain ⟨g1, g2⟩ := g (F t) q
  obtain ⟨f1, f2⟩ := f t g1
  exact ⟨f1, g2.trans f2⟩
theorem Kt_st : KpT stT := fun _ q => ⟨q, rfl⟩
theorem Kt_nw {lo hi : Int} : KpT (nwT lo hi) := fun _ q => ⟨(nwT_l q).1, nwT_k q⟩
theorem Kt_ex {k : Int} : KpT (exT k) := fun _ q => ⟨exT_l q, exT_k q⟩
theorem Kt_p1 (B : Int) : KpT (ps1 B) := Kt_nw
theorem Kt_p2 (B : Int) : KpT (ps2 B) := fun t q => by
  unfold ps2 at q ⊢
  split at q
  · rename_i e; rw [if_pos e]; exact (Kt_p1 B) t q
  · rename_i e; rw [if_neg e]; exact (Kt_ex.comp (Kt_p1 B)) t q
theorem Kt_p3 (B : Int) : KpT (ps3 B) := fun t q => by
  unfold ps3 at q ⊢
  split at q
  · rename_i e; rw [if_pos e]; exact (Kt_nw.comp (Kt_st.comp (Kt_p2 B))) t q
  · rename_i e; rw [if_neg e]; exact (Kt_p2 B) t q
theorem Kt_g3 (Lk : Int) : KpT (gv3 Lk) := Kt_ex.comp (Kt_nw.comp (Kt_ex.comp (Kt_nw.comp (Kt_ex.comp Kt_nw))))
theorem Kt_stp (k Lk B : Int) : KpT (stpTt k Lk B) := fun t q => by
  unfold stpTt at q ⊢
  split at q
  · rename_i e; rw [if_pos e]; exact Kt_p3 B t q
  · rename_i e
    rw [if_neg e]
    split at q
    · rename_i e2; rw [if_pos e2]; exact (Kt_nw.comp (Kt_g3 Lk)) t q
    · rename_i e2
      rw [if_neg e2]
      split at q
      · rename_i e3; rw [if_pos e3]; exact (Kt_nw.comp Kt_nw) t q
      · rename_i e3; rw [if_neg e3]; exact Kt_nw t q
theorem Kp_sp {r Lk B : Int} (hr : 0 ≤ r) (s : Pg) (q : (spP r Lk B s).1.1 = 0) : s.1.1 = 0 ∧ (spP r Lk B s).1.2.1 = s.1.2.1 := by
  have wz : ∀ (k : Int) (t : Tt), k ≠ 0 → (wrT k t).1 ≠ 0 := fun k t hk => by
    unfold wrT
    split
    · exact hk
    · rename_i r; exact r
  rcases Classical.em (322 ≤ kdP s ∧ kdP s ≤ 325) with e | e
  · rcases Classical.em (r < 30) with e2 | e2
    · have e3 : spP r Lk B s = exP 59 (doQ (kdT s.1) (r * 5) Lk B (stT s.1, fset s.2 (r * 5).toNat (kdT s.1))) := spP_y (t := s.1) (d := s.2) e e2
      have e : 322 ≤ kdT s.1 ∧ kdT s.1 ≤ 325 := e
      have e4 := (doQ_x (w := 322) (k := kdT s.1) (Lk := Lk) (B := B) (t := stT s.1) (d := fset s.2 (r * 5).toNat (kdT s.1)) e (show 0 ≤ r * 5 by omega) (fs_s.trans (by omega))).1
      rw [e3] at q ⊢
      have q2 : (exT 59 (doQ (kdT s.1) (r * 5) Lk B (stT s.1, fset s.2 (r * 5).toNat (kdT s.1))).1).1 = 0 := q
      show s.1.1 = 0 ∧ (exT 59 (doQ (kdT s.1) (r * 5) Lk B (stT s.1, fset s.2 (r * 5).toNat (kdT s.1))).1).2.1 = s.1.2.1
      rw [e4] at q2 ⊢
      exact (Kt_ex.comp ((Kt_stp (kdT s.1) Lk B).comp Kt_st)) s.1 q2
    · rw [spP_3 e e2] at q
      exact absurd q (wz 3 s.1 (by decide))
  · rw [spP_n e] at q
    exact absurd q (wz 1 s.1 (by decide))
theorem Kp_pl {Lk B : Int} : ∀ (k : Nat) (r : Int) (s : Pg), 0 ≤ r → (plQ Lk B k r s).2.1.1 = 0 → s.1.1 = 0 ∧ (plQ Lk B k r s).2.1.2.1 = s.1.2.1
  | 0, r, s, _, q => ⟨q, rfl⟩
  | k + 1, r, s, hr, q => by
    unfold plQ at q ⊢
    split at q
    · rename_i e; rw [if_pos e]; exact ⟨q, rfl⟩
    · rename_i e
      rw [if_neg e]
      obtain ⟨g1, g2⟩ := Kp_pl k (r + 1) _ (by omega) q
      obtain ⟨f1, f2⟩ := Kp_sp hr s g1
      exact ⟨f1, g2.trans f2⟩
theorem pl_place {Lk B : Int} {bs : List Int} {d : Nat → Int} (q : (plQ Lk B 31 0 (tp0 bs, d)).2.1.1 = 0) : (plQ Lk B 31 0 (tp0 bs, d)).2.1.2.1 = -1 := (Kp_pl 31 0 (tp0 bs, d) (by omega) q).2
/-- the class's law stands where its text was read -/
theorem LawC_of {lw dr cd : Nat} {h : Int} {R R2 : Nat → Nat → Option Nat} {D0 D2 : KK} {c : Int × Sg} {z : Int} {L : List LN1} (hx : CxL lw dr cd R D0 c z R2 D2) (hl : c.2.1.1 = 0) (e : c.2.2 = clC h L) (hok : ∀ l ∈ L, ok1 h l) (h4 : c.2.2.length ≤ 400) : LawC lw dr (rlh h) (fun j => (clC h L).getD j 0) ((clC h L).length : Int) D2 := by
  have h9 := hx.2.2.2.2.2
  rw [if_pos hl] at h9
  rw [e] at h9 h4
  refine ⟨⟨by omega, by omega⟩, h9.2.2.1, fun i hi => h9.2.2.2 i (by omega), fun i hi q1 q2 => ?_⟩
  have hi2 : i < (clC h L).length := by omega
  have e2 : (clC h L).getD i 0 = (clC h L)[i] := by rw [List.getD_eq_getElem?_getD, List.getElem?_eq_getElem hi2]; rfl
  have q3 := clC_rl hok ((clC h L)[i]) (List.getElem_mem hi2)
  rw [← e2] at q3
  exact q3 q1 q2
theorem PlC_of {dr cd : Nat} {R R2 : Nat → Nat → Option Nat} {D0 D2 : KK} {c : Int × Pg} {z : Int} {P : List PSt} (hx : CxP dr cd R D0 c z R2 D2) (hl : c.2.1.1 = 0) (e : c.1 = (P.length : Int)) (h3 : P.length ≤ 30) (hp : PlX 322 P c.2.2) : PlC dr P D2 := by
  have h9 := hx.2.2.2.2.2
  rw [if_pos hl] at h9
  exact ⟨h9.2.1.trans e, h3, fun j s q => hp.cg (fun i hi => h9.2.2 i (by omega)) j s q⟩
