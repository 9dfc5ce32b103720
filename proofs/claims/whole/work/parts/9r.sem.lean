/-! What a law's code says: a stack of numbers. -/
def ev1 (rl : Nat → Prop) (f : Nat → Int) (c : Int) (st : List Int) (k : List Int → Prop) : Prop := st.length < 64 ∧ ((0 ≤ c ∧ k (c :: st)) ∨ (-15 ≤ c ∧ c < 0 ∧ rl (-1 - c).toNat ∧ k (f (-1 - c).toNat :: st)) ∨ (c = -29 ∧ ∃ x r, st = x :: r ∧ (x = 0 ∨ x = 1) ∧ k (nrm (1 - x) :: r)) ∨ (-28 ≤ c ∧ c ≤ -20 ∧ ∃ y x r, st = y :: x :: r ∧ (c = -23 → 1 ≤ y ∧ y ≤ 9999) ∧ ((c = -27 ∨ c = -28) → (x = 0 ∨ x = 1) ∧ (y = 0 ∨ y = 1)) ∧ k (jnF c x y :: r)))
def evP (rl : Nat → Prop) (f : Nat → Int) : List Int → List Int → (List Int → Prop) → Prop
  | [], st, k => k st
  | c :: δ, st, k => ev1 rl f c st (fun s2 => evP rl f δ s2 k)
theorem evP_app {rl : Nat → Prop} {f : Nat → Int} {b : List Int} {k : List Int → Prop} : ∀ (a st : List Int), evP rl f a st (fun s2 => evP rl f b s2 k) → evP rl f (a ++ b) st k
  | [], _, h => h
  | c :: a, st, h => by
    have h2 : ev1 rl f c st (fun s2 => evP rl f a s2 (fun s2 => evP rl f b s2 k)) := h
    obtain ⟨h3, h4⟩ := h2
    refine ⟨h3, ?_⟩
    rcases h4 with ⟨q, r⟩ | ⟨q1, q2, q3, r⟩ | ⟨q1, x, r, q2, q3, q4⟩ | ⟨q1, q2, y, x, r, q3, q4, q5, q6⟩
    · exact Or.inl ⟨q, evP_app a _ r⟩
    · exact Or.inr (Or.inl ⟨q1, q2, q3, evP_app a _ r⟩)
    · exact Or.inr (Or.inr (Or.inl ⟨q1, x, r, q2, q3, evP_app a _ q4⟩))
    · exact Or.inr (Or.inr (Or.inr ⟨q1, q2, y, x, r, q3, q4, q5, evP_app a _ q6⟩))
def EvX (rl : Nat → Prop) (d : Nat) (bl : Prop) (δ : List Int) : Prop := ∀ f : Nat → Int, ∃ v : Int, (bl → v = 0 ∨ v = 1) ∧ ∀ (st : List Int) (k : List Int → Prop), st.length + d ≤ 64 → k (v :: st) → evP rl f δ st k
theorem EvX.le {rl : Nat → Prop} {d d2 : Nat} {bl : Prop} {δ : List Int} (h : EvX rl d bl δ) (q : d ≤ d2) : EvX rl d2 bl δ := fun f => by
  obtain ⟨v, h1, h2⟩ := h f
  exact ⟨v, h1, fun st k q1 q2 => h2 st k (by omega) q2⟩
theorem Ev_num {rl : Nat → Prop} {c : Int} (h : 0 ≤ c) : EvX rl 1 False [c] := fun f => ⟨c, fun q => q.elim, fun st k q1 q2 => ⟨by omega, Or.inl ⟨h, q2⟩⟩⟩
theorem Ev_fea {rl : Nat → Prop} {c : Int} (h0 : -15 ≤ c) (h1 : c < 0) (h2 : rl (-1 - c).toNat) : EvX rl 1 False [c] := fun f => ⟨f (-1 - c).toNat, fun q => q.elim, fun st k q1 q2 => ⟨by omega, Or.inr (Or.inl ⟨h0, h1, h2, q2⟩)⟩⟩
theorem Ev_not {rl : Nat → Prop} {d : Nat} {a : List Int} (h : EvX rl d True a) (hd : 2 ≤ d) : EvX rl d True (a ++ [-29]) := fun f => by
  obtain ⟨v, h1, h2⟩ := h f
  refine ⟨nrm (1 - v), fun _ => ?_, fun st k q1 q2 => evP_app a st (h2 st _ q1 ⟨by show st.length + 1 < 64; omega, Or.inr (Or.inr (Or.inl ⟨rfl, v, st, rfl, h1 trivial, q2⟩))⟩)⟩
  rcases h1 trivial with e | e <;> rw [e]
  · exact Or.inr (by decide)
  · exact Or.inl (by decide)
theorem Ev_jn {rl : Nat → Prop} {d1 d2 d : Nat} {b1 b2 bl : Prop} {a b : List Int} {op : Int} (h : EvX rl d1 b1 a) (g : EvX rl d2 b2 b) (hd1 : d1 ≤ d) (hd2 : d2 + 1 ≤ d) (hd3 : 3 ≤ d) (ho : -28 ≤ op ∧ op ≤ -20) (hv : op ≠ -23) (hb : (op = -27 ∨ op = -28) → b1 ∧ b2) (hr : bl → op ≤ -24) : EvX rl d bl (a ++ (b ++ [op])) := fun f => by
  obtain ⟨v, h1, h2⟩ := h f
  obtain ⟨w, g1, g2⟩ := g f
  refine ⟨jnF op v w, fun q => ?_, fun st k q1 q2 => evP_app a st (h2 st _ (by omega) (evP_app b _ (g2 (v :: st) _ (by show st.length + 1 + d2 ≤ 64; omega) ⟨by show st.length + 1 + 1 < 64; omega, Or.inr (Or.inr (Or.inr ⟨ho.1, ho.2, w, v, st, rfl, fun e => absurd e hv, fun e => ⟨h1 (hb e).1, g1 (hb e).2⟩, q2⟩))⟩)))⟩
  have hr2 := hr q
  have c : op = -24 ∨ op = -25 ∨ op = -26 ∨ op = -27 ∨ op = -28 := by omega
  rcases c with c | c | c | c | c
  · subst c; unfold jnF; simp; omega
  · subst c; unfold jnF; simp; omega
  · subst c; unfold jnF; simp; omega
  · have e1 := h1 (hb (Or.inl c)).1
    have e2 := g1 (hb (Or.inl c)).2
    subst c
    rcases e1 with e1 | e1 <;> rcases e2 with e2 | e2 <;> rw [e1, e2] <;> decide
  · have e1 := h1 (hb (Or.inr c)).1
    have e2 := g1 (hb (Or.inr c)).2
    subst c
    rcases e1 with e1 | e1 <;> rcases e2 with e2 | e2 <;> rw [e1, e2] <;> decide
theorem Ev_dv {rl : Nat → Prop} {d1 d : Nat} {b1 : Prop} {a : List Int} {c : Int} (h : EvX rl d1 b1 a) (hd1 : d1 ≤ d) (hd3 : 3 ≤ d) (h0 : 1 ≤ c) (h9 : c ≤ 9999) : EvX rl d False (a ++ ([c] ++ [-23])) := fun f => by
  obtain ⟨v, h1, h2⟩ := h f
  exact ⟨jnF (-23) v c, fun q => q.elim, fun st k q1 q2 => evP_app a st (h2 st _ (by omega) ⟨by show st.length + 1 < 64; omega, Or.inl ⟨by omega, ⟨by show st.length + 1 + 1 < 64; omega, Or.inr (Or.inr (Or.inr ⟨by omega, by omega, c, v, st, rfl, fun _ => ⟨h0, h9⟩, fun e => by omega, q2⟩))⟩⟩⟩)⟩
/-! what the parser writes -/
def Sem (F : Sg → Sg) (P : List Int → Prop) : Prop := ∀ s : Sg, wfL s.1.2.2 → wfL (F s).1.2.2 ∧ ((F s).1.1 = 0 → (F s).2.length < 400 → s.1.1 = 0 ∧ ∃ δ, (F s).2 = s.2 ++ δ ∧ P δ)
theorem Sem.comp {F G : Sg → Sg} {P Q : List Int → Prop} (hG : Sem G Q) (hF : Sem F P) : Sem (fun s => G (F s)) (fun δ => ∃ a b, δ = a ++ b ∧ P a ∧ Q b) := fun s hs => by
  obtain ⟨f1, f2⟩ := hF s hs
  obtain ⟨g1, g2⟩ := hG (F s) f1
  refine ⟨g1, fun q1 q2 => ?_⟩
  obtain ⟨g3, b, g4, g5⟩ := g2 q1 q2
  obtain ⟨f3, a, f4, f5⟩ := f2 g3 (by have h2 : (G (F s)).2.length < 400 := q2; rw [g4, List.length_append] at h2; omega)
  exact ⟨f3, a ++ b, by show (G (F s)).2 = _; rw [g4, f4, List.append_assoc], a, b, rfl, f5, g5⟩
theorem Sem.imp {F : Sg → Sg} {P Q : List Int → Prop} (h : Sem F P) (g : ∀ δ, P δ → Q δ) : Sem F Q := fun s hs => ⟨(h s hs).1, fun q1 q2 => by obtain ⟨a, δ, b, c⟩ := (h s hs).2 q1 q2; exact ⟨a, δ, b, g δ c⟩⟩
theorem wf_st {t : Tt} (h : wfL t.2.2) : wfL (stT t).2.2 := by
  show wfL (if 1 < t.2.2.length then t.2.2.tail else t.2.2)
  split
  · rename_i q
    cases e : t.2.2 with
    | nil => rw [e] at q; exact absurd q (by decide)
    | cons u r =>
      rw [e] at h q
      obtain ⟨_, ⟨h1, _⟩ | ⟨_, h1, _⟩⟩ := wfL_c h
      · rw [h1] at q; exact absurd q (by show ¬ 1 < 1; omega)
      · exact h1
  · exact h
theorem wf_hd {t : Tt} (h : wfL t.2.2) : wfT (hdT t) := by
  unfold hdT
  cases e : t.2.2 with
  | nil => rw [e] at h; exact h.elim
  | cons u r => rw [e] at h; exact (wfL_c h).1
theorem wf_wr {t : Tt} {k : Int} (h : wfL t.2.2) : wfL (wrT k t).2.2 := by
  unfold wrT
  split
  · exact h
  · exact h
theorem Se_st : Sem stS (fun δ => δ = []) := fun s hs => ⟨wf_st hs, fun q1 _ => ⟨q1, [], (List.append_nil _).symm, rfl⟩⟩
theorem Se_wt (op : Int) : Sem (wtS op) (fun δ => δ = [op]) := fun s hs => ⟨hs, fun q1 q2 => ⟨q1, [op], by
  have q3 : (if s.2.length < 400 then s.2 ++ [op] else s.2).length < 400 := q2
  show (if s.2.length < 400 then s.2 ++ [op] else s.2) = _
  split
  · rfl
  · rename_i r; rw [if_neg r] at q3; exact absurd q3 r, rfl⟩⟩
theorem Se_wr {k : Int} {P : List Int → Prop} (hk : k ≠ 0) : Sem (wrS k) P := fun s hs => ⟨wf_wr hs, fun q1 _ => by
  have q2 : (wrT k s.1).1 = 0 := q1
  unfold wrT at q2
  split at q2
  · exact absurd q2 hk
  · rename_i r; exact absurd q2 r⟩
theorem Se_ex {k : Int} : Sem (exS k) (fun δ => δ = []) := fun s hs => by
  rcases Classical.em (kdT s.1 = k) with q | q
  · have e : exS k s = stS s := congrArg (fun t => (t, s.2)) (if_pos q)
    rw [e]
    exact Se_st s hs
  · have e : exS k s = wrS 1 s := congrArg (fun t => (t, s.2)) (if_neg q)
    rw [e]
    exact Se_wr (by decide) s hs
theorem Se_if {p : Sg → Prop} [∀ s, Decidable (p s)] {F G : Sg → Sg} {P : List Int → Prop} (hF : Sem F P) (hG : Sem G P) : Sem (fun s => if p s then F s else G s) P := fun s hs => by
  rcases Classical.em (p s) with q | q
  · have e : (if p s then F s else G s) = F s := if_pos q
    show wfL (if p s then F s else G s).1.2.2 ∧ ((if p s then F s else G s).1.1 = 0 → (if p s then F s else G s).2.length < 400 → s.1.1 = 0 ∧ ∃ δ, (if p s then F s else G s).2 = s.2 ++ δ ∧ P δ)
    rw [e]
    exact hF s hs
  · have e : (if p s then F s else G s) = G s := if_neg q
    show wfL (if p s then F s else G s).1.2.2 ∧ ((if p s then F s else G s).1.1 = 0 → (if p s then F s else G s).2.length < 400 → s.1.1 = 0 ∧ ∃ δ, (if p s then F s else G s).2 = s.2 ++ δ ∧ P δ)
    rw [e]
    exact hG s hs
def rlh (h : Int) : Nat → Prop := if h = 0 then rlG else rlH
theorem Se_un (h : Int) : Sem (unF h) (EvX (rlh h) 1 False) := fun s hs => by
  unfold unF
  rcases Classical.em (kdS s = 256) with q | q
  · rw [if_pos q]
    have hv : 0 ≤ vlT s.1 := by
      have w := wf_hd hs
      have q2 : (if s.1.1 = 0 then (hdT s.1).1 else 258) = 256 := q
      split at q2
      · rcases w with w | w | w | w | w
        · omega
        · omega
        · exact w.2.1
        · omega
        · unfold sgP at w; omega
      · omega
    have h1 := (Se_st.comp (Se_wt (vlT s.1))) s hs
    refine ⟨h1.1, fun q1 q2 => ?_⟩
    obtain ⟨a, δ, b, a1, b1, c, d, e⟩ := h1.2 q1 q2
    refine ⟨a, δ, b, ?_⟩
    rw [c, d, e, List.append_nil]
    exact Ev_num hv
  · rw [if_neg q]
    rcases Classical.em (ftP h (kdS s - 307)) with r | r
    · rw [if_pos r]
      have h1 := (Se_st.comp (Se_wt (-1 - (kdS s - 307)))) s hs
      refine ⟨h1.1, fun q1 q2 => ?_⟩
      obtain ⟨a, δ, b, a1, b1, c, d, e⟩ := h1.2 q1 q2
      refine ⟨a, δ, b, ?_⟩
      rw [c, d, e, List.append_nil]
      unfold ftP at r
      unfold rlh
      split at r
      · rename_i z
        rw [if_pos z]
        exact Ev_fea (by omega) (by omega) (by unfold rlG; omega)
      · rename_i z
        rw [if_neg z]
        exact Ev_fea (by omega) (by omega) (by unfold rlH; omega)
    · rw [if_neg r]
      exact Se_wr (by decide) s hs
/-- a loop goes on writing at what stands there -/
def SeL (F : Sg → Sg) (P : List Int → Prop) : Prop := ∀ s : Sg, wfL s.1.2.2 → wfL (F s).1.2.2 ∧ ((F s).1.1 = 0 → (F s).2.length < 400 → s.1.1 = 0 ∧ ∃ δ, (F s).2 = s.2 ++ δ ∧ ∀ a, P a → P (a ++ δ))
theorem SeL.id {P : List Int → Prop} : SeL (fun s => s) P := fun s hs => ⟨hs, fun q1 _ => ⟨q1, [], (List.append_nil _).symm, fun a h => by rw [List.append_nil]; exact h⟩⟩
theorem SeL.go {F G : Sg → Sg} {P Q : List Int → Prop} (hG : SeL G P) (hF : Sem F Q) (hQ : ∀ a δ, P a → Q δ → P (a ++ δ)) : SeL (fun s => G (F s)) P := fun s hs => by
  obtain ⟨f1, f2⟩ := hF s hs
  obtain ⟨g1, g2⟩ := hG (F s) f1
  refine ⟨g1, fun q1 q2 => ?_⟩
  obtain ⟨g3, b, g4, g5⟩ := g2 q1 q2
  obtain ⟨f3, a, f4, f5⟩ := f2 g3 (by have h2 : (G (F s)).2.length < 400 := q2; rw [g4, List.length_append] at h2; omega)
  exact ⟨f3, a ++ b, by show (G (F s)).2 = _; rw [g4, f4, List.append_assoc], fun c hc => by rw [← List.append_assoc]; exact g5 _ (hQ c a hc f5)⟩
theorem SeL.at {F G : Sg → Sg} {P Q : List Int → Prop} (hG : SeL G P) (hF : Sem F P) : Sem (fun s => G (F s)) P := fun s hs => by
  obtain ⟨f1, f2⟩ := hF s hs
  obtain ⟨g1, g2⟩ := hG (F s) f1
  refine ⟨g1, fun q1 q2 => ?_⟩
  obtain ⟨g3, b, g4, g5⟩ := g2 q1 q2
  obtain ⟨f3, a, f4, f5⟩ := f2 g3 (by have h2 : (G (F s)).2.length < 400 := q2; rw [g4, List.length_append] at h2; omega)
  exact ⟨f3, a ++ b, by show (G (F s)).2 = _; rw [g4, f4, List.append_assoc], g5 a f5⟩
theorem SeL_if {p : Sg → Prop} [∀ s, Decidable (p s)] {F G : Sg → Sg} {P : List Int → Prop} (hF : SeL F P) (hG : SeL G P) : SeL (fun s => if p s then F s else G s) P := fun s hs => by
  rcases Classical.em (p s) with q | q
  · have e : (if p s then F s else G s) = F s := if_pos q
    show wfL (if p s then F s else G s).1.2.2 ∧ ((if p s then F s else G s).1.1 = 0 → (if p s then F s else G s).2.length < 400 → s.1.1 = 0 ∧ ∃ δ, (if p s then F s else G s).2 = s.2 ++ δ ∧ ∀ a, P a → P (a ++ δ))
    rw [e]
    exact hF s hs
  · have e : (if p s then F s else G s) = G s := if_neg q
    show wfL (if p s then F s else G s).1.2.2 ∧ ((if p s then F s else G s).1.1 = 0 → (if p s then F s else G s).2.length < 400 → s.1.1 = 0 ∧ ∃ δ, (if p s then F s else G s).2 = s.2 ++ δ ∧ ∀ a, P a → P (a ++ δ))
    rw [e]
    exact hG s hs
theorem Se_prL (h : Int) : ∀ k : Nat, SeL (prL h k) (EvX (rlh h) 3 False)
  | 0 => SeL.id
  | k + 1 => by
    have h1 : SeL (fun s => prL h k (wtS (-22) (unF h (stS s)))) (EvX (rlh h) 3 False) := SeL.go (F := fun s => wtS (-22) (unF h (stS s))) (Se_prL h k) ((Se_wt (-22)).comp ((Se_un h).comp Se_st)) (fun a δ ha hδ => by
      obtain ⟨x, y, e1, ⟨z, u, e2, e3, e4⟩, e5⟩ := hδ
      rw [e1, e2, e3, e5, List.nil_append]
      exact Ev_jn ha e4 (Nat.le_refl _) (by omega) (by omega) (by omega) (by omega) (fun q => by omega) (fun q => q.elim))
    have h2 : SeL (fun s => prL h k (wtS (-23) (wtS (vlT (stS s).1) (nwS 1 9999 (stS s))))) (EvX (rlh h) 3 False) := by
      refine SeL.go (F := fun s => wtS (-23) (wtS (vlT (stS s).1) (nwS 1 9999 (stS s)))) (Q := fun δ => ∃ c, 1 ≤ c ∧ c ≤ 9999 ∧ δ = [c] ++ [-23]) (Se_prL h k) ?_ (fun a δ ha hδ => by
        obtain ⟨c, e1, e2, e3⟩ := hδ
        rw [e3]
        exact Ev_dv ha (Nat.le_refl _) (Nat.le_refl _) e1 e2)
      intro s hs
      have w1 := wf_st hs
      have w2 : wfL (nwS 1 9999 (stS s)).1.2.2 := by
        show wfL (stT (if kdT (stT s.1) = 256 then (if 1 ≤ vlT (stT s.1) ∧ vlT (stT s.1) ≤ 9999 then stT s.1 else wrT 2 (stT s.1)) else wrT 1 (stT s.1))).2.2
        refine wf_st ?_
        split
        · split
          · exact w1
          · exact wf_wr w1
        · exact wf_wr w1
      have h3 := ((Se_wt (-23)).comp (Se_wt (vlT (stS s).1))) (nwS 1 9999 (stS s)) w2
      refine ⟨h3.1, fun q1 q2 => ?_⟩
      obtain ⟨l1, δ, e1, x, y, e2, e3, e4⟩ := h3.2 q1 q2
      have l2 : (stT (if kdT (stT s.1) = 256 then (if 1 ≤ vlT (stT s.1) ∧ vlT (stT s.1) ≤ 9999 then stT s.1 else wrT 2 (stT s.1)) else wrT 1 (stT s.1))).1 = 0 := l1
      have l3 : (if kdT (stT s.1) = 256 then (if 1 ≤ vlT (stT s.1) ∧ vlT (stT s.1) ≤ 9999 then stT s.1 else wrT 2 (stT s.1)) else wrT 1 (stT s.1)).1 = 0 := l2
      have wz : ∀ (k : Int) (t : Tt), k ≠ 0 → (wrT k t).1 ≠ 0 := fun k t hk => by
        unfold wrT
        split
        · exact hk
        · rename_i r; exact r
      split at l3
      · split at l3
        · rename_i r1 r2
          exact ⟨l3, δ, e1, vlT (stT s.1), r2.1, r2.2, by rw [e2, e3, e4]; rfl⟩
        · exact absurd l3 (wz _ _ (by decide))
      · exact absurd l3 (wz _ _ (by decide))
    exact SeL_if (p := fun s => kdS s = 42) h1 (SeL_if (p := fun s => kdS s = 47) h2 SeL.id)
theorem Se_pr (h : Int) : Sem (prF h) (EvX (rlh h) 3 False) := SeL.at (G := prL h 400) (F := unF h) (Q := fun _ => True) (Se_prL h 400) ((Se_un h).imp (fun δ q => EvX.le q (by omega)))
theorem Se_smL (h : Int) : ∀ k : Nat, SeL (smL h k) (EvX (rlh h) 4 False)
  | 0 => SeL.id
  | k + 1 => by
    have h1 : ∀ op : Int, (op = -20 ∨ op = -21) → SeL (fun s => smL h k (wtS op (prF h (stS s)))) (EvX (rlh h) 4 False) := fun op ho => SeL.go (F := fun s => wtS op (prF h (stS s))) (Se_smL h k) ((Se_wt op).comp ((Se_pr h).comp Se_st)) (fun a δ ha hδ => by
      obtain ⟨x, y, e1, ⟨z, u, e2, e3, e4⟩, e5⟩ := hδ
      rw [e1, e2, e3, e5, List.nil_append]
      exact Ev_jn ha e4 (Nat.le_refl _) (by omega) (by omega) (by omega) (by omega) (fun q => by omega) (fun q => q.elim))
    intro s hs
    unfold smL
    rcases Classical.em (kdS s = 43) with q | q
    · rw [if_pos (Or.inl q), if_pos q]
      exact h1 (-20) (Or.inl rfl) s hs
    · rw [if_neg q]
      rcases Classical.em (kdS s = 45) with r | r
      · rw [if_pos (Or.inr r)]
        exact h1 (-21) (Or.inr rfl) s hs
      · rw [if_neg (fun z => z.elim q r)]
        exact SeL.id s hs
theorem Se_sm (h : Int) : Sem (smS h) (EvX (rlh h) 4 False) := SeL.at (G := smL h 400) (F := prF h) (Q := fun _ => True) (Se_smL h 400) ((Se_pr h).imp (fun δ q => EvX.le q (by omega)))
theorem Se_tk3 : Sem tk3 (fun δ => δ = []) := Se_if (p := fun s => kdS s = 60 ∨ kdS s = 61 ∨ kdS s = 62) Se_st (Se_wr (by decide))
theorem Se_cm (h : Int) : Sem (cmF h) (EvX (rlh h) 5 True) := fun s hs => by
  have h1 := ((Se_wt (cpF (kdS (smS h s)))).comp ((Se_sm h).comp (Se_tk3.comp (Se_sm h)))) s hs
  refine ⟨h1.1, fun q1 q2 => ?_⟩
  obtain ⟨l, δ, e, a, b, e1, ⟨c, d, e2, ⟨x, y, e3, e4, e5⟩, e6⟩, e7⟩ := h1.2 q1 q2
  refine ⟨l, δ, e, ?_⟩
  rw [e1, e2, e3, e5, e7, List.append_nil, List.append_assoc]
  have ho : cpF (kdS (smS h s)) = -24 ∨ cpF (kdS (smS h s)) = -25 ∨ cpF (kdS (smS h s)) = -26 := by
    unfold cpF
    split
    · exact Or.inr (Or.inl rfl)
    · split
      · exact Or.inl rfl
      · exact Or.inr (Or.inr rfl)
  exact Ev_jn e4 e6 (by omega) (by omega) (by omega) (by omega) (by omega) (fun q => by omega) (fun q => by omega)
theorem Se_boL {rl : Nat → Prop} {cl : Sg → Sg} {d : Nat} (hd : 2 ≤ d) (hc : Sem cl (EvX rl d True)) : ∀ k : Nat, SeL (boL cl k) (EvX rl (d + 1) True)
  | 0 => SeL.id
  | k + 1 => SeL_if (p := fun s => kdS s = 305) (SeL.go (F := fun s => wtS (-27) (cl (stS s))) (Se_boL hd hc k) ((Se_wt (-27)).comp (hc.comp Se_st)) (fun a δ ha hδ => by
      obtain ⟨x, y, e1, ⟨z, u, e2, e3, e4⟩, e5⟩ := hδ
      rw [e1, e2, e3, e5, List.nil_append]
      exact Ev_jn ha e4 (Nat.le_refl _) (by omega) (by omega) (by omega) (by omega) (fun q => ⟨trivial, trivial⟩) (fun q => by omega))) SeL.id
theorem Se_bo {rl : Nat → Prop} {cl : Sg → Sg} {d : Nat} (hd : 2 ≤ d) (hc : Sem cl (EvX rl d True)) : Sem (boG cl) (EvX rl (d + 1) True) := SeL.at (G := boL cl 400) (F := cl) (Q := fun _ => True) (Se_boL hd hc 400) (hc.imp (fun δ q => EvX.le q (by omega)))
theorem Se_eiL {rl : Nat → Prop} {cl : Sg → Sg} {d : Nat} (hd : 2 ≤ d) (hc : Sem cl (EvX rl d True)) : ∀ k : Nat, SeL (eiL cl k) (EvX rl (d + 2) True)
  | 0 => SeL.id
  | k + 1 => SeL_if (p := fun s => kdS s = 304) (SeL.go (F := fun s => wtS (-28) (boG cl (stS s))) (Se_eiL hd hc k) ((Se_wt (-28)).comp ((Se_bo hd hc).comp Se_st)) (fun a δ ha hδ => by
      obtain ⟨x, y, e1, ⟨z, u, e2, e3, e4⟩, e5⟩ := hδ
      rw [e1, e2, e3, e5, List.nil_append]
      exact Ev_jn ha e4 (Nat.le_refl _) (by omega) (by omega) (by omega) (by omega) (fun q => ⟨trivial, trivial⟩) (fun q => by omega))) SeL.id
theorem Se_ei {rl : Nat → Prop} {cl : Sg → Sg} {d : Nat} (hd : 2 ≤ d) (hc : Sem cl (EvX rl d True)) : Sem (eiG cl) (EvX rl (d + 2) True) := SeL.at (G := eiL cl 400) (F := boG cl) (Q := fun _ => True) (Se_eiL hd hc 400) ((Se_bo hd hc).imp (fun δ q => EvX.le q (by omega)))
theorem Se_cl (h : Int) : ∀ m : Nat, Sem (clF h m) (EvX (rlh h) (5 + 2 * m) True)
  | 0 => Se_if (p := fun s => kdS s = 40 ∨ kdS s = 306) (Se_wr (by decide)) (Se_cm h)
  | m + 1 => by
    have h1 : Sem (fun s => wtS (-29) (clF h m (stS s))) (EvX (rlh h) (5 + 2 * (m + 1)) True) := ((Se_wt (-29)).comp ((Se_cl h m).comp Se_st)).imp (fun δ hδ => by
      obtain ⟨x, y, e1, ⟨z, u, e2, e3, e4⟩, e5⟩ := hδ
      rw [e1, e2, e3, e5, List.nil_append]
      exact Ev_not (e4.le (by omega)) (by omega))
    have h2 : Sem (fun s => exS 41 (eiG (clF h m) (stS s))) (EvX (rlh h) (5 + 2 * (m + 1)) True) := (Se_ex.comp ((Se_ei (by omega) (Se_cl h m)).comp Se_st)).imp (fun δ hδ => by
      obtain ⟨x, y, e1, ⟨z, u, e2, e3, e4⟩, e5⟩ := hδ
      rw [e1, e2, e3, e5, List.nil_append, List.append_nil]
      exact e4.le (by omega))
    exact Se_if (p := fun s => kdS s = 306) h1 (Se_if (p := fun s => kdS s = 40) h2 ((Se_cm h).imp (fun δ q => q.le (by omega))))
/-- a line's code has a value -/
theorem ok1_v {h : Int} {l : LN1} (hk : ok1 h l) (hh : h ≠ 0) : EvX (rlh h) 4 False l.2.1 := by
  have h1 := hk.1
  rw [if_neg hh] at h1
  obtain ⟨t, w, l1, l2, e⟩ := h1
  obtain ⟨_, δ, e2, e3⟩ := (Se_sm h (t, []) w).2 l1 l2
  rw [e, e2]
  exact e3
theorem ok1_c {h : Int} {l : LN1} {c : List Int} (hk : ok1 h l) (hc : l.2.2 = some c) : EvX (rlh h) 23 True c := by
  rcases hk.2 with q | ⟨t, w, l1, l2, e⟩
  · rw [q] at hc; cases hc
  · rw [e] at hc
    have e4 := Option.some.inj hc
    obtain ⟨_, δ, e2, e3⟩ := (Se_ei (by omega) (Se_cl h 8) (t, []) w).2 l1 l2
    rw [← e4, e2]
    exact e3
