/-! What a run ends in, and runs with more calls. -/
abbrev XQ : Type := Option XV → XM → Prop
section XSt
variable {st : List XV} {m : XM} {loc : XLc}
theorem xbin_st {f : Int → Int → Int} {kk : List XV → Prop} (h : xbin f st kk) : ∃ r, kk r ∧ ∀ k2 : List XV → Prop, k2 r → xbin f st k2 := by
  unfold xbin at h ⊢
  split at h
  · exact ⟨_, h, fun _ h2 => h2⟩
  · exact h.elim
theorem xbind_st {f : Int → Int → Int} {kk : List XV → Prop} (h : xbind f st kk) : ∃ r, kk r ∧ ∀ k2 : List XV → Prop, k2 r → xbind f st k2 := by
  unfold xbind at h ⊢
  split at h
  · exact ⟨_, h.2, fun _ h2 => ⟨h.1, h2⟩⟩
  · exact h.elim
theorem xun_st {f : Int → Int} {kk : List XV → Prop} (h : xun f st kk) : ∃ r, kk r ∧ ∀ k2 : List XV → Prop, k2 r → xun f st k2 := by
  unfold xun at h ⊢
  split at h
  · exact ⟨_, h, fun _ h2 => h2⟩
  · exact h.elim
theorem xdup_st {kk : List XV → Prop} (h : xdup st kk) : ∃ r, kk r ∧ ∀ k2 : List XV → Prop, k2 r → xdup st k2 := by
  unfold xdup at h ⊢
  split at h
  · exact ⟨_, h, fun _ h2 => h2⟩
  · exact h.elim
theorem xdup2_st {kk : List XV → Prop} (h : xdup2 st kk) : ∃ r, kk r ∧ ∀ k2 : List XV → Prop, k2 r → xdup2 st k2 := by
  unfold xdup2 at h ⊢
  split at h
  · exact ⟨_, h, fun _ h2 => h2⟩
  · exact h.elim
theorem xpop_st {kk : List XV → Prop} (h : xpop st kk) : ∃ r, kk r ∧ ∀ k2 : List XV → Prop, k2 r → xpop st k2 := by
  unfold xpop at h ⊢
  split at h
  · exact ⟨_, h, fun _ h2 => h2⟩
  · exact h.elim
theorem xbr_st {c : ClassFile.Cond} {a b : Int} {pc : Nat} {off : Int} {kk : Nat → Prop} (h : xbr c a b pc off kk) : ∃ r, kk r ∧ ∀ k2 : Nat → Prop, k2 r → xbr c a b pc off k2 := by
  obtain ⟨tgt, h1, h2, h3⟩ := h
  rcases Classical.em (xcd c a b) with q | q
  · exact ⟨_, h2 q, fun _ h4 => ⟨tgt, h1, fun _ => h4, fun q2 => absurd q q2⟩⟩
  · exact ⟨_, h3 q, fun _ h4 => ⟨tgt, h1, fun q2 => absurd q2 q, fun _ => h4⟩⟩
theorem xif_st {c : ClassFile.Cond} {pc : Nat} {off : Int} {kk : Nat → List XV → Prop} (h : xif c pc off st kk) : ∃ q r, kk q r ∧ ∀ k2 : Nat → List XV → Prop, k2 q r → xif c pc off st k2 := by
  unfold xif at h ⊢
  split at h
  · obtain ⟨q, h1, h2⟩ := xbr_st h
    exact ⟨q, _, h1, fun k2 h3 => h2 (fun q => k2 q _) h3⟩
  · exact h.elim
theorem xic_st {c : ClassFile.Cond} {pc : Nat} {off : Int} {kk : Nat → List XV → Prop} (h : xic c pc off st kk) : ∃ q r, kk q r ∧ ∀ k2 : Nat → List XV → Prop, k2 q r → xic c pc off st k2 := by
  unfold xic at h ⊢
  split at h
  · obtain ⟨q, h1, h2⟩ := xbr_st h
    exact ⟨q, _, h1, fun k2 h3 => h2 (fun q => k2 q _) h3⟩
  · exact h.elim
theorem xifn_st {pc : Nat} {off : Int} {kk : Nat → List XV → Prop} (h : xifn pc off st kk) : ∃ q r, kk q r ∧ ∀ k2 : Nat → List XV → Prop, k2 q r → xifn pc off st k2 := by
  unfold xifn at h ⊢
  split at h
  · obtain ⟨q, h1, h2⟩ := h
    exact ⟨q, _, h2, fun k2 h3 => ⟨q, h1, h3⟩⟩
  · exact ⟨_, _, h, fun k2 h3 => h3⟩
  · exact h.elim
theorem xsw_st {pc : Nat} {df lo hi : Int} {offs : Array Int} {kk : Nat → List XV → Prop} (h : xsw pc df lo hi offs st kk) : ∃ q r, kk q r ∧ ∀ k2 : Nat → List XV → Prop, k2 q r → xsw pc df lo hi offs st k2 := by
  unfold xsw at h ⊢
  split at h
  · obtain ⟨q, h1, h2, h3⟩ := h
    exact ⟨q, _, h3, fun k2 h4 => ⟨q, h1, h2, h4⟩⟩
  · exact h.elim
theorem xist_st {j : Nat} {kk : XLc → List XV → Prop} (h : xist loc j st kk) : ∃ q r, kk q r ∧ ∀ k2 : XLc → List XV → Prop, k2 q r → xist loc j st k2 := by
  unfold xist at h ⊢
  split at h
  · exact ⟨_, _, h.2, fun k2 h4 => ⟨h.1, h4⟩⟩
  · exact h.elim
theorem xast_st {j : Nat} {kk : XLc → List XV → Prop} (h : xast loc j st kk) : ∃ q r, kk q r ∧ ∀ k2 : XLc → List XV → Prop, k2 q r → xast loc j st k2 := by
  unfold xast at h ⊢
  split at h
  · exact ⟨_, _, h.2, fun k2 h4 => ⟨h.1, h4⟩⟩
  · exact h.elim
theorem xgf_st {i idx : Nat} {kk : List XV → Prop} (h : xgf i idx st m kk) : ∃ r, kk r ∧ ∀ k2 : List XV → Prop, k2 r → xgf i idx st m k2 := by
  unfold xgf at h ⊢
  split at h
  · obtain ⟨q, N, h1, h2, h3, h4⟩ := h
    exact ⟨_, h4, fun k2 h5 => ⟨q, N, h1, h2, h3, h5⟩⟩
  · exact h.elim
theorem xpf_st {i idx : Nat} {kk : List XV → XM → Prop} (h : xpf i idx st m kk) : ∃ r m2, kk r m2 ∧ ∀ k2 : List XV → XM → Prop, k2 r m2 → xpf i idx st m k2 := by
  unfold xpf at h ⊢
  split at h
  · obtain ⟨q, N, h1, h2, h3, h4, h5, h6, h7⟩ := h
    exact ⟨_, _, h7, fun k2 h8 => ⟨q, N, h1, h2, h3, h4, h5, h6, h8⟩⟩
  · obtain ⟨q, N, h1, h2, h3, h4, h5, h6, h7⟩ := h
    exact ⟨_, _, h7, fun k2 h8 => ⟨q, N, h1, h2, h3, h4, h5, h6, h8⟩⟩
  · exact h.elim
theorem xial_st {kk : List XV → Prop} (h : xial st m kk) : ∃ r, kk r ∧ ∀ k2 : List XV → Prop, k2 r → xial st m k2 := by
  unfold xial at h ⊢
  split at h
  · obtain ⟨n, h1, h2, h3, h4⟩ := h
    exact ⟨_, h4, fun k2 h5 => ⟨n, h1, h2, h3, h5⟩⟩
  · exact h.elim
theorem xbal_st {kk : List XV → Prop} (h : xbal st m kk) : ∃ r, kk r ∧ ∀ k2 : List XV → Prop, k2 r → xbal st m k2 := by
  unfold xbal at h ⊢
  split at h
  · obtain ⟨n, h1, h2, h3, h4⟩ := h
    exact ⟨_, h4, fun k2 h5 => ⟨n, h1, h2, h3, h5⟩⟩
  · exact h.elim
theorem xaal_st {kk : List XV → Prop} (h : xaal st m kk) : ∃ r, kk r ∧ ∀ k2 : List XV → Prop, k2 r → xaal st m k2 := by
  unfold xaal at h ⊢
  split at h
  · obtain ⟨n, h1, h2, h3, h4⟩ := h
    exact ⟨_, h4, fun k2 h5 => ⟨n, h1, h2, h3, h5⟩⟩
  · exact h.elim
theorem xalen_st {kk : List XV → Prop} (h : xalen st m kk) : ∃ r, kk r ∧ ∀ k2 : List XV → Prop, k2 r → xalen st m k2 := by
  unfold xalen at h ⊢
  split at h
  · obtain ⟨n, h1, h2, h3⟩ := h
    exact ⟨_, h3, fun k2 h5 => ⟨n, h1, h2, h5⟩⟩
  · exact h.elim
theorem xias_st {kk : List XV → XM → Prop} (h : xias st m kk) : ∃ r m2, kk r m2 ∧ ∀ k2 : List XV → XM → Prop, k2 r m2 → xias st m k2 := by
  unfold xias at h ⊢
  split at h
  · obtain ⟨n, h1, h2, h3, h4⟩ := h
    exact ⟨_, _, h4, fun k2 h5 => ⟨n, h1, h2, h3, h5⟩⟩
  · exact h.elim
theorem xaas_st {kk : List XV → XM → Prop} (h : xaas st m kk) : ∃ r m2, kk r m2 ∧ ∀ k2 : List XV → XM → Prop, k2 r m2 → xaas st m k2 := by
  unfold xaas at h ⊢
  split at h
  · obtain ⟨n, N, h1, h2, h3, h4, h5⟩ := h
    exact ⟨_, _, h5, fun k2 h6 => ⟨n, N, h1, h2, h3, h4, h6⟩⟩
  · exact h.elim
theorem xnewa_st {kk : List XV → XM → Prop} (h : xnewa st m kk) : ∃ r m2, kk r m2 ∧ ∀ k2 : List XV → XM → Prop, k2 r m2 → xnewa st m k2 := by
  unfold xnewa at h ⊢
  split at h
  · exact ⟨_, _, h.2.2, fun k2 h6 => ⟨h.1, h.2.1, h6⟩⟩
  · exact h.elim
theorem xnewq_st {i idx : Nat} {kk : List XV → XM → Prop} (h : xnewq i idx st m kk) : ∃ r m2, kk r m2 ∧ ∀ k2 : List XV → XM → Prop, k2 r m2 → xnewq i idx st m k2 := by
  unfold xnewq at h ⊢
  split at h
  · exact ⟨_, _, h.2.2.2, fun k2 h6 => ⟨h.1, h.2.1, h.2.2.1, h6⟩⟩
  · exact h.elim
theorem xinvV_st {C : XCal} {i idx : Nat} {kk : List XV → XM → Prop} (h : xinvV C i idx st m kk) : ∃ r m2, kk r m2 ∧ ∀ (C2 : XCal) (k2 : List XV → XM → Prop), (∀ j a m r m2, C j a m r m2 → C2 j a m r m2) → k2 r m2 → xinvV C2 i idx st m k2 := by
  obtain ⟨q, As, a, rest, r, m2, N, h1, h2, h3, h4, h5, h6, h7, h8⟩ := h
  exact ⟨_, _, h8, fun C2 k2 hC h9 => ⟨q, As, a, rest, r, m2, N, h1, h2, h3, h4, h5, h6, hC _ _ _ _ _ h7, h9⟩⟩
theorem xinvI_st {C : XCal} {i idx : Nat} {kk : List XV → XM → Prop} (h : xinvI C i idx st m kk) : ∃ r m2, kk r m2 ∧ ∀ (C2 : XCal) (k2 : List XV → XM → Prop), (∀ j a m r m2, C j a m r m2 → C2 j a m r m2) → k2 r m2 → xinvI C2 i idx st m k2 := by
  rcases h with ⟨q, As, a, rest, m2, h1, h2, h3, h4, h5, h6, h7⟩ | ⟨q, a, rest, h1, h2, h3, h4, h5⟩
  · exact ⟨_, _, h7, fun C2 k2 hC h9 => Or.inl ⟨q, As, a, rest, m2, h1, h2, h3, h4, h5, hC _ _ _ _ _ h6, h9⟩⟩
  · exact ⟨_, _, h5, fun C2 k2 hC h9 => Or.inr ⟨q, a, rest, h1, h2, h3, h4, h9⟩⟩
theorem xinvS_st {C : XCal} {i idx : Nat} {kk : List XV → XM → Prop} (h : xinvS C i idx st m kk) : ∃ r m2, kk r m2 ∧ ∀ (C2 : XCal) (k2 : List XV → XM → Prop), (∀ j a m r m2, C j a m r m2 → C2 j a m r m2) → k2 r m2 → xinvS C2 i idx st m k2 := by
  rcases h with ⟨q, As, rest, r, m2, h1, h2, h3, h4, h5, h6, h7⟩ | ⟨q, n, dp, b, sp, a, rest, na, nb, h1, h2, h3, h4, h5, h6, h7, h8, h9, h10, h11, h12⟩ | ⟨q, n, j, rest, h1, h2, h3, h4, h5, h6, h7⟩ | ⟨q, a, b, rest, h1, h2, h3, h4, h5⟩ | ⟨q, a, b, rest, h1, h2, h3, h4, h5⟩
  · exact ⟨_, _, h7, fun C2 k2 hC hk => Or.inl ⟨q, As, rest, r, m2, h1, h2, h3, h4, h5, hC _ _ _ _ _ h6, hk⟩⟩
  · exact ⟨_, _, h12, fun C2 k2 hC hk => Or.inr (Or.inl ⟨q, n, dp, b, sp, a, rest, na, nb, h1, h2, h3, h4, h5, h6, h7, h8, h9, h10, h11, hk⟩)⟩
  · exact ⟨_, _, h7, fun C2 k2 hC hk => Or.inr (Or.inr (Or.inl ⟨q, n, j, rest, h1, h2, h3, h4, h5, h6, hk⟩))⟩
  · exact ⟨_, _, h5, fun C2 k2 hC hk => Or.inr (Or.inr (Or.inr (Or.inl ⟨q, a, b, rest, h1, h2, h3, h4, hk⟩)))⟩
  · exact ⟨_, _, h5, fun C2 k2 hC hk => Or.inr (Or.inr (Or.inr (Or.inr ⟨q, a, b, rest, h1, h2, h3, h4, hk⟩)))⟩
theorem xiret_st {i : Nat} {Q : XQ} (h : xiret i st m Q) : ∃ r m2, Q r m2 ∧ ∀ Q2 : XQ, Q2 r m2 → xiret i st m Q2 := by
  unfold xiret at h ⊢
  split at h
  · exact ⟨_, _, h.2, fun k2 h6 => ⟨h.1, h6⟩⟩
  · exact h.elim
theorem xaret_st {i : Nat} {Q : XQ} (h : xaret i st m Q) : ∃ r m2, Q r m2 ∧ ∀ Q2 : XQ, Q2 r m2 → xaret i st m Q2 := by
  unfold xaret at h ⊢
  split at h
  · exact ⟨_, _, h.2, fun k2 h6 => ⟨h.1, h6⟩⟩
  · exact h.elim
end XSt
set_option maxHeartbeats 4000000 in
theorem xsem_st {C : XCal} {i : Nat} {Q : XQ} {k : Nat → XLc → List XV → XM → Prop} {pc : Nat} {loc : XLc} {st : List XV} {m : XM} (op : Instr) (h : xsem C i Q k pc loc st m op) : (∃ r m2, Q r m2 ∧ ∀ (C2 : XCal) (Q2 : XQ) (k2 : Nat → XLc → List XV → XM → Prop), Q2 r m2 → xsem C2 i Q2 k2 pc loc st m op) ∨ ∃ p2 l2 s2 m2, k p2 l2 s2 m2 ∧ ∀ (C2 : XCal) (Q2 : XQ) (k2 : Nat → XLc → List XV → XM → Prop), (∀ j a m r m2, C j a m r m2 → C2 j a m r m2) → k2 p2 l2 s2 m2 → xsem C2 i Q2 k2 pc loc st m op := by
  cases op
  case aconst_null => exact Or.inr ⟨_, _, _, _, h, fun _ _ _ _ h2 => h2⟩
  case iconst => exact Or.inr ⟨_, _, _, _, h.2, fun _ _ _ _ h2 => ⟨h.1, h2⟩⟩
  case bipush => exact Or.inr ⟨_, _, _, _, h.2, fun _ _ _ _ h2 => ⟨h.1, h2⟩⟩
  case sipush => exact Or.inr ⟨_, _, _, _, h.2, fun _ _ _ _ h2 => ⟨h.1, h2⟩⟩
  case ldc =>
    rcases h with ⟨q, h1, h2⟩ | ⟨q, h1, h2⟩
    · exact Or.inr ⟨_, _, _, _, h2, fun _ _ _ _ h3 => Or.inl ⟨q, h1, h3⟩⟩
    · exact Or.inr ⟨_, _, _, _, h2, fun _ _ _ _ h3 => Or.inr ⟨q, h1, h3⟩⟩
  case ldc_w => obtain ⟨q, h1, h2⟩ := h; exact Or.inr ⟨_, _, _, _, h2, fun _ _ _ _ h3 => ⟨q, h1, h3⟩⟩
  case iload => obtain ⟨q, h1, h2⟩ := h; exact Or.inr ⟨_, _, _, _, h2, fun _ _ _ _ h3 => ⟨q, h1, h3⟩⟩
  case iload_n => obtain ⟨q, h1, h2⟩ := h; exact Or.inr ⟨_, _, _, _, h2, fun _ _ _ _ h3 => ⟨q, h1, h3⟩⟩
  case aload => obtain ⟨q, h1, h2⟩ := h; exact Or.inr ⟨_, _, _, _, h2, fun _ _ _ _ h3 => ⟨q, h1, h3⟩⟩
  case aload_n => obtain ⟨q, h1, h2⟩ := h; exact Or.inr ⟨_, _, _, _, h2, fun _ _ _ _ h3 => ⟨q, h1, h3⟩⟩
  case istore => dsimp only [xsem] at h; obtain ⟨_, _, h1, h2⟩ := xist_st h; exact Or.inr ⟨_, _, _, _, h1, fun _ _ k2 _ h3 => h2 (fun l r => k2 _ l r m) h3⟩
  case istore_n => dsimp only [xsem] at h; obtain ⟨_, _, h1, h2⟩ := xist_st h; exact Or.inr ⟨_, _, _, _, h1, fun _ _ k2 _ h3 => h2 (fun l r => k2 _ l r m) h3⟩
  case astore => dsimp only [xsem] at h; obtain ⟨_, _, h1, h2⟩ := xast_st h; exact Or.inr ⟨_, _, _, _, h1, fun _ _ k2 _ h3 => h2 (fun l r => k2 _ l r m) h3⟩
  case astore_n => dsimp only [xsem] at h; obtain ⟨_, _, h1, h2⟩ := xast_st h; exact Or.inr ⟨_, _, _, _, h1, fun _ _ k2 _ h3 => h2 (fun l r => k2 _ l r m) h3⟩
  case iinc => obtain ⟨q, h1, h2⟩ := h; exact Or.inr ⟨_, _, _, _, h2, fun _ _ _ _ h3 => ⟨q, h1, h3⟩⟩
  case iadd => dsimp only [xsem] at h; obtain ⟨_, h1, h2⟩ := xbin_st h; exact Or.inr ⟨_, _, _, _, h1, fun _ _ k2 _ h3 => h2 (fun r => k2 _ loc r m) h3⟩
  case isub => dsimp only [xsem] at h; obtain ⟨_, h1, h2⟩ := xbin_st h; exact Or.inr ⟨_, _, _, _, h1, fun _ _ k2 _ h3 => h2 (fun r => k2 _ loc r m) h3⟩
  case imul => dsimp only [xsem] at h; obtain ⟨_, h1, h2⟩ := xbin_st h; exact Or.inr ⟨_, _, _, _, h1, fun _ _ k2 _ h3 => h2 (fun r => k2 _ loc r m) h3⟩
  case idiv => dsimp only [xsem] at h; obtain ⟨_, h1, h2⟩ := xbind_st h; exact Or.inr ⟨_, _, _, _, h1, fun _ _ k2 _ h3 => h2 (fun r => k2 _ loc r m) h3⟩
  case irem => dsimp only [xsem] at h; obtain ⟨_, h1, h2⟩ := xbind_st h; exact Or.inr ⟨_, _, _, _, h1, fun _ _ k2 _ h3 => h2 (fun r => k2 _ loc r m) h3⟩
  case iand => dsimp only [xsem] at h; obtain ⟨_, h1, h2⟩ := xbin_st h; exact Or.inr ⟨_, _, _, _, h1, fun _ _ k2 _ h3 => h2 (fun r => k2 _ loc r m) h3⟩
  case ior => dsimp only [xsem] at h; obtain ⟨_, h1, h2⟩ := xbin_st h; exact Or.inr ⟨_, _, _, _, h1, fun _ _ k2 _ h3 => h2 (fun r => k2 _ loc r m) h3⟩
  case ixor => dsimp only [xsem] at h; obtain ⟨_, h1, h2⟩ := xbin_st h; exact Or.inr ⟨_, _, _, _, h1, fun _ _ k2 _ h3 => h2 (fun r => k2 _ loc r m) h3⟩
  case ishl => dsimp only [xsem] at h; obtain ⟨_, h1, h2⟩ := xbin_st h; exact Or.inr ⟨_, _, _, _, h1, fun _ _ k2 _ h3 => h2 (fun r => k2 _ loc r m) h3⟩
  case ishr => dsimp only [xsem] at h; obtain ⟨_, h1, h2⟩ := xbin_st h; exact Or.inr ⟨_, _, _, _, h1, fun _ _ k2 _ h3 => h2 (fun r => k2 _ loc r m) h3⟩
  case iushr => dsimp only [xsem] at h; obtain ⟨_, h1, h2⟩ := xbin_st h; exact Or.inr ⟨_, _, _, _, h1, fun _ _ k2 _ h3 => h2 (fun r => k2 _ loc r m) h3⟩
  case ineg => dsimp only [xsem] at h; obtain ⟨_, h1, h2⟩ := xun_st h; exact Or.inr ⟨_, _, _, _, h1, fun _ _ k2 _ h3 => h2 (fun r => k2 _ loc r m) h3⟩
  case i2c => dsimp only [xsem] at h; obtain ⟨_, h1, h2⟩ := xun_st h; exact Or.inr ⟨_, _, _, _, h1, fun _ _ k2 _ h3 => h2 (fun r => k2 _ loc r m) h3⟩
  case i2b => dsimp only [xsem] at h; obtain ⟨_, h1, h2⟩ := xun_st h; exact Or.inr ⟨_, _, _, _, h1, fun _ _ k2 _ h3 => h2 (fun r => k2 _ loc r m) h3⟩
  case dup => dsimp only [xsem] at h; obtain ⟨_, h1, h2⟩ := xdup_st h; exact Or.inr ⟨_, _, _, _, h1, fun _ _ k2 _ h3 => h2 (fun r => k2 _ loc r m) h3⟩
  case dup2 => dsimp only [xsem] at h; obtain ⟨_, h1, h2⟩ := xdup2_st h; exact Or.inr ⟨_, _, _, _, h1, fun _ _ k2 _ h3 => h2 (fun r => k2 _ loc r m) h3⟩
  case pop => dsimp only [xsem] at h; obtain ⟨_, h1, h2⟩ := xpop_st h; exact Or.inr ⟨_, _, _, _, h1, fun _ _ k2 _ h3 => h2 (fun r => k2 _ loc r m) h3⟩
  case goto => obtain ⟨q, h1, h2⟩ := h; exact Or.inr ⟨_, _, _, _, h2, fun _ _ _ _ h3 => ⟨q, h1, h3⟩⟩
  case ifCond => dsimp only [xsem] at h; obtain ⟨_, _, h1, h2⟩ := xif_st h; exact Or.inr ⟨_, _, _, _, h1, fun _ _ k2 _ h3 => h2 (fun q r => k2 q loc r m) h3⟩
  case if_icmp => dsimp only [xsem] at h; obtain ⟨_, _, h1, h2⟩ := xic_st h; exact Or.inr ⟨_, _, _, _, h1, fun _ _ k2 _ h3 => h2 (fun q r => k2 q loc r m) h3⟩
  case ifnull => dsimp only [xsem] at h; obtain ⟨_, _, h1, h2⟩ := xifn_st h; exact Or.inr ⟨_, _, _, _, h1, fun _ _ k2 _ h3 => h2 (fun q r => k2 q loc r m) h3⟩
  case tableswitch => dsimp only [xsem] at h; obtain ⟨_, _, h1, h2⟩ := xsw_st h; exact Or.inr ⟨_, _, _, _, h1, fun _ _ k2 _ h3 => h2 (fun q r => k2 q loc r m) h3⟩
  case getfield => dsimp only [xsem] at h; obtain ⟨_, h1, h2⟩ := xgf_st h; exact Or.inr ⟨_, _, _, _, h1, fun _ _ k2 _ h3 => h2 (fun r => k2 _ loc r m) h3⟩
  case putfield => dsimp only [xsem] at h; obtain ⟨_, _, h1, h2⟩ := xpf_st h; exact Or.inr ⟨_, _, _, _, h1, fun _ _ k2 _ h3 => h2 (fun r m2 => k2 _ loc r m2) h3⟩
  case getstatic => exact Or.inr ⟨_, _, _, _, h.2.2, fun _ _ _ _ h3 => ⟨h.1, h.2.1, h3⟩⟩
  case iaload => dsimp only [xsem] at h; obtain ⟨_, h1, h2⟩ := xial_st h; exact Or.inr ⟨_, _, _, _, h1, fun _ _ k2 _ h3 => h2 (fun r => k2 _ loc r m) h3⟩
  case baload => dsimp only [xsem] at h; obtain ⟨_, h1, h2⟩ := xbal_st h; exact Or.inr ⟨_, _, _, _, h1, fun _ _ k2 _ h3 => h2 (fun r => k2 _ loc r m) h3⟩
  case aaload => dsimp only [xsem] at h; obtain ⟨_, h1, h2⟩ := xaal_st h; exact Or.inr ⟨_, _, _, _, h1, fun _ _ k2 _ h3 => h2 (fun r => k2 _ loc r m) h3⟩
  case arraylength => dsimp only [xsem] at h; obtain ⟨_, h1, h2⟩ := xalen_st h; exact Or.inr ⟨_, _, _, _, h1, fun _ _ k2 _ h3 => h2 (fun r => k2 _ loc r m) h3⟩
  case iastore => dsimp only [xsem] at h; obtain ⟨_, _, h1, h2⟩ := xias_st h; exact Or.inr ⟨_, _, _, _, h1, fun _ _ k2 _ h3 => h2 (fun r m2 => k2 _ loc r m2) h3⟩
  case aastore => dsimp only [xsem] at h; obtain ⟨_, _, h1, h2⟩ := xaas_st h; exact Or.inr ⟨_, _, _, _, h1, fun _ _ k2 _ h3 => h2 (fun r m2 => k2 _ loc r m2) h3⟩
  case new => obtain ⟨q, h1, h2⟩ := h; exact Or.inr ⟨_, _, _, _, h2, fun _ _ _ _ h3 => ⟨q, h1, h3⟩⟩
  case newarray t =>
    cases t
    case int => dsimp only [xsem] at h; obtain ⟨_, _, h1, h2⟩ := xnewa_st h; exact Or.inr ⟨_, _, _, _, h1, fun _ _ k2 _ h3 => h2 (fun r m2 => k2 _ loc r m2) h3⟩
    all_goals exact False.elim h
  case anewarray => dsimp only [xsem] at h; obtain ⟨_, _, h1, h2⟩ := xnewq_st h; exact Or.inr ⟨_, _, _, _, h1, fun _ _ k2 _ h3 => h2 (fun r m2 => k2 _ loc r m2) h3⟩
  case invokevirtual => dsimp only [xsem] at h; obtain ⟨_, _, h1, h2⟩ := xinvV_st h; exact Or.inr ⟨_, _, _, _, h1, fun C2 _ k2 hC h3 => h2 C2 (fun r m2 => k2 _ loc r m2) hC h3⟩
  case invokespecial => dsimp only [xsem] at h; obtain ⟨_, _, h1, h2⟩ := xinvI_st h; exact Or.inr ⟨_, _, _, _, h1, fun C2 _ k2 hC h3 => h2 C2 (fun r m2 => k2 _ loc r m2) hC h3⟩
  case invokestatic => dsimp only [xsem] at h; obtain ⟨_, _, h1, h2⟩ := xinvS_st h; exact Or.inr ⟨_, _, _, _, h1, fun C2 _ k2 hC h3 => h2 C2 (fun r m2 => k2 _ loc r m2) hC h3⟩
  case ireturn => dsimp only [xsem] at h; obtain ⟨_, _, h1, h2⟩ := xiret_st h; exact Or.inl ⟨_, _, h1, fun _ Q2 _ h3 => h2 Q2 h3⟩
  case areturn => dsimp only [xsem] at h; obtain ⟨_, _, h1, h2⟩ := xaret_st h; exact Or.inl ⟨_, _, h1, fun _ Q2 _ h3 => h2 Q2 h3⟩
  case return_ => exact Or.inl ⟨_, _, h.2.2, fun _ Q2 _ h3 => ⟨h.1, h.2.1, h3⟩⟩
  all_goals exact False.elim h
theorem XW_ex {C : XCal} {i : Nat} {Q : XQ} : ∀ (n pc : Nat) (loc : XLc) (st : List XV) (m : XM), XW C i Q n pc loc st m → ∃ r m2, Q r m2 ∧ ∀ C2 : XCal, (∀ j a m r m2, C j a m r m2 → C2 j a m r m2) → XW C2 i (fun r3 m3 => r3 = r ∧ m3 = m2) n pc loc st m
  | 0, _, _, _, _, h => h.elim
  | n + 1, pc, loc, st, m, h => by
    obtain ⟨op, len, h1, h2⟩ := h
    rcases xsem_st op h2 with ⟨r, m2, h3, h4⟩ | ⟨p2, l2, s2, m2, h3, h4⟩
    · exact ⟨r, m2, h3, fun C2 _ => ⟨op, len, h1, h4 _ _ _ ⟨rfl, rfl⟩⟩⟩
    · obtain ⟨r, m3, h5, h6⟩ := XW_ex n p2 l2 s2 m2 h3
      exact ⟨r, m3, h5, fun C2 hC => ⟨op, len, h1, h4 _ _ _ hC (h6 C2 hC)⟩⟩
theorem XC_s : ∀ (d : Nat) (i : Nat) (a : List XV) (m : XM) (r : Option XV) (m2 : XM), XC d i a m r m2 → XC (d + 1) i a m r m2
  | 0, _, _, _, _, _, h => h.elim
  | d + 1, i, a, m, r, m2, h => by
    obtain ⟨h1, h2, n, h3⟩ := h
    obtain ⟨r3, m3, ⟨rfl, rfl⟩, h5⟩ := XW_ex _ _ _ _ _ h3
    exact ⟨h1, h2, n, h5 _ (XC_s d)⟩
theorem XC_le {d e i : Nat} {a : List XV} {m : XM} {r : Option XV} {m2 : XM} (hde : d ≤ e) (h : XC d i a m r m2) : XC e i a m r m2 := by
  induction hde with
  | refl => exact h
  | step _ ih => exact XC_s _ _ _ _ _ _ ih
theorem XR_of {d i : Nat} {args : List XV} {m : XM} {Q : XQ} (hi : i < 316) (ha : args.length ≤ xml i) {loc : XLc} (hl : xent i args = loc) (h : XX (XC d) i Q 0 loc [] m) : ∃ r m2, XC (d + 1) i args m r m2 ∧ Q r m2 := by
  obtain ⟨n, h⟩ := h
  obtain ⟨r, m2, h1, h2⟩ := XW_ex _ _ _ _ _ h
  exact ⟨r, m2, ⟨hi, ha, n, hl ▸ h2 _ (fun _ _ _ _ _ h => h)⟩, h1⟩
/-- a run that leaves shapes and references as they were -/
def XP (v : Option XV) (S : List (Nat × Nat)) (R : Nat → Nat → Option Nat) (P : (Nat → Nat → Int) → Prop) : XQ := fun r m2 => r = v ∧ ∃ D, m2 = (S, R, D) ∧ P D
theorem XE_of {d i : Nat} {args : List XV} {m : XM} {v : Option XV} {S : List (Nat × Nat)} {R : Nat → Nat → Option Nat} {P : (Nat → Nat → Int) → Prop} (hi : i < 316) (ha : args.length ≤ xml i) {loc : XLc} (hl : xent i args = loc) (h : XX (XC d) i (XP v S R P) 0 loc [] m) : ∃ D, XC (d + 1) i args m v (S, R, D) ∧ P D := by
  obtain ⟨r, m2, h1, rfl, D, rfl, h2⟩ := XR_of hi ha hl h
  exact ⟨D, h1, h2⟩
def bi (p : Prop) [Decidable p] : Int := if p then 1 else 0
theorem bi_t {p : Prop} [Decidable p] (h : p) : bi p = 1 := if_pos h
theorem bi_f {p : Prop} [Decidable p] (h : ¬ p) : bi p = 0 := if_neg h
theorem bi_01 (p : Prop) [Decidable p] : bi p = 0 ∨ bi p = 1 := by
  rcases Classical.em p with h | h
  · exact Or.inr (bi_t h)
  · exact Or.inl (bi_f h)
theorem bi_0 {p : Prop} [Decidable p] : bi p = 0 ↔ ¬ p := by
  rcases Classical.em p with h | h
  · rw [bi_t h]; exact ⟨fun q => by omega, fun q => absurd h q⟩
  · rw [bi_f h]; exact ⟨fun _ => h, fun _ => rfl⟩
theorem bi_n0 {p : Prop} [Decidable p] : ¬ bi p = 0 ↔ p := by rw [bi_0]; exact Classical.not_not
section XXz
variable {C : XCal} {i : Nat} {Q : XQ} {pc q : Nat} {loc : XLc} {st : List XV} {m : XM} {sh : List (Nat × Nat)} {rf : Nat → Nat → Option Nat} {dt : Nat → Nat → Int}
theorem xx_ifb_eq {p : Prop} [Decidable p] {off : Int} {q2 : Nat} (h : xi i pc = some (.ifCond .eq off, 3)) (hq : (pc : Int) + off = (q : Int)) (hq2 : pc + 3 = q2) (kt : ¬ p → XX C i Q q loc st m) (kf : p → XX C i Q q2 loc st m) : XX C i Q pc loc (.inl (bi p) :: st) m := xx_if_eq h hq hq2 (fun e => kt (bi_0.mp e)) (fun e => kf (bi_n0.mp e))
theorem xx_ifb_ne {p : Prop} [Decidable p] {off : Int} {q2 : Nat} (h : xi i pc = some (.ifCond .ne off, 3)) (hq : (pc : Int) + off = (q : Int)) (hq2 : pc + 3 = q2) (kt : p → XX C i Q q loc st m) (kf : ¬ p → XX C i Q q2 loc st m) : XX C i Q pc loc (.inl (bi p) :: st) m := xx_if_ne h hq hq2 (fun e => kt (bi_n0.mp e)) (fun e => kf (bi_0.mp e))
theorem xx_iaz {a N : Nat} {z v : Int} (h : xi i pc = some (.iaload, 1)) (hq : pc + 1 = q) (hs : sh[a]? = some (0, N)) (h0 : 0 ≤ z) (h1 : z < (N : Int)) (hv : dt a z.toNat = v) (k : XX C i Q q loc (.inl v :: st) (sh, rf, dt)) : XX C i Q pc loc (.inl z :: .inr (some a) :: st) (sh, rf, dt) := xx_ial (j := z.toNat) h hq hs (by omega) (by omega) (by rw [hv]; exact k)
theorem xx_saz {a N : Nat} {z v : Int} (h : xi i pc = some (.iaload, 1)) (hq : pc + 1 = q) (hs : sh[a]? = some (20, N)) (h0 : 0 ≤ z) (h1 : z < (N : Int)) (hv : dt a z.toNat = v) (k : XX C i Q q loc (.inl v :: st) (sh, rf, dt)) : XX C i Q pc loc (.inl z :: .inr (some a) :: st) (sh, rf, dt) := xx_sal (j := z.toNat) h hq hs (by omega) (by omega) (by rw [hv]; exact k)
theorem xx_baz {a N : Nat} {z v : Int} (h : xi i pc = some (.baload, 1)) (hq : pc + 1 = q) (hs : sh[a]? = some (22, N)) (h0 : 0 ≤ z) (h1 : z < (N : Int)) (hv : dt a z.toNat = v) (k : XX C i Q q loc (.inl v :: st) (sh, rf, dt)) : XX C i Q pc loc (.inl z :: .inr (some a) :: st) (sh, rf, dt) := xx_bal (j := z.toNat) h hq hs (by omega) (by omega) (by rw [hv]; exact k)
theorem xx_aaz {a N : Nat} {z : Int} {o : Option Nat} (h : xi i pc = some (.aaload, 1)) (hq : pc + 1 = q) (hs : sh[a]? = some (1, N)) (h0 : 0 ≤ z) (h1 : z < (N : Int)) (hv : rf a z.toNat = o) (k : XX C i Q q loc (.inr o :: st) (sh, rf, dt)) : XX C i Q pc loc (.inl z :: .inr (some a) :: st) (sh, rf, dt) := xx_aal (j := z.toNat) h hq hs (by omega) (by omega) hv k
theorem xx_isz {a N : Nat} {z v : Int} {d2 : Nat → Nat → Int} (h : xi i pc = some (.iastore, 1)) (hq : pc + 1 = q) (hs : sh[a]? = some (0, N)) (h0 : 0 ≤ z) (h1 : z < (N : Int)) (hd : xui dt a z.toNat v = d2) (k : XX C i Q q loc st (sh, rf, d2)) : XX C i Q pc loc (.inl v :: .inl z :: .inr (some a) :: st) (sh, rf, dt) := xx_ias (j := z.toNat) h hq hs (by omega) (by omega) (by rw [hd]; exact k)
theorem xx_gez {idx a ci kf pl N : Nat} {v : Int} (h : xi i pc = some (.getfield idx, 3)) (hq : pc + 3 = q) (hl : xlk (xfo (xow i)) idx = some (ci, kf, pl)) (hs : sh[a]? = some (ci + 2, N)) (hk : kf < N) (ht : Nat.beq (xft ci kf) 2 = false) (hv : dt a kf = v) (k : XX C i Q q loc (.inl v :: st) (sh, rf, dt)) : XX C i Q pc loc (.inr (some a) :: st) (sh, rf, dt) := xx_getI h hq hl hs hk ht (by rw [hv]; exact k)
theorem xx_puz {idx a ci kf pl N : Nat} {z : Int} {d2 : Nat → Nat → Int} (h : xi i pc = some (.putfield idx, 3)) (hq : pc + 3 = q) (hl : xlk (xfo (xow i)) idx = some (ci, kf, pl)) (hs : sh[a]? = some (ci + 2, N)) (hk : kf < N) (hc : ci < 13) (hf : xff ci kf = true → xow i = ci ∧ (xpl i).2.2.2.2 = 3) (ht : xft ci kf = 0 ∨ (xft ci kf = 1 ∧ (z = 0 ∨ z = 1))) (hd : xui dt a kf z = d2) (k : XX C i Q q loc st (sh, rf, d2)) : XX C i Q pc loc (.inl z :: .inr (some a) :: st) (sh, rf, dt) := xx_putI h hq hl hs hk hc hf ht (by rw [hd]; exact k)
theorem xx_swK {df lo hi : Int} {offs : Array Int} {len : Nat} {z zl off : Int} (h : xi i pc = some (.tableswitch df lo hi offs, len)) (hz : z = zl) (h1 : ¬ zl < lo) (h2 : ¬ hi < zl) (ho : offs[(zl - lo).toNat]? = some off) (hq : (pc : Int) + off = (q : Int)) (k : XX C i Q q loc st m) : XX C i Q pc loc (.inl z :: st) m := by
  subst hz
  exact xx_swIn h h1 h2 ho hq k
theorem xx_incz {j : Nat} {z x v : Int} {loc2 : XLc} (h : xi i pc = some (.iinc j z, 3)) (hq : pc + 3 = q) (hj : loc[j]? = some (some (.inl x))) (h1 : -2147483648 ≤ x + z) (h2 : x + z < 2147483648) (hv : x + z = v) (hl : loc.set j (some (.inl v)) = loc2) (k : XX C i Q q loc2 st m) : XX C i Q pc loc st m := xx_iinc h hq hj (by rw [nrm_id ⟨h1, h2⟩]; exact hv) hl k
end XXz
