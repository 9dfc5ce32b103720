/-! No method writes into the script. -/
def Kp (m m2 : XM) : Prop := ∀ a N, m.1[a]? = some (20, N) → m2.1[a]? = some (20, N) ∧ ∀ k, m2.2.2 a k = m.2.2 a k
theorem Kp.rf {m : XM} : Kp m m := fun _ _ h => ⟨h, fun _ => rfl⟩
theorem Kp.tr {m m2 m3 : XM} (h : Kp m m2) (g : Kp m2 m3) : Kp m m3 := fun a N q => ⟨(g a N (h a N q).1).1, fun k => ((g a N (h a N q).1).2 k).trans ((h a N q).2 k)⟩
theorem Kp.st {S : List (Nat × Nat)} {R : Nat → Nat → Option Nat} {D : KK} {a kd N j : Nat} {v : Int} (h : S[a]? = some (kd, N)) (hk : kd ≠ 20) : Kp (S, R, D) (S, R, xui D a j v) := fun b M q => ⟨q, fun k => xui_a (fun e => by
  subst e
  have q2 : S[b]? = some (20, M) := q
  rw [h] at q2
  exact hk (Prod.mk.inj (Option.some.inj q2)).1)⟩
theorem Kp.ps {m : XM} {kd n : Nat} : Kp m (xpush m kd n) := fun a N q => by
  have ha : a < m.1.length := by
    rcases Nat.lt_or_ge a m.1.length with r | r
    · exact r
    · rw [List.getElem?_eq_none r] at q; cases q
  refine ⟨?_, fun k => if_neg (by omega)⟩
  show (m.1 ++ [(kd, n)])[a]? = some (20, N)
  rw [List.getElem?_append_left ha]
  exact q
theorem xpf_kp {i idx : Nat} {st : List XV} {m : XM} {kk : List XV → XM → Prop} (h : xpf i idx st m kk) : ∃ r m2, kk r m2 ∧ Kp m m2 := by
  unfold xpf at h
  split at h
  · obtain ⟨q, N, h1, h2, h3, h4, h5, h6, h7⟩ := h
    exact ⟨_, _, h7, Kp.st h2 (by omega)⟩
  · obtain ⟨q, N, h1, h2, h3, h4, h5, h6, h7⟩ := h
    exact ⟨_, _, h7, fun _ _ q => ⟨q, fun _ => rfl⟩⟩
  · exact h.elim
theorem xias_kp {st : List XV} {m : XM} {kk : List XV → XM → Prop} (h : xias st m kk) : ∃ r m2, kk r m2 ∧ Kp m m2 := by
  unfold xias at h
  split at h
  · obtain ⟨N, h1, h2, h3, h4⟩ := h
    exact ⟨_, _, h4, Kp.st h1 (by decide)⟩
  · exact h.elim
theorem xaas_kp {st : List XV} {m : XM} {kk : List XV → XM → Prop} (h : xaas st m kk) : ∃ r m2, kk r m2 ∧ Kp m m2 := by
  unfold xaas at h
  split at h
  · obtain ⟨N, M, h1, h2, h3, h4, h5⟩ := h
    exact ⟨_, _, h5, fun _ _ q => ⟨q, fun _ => rfl⟩⟩
  · exact h.elim
theorem xnewa_kp {st : List XV} {m : XM} {kk : List XV → XM → Prop} (h : xnewa st m kk) : ∃ r m2, kk r m2 ∧ Kp m m2 := by
  unfold xnewa at h
  split at h
  · exact ⟨_, _, h.2.2, Kp.ps⟩
  · exact h.elim
theorem xnewq_kp {i idx : Nat} {st : List XV} {m : XM} {kk : List XV → XM → Prop} (h : xnewq i idx st m kk) : ∃ r m2, kk r m2 ∧ Kp m m2 := by
  unfold xnewq at h
  split at h
  · exact ⟨_, _, h.2.2.2, Kp.ps⟩
  · exact h.elim
theorem xinvV_kp {C : XCal} (hC : ∀ j a m r m2, C j a m r m2 → Kp m m2) {i idx : Nat} {st : List XV} {m : XM} {kk : List XV → XM → Prop} (h : xinvV C i idx st m kk) : ∃ r m2, kk r m2 ∧ Kp m m2 := by
  obtain ⟨q, As, a, rest, r, m', N, h1, h2, h3, h4, h5, h6, h7, h8⟩ := h
  exact ⟨_, _, h8, hC _ _ _ _ _ h7⟩
theorem xinvI_kp {C : XCal} (hC : ∀ j a m r m2, C j a m r m2 → Kp m m2) {i idx : Nat} {st : List XV} {m : XM} {kk : List XV → XM → Prop} (h : xinvI C i idx st m kk) : ∃ r m2, kk r m2 ∧ Kp m m2 := by
  rcases h with ⟨q, As, a, rest, m', h1, h2, h3, h4, h5, h7, h8⟩ | ⟨q, a, rest, h1, h2, h3, h4, h5⟩
  · exact ⟨_, _, h8, hC _ _ _ _ _ h7⟩
  · exact ⟨_, _, h5, Kp.rf⟩
theorem xinvS_kp {C : XCal} (hC : ∀ j a m r m2, C j a m r m2 → Kp m m2) {i idx : Nat} {st : List XV} {m : XM} {kk : List XV → XM → Prop} (h : xinvS C i idx st m kk) : ∃ r m2, kk r m2 ∧ Kp m m2 := by
  rcases h with ⟨q, As, rest, r, m', h1, h2, h3, h4, h5, h7, h8⟩ | ⟨q, n, dp, b, sp, a, rest, na, nb, h1, h2, h3, h4, h5, h6, h7, h8, h9, h10, h11, h12⟩ | ⟨q, n, j, rest, h1, h2, h3, h4, h5, h6, h7⟩ | ⟨q, a, b, rest, h1, h2, h3, h4, h5⟩ | ⟨q, a, b, rest, h1, h2, h3, h4, h5⟩
  · exact ⟨_, _, h8, hC _ _ _ _ _ h7⟩
  · refine ⟨_, _, h12, fun c N r => ⟨r, fun k => ?_⟩⟩
    refine if_neg (fun e => ?_)
    have e2 : c = b := e.1
    subst e2
    rw [h5] at r
    have := (Prod.mk.inj (Option.some.inj r)).1
    omega
  · exact ⟨_, _, h7, Kp.rf⟩
  · exact ⟨_, _, h5, Kp.rf⟩
  · exact ⟨_, _, h5, Kp.rf⟩
theorem xsem_kp {C : XCal} (hC : ∀ j a m r m2, C j a m r m2 → Kp m m2) {i : Nat} {Q : XQ} {k : Nat → XLc → List XV → XM → Prop} {pc : Nat} {loc : XLc} {st : List XV} {m : XM} (op : Instr) (h : xsem C i Q k pc loc st m op) : (∃ r m2, Q r m2 ∧ Kp m m2) ∨ ∃ p l s m2, k p l s m2 ∧ Kp m m2 := by
  cases op
  case aconst_null => exact Or.inr ⟨_, _, _, _, h, Kp.rf⟩
  case iconst => exact Or.inr ⟨_, _, _, _, h.2, Kp.rf⟩
  case bipush => exact Or.inr ⟨_, _, _, _, h.2, Kp.rf⟩
  case sipush => exact Or.inr ⟨_, _, _, _, h.2, Kp.rf⟩
  case ldc =>
    rcases h with ⟨q, h1, h2⟩ | ⟨q, h1, h2⟩
    · exact Or.inr ⟨_, _, _, _, h2, Kp.rf⟩
    · exact Or.inr ⟨_, _, _, _, h2, Kp.rf⟩
  case ldc_w => obtain ⟨q, h1, h2⟩ := h; exact Or.inr ⟨_, _, _, _, h2, Kp.rf⟩
  case iload => obtain ⟨q, h1, h2⟩ := h; exact Or.inr ⟨_, _, _, _, h2, Kp.rf⟩
  case iload_n => obtain ⟨q, h1, h2⟩ := h; exact Or.inr ⟨_, _, _, _, h2, Kp.rf⟩
  case aload => obtain ⟨q, h1, h2⟩ := h; exact Or.inr ⟨_, _, _, _, h2, Kp.rf⟩
  case aload_n => obtain ⟨q, h1, h2⟩ := h; exact Or.inr ⟨_, _, _, _, h2, Kp.rf⟩
  case istore => dsimp only [xsem] at h; obtain ⟨_, _, h1, h2⟩ := xist_st h; exact Or.inr ⟨_, _, _, _, h1, Kp.rf⟩
  case istore_n => dsimp only [xsem] at h; obtain ⟨_, _, h1, h2⟩ := xist_st h; exact Or.inr ⟨_, _, _, _, h1, Kp.rf⟩
  case astore => dsimp only [xsem] at h; obtain ⟨_, _, h1, h2⟩ := xast_st h; exact Or.inr ⟨_, _, _, _, h1, Kp.rf⟩
  case astore_n => dsimp only [xsem] at h; obtain ⟨_, _, h1, h2⟩ := xast_st h; exact Or.inr ⟨_, _, _, _, h1, Kp.rf⟩
  case iinc => obtain ⟨q, h1, h2⟩ := h; exact Or.inr ⟨_, _, _, _, h2, Kp.rf⟩
  case iadd => dsimp only [xsem] at h; obtain ⟨_, h1, h2⟩ := xbin_st h; exact Or.inr ⟨_, _, _, _, h1, Kp.rf⟩
  case isub => dsimp only [xsem] at h; obtain ⟨_, h1, h2⟩ := xbin_st h; exact Or.inr ⟨_, _, _, _, h1, Kp.rf⟩
  case imul => dsimp only [xsem] at h; obtain ⟨_, h1, h2⟩ := xbin_st h; exact Or.inr ⟨_, _, _, _, h1, Kp.rf⟩
  case idiv => dsimp only [xsem] at h; obtain ⟨_, h1, h2⟩ := xbind_st h; exact Or.inr ⟨_, _, _, _, h1, Kp.rf⟩
  case irem => dsimp only [xsem] at h; obtain ⟨_, h1, h2⟩ := xbind_st h; exact Or.inr ⟨_, _, _, _, h1, Kp.rf⟩
  case iand => dsimp only [xsem] at h; obtain ⟨_, h1, h2⟩ := xbin_st h; exact Or.inr ⟨_, _, _, _, h1, Kp.rf⟩
  case ior => dsimp only [xsem] at h; obtain ⟨_, h1, h2⟩ := xbin_st h; exact Or.inr ⟨_, _, _, _, h1, Kp.rf⟩
  case ixor => dsimp only [xsem] at h; obtain ⟨_, h1, h2⟩ := xbin_st h; exact Or.inr ⟨_, _, _, _, h1, Kp.rf⟩
  case ishl => dsimp only [xsem] at h; obtain ⟨_, h1, h2⟩ := xbin_st h; exact Or.inr ⟨_, _, _, _, h1, Kp.rf⟩
  case ishr => dsimp only [xsem] at h; obtain ⟨_, h1, h2⟩ := xbin_st h; exact Or.inr ⟨_, _, _, _, h1, Kp.rf⟩
  case iushr => dsimp only [xsem] at h; obtain ⟨_, h1, h2⟩ := xbin_st h; exact Or.inr ⟨_, _, _, _, h1, Kp.rf⟩
  case ineg => dsimp only [xsem] at h; obtain ⟨_, h1, h2⟩ := xun_st h; exact Or.inr ⟨_, _, _, _, h1, Kp.rf⟩
  case i2c => dsimp only [xsem] at h; obtain ⟨_, h1, h2⟩ := xun_st h; exact Or.inr ⟨_, _, _, _, h1, Kp.rf⟩
  case i2b => dsimp only [xsem] at h; obtain ⟨_, h1, h2⟩ := xun_st h; exact Or.inr ⟨_, _, _, _, h1, Kp.rf⟩
  case dup => dsimp only [xsem] at h; obtain ⟨_, h1, h2⟩ := xdup_st h; exact Or.inr ⟨_, _, _, _, h1, Kp.rf⟩
  case dup2 => dsimp only [xsem] at h; obtain ⟨_, h1, h2⟩ := xdup2_st h; exact Or.inr ⟨_, _, _, _, h1, Kp.rf⟩
  case pop => dsimp only [xsem] at h; obtain ⟨_, h1, h2⟩ := xpop_st h; exact Or.inr ⟨_, _, _, _, h1, Kp.rf⟩
  case goto => obtain ⟨q, h1, h2⟩ := h; exact Or.inr ⟨_, _, _, _, h2, Kp.rf⟩
  case ifCond => dsimp only [xsem] at h; obtain ⟨_, _, h1, h2⟩ := xif_st h; exact Or.inr ⟨_, _, _, _, h1, Kp.rf⟩
  case if_icmp => dsimp only [xsem] at h; obtain ⟨_, _, h1, h2⟩ := xic_st h; exact Or.inr ⟨_, _, _, _, h1, Kp.rf⟩
  case ifnull => dsimp only [xsem] at h; obtain ⟨_, _, h1, h2⟩ := xifn_st h; exact Or.inr ⟨_, _, _, _, h1, Kp.rf⟩
  case tableswitch => dsimp only [xsem] at h; obtain ⟨_, _, h1, h2⟩ := xsw_st h; exact Or.inr ⟨_, _, _, _, h1, Kp.rf⟩
  case getfield => dsimp only [xsem] at h; obtain ⟨_, h1, h2⟩ := xgf_st h; exact Or.inr ⟨_, _, _, _, h1, Kp.rf⟩
  case putfield => dsimp only [xsem] at h; obtain ⟨_, _, h1, h2⟩ := xpf_kp h; exact Or.inr ⟨_, _, _, _, h1, h2⟩
  case getstatic => exact Or.inr ⟨_, _, _, _, h.2.2, Kp.rf⟩
  case iaload => dsimp only [xsem] at h; obtain ⟨_, h1, h2⟩ := xial_st h; exact Or.inr ⟨_, _, _, _, h1, Kp.rf⟩
  case baload => dsimp only [xsem] at h; obtain ⟨_, h1, h2⟩ := xbal_st h; exact Or.inr ⟨_, _, _, _, h1, Kp.rf⟩
  case aaload => dsimp only [xsem] at h; obtain ⟨_, h1, h2⟩ := xaal_st h; exact Or.inr ⟨_, _, _, _, h1, Kp.rf⟩
  case arraylength => dsimp only [xsem] at h; obtain ⟨_, h1, h2⟩ := xalen_st h; exact Or.inr ⟨_, _, _, _, h1, Kp.rf⟩
  case iastore => dsimp only [xsem] at h; obtain ⟨_, _, h1, h2⟩ := xias_kp h; exact Or.inr ⟨_, _, _, _, h1, h2⟩
  case aastore => dsimp only [xsem] at h; obtain ⟨_, _, h1, h2⟩ := xaas_kp h; exact Or.inr ⟨_, _, _, _, h1, h2⟩
  case new => obtain ⟨q, h1, h2⟩ := h; exact Or.inr ⟨_, _, _, _, h2, Kp.ps⟩
  case newarray t =>
    cases t
    case int => dsimp only [xsem] at h; obtain ⟨_, _, h1, h2⟩ := xnewa_kp h; exact Or.inr ⟨_, _, _, _, h1, h2⟩
    all_goals exact False.elim h
  case anewarray => dsimp only [xsem] at h; obtain ⟨_, _, h1, h2⟩ := xnewq_kp h; exact Or.inr ⟨_, _, _, _, h1, h2⟩
  case invokevirtual => dsimp only [xsem] at h; obtain ⟨_, _, h1, h2⟩ := xinvV_kp hC h; exact Or.inr ⟨_, _, _, _, h1, h2⟩
  case invokespecial => dsimp only [xsem] at h; obtain ⟨_, _, h1, h2⟩ := xinvI_kp hC h; exact Or.inr ⟨_, _, _, _, h1, h2⟩
  case invokestatic => dsimp only [xsem] at h; obtain ⟨_, _, h1, h2⟩ := xinvS_kp hC h; exact Or.inr ⟨_, _, _, _, h1, h2⟩
  case ireturn =>
    dsimp only [xsem] at h
    unfold xiret at h
    split at h
    · exact Or.inl ⟨_, _, h.2, Kp.rf⟩
    · exact h.elim
  case areturn =>
    dsimp only [xsem] at h
    unfold xaret at h
    split at h
    · exact Or.inl ⟨_, _, h.2, Kp.rf⟩
    · exact h.elim
  case return_ => exact Or.inl ⟨_, _, h.2.2, Kp.rf⟩
  all_goals exact False.elim h
theorem XW_kp {C : XCal} (hC : ∀ j a m r m2, C j a m r m2 → Kp m m2) {i : Nat} {Q : XQ} : ∀ (n pc : Nat) (loc : XLc) (st : List XV) (m : XM), XW C i Q n pc loc st m → ∃ r m2, Q r m2 ∧ Kp m m2
  | 0, _, _, _, _, h => h.elim
  | n + 1, pc, loc, st, m, h => by
    obtain ⟨op, len, h1, h2⟩ := h
    rcases xsem_kp hC op h2 with h3 | ⟨p2, l2, s2, m2, h3, h4⟩
    · exact h3
    · obtain ⟨r, m3, h5, h6⟩ := XW_kp hC n p2 l2 s2 m2 h3
      exact ⟨r, m3, h5, h4.tr h6⟩
theorem XC_kp : ∀ (d : Nat) (i : Nat) (a : List XV) (m : XM) (r : Option XV) (m2 : XM), XC d i a m r m2 → Kp m m2
  | 0, _, _, _, _, _, h => h.elim
  | d + 1, i, a, m, r, m2, h => by
    obtain ⟨h1, h2, n, h3⟩ := h
    obtain ⟨r3, m3, ⟨rfl, rfl⟩, h5⟩ := XW_kp (XC_kp d) _ _ _ _ _ h3
    exact h5
theorem XC_scr {d i n : Nat} {a : List XV} {R R2 : Nat → Nat → Option Nat} {D D2 : KK} {r : Option XV} (h : XC d i a (xS n, R, D) r (xS n, R2, D2)) : ∀ k, D2 0 k = D 0 k := ((XC_kp _ _ _ _ _ _ h) 0 n xS_0).2
theorem xand_63 (a : Int) : 0 ≤ xand a 63 ∧ xand a 63 ≤ 63 := by
  unfold xand
  have e : (Int32.ofInt a &&& Int32.ofInt 63).toInt = ((Int32.ofInt a).toBitVec &&& 63#32).toInt := rfl
  have h1 : ((Int32.ofInt a).toBitVec &&& 63#32).toNat ≤ 63 := by
    rw [BitVec.toNat_and]
    exact Nat.and_le_right
  rw [e, BitVec.toInt_eq_toNat_of_lt (by omega)]
  omega
theorem b_ord {n : Nat} {R : Nat → Nat → Option Nat} {D : KK} {W : Wld} (h : JWd W R D) (s up w : Int) (hs : xok s) : Both 14 11 144 286 n R D [.inl s, .inl up, .inl w] := b_order h s up w hs (fun _ q => by
  have h1 := (xand_63 (bc5 (bc4 (bc3 (bc2 (bc1 s)))))).1
  have h2 : 0 ≤ bcF s := h1
  rw [nrm_id (show xok (9 + bcF s) from ⟨by omega, by omega⟩)]
  omega)
