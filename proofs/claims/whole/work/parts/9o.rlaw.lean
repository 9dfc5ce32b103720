/-! A law is read: the reference. -/
theorem Ind.t1 {F : Sg → Sg} (h : Ind F) (t : Tt) (c : List Int) (hc : c.length ≤ 400) : (F (t, c)).1 = (F (t, [])).1 := by rw [h t c hc]
/-- a line fails where its parts fail -/
theorem li_n {h r : Int} {t : Tt} {c : List Int} (hb : ¬ bgP h (kdT t)) : (liF h r (t, c)).1 = wrT 1 t := by
  rw [show liF h r (t, c) = wrS 1 (t, c) from if_pos hb]
  rfl
theorem li_16 {h : Int} {t : Tt} {c : List Int} (hb : bgP h (kdT t)) : (liF h 16 (t, c)).1 = wrT 3 t := by
  rw [show liF h 16 (t, c) = wrS 3 (t, c) from (if_neg (fun q => q hb)).trans (if_neg (by omega))]
  rfl
theorem li_y {h r : Int} {s : Sg} (hb : bgP h (kdS s)) (hr : r < 16) : liF h r s = exS 59 (whF h (vaF h s)) := (if_neg (fun q => q hb)).trans (if_pos hr)
theorem exT_d {t : Tt} {k : Int} (q : t.1 ≠ 0) (hk : k ≠ 258) : exT k t = t := (if_neg (by rw [show kdT t = 258 from if_neg q]; omega)).trans (if_neg q)
theorem wh_d {h : Int} {s : Sg} (q : s.1.1 ≠ 0) : (whF h s).1 = s.1 := by
  rw [show whF h s = wtS (-30) s from if_neg (by rw [kd_d q]; omega)]
  rfl
theorem va_0 {t : Tt} {c : List Int} (hc : c.length < 400) : vaF 0 (t, c) = (stT t, c ++ [if kdT t = 300 then 1 else 0]) := by
  rw [show vaF 0 (t, c) = wtS (if kdT t = 300 then 1 else 0) (stS (t, c)) from if_pos rfl]
  exact wt_l (s := stS (t, c)) hc
theorem va_1 {t : Tt} {c : List Int} : vaF 1 (t, c) = smS 1 (stT t, c) := if_neg (by decide)
theorem wh_1 {h : Int} {t : Tt} {c : List Int} (hk : kdT t = 303) (hc : c.length + (eiG (clF h 8) (stT t, [])).2.length < 400) : whF h (t, c) = ((eiG (clF h 8) (stT t, [])).1, c ++ ((eiG (clF h 8) (stT t, [])).2 ++ [-31])) := by
  rw [show whF h (t, c) = wtS (-31) (eiG (clF h 8) (stS (t, c))) from if_pos hk]
  have e := (I_ei (I_cl h 8)).fit (stT t) c (by omega)
  show wtS (-31) (eiG (clF h 8) (stT t, c)) = _
  rw [e, wt_l (by show (c ++ _).length < 400; rw [List.length_append]; exact hc), List.append_assoc]
theorem wh_1d {h : Int} {t : Tt} {c : List Int} (hk : kdT t = 303) (hc : c.length ≤ 400) : (whF h (t, c)).1 = (eiG (clF h 8) (stT t, [])).1 := by
  rw [show whF h (t, c) = wtS (-31) (eiG (clF h 8) (stS (t, c))) from if_pos hk]
  exact (I_ei (I_cl h 8)).t1 (stT t) c hc
theorem wh_0 {h : Int} {t : Tt} {c : List Int} (hk : ¬ kdT t = 303) (hc : c.length < 400) : whF h (t, c) = (t, c ++ [-30]) := by
  rw [show whF h (t, c) = wtS (-30) (t, c) from if_neg hk]
  exact wt_l hc
theorem lw_s {h : Int} {k : Nat} {r : Int} {s : Sg} (hk : kdS s ≠ 258) : lwL h (k + 1) r s = lwL h k (r + 1) (liF h r s) := if_neg hk
theorem lw_sd {h : Int} {k : Nat} {r : Int} {s : Sg} (hk : kdS s ≠ 258) (hd : (liF h r s).1.1 ≠ 0) : (lwL h (k + 1) r s).2.1 = (liF h r s).1 := by rw [lw_s hk, lwL_d hd]
theorem r_isLineG {n : Nat} {R : Nat → Nat → Option Nat} {D0 D : KK} {bs : List Int} {s : Sg} {o : Int} {P : Option (List Int)} (hR : RF R) (hS : RgO bs D0 s o P D) (hwh : D 479 37 = 0) : XC 1 212 [.inr (some 479)] (xS n, R, D) (some (.inl (bi (bgP 0 (kdS s))))) (xS n, R, D) := by
  obtain ⟨hK, hw, hkd, hl1⟩ := hS.hd
  have w0 := tok_w (kk := 300) (w := 0) hK hw (by decide) (by decide) (by decide +kernel)
  have w1 := tok_w (kk := 301) (w := 1) hK hw (by decide) (by decide) (by decide +kernel)
  have w7 := tok_w (kk := 302) (w := 17) hK hw (by decide) (by decide) (by decide +kernel)
  refine XC_of (Nat.le_of_ble_eq_true rfl) (Nat.le_of_ble_eq_true rfl) (loc := [_]) rfl ?_
  refine xx_aload_n (q := 1) rfl rfl rfl ?_
  refine xx_gez (q := 4) rfl rfl rfl xS_479 (Nat.le_of_ble_eq_true rfl) rfl rfl ?_
  refine xx_iconst (q := 5) rfl rfl (by decide) ?_
  refine xx_icmp_ne (q := 46) (q2 := 8) rfl rfl rfl (fun h5 => ?_) (fun h5 => ?_)
  · refine xx_iconst (q := 47) rfl rfl (by decide) ?_
    exact xx_iret rfl (Or.inl rfl) ⟨congrArg (fun z => some (Sum.inl z)) (bi_f (show ¬ bgP 0 (kdS s) from fun q => by rw [hkd] at q; have q2 : (hdT s.1).1 = 300 ∨ (hdT s.1).1 = 301 := q; rw [← w0, ← w1] at q2; omega)).symm, rfl⟩
  · refine xx_aload_n (q := 9) rfl rfl rfl ?_
    refine xx_gez (q := 12) rfl rfl rfl xS_479 (Nat.le_of_ble_eq_true rfl) rfl hwh ?_
    refine xx_if_ne (q := 33) (q2 := 15) rfl rfl rfl (fun h12 => (by exfalso; omega)) (fun _ => ?_)
    refine xx_aload_n (q := 16) rfl rfl rfl ?_
    refine xx_gez (q := 19) rfl rfl rfl xS_479 (Nat.le_of_ble_eq_true rfl) rfl rfl ?_
    refine xx_if_eq (q := 42) (q2 := 22) rfl rfl rfl (fun h19 => ?_) (fun h19 => ?_)
    · refine xx_iconst (q := 43) rfl rfl (by decide) ?_
      refine xx_goto (q := 47) rfl rfl ?_
      exact xx_iret rfl (Or.inr rfl) ⟨congrArg (fun z => some (Sum.inl z)) (bi_t (show bgP 0 (kdS s) by rw [hkd]; exact Or.inl (w0.mp ⟨h5, h19⟩))).symm, rfl⟩
    · refine xx_aload_n (q := 23) rfl rfl rfl ?_
      refine xx_gez (q := 26) rfl rfl rfl xS_479 (Nat.le_of_ble_eq_true rfl) rfl rfl ?_
      refine xx_iconst (q := 27) rfl rfl (by decide) ?_
      refine xx_icmp_ne (q := 46) (q2 := 30) rfl rfl rfl (fun h27 => ?_) (fun h27 => ?_)
      · refine xx_iconst (q := 47) rfl rfl (by decide) ?_
        exact xx_iret rfl (Or.inl rfl) ⟨congrArg (fun z => some (Sum.inl z)) (bi_f (show ¬ bgP 0 (kdS s) from fun q => by rw [hkd] at q; have q2 : (hdT s.1).1 = 300 ∨ (hdT s.1).1 = 301 := q; rw [← w0, ← w1] at q2; omega)).symm, rfl⟩
      · refine xx_goto (q := 42) rfl rfl ?_
        refine xx_iconst (q := 43) rfl rfl (by decide) ?_
        refine xx_goto (q := 47) rfl rfl ?_
        exact xx_iret rfl (Or.inr rfl) ⟨congrArg (fun z => some (Sum.inl z)) (bi_t (show bgP 0 (kdS s) by rw [hkd]; exact Or.inr (w1.mp ⟨h5, h27⟩))).symm, rfl⟩
theorem r_isLineH {n : Nat} {R : Nat → Nat → Option Nat} {D0 D : KK} {bs : List Int} {s : Sg} {o : Int} {P : Option (List Int)} (hR : RF R) (hS : RgO bs D0 s o P D) (hwh : D 479 37 = 1) : XC 1 212 [.inr (some 479)] (xS n, R, D) (some (.inl (bi (bgP 1 (kdS s))))) (xS n, R, D) := by
  obtain ⟨hK, hw, hkd, hl1⟩ := hS.hd
  have w0 := tok_w (kk := 300) (w := 0) hK hw (by decide) (by decide) (by decide +kernel)
  have w1 := tok_w (kk := 301) (w := 1) hK hw (by decide) (by decide) (by decide +kernel)
  have w7 := tok_w (kk := 302) (w := 17) hK hw (by decide) (by decide) (by decide +kernel)
  refine XC_of (Nat.le_of_ble_eq_true rfl) (Nat.le_of_ble_eq_true rfl) (loc := [_]) rfl ?_
  refine xx_aload_n (q := 1) rfl rfl rfl ?_
  refine xx_gez (q := 4) rfl rfl rfl xS_479 (Nat.le_of_ble_eq_true rfl) rfl rfl ?_
  refine xx_iconst (q := 5) rfl rfl (by decide) ?_
  refine xx_icmp_ne (q := 46) (q2 := 8) rfl rfl rfl (fun h5 => ?_) (fun h5 => ?_)
  · refine xx_iconst (q := 47) rfl rfl (by decide) ?_
    exact xx_iret rfl (Or.inl rfl) ⟨congrArg (fun z => some (Sum.inl z)) (bi_f (show ¬ bgP 1 (kdS s) from fun q => by rw [hkd] at q; have q2 : (hdT s.1).1 = 302 := q; rw [← w7] at q2; omega)).symm, rfl⟩
  · refine xx_aload_n (q := 9) rfl rfl rfl ?_
    refine xx_gez (q := 12) rfl rfl rfl xS_479 (Nat.le_of_ble_eq_true rfl) rfl hwh ?_
    refine xx_if_ne (q := 33) (q2 := 15) rfl rfl rfl (fun _ => ?_) (fun h12 => (by exfalso; omega))
    refine xx_aload_n (q := 34) rfl rfl rfl ?_
    refine xx_gez (q := 37) rfl rfl rfl xS_479 (Nat.le_of_ble_eq_true rfl) rfl rfl ?_
    refine xx_bipush (q := 39) rfl rfl (by decide) ?_
    refine xx_icmp_ne (q := 46) (q2 := 42) rfl rfl rfl (fun h39 => ?_) (fun h39 => ?_)
    · refine xx_iconst (q := 47) rfl rfl (by decide) ?_
      exact xx_iret rfl (Or.inl rfl) ⟨congrArg (fun z => some (Sum.inl z)) (bi_f (show ¬ bgP 1 (kdS s) from fun q => by rw [hkd] at q; have q2 : (hdT s.1).1 = 302 := q; rw [← w7] at q2; omega)).symm, rfl⟩
    · refine xx_iconst (q := 43) rfl rfl (by decide) ?_
      refine xx_goto (q := 47) rfl rfl ?_
      exact xx_iret rfl (Or.inr rfl) ⟨congrArg (fun z => some (Sum.inl z)) (bi_t (show bgP 1 (kdS s) by rw [hkd]; exact w7.mp ⟨h5, h39⟩)).symm, rfl⟩
