theorem xln_ok {i : Nat} (hi : i < 317) {pc : Nat} {r : Instr × Nat} (h : xi i pc = some r) : xln r = true := by
  have hp := (xP_all317 i hi).2 pc r h
  have key : ∀ a n, (List.range' a n).all xlnA = true → a ≤ i → i < a + n → xln r = true := by
    intro a n hA h1 h2
    have h3 := List.all_eq_true.mp hA i (List.mem_range'_1.mpr ⟨h1, h2⟩)
    have h4 := List.all_eq_true.mp h3 pc (List.mem_range.mpr hp)
    rw [h] at h4
    exact h4
  rcases Nat.lt_or_ge i 40 with q | q
  · exact key _ _ xlnA_0 (by omega) (by omega)
  rcases Nat.lt_or_ge i 80 with q | q
  · exact key _ _ xlnA_40 (by omega) (by omega)
  rcases Nat.lt_or_ge i 120 with q | q
  · exact key _ _ xlnA_80 (by omega) (by omega)
  rcases Nat.lt_or_ge i 160 with q | q
  · exact key _ _ xlnA_120 (by omega) (by omega)
  rcases Nat.lt_or_ge i 200 with q | q
  · exact key _ _ xlnA_160 (by omega) (by omega)
  rcases Nat.lt_or_ge i 240 with q | q
  · exact key _ _ xlnA_200 (by omega) (by omega)
  rcases Nat.lt_or_ge i 280 with q | q
  · exact key _ _ xlnA_240 (by omega) (by omega)
  · exact key _ _ xlnA_280 (by omega) (by omega)
theorem xY_ok {i : Nat} (hi : i < 317) : xokY i = true := by
  have key : ∀ a n, (List.range' a n).all xokY = true → a ≤ i → i < a + n → xokY i = true := fun a n hA h1 h2 => List.all_eq_true.mp hA i (List.mem_range'_1.mpr ⟨h1, h2⟩)
  rcases Nat.lt_or_ge i 40 with q | q
  · exact key _ _ xokY_0 (by omega) (by omega)
  rcases Nat.lt_or_ge i 80 with q | q
  · exact key _ _ xokY_40 (by omega) (by omega)
  rcases Nat.lt_or_ge i 120 with q | q
  · exact key _ _ xokY_80 (by omega) (by omega)
  rcases Nat.lt_or_ge i 160 with q | q
  · exact key _ _ xokY_120 (by omega) (by omega)
  rcases Nat.lt_or_ge i 200 with q | q
  · exact key _ _ xokY_160 (by omega) (by omega)
  rcases Nat.lt_or_ge i 240 with q | q
  · exact key _ _ xokY_200 (by omega) (by omega)
  rcases Nat.lt_or_ge i 280 with q | q
  · exact key _ _ xokY_240 (by omega) (by omega)
  · exact key _ _ xokY_280 (by omega) (by omega)
theorem xow_lt : ∀ i, xow i < 19 := by
  intro i
  unfold xow
  simp only [Bool.cond_eq_ite]
  repeat' split
  all_goals decide
theorem xokS_c {v : XV} {st : List XV} (h : xokS (v :: st)) : xokV v ∧ xokS st := ⟨h v List.mem_cons_self, fun w hw => h w (List.mem_cons_of_mem _ hw)⟩
theorem xokS_p {v : XV} {st : List XV} (hv : xokV v) (h : xokS st) : xokS (v :: st) := by
  intro w hw
  rcases List.mem_cons.mp hw with rfl | hw
  · exact hv
  · exact h w hw
theorem xcd_dec (c : ClassFile.Cond) (a b : Int) : xcd c a b ∨ ¬ xcd c a b := Classical.em _
section XS1
variable {d i : Nat} {Q : Option XV → XM → Prop} {pc : Nat} {loc : XLc} {st : List XV} {mm : XM}
theorem xs_bin {f : Int → Int → Int} {k : List XV → Prop} (h : xbin f st k) : ∃ a b r, st = .inl b :: .inl a :: r ∧ k (.inl (f a b) :: r) := by
  unfold xbin at h
  split at h
  · exact ⟨_, _, _, rfl, h⟩
  · exact h.elim
theorem xs_bind {f : Int → Int → Int} {k : List XV → Prop} (h : xbind f st k) : ∃ a b r, st = .inl b :: .inl a :: r ∧ ¬ b = 0 ∧ k (.inl (f a b) :: r) := by
  unfold xbind at h
  split at h
  · exact ⟨_, _, _, rfl, h⟩
  · exact h.elim
theorem xs_un {f : Int → Int} {k : List XV → Prop} (h : xun f st k) : ∃ a r, st = .inl a :: r ∧ k (.inl (f a) :: r) := by
  unfold xun at h
  split at h
  · exact ⟨_, _, rfl, h⟩
  · exact h.elim
theorem xs_ist {j : Nat} {k : XLc → List XV → Prop} (h : xist loc j st k) : ∃ z r, st = .inl z :: r ∧ j < loc.length ∧ k (loc.set j (some (.inl z))) r := by
  unfold xist at h
  split at h
  · exact ⟨_, _, rfl, h⟩
  · exact h.elim
theorem xs_ast {j : Nat} {k : XLc → List XV → Prop} (h : xast loc j st k) : ∃ z r, st = .inr z :: r ∧ j < loc.length ∧ k (loc.set j (some (.inr z))) r := by
  unfold xast at h
  split at h
  · exact ⟨_, _, rfl, h⟩
  · exact h.elim
/-- a step that pushes an int onto what is left -/
theorem xr_push {v : XV} {pc2 : Nat} (hv : ∀ (p : Program) (l : Launch) (e : Env) (R : Room) (s : State) (m : MethodId) (args : Array Value) (below : List Frame) (meth : Method) (c : Code) (Qw : State → Prop) (H : Heap) (locs : List Loc) (cells slots : Nat) (ls : Array Slot) (rest : List Value) (ρ : Nat → Nat), p.tables.exec = Jvm.exec → c.code = xc i → s.vm.findClass (xon (xow i)) = some m.cls → (∀ w ∈ xtb, w.before args s = true) → xLoc ρ ls loc → W p l e R s m args below meth c H locs cells slots Qw (F0 m pc2 ls (xcv ρ v :: rest)) → W p l e R s m args below meth c H locs cells slots Qw (F0 m pc ls rest))
    (h : xRes d i Q pc2 loc (v :: st) mm) : xRes d i Q pc loc st mm :=
  h.simple rfl (fun p l e R s m args below meth c Qw H locs cells slots ls ρ hx hb ho ht hl k => hv p l e R s m args below meth c Qw H locs cells slots ls _ ρ hx hb ho ht hl (k ls hl))
end XS1
