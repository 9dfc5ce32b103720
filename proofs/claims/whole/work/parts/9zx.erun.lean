/-! An executable machine over logs, for the constructors. -/
abbrev LgR : Type := List (Nat × Option (Nat × Option Nat))
abbrev LgD : Type := List (Nat × Option (Nat × Int))
abbrev EM : Type := Nat × List (Nat × Nat) × LgR × LgD
def dnR (R0 : Nat → Nat → Option Nat) : LgR → Nat → Nat → Option Nat
  | [] => R0
  | (a, none) :: l => xzr (dnR R0 l) a
  | (a, some (k, v)) :: l => xur (dnR R0 l) a k v
def dnD (D0 : KK) : LgD → KK
  | [] => D0
  | (a, none) :: l => xzi (dnD D0 l) a
  | (a, some (k, v)) :: l => xui (dnD D0 l) a k v
def lkR : LgR → Nat → Nat → Option (Option Nat)
  | [], _, _ => none
  | (b, none) :: l, a, k => bif Nat.beq a b then some none else lkR l a k
  | (b, some (j, v)) :: l, a, k => bif Nat.beq a b && Nat.beq k j then some v else lkR l a k
theorem lkR_s {R0 : Nat → Nat → Option Nat} : ∀ (l : LgR) {a k : Nat} {v : Option Nat}, lkR l a k = some v → dnR R0 l a k = v
  | [], _, _, _, h => by cases h
  | (b, none) :: l, a, k, v, h => by
    show (if a = b then none else dnR R0 l a k) = v
    have h : (bif Nat.beq a b then some none else lkR l a k) = some v := h
    cases e : Nat.beq a b with
    | true =>
      rw [e] at h
      rw [if_pos (Nat.eq_of_beq_eq_true e)]
      exact Option.some.inj h
    | false =>
      rw [e] at h
      rw [if_neg (Nat.ne_of_beq_eq_false e)]
      exact lkR_s l h
  | (b, some (j, w)) :: l, a, k, v, h => by
    show (if a = b ∧ k = j then w else dnR R0 l a k) = v
    have h : (bif Nat.beq a b && Nat.beq k j then some w else lkR l a k) = some v := h
    cases e : (Nat.beq a b && Nat.beq k j) with
    | true =>
      rw [e] at h
      rw [Bool.and_eq_true] at e
      rw [if_pos ⟨Nat.eq_of_beq_eq_true e.1, Nat.eq_of_beq_eq_true e.2⟩]
      exact Option.some.inj h
    | false =>
      rw [e] at h
      rw [if_neg (fun q => by rw [q.1, q.2, Nat.beq_refl, Nat.beq_refl] at e; cases e)]
      exact lkR_s l h
def b5 (n : Nat) : List (Nat × Nat) := [(20, n), (21, 2), (21, 2), (22, 158), (22, 10)]
def den (n : Nat) (R0 : Nat → Nat → Option Nat) (D0 : KK) (e : EM) : XM := (b5 n ++ e.2.1.reverse, dnR R0 e.2.2.1, dnD D0 e.2.2.2)
def EI (e : EM) : Prop := e.1 = e.2.1.length + 5
def shp (e : EM) (a : Nat) : Option (Nat × Nat) := if a < 5 then none else if a < e.1 then e.2.1[e.1 - 1 - a]? else none
theorem shp_s {n : Nat} {R0 : Nat → Nat → Option Nat} {D0 : KK} {e : EM} {a : Nat} {x : Nat × Nat} (hE : EI e) (h : shp e a = some x) : (den n R0 D0 e).1[a]? = some x := by
  unfold shp at h
  unfold EI at hE
  split at h
  · cases h
  · next q1 =>
    split at h
    · next q2 =>
      show (b5 n ++ e.2.1.reverse)[a]? = some x
      have e5 : (b5 n).length = 5 := rfl
      rw [List.getElem?_append_right (by rw [e5]; omega), e5, List.getElem?_reverse (by omega), show e.2.1.length - 1 - (a - 5) = e.1 - 1 - a by omega]
      exact h
    · cases h
theorem den_len {n : Nat} {R0 : Nat → Nat → Option Nat} {D0 : KK} {e : EM} (hE : EI e) : (den n R0 D0 e).1.length = e.1 := by
  unfold EI at hE
  show (b5 n ++ e.2.1.reverse).length = e.1
  rw [List.length_append, List.length_reverse, hE]
  show 5 + _ = _
  omega
def psh (l : Nat) (S : List (Nat × Nat)) (r : LgR) (d : LgD) (kd N : Nat) : EM := (l + 1, (kd, N) :: S, (l, none) :: r, (l, none) :: d)
theorem psh_I {l : Nat} {S : List (Nat × Nat)} {r : LgR} {d : LgD} {kd N : Nat} (h : EI (l, S, r, d)) : EI (psh l S r d kd N) := by
  unfold EI at h ⊢
  show l + 1 = S.length + 1 + 5
  have h : l = S.length + 5 := h
  omega
theorem psh_s {n : Nat} {R0 : Nat → Nat → Option Nat} {D0 : KK} {l : Nat} {S : List (Nat × Nat)} {r : LgR} {d : LgD} {kd N : Nat} (h : EI (l, S, r, d)) : xpush (den n R0 D0 (l, S, r, d)) kd N = den n R0 D0 (psh l S r d kd N) := by
  unfold xpush
  rw [den_len h]
  show (b5 n ++ S.reverse ++ [(kd, N)], xzr (dnR R0 r) l, xzi (dnD D0 d) l) = (b5 n ++ ((kd, N) :: S).reverse, xzr (dnR R0 r) l, xzi (dnD D0 d) l)
  rw [List.reverse_cons, List.append_assoc]
/-! Values forced, and readings that may fail. -/
section Frc
variable {α : Type}
def frN (p : Nat) (k : Nat → Option EM) : Option EM := match p with
  | 0 => k 0
  | q + 1 => k (q + 1)
theorem frN_s (p : Nat) (k : Nat → Option EM) : frN p k = k p := by cases p <;> rfl
def frI (z : Int) (k : Int → Option EM) : Option EM := match z with
  | .ofNat m => frN m (fun q => k (.ofNat q))
  | .negSucc m => k (.negSucc m)
theorem frI_s (z : Int) (k : Int → Option EM) : frI z k = k z := by
  cases z with
  | ofNat m => exact frN_s m (fun q => k (.ofNat q))
  | negSucc m => rfl
def frL : XLc → (XLc → Option EM) → Option EM
  | [], k => k []
  | x :: l, k => frL l (fun l2 => k (x :: l2))
theorem frL_s : ∀ (l : XLc) (k : XLc → Option EM), frL l k = k l
  | [], _ => rfl
  | x :: l, k => frL_s l (fun l2 => k (x :: l2))
def gd (b : Bool) (x : Option EM) : Option EM := bif b then x else none
theorem gd_s {b : Bool} {x : Option EM} {e : EM} (h : gd b x = some e) : b = true ∧ x = some e := by
  cases b with
  | true => exact ⟨rfl, h⟩
  | false => cases h
def ob (x : Option α) (k : α → Option EM) : Option EM := match x with
  | some a => k a
  | none => none
theorem ob_s {x : Option α} {k : α → Option EM} {e : EM} (h : ob x k = some e) : ∃ a, x = some a ∧ k a = some e := by
  cases x with
  | some a => exact ⟨a, rfl, h⟩
  | none => cases h
def oI (st : List XV) (k : Int → List XV → Option EM) : Option EM := match st with
  | .inl z :: r => k z r
  | _ => none
theorem oI_s {st : List XV} {k : Int → List XV → Option EM} {e : EM} (h : oI st k = some e) : ∃ z r, st = .inl z :: r ∧ k z r = some e := by
  unfold oI at h
  split at h
  · exact ⟨_, _, rfl, h⟩
  · cases h
def oR (st : List XV) (k : Option Nat → List XV → Option EM) : Option EM := match st with
  | .inr z :: r => k z r
  | _ => none
theorem oR_s {st : List XV} {k : Option Nat → List XV → Option EM} {e : EM} (h : oR st k = some e) : ∃ z r, st = .inr z :: r ∧ k z r = some e := by
  unfold oR at h
  split at h
  · exact ⟨_, _, rfl, h⟩
  · cases h
def oPx (st : List XV) (k : Nat → List XV → Option EM) : Option EM := match st with
  | .inr (some z) :: r => k z r
  | _ => none
theorem oPx_s {st : List XV} {k : Nat → List XV → Option EM} {e : EM} (h : oPx st k = some e) : ∃ z r, st = .inr (some z) :: r ∧ k z r = some e := by
  unfold oPx at h
  split at h
  · exact ⟨_, _, rfl, h⟩
  · cases h
def oT (pc : Nat) (off : Int) (k : Nat → Option EM) : Option EM := match (pc : Int) + off with
  | .ofNat t => k t
  | _ => none
theorem oT_s {pc : Nat} {off : Int} {k : Nat → Option EM} {e : EM} (h : oT pc off k = some e) : ∃ t : Nat, (pc : Int) + off = (t : Int) ∧ k t = some e := by
  unfold oT at h
  split at h
  · next t q => exact ⟨t, q, h⟩
  · cases h
end Frc
def eAl (e : EM) (kd N : Nat) (k : Nat → EM → Option EM) : Option EM := match e with
  | (l, S, r, d) => frN l (fun l => k l (psh l S r d kd N))
def ePD (e : EM) (a j : Nat) (v : Int) (k : EM → Option EM) : Option EM := match e with
  | (l, S, r, d) => frI v (fun v => frN j (fun j => k (l, S, r, (a, some (j, v)) :: d)))
def ePR (e : EM) (a j : Nat) (v : Option Nat) (k : EM → Option EM) : Option EM := match e with
  | (l, S, r, d) => frN j (fun j => k (l, S, (a, some (j, v)) :: r, d))
section Ess
variable {n : Nat} {R0 : Nat → Nat → Option Nat} {D0 : KK} {e e2 : EM}
theorem eAl_s {kd N : Nat} {k : Nat → EM → Option EM} (hE : EI e) (h : eAl e kd N k = some e2) : ∃ e3, EI e3 ∧ den n R0 D0 e3 = xpush (den n R0 D0 e) kd N ∧ k (den n R0 D0 e).1.length e3 = some e2 := by
  rw [den_len hE]
  obtain ⟨l, S, r, d⟩ := e
  have h : frN l (fun l => k l (psh l S r d kd N)) = some e2 := h
  rw [frN_s] at h
  exact ⟨_, psh_I hE, (psh_s hE).symm, h⟩
theorem ePD_s {a j : Nat} {v : Int} {k : EM → Option EM} (hE : EI e) (h : ePD e a j v k = some e2) : ∃ e3, EI e3 ∧ den n R0 D0 e3 = ((den n R0 D0 e).1, (den n R0 D0 e).2.1, xui (den n R0 D0 e).2.2 a j v) ∧ k e3 = some e2 := by
  obtain ⟨l, S, r, d⟩ := e
  have h : frI v (fun v => frN j (fun j => k (l, S, r, (a, some (j, v)) :: d))) = some e2 := h
  rw [frI_s, frN_s] at h
  exact ⟨(l, S, r, (a, some (j, v)) :: d), hE, rfl, h⟩
theorem ePR_s {a j : Nat} {v : Option Nat} {k : EM → Option EM} (hE : EI e) (h : ePR e a j v k = some e2) : ∃ e3, EI e3 ∧ den n R0 D0 e3 = ((den n R0 D0 e).1, xur (den n R0 D0 e).2.1 a j v, (den n R0 D0 e).2.2) ∧ k e3 = some e2 := by
  obtain ⟨l, S, r, d⟩ := e
  have h : frN j (fun j => k (l, S, (a, some (j, v)) :: r, d)) = some e2 := h
  rw [frN_s] at h
  exact ⟨(l, S, (a, some (j, v)) :: r, d), hE, rfl, h⟩
end Ess
def h_aconst_null (CL : Nat → List XV → EM → Option EM) (i : Nat) (K : Nat → XLc → List XV → EM → Option EM) (pc : Nat) (loc : XLc) (st : List XV) (e : EM) : Option EM := K (pc + 1) loc (.inr none :: st) e
def h_iconst (CL : Nat → List XV → EM → Option EM) (i : Nat) (K : Nat → XLc → List XV → EM → Option EM) (pc : Nat) (loc : XLc) (st : List XV) (e : EM) (z : Int) : Option EM := gd (decide (-128 ≤ z ∧ z < 128)) (K (pc + 1) loc (.inl z :: st) e)
def h_bipush (CL : Nat → List XV → EM → Option EM) (i : Nat) (K : Nat → XLc → List XV → EM → Option EM) (pc : Nat) (loc : XLc) (st : List XV) (e : EM) (z : Int) : Option EM := gd (decide (-128 ≤ z ∧ z < 128)) (K (pc + 2) loc (.inl z :: st) e)
def h_sipush (CL : Nat → List XV → EM → Option EM) (i : Nat) (K : Nat → XLc → List XV → EM → Option EM) (pc : Nat) (loc : XLc) (st : List XV) (e : EM) (z : Int) : Option EM := gd (decide (-32768 ≤ z ∧ z < 32768)) (K (pc + 3) loc (.inl z :: st) e)
def h_iload_n (CL : Nat → List XV → EM → Option EM) (i : Nat) (K : Nat → XLc → List XV → EM → Option EM) (pc : Nat) (loc : XLc) (st : List XV) (e : EM) (j : Fin 4) : Option EM := ob loc[j.val]? fun o => ob o fun v => oI [v] fun z _ => K (pc + 1) loc (.inl z :: st) e
def h_aload_n (CL : Nat → List XV → EM → Option EM) (i : Nat) (K : Nat → XLc → List XV → EM → Option EM) (pc : Nat) (loc : XLc) (st : List XV) (e : EM) (j : Fin 4) : Option EM := ob loc[j.val]? fun o => ob o fun v => oR [v] fun z _ => K (pc + 1) loc (.inr z :: st) e
def h_istore_n (CL : Nat → List XV → EM → Option EM) (i : Nat) (K : Nat → XLc → List XV → EM → Option EM) (pc : Nat) (loc : XLc) (st : List XV) (e : EM) (j : Fin 4) : Option EM := oI st fun z r => gd (decide (j.val < loc.length)) (frL (loc.set j.val (some (.inl z))) fun l => K (pc + 1) l r e)
def h_iinc (CL : Nat → List XV → EM → Option EM) (i : Nat) (K : Nat → XLc → List XV → EM → Option EM) (pc : Nat) (loc : XLc) (st : List XV) (e : EM) (j : Nat) (d : Int) : Option EM := ob loc[j]? fun o => ob o fun v => oI [v] fun z _ => gd (decide (-2147483648 ≤ z + d ∧ z + d < 2147483648)) (frI (z + d) fun w => frL (loc.set j (some (.inl w))) fun l => K (pc + 3) l st e)
def h_dup (CL : Nat → List XV → EM → Option EM) (i : Nat) (K : Nat → XLc → List XV → EM → Option EM) (pc : Nat) (loc : XLc) (st : List XV) (e : EM) : Option EM := match st with
  | v :: r => K (pc + 1) loc (v :: v :: r) e
  | [] => none
def h_goto (CL : Nat → List XV → EM → Option EM) (i : Nat) (K : Nat → XLc → List XV → EM → Option EM) (pc : Nat) (loc : XLc) (st : List XV) (e : EM) (off : Int) : Option EM := oT pc off fun t => K t loc st e
def h_if_icmp (CL : Nat → List XV → EM → Option EM) (i : Nat) (K : Nat → XLc → List XV → EM → Option EM) (pc : Nat) (loc : XLc) (st : List XV) (e : EM) (c : ClassFile.Cond) (off : Int) : Option EM := match c with
  | .ge => oI st fun b s1 => oI s1 fun a r => oT pc off fun t => bif decide (b ≤ a) then K t loc r e else K (pc + 3) loc r e
  | _ => none
def h_getfield (CL : Nat → List XV → EM → Option EM) (i : Nat) (K : Nat → XLc → List XV → EM → Option EM) (pc : Nat) (loc : XLc) (st : List XV) (e : EM) (idx : Nat) : Option EM := oPx st fun a r => ob (xlk (xfo (xow i)) idx) fun q => ob (shp e a) fun s => gd (decide (s.1 = q.1 + 2 ∧ q.2.1 < s.2 ∧ Nat.beq (xft q.1 q.2.1) 2 = true)) (ob (lkR e.2.2.1 a q.2.1) fun v => K (pc + 3) loc (.inr v :: r) e)
def h_putfield (CL : Nat → List XV → EM → Option EM) (i : Nat) (K : Nat → XLc → List XV → EM → Option EM) (pc : Nat) (loc : XLc) (st : List XV) (e : EM) (idx : Nat) : Option EM := ob (xlk (xfo (xow i)) idx) fun q => match st with
  | .inl z :: s1 => oPx s1 fun a r => ob (shp e a) fun s => gd (decide (s.1 = q.1 + 2 ∧ q.2.1 < s.2 ∧ q.1 < 13 ∧ (xff q.1 q.2.1 = true → xow i = q.1 ∧ (xpl i).2.2.2.2 = 3) ∧ (xft q.1 q.2.1 = 0 ∨ (xft q.1 q.2.1 = 1 ∧ (z = 0 ∨ z = 1))))) (ePD e a q.2.1 z fun e3 => K (pc + 3) loc r e3)
  | .inr o :: s1 => oPx s1 fun a r => ob (shp e a) fun s => gd (decide (s.1 = q.1 + 2 ∧ q.2.1 < s.2 ∧ q.1 < 13 ∧ (xff q.1 q.2.1 = true → xow i = q.1 ∧ (xpl i).2.2.2.2 = 3) ∧ xft q.1 q.2.1 = 2)) (ePR e a q.2.1 o fun e3 => K (pc + 3) loc r e3)
  | [] => none
def h_iastore (CL : Nat → List XV → EM → Option EM) (i : Nat) (K : Nat → XLc → List XV → EM → Option EM) (pc : Nat) (loc : XLc) (st : List XV) (e : EM) : Option EM := oI st fun v s1 => oI s1 fun j s2 => oPx s2 fun a r => ob (shp e a) fun s => gd (decide (s.1 = 0 ∧ 0 ≤ j ∧ j < (s.2 : Int))) (ePD e a j.toNat v fun e3 => K (pc + 1) loc r e3)
def h_aastore (CL : Nat → List XV → EM → Option EM) (i : Nat) (K : Nat → XLc → List XV → EM → Option EM) (pc : Nat) (loc : XLc) (st : List XV) (e : EM) : Option EM := oPx st fun v s1 => oI s1 fun j s2 => oPx s2 fun a r => ob (shp e a) fun s => ob (shp e v) fun sv => gd (decide (s.1 = 1 ∧ sv.1 = 3 ∧ 0 ≤ j ∧ j < (s.2 : Int))) (ePR e a j.toNat (some v) fun e3 => K (pc + 1) loc r e3)
def h_arraylength (CL : Nat → List XV → EM → Option EM) (i : Nat) (K : Nat → XLc → List XV → EM → Option EM) (pc : Nat) (loc : XLc) (st : List XV) (e : EM) : Option EM := oPx st fun a r => ob (shp e a) fun s => gd (decide ((s.1 = 0 ∨ s.1 = 1) ∧ s.2 < 2147483648)) (K (pc + 1) loc (.inl (s.2 : Int) :: r) e)
def h_new (CL : Nat → List XV → EM → Option EM) (i : Nat) (K : Nat → XLc → List XV → EM → Option EM) (pc : Nat) (loc : XLc) (st : List XV) (e : EM) (idx : Nat) : Option EM := ob (xlk (xco (xow i)) idx) fun q => eAl e (q.1 + 2) (xfn q.1) fun l e3 => K (pc + 3) loc (.inr (some l) :: st) e3
def h_newarray (CL : Nat → List XV → EM → Option EM) (i : Nat) (K : Nat → XLc → List XV → EM → Option EM) (pc : Nat) (loc : XLc) (st : List XV) (e : EM) (t : ArrayType) : Option EM := match t with
  | .int => oI st fun z r => gd (decide (0 ≤ z ∧ z ≤ 100000)) (frN z.toNat fun zn => eAl e 0 zn fun l e3 => K (pc + 2) loc (.inr (some l) :: r) e3)
  | _ => none
def h_anewarray (CL : Nat → List XV → EM → Option EM) (i : Nat) (K : Nat → XLc → List XV → EM → Option EM) (pc : Nat) (loc : XLc) (st : List XV) (e : EM) (idx : Nat) : Option EM := oI st fun z r => ob (xlk (xco (xow i)) idx) fun q => gd (decide (0 ≤ z ∧ z ≤ 100000 ∧ q.1 = 1)) (frN z.toNat fun zn => eAl e 1 zn fun l e3 => K (pc + 3) loc (.inr (some l) :: r) e3)
def h_invokevirtual (CL : Nat → List XV → EM → Option EM) (i : Nat) (K : Nat → XLc → List XV → EM → Option EM) (pc : Nat) (loc : XLc) (st : List XV) (e : EM) (idx : Nat) : Option EM := ob (xlk (xmo (xow i)) idx) fun q => oPx (st.drop (xna q.2.1)) fun a r => ob (shp e a) fun s => gd (decide (q.1 = 0 ∧ r.length ≤ 8 ∧ s.1 = xrk q.2.1)) (ob (CL q.2.1 (.inr (some a) :: (st.take (xna q.2.1)).reverse) e) fun e3 => K (pc + 3) loc r e3)
def h_invokespecial (CL : Nat → List XV → EM → Option EM) (i : Nat) (K : Nat → XLc → List XV → EM → Option EM) (pc : Nat) (loc : XLc) (st : List XV) (e : EM) (idx : Nat) : Option EM := ob (xlk (xmo (xow i)) idx) fun q => bif Nat.beq q.1 6 then (oPx st fun _ r => gd (decide (r.length ≤ 8)) (K (pc + 3) loc r e)) else (oPx (st.drop (xna q.2.1)) fun a r => gd (decide ((q.1 = 1 ∨ q.1 = 4) ∧ r.length ≤ 8)) (ob (CL q.2.1 (.inr (some a) :: (st.take (xna q.2.1)).reverse) e) fun e3 => K (pc + 3) loc r e3))
def h_invokestatic (CL : Nat → List XV → EM → Option EM) (i : Nat) (K : Nat → XLc → List XV → EM → Option EM) (pc : Nat) (loc : XLc) (st : List XV) (e : EM) (idx : Nat) : Option EM := ob (xlk (xmo (xow i)) idx) fun q => gd (decide (q.1 = 2 ∧ xna q.2.1 ≤ st.length ∧ (st.drop (xna q.2.1)).length ≤ 8)) (ob (CL q.2.1 (st.take (xna q.2.1)).reverse e) fun e3 => K (pc + 3) loc (st.drop (xna q.2.1)) e3)
def h_return_ (CL : Nat → List XV → EM → Option EM) (i : Nat) (K : Nat → XLc → List XV → EM → Option EM) (pc : Nat) (loc : XLc) (st : List XV) (e : EM) : Option EM := match st with
  | [] => match xrt i with
    | none => some e
    | some _ => none
  | _ => none
def eS (CL : Nat → List XV → EM → Option EM) (i : Nat) (K : Nat → XLc → List XV → EM → Option EM) (pc : Nat) (loc : XLc) (st : List XV) (e : EM) (op : Instr) : Option EM := match op with
  | .aconst_null => h_aconst_null CL i K pc loc st e
  | .iconst z => h_iconst CL i K pc loc st e z
  | .bipush z => h_bipush CL i K pc loc st e z
  | .sipush z => h_sipush CL i K pc loc st e z
  | .iload_n j => h_iload_n CL i K pc loc st e j
  | .aload_n j => h_aload_n CL i K pc loc st e j
  | .istore_n j => h_istore_n CL i K pc loc st e j
  | .iinc j d => h_iinc CL i K pc loc st e j d
  | .dup => h_dup CL i K pc loc st e
  | .goto off => h_goto CL i K pc loc st e off
  | .if_icmp c off => h_if_icmp CL i K pc loc st e c off
  | .getfield idx => h_getfield CL i K pc loc st e idx
  | .putfield idx => h_putfield CL i K pc loc st e idx
  | .iastore => h_iastore CL i K pc loc st e
  | .aastore => h_aastore CL i K pc loc st e
  | .arraylength => h_arraylength CL i K pc loc st e
  | .new idx => h_new CL i K pc loc st e idx
  | .newarray t => h_newarray CL i K pc loc st e t
  | .anewarray idx => h_anewarray CL i K pc loc st e idx
  | .invokevirtual idx => h_invokevirtual CL i K pc loc st e idx
  | .invokespecial idx => h_invokespecial CL i K pc loc st e idx
  | .invokestatic idx => h_invokestatic CL i K pc loc st e idx
  | .return_ => h_return_ CL i K pc loc st e
  | _ => none
