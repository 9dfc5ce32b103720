/-! THE LEAN MACHINE: a small machine over whole memories: ints as integers, references as numbers of cells (0 the script, 1 and 2 the two texts, 3 and 4 their bytes, 5 and on the cells made); a judgement by fuel. -/
abbrev XV : Type := Int ⊕ Option Nat
abbrev XM : Type := List (Nat × Nat) × (Nat → Nat → Option Nat) × (Nat → Nat → Int)
abbrev XLc : Type := List (Option XV)
abbrev XCal : Type := Nat → List XV → XM → Option XV → XM → Prop
def nrm (z : Int) : Int := z.bmod 4294967296
def xui (d : Nat → Nat → Int) (a j : Nat) (v : Int) : Nat → Nat → Int := fun b k => if b = a ∧ k = j then v else d b k
def xur (r : Nat → Nat → Option Nat) (a j : Nat) (v : Option Nat) : Nat → Nat → Option Nat := fun b k => if b = a ∧ k = j then v else r b k
def xcp (d : Nat → Nat → Int) (a sp b dp n : Nat) : Nat → Nat → Int := fun c k => if c = b ∧ dp ≤ k ∧ k < dp + n then d a (sp + (k - dp)) else d c k
def xzi (d : Nat → Nat → Int) (a : Nat) : Nat → Nat → Int := fun b k => if b = a then 0 else d b k
def xzr (r : Nat → Nat → Option Nat) (a : Nat) : Nat → Nat → Option Nat := fun b k => if b = a then none else r b k
def xcd (c : ClassFile.Cond) (a b : Int) : Prop := match c with
  | .eq => a = b
  | .ne => ¬ a = b
  | .lt => a < b
  | .ge => b ≤ a
  | .gt => b < a
  | .le => a ≤ b
def xdiv (a b : Int) : Int := nrm (a.tdiv b)
def xrem (a b : Int) : Int := a.tmod b
def xand (a b : Int) : Int := (Int32.ofInt a &&& Int32.ofInt b).toInt
def xor_ (a b : Int) : Int := (Int32.ofInt a ||| Int32.ofInt b).toInt
def xxor (a b : Int) : Int := (Int32.ofInt a ^^^ Int32.ofInt b).toInt
def xshl (a b : Int) : Int := (Int32.ofInt a <<< (Int32.ofInt b &&& 31)).toInt
def xshr (a b : Int) : Int := (Int32.ofInt a >>> (Int32.ofInt b &&& 31)).toInt
def xushr (a b : Int) : Int := ((Int32.ofInt a).toUInt32 >>> ((Int32.ofInt b).toUInt32 &&& Int32.toUInt32 31)).toInt32.toInt
def xi2c (a : Int) : Int := ((Int32.ofInt a).toUInt32 % 65536).toInt32.toInt
def xi2b (a : Int) : Int := (Int32.ofInt a).toInt8.toInt32.toInt
def xbin (f : Int → Int → Int) (st : List XV) (k : List XV → Prop) : Prop := match st with
  | .inl b :: .inl a :: r => k (.inl (f a b) :: r)
  | _ => False
def xbind (f : Int → Int → Int) (st : List XV) (k : List XV → Prop) : Prop := match st with
  | .inl b :: .inl a :: r => ¬ b = 0 ∧ k (.inl (f a b) :: r)
  | _ => False
def xun (f : Int → Int) (st : List XV) (k : List XV → Prop) : Prop := match st with
  | .inl a :: r => k (.inl (f a) :: r)
  | _ => False
def xbr (c : ClassFile.Cond) (a b : Int) (pc : Nat) (off : Int) (k : Nat → Prop) : Prop := ∃ tgt : Nat, (pc : Int) + off = (tgt : Int) ∧ (xcd c a b → k tgt) ∧ (¬ xcd c a b → k (pc + 3))
def xif (c : ClassFile.Cond) (pc : Nat) (off : Int) (st : List XV) (k : Nat → List XV → Prop) : Prop := match st with
  | .inl a :: r => xbr c a 0 pc off (fun q => k q r)
  | _ => False
def xic (c : ClassFile.Cond) (pc : Nat) (off : Int) (st : List XV) (k : Nat → List XV → Prop) : Prop := match st with
  | .inl b :: .inl a :: r => xbr c a b pc off (fun q => k q r)
  | _ => False
def xifn (pc : Nat) (off : Int) (st : List XV) (k : Nat → List XV → Prop) : Prop := match st with
  | .inr none :: r => ∃ tgt : Nat, (pc : Int) + off = (tgt : Int) ∧ k tgt r
  | .inr (some _) :: r => k (pc + 3) r
  | _ => False
def xild (loc : XLc) (j : Nat) (k : XV → Prop) : Prop := ∃ z : Int, loc[j]? = some (some (.inl z)) ∧ k (.inl z)
def xald (loc : XLc) (j : Nat) (k : XV → Prop) : Prop := ∃ z : Option Nat, loc[j]? = some (some (.inr z)) ∧ k (.inr z)
def xist (loc : XLc) (j : Nat) (st : List XV) (k : XLc → List XV → Prop) : Prop := match st with
  | .inl z :: r => j < loc.length ∧ k (loc.set j (some (.inl z))) r
  | _ => False
def xast (loc : XLc) (j : Nat) (st : List XV) (k : XLc → List XV → Prop) : Prop := match st with
  | .inr z :: r => j < loc.length ∧ k (loc.set j (some (.inr z))) r
  | _ => False
def xinc (loc : XLc) (j : Nat) (n : Int) (k : XLc → Prop) : Prop := ∃ z : Int, loc[j]? = some (some (.inl z)) ∧ k (loc.set j (some (.inl (nrm (z + n)))))
def xldc (i idx : Nat) (k : XV → Prop) : Prop := (∃ q, xlk (xko (xow i)) idx = some q ∧ k (.inl q.1)) ∨ ∃ q, xlk (xso (xow i)) idx = some q ∧ k (.inr (some q.1))
def xgf (i idx : Nat) (st : List XV) (m : XM) (k : List XV → Prop) : Prop := match st with
  | .inr (some a) :: r => ∃ q N, xlk (xfo (xow i)) idx = some q ∧ m.1[a]? = some (q.1 + 2, N) ∧ q.2.1 < N ∧ k ((bif Nat.beq (xft q.1 q.2.1) 2 then .inr (m.2.1 a q.2.1) else .inl (m.2.2 a q.2.1)) :: r)
  | _ => False
def xpf (i idx : Nat) (st : List XV) (m : XM) (k : List XV → XM → Prop) : Prop := match st with
  | .inl z :: .inr (some a) :: r => ∃ q N, xlk (xfo (xow i)) idx = some q ∧ m.1[a]? = some (q.1 + 2, N) ∧ q.2.1 < N ∧ q.1 < 13 ∧ (xff q.1 q.2.1 = true → xow i = q.1 ∧ (xpl i).2.2.2.2 = 3) ∧ (xft q.1 q.2.1 = 0 ∨ (xft q.1 q.2.1 = 1 ∧ (z = 0 ∨ z = 1))) ∧ k r (m.1, m.2.1, xui m.2.2 a q.2.1 z)
  | .inr o :: .inr (some a) :: r => ∃ q N, xlk (xfo (xow i)) idx = some q ∧ m.1[a]? = some (q.1 + 2, N) ∧ q.2.1 < N ∧ q.1 < 13 ∧ (xff q.1 q.2.1 = true → xow i = q.1 ∧ (xpl i).2.2.2.2 = 3) ∧ xft q.1 q.2.1 = 2 ∧ k r (m.1, xur m.2.1 a q.2.1 o, m.2.2)
  | _ => False
def xial (st : List XV) (m : XM) (k : List XV → Prop) : Prop := match st with
  | .inl j :: .inr (some a) :: r => ∃ n : Nat, (m.1[a]? = some (0, n) ∨ m.1[a]? = some (20, n)) ∧ 0 ≤ j ∧ j < (n : Int) ∧ k (.inl (m.2.2 a j.toNat) :: r)
  | _ => False
def xbal (st : List XV) (m : XM) (k : List XV → Prop) : Prop := match st with
  | .inl j :: .inr (some a) :: r => ∃ n : Nat, m.1[a]? = some (22, n) ∧ 0 ≤ j ∧ j < (n : Int) ∧ k (.inl (m.2.2 a j.toNat) :: r)
  | _ => False
def xaal (st : List XV) (m : XM) (k : List XV → Prop) : Prop := match st with
  | .inl j :: .inr (some a) :: r => ∃ n : Nat, m.1[a]? = some (1, n) ∧ 0 ≤ j ∧ j < (n : Int) ∧ k (.inr (m.2.1 a j.toNat) :: r)
  | _ => False
def xias (st : List XV) (m : XM) (k : List XV → XM → Prop) : Prop := match st with
  | .inl v :: .inl j :: .inr (some a) :: r => ∃ n : Nat, m.1[a]? = some (0, n) ∧ 0 ≤ j ∧ j < (n : Int) ∧ k r (m.1, m.2.1, xui m.2.2 a j.toNat v)
  | _ => False
def xaas (st : List XV) (m : XM) (k : List XV → XM → Prop) : Prop := match st with
  | .inr (some v) :: .inl j :: .inr (some a) :: r => ∃ n N : Nat, m.1[a]? = some (1, n) ∧ m.1[v]? = some (3, N) ∧ 0 ≤ j ∧ j < (n : Int) ∧ k r (m.1, xur m.2.1 a j.toNat (some v), m.2.2)
  | _ => False
def xalen (st : List XV) (m : XM) (k : List XV → Prop) : Prop := match st with
  | .inr (some a) :: r => ∃ n : Nat, (m.1[a]? = some (0, n) ∨ m.1[a]? = some (1, n) ∨ m.1[a]? = some (20, n) ∨ m.1[a]? = some (22, n)) ∧ n < 2147483648 ∧ k (.inl (n : Int) :: r)
  | _ => False
def xpush (m : XM) (kd n : Nat) : XM := (m.1 ++ [(kd, n)], xzr m.2.1 m.1.length, xzi m.2.2 m.1.length)
def xnew (i idx : Nat) (m : XM) (k : XV → XM → Prop) : Prop := ∃ q, xlk (xco (xow i)) idx = some q ∧ k (.inr (some m.1.length)) (xpush m (q.1 + 2) (xfn q.1))
def xnewa (st : List XV) (m : XM) (k : List XV → XM → Prop) : Prop := match st with
  | .inl n :: r => 0 ≤ n ∧ n ≤ 100000 ∧ k (.inr (some m.1.length) :: r) (xpush m 0 n.toNat)
  | _ => False
def xnewq (i idx : Nat) (st : List XV) (m : XM) (k : List XV → XM → Prop) : Prop := match st with
  | .inl n :: r => 0 ≤ n ∧ n ≤ 100000 ∧ (∃ q, xlk (xco (xow i)) idx = some q ∧ q.1 = 1) ∧ k (.inr (some m.1.length) :: r) (xpush m 1 n.toNat)
  | _ => False
def xinvV (C : XCal) (i idx : Nat) (st : List XV) (m : XM) (k : List XV → XM → Prop) : Prop :=
  ∃ q As a rest r m' N, xlk (xmo (xow i)) idx = some q ∧ (q.1 = 0 ∨ q.1 = 3) ∧ st = List.reverse As ++ .inr (some a) :: rest ∧ As.length = xna q.2.1 ∧ rest.length ≤ 8 ∧ m.1[a]? = some (xrk q.2.1, N) ∧ C q.2.1 (.inr (some a) :: As) m r m' ∧ k (r.toList ++ rest) m'
def xinvI (C : XCal) (i idx : Nat) (st : List XV) (m : XM) (k : List XV → XM → Prop) : Prop :=
  (∃ q As a rest m', xlk (xmo (xow i)) idx = some q ∧ (q.1 = 1 ∨ q.1 = 4) ∧ st = List.reverse As ++ .inr (some a) :: rest ∧ As.length = xna q.2.1 ∧ rest.length ≤ 8 ∧ C q.2.1 (.inr (some a) :: As) m none m' ∧ k rest m') ∨
  (∃ q a rest, xlk (xmo (xow i)) idx = some q ∧ q.1 = 6 ∧ st = .inr (some a) :: rest ∧ rest.length ≤ 8 ∧ k rest m)
def xinvS (C : XCal) (i idx : Nat) (st : List XV) (m : XM) (k : List XV → XM → Prop) : Prop :=
  (∃ q As rest r m', xlk (xmo (xow i)) idx = some q ∧ (q.1 = 2 ∨ q.1 = 5) ∧ st = List.reverse As ++ rest ∧ As.length = xna q.2.1 ∧ rest.length ≤ 8 ∧ C q.2.1 As m r m' ∧ k (r.toList ++ rest) m') ∨
  (∃ (q : Nat × Nat × Nat) (n dp : Int) (b : Nat) (sp : Int) (a : Nat) (rest : List XV) (na nb : Nat), xlk (xmo (xow i)) idx = some q ∧ q.1 = 7 ∧ st = .inl n :: .inl dp :: .inr (some b) :: .inl sp :: .inr (some a) :: rest ∧ m.1[a]? = some (0, na) ∧ m.1[b]? = some (0, nb) ∧ 0 ≤ sp ∧ 0 ≤ dp ∧ 0 ≤ n ∧ sp + n ≤ (na : Int) ∧ dp + n ≤ (nb : Int) ∧ rest.length ≤ 8 ∧ k rest (m.1, m.2.1, xcp m.2.2 a sp.toNat b dp.toNat n.toNat)) ∨
  (∃ (q : Nat × Nat × Nat) (n j : Int) (rest : List XV), xlk (xmo (xow i)) idx = some q ∧ q.1 = 8 ∧ st = .inl n :: .inl j :: rest ∧ 0 ≤ j ∧ j < n ∧ rest.length ≤ 8 ∧ k rest m) ∨
  (∃ (q : Nat × Nat × Nat) (a b : Int) (rest : List XV), xlk (xmo (xow i)) idx = some q ∧ q.1 = 9 ∧ st = .inl b :: .inl a :: rest ∧ rest.length ≤ 8 ∧ k (.inl (if a < b then b else a) :: rest) m) ∨
  (∃ (q : Nat × Nat × Nat) (a b : Int) (rest : List XV), xlk (xmo (xow i)) idx = some q ∧ q.1 = 10 ∧ st = .inl b :: .inl a :: rest ∧ rest.length ≤ 8 ∧ k (.inl (if b < a then b else a) :: rest) m)
def xrok (rt : Option FieldType) (z : Int) : Prop := match rt with
  | some .int => True
  | some .boolean => z = 0 ∨ z = 1
  | some .char => 0 ≤ z ∧ z < 65536
  | some .byte => -128 ≤ z ∧ z < 128
  | _ => False
def xiret (i : Nat) (st : List XV) (m : XM) (Q : Option XV → XM → Prop) : Prop := match st with
  | [.inl z] => xrok (xrt i) z ∧ Q (some (.inl z)) m
  | _ => False
def xaret (i : Nat) (st : List XV) (m : XM) (Q : Option XV → XM → Prop) : Prop := match st with
  | [.inr o] => (∃ n, xrt i = some (.object n)) ∧ Q (some (.inr o)) m
  | _ => False
def xsw (pc : Nat) (dflt lo hi : Int) (offs : Array Int) (st : List XV) (k : Nat → List XV → Prop) : Prop := match st with
  | .inl z :: r => ∃ tgt : Nat, ((z < lo ∨ hi < z) → (pc : Int) + dflt = (tgt : Int)) ∧ (¬ z < lo → ¬ hi < z → ∃ off, offs[(z - lo).toNat]? = some off ∧ (pc : Int) + off = (tgt : Int)) ∧ k tgt r
  | _ => False
def xdup (st : List XV) (k : List XV → Prop) : Prop := match st with
  | a :: r => k (a :: a :: r)
  | _ => False
def xdup2 (st : List XV) (k : List XV → Prop) : Prop := match st with
  | a :: b :: r => k (a :: b :: a :: b :: r)
  | _ => False
def xpop (st : List XV) (k : List XV → Prop) : Prop := match st with
  | _ :: r => k r
  | _ => False
def xsem (C : XCal) (i : Nat) (Q : Option XV → XM → Prop) (k : Nat → XLc → List XV → XM → Prop) (pc : Nat) (loc : XLc) (st : List XV) (m : XM) (op : Instr) : Prop := match op with
  | .aconst_null => k (pc + 1) loc (.inr none :: st) m
  | .iconst n => (-128 ≤ n ∧ n < 128) ∧ k (pc + 1) loc (.inl n :: st) m
  | .bipush n => (-128 ≤ n ∧ n < 128) ∧ k (pc + 2) loc (.inl n :: st) m
  | .sipush n => (-32768 ≤ n ∧ n < 32768) ∧ k (pc + 3) loc (.inl n :: st) m
  | .ldc idx => xldc i idx (fun v => k (pc + 2) loc (v :: st) m)
  | .ldc_w idx => ∃ q, xlk (xko (xow i)) idx = some q ∧ k (pc + 3) loc (.inl q.1 :: st) m
  | .iload j => xild loc j (fun v => k (pc + 2) loc (v :: st) m)
  | .iload_n j => xild loc j.val (fun v => k (pc + 1) loc (v :: st) m)
  | .aload j => xald loc j (fun v => k (pc + 2) loc (v :: st) m)
  | .aload_n j => xald loc j.val (fun v => k (pc + 1) loc (v :: st) m)
  | .istore j => xist loc j st (fun l r => k (pc + 2) l r m)
  | .istore_n j => xist loc j.val st (fun l r => k (pc + 1) l r m)
  | .astore j => xast loc j st (fun l r => k (pc + 2) l r m)
  | .astore_n j => xast loc j.val st (fun l r => k (pc + 1) l r m)
  | .iinc j n => xinc loc j n (fun l => k (pc + 3) l st m)
  | .iadd => xbin (fun a b => nrm (a + b)) st (fun r => k (pc + 1) loc r m)
  | .isub => xbin (fun a b => nrm (a - b)) st (fun r => k (pc + 1) loc r m)
  | .imul => xbin (fun a b => nrm (a * b)) st (fun r => k (pc + 1) loc r m)
  | .idiv => xbind xdiv st (fun r => k (pc + 1) loc r m)
  | .irem => xbind xrem st (fun r => k (pc + 1) loc r m)
  | .iand => xbin xand st (fun r => k (pc + 1) loc r m)
  | .ior => xbin xor_ st (fun r => k (pc + 1) loc r m)
  | .ixor => xbin xxor st (fun r => k (pc + 1) loc r m)
  | .ishl => xbin xshl st (fun r => k (pc + 1) loc r m)
  | .ishr => xbin xshr st (fun r => k (pc + 1) loc r m)
  | .iushr => xbin xushr st (fun r => k (pc + 1) loc r m)
  | .ineg => xun (fun a => nrm (-a)) st (fun r => k (pc + 1) loc r m)
  | .i2c => xun xi2c st (fun r => k (pc + 1) loc r m)
  | .i2b => xun xi2b st (fun r => k (pc + 1) loc r m)
  | .dup => xdup st (fun r => k (pc + 1) loc r m)
  | .dup2 => xdup2 st (fun r => k (pc + 1) loc r m)
  | .pop => xpop st (fun r => k (pc + 1) loc r m)
  | .goto off => ∃ tgt : Nat, (pc : Int) + off = (tgt : Int) ∧ k tgt loc st m
  | .ifCond c off => xif c pc off st (fun q r => k q loc r m)
  | .if_icmp c off => xic c pc off st (fun q r => k q loc r m)
  | .ifnull off => xifn pc off st (fun q r => k q loc r m)
  | .tableswitch d lo hi offs => xsw pc d lo hi offs st (fun q r => k q loc r m)
  | .getfield idx => xgf i idx st m (fun r => k (pc + 3) loc r m)
  | .putfield idx => xpf i idx st m (fun r m2 => k (pc + 3) loc r m2)
  | .getstatic idx => xow i = 14 ∧ idx = 38 ∧ k (pc + 3) loc (.inl 1 :: st) m
  | .iaload => xial st m (fun r => k (pc + 1) loc r m)
  | .baload => xbal st m (fun r => k (pc + 1) loc r m)
  | .aaload => xaal st m (fun r => k (pc + 1) loc r m)
  | .iastore => xias st m (fun r m2 => k (pc + 1) loc r m2)
  | .aastore => xaas st m (fun r m2 => k (pc + 1) loc r m2)
  | .arraylength => xalen st m (fun r => k (pc + 1) loc r m)
  | .new idx => xnew i idx m (fun v m2 => k (pc + 3) loc (v :: st) m2)
  | .newarray t => match t with
    | .int => xnewa st m (fun r m2 => k (pc + 2) loc r m2)
    | _ => False
  | .anewarray idx => xnewq i idx st m (fun r m2 => k (pc + 3) loc r m2)
  | .invokevirtual idx => xinvV C i idx st m (fun r m2 => k (pc + 3) loc r m2)
  | .invokespecial idx => xinvI C i idx st m (fun r m2 => k (pc + 3) loc r m2)
  | .invokestatic idx => xinvS C i idx st m (fun r m2 => k (pc + 3) loc r m2)
  | .ireturn => xiret i st m Q
  | .areturn => xaret i st m Q
  | .return_ => st = [] ∧ xrt i = none ∧ Q none m
  | _ => False
def XW (C : XCal) (i : Nat) (Q : Option XV → XM → Prop) : Nat → Nat → XLc → List XV → XM → Prop
  | 0, _, _, _, _ => False
  | n + 1, pc, loc, st, m => ∃ op len, xi i pc = some (op, len) ∧ xsem C i Q (XW C i Q n) pc loc st m op
/-- a method's first locals -/
def xent (i : Nat) (args : List XV) : XLc := args.map some ++ List.replicate (xml i - args.length) none
def XC : Nat → XCal
  | 0 => fun _ _ _ _ _ => False
  | d + 1 => fun i args m r m' => i < 316 ∧ args.length ≤ xml i ∧ ∃ n, XW (XC d) i (fun r2 m2 => r2 = r ∧ m2 = m') n 0 (xent i args) [] m
