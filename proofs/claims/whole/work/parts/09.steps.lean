def XX (C : XCal) (i : Nat) (Q : Option XV → XM → Prop) (pc : Nat) (loc : XLc) (st : List XV) (m : XM) : Prop := ∃ n, XW C i Q n pc loc st m
theorem xx_mk {C : XCal} {i : Nat} {Q : Option XV → XM → Prop} {pc : Nat} {loc : XLc} {st : List XV} {m : XM} {op : Instr} {len n : Nat} (h : xi i pc = some (op, len)) (k : xsem C i Q (XW C i Q n) pc loc st m op) : XX C i Q pc loc st m := ⟨n + 1, op, len, h, k⟩
section XXs
variable {C : XCal} {i : Nat} {Q : Option XV → XM → Prop} {pc q : Nat} {loc : XLc} {st : List XV} {m : XM}
theorem xx_null (h : xi i pc = some (.aconst_null, 1)) (hq : pc + 1 = q) (k : XX C i Q q loc (.inr none :: st) m) : XX C i Q pc loc st m := by
  subst hq
  obtain ⟨n, k⟩ := k
  exact xx_mk h k
theorem xx_iconst {z : Int} (h : xi i pc = some (.iconst z, 1)) (hq : pc + 1 = q) (hz : -128 ≤ z ∧ z < 128) (k : XX C i Q q loc (.inl z :: st) m) : XX C i Q pc loc st m := by
  subst hq
  obtain ⟨n, k⟩ := k
  exact xx_mk h ⟨hz, k⟩
theorem xx_bipush {z : Int} (h : xi i pc = some (.bipush z, 2)) (hq : pc + 2 = q) (hz : -128 ≤ z ∧ z < 128) (k : XX C i Q q loc (.inl z :: st) m) : XX C i Q pc loc st m := by
  subst hq
  obtain ⟨n, k⟩ := k
  exact xx_mk h ⟨hz, k⟩
theorem xx_sipush {z : Int} (h : xi i pc = some (.sipush z, 3)) (hq : pc + 3 = q) (hz : -32768 ≤ z ∧ z < 32768) (k : XX C i Q q loc (.inl z :: st) m) : XX C i Q pc loc st m := by
  subst hq
  obtain ⟨n, k⟩ := k
  exact xx_mk h ⟨hz, k⟩
theorem xx_ldc {idx pl : Nat} {z : Int} (h : xi i pc = some (.ldc idx, 2)) (hq : pc + 2 = q) (hl : xlk (xko (xow i)) idx = some (z, pl)) (k : XX C i Q q loc (.inl z :: st) m) : XX C i Q pc loc st m := by
  subst hq
  obtain ⟨n, k⟩ := k
  exact xx_mk h (Or.inl ⟨_, hl, k⟩)
theorem xx_ldcS {idx pl z : Nat} (h : xi i pc = some (.ldc idx, 2)) (hq : pc + 2 = q) (hl : xlk (xso (xow i)) idx = some (z, pl)) (k : XX C i Q q loc (.inr (some z) :: st) m) : XX C i Q pc loc st m := by
  subst hq
  obtain ⟨n, k⟩ := k
  exact xx_mk h (Or.inr ⟨_, hl, k⟩)
theorem xx_ldcw {idx pl : Nat} {z : Int} (h : xi i pc = some (.ldc_w idx, 3)) (hq : pc + 3 = q) (hl : xlk (xko (xow i)) idx = some (z, pl)) (k : XX C i Q q loc (.inl z :: st) m) : XX C i Q pc loc st m := by
  subst hq
  obtain ⟨n, k⟩ := k
  exact xx_mk h ⟨_, hl, k⟩
theorem xx_iload {j : Nat} {z : Int} (h : xi i pc = some (.iload j, 2)) (hq : pc + 2 = q) (hl : loc[j]? = some (some (.inl z))) (k : XX C i Q q loc (.inl z :: st) m) : XX C i Q pc loc st m := by
  subst hq
  obtain ⟨n, k⟩ := k
  exact xx_mk h ⟨_, hl, k⟩
theorem xx_iload_n {j : Fin 4} {z : Int} (h : xi i pc = some (.iload_n j, 1)) (hq : pc + 1 = q) (hl : loc[j.val]? = some (some (.inl z))) (k : XX C i Q q loc (.inl z :: st) m) : XX C i Q pc loc st m := by
  subst hq
  obtain ⟨n, k⟩ := k
  exact xx_mk h ⟨_, hl, k⟩
theorem xx_aload {j : Nat} {z : Option Nat} (h : xi i pc = some (.aload j, 2)) (hq : pc + 2 = q) (hl : loc[j]? = some (some (.inr z))) (k : XX C i Q q loc (.inr z :: st) m) : XX C i Q pc loc st m := by
  subst hq
  obtain ⟨n, k⟩ := k
  exact xx_mk h ⟨_, hl, k⟩
theorem xx_aload_n {j : Fin 4} {z : Option Nat} (h : xi i pc = some (.aload_n j, 1)) (hq : pc + 1 = q) (hl : loc[j.val]? = some (some (.inr z))) (k : XX C i Q q loc (.inr z :: st) m) : XX C i Q pc loc st m := by
  subst hq
  obtain ⟨n, k⟩ := k
  exact xx_mk h ⟨_, hl, k⟩
theorem xx_istore {j : Nat} {z : Int} {loc2 : XLc} (h : xi i pc = some (.istore j, 2)) (hq : pc + 2 = q) (hj : j < loc.length) (hl : loc.set j (some (.inl z)) = loc2) (k : XX C i Q q loc2 st m) : XX C i Q pc loc (.inl z :: st) m := by
  subst hq
  obtain ⟨n, k⟩ := k
  exact xx_mk h ⟨hj, hl ▸ k⟩
theorem xx_istore_n {j : Fin 4} {z : Int} {loc2 : XLc} (h : xi i pc = some (.istore_n j, 1)) (hq : pc + 1 = q) (hj : j.val < loc.length) (hl : loc.set j.val (some (.inl z)) = loc2) (k : XX C i Q q loc2 st m) : XX C i Q pc loc (.inl z :: st) m := by
  subst hq
  obtain ⟨n, k⟩ := k
  exact xx_mk h ⟨hj, hl ▸ k⟩
theorem xx_astore {j : Nat} {z : Option Nat} {loc2 : XLc} (h : xi i pc = some (.astore j, 2)) (hq : pc + 2 = q) (hj : j < loc.length) (hl : loc.set j (some (.inr z)) = loc2) (k : XX C i Q q loc2 st m) : XX C i Q pc loc (.inr z :: st) m := by
  subst hq
  obtain ⟨n, k⟩ := k
  exact xx_mk h ⟨hj, hl ▸ k⟩
theorem xx_astore_n {j : Fin 4} {z : Option Nat} {loc2 : XLc} (h : xi i pc = some (.astore_n j, 1)) (hq : pc + 1 = q) (hj : j.val < loc.length) (hl : loc.set j.val (some (.inr z)) = loc2) (k : XX C i Q q loc2 st m) : XX C i Q pc loc (.inr z :: st) m := by
  subst hq
  obtain ⟨n, k⟩ := k
  exact xx_mk h ⟨hj, hl ▸ k⟩
theorem xx_iinc {j : Nat} {z x v : Int} {loc2 : XLc} (h : xi i pc = some (.iinc j z, 3)) (hq : pc + 3 = q) (hj : loc[j]? = some (some (.inl x))) (hv : nrm (x + z) = v) (hl : loc.set j (some (.inl v)) = loc2) (k : XX C i Q q loc2 st m) : XX C i Q pc loc st m := by
  subst hq
  obtain ⟨n, k⟩ := k
  exact xx_mk h ⟨x, hj, by rw [hv, hl]; exact k⟩
theorem xx_iadd {a b : Int} (h : xi i pc = some (.iadd, 1)) (hq : pc + 1 = q) (k : XX C i Q q loc (.inl (nrm (a + b)) :: st) m) : XX C i Q pc loc (.inl b :: .inl a :: st) m := by
  subst hq
  obtain ⟨n, k⟩ := k
  exact xx_mk h k
theorem xx_iaddR {a b : Int} (h : xi i pc = some (.iadd, 1)) (hq : pc + 1 = q) (h1 : -2147483648 ≤ a + b) (h2 : a + b < 2147483648) (k : XX C i Q q loc (.inl (a + b) :: st) m) : XX C i Q pc loc (.inl b :: .inl a :: st) m := by
  subst hq
  obtain ⟨n, k⟩ := k
  exact xx_mk h (show XW C i Q n (pc + 1) loc (.inl (nrm (a + b)) :: st) m by rw [nrm_id ⟨h1, h2⟩]; exact k)
theorem xx_isub {a b : Int} (h : xi i pc = some (.isub, 1)) (hq : pc + 1 = q) (k : XX C i Q q loc (.inl (nrm (a - b)) :: st) m) : XX C i Q pc loc (.inl b :: .inl a :: st) m := by
  subst hq
  obtain ⟨n, k⟩ := k
  exact xx_mk h k
theorem xx_isubR {a b : Int} (h : xi i pc = some (.isub, 1)) (hq : pc + 1 = q) (h1 : -2147483648 ≤ a - b) (h2 : a - b < 2147483648) (k : XX C i Q q loc (.inl (a - b) :: st) m) : XX C i Q pc loc (.inl b :: .inl a :: st) m := by
  subst hq
  obtain ⟨n, k⟩ := k
  exact xx_mk h (show XW C i Q n (pc + 1) loc (.inl (nrm (a - b)) :: st) m by rw [nrm_id ⟨h1, h2⟩]; exact k)
theorem xx_imul {a b : Int} (h : xi i pc = some (.imul, 1)) (hq : pc + 1 = q) (k : XX C i Q q loc (.inl (nrm (a * b)) :: st) m) : XX C i Q pc loc (.inl b :: .inl a :: st) m := by
  subst hq
  obtain ⟨n, k⟩ := k
  exact xx_mk h k
theorem xx_imulR {a b : Int} (h : xi i pc = some (.imul, 1)) (hq : pc + 1 = q) (h1 : -2147483648 ≤ a * b) (h2 : a * b < 2147483648) (k : XX C i Q q loc (.inl (a * b) :: st) m) : XX C i Q pc loc (.inl b :: .inl a :: st) m := by
  subst hq
  obtain ⟨n, k⟩ := k
  exact xx_mk h (show XW C i Q n (pc + 1) loc (.inl (nrm (a * b)) :: st) m by rw [nrm_id ⟨h1, h2⟩]; exact k)
theorem xx_idiv {a b : Int} (h : xi i pc = some (.idiv, 1)) (hq : pc + 1 = q) (hb : ¬ b = 0) (k : XX C i Q q loc (.inl (xdiv a b) :: st) m) : XX C i Q pc loc (.inl b :: .inl a :: st) m := by
  subst hq
  obtain ⟨n, k⟩ := k
  exact xx_mk h ⟨hb, k⟩
theorem xx_irem {a b : Int} (h : xi i pc = some (.irem, 1)) (hq : pc + 1 = q) (hb : ¬ b = 0) (k : XX C i Q q loc (.inl (xrem a b) :: st) m) : XX C i Q pc loc (.inl b :: .inl a :: st) m := by
  subst hq
  obtain ⟨n, k⟩ := k
  exact xx_mk h ⟨hb, k⟩
theorem xx_iand {a b : Int} (h : xi i pc = some (.iand, 1)) (hq : pc + 1 = q) (k : XX C i Q q loc (.inl (xand a b) :: st) m) : XX C i Q pc loc (.inl b :: .inl a :: st) m := by
  subst hq
  obtain ⟨n, k⟩ := k
  exact xx_mk h k
theorem xx_ior {a b : Int} (h : xi i pc = some (.ior, 1)) (hq : pc + 1 = q) (k : XX C i Q q loc (.inl (xor_ a b) :: st) m) : XX C i Q pc loc (.inl b :: .inl a :: st) m := by
  subst hq
  obtain ⟨n, k⟩ := k
  exact xx_mk h k
theorem xx_ixor {a b : Int} (h : xi i pc = some (.ixor, 1)) (hq : pc + 1 = q) (k : XX C i Q q loc (.inl (xxor a b) :: st) m) : XX C i Q pc loc (.inl b :: .inl a :: st) m := by
  subst hq
  obtain ⟨n, k⟩ := k
  exact xx_mk h k
theorem xx_ishl {a b : Int} (h : xi i pc = some (.ishl, 1)) (hq : pc + 1 = q) (k : XX C i Q q loc (.inl (xshl a b) :: st) m) : XX C i Q pc loc (.inl b :: .inl a :: st) m := by
  subst hq
  obtain ⟨n, k⟩ := k
  exact xx_mk h k
theorem xx_ishr {a b : Int} (h : xi i pc = some (.ishr, 1)) (hq : pc + 1 = q) (k : XX C i Q q loc (.inl (xshr a b) :: st) m) : XX C i Q pc loc (.inl b :: .inl a :: st) m := by
  subst hq
  obtain ⟨n, k⟩ := k
  exact xx_mk h k
theorem xx_iushr {a b : Int} (h : xi i pc = some (.iushr, 1)) (hq : pc + 1 = q) (k : XX C i Q q loc (.inl (xushr a b) :: st) m) : XX C i Q pc loc (.inl b :: .inl a :: st) m := by
  subst hq
  obtain ⟨n, k⟩ := k
  exact xx_mk h k
theorem xx_ineg {a : Int} (h : xi i pc = some (.ineg, 1)) (hq : pc + 1 = q) (k : XX C i Q q loc (.inl (nrm (-a)) :: st) m) : XX C i Q pc loc (.inl a :: st) m := by
  subst hq
  obtain ⟨n, k⟩ := k
  exact xx_mk h k
theorem xx_inegR {a : Int} (h : xi i pc = some (.ineg, 1)) (hq : pc + 1 = q) (h1 : -2147483648 < a) (h2 : a < 2147483648) (k : XX C i Q q loc (.inl (-a) :: st) m) : XX C i Q pc loc (.inl a :: st) m := by
  subst hq
  obtain ⟨n, k⟩ := k
  exact xx_mk h (show XW C i Q n (pc + 1) loc (.inl (nrm (-a)) :: st) m by rw [nrm_id ⟨by omega, by omega⟩]; exact k)
theorem xx_i2c {a : Int} (h : xi i pc = some (.i2c, 1)) (hq : pc + 1 = q) (k : XX C i Q q loc (.inl (xi2c a) :: st) m) : XX C i Q pc loc (.inl a :: st) m := by
  subst hq
  obtain ⟨n, k⟩ := k
  exact xx_mk h k
theorem xx_i2b {a : Int} (h : xi i pc = some (.i2b, 1)) (hq : pc + 1 = q) (k : XX C i Q q loc (.inl (xi2b a) :: st) m) : XX C i Q pc loc (.inl a :: st) m := by
  subst hq
  obtain ⟨n, k⟩ := k
  exact xx_mk h k
theorem xx_dup {v : XV} (h : xi i pc = some (.dup, 1)) (hq : pc + 1 = q) (k : XX C i Q q loc (v :: v :: st) m) : XX C i Q pc loc (v :: st) m := by
  subst hq
  obtain ⟨n, k⟩ := k
  exact xx_mk h k
theorem xx_dup2 {v w : XV} (h : xi i pc = some (.dup2, 1)) (hq : pc + 1 = q) (k : XX C i Q q loc (v :: w :: v :: w :: st) m) : XX C i Q pc loc (v :: w :: st) m := by
  subst hq
  obtain ⟨n, k⟩ := k
  exact xx_mk h k
theorem xx_pop {v : XV} (h : xi i pc = some (.pop, 1)) (hq : pc + 1 = q) (k : XX C i Q q loc st m) : XX C i Q pc loc (v :: st) m := by
  subst hq
  obtain ⟨n, k⟩ := k
  exact xx_mk h k
theorem xx_goto {off : Int} (h : xi i pc = some (.goto off, 3)) (hq : (pc : Int) + off = (q : Int)) (k : XX C i Q q loc st m) : XX C i Q pc loc st m := by
  obtain ⟨n, k⟩ := k
  exact xx_mk h ⟨q, hq, k⟩
theorem xx_if_eq {a : Int} {off : Int} {q2 : Nat} (h : xi i pc = some (.ifCond .eq off, 3)) (hq : (pc : Int) + off = (q : Int)) (hq2 : pc + 3 = q2) (kt : a = 0 → XX C i Q q loc st m) (kf : ¬ a = 0 → XX C i Q q2 loc st m) : XX C i Q pc loc (.inl a :: st) m := by
  subst hq2
  by_cases hc : a = 0
  · obtain ⟨n, k⟩ := kt hc
    exact xx_mk h ⟨q, hq, fun _ => k, fun z => absurd hc z⟩
  · obtain ⟨n, k⟩ := kf hc
    exact xx_mk h ⟨q, hq, fun z => absurd z hc, fun _ => k⟩
theorem xx_icmp_eq {a b : Int} {off : Int} {q2 : Nat} (h : xi i pc = some (.if_icmp .eq off, 3)) (hq : (pc : Int) + off = (q : Int)) (hq2 : pc + 3 = q2) (kt : a = b → XX C i Q q loc st m) (kf : ¬ a = b → XX C i Q q2 loc st m) : XX C i Q pc loc (.inl b :: .inl a :: st) m := by
  subst hq2
  by_cases hc : a = b
  · obtain ⟨n, k⟩ := kt hc
    exact xx_mk h ⟨q, hq, fun _ => k, fun z => absurd hc z⟩
  · obtain ⟨n, k⟩ := kf hc
    exact xx_mk h ⟨q, hq, fun z => absurd z hc, fun _ => k⟩
theorem xx_if_ne {a : Int} {off : Int} {q2 : Nat} (h : xi i pc = some (.ifCond .ne off, 3)) (hq : (pc : Int) + off = (q : Int)) (hq2 : pc + 3 = q2) (kt : ¬ a = 0 → XX C i Q q loc st m) (kf : a = 0 → XX C i Q q2 loc st m) : XX C i Q pc loc (.inl a :: st) m := by
  subst hq2
  by_cases hc : ¬ a = 0
  · obtain ⟨n, k⟩ := kt hc
    exact xx_mk h ⟨q, hq, fun _ => k, fun z => absurd hc z⟩
  · obtain ⟨n, k⟩ := kf (Classical.not_not.mp hc)
    exact xx_mk h ⟨q, hq, fun z => absurd z hc, fun _ => k⟩
theorem xx_icmp_ne {a b : Int} {off : Int} {q2 : Nat} (h : xi i pc = some (.if_icmp .ne off, 3)) (hq : (pc : Int) + off = (q : Int)) (hq2 : pc + 3 = q2) (kt : ¬ a = b → XX C i Q q loc st m) (kf : a = b → XX C i Q q2 loc st m) : XX C i Q pc loc (.inl b :: .inl a :: st) m := by
  subst hq2
  by_cases hc : ¬ a = b
  · obtain ⟨n, k⟩ := kt hc
    exact xx_mk h ⟨q, hq, fun _ => k, fun z => absurd hc z⟩
  · obtain ⟨n, k⟩ := kf (Classical.not_not.mp hc)
    exact xx_mk h ⟨q, hq, fun z => absurd z hc, fun _ => k⟩
theorem xx_if_lt {a : Int} {off : Int} {q2 : Nat} (h : xi i pc = some (.ifCond .lt off, 3)) (hq : (pc : Int) + off = (q : Int)) (hq2 : pc + 3 = q2) (kt : a < 0 → XX C i Q q loc st m) (kf : ¬ a < 0 → XX C i Q q2 loc st m) : XX C i Q pc loc (.inl a :: st) m := by
  subst hq2
  by_cases hc : a < 0
  · obtain ⟨n, k⟩ := kt hc
    exact xx_mk h ⟨q, hq, fun _ => k, fun z => absurd hc z⟩
  · obtain ⟨n, k⟩ := kf hc
    exact xx_mk h ⟨q, hq, fun z => absurd z hc, fun _ => k⟩
theorem xx_icmp_lt {a b : Int} {off : Int} {q2 : Nat} (h : xi i pc = some (.if_icmp .lt off, 3)) (hq : (pc : Int) + off = (q : Int)) (hq2 : pc + 3 = q2) (kt : a < b → XX C i Q q loc st m) (kf : ¬ a < b → XX C i Q q2 loc st m) : XX C i Q pc loc (.inl b :: .inl a :: st) m := by
  subst hq2
  by_cases hc : a < b
  · obtain ⟨n, k⟩ := kt hc
    exact xx_mk h ⟨q, hq, fun _ => k, fun z => absurd hc z⟩
  · obtain ⟨n, k⟩ := kf hc
    exact xx_mk h ⟨q, hq, fun z => absurd z hc, fun _ => k⟩
theorem xx_if_ge {a : Int} {off : Int} {q2 : Nat} (h : xi i pc = some (.ifCond .ge off, 3)) (hq : (pc : Int) + off = (q : Int)) (hq2 : pc + 3 = q2) (kt : 0 ≤ a → XX C i Q q loc st m) (kf : ¬ 0 ≤ a → XX C i Q q2 loc st m) : XX C i Q pc loc (.inl a :: st) m := by
  subst hq2
  by_cases hc : 0 ≤ a
  · obtain ⟨n, k⟩ := kt hc
    exact xx_mk h ⟨q, hq, fun _ => k, fun z => absurd hc z⟩
  · obtain ⟨n, k⟩ := kf hc
    exact xx_mk h ⟨q, hq, fun z => absurd z hc, fun _ => k⟩
theorem xx_icmp_ge {a b : Int} {off : Int} {q2 : Nat} (h : xi i pc = some (.if_icmp .ge off, 3)) (hq : (pc : Int) + off = (q : Int)) (hq2 : pc + 3 = q2) (kt : b ≤ a → XX C i Q q loc st m) (kf : ¬ b ≤ a → XX C i Q q2 loc st m) : XX C i Q pc loc (.inl b :: .inl a :: st) m := by
  subst hq2
  by_cases hc : b ≤ a
  · obtain ⟨n, k⟩ := kt hc
    exact xx_mk h ⟨q, hq, fun _ => k, fun z => absurd hc z⟩
  · obtain ⟨n, k⟩ := kf hc
    exact xx_mk h ⟨q, hq, fun z => absurd z hc, fun _ => k⟩
theorem xx_if_gt {a : Int} {off : Int} {q2 : Nat} (h : xi i pc = some (.ifCond .gt off, 3)) (hq : (pc : Int) + off = (q : Int)) (hq2 : pc + 3 = q2) (kt : 0 < a → XX C i Q q loc st m) (kf : ¬ 0 < a → XX C i Q q2 loc st m) : XX C i Q pc loc (.inl a :: st) m := by
  subst hq2
  by_cases hc : 0 < a
  · obtain ⟨n, k⟩ := kt hc
    exact xx_mk h ⟨q, hq, fun _ => k, fun z => absurd hc z⟩
  · obtain ⟨n, k⟩ := kf hc
    exact xx_mk h ⟨q, hq, fun z => absurd z hc, fun _ => k⟩
theorem xx_icmp_gt {a b : Int} {off : Int} {q2 : Nat} (h : xi i pc = some (.if_icmp .gt off, 3)) (hq : (pc : Int) + off = (q : Int)) (hq2 : pc + 3 = q2) (kt : b < a → XX C i Q q loc st m) (kf : ¬ b < a → XX C i Q q2 loc st m) : XX C i Q pc loc (.inl b :: .inl a :: st) m := by
  subst hq2
  by_cases hc : b < a
  · obtain ⟨n, k⟩ := kt hc
    exact xx_mk h ⟨q, hq, fun _ => k, fun z => absurd hc z⟩
  · obtain ⟨n, k⟩ := kf hc
    exact xx_mk h ⟨q, hq, fun z => absurd z hc, fun _ => k⟩
theorem xx_if_le {a : Int} {off : Int} {q2 : Nat} (h : xi i pc = some (.ifCond .le off, 3)) (hq : (pc : Int) + off = (q : Int)) (hq2 : pc + 3 = q2) (kt : a ≤ 0 → XX C i Q q loc st m) (kf : ¬ a ≤ 0 → XX C i Q q2 loc st m) : XX C i Q pc loc (.inl a :: st) m := by
  subst hq2
  by_cases hc : a ≤ 0
  · obtain ⟨n, k⟩ := kt hc
    exact xx_mk h ⟨q, hq, fun _ => k, fun z => absurd hc z⟩
  · obtain ⟨n, k⟩ := kf hc
    exact xx_mk h ⟨q, hq, fun z => absurd z hc, fun _ => k⟩
theorem xx_icmp_le {a b : Int} {off : Int} {q2 : Nat} (h : xi i pc = some (.if_icmp .le off, 3)) (hq : (pc : Int) + off = (q : Int)) (hq2 : pc + 3 = q2) (kt : a ≤ b → XX C i Q q loc st m) (kf : ¬ a ≤ b → XX C i Q q2 loc st m) : XX C i Q pc loc (.inl b :: .inl a :: st) m := by
  subst hq2
  by_cases hc : a ≤ b
  · obtain ⟨n, k⟩ := kt hc
    exact xx_mk h ⟨q, hq, fun _ => k, fun z => absurd hc z⟩
  · obtain ⟨n, k⟩ := kf hc
    exact xx_mk h ⟨q, hq, fun z => absurd z hc, fun _ => k⟩
theorem xx_ifnull {a : Nat} {off : Int} (h : xi i pc = some (.ifnull off, 3)) (hq : pc + 3 = q) (k : XX C i Q q loc st m) : XX C i Q pc loc (.inr (some a) :: st) m := by
  subst hq
  obtain ⟨n, k⟩ := k
  exact xx_mk h k
theorem xx_ifnullN {off : Int} (h : xi i pc = some (.ifnull off, 3)) (hq : (pc : Int) + off = (q : Int)) (k : XX C i Q q loc st m) : XX C i Q pc loc (.inr none :: st) m := by
  obtain ⟨n, k⟩ := k
  exact xx_mk h ⟨q, hq, k⟩
theorem xx_swOut {df lo hi : Int} {offs : Array Int} {len : Nat} {z : Int} (h : xi i pc = some (.tableswitch df lo hi offs, len)) (hz : z < lo ∨ hi < z) (hq : (pc : Int) + df = (q : Int)) (k : XX C i Q q loc st m) : XX C i Q pc loc (.inl z :: st) m := by
  obtain ⟨n, k⟩ := k
  exact xx_mk h ⟨q, fun _ => hq, fun h1 h2 => (hz.elim h1 h2).elim, k⟩
theorem xx_swIn {df lo hi : Int} {offs : Array Int} {len : Nat} {z off : Int} (h : xi i pc = some (.tableswitch df lo hi offs, len)) (h1 : ¬ z < lo) (h2 : ¬ hi < z) (ho : offs[(z - lo).toNat]? = some off) (hq : (pc : Int) + off = (q : Int)) (k : XX C i Q q loc st m) : XX C i Q pc loc (.inl z :: st) m := by
  obtain ⟨n, k⟩ := k
  exact xx_mk h ⟨q, fun h => (h.elim h1 h2).elim, fun _ _ => ⟨off, ho, hq⟩, k⟩
end XXs
section XXm
variable {C : XCal} {i : Nat} {Q : Option XV → XM → Prop} {pc q : Nat} {loc : XLc} {st : List XV} {sh : List (Nat × Nat)} {rf : Nat → Nat → Option Nat} {dt : Nat → Nat → Int}
theorem xx_getI {idx a ci kf pl N : Nat} (h : xi i pc = some (.getfield idx, 3)) (hq : pc + 3 = q) (hl : xlk (xfo (xow i)) idx = some (ci, kf, pl)) (hs : sh[a]? = some (ci + 2, N)) (hk : kf < N) (ht : Nat.beq (xft ci kf) 2 = false) (k : XX C i Q q loc (.inl (dt a kf) :: st) (sh, rf, dt)) : XX C i Q pc loc (.inr (some a) :: st) (sh, rf, dt) := by
  subst hq
  obtain ⟨n, k⟩ := k
  exact xx_mk h ⟨_, _, hl, hs, hk, by dsimp only; rw [ht]; exact k⟩
theorem xx_getR {idx a ci kf pl N : Nat} {b : Option Nat} (h : xi i pc = some (.getfield idx, 3)) (hq : pc + 3 = q) (hl : xlk (xfo (xow i)) idx = some (ci, kf, pl)) (hs : sh[a]? = some (ci + 2, N)) (hk : kf < N) (ht : Nat.beq (xft ci kf) 2 = true) (hr : rf a kf = b) (k : XX C i Q q loc (.inr b :: st) (sh, rf, dt)) : XX C i Q pc loc (.inr (some a) :: st) (sh, rf, dt) := by
  subst hq
  obtain ⟨n, k⟩ := k
  exact xx_mk h ⟨_, _, hl, hs, hk, by dsimp only; rw [ht, hr]; exact k⟩
theorem xx_putI {idx a ci kf pl N : Nat} {z : Int} (h : xi i pc = some (.putfield idx, 3)) (hq : pc + 3 = q) (hl : xlk (xfo (xow i)) idx = some (ci, kf, pl)) (hs : sh[a]? = some (ci + 2, N)) (hk : kf < N) (hc : ci < 13) (hf : xff ci kf = true → xow i = ci ∧ (xpl i).2.2.2.2 = 3) (ht : xft ci kf = 0 ∨ (xft ci kf = 1 ∧ (z = 0 ∨ z = 1))) (k : XX C i Q q loc st (sh, rf, xui dt a kf z)) : XX C i Q pc loc (.inl z :: .inr (some a) :: st) (sh, rf, dt) := by
  subst hq
  obtain ⟨n, k⟩ := k
  exact xx_mk h ⟨_, _, hl, hs, hk, hc, hf, ht, k⟩
theorem xx_putR {idx a ci kf pl N : Nat} {o : Option Nat} (h : xi i pc = some (.putfield idx, 3)) (hq : pc + 3 = q) (hl : xlk (xfo (xow i)) idx = some (ci, kf, pl)) (hs : sh[a]? = some (ci + 2, N)) (hk : kf < N) (hc : ci < 13) (hf : xff ci kf = true → xow i = ci ∧ (xpl i).2.2.2.2 = 3) (ht : xft ci kf = 2) (k : XX C i Q q loc st (sh, xur rf a kf o, dt)) : XX C i Q pc loc (.inr o :: .inr (some a) :: st) (sh, rf, dt) := by
  subst hq
  obtain ⟨n, k⟩ := k
  exact xx_mk h ⟨_, _, hl, hs, hk, hc, hf, ht, k⟩
theorem xx_gets (h : xi i pc = some (.getstatic 38, 3)) (hq : pc + 3 = q) (hw : xow i = 14) (k : XX C i Q q loc (.inl 1 :: st) (sh, rf, dt)) : XX C i Q pc loc st (sh, rf, dt) := by
  subst hq
  obtain ⟨n, k⟩ := k
  exact xx_mk h ⟨hw, rfl, k⟩
theorem xx_ial {a N j : Nat} {z : Int} (h : xi i pc = some (.iaload, 1)) (hq : pc + 1 = q) (hs : sh[a]? = some (0, N)) (hj : z = (j : Int)) (hb : j < N) (k : XX C i Q q loc (.inl (dt a j) :: st) (sh, rf, dt)) : XX C i Q pc loc (.inl z :: .inr (some a) :: st) (sh, rf, dt) := by
  subst hq
  obtain ⟨n, k⟩ := k
  exact xx_mk h ⟨N, Or.inl hs, by omega, by omega, by subst hj; rw [Int.toNat_natCast]; exact k⟩
theorem xx_sal {a N j : Nat} {z : Int} (h : xi i pc = some (.iaload, 1)) (hq : pc + 1 = q) (hs : sh[a]? = some (20, N)) (hj : z = (j : Int)) (hb : j < N) (k : XX C i Q q loc (.inl (dt a j) :: st) (sh, rf, dt)) : XX C i Q pc loc (.inl z :: .inr (some a) :: st) (sh, rf, dt) := by
  subst hq
  obtain ⟨n, k⟩ := k
  exact xx_mk h ⟨N, Or.inr hs, by omega, by omega, by subst hj; rw [Int.toNat_natCast]; exact k⟩
theorem xx_bal {a N j : Nat} {z : Int} (h : xi i pc = some (.baload, 1)) (hq : pc + 1 = q) (hs : sh[a]? = some (22, N)) (hj : z = (j : Int)) (hb : j < N) (k : XX C i Q q loc (.inl (dt a j) :: st) (sh, rf, dt)) : XX C i Q pc loc (.inl z :: .inr (some a) :: st) (sh, rf, dt) := by
  subst hq
  obtain ⟨n, k⟩ := k
  exact xx_mk h ⟨N, hs, by omega, by omega, by subst hj; rw [Int.toNat_natCast]; exact k⟩
theorem xx_aal {a N j : Nat} {z : Int} {o : Option Nat} (h : xi i pc = some (.aaload, 1)) (hq : pc + 1 = q) (hs : sh[a]? = some (1, N)) (hj : z = (j : Int)) (hb : j < N) (hr : rf a j = o) (k : XX C i Q q loc (.inr o :: st) (sh, rf, dt)) : XX C i Q pc loc (.inl z :: .inr (some a) :: st) (sh, rf, dt) := by
  subst hq
  obtain ⟨n, k⟩ := k
  exact xx_mk h ⟨N, hs, by omega, by omega, by subst hj; rw [Int.toNat_natCast]; dsimp only; rw [hr]; exact k⟩
theorem xx_ias {a N j : Nat} {z v : Int} (h : xi i pc = some (.iastore, 1)) (hq : pc + 1 = q) (hs : sh[a]? = some (0, N)) (hj : z = (j : Int)) (hb : j < N) (k : XX C i Q q loc st (sh, rf, xui dt a j v)) : XX C i Q pc loc (.inl v :: .inl z :: .inr (some a) :: st) (sh, rf, dt) := by
  subst hq
  obtain ⟨n, k⟩ := k
  exact xx_mk h ⟨N, hs, by omega, by omega, by subst hj; rw [Int.toNat_natCast]; exact k⟩
theorem xx_aas {a N N2 j v : Nat} {z : Int} (h : xi i pc = some (.aastore, 1)) (hq : pc + 1 = q) (hs : sh[a]? = some (1, N)) (hv : sh[v]? = some (3, N2)) (hj : z = (j : Int)) (hb : j < N) (k : XX C i Q q loc st (sh, xur rf a j (some v), dt)) : XX C i Q pc loc (.inr (some v) :: .inl z :: .inr (some a) :: st) (sh, rf, dt) := by
  subst hq
  obtain ⟨n, k⟩ := k
  exact xx_mk h ⟨N, N2, hs, hv, by omega, by omega, by subst hj; rw [Int.toNat_natCast]; exact k⟩
theorem xx_alen {a N kd : Nat} (h : xi i pc = some (.arraylength, 1)) (hq : pc + 1 = q) (hs : sh[a]? = some (kd, N)) (hk : kd = 0 ∨ kd = 1 ∨ kd = 20 ∨ kd = 22) (hN : N < 2147483648) (k : XX C i Q q loc (.inl (N : Int) :: st) (sh, rf, dt)) : XX C i Q pc loc (.inr (some a) :: st) (sh, rf, dt) := by
  subst hq
  obtain ⟨n, k⟩ := k
  exact xx_mk h ⟨N, by rcases hk with rfl | rfl | rfl | rfl; exact Or.inl hs; exact Or.inr (Or.inl hs); exact Or.inr (Or.inr (Or.inl hs)); exact Or.inr (Or.inr (Or.inr hs)), hN, k⟩
theorem xx_callV {idx a j pl kd N : Nat} {As rest st2 : List XV} {r : Option XV} {m m2 : XM} (h : xi i pc = some (.invokevirtual idx, 3)) (hq : pc + 3 = q) (hl : xlk (xmo (xow i)) idx = some (kd, j, pl)) (hk : kd = 0 ∨ kd = 3) (hst : st = List.reverse As ++ .inr (some a) :: rest) (hn : As.length = xna j) (hr : rest.length ≤ 8) (hs : m.1[a]? = some (xrk j, N)) (hc : C j (.inr (some a) :: As) m r m2) (h2 : r.toList ++ rest = st2) (k : XX C i Q q loc st2 m2) : XX C i Q pc loc st m := by
  subst hq
  subst h2
  obtain ⟨n, k⟩ := k
  exact xx_mk h ⟨_, As, a, rest, r, m2, N, hl, hk, hst, hn, hr, hs, hc, k⟩
theorem xx_callI {idx a j pl kd : Nat} {As rest : List XV} {m m2 : XM} (h : xi i pc = some (.invokespecial idx, 3)) (hq : pc + 3 = q) (hl : xlk (xmo (xow i)) idx = some (kd, j, pl)) (hk : kd = 1 ∨ kd = 4) (hst : st = List.reverse As ++ .inr (some a) :: rest) (hn : As.length = xna j) (hr : rest.length ≤ 8) (hc : C j (.inr (some a) :: As) m none m2) (k : XX C i Q q loc rest m2) : XX C i Q pc loc st m := by
  subst hq
  obtain ⟨n, k⟩ := k
  exact xx_mk h (Or.inl ⟨_, As, a, rest, m2, hl, hk, hst, hn, hr, hc, k⟩)
theorem xx_objI {idx a j pl : Nat} {rest : List XV} {m : XM} (h : xi i pc = some (.invokespecial idx, 3)) (hq : pc + 3 = q) (hl : xlk (xmo (xow i)) idx = some (6, j, pl)) (hr : rest.length ≤ 8) (k : XX C i Q q loc rest m) : XX C i Q pc loc (.inr (some a) :: rest) m := by
  subst hq
  obtain ⟨n, k⟩ := k
  exact xx_mk h (Or.inr ⟨_, a, rest, hl, rfl, rfl, hr, k⟩)
theorem xx_callS {idx j pl kd : Nat} {As rest st2 : List XV} {r : Option XV} {m m2 : XM} (h : xi i pc = some (.invokestatic idx, 3)) (hq : pc + 3 = q) (hl : xlk (xmo (xow i)) idx = some (kd, j, pl)) (hk : kd = 2 ∨ kd = 5) (hst : st = List.reverse As ++ rest) (hn : As.length = xna j) (hr : rest.length ≤ 8) (hc : C j As m r m2) (h2 : r.toList ++ rest = st2) (k : XX C i Q q loc st2 m2) : XX C i Q pc loc st m := by
  subst hq
  subst h2
  obtain ⟨n, k⟩ := k
  exact xx_mk h (Or.inl ⟨_, As, rest, r, m2, hl, hk, hst, hn, hr, hc, k⟩)
theorem xx_copy {idx j pl : Nat} {z dp sp : Int} {a b na nb zn dn sn : Nat} {rest : List XV} (h : xi i pc = some (.invokestatic idx, 3)) (hq : pc + 3 = q) (hl : xlk (xmo (xow i)) idx = some (7, j, pl)) (ha : sh[a]? = some (0, na)) (hb : sh[b]? = some (0, nb)) (hz : z = (zn : Int)) (hd : dp = (dn : Int)) (hs : sp = (sn : Int)) (h1 : sn + zn ≤ na) (h2 : dn + zn ≤ nb) (hr : rest.length ≤ 8) (k : XX C i Q q loc rest (sh, rf, xcp dt a sn b dn zn)) : XX C i Q pc loc (.inl z :: .inl dp :: .inr (some b) :: .inl sp :: .inr (some a) :: rest) (sh, rf, dt) := by
  subst hq; subst hz; subst hd; subst hs
  obtain ⟨n, k⟩ := k
  exact xx_mk h (Or.inr (Or.inl ⟨_, _, _, b, _, a, rest, na, nb, hl, rfl, rfl, ha, hb, by omega, by omega, by omega, by omega, by omega, hr, by simp only [Int.toNat_natCast]; exact k⟩))
theorem xx_chki {idx j pl : Nat} {z y : Int} {rest : List XV} {m : XM} (h : xi i pc = some (.invokestatic idx, 3)) (hq : pc + 3 = q) (hl : xlk (xmo (xow i)) idx = some (8, j, pl)) (h1 : 0 ≤ y) (h2 : y < z) (hr : rest.length ≤ 8) (k : XX C i Q q loc rest m) : XX C i Q pc loc (.inl z :: .inl y :: rest) m := by
  subst hq
  obtain ⟨n, k⟩ := k
  exact xx_mk h (Or.inr (Or.inr (Or.inl ⟨_, z, y, rest, hl, rfl, rfl, h1, h2, hr, k⟩)))
theorem xx_max {idx j pl : Nat} {a b : Int} {rest : List XV} {m : XM} (h : xi i pc = some (.invokestatic idx, 3)) (hq : pc + 3 = q) (hl : xlk (xmo (xow i)) idx = some (9, j, pl)) (hr : rest.length ≤ 8) (k : XX C i Q q loc (.inl (if a < b then b else a) :: rest) m) : XX C i Q pc loc (.inl b :: .inl a :: rest) m := by
  subst hq
  obtain ⟨n, k⟩ := k
  exact xx_mk h (Or.inr (Or.inr (Or.inr (Or.inl ⟨_, a, b, rest, hl, rfl, rfl, hr, k⟩))))
theorem xx_min {idx j pl : Nat} {a b : Int} {rest : List XV} {m : XM} (h : xi i pc = some (.invokestatic idx, 3)) (hq : pc + 3 = q) (hl : xlk (xmo (xow i)) idx = some (10, j, pl)) (hr : rest.length ≤ 8) (k : XX C i Q q loc (.inl (if b < a then b else a) :: rest) m) : XX C i Q pc loc (.inl b :: .inl a :: rest) m := by
  subst hq
  obtain ⟨n, k⟩ := k
  exact xx_mk h (Or.inr (Or.inr (Or.inr (Or.inr ⟨_, a, b, rest, hl, rfl, rfl, hr, k⟩))))
theorem xx_new {idx ci pl : Nat} {m : XM} (h : xi i pc = some (.new idx, 3)) (hq : pc + 3 = q) (hl : xlk (xco (xow i)) idx = some (ci, pl)) (k : XX C i Q q loc (.inr (some m.1.length) :: st) (xpush m (ci + 2) (xfn ci))) : XX C i Q pc loc st m := by
  subst hq
  obtain ⟨n, k⟩ := k
  exact xx_mk h ⟨_, hl, k⟩
theorem xx_newa {z : Int} {zn : Nat} {m : XM} (h : xi i pc = some (.newarray .int, 2)) (hq : pc + 2 = q) (hz : z = (zn : Int)) (h1 : zn ≤ 100000) (k : XX C i Q q loc (.inr (some m.1.length) :: st) (xpush m 0 zn)) : XX C i Q pc loc (.inl z :: st) m := by
  subst hq; subst hz
  obtain ⟨n, k⟩ := k
  exact xx_mk h ⟨by omega, by omega, by rw [Int.toNat_natCast]; exact k⟩
theorem xx_newq {idx pl : Nat} {z : Int} {zn : Nat} {m : XM} (h : xi i pc = some (.anewarray idx, 3)) (hq : pc + 3 = q) (hl : xlk (xco (xow i)) idx = some (1, pl)) (hz : z = (zn : Int)) (h1 : zn ≤ 100000) (k : XX C i Q q loc (.inr (some m.1.length) :: st) (xpush m 1 zn)) : XX C i Q pc loc (.inl z :: st) m := by
  subst hq; subst hz
  obtain ⟨n, k⟩ := k
  exact xx_mk h ⟨by omega, by omega, ⟨_, hl, rfl⟩, by rw [Int.toNat_natCast]; exact k⟩
theorem xx_iret {z : Int} {m : XM} (h : xi i pc = some (.ireturn, 1)) (hr : xrok (xrt i) z) (k : Q (some (.inl z)) m) : XX C i Q pc loc [.inl z] m := xx_mk (n := 0) h ⟨hr, k⟩
theorem xx_aret {o : Option Nat} {nm : String} {m : XM} (h : xi i pc = some (.areturn, 1)) (hr : xrt i = some (.object nm)) (k : Q (some (.inr o)) m) : XX C i Q pc loc [.inr o] m := xx_mk (n := 0) h ⟨⟨nm, hr⟩, k⟩
theorem xx_vret {m : XM} (h : xi i pc = some (.return_, 1)) (hr : xrt i = none) (k : Q none m) : XX C i Q pc loc [] m := xx_mk (n := 0) h ⟨rfl, hr, k⟩
end XXm
theorem XC_of {d i : Nat} {args : List XV} {m : XM} {r : Option XV} {m' : XM} (hi : i < 316) (ha : args.length ≤ xml i) {loc : XLc} (hl : xent i args = loc) (h : XX (XC d) i (fun r2 m2 => r2 = r ∧ m2 = m') 0 loc [] m) : XC (d + 1) i args m r m' := ⟨hi, ha, by obtain ⟨n, h⟩ := h; exact ⟨n, hl ▸ h⟩⟩
