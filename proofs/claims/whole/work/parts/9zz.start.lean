/-! The constructors, run by the kernel. -/
def R00 (a k : Nat) : Option Nat := bif Nat.blt a 5 then rT a k else none
theorem blt_f {a x : Nat} (h : x ≤ a) : Nat.blt a x = false := by
  cases e : Nat.blt a x with
  | false => rfl
  | true =>
    have h2 : a + 1 ≤ x := Nat.le_of_ble_eq_true e
    omega
theorem beq_f {a x : Nat} (h : ¬ a = x) : Nat.beq a x = false := by
  cases e : Nat.beq a x with
  | false => rfl
  | true => exact absurd (Nat.eq_of_beq_eq_true e) h
set_option maxRecDepth 100000 in
set_option maxHeartbeats 4000000 in
theorem rT_66 {a k : Nat} (h : 66 ≤ k) : rT a k = none := by
  have b1 : Nat.blt k 1 = false := blt_f (by omega)
  have b2 : Nat.blt k 2 = false := blt_f (by omega)
  have b3 : Nat.blt k 3 = false := blt_f (by omega)
  have b4 : Nat.blt k 4 = false := blt_f (by omega)
  have b5 : Nat.blt k 5 = false := blt_f (by omega)
  have b6 : Nat.blt k 6 = false := blt_f (by omega)
  have b7 : Nat.blt k 7 = false := blt_f (by omega)
  have b8 : Nat.blt k 8 = false := blt_f (by omega)
  have b9 : Nat.blt k 9 = false := blt_f (by omega)
  have b10 : Nat.blt k 10 = false := blt_f (by omega)
  have b11 : Nat.blt k 11 = false := blt_f (by omega)
  have b12 : Nat.blt k 12 = false := blt_f (by omega)
  have b13 : Nat.blt k 13 = false := blt_f (by omega)
  have b14 : Nat.blt k 14 = false := blt_f (by omega)
  have b15 : Nat.blt k 15 = false := blt_f (by omega)
  have b16 : Nat.blt k 16 = false := blt_f (by omega)
  have b17 : Nat.blt k 17 = false := blt_f (by omega)
  have b18 : Nat.blt k 18 = false := blt_f (by omega)
  have b19 : Nat.blt k 19 = false := blt_f (by omega)
  have b20 : Nat.blt k 20 = false := blt_f (by omega)
  have b21 : Nat.blt k 21 = false := blt_f (by omega)
  have b22 : Nat.blt k 22 = false := blt_f (by omega)
  have b23 : Nat.blt k 23 = false := blt_f (by omega)
  have b29 : Nat.blt k 29 = false := blt_f (by omega)
  have b30 : Nat.blt k 30 = false := blt_f (by omega)
  have b31 : Nat.blt k 31 = false := blt_f (by omega)
  have b32 : Nat.blt k 32 = false := blt_f (by omega)
  have b33 : Nat.blt k 33 = false := blt_f (by omega)
  have b34 : Nat.blt k 34 = false := blt_f (by omega)
  have b35 : Nat.blt k 35 = false := blt_f (by omega)
  have b36 : Nat.blt k 36 = false := blt_f (by omega)
  have b40 : Nat.blt k 40 = false := blt_f (by omega)
  have b46 : Nat.blt k 46 = false := blt_f (by omega)
  have b49 : Nat.blt k 49 = false := blt_f (by omega)
  have b50 : Nat.blt k 50 = false := blt_f (by omega)
  have b55 : Nat.blt k 55 = false := blt_f (by omega)
  have b56 : Nat.blt k 56 = false := blt_f (by omega)
  have b59 : Nat.blt k 59 = false := blt_f (by omega)
  have b60 : Nat.blt k 60 = false := blt_f (by omega)
  have b61 : Nat.blt k 61 = false := blt_f (by omega)
  have b65 : Nat.blt k 65 = false := blt_f (by omega)
  have e0 : Nat.beq k 0 = false := beq_f (by omega)
  have e1 : Nat.beq k 1 = false := beq_f (by omega)
  have e2 : Nat.beq k 2 = false := beq_f (by omega)
  have e3 : Nat.beq k 3 = false := beq_f (by omega)
  have e4 : Nat.beq k 4 = false := beq_f (by omega)
  have e5 : Nat.beq k 5 = false := beq_f (by omega)
  have e6 : Nat.beq k 6 = false := beq_f (by omega)
  have e7 : Nat.beq k 7 = false := beq_f (by omega)
  have e8 : Nat.beq k 8 = false := beq_f (by omega)
  have e9 : Nat.beq k 9 = false := beq_f (by omega)
  have e10 : Nat.beq k 10 = false := beq_f (by omega)
  have e11 : Nat.beq k 11 = false := beq_f (by omega)
  have e12 : Nat.beq k 12 = false := beq_f (by omega)
  have e13 : Nat.beq k 13 = false := beq_f (by omega)
  have e14 : Nat.beq k 14 = false := beq_f (by omega)
  have e15 : Nat.beq k 15 = false := beq_f (by omega)
  have e16 : Nat.beq k 16 = false := beq_f (by omega)
  have e17 : Nat.beq k 17 = false := beq_f (by omega)
  have e18 : Nat.beq k 18 = false := beq_f (by omega)
  have e19 : Nat.beq k 19 = false := beq_f (by omega)
  have e20 : Nat.beq k 20 = false := beq_f (by omega)
  have e21 : Nat.beq k 21 = false := beq_f (by omega)
  have e22 : Nat.beq k 22 = false := beq_f (by omega)
  have e23 : Nat.beq k 23 = false := beq_f (by omega)
  have e29 : Nat.beq k 29 = false := beq_f (by omega)
  have e30 : Nat.beq k 30 = false := beq_f (by omega)
  have e31 : Nat.beq k 31 = false := beq_f (by omega)
  have e32 : Nat.beq k 32 = false := beq_f (by omega)
  have e33 : Nat.beq k 33 = false := beq_f (by omega)
  have e34 : Nat.beq k 34 = false := beq_f (by omega)
  have e35 : Nat.beq k 35 = false := beq_f (by omega)
  have e36 : Nat.beq k 36 = false := beq_f (by omega)
  have e40 : Nat.beq k 40 = false := beq_f (by omega)
  have e46 : Nat.beq k 46 = false := beq_f (by omega)
  have e49 : Nat.beq k 49 = false := beq_f (by omega)
  have e50 : Nat.beq k 50 = false := beq_f (by omega)
  have e55 : Nat.beq k 55 = false := beq_f (by omega)
  have e56 : Nat.beq k 56 = false := beq_f (by omega)
  have e59 : Nat.beq k 59 = false := beq_f (by omega)
  have e60 : Nat.beq k 60 = false := beq_f (by omega)
  have e61 : Nat.beq k 61 = false := beq_f (by omega)
  have e65 : Nat.beq k 65 = false := beq_f (by omega)
  unfold rT
  simp only [b1, b2, b3, b4, b5, b6, b7, b8, b9, b10, b11, b12, b13, b14, b15, b16, b17, b18, b19, b20, b21, b22, b23, b29, b30, b31, b32, b33, b34, b35, b36, b40, b46, b49, b50, b55, b56, b59, b60, b61, b65, e0, e1, e2, e3, e4, e5, e6, e7, e8, e9, e10, e11, e12, e13, e14, e15, e16, e17, e18, e19, e20, e21, e22, e23, e29, e30, e31, e32, e33, e34, e35, e36, e40, e46, e49, e50, e55, e56, e59, e60, e61, e65, cond_false, Bool.cond_self]
set_option maxRecDepth 100000 in
set_option maxHeartbeats 4000000 in
theorem rT_516 {a k : Nat} (h : 516 ≤ a) : rT a k = none := by
  have hblt216 : Nat.blt a 216 = false := blt_f (by omega)
  have hblt348 : Nat.blt a 348 = false := blt_f (by omega)
  have hblt417 : Nat.blt a 417 = false := blt_f (by omega)
  have hblt449 : Nat.blt a 449 = false := blt_f (by omega)
  have hblt468 : Nat.blt a 468 = false := blt_f (by omega)
  have hblt474 : Nat.blt a 474 = false := blt_f (by omega)
  have hblt479 : Nat.blt a 479 = false := blt_f (by omega)
  have hbeq479 : Nat.beq a 479 = false := beq_f (by omega)
  unfold rT
  rw [hblt216, hblt348, hblt417, hblt449, hblt468, hblt474, hblt479, hbeq479]
  rfl
def oc {α : Type} (x : α) (o : Option (List α)) : Option (List α) := match o with
  | some w => some (x :: w)
  | none => none
def clG {α : Type} : List (Nat × Option α) → Nat → Option (List α)
  | [], _ => none
  | (b, none) :: l, a => bif Nat.beq a b then some [] else clG l a
  | (b, some x) :: l, a => bif Nat.beq a b then oc x (clG l a) else clG l a
def lkO : List (Nat × Option Nat) → Nat → Option Nat
  | [], _ => none
  | (j, v) :: w, k => bif Nat.beq k j then v else lkO w k
def lkI : List (Nat × Int) → Nat → Int
  | [], _ => 0
  | (j, v) :: w, k => bif Nat.beq k j then v else lkI w k
theorem clG_R {R0 : Nat → Nat → Option Nat} : ∀ (l : LgR) {a : Nat} {w : List (Nat × Option Nat)} (k : Nat), clG l a = some w → dnR R0 l a k = lkO w k
  | [], _, _, _, h => by cases h
  | (b, none) :: l, a, w, k, h => by
    show (if a = b then none else dnR R0 l a k) = lkO w k
    have h : (bif Nat.beq a b then some [] else clG l a) = some w := h
    cases e : Nat.beq a b with
    | true =>
      rw [e] at h
      rw [if_pos (Nat.eq_of_beq_eq_true e)]
      cases h
      rfl
    | false =>
      rw [e] at h
      rw [if_neg (Nat.ne_of_beq_eq_false e)]
      exact clG_R l k h
  | (b, some (j, v)) :: l, a, w, k, h => by
    show (if a = b ∧ k = j then v else dnR R0 l a k) = lkO w k
    have h : (bif Nat.beq a b then oc (j, v) (clG l a) else clG l a) = some w := h
    cases e : Nat.beq a b with
    | true =>
      rw [e] at h
      have e2 := Nat.eq_of_beq_eq_true e
      cases hc : clG l a with
      | none => rw [hc] at h; cases h
      | some w2 =>
        rw [hc] at h
        cases h
        show _ = (bif Nat.beq k j then v else lkO w2 k)
        cases e3 : Nat.beq k j with
        | true => rw [if_pos ⟨e2, Nat.eq_of_beq_eq_true e3⟩]; rfl
        | false => rw [if_neg (fun q => Nat.ne_of_beq_eq_false e3 q.2)]; exact clG_R l k hc
    | false =>
      rw [e] at h
      rw [if_neg (fun q => Nat.ne_of_beq_eq_false e q.1)]
      exact clG_R l k h
theorem clG_D {D0 : KK} : ∀ (l : LgD) {a : Nat} {w : List (Nat × Int)} (k : Nat), clG l a = some w → dnD D0 l a k = lkI w k
  | [], _, _, _, h => by cases h
  | (b, none) :: l, a, w, k, h => by
    show (if a = b then 0 else dnD D0 l a k) = lkI w k
    have h : (bif Nat.beq a b then some [] else clG l a) = some w := h
    cases e : Nat.beq a b with
    | true =>
      rw [e] at h
      rw [if_pos (Nat.eq_of_beq_eq_true e)]
      cases h
      rfl
    | false =>
      rw [e] at h
      rw [if_neg (Nat.ne_of_beq_eq_false e)]
      exact clG_D l k h
  | (b, some (j, v)) :: l, a, w, k, h => by
    show (if a = b ∧ k = j then v else dnD D0 l a k) = lkI w k
    have h : (bif Nat.beq a b then oc (j, v) (clG l a) else clG l a) = some w := h
    cases e : Nat.beq a b with
    | true =>
      rw [e] at h
      have e2 := Nat.eq_of_beq_eq_true e
      cases hc : clG l a with
      | none => rw [hc] at h; cases h
      | some w2 =>
        rw [hc] at h
        cases h
        show _ = (bif Nat.beq k j then v else lkI w2 k)
        cases e3 : Nat.beq k j with
        | true => rw [if_pos ⟨e2, Nat.eq_of_beq_eq_true e3⟩]; rfl
        | false => rw [if_neg (fun q => Nat.ne_of_beq_eq_false e3 q.2)]; exact clG_D l k hc
    | false =>
      rw [e] at h
      rw [if_neg (fun q => Nat.ne_of_beq_eq_false e q.1)]
      exact clG_D l k h
theorem fr_R {R0 : Nat → Nat → Option Nat} : ∀ (l : LgR) {a : Nat} (k : Nat), (∀ x ∈ l, ¬ a = x.1) → dnR R0 l a k = R0 a k
  | [], _, _, _ => rfl
  | (b, none) :: l, a, k, h => by
    show (if a = b then none else dnR R0 l a k) = R0 a k
    rw [if_neg (h (b, none) List.mem_cons_self)]
    exact fr_R l k (fun x hx => h x (List.mem_cons_of_mem _ hx))
  | (b, some (j, v)) :: l, a, k, h => by
    show (if a = b ∧ k = j then v else dnR R0 l a k) = R0 a k
    rw [if_neg (fun q => h (b, some (j, v)) List.mem_cons_self q.1)]
    exact fr_R l k (fun x hx => h x (List.mem_cons_of_mem _ hx))
theorem fr_D {D0 : KK} : ∀ (l : LgD) {a : Nat} (k : Nat), (∀ x ∈ l, ¬ a = x.1) → dnD D0 l a k = D0 a k
  | [], _, _, _ => rfl
  | (b, none) :: l, a, k, h => by
    show (if a = b then 0 else dnD D0 l a k) = D0 a k
    rw [if_neg (h (b, none) List.mem_cons_self)]
    exact fr_D l k (fun x hx => h x (List.mem_cons_of_mem _ hx))
  | (b, some (j, v)) :: l, a, k, h => by
    show (if a = b ∧ k = j then v else dnD D0 l a k) = D0 a k
    rw [if_neg (fun q => h (b, some (j, v)) List.mem_cons_self q.1)]
    exact fr_D l k (fun x hx => h x (List.mem_cons_of_mem _ hx))
theorem lkO_66 : ∀ (w : List (Nat × Option Nat)) {k : Nat}, 66 ≤ k → (∀ x ∈ w, x.1 < 66) → lkO w k = none
  | [], _, _, _ => rfl
  | (j, v) :: w, k, hk, h => by
    show (bif Nat.beq k j then v else lkO w k) = none
    have hj : j < 66 := h (j, v) List.mem_cons_self
    rw [beq_f (by omega)]
    exact lkO_66 w hk (fun x hx => h x (List.mem_cons_of_mem _ hx))
def K00 : KK := fun o k => if klo o k ≤ 0 then 0 else klo o k
def K0 : KK := bgnK K00 4
def tbD (a k : Nat) : Int := bif Nat.blt a 45 && Nat.blt 26 a then K0 (a - 27) k else bif Nat.beq a 11 then (bif Nat.beq k 1 then 1 else 0) else bif Nat.beq a 474 then (bif Nat.beq k 2 then -1 else 0) else bif Nat.beq a 479 then (bif Nat.beq k 6 then 4 else bif Nat.beq k 45 then -1 else 0) else bif Nat.beq a 498 then RWD.getD k 0 else 0
def celN : List (Nat × Nat) := [(5, 6), (7, 7), (11, 7), (15, 6), (18, 7), (22, 10), (23, 10), (25, 2), (26, 750), (27, 4), (28, 10), (29, 9), (30, 9), (31, 9), (32, 9), (33, 5), (35, 9), (36, 9), (37, 9), (38, 36), (39, 54), (40, 1), (42, 6), (43, 6), (44, 24), (86, 5), (474, 9), (479, 66), (480, 125), (483, 9), (484, 9), (485, 9), (486, 9), (487, 36), (488, 6), (489, 6), (490, 5), (494, 10), (495, 10), (496, 750), (498, 159), (499, 2)]
def tsR (r : LgR) (a : Nat) : Bool := match clG r a with
  | none => false
  | some w => (w.all fun x => decide (x.1 < 66)) && ((List.range 66).all fun k => decide (lkO w k = rT a k))
def tsD (d : LgD) (c : Nat × Nat) : Bool := match clG d c.1 with
  | none => false
  | some w => (List.range c.2).all fun k => decide (lkI w k = tbD c.1 k)
def tst (e : EM) : Bool := decide (e.2.1.reverse = xS0.drop 4) && ((e.2.2.1.all fun x => decide (5 ≤ x.1 ∧ x.1 < 516)) && ((e.2.2.2.all fun x => decide (5 ≤ x.1)) && (((List.range 511).all fun a => tsR e.2.2.1 (a + 5)) && (celN.all fun c => tsD e.2.2.2 c))))
def run1 : Option EM := eC 1500 12 116 [.inr (some 5)] (psh 5 [] [] [] 13 6)
def run2 (e : EM) : Option EM := match e with
  | (l, S, r, d) => eC 1500 12 160 [.inr (some 479)] (psh l S r d 14 66)
def run0 : Bool := match run1 with
  | some e => decide (e.1 = 479) && (match run2 e with | some e4 => tst e4 | none => false)
  | none => false
set_option maxRecDepth 1000000 in
theorem run0_t : run0 = true := by decide +kernel
