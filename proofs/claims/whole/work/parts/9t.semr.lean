/-! A law's code: the reference runs it. -/
set_option maxHeartbeats 1000000 in
theorem r_two20 {m : XM} {n : Nat} {R : Nat → Nat → Option Nat} {D : KK} (x y : Int)  : XC 1 225 [.inr (some 479), .inl 2, .inl x, .inl y] (xS n, R, D) (some (.inl (jnF (-20) x y))) (xS n, R, D) := by
  refine XC_of (Nat.le_of_ble_eq_true rfl) (Nat.le_of_ble_eq_true rfl) (loc := [_, _, _, _]) rfl ?_
  refine xx_iload_n (q := 1) rfl rfl rfl ?_
  refine xx_iconst (q := 2) rfl rfl (by decide) ?_
  refine xx_icmp_ne (q := 9) (q2 := 5) rfl rfl rfl (fun h2 => (by exfalso; omega)) (fun _ => ?_)
  refine xx_iload_n (q := 6) rfl rfl rfl ?_
  refine xx_iload_n (q := 7) rfl rfl rfl ?_
  refine xx_iadd (q := 8) rfl rfl ?_
  exact xx_iret rfl trivial ⟨congrArg (fun z => some (Sum.inl z)) (by unfold jnF; simp), rfl⟩
set_option maxHeartbeats 1000000 in
theorem r_two21 {m : XM} {n : Nat} {R : Nat → Nat → Option Nat} {D : KK} (x y : Int)  : XC 1 225 [.inr (some 479), .inl 3, .inl x, .inl y] (xS n, R, D) (some (.inl (jnF (-21) x y))) (xS n, R, D) := by
  refine XC_of (Nat.le_of_ble_eq_true rfl) (Nat.le_of_ble_eq_true rfl) (loc := [_, _, _, _]) rfl ?_
  refine xx_iload_n (q := 1) rfl rfl rfl ?_
  refine xx_iconst (q := 2) rfl rfl (by decide) ?_
  refine xx_icmp_ne (q := 9) (q2 := 5) rfl rfl rfl (fun _ => ?_) (fun h2 => (by exfalso; omega))
  refine xx_iload_n (q := 10) rfl rfl rfl ?_
  refine xx_iconst (q := 11) rfl rfl (by decide) ?_
  refine xx_icmp_ne (q := 18) (q2 := 14) rfl rfl rfl (fun h11 => (by exfalso; omega)) (fun _ => ?_)
  refine xx_iload_n (q := 15) rfl rfl rfl ?_
  refine xx_iload_n (q := 16) rfl rfl rfl ?_
  refine xx_isub (q := 17) rfl rfl ?_
  exact xx_iret rfl trivial ⟨congrArg (fun z => some (Sum.inl z)) (by unfold jnF; simp), rfl⟩
set_option maxHeartbeats 1000000 in
theorem r_two22 {m : XM} {n : Nat} {R : Nat → Nat → Option Nat} {D : KK} (x y : Int)  : XC 1 225 [.inr (some 479), .inl 4, .inl x, .inl y] (xS n, R, D) (some (.inl (jnF (-22) x y))) (xS n, R, D) := by
  refine XC_of (Nat.le_of_ble_eq_true rfl) (Nat.le_of_ble_eq_true rfl) (loc := [_, _, _, _]) rfl ?_
  refine xx_iload_n (q := 1) rfl rfl rfl ?_
  refine xx_iconst (q := 2) rfl rfl (by decide) ?_
  refine xx_icmp_ne (q := 9) (q2 := 5) rfl rfl rfl (fun _ => ?_) (fun h2 => (by exfalso; omega))
  refine xx_iload_n (q := 10) rfl rfl rfl ?_
  refine xx_iconst (q := 11) rfl rfl (by decide) ?_
  refine xx_icmp_ne (q := 18) (q2 := 14) rfl rfl rfl (fun _ => ?_) (fun h11 => (by exfalso; omega))
  refine xx_iload_n (q := 19) rfl rfl rfl ?_
  refine xx_iconst (q := 20) rfl rfl (by decide) ?_
  refine xx_icmp_ne (q := 27) (q2 := 23) rfl rfl rfl (fun h20 => (by exfalso; omega)) (fun _ => ?_)
  refine xx_iload_n (q := 24) rfl rfl rfl ?_
  refine xx_iload_n (q := 25) rfl rfl rfl ?_
  refine xx_imul (q := 26) rfl rfl ?_
  exact xx_iret rfl trivial ⟨congrArg (fun z => some (Sum.inl z)) (by unfold jnF; simp), rfl⟩
set_option maxHeartbeats 1000000 in
theorem r_two23 {m : XM} {n : Nat} {R : Nat → Nat → Option Nat} {D : KK} (x y : Int) (hy : 1 ≤ y ∧ y ≤ 9999)  : XC 1 225 [.inr (some 479), .inl 5, .inl x, .inl y] (xS n, R, D) (some (.inl (jnF (-23) x y))) (xS n, R, D) := by
  refine XC_of (Nat.le_of_ble_eq_true rfl) (Nat.le_of_ble_eq_true rfl) (loc := [_, _, _, _]) rfl ?_
  refine xx_iload_n (q := 1) rfl rfl rfl ?_
  refine xx_iconst (q := 2) rfl rfl (by decide) ?_
  refine xx_icmp_ne (q := 9) (q2 := 5) rfl rfl rfl (fun _ => ?_) (fun h2 => (by exfalso; omega))
  refine xx_iload_n (q := 10) rfl rfl rfl ?_
  refine xx_iconst (q := 11) rfl rfl (by decide) ?_
  refine xx_icmp_ne (q := 18) (q2 := 14) rfl rfl rfl (fun _ => ?_) (fun h11 => (by exfalso; omega))
  refine xx_iload_n (q := 19) rfl rfl rfl ?_
  refine xx_iconst (q := 20) rfl rfl (by decide) ?_
  refine xx_icmp_ne (q := 27) (q2 := 23) rfl rfl rfl (fun _ => ?_) (fun h20 => (by exfalso; omega))
  refine xx_iload_n (q := 28) rfl rfl rfl ?_
  refine xx_iconst (q := 29) rfl rfl (by decide) ?_
  refine xx_icmp_ne (q := 36) (q2 := 32) rfl rfl rfl (fun h29 => (by exfalso; omega)) (fun _ => ?_)
  refine xx_iload_n (q := 33) rfl rfl rfl ?_
  refine xx_iload_n (q := 34) rfl rfl rfl ?_
  refine xx_idiv (q := 35) rfl rfl (by omega) ?_
  exact xx_iret rfl trivial ⟨congrArg (fun z => some (Sum.inl z)) (by unfold jnF; simp; intro q; omega), rfl⟩
set_option maxHeartbeats 1000000 in
theorem r_two24 {m : XM} {n : Nat} {R : Nat → Nat → Option Nat} {D : KK} (x y : Int)  : XC 1 225 [.inr (some 479), .inl 6, .inl x, .inl y] (xS n, R, D) (some (.inl (jnF (-24) x y))) (xS n, R, D) := by
  refine XC_of (Nat.le_of_ble_eq_true rfl) (Nat.le_of_ble_eq_true rfl) (loc := [_, _, _, _]) rfl ?_
  refine xx_iload_n (q := 1) rfl rfl rfl ?_
  refine xx_iconst (q := 2) rfl rfl (by decide) ?_
  refine xx_icmp_ne (q := 9) (q2 := 5) rfl rfl rfl (fun _ => ?_) (fun h2 => (by exfalso; omega))
  refine xx_iload_n (q := 10) rfl rfl rfl ?_
  refine xx_iconst (q := 11) rfl rfl (by decide) ?_
  refine xx_icmp_ne (q := 18) (q2 := 14) rfl rfl rfl (fun _ => ?_) (fun h11 => (by exfalso; omega))
  refine xx_iload_n (q := 19) rfl rfl rfl ?_
  refine xx_iconst (q := 20) rfl rfl (by decide) ?_
  refine xx_icmp_ne (q := 27) (q2 := 23) rfl rfl rfl (fun _ => ?_) (fun h20 => (by exfalso; omega))
  refine xx_iload_n (q := 28) rfl rfl rfl ?_
  refine xx_iconst (q := 29) rfl rfl (by decide) ?_
  refine xx_icmp_ne (q := 36) (q2 := 32) rfl rfl rfl (fun _ => ?_) (fun h29 => (by exfalso; omega))
  refine xx_iload_n (q := 37) rfl rfl rfl ?_
  refine xx_bipush (q := 39) rfl rfl (by decide) ?_
  refine xx_icmp_ne (q := 53) (q2 := 42) rfl rfl rfl (fun h39 => (by exfalso; omega)) (fun _ => ?_)
  refine xx_iload_n (q := 43) rfl rfl rfl ?_
  refine xx_iload_n (q := 44) rfl rfl rfl ?_
  refine xx_icmp_ge (q := 51) (q2 := 47) rfl rfl rfl (fun h44 => ?_) (fun h44 => ?_)
  · refine xx_iconst (q := 52) rfl rfl (by decide) ?_
    exact xx_iret rfl trivial ⟨congrArg (fun z => some (Sum.inl z)) (by unfold jnF; simp; omega), rfl⟩
  · refine xx_iconst (q := 48) rfl rfl (by decide) ?_
    refine xx_goto (q := 52) rfl rfl ?_
    exact xx_iret rfl trivial ⟨congrArg (fun z => some (Sum.inl z)) (by unfold jnF; simp; omega), rfl⟩
set_option maxHeartbeats 1000000 in
theorem r_two25 {m : XM} {n : Nat} {R : Nat → Nat → Option Nat} {D : KK} (x y : Int)  : XC 1 225 [.inr (some 479), .inl 7, .inl x, .inl y] (xS n, R, D) (some (.inl (jnF (-25) x y))) (xS n, R, D) := by
  refine XC_of (Nat.le_of_ble_eq_true rfl) (Nat.le_of_ble_eq_true rfl) (loc := [_, _, _, _]) rfl ?_
  refine xx_iload_n (q := 1) rfl rfl rfl ?_
  refine xx_iconst (q := 2) rfl rfl (by decide) ?_
  refine xx_icmp_ne (q := 9) (q2 := 5) rfl rfl rfl (fun _ => ?_) (fun h2 => (by exfalso; omega))
  refine xx_iload_n (q := 10) rfl rfl rfl ?_
  refine xx_iconst (q := 11) rfl rfl (by decide) ?_
  refine xx_icmp_ne (q := 18) (q2 := 14) rfl rfl rfl (fun _ => ?_) (fun h11 => (by exfalso; omega))
  refine xx_iload_n (q := 19) rfl rfl rfl ?_
  refine xx_iconst (q := 20) rfl rfl (by decide) ?_
  refine xx_icmp_ne (q := 27) (q2 := 23) rfl rfl rfl (fun _ => ?_) (fun h20 => (by exfalso; omega))
  refine xx_iload_n (q := 28) rfl rfl rfl ?_
  refine xx_iconst (q := 29) rfl rfl (by decide) ?_
  refine xx_icmp_ne (q := 36) (q2 := 32) rfl rfl rfl (fun _ => ?_) (fun h29 => (by exfalso; omega))
  refine xx_iload_n (q := 37) rfl rfl rfl ?_
  refine xx_bipush (q := 39) rfl rfl (by decide) ?_
  refine xx_icmp_ne (q := 53) (q2 := 42) rfl rfl rfl (fun _ => ?_) (fun h39 => (by exfalso; omega))
  refine xx_iload_n (q := 54) rfl rfl rfl ?_
  refine xx_bipush (q := 56) rfl rfl (by decide) ?_
  refine xx_icmp_ne (q := 70) (q2 := 59) rfl rfl rfl (fun h56 => (by exfalso; omega)) (fun _ => ?_)
  refine xx_iload_n (q := 60) rfl rfl rfl ?_
  refine xx_iload_n (q := 61) rfl rfl rfl ?_
  refine xx_icmp_ne (q := 68) (q2 := 64) rfl rfl rfl (fun h61 => ?_) (fun h61 => ?_)
  · refine xx_iconst (q := 69) rfl rfl (by decide) ?_
    exact xx_iret rfl trivial ⟨congrArg (fun z => some (Sum.inl z)) (by unfold jnF; simp; omega), rfl⟩
  · refine xx_iconst (q := 65) rfl rfl (by decide) ?_
    refine xx_goto (q := 69) rfl rfl ?_
    exact xx_iret rfl trivial ⟨congrArg (fun z => some (Sum.inl z)) (by unfold jnF; simp; omega), rfl⟩
set_option maxHeartbeats 1000000 in
theorem r_two26 {m : XM} {n : Nat} {R : Nat → Nat → Option Nat} {D : KK} (x y : Int)  : XC 1 225 [.inr (some 479), .inl 8, .inl x, .inl y] (xS n, R, D) (some (.inl (jnF (-26) x y))) (xS n, R, D) := by
  refine XC_of (Nat.le_of_ble_eq_true rfl) (Nat.le_of_ble_eq_true rfl) (loc := [_, _, _, _]) rfl ?_
  refine xx_iload_n (q := 1) rfl rfl rfl ?_
  refine xx_iconst (q := 2) rfl rfl (by decide) ?_
  refine xx_icmp_ne (q := 9) (q2 := 5) rfl rfl rfl (fun _ => ?_) (fun h2 => (by exfalso; omega))
  refine xx_iload_n (q := 10) rfl rfl rfl ?_
  refine xx_iconst (q := 11) rfl rfl (by decide) ?_
  refine xx_icmp_ne (q := 18) (q2 := 14) rfl rfl rfl (fun _ => ?_) (fun h11 => (by exfalso; omega))
  refine xx_iload_n (q := 19) rfl rfl rfl ?_
  refine xx_iconst (q := 20) rfl rfl (by decide) ?_
  refine xx_icmp_ne (q := 27) (q2 := 23) rfl rfl rfl (fun _ => ?_) (fun h20 => (by exfalso; omega))
  refine xx_iload_n (q := 28) rfl rfl rfl ?_
  refine xx_iconst (q := 29) rfl rfl (by decide) ?_
  refine xx_icmp_ne (q := 36) (q2 := 32) rfl rfl rfl (fun _ => ?_) (fun h29 => (by exfalso; omega))
  refine xx_iload_n (q := 37) rfl rfl rfl ?_
  refine xx_bipush (q := 39) rfl rfl (by decide) ?_
  refine xx_icmp_ne (q := 53) (q2 := 42) rfl rfl rfl (fun _ => ?_) (fun h39 => (by exfalso; omega))
  refine xx_iload_n (q := 54) rfl rfl rfl ?_
  refine xx_bipush (q := 56) rfl rfl (by decide) ?_
  refine xx_icmp_ne (q := 70) (q2 := 59) rfl rfl rfl (fun _ => ?_) (fun h56 => (by exfalso; omega))
  refine xx_iload_n (q := 71) rfl rfl rfl ?_
  refine xx_bipush (q := 73) rfl rfl (by decide) ?_
  refine xx_icmp_ne (q := 87) (q2 := 76) rfl rfl rfl (fun h73 => (by exfalso; omega)) (fun _ => ?_)
  refine xx_iload_n (q := 77) rfl rfl rfl ?_
  refine xx_iload_n (q := 78) rfl rfl rfl ?_
  refine xx_icmp_le (q := 85) (q2 := 81) rfl rfl rfl (fun h78 => ?_) (fun h78 => ?_)
  · refine xx_iconst (q := 86) rfl rfl (by decide) ?_
    exact xx_iret rfl trivial ⟨congrArg (fun z => some (Sum.inl z)) (by unfold jnF; simp; omega), rfl⟩
  · refine xx_iconst (q := 82) rfl rfl (by decide) ?_
    refine xx_goto (q := 86) rfl rfl ?_
    exact xx_iret rfl trivial ⟨congrArg (fun z => some (Sum.inl z)) (by unfold jnF; simp; omega), rfl⟩
set_option maxHeartbeats 1000000 in
theorem r_two27 {m : XM} {n : Nat} {R : Nat → Nat → Option Nat} {D : KK} (x y : Int) (hx : x = 0 ∨ x = 1) (hy : y = 0 ∨ y = 1)  : XC 1 225 [.inr (some 479), .inl 10, .inl x, .inl y] (xS n, R, D) (some (.inl (jnF (-27) x y))) (xS n, R, D) := by
  refine XC_of (Nat.le_of_ble_eq_true rfl) (Nat.le_of_ble_eq_true rfl) (loc := [_, _, _, _]) rfl ?_
  refine xx_iload_n (q := 1) rfl rfl rfl ?_
  refine xx_iconst (q := 2) rfl rfl (by decide) ?_
  refine xx_icmp_ne (q := 9) (q2 := 5) rfl rfl rfl (fun _ => ?_) (fun h2 => (by exfalso; omega))
  refine xx_iload_n (q := 10) rfl rfl rfl ?_
  refine xx_iconst (q := 11) rfl rfl (by decide) ?_
  refine xx_icmp_ne (q := 18) (q2 := 14) rfl rfl rfl (fun _ => ?_) (fun h11 => (by exfalso; omega))
  refine xx_iload_n (q := 19) rfl rfl rfl ?_
  refine xx_iconst (q := 20) rfl rfl (by decide) ?_
  refine xx_icmp_ne (q := 27) (q2 := 23) rfl rfl rfl (fun _ => ?_) (fun h20 => (by exfalso; omega))
  refine xx_iload_n (q := 28) rfl rfl rfl ?_
  refine xx_iconst (q := 29) rfl rfl (by decide) ?_
  refine xx_icmp_ne (q := 36) (q2 := 32) rfl rfl rfl (fun _ => ?_) (fun h29 => (by exfalso; omega))
  refine xx_iload_n (q := 37) rfl rfl rfl ?_
  refine xx_bipush (q := 39) rfl rfl (by decide) ?_
  refine xx_icmp_ne (q := 53) (q2 := 42) rfl rfl rfl (fun _ => ?_) (fun h39 => (by exfalso; omega))
  refine xx_iload_n (q := 54) rfl rfl rfl ?_
  refine xx_bipush (q := 56) rfl rfl (by decide) ?_
  refine xx_icmp_ne (q := 70) (q2 := 59) rfl rfl rfl (fun _ => ?_) (fun h56 => (by exfalso; omega))
  refine xx_iload_n (q := 71) rfl rfl rfl ?_
  refine xx_bipush (q := 73) rfl rfl (by decide) ?_
  refine xx_icmp_ne (q := 87) (q2 := 76) rfl rfl rfl (fun _ => ?_) (fun h73 => (by exfalso; omega))
  refine xx_iload_n (q := 88) rfl rfl rfl ?_
  refine xx_bipush (q := 90) rfl rfl (by decide) ?_
  refine xx_icmp_ne (q := 99) (q2 := 93) rfl rfl rfl (fun h90 => (by exfalso; omega)) (fun _ => ?_)
  refine xx_iload_n (q := 94) rfl rfl rfl ?_
  refine xx_iload_n (q := 95) rfl rfl rfl ?_
  refine xx_imul (q := 96) rfl rfl ?_
  refine xx_goto (q := 110) rfl rfl ?_
  exact xx_iret rfl trivial ⟨congrArg (fun z => some (Sum.inl z)) (by rcases hx with rfl | rfl <;> rcases hy with rfl | rfl <;> decide), rfl⟩
set_option maxHeartbeats 1000000 in
theorem r_two28 {m : XM} {n : Nat} {R : Nat → Nat → Option Nat} {D : KK} (x y : Int) (hx : x = 0 ∨ x = 1) (hy : y = 0 ∨ y = 1)  : XC 1 225 [.inr (some 479), .inl 11, .inl x, .inl y] (xS n, R, D) (some (.inl (jnF (-28) x y))) (xS n, R, D) := by
  refine XC_of (Nat.le_of_ble_eq_true rfl) (Nat.le_of_ble_eq_true rfl) (loc := [_, _, _, _]) rfl ?_
  refine xx_iload_n (q := 1) rfl rfl rfl ?_
  refine xx_iconst (q := 2) rfl rfl (by decide) ?_
  refine xx_icmp_ne (q := 9) (q2 := 5) rfl rfl rfl (fun _ => ?_) (fun h2 => (by exfalso; omega))
  refine xx_iload_n (q := 10) rfl rfl rfl ?_
  refine xx_iconst (q := 11) rfl rfl (by decide) ?_
  refine xx_icmp_ne (q := 18) (q2 := 14) rfl rfl rfl (fun _ => ?_) (fun h11 => (by exfalso; omega))
  refine xx_iload_n (q := 19) rfl rfl rfl ?_
  refine xx_iconst (q := 20) rfl rfl (by decide) ?_
  refine xx_icmp_ne (q := 27) (q2 := 23) rfl rfl rfl (fun _ => ?_) (fun h20 => (by exfalso; omega))
  refine xx_iload_n (q := 28) rfl rfl rfl ?_
  refine xx_iconst (q := 29) rfl rfl (by decide) ?_
  refine xx_icmp_ne (q := 36) (q2 := 32) rfl rfl rfl (fun _ => ?_) (fun h29 => (by exfalso; omega))
  refine xx_iload_n (q := 37) rfl rfl rfl ?_
  refine xx_bipush (q := 39) rfl rfl (by decide) ?_
  refine xx_icmp_ne (q := 53) (q2 := 42) rfl rfl rfl (fun _ => ?_) (fun h39 => (by exfalso; omega))
  refine xx_iload_n (q := 54) rfl rfl rfl ?_
  refine xx_bipush (q := 56) rfl rfl (by decide) ?_
  refine xx_icmp_ne (q := 70) (q2 := 59) rfl rfl rfl (fun _ => ?_) (fun h56 => (by exfalso; omega))
  refine xx_iload_n (q := 71) rfl rfl rfl ?_
  refine xx_bipush (q := 73) rfl rfl (by decide) ?_
  refine xx_icmp_ne (q := 87) (q2 := 76) rfl rfl rfl (fun _ => ?_) (fun h73 => (by exfalso; omega))
  refine xx_iload_n (q := 88) rfl rfl rfl ?_
  refine xx_bipush (q := 90) rfl rfl (by decide) ?_
  refine xx_icmp_ne (q := 99) (q2 := 93) rfl rfl rfl (fun _ => ?_) (fun h90 => (by exfalso; omega))
  refine xx_iload_n (q := 100) rfl rfl rfl ?_
  refine xx_iload_n (q := 101) rfl rfl rfl ?_
  refine xx_iaddR (q := 102) rfl rfl (by omega) (by omega) ?_
  refine xx_if_le (q := 109) (q2 := 105) rfl rfl rfl (fun h102 => ?_) (fun h102 => ?_)
  · refine xx_iconst (q := 110) rfl rfl (by decide) ?_
    exact xx_iret rfl trivial ⟨congrArg (fun z => some (Sum.inl z)) (by rcases hx with rfl | rfl <;> rcases hy with rfl | rfl <;> first | decide | (exfalso; omega)), rfl⟩
  · refine xx_iconst (q := 106) rfl rfl (by decide) ?_
    refine xx_goto (q := 110) rfl rfl ?_
    exact xx_iret rfl trivial ⟨congrArg (fun z => some (Sum.inl z)) (by rcases hx with rfl | rfl <;> rcases hy with rfl | rfl <;> first | decide | (exfalso; omega)), rfl⟩
theorem r_two {n : Nat} {R : Nat → Nat → Option Nat} {D : KK} {c x y : Int} (h0 : -28 ≤ c) (h1 : c ≤ -20) (h2 : c = -23 → 1 ≤ y ∧ y ≤ 9999) (h3 : (c = -27 ∨ c = -28) → (x = 0 ∨ x = 1) ∧ (y = 0 ∨ y = 1)) : XC 1 225 [.inr (some 479), .inl (opR c).1, .inl x, .inl y] (xS n, R, D) (some (.inl (jnF c x y))) (xS n, R, D) := by
  have q : c = -20 ∨ c = -21 ∨ c = -22 ∨ c = -23 ∨ c = -24 ∨ c = -25 ∨ c = -26 ∨ c = -27 ∨ c = -28 := by omega
  rcases q with q | q | q | q | q | q | q | q | q
  · subst q; exact r_two20 (m := (xS n, R, D)) x y
  · subst q; exact r_two21 (m := (xS n, R, D)) x y
  · subst q; exact r_two22 (m := (xS n, R, D)) x y
  · have := h2 q; subst q; exact r_two23 (m := (xS n, R, D)) x y this
  · subst q; exact r_two24 (m := (xS n, R, D)) x y
  · subst q; exact r_two25 (m := (xS n, R, D)) x y
  · subst q; exact r_two26 (m := (xS n, R, D)) x y
  · have := h3 (Or.inl q); subst q; exact r_two27 (m := (xS n, R, D)) x y this.1 this.2
  · have := h3 (Or.inr q); subst q; exact r_two28 (m := (xS n, R, D)) x y this.1 this.2
theorem op_0 {c : Int} (h : 0 ≤ c) : opR c = (0, c) := if_pos h
theorem op_1 {c : Int} (h0 : -15 ≤ c) (h1 : c < 0) : (opR c).1 = 1 ∧ 0 ≤ (opR c).2 ∧ (opR c).2 < 16 := by
  unfold opR
  rw [if_neg (by omega)]
  split
  · exact ⟨rfl, by show 0 ≤ -1 - c; omega, by show -1 - c < 16; omega⟩
  · exact ⟨rfl, by show 0 ≤ -c; omega, by show -c < 16; omega⟩
theorem op_2 {c : Int} (h0 : -28 ≤ c) (h1 : c ≤ -20) : (opR c).1 ≠ 0 ∧ (opR c).1 ≠ 1 ∧ (opR c).1 ≠ 9 := by
  have q : c = -20 ∨ c = -21 ∨ c = -22 ∨ c = -23 ∨ c = -24 ∨ c = -25 ∨ c = -26 ∨ c = -27 ∨ c = -28 := by omega
  rcases q with q | q | q | q | q | q | q | q | q <;> subst q <;> decide
/-- the places of what is asked -/
def AsK (rl : Nat → Prop) (f : Nat → Int) (E : KK) : Prop := ∀ c : Int, -15 ≤ c → c < 0 → rl (-1 - c).toNat → E 508 (opR c).2.toNat = f (-1 - c).toNat
set_option maxHeartbeats 4000000 in
theorem r_runG_L {n : Nat} {R : Nat → Nat → Option Nat} {E : KK} {rl : Nat → Prop} {f : Nat → Int} {V : Int} {T b : Nat} {a : Int} (hR : RF R) (hf : AsK rl f E) (hTb : T = 400 * 0 + b) (hT8 : T ≤ 800) : ∀ (k : Nat) (δ st : List Int) (p : Nat) (tp ip : Int) (D : KK), tp = (st.length : Int) → ip = (p : Int) → δ.length = k → StK (D 509) st → (∀ x j, x ≠ 509 → D x j = E x j) → (∀ j, j < δ.length → E 504 (p + j) = (opR (δ.getD j 0)).1 ∧ E 505 (p + j) = (opR (δ.getD j 0)).2) → p + δ.length = T → evP rl f δ st (fun st2 => st2 = [V]) → XX (XC 1) 226 (XP (some (.inl V)) (xS n) R (fun E2 => ∀ x j, x ≠ 509 → E2 x j = E x j)) 12 [some (.inr (some 479)), some (.inl 0), some (.inl a), some (.inl (b : Int)), some (.inl tp), some (.inl ip)] [] (xS n, R, D) := by
  intro k
  induction k using Nat.strongRecOn with
  | ind k ih =>
  intro δ st p tp ip D htp hip hk hs hD hcd hT hev
  refine xx_iload (q := 14) rfl rfl rfl ?_
  refine xx_sipush (q := 17) rfl rfl (by decide) ?_
  refine xx_iload_n (q := 18) rfl rfl rfl ?_
  refine xx_imulR (q := 19) rfl rfl (by omega) (by omega) ?_
  refine xx_iload_n (q := 20) rfl rfl rfl ?_
  refine xx_iaddR (q := 21) rfl rfl (by omega) (by omega) ?_
  refine xx_icmp_ge (q := 176) (q2 := 24) rfl rfl rfl (fun h21 => ?_) (fun h21 => ?_)
  · have hnil : δ = [] := by
      cases δ with
      | nil => rfl
      | cons c d => exact absurd hT (by show ¬ p + (d.length + 1) = T; omega)
    rw [hnil] at hev
    have h8 : st = [V] := hev
    rw [h8] at hs
    have hv0 : D 509 0 = V := hs.tl.2
    refine xx_aload_n (q := 177) rfl rfl rfl ?_
    refine xx_getR (q := 180) rfl rfl rfl xS_479 (Nat.le_of_ble_eq_true rfl) rfl (hR.1 479 50 rfl) ?_
    refine xx_iconst (q := 181) rfl rfl (by decide) ?_
    refine xx_iaz (v := V) (q := 182) rfl rfl xS_509 (by omega) (by omega) hv0 ?_
    exact xx_iret rfl trivial ⟨rfl, _, rfl, hD⟩
  · obtain ⟨c, δ', rfl⟩ : ∃ c d, δ = c :: d := by
      cases δ with
      | nil => exact absurd hT (by show ¬ p + 0 = T; omega)
      | cons c d => exact ⟨c, d, rfl⟩
    have hk2 : δ'.length + 1 = k := hk
    have hc0 := hcd 0 (by show 0 < δ'.length + 1; omega)
    rw [show (c :: δ').getD 0 0 = c from rfl] at hc0
    have hcs : ∀ j, j < δ'.length → E 504 (p + 1 + j) = (opR (δ'.getD j 0)).1 ∧ E 505 (p + 1 + j) = (opR (δ'.getD j 0)).2 := fun j hj => by
      have h9 := hcd (j + 1) (by show j + 1 < δ'.length + 1; omega)
      rw [show p + 1 + j = p + (j + 1) by omega]
      exact h9
    have hT2 : p + 1 + δ'.length = T := by have : p + (δ'.length + 1) = T := hT; omega
    obtain ⟨h3, h4⟩ : ev1 rl f c st (fun s3 => evP rl f δ' s3 (fun st2 => st2 = [V])) := hev
    refine xx_aload_n (q := 25) rfl rfl rfl ?_
    refine xx_getR (q := 28) rfl rfl rfl xS_479 (Nat.le_of_ble_eq_true rfl) rfl (hR.1 479 35 rfl) ?_
    refine xx_iload (q := 30) rfl rfl rfl ?_
    refine xx_iaz (v := (opR c).1) (q := 31) rfl rfl xS_504 (by omega) (by omega) (by rw [show (ip).toNat = p + 0 by omega]; exact ((hD 504 _ (by omega)).trans (hc0.1))) ?_
    refine xx_if_eq (q := 45) (q2 := 34) rfl rfl rfl (fun h31 => ?_) (fun h31 => ?_)
    · refine xx_aload_n (q := 46) rfl rfl rfl ?_
      refine xx_getR (q := 49) rfl rfl rfl xS_479 (Nat.le_of_ble_eq_true rfl) rfl (hR.1 479 50 rfl) ?_
      refine xx_iload (q := 51) rfl rfl rfl ?_
      refine xx_aload_n (q := 52) rfl rfl rfl ?_
      refine xx_getR (q := 55) rfl rfl rfl xS_479 (Nat.le_of_ble_eq_true rfl) rfl (hR.1 479 35 rfl) ?_
      refine xx_iload (q := 57) rfl rfl rfl ?_
      refine xx_iaz (v := (opR c).1) (q := 58) rfl rfl xS_504 (by omega) (by omega) (by rw [show (ip).toNat = p + 0 by omega]; exact ((hD 504 _ (by omega)).trans (hc0.1))) ?_
      refine xx_if_ne (q := 71) (q2 := 61) rfl rfl rfl (fun h58 => (by exfalso; omega)) (fun _ => ?_)
      obtain ⟨hn0, hev2⟩ : 0 ≤ c ∧ evP rl f δ' (c :: st) (fun st2 => st2 = [V]) := by
        rcases h4 with q | ⟨q1, q2, q3, r⟩ | ⟨q1, x, r, q2, q3, q4⟩ | ⟨q1, q2, y, x, r, q3, q4, q5, q6⟩
        · exact q
        · exact absurd (op_1 q1 q2).1 (by omega)
        · rw [q1] at h31; exact absurd h31 (by decide)
        · exact absurd h31 (op_2 q1 q2).1
      have hoc : (opR c).2 = c := by rw [op_0 hn0]
      refine xx_aload_n (q := 62) rfl rfl rfl ?_
      refine xx_getR (q := 65) rfl rfl rfl xS_479 (Nat.le_of_ble_eq_true rfl) rfl (hR.1 479 36 rfl) ?_
      refine xx_iload (q := 67) rfl rfl rfl ?_
      refine xx_iaz (v := (opR c).2) (q := 68) rfl rfl xS_505 (by omega) (by omega) (by rw [show (ip).toNat = p + 0 by omega]; exact ((hD 505 _ (by omega)).trans (hc0.2))) ?_
      refine xx_goto (q := 83) rfl rfl ?_
      refine xr_isz (fun d => StK (d 509) (c :: st) ∧ ∀ x j, x ≠ 509 → d x j = E x j) (q := 84) rfl rfl xS_509 (by omega) (by omega) ⟨by rw [xui_f, show (tp).toNat = st.length by omega, hoc]; exact hs.push, fun x j hx => (xui_a hx).trans (hD x j hx)⟩ (fun D2 hd2 => ?_)
      refine xx_iload (q := 86) rfl rfl rfl ?_
      refine xx_iconst (q := 87) rfl rfl (by decide) ?_
      refine xx_iaddR (q := 88) rfl rfl (by omega) (by omega) ?_
      refine xx_istore (q := 90) (loc2 := [_, _, _, _, _, _]) rfl rfl (Nat.le_of_ble_eq_true rfl) rfl ?_
      refine xx_goto (q := 170) rfl rfl ?_
      refine xx_incz (q := 173) (loc2 := [_, _, _, _, _, _]) rfl rfl rfl (by omega) (by omega) rfl rfl ?_
      refine xx_goto (q := 12) rfl rfl ?_
      exact ih δ'.length (by omega) δ' (c :: st) (p + 1) _ _ _ (by show _ = ((st.length + 1 : Nat) : Int); omega) (by omega) rfl hd2.1 hd2.2 hcs hT2 hev2
    · refine xx_aload_n (q := 35) rfl rfl rfl ?_
      refine xx_getR (q := 38) rfl rfl rfl xS_479 (Nat.le_of_ble_eq_true rfl) rfl (hR.1 479 35 rfl) ?_
      refine xx_iload (q := 40) rfl rfl rfl ?_
      refine xx_iaz (v := (opR c).1) (q := 41) rfl rfl xS_504 (by omega) (by omega) (by rw [show (ip).toNat = p + 0 by omega]; exact ((hD 504 _ (by omega)).trans (hc0.1))) ?_
      refine xx_iconst (q := 42) rfl rfl (by decide) ?_
      refine xx_icmp_ne (q := 93) (q2 := 45) rfl rfl rfl (fun h42 => ?_) (fun h42 => ?_)
      · refine xx_aload_n (q := 94) rfl rfl rfl ?_
        refine xx_getR (q := 97) rfl rfl rfl xS_479 (Nat.le_of_ble_eq_true rfl) rfl (hR.1 479 35 rfl) ?_
        refine xx_iload (q := 99) rfl rfl rfl ?_
        refine xx_iaz (v := (opR c).1) (q := 100) rfl rfl xS_504 (by omega) (by omega) (by rw [show (ip).toNat = p + 0 by omega]; exact ((hD 504 _ (by omega)).trans (hc0.1))) ?_
        refine xx_bipush (q := 102) rfl rfl (by decide) ?_
        refine xx_icmp_ne (q := 128) (q2 := 105) rfl rfl rfl (fun h102 => ?_) (fun h102 => ?_)
        · obtain ⟨hj0, hj1, yy, xx, r, hst, hj2, hj3, hev2⟩ : -28 ≤ c ∧ c ≤ -20 ∧ ∃ y x r, st = y :: x :: r ∧ (c = -23 → 1 ≤ y ∧ y ≤ 9999) ∧ ((c = -27 ∨ c = -28) → (x = 0 ∨ x = 1) ∧ (y = 0 ∨ y = 1)) ∧ evP rl f δ' (jnF c x y :: r) (fun st2 => st2 = [V]) := by
            rcases h4 with ⟨q, r⟩ | ⟨q1, q2, q3, r⟩ | ⟨q1, x, r, q2, q3, q4⟩ | q
            · rw [op_0 q] at h31; exact absurd rfl h31
            · exact absurd (op_1 q1 q2).1 h42
            · rw [q1] at h102; exact absurd rfl h102
            · exact q
          have hlen : st.length = r.length + 2 := by rw [hst]; rfl
          have hs3 := hs
          rw [hst] at hs3
          have hx1 : D 509 (r.length + 1) = yy := hs3.tl.2
          have hx2 := hs3.tl.1.tl.2
          have hs4 := hs3.tl.1.tl.1
          refine xx_iload (q := 130) rfl rfl rfl ?_
          refine xx_iconst (q := 131) rfl rfl (by decide) ?_
          refine xx_isubR (q := 132) rfl rfl (by omega) (by omega) ?_
          refine xx_istore (q := 134) (loc2 := [_, _, _, _, _, _]) rfl rfl (Nat.le_of_ble_eq_true rfl) rfl ?_
          refine xx_aload_n (q := 135) rfl rfl rfl ?_
          refine xx_getR (q := 138) rfl rfl rfl xS_479 (Nat.le_of_ble_eq_true rfl) rfl (hR.1 479 50 rfl) ?_
          refine xx_iload (q := 140) rfl rfl rfl ?_
          refine xx_iconst (q := 141) rfl rfl (by decide) ?_
          refine xx_isubR (q := 142) rfl rfl (by omega) (by omega) ?_
          refine xx_aload_n (q := 143) rfl rfl rfl ?_
          refine xx_aload_n (q := 144) rfl rfl rfl ?_
          refine xx_getR (q := 147) rfl rfl rfl xS_479 (Nat.le_of_ble_eq_true rfl) rfl (hR.1 479 35 rfl) ?_
          refine xx_iload (q := 149) rfl rfl rfl ?_
          refine xx_iaz (v := (opR c).1) (q := 150) rfl rfl xS_504 (by omega) (by omega) (by rw [show (ip).toNat = p + 0 by omega]; exact ((hD 504 _ (by omega)).trans (hc0.1))) ?_
          refine xx_aload_n (q := 151) rfl rfl rfl ?_
          refine xx_getR (q := 154) rfl rfl rfl xS_479 (Nat.le_of_ble_eq_true rfl) rfl (hR.1 479 50 rfl) ?_
          refine xx_iload (q := 156) rfl rfl rfl ?_
          refine xx_iconst (q := 157) rfl rfl (by decide) ?_
          refine xx_isubR (q := 158) rfl rfl (by omega) (by omega) ?_
          refine xx_iaz (v := xx) (q := 159) rfl rfl xS_509 (by omega) (by omega) (by rw [show ((tp - 1) - 1).toNat = r.length by omega]; exact hx2) ?_
          refine xx_aload_n (q := 160) rfl rfl rfl ?_
          refine xx_getR (q := 163) rfl rfl rfl xS_479 (Nat.le_of_ble_eq_true rfl) rfl (hR.1 479 50 rfl) ?_
          refine xx_iload (q := 165) rfl rfl rfl ?_
          refine xx_iaz (v := yy) (q := 166) rfl rfl xS_509 (by omega) (by omega) (by rw [show (tp - 1).toNat = r.length + 1 by omega]; exact hx1) ?_
          refine xx_callV (q := 169) (As := [_, _, _]) (rest := [_, _]) rfl rfl rfl (Or.inl rfl) rfl rfl (Nat.le_of_ble_eq_true rfl) xS_479 (XCm (r_two (n := n) hj0 hj1 hj2 hj3) rfl) rfl ?_
          refine xr_isz (fun d => StK (d 509) ((jnF c xx yy) :: r) ∧ ∀ x j, x ≠ 509 → d x j = E x j) (q := 170) rfl rfl xS_509 (by omega) (by omega) ⟨by rw [xui_f, show ((tp - 1) - 1).toNat = r.length by omega]; exact hs4.push, fun x j hx => (xui_a hx).trans (hD x j hx)⟩ (fun D4 hd4 => ?_)
          refine xx_incz (q := 173) (loc2 := [_, _, _, _, _, _]) rfl rfl rfl (by omega) (by omega) rfl rfl ?_
          refine xx_goto (q := 12) rfl rfl ?_
          exact ih δ'.length (by omega) δ' ((jnF c xx yy) :: r) (p + 1) _ _ _ (by show _ = ((r.length + 1 : Nat) : Int); omega) (by omega) rfl hd4.1 hd4.2 hcs hT2 hev2
        · obtain ⟨xx, r, hst, hbx, hev2⟩ : ∃ x r, st = x :: r ∧ (x = 0 ∨ x = 1) ∧ evP rl f δ' (nrm (1 - x) :: r) (fun st2 => st2 = [V]) := by
            rcases h4 with ⟨q, r⟩ | ⟨q1, q2, q3, r⟩ | ⟨q1, q⟩ | ⟨q1, q2, y, x, r, q3, q4, q5, q6⟩
            · rw [op_0 q] at h31; exact absurd rfl h31
            · exact absurd (op_1 q1 q2).1 h42
            · exact q
            · exact absurd h102 (op_2 q1 q2).2.2
          have hlen : st.length = r.length + 1 := by rw [hst]; rfl
          have hs3 := hs
          rw [hst] at hs3
          have hx1 := hs3.tl.2
          have hs4 := hs3.tl.1
          refine xx_aload_n (q := 106) rfl rfl rfl ?_
          refine xx_getR (q := 109) rfl rfl rfl xS_479 (Nat.le_of_ble_eq_true rfl) rfl (hR.1 479 50 rfl) ?_
          refine xx_iload (q := 111) rfl rfl rfl ?_
          refine xx_iconst (q := 112) rfl rfl (by decide) ?_
          refine xx_isubR (q := 113) rfl rfl (by omega) (by omega) ?_
          refine xx_iconst (q := 114) rfl rfl (by decide) ?_
          refine xx_aload_n (q := 115) rfl rfl rfl ?_
          refine xx_getR (q := 118) rfl rfl rfl xS_479 (Nat.le_of_ble_eq_true rfl) rfl (hR.1 479 50 rfl) ?_
          refine xx_iload (q := 120) rfl rfl rfl ?_
          refine xx_iconst (q := 121) rfl rfl (by decide) ?_
          refine xx_isubR (q := 122) rfl rfl (by omega) (by omega) ?_
          refine xx_iaz (v := xx) (q := 123) rfl rfl xS_509 (by omega) (by omega) (by rw [show (tp - 1).toNat = r.length by omega]; exact hx1) ?_
          refine xx_isub (q := 124) rfl rfl ?_
          refine xr_isz (fun d => StK (d 509) ((nrm (1 - xx)) :: r) ∧ ∀ x j, x ≠ 509 → d x j = E x j) (q := 125) rfl rfl xS_509 (by omega) (by omega) ⟨by rw [xui_f, show (tp - 1).toNat = r.length by omega]; exact hs4.push, fun x j hx => (xui_a hx).trans (hD x j hx)⟩ (fun D6 hd6 => ?_)
          refine xx_goto (q := 170) rfl rfl ?_
          refine xx_incz (q := 173) (loc2 := [_, _, _, _, _, _]) rfl rfl rfl (by omega) (by omega) rfl rfl ?_
          refine xx_goto (q := 12) rfl rfl ?_
          exact ih δ'.length (by omega) δ' ((nrm (1 - xx)) :: r) (p + 1) _ _ _ (by show _ = ((r.length + 1 : Nat) : Int); omega) (by omega) rfl hd6.1 hd6.2 hcs hT2 hev2
      · refine xx_aload_n (q := 46) rfl rfl rfl ?_
        refine xx_getR (q := 49) rfl rfl rfl xS_479 (Nat.le_of_ble_eq_true rfl) rfl (hR.1 479 50 rfl) ?_
        refine xx_iload (q := 51) rfl rfl rfl ?_
        refine xx_aload_n (q := 52) rfl rfl rfl ?_
        refine xx_getR (q := 55) rfl rfl rfl xS_479 (Nat.le_of_ble_eq_true rfl) rfl (hR.1 479 35 rfl) ?_
        refine xx_iload (q := 57) rfl rfl rfl ?_
        refine xx_iaz (v := (opR c).1) (q := 58) rfl rfl xS_504 (by omega) (by omega) (by rw [show (ip).toNat = p + 0 by omega]; exact ((hD 504 _ (by omega)).trans (hc0.1))) ?_
        refine xx_if_ne (q := 71) (q2 := 61) rfl rfl rfl (fun _ => ?_) (fun h58 => (by exfalso; omega))
        obtain ⟨hn1, hn2, hn3, hev2⟩ : -15 ≤ c ∧ c < 0 ∧ rl (-1 - c).toNat ∧ evP rl f δ' (f (-1 - c).toNat :: st) (fun st2 => st2 = [V]) := by
          rcases h4 with ⟨q, r⟩ | q | ⟨q1, x, r, q2, q3, q4⟩ | ⟨q1, q2, y, x, r, q3, q4, q5, q6⟩
          · rw [op_0 q] at h31; exact absurd rfl h31
          · exact q
          · rw [q1] at h42; exact absurd h42 (by decide)
          · exact absurd h42 (op_2 q1 q2).2.1
        have hob := op_1 hn1 hn2
        refine xx_aload_n (q := 72) rfl rfl rfl ?_
        refine xx_getR (q := 75) rfl rfl rfl xS_479 (Nat.le_of_ble_eq_true rfl) rfl (hR.1 479 49 rfl) ?_
        refine xx_aload_n (q := 76) rfl rfl rfl ?_
        refine xx_getR (q := 79) rfl rfl rfl xS_479 (Nat.le_of_ble_eq_true rfl) rfl (hR.1 479 36 rfl) ?_
        refine xx_iload (q := 81) rfl rfl rfl ?_
        refine xx_iaz (v := (opR c).2) (q := 82) rfl rfl xS_505 (by omega) (by omega) (by rw [show (ip).toNat = p + 0 by omega]; exact ((hD 505 _ (by omega)).trans (hc0.2))) ?_
        refine xx_iaz (v := f (-1 - c).toNat) (q := 83) rfl rfl xS_508 (by omega) (by omega) ((hD 508 _ (by omega)).trans (hf c hn1 hn2 hn3)) ?_
        refine xr_isz (fun d => StK (d 509) ((f (-1 - c).toNat) :: st) ∧ ∀ x j, x ≠ 509 → d x j = E x j) (q := 84) rfl rfl xS_509 (by omega) (by omega) ⟨by rw [xui_f, show (tp).toNat = st.length by omega]; exact hs.push, fun x j hx => (xui_a hx).trans (hD x j hx)⟩ (fun D8 hd8 => ?_)
        refine xx_iload (q := 86) rfl rfl rfl ?_
        refine xx_iconst (q := 87) rfl rfl (by decide) ?_
        refine xx_iaddR (q := 88) rfl rfl (by omega) (by omega) ?_
        refine xx_istore (q := 90) (loc2 := [_, _, _, _, _, _]) rfl rfl (Nat.le_of_ble_eq_true rfl) rfl ?_
        refine xx_goto (q := 170) rfl rfl ?_
        refine xx_incz (q := 173) (loc2 := [_, _, _, _, _, _]) rfl rfl rfl (by omega) (by omega) rfl rfl ?_
        refine xx_goto (q := 12) rfl rfl ?_
        exact ih δ'.length (by omega) δ' ((f (-1 - c).toNat) :: st) (p + 1) _ _ _ (by show _ = ((st.length + 1 : Nat) : Int); omega) (by omega) rfl hd8.1 hd8.2 hcs hT2 hev2
theorem r_runsG {n : Nat} {R : Nat → Nat → Option Nat} {E : KK} {rl : Nat → Prop} {f : Nat → Int} {V a b : Int} {δ : List Int} (A B : Nat) (hR : RF R) (hf : AsK rl f E) (ha : a = (A : Int)) (hb : b = (B : Int)) (hAB : A + δ.length = B) (hB : B ≤ 400) (hcd : ∀ j, j < δ.length → E 504 (400 * 0 + A + j) = (opR (δ.getD j 0)).1 ∧ E 505 (400 * 0 + A + j) = (opR (δ.getD j 0)).2) (hev : ∀ k : List Int → Prop, k [V] → evP rl f δ [] k) : ∃ E2, XC 2 226 [.inr (some 479), .inl 0, .inl a, .inl b] (xS n, R, E) (some (.inl V)) (xS n, R, E2) ∧ ∀ x j, x ≠ 509 → E2 x j = E x j := by
  subst ha hb
  refine XE_of (Nat.le_of_ble_eq_true rfl) (Nat.le_of_ble_eq_true rfl) (loc := [_, _, _, _, _, _]) rfl ?_
  refine xx_iconst (q := 1) rfl rfl (by decide) ?_
  refine xx_istore (q := 3) (loc2 := [_, _, _, _, _, _]) rfl rfl (Nat.le_of_ble_eq_true rfl) rfl ?_
  refine xx_sipush (q := 6) rfl rfl (by decide) ?_
  refine xx_iload_n (q := 7) rfl rfl rfl ?_
  refine xx_imulR (q := 8) rfl rfl (by omega) (by omega) ?_
  refine xx_iload_n (q := 9) rfl rfl rfl ?_
  refine xx_iaddR (q := 10) rfl rfl (by omega) (by omega) ?_
  refine xx_istore (q := 12) (loc2 := [_, _, _, _, _, _]) rfl rfl (Nat.le_of_ble_eq_true rfl) rfl ?_
  exact r_runG_L (T := 400 * 0 + B) hR hf rfl (by omega) δ.length δ [] (400 * 0 + A) _ _ E rfl (by omega) rfl (fun j hj => absurd hj (Nat.not_lt_zero _)) (fun _ _ _ => rfl) hcd (by omega) (hev _ rfl)
set_option maxHeartbeats 4000000 in
theorem r_runH_L {n : Nat} {R : Nat → Nat → Option Nat} {E : KK} {rl : Nat → Prop} {f : Nat → Int} {V : Int} {T b : Nat} {a : Int} (hR : RF R) (hf : AsK rl f E) (hTb : T = 400 * 1 + b) (hT8 : T ≤ 800) : ∀ (k : Nat) (δ st : List Int) (p : Nat) (tp ip : Int) (D : KK), tp = (st.length : Int) → ip = (p : Int) → δ.length = k → StK (D 509) st → (∀ x j, x ≠ 509 → D x j = E x j) → (∀ j, j < δ.length → E 504 (p + j) = (opR (δ.getD j 0)).1 ∧ E 505 (p + j) = (opR (δ.getD j 0)).2) → p + δ.length = T → evP rl f δ st (fun st2 => st2 = [V]) → XX (XC 1) 226 (XP (some (.inl V)) (xS n) R (fun E2 => ∀ x j, x ≠ 509 → E2 x j = E x j)) 12 [some (.inr (some 479)), some (.inl 1), some (.inl a), some (.inl (b : Int)), some (.inl tp), some (.inl ip)] [] (xS n, R, D) := by
  intro k
  induction k using Nat.strongRecOn with
  | ind k ih =>
  intro δ st p tp ip D htp hip hk hs hD hcd hT hev
  refine xx_iload (q := 14) rfl rfl rfl ?_
  refine xx_sipush (q := 17) rfl rfl (by decide) ?_
  refine xx_iload_n (q := 18) rfl rfl rfl ?_
  refine xx_imulR (q := 19) rfl rfl (by omega) (by omega) ?_
  refine xx_iload_n (q := 20) rfl rfl rfl ?_
  refine xx_iaddR (q := 21) rfl rfl (by omega) (by omega) ?_
  refine xx_icmp_ge (q := 176) (q2 := 24) rfl rfl rfl (fun h21 => ?_) (fun h21 => ?_)
  · have hnil : δ = [] := by
      cases δ with
      | nil => rfl
      | cons c d => exact absurd hT (by show ¬ p + (d.length + 1) = T; omega)
    rw [hnil] at hev
    have h8 : st = [V] := hev
    rw [h8] at hs
    have hv0 : D 509 0 = V := hs.tl.2
    refine xx_aload_n (q := 177) rfl rfl rfl ?_
    refine xx_getR (q := 180) rfl rfl rfl xS_479 (Nat.le_of_ble_eq_true rfl) rfl (hR.1 479 50 rfl) ?_
    refine xx_iconst (q := 181) rfl rfl (by decide) ?_
    refine xx_iaz (v := V) (q := 182) rfl rfl xS_509 (by omega) (by omega) hv0 ?_
    exact xx_iret rfl trivial ⟨rfl, _, rfl, hD⟩
  · obtain ⟨c, δ', rfl⟩ : ∃ c d, δ = c :: d := by
      cases δ with
      | nil => exact absurd hT (by show ¬ p + 0 = T; omega)
      | cons c d => exact ⟨c, d, rfl⟩
    have hk2 : δ'.length + 1 = k := hk
    have hc0 := hcd 0 (by show 0 < δ'.length + 1; omega)
    rw [show (c :: δ').getD 0 0 = c from rfl] at hc0
    have hcs : ∀ j, j < δ'.length → E 504 (p + 1 + j) = (opR (δ'.getD j 0)).1 ∧ E 505 (p + 1 + j) = (opR (δ'.getD j 0)).2 := fun j hj => by
      have h9 := hcd (j + 1) (by show j + 1 < δ'.length + 1; omega)
      rw [show p + 1 + j = p + (j + 1) by omega]
      exact h9
    have hT2 : p + 1 + δ'.length = T := by have : p + (δ'.length + 1) = T := hT; omega
    obtain ⟨h3, h4⟩ : ev1 rl f c st (fun s3 => evP rl f δ' s3 (fun st2 => st2 = [V])) := hev
    refine xx_aload_n (q := 25) rfl rfl rfl ?_
    refine xx_getR (q := 28) rfl rfl rfl xS_479 (Nat.le_of_ble_eq_true rfl) rfl (hR.1 479 35 rfl) ?_
    refine xx_iload (q := 30) rfl rfl rfl ?_
    refine xx_iaz (v := (opR c).1) (q := 31) rfl rfl xS_504 (by omega) (by omega) (by rw [show (ip).toNat = p + 0 by omega]; exact ((hD 504 _ (by omega)).trans (hc0.1))) ?_
    refine xx_if_eq (q := 45) (q2 := 34) rfl rfl rfl (fun h31 => ?_) (fun h31 => ?_)
    · refine xx_aload_n (q := 46) rfl rfl rfl ?_
      refine xx_getR (q := 49) rfl rfl rfl xS_479 (Nat.le_of_ble_eq_true rfl) rfl (hR.1 479 50 rfl) ?_
      refine xx_iload (q := 51) rfl rfl rfl ?_
      refine xx_aload_n (q := 52) rfl rfl rfl ?_
      refine xx_getR (q := 55) rfl rfl rfl xS_479 (Nat.le_of_ble_eq_true rfl) rfl (hR.1 479 35 rfl) ?_
      refine xx_iload (q := 57) rfl rfl rfl ?_
      refine xx_iaz (v := (opR c).1) (q := 58) rfl rfl xS_504 (by omega) (by omega) (by rw [show (ip).toNat = p + 0 by omega]; exact ((hD 504 _ (by omega)).trans (hc0.1))) ?_
      refine xx_if_ne (q := 71) (q2 := 61) rfl rfl rfl (fun h58 => (by exfalso; omega)) (fun _ => ?_)
      obtain ⟨hn0, hev2⟩ : 0 ≤ c ∧ evP rl f δ' (c :: st) (fun st2 => st2 = [V]) := by
        rcases h4 with q | ⟨q1, q2, q3, r⟩ | ⟨q1, x, r, q2, q3, q4⟩ | ⟨q1, q2, y, x, r, q3, q4, q5, q6⟩
        · exact q
        · exact absurd (op_1 q1 q2).1 (by omega)
        · rw [q1] at h31; exact absurd h31 (by decide)
        · exact absurd h31 (op_2 q1 q2).1
      have hoc : (opR c).2 = c := by rw [op_0 hn0]
      refine xx_aload_n (q := 62) rfl rfl rfl ?_
      refine xx_getR (q := 65) rfl rfl rfl xS_479 (Nat.le_of_ble_eq_true rfl) rfl (hR.1 479 36 rfl) ?_
      refine xx_iload (q := 67) rfl rfl rfl ?_
      refine xx_iaz (v := (opR c).2) (q := 68) rfl rfl xS_505 (by omega) (by omega) (by rw [show (ip).toNat = p + 0 by omega]; exact ((hD 505 _ (by omega)).trans (hc0.2))) ?_
      refine xx_goto (q := 83) rfl rfl ?_
      refine xr_isz (fun d => StK (d 509) (c :: st) ∧ ∀ x j, x ≠ 509 → d x j = E x j) (q := 84) rfl rfl xS_509 (by omega) (by omega) ⟨by rw [xui_f, show (tp).toNat = st.length by omega, hoc]; exact hs.push, fun x j hx => (xui_a hx).trans (hD x j hx)⟩ (fun D2 hd2 => ?_)
      refine xx_iload (q := 86) rfl rfl rfl ?_
      refine xx_iconst (q := 87) rfl rfl (by decide) ?_
      refine xx_iaddR (q := 88) rfl rfl (by omega) (by omega) ?_
      refine xx_istore (q := 90) (loc2 := [_, _, _, _, _, _]) rfl rfl (Nat.le_of_ble_eq_true rfl) rfl ?_
      refine xx_goto (q := 170) rfl rfl ?_
      refine xx_incz (q := 173) (loc2 := [_, _, _, _, _, _]) rfl rfl rfl (by omega) (by omega) rfl rfl ?_
      refine xx_goto (q := 12) rfl rfl ?_
      exact ih δ'.length (by omega) δ' (c :: st) (p + 1) _ _ _ (by show _ = ((st.length + 1 : Nat) : Int); omega) (by omega) rfl hd2.1 hd2.2 hcs hT2 hev2
    · refine xx_aload_n (q := 35) rfl rfl rfl ?_
      refine xx_getR (q := 38) rfl rfl rfl xS_479 (Nat.le_of_ble_eq_true rfl) rfl (hR.1 479 35 rfl) ?_
      refine xx_iload (q := 40) rfl rfl rfl ?_
      refine xx_iaz (v := (opR c).1) (q := 41) rfl rfl xS_504 (by omega) (by omega) (by rw [show (ip).toNat = p + 0 by omega]; exact ((hD 504 _ (by omega)).trans (hc0.1))) ?_
      refine xx_iconst (q := 42) rfl rfl (by decide) ?_
      refine xx_icmp_ne (q := 93) (q2 := 45) rfl rfl rfl (fun h42 => ?_) (fun h42 => ?_)
      · refine xx_aload_n (q := 94) rfl rfl rfl ?_
        refine xx_getR (q := 97) rfl rfl rfl xS_479 (Nat.le_of_ble_eq_true rfl) rfl (hR.1 479 35 rfl) ?_
        refine xx_iload (q := 99) rfl rfl rfl ?_
        refine xx_iaz (v := (opR c).1) (q := 100) rfl rfl xS_504 (by omega) (by omega) (by rw [show (ip).toNat = p + 0 by omega]; exact ((hD 504 _ (by omega)).trans (hc0.1))) ?_
        refine xx_bipush (q := 102) rfl rfl (by decide) ?_
        refine xx_icmp_ne (q := 128) (q2 := 105) rfl rfl rfl (fun h102 => ?_) (fun h102 => ?_)
        · obtain ⟨hj0, hj1, yy, xx, r, hst, hj2, hj3, hev2⟩ : -28 ≤ c ∧ c ≤ -20 ∧ ∃ y x r, st = y :: x :: r ∧ (c = -23 → 1 ≤ y ∧ y ≤ 9999) ∧ ((c = -27 ∨ c = -28) → (x = 0 ∨ x = 1) ∧ (y = 0 ∨ y = 1)) ∧ evP rl f δ' (jnF c x y :: r) (fun st2 => st2 = [V]) := by
            rcases h4 with ⟨q, r⟩ | ⟨q1, q2, q3, r⟩ | ⟨q1, x, r, q2, q3, q4⟩ | q
            · rw [op_0 q] at h31; exact absurd rfl h31
            · exact absurd (op_1 q1 q2).1 h42
            · rw [q1] at h102; exact absurd rfl h102
            · exact q
          have hlen : st.length = r.length + 2 := by rw [hst]; rfl
          have hs3 := hs
          rw [hst] at hs3
          have hx1 : D 509 (r.length + 1) = yy := hs3.tl.2
          have hx2 := hs3.tl.1.tl.2
          have hs4 := hs3.tl.1.tl.1
          refine xx_iload (q := 130) rfl rfl rfl ?_
          refine xx_iconst (q := 131) rfl rfl (by decide) ?_
          refine xx_isubR (q := 132) rfl rfl (by omega) (by omega) ?_
          refine xx_istore (q := 134) (loc2 := [_, _, _, _, _, _]) rfl rfl (Nat.le_of_ble_eq_true rfl) rfl ?_
          refine xx_aload_n (q := 135) rfl rfl rfl ?_
          refine xx_getR (q := 138) rfl rfl rfl xS_479 (Nat.le_of_ble_eq_true rfl) rfl (hR.1 479 50 rfl) ?_
          refine xx_iload (q := 140) rfl rfl rfl ?_
          refine xx_iconst (q := 141) rfl rfl (by decide) ?_
          refine xx_isubR (q := 142) rfl rfl (by omega) (by omega) ?_
          refine xx_aload_n (q := 143) rfl rfl rfl ?_
          refine xx_aload_n (q := 144) rfl rfl rfl ?_
          refine xx_getR (q := 147) rfl rfl rfl xS_479 (Nat.le_of_ble_eq_true rfl) rfl (hR.1 479 35 rfl) ?_
          refine xx_iload (q := 149) rfl rfl rfl ?_
          refine xx_iaz (v := (opR c).1) (q := 150) rfl rfl xS_504 (by omega) (by omega) (by rw [show (ip).toNat = p + 0 by omega]; exact ((hD 504 _ (by omega)).trans (hc0.1))) ?_
          refine xx_aload_n (q := 151) rfl rfl rfl ?_
          refine xx_getR (q := 154) rfl rfl rfl xS_479 (Nat.le_of_ble_eq_true rfl) rfl (hR.1 479 50 rfl) ?_
          refine xx_iload (q := 156) rfl rfl rfl ?_
          refine xx_iconst (q := 157) rfl rfl (by decide) ?_
          refine xx_isubR (q := 158) rfl rfl (by omega) (by omega) ?_
          refine xx_iaz (v := xx) (q := 159) rfl rfl xS_509 (by omega) (by omega) (by rw [show ((tp - 1) - 1).toNat = r.length by omega]; exact hx2) ?_
          refine xx_aload_n (q := 160) rfl rfl rfl ?_
          refine xx_getR (q := 163) rfl rfl rfl xS_479 (Nat.le_of_ble_eq_true rfl) rfl (hR.1 479 50 rfl) ?_
          refine xx_iload (q := 165) rfl rfl rfl ?_
          refine xx_iaz (v := yy) (q := 166) rfl rfl xS_509 (by omega) (by omega) (by rw [show (tp - 1).toNat = r.length + 1 by omega]; exact hx1) ?_
          refine xx_callV (q := 169) (As := [_, _, _]) (rest := [_, _]) rfl rfl rfl (Or.inl rfl) rfl rfl (Nat.le_of_ble_eq_true rfl) xS_479 (XCm (r_two (n := n) hj0 hj1 hj2 hj3) rfl) rfl ?_
          refine xr_isz (fun d => StK (d 509) ((jnF c xx yy) :: r) ∧ ∀ x j, x ≠ 509 → d x j = E x j) (q := 170) rfl rfl xS_509 (by omega) (by omega) ⟨by rw [xui_f, show ((tp - 1) - 1).toNat = r.length by omega]; exact hs4.push, fun x j hx => (xui_a hx).trans (hD x j hx)⟩ (fun D4 hd4 => ?_)
          refine xx_incz (q := 173) (loc2 := [_, _, _, _, _, _]) rfl rfl rfl (by omega) (by omega) rfl rfl ?_
          refine xx_goto (q := 12) rfl rfl ?_
          exact ih δ'.length (by omega) δ' ((jnF c xx yy) :: r) (p + 1) _ _ _ (by show _ = ((r.length + 1 : Nat) : Int); omega) (by omega) rfl hd4.1 hd4.2 hcs hT2 hev2
        · obtain ⟨xx, r, hst, hbx, hev2⟩ : ∃ x r, st = x :: r ∧ (x = 0 ∨ x = 1) ∧ evP rl f δ' (nrm (1 - x) :: r) (fun st2 => st2 = [V]) := by
            rcases h4 with ⟨q, r⟩ | ⟨q1, q2, q3, r⟩ | ⟨q1, q⟩ | ⟨q1, q2, y, x, r, q3, q4, q5, q6⟩
            · rw [op_0 q] at h31; exact absurd rfl h31
            · exact absurd (op_1 q1 q2).1 h42
            · exact q
            · exact absurd h102 (op_2 q1 q2).2.2
          have hlen : st.length = r.length + 1 := by rw [hst]; rfl
          have hs3 := hs
          rw [hst] at hs3
          have hx1 := hs3.tl.2
          have hs4 := hs3.tl.1
          refine xx_aload_n (q := 106) rfl rfl rfl ?_
          refine xx_getR (q := 109) rfl rfl rfl xS_479 (Nat.le_of_ble_eq_true rfl) rfl (hR.1 479 50 rfl) ?_
          refine xx_iload (q := 111) rfl rfl rfl ?_
          refine xx_iconst (q := 112) rfl rfl (by decide) ?_
          refine xx_isubR (q := 113) rfl rfl (by omega) (by omega) ?_
          refine xx_iconst (q := 114) rfl rfl (by decide) ?_
          refine xx_aload_n (q := 115) rfl rfl rfl ?_
          refine xx_getR (q := 118) rfl rfl rfl xS_479 (Nat.le_of_ble_eq_true rfl) rfl (hR.1 479 50 rfl) ?_
          refine xx_iload (q := 120) rfl rfl rfl ?_
          refine xx_iconst (q := 121) rfl rfl (by decide) ?_
          refine xx_isubR (q := 122) rfl rfl (by omega) (by omega) ?_
          refine xx_iaz (v := xx) (q := 123) rfl rfl xS_509 (by omega) (by omega) (by rw [show (tp - 1).toNat = r.length by omega]; exact hx1) ?_
          refine xx_isub (q := 124) rfl rfl ?_
          refine xr_isz (fun d => StK (d 509) ((nrm (1 - xx)) :: r) ∧ ∀ x j, x ≠ 509 → d x j = E x j) (q := 125) rfl rfl xS_509 (by omega) (by omega) ⟨by rw [xui_f, show (tp - 1).toNat = r.length by omega]; exact hs4.push, fun x j hx => (xui_a hx).trans (hD x j hx)⟩ (fun D6 hd6 => ?_)
          refine xx_goto (q := 170) rfl rfl ?_
          refine xx_incz (q := 173) (loc2 := [_, _, _, _, _, _]) rfl rfl rfl (by omega) (by omega) rfl rfl ?_
          refine xx_goto (q := 12) rfl rfl ?_
          exact ih δ'.length (by omega) δ' ((nrm (1 - xx)) :: r) (p + 1) _ _ _ (by show _ = ((r.length + 1 : Nat) : Int); omega) (by omega) rfl hd6.1 hd6.2 hcs hT2 hev2
      · refine xx_aload_n (q := 46) rfl rfl rfl ?_
        refine xx_getR (q := 49) rfl rfl rfl xS_479 (Nat.le_of_ble_eq_true rfl) rfl (hR.1 479 50 rfl) ?_
        refine xx_iload (q := 51) rfl rfl rfl ?_
        refine xx_aload_n (q := 52) rfl rfl rfl ?_
        refine xx_getR (q := 55) rfl rfl rfl xS_479 (Nat.le_of_ble_eq_true rfl) rfl (hR.1 479 35 rfl) ?_
        refine xx_iload (q := 57) rfl rfl rfl ?_
        refine xx_iaz (v := (opR c).1) (q := 58) rfl rfl xS_504 (by omega) (by omega) (by rw [show (ip).toNat = p + 0 by omega]; exact ((hD 504 _ (by omega)).trans (hc0.1))) ?_
        refine xx_if_ne (q := 71) (q2 := 61) rfl rfl rfl (fun _ => ?_) (fun h58 => (by exfalso; omega))
        obtain ⟨hn1, hn2, hn3, hev2⟩ : -15 ≤ c ∧ c < 0 ∧ rl (-1 - c).toNat ∧ evP rl f δ' (f (-1 - c).toNat :: st) (fun st2 => st2 = [V]) := by
          rcases h4 with ⟨q, r⟩ | q | ⟨q1, x, r, q2, q3, q4⟩ | ⟨q1, q2, y, x, r, q3, q4, q5, q6⟩
          · rw [op_0 q] at h31; exact absurd rfl h31
          · exact q
          · rw [q1] at h42; exact absurd h42 (by decide)
          · exact absurd h42 (op_2 q1 q2).2.1
        have hob := op_1 hn1 hn2
        refine xx_aload_n (q := 72) rfl rfl rfl ?_
        refine xx_getR (q := 75) rfl rfl rfl xS_479 (Nat.le_of_ble_eq_true rfl) rfl (hR.1 479 49 rfl) ?_
        refine xx_aload_n (q := 76) rfl rfl rfl ?_
        refine xx_getR (q := 79) rfl rfl rfl xS_479 (Nat.le_of_ble_eq_true rfl) rfl (hR.1 479 36 rfl) ?_
        refine xx_iload (q := 81) rfl rfl rfl ?_
        refine xx_iaz (v := (opR c).2) (q := 82) rfl rfl xS_505 (by omega) (by omega) (by rw [show (ip).toNat = p + 0 by omega]; exact ((hD 505 _ (by omega)).trans (hc0.2))) ?_
        refine xx_iaz (v := f (-1 - c).toNat) (q := 83) rfl rfl xS_508 (by omega) (by omega) ((hD 508 _ (by omega)).trans (hf c hn1 hn2 hn3)) ?_
        refine xr_isz (fun d => StK (d 509) ((f (-1 - c).toNat) :: st) ∧ ∀ x j, x ≠ 509 → d x j = E x j) (q := 84) rfl rfl xS_509 (by omega) (by omega) ⟨by rw [xui_f, show (tp).toNat = st.length by omega]; exact hs.push, fun x j hx => (xui_a hx).trans (hD x j hx)⟩ (fun D8 hd8 => ?_)
        refine xx_iload (q := 86) rfl rfl rfl ?_
        refine xx_iconst (q := 87) rfl rfl (by decide) ?_
        refine xx_iaddR (q := 88) rfl rfl (by omega) (by omega) ?_
        refine xx_istore (q := 90) (loc2 := [_, _, _, _, _, _]) rfl rfl (Nat.le_of_ble_eq_true rfl) rfl ?_
        refine xx_goto (q := 170) rfl rfl ?_
        refine xx_incz (q := 173) (loc2 := [_, _, _, _, _, _]) rfl rfl rfl (by omega) (by omega) rfl rfl ?_
        refine xx_goto (q := 12) rfl rfl ?_
        exact ih δ'.length (by omega) δ' ((f (-1 - c).toNat) :: st) (p + 1) _ _ _ (by show _ = ((st.length + 1 : Nat) : Int); omega) (by omega) rfl hd8.1 hd8.2 hcs hT2 hev2
theorem r_runsH {n : Nat} {R : Nat → Nat → Option Nat} {E : KK} {rl : Nat → Prop} {f : Nat → Int} {V a b : Int} {δ : List Int} (A B : Nat) (hR : RF R) (hf : AsK rl f E) (ha : a = (A : Int)) (hb : b = (B : Int)) (hAB : A + δ.length = B) (hB : B ≤ 400) (hcd : ∀ j, j < δ.length → E 504 (400 * 1 + A + j) = (opR (δ.getD j 0)).1 ∧ E 505 (400 * 1 + A + j) = (opR (δ.getD j 0)).2) (hev : ∀ k : List Int → Prop, k [V] → evP rl f δ [] k) : ∃ E2, XC 2 226 [.inr (some 479), .inl 1, .inl a, .inl b] (xS n, R, E) (some (.inl V)) (xS n, R, E2) ∧ ∀ x j, x ≠ 509 → E2 x j = E x j := by
  subst ha hb
  refine XE_of (Nat.le_of_ble_eq_true rfl) (Nat.le_of_ble_eq_true rfl) (loc := [_, _, _, _, _, _]) rfl ?_
  refine xx_iconst (q := 1) rfl rfl (by decide) ?_
  refine xx_istore (q := 3) (loc2 := [_, _, _, _, _, _]) rfl rfl (Nat.le_of_ble_eq_true rfl) rfl ?_
  refine xx_sipush (q := 6) rfl rfl (by decide) ?_
  refine xx_iload_n (q := 7) rfl rfl rfl ?_
  refine xx_imulR (q := 8) rfl rfl (by omega) (by omega) ?_
  refine xx_iload_n (q := 9) rfl rfl rfl ?_
  refine xx_iaddR (q := 10) rfl rfl (by omega) (by omega) ?_
  refine xx_istore (q := 12) (loc2 := [_, _, _, _, _, _]) rfl rfl (Nat.le_of_ble_eq_true rfl) rfl ?_
  exact r_runH_L (T := 400 * 1 + B) hR hf rfl (by omega) δ.length δ [] (400 * 1 + A) _ _ E rfl (by omega) rfl (fun j hj => absurd hj (Nat.not_lt_zero _)) (fun _ _ _ => rfl) hcd (by omega) (hev _ rfl)
theorem rfC_at {L : List LN1} {i : Nat} {l : LN1} (h : L[i]? = some l) : ∃ r, rfC L = rfC (L.take i) ++ (rf1 l ++ r) := by
  obtain ⟨hi, e⟩ := List.getElem?_eq_some_iff.mp h
  refine ⟨rfC (L.drop (i + 1)), ?_⟩
  have e2 : L = L.take i ++ (l :: L.drop (i + 1)) := by
    rw [← e, ← List.drop_eq_getElem_cons hi, List.take_append_drop]
  have e3 : rfC (L.take i ++ (l :: L.drop (i + 1))) = rfC (L.take i) ++ rfC (l :: L.drop (i + 1)) := by unfold rfC; rw [List.flatMap_append]
  rw [← e2] at e3
  exact e3
theorem Ev_ne {rl : Nat → Prop} {d : Nat} {bl : Prop} (h : EvX rl d bl []) (hd : d ≤ 64) : False := by
  obtain ⟨v, _, h2⟩ := h (fun _ => 0)
  have h3 : ([] : List Int) = [v] := h2 [] (fun s => s = [v]) (by show 0 + d ≤ 64; omega) rfl
  cases h3
theorem lw_at {h : Int} {f : Nat → Int} {L : List LN1} {i : Nat} {l : LN1} (e : L[i]? = some l) (o : Int) : lwV h f o (L.drop i) = if lnB h f l = 0 then lwV h f o (L.drop (i + 1)) else lnV h f l := by
  obtain ⟨hi, e2⟩ := List.getElem?_eq_some_iff.mp e
  rw [List.drop_eq_getElem_cons hi, e2]
  rfl
def LoQ (h : Int) (w : Nat) (f : Nat → Int) (L : List LN1) (E : KK) (n : Nat) (R : Nat → Nat → Option Nat) : XQ := fun r m2 => ∃ z E2, r = some (.inl z) ∧ m2 = (xS n, R, E2) ∧ (∀ x j, x ≠ 509 → E2 x j = E x j) ∧ ((z = -1 ∧ ∀ o, lwV h f o L = o) ∨ ∃ j l, L[j]? = some l ∧ z = ((16 * w + j : Nat) : Int) ∧ ∀ o, lwV h f o L = lnV h f l)
set_option maxHeartbeats 4000000 in
theorem r_loG_L {n : Nat} {R : Nat → Nat → Option Nat} {E : KK} {f : Nat → Int} {L : List LN1} (hR : RF R) (hf : AsK (rlh 0) f E) (hL : LwR 0 L E) (hok : ∀ l ∈ L, ok1 0 l) : ∀ (k : Nat) (i : Nat) (D : KK) (x : Option XV), i + k = L.length → (∀ x j, x ≠ 509 → D x j = E x j) → (∀ o, lwV 0 f o L = lwV 0 f o (L.drop i)) → XX (XC 2) 227 (LoQ 0 0 f L E n R) 2 [some (.inr (some 479)), some (.inl 0), some (.inl (i : Int)), x] [] (xS n, R, D) := by
  intro k
  induction k using Nat.strongRecOn with
  | ind k ih =>
  intro i D x hik hD hq
  have hL16 := hL.2.1
  refine xx_iload_n (q := 3) rfl rfl rfl ?_
  refine xx_aload_n (q := 4) rfl rfl rfl ?_
  refine xx_getR (q := 7) rfl rfl rfl xS_479 (Nat.le_of_ble_eq_true rfl) rfl (hR.1 479 30 rfl) ?_
  refine xx_iload_n (q := 8) rfl rfl rfl ?_
  refine xx_iaz (v := (L.length : Int)) (q := 9) rfl rfl xS_499 (by omega) (by omega) ((hD 499 _ (by omega)).trans hL.1) ?_
  refine xx_icmp_ge (q := 62) (q2 := 12) rfl rfl rfl (fun h9 => ?_) (fun h9 => ?_)
  · refine xx_iconst (q := 63) rfl rfl (by decide) ?_
    exact xx_iret rfl trivial ⟨_, _, rfl, rfl, hD, Or.inl ⟨rfl, fun o => by rw [hq o, List.drop_of_length_le (by omega)]; rfl⟩⟩
  · obtain ⟨l, hl⟩ : ∃ l, L[i]? = some l := ⟨L[i]'(by omega), List.getElem?_eq_getElem (by omega)⟩
    have hln := hL.2.2.1 i l hl
    have hkl := hok l (List.mem_of_getElem? hl)
    have hwa := fun o => lw_at (h := 0) (f := f) hl o
    refine xx_bipush (q := 14) rfl rfl (by decide) ?_
    refine xx_iload_n (q := 15) rfl rfl rfl ?_
    refine xx_imulR (q := 16) rfl rfl (by omega) (by omega) ?_
    refine xx_iload_n (q := 17) rfl rfl rfl ?_
    refine xx_iaddR (q := 18) rfl rfl (by omega) (by omega) ?_
    refine xx_istore_n (q := 19) (loc2 := [_, _, _, _]) rfl rfl (Nat.le_of_ble_eq_true rfl) rfl ?_
    refine xx_aload_n (q := 20) rfl rfl rfl ?_
    refine xx_getR (q := 23) rfl rfl rfl xS_479 (Nat.le_of_ble_eq_true rfl) rfl (hR.1 479 33 rfl) ?_
    refine xx_iload_n (q := 24) rfl rfl rfl ?_
    refine xx_iaz (v := (((rfC (L.take i)).length + l.2.1.length : Nat) : Int)) (q := 25) rfl rfl xS_502 (by omega) (by omega) (by rw [show ((16 * 0) + (i : Int)).toNat = 16 * 0 + i by omega]; exact (hD 502 _ (by omega)).trans hln.2.2.1) ?_
    refine xx_aload_n (q := 26) rfl rfl rfl ?_
    refine xx_getR (q := 29) rfl rfl rfl xS_479 (Nat.le_of_ble_eq_true rfl) rfl (hR.1 479 34 rfl) ?_
    refine xx_iload_n (q := 30) rfl rfl rfl ?_
    refine xx_iaz (v := (((rfC (L.take i)).length + (rf1 l).length : Nat) : Int)) (q := 31) rfl rfl xS_503 (by omega) (by omega) (by rw [show ((16 * 0) + (i : Int)).toNat = 16 * 0 + i by omega]; exact (hD 503 _ (by omega)).trans hln.2.2.2) ?_
    refine xx_icmp_eq (q := 54) (q2 := 34) rfl rfl rfl (fun h31 => ?_) (fun h31 => ?_)
    · refine xx_iload_n (q := 55) rfl rfl rfl ?_
      have hnc : lnB 0 f l = 1 := by
        unfold lnB
        cases hc : l.2.2 with
        | none => rfl
        | some c =>
          exfalso
          have h9 : (rf1 l).length = l.2.1.length + c.length := by unfold rf1; rw [hc]; exact List.length_append
          have h8 := ok1_c hkl hc
          rw [List.eq_nil_of_length_eq_zero (show c.length = 0 by omega)] at h8
          exact Ev_ne h8 (by omega)
      exact xx_iret rfl trivial ⟨_, _, rfl, rfl, hD, Or.inr ⟨i, l, hl, by show _ = ((16 * 0 + i : Nat) : Int); omega, fun o => by rw [hq o, hwa o, if_neg (by rw [hnc]; decide)]⟩⟩
    · obtain ⟨c, hc⟩ : ∃ c, l.2.2 = some c := by
        cases hc : l.2.2 with
        | none => exact absurd (by show (((rfC (L.take i)).length + l.2.1.length : Nat) : Int) = (((rfC (L.take i)).length + (l.2.1 ++ l.2.2.getD []).length : Nat) : Int); rw [hc]; show _ = (((rfC (L.take i)).length + (l.2.1 ++ []).length : Nat) : Int); rw [List.append_nil]) h31
        | some c => exact ⟨c, rfl⟩
      have hr1 : rf1 l = l.2.1 ++ c := by unfold rf1; rw [hc]; rfl
      obtain ⟨rr, hrr⟩ := rfC_at hl
      have hlr : (rf1 l).length = l.2.1.length + c.length := by rw [hr1, List.length_append]
      have hlt : (rfC L).length = (rfC (L.take i)).length + ((rf1 l).length + rr.length) := by rw [hrr, List.length_append, List.length_append]
      have hL4 := hL.2.2.2.1
      have hcc : ∀ j, j < c.length → D 504 (400 * 0 + ((rfC (L.take i)).length + l.2.1.length) + j) = (opR (c.getD j 0)).1 ∧ D 505 (400 * 0 + ((rfC (L.take i)).length + l.2.1.length) + j) = (opR (c.getD j 0)).2 := fun j hj => by
        have h9 := hL.2.2.2.2 ((rfC (L.take i)).length + (l.2.1.length + j)) (by omega)
        rw [hrr, getD_r, getD_l (by omega), hr1, getD_r] at h9
        rw [hD 504 _ (by omega), hD 505 _ (by omega), show 400 * 0 + ((rfC (L.take i)).length + l.2.1.length) + j = 400 * 0 + ((rfC (L.take i)).length + (l.2.1.length + j)) by omega]
        exact h9
      have hlb : lnB 0 f l = vlX (rlh 0) f c := by unfold lnB; rw [hc]
      have hfD : AsK (rlh 0) f D := fun c q1 q2 q3 => (hD 508 _ (by omega)).trans (hf c q1 q2 q3)
      refine xx_aload_n (q := 35) rfl rfl rfl ?_
      refine xx_iload_n (q := 36) rfl rfl rfl ?_
      refine xx_aload_n (q := 37) rfl rfl rfl ?_
      refine xx_getR (q := 40) rfl rfl rfl xS_479 (Nat.le_of_ble_eq_true rfl) rfl (hR.1 479 33 rfl) ?_
      refine xx_iload_n (q := 41) rfl rfl rfl ?_
      refine xx_iaz (v := (((rfC (L.take i)).length + l.2.1.length : Nat) : Int)) (q := 42) rfl rfl xS_502 (by omega) (by omega) (by rw [show ((16 * 0) + (i : Int)).toNat = 16 * 0 + i by omega]; exact (hD 502 _ (by omega)).trans hln.2.2.1) ?_
      refine xx_aload_n (q := 43) rfl rfl rfl ?_
      refine xx_getR (q := 46) rfl rfl rfl xS_479 (Nat.le_of_ble_eq_true rfl) rfl (hR.1 479 34 rfl) ?_
      refine xx_iload_n (q := 47) rfl rfl rfl ?_
      refine xx_iaz (v := (((rfC (L.take i)).length + (rf1 l).length : Nat) : Int)) (q := 48) rfl rfl xS_503 (by omega) (by omega) (by rw [show ((16 * 0) + (i : Int)).toNat = 16 * 0 + i by omega]; exact (hD 503 _ (by omega)).trans hln.2.2.2) ?_
      obtain ⟨D1, hx1, hF1⟩ := r_runsG (n := n) (a := (((rfC (L.take i)).length + l.2.1.length : Nat) : Int)) (b := (((rfC (L.take i)).length + (rf1 l).length : Nat) : Int)) ((rfC (L.take i)).length + l.2.1.length) ((rfC (L.take i)).length + (rf1 l).length) hR hfD rfl rfl (by omega) (by omega) hcc (fun k q => vlX_s (ok1_c hkl hc) (by omega) f [] k (by show 0 + 23 ≤ 64; omega) q)
      refine xx_callV (q := 51) (As := [_, _, _]) (rest := []) rfl rfl rfl (Or.inl rfl) rfl rfl (Nat.le_of_ble_eq_true rfl) xS_479 (XCm hx1 rfl) rfl ?_
      refine xx_if_eq (q := 56) (q2 := 54) rfl rfl rfl (fun h51 => ?_) (fun h51 => ?_)
      · refine xx_incz (q := 59) (loc2 := [_, _, _, _]) rfl rfl rfl (by omega) (by omega) rfl rfl ?_
        refine xx_goto (q := 2) rfl rfl ?_
        exact ih (k - 1) (by omega) (i + 1) _ _ (by omega) (fun x j hx => (hF1 x j hx).trans (hD x j hx)) (fun o => by rw [hq o, hwa o, if_pos (by rw [hlb]; omega)])
      · refine xx_iload_n (q := 55) rfl rfl rfl ?_
        exact xx_iret rfl trivial ⟨_, _, rfl, rfl, fun x j hx => (hF1 x j hx).trans (hD x j hx), Or.inr ⟨i, l, hl, by show _ = ((16 * 0 + i : Nat) : Int); omega, fun o => by rw [hq o, hwa o, if_neg (by rw [hlb]; omega)]⟩⟩
set_option maxHeartbeats 4000000 in
theorem r_loH_L {n : Nat} {R : Nat → Nat → Option Nat} {E : KK} {f : Nat → Int} {L : List LN1} (hR : RF R) (hf : AsK (rlh 1) f E) (hL : LwR 1 L E) (hok : ∀ l ∈ L, ok1 1 l) : ∀ (k : Nat) (i : Nat) (D : KK) (x : Option XV), i + k = L.length → (∀ x j, x ≠ 509 → D x j = E x j) → (∀ o, lwV 1 f o L = lwV 1 f o (L.drop i)) → XX (XC 2) 227 (LoQ 1 1 f L E n R) 2 [some (.inr (some 479)), some (.inl 1), some (.inl (i : Int)), x] [] (xS n, R, D) := by
  intro k
  induction k using Nat.strongRecOn with
  | ind k ih =>
  intro i D x hik hD hq
  have hL16 := hL.2.1
  refine xx_iload_n (q := 3) rfl rfl rfl ?_
  refine xx_aload_n (q := 4) rfl rfl rfl ?_
  refine xx_getR (q := 7) rfl rfl rfl xS_479 (Nat.le_of_ble_eq_true rfl) rfl (hR.1 479 30 rfl) ?_
  refine xx_iload_n (q := 8) rfl rfl rfl ?_
  refine xx_iaz (v := (L.length : Int)) (q := 9) rfl rfl xS_499 (by omega) (by omega) ((hD 499 _ (by omega)).trans hL.1) ?_
  refine xx_icmp_ge (q := 62) (q2 := 12) rfl rfl rfl (fun h9 => ?_) (fun h9 => ?_)
  · refine xx_iconst (q := 63) rfl rfl (by decide) ?_
    exact xx_iret rfl trivial ⟨_, _, rfl, rfl, hD, Or.inl ⟨rfl, fun o => by rw [hq o, List.drop_of_length_le (by omega)]; rfl⟩⟩
  · obtain ⟨l, hl⟩ : ∃ l, L[i]? = some l := ⟨L[i]'(by omega), List.getElem?_eq_getElem (by omega)⟩
    have hln := hL.2.2.1 i l hl
    have hkl := hok l (List.mem_of_getElem? hl)
    have hwa := fun o => lw_at (h := 1) (f := f) hl o
    refine xx_bipush (q := 14) rfl rfl (by decide) ?_
    refine xx_iload_n (q := 15) rfl rfl rfl ?_
    refine xx_imulR (q := 16) rfl rfl (by omega) (by omega) ?_
    refine xx_iload_n (q := 17) rfl rfl rfl ?_
    refine xx_iaddR (q := 18) rfl rfl (by omega) (by omega) ?_
    refine xx_istore_n (q := 19) (loc2 := [_, _, _, _]) rfl rfl (Nat.le_of_ble_eq_true rfl) rfl ?_
    refine xx_aload_n (q := 20) rfl rfl rfl ?_
    refine xx_getR (q := 23) rfl rfl rfl xS_479 (Nat.le_of_ble_eq_true rfl) rfl (hR.1 479 33 rfl) ?_
    refine xx_iload_n (q := 24) rfl rfl rfl ?_
    refine xx_iaz (v := (((rfC (L.take i)).length + l.2.1.length : Nat) : Int)) (q := 25) rfl rfl xS_502 (by omega) (by omega) (by rw [show ((16 * 1) + (i : Int)).toNat = 16 * 1 + i by omega]; exact (hD 502 _ (by omega)).trans hln.2.2.1) ?_
    refine xx_aload_n (q := 26) rfl rfl rfl ?_
    refine xx_getR (q := 29) rfl rfl rfl xS_479 (Nat.le_of_ble_eq_true rfl) rfl (hR.1 479 34 rfl) ?_
    refine xx_iload_n (q := 30) rfl rfl rfl ?_
    refine xx_iaz (v := (((rfC (L.take i)).length + (rf1 l).length : Nat) : Int)) (q := 31) rfl rfl xS_503 (by omega) (by omega) (by rw [show ((16 * 1) + (i : Int)).toNat = 16 * 1 + i by omega]; exact (hD 503 _ (by omega)).trans hln.2.2.2) ?_
    refine xx_icmp_eq (q := 54) (q2 := 34) rfl rfl rfl (fun h31 => ?_) (fun h31 => ?_)
    · refine xx_iload_n (q := 55) rfl rfl rfl ?_
      have hnc : lnB 1 f l = 1 := by
        unfold lnB
        cases hc : l.2.2 with
        | none => rfl
        | some c =>
          exfalso
          have h9 : (rf1 l).length = l.2.1.length + c.length := by unfold rf1; rw [hc]; exact List.length_append
          have h8 := ok1_c hkl hc
          rw [List.eq_nil_of_length_eq_zero (show c.length = 0 by omega)] at h8
          exact Ev_ne h8 (by omega)
      exact xx_iret rfl trivial ⟨_, _, rfl, rfl, hD, Or.inr ⟨i, l, hl, by show _ = ((16 * 1 + i : Nat) : Int); omega, fun o => by rw [hq o, hwa o, if_neg (by rw [hnc]; decide)]⟩⟩
    · obtain ⟨c, hc⟩ : ∃ c, l.2.2 = some c := by
        cases hc : l.2.2 with
        | none => exact absurd (by show (((rfC (L.take i)).length + l.2.1.length : Nat) : Int) = (((rfC (L.take i)).length + (l.2.1 ++ l.2.2.getD []).length : Nat) : Int); rw [hc]; show _ = (((rfC (L.take i)).length + (l.2.1 ++ []).length : Nat) : Int); rw [List.append_nil]) h31
        | some c => exact ⟨c, rfl⟩
      have hr1 : rf1 l = l.2.1 ++ c := by unfold rf1; rw [hc]; rfl
      obtain ⟨rr, hrr⟩ := rfC_at hl
      have hlr : (rf1 l).length = l.2.1.length + c.length := by rw [hr1, List.length_append]
      have hlt : (rfC L).length = (rfC (L.take i)).length + ((rf1 l).length + rr.length) := by rw [hrr, List.length_append, List.length_append]
      have hL4 := hL.2.2.2.1
      have hcc : ∀ j, j < c.length → D 504 (400 * 1 + ((rfC (L.take i)).length + l.2.1.length) + j) = (opR (c.getD j 0)).1 ∧ D 505 (400 * 1 + ((rfC (L.take i)).length + l.2.1.length) + j) = (opR (c.getD j 0)).2 := fun j hj => by
        have h9 := hL.2.2.2.2 ((rfC (L.take i)).length + (l.2.1.length + j)) (by omega)
        rw [hrr, getD_r, getD_l (by omega), hr1, getD_r] at h9
        rw [hD 504 _ (by omega), hD 505 _ (by omega), show 400 * 1 + ((rfC (L.take i)).length + l.2.1.length) + j = 400 * 1 + ((rfC (L.take i)).length + (l.2.1.length + j)) by omega]
        exact h9
      have hlb : lnB 1 f l = vlX (rlh 1) f c := by unfold lnB; rw [hc]
      have hfD : AsK (rlh 1) f D := fun c q1 q2 q3 => (hD 508 _ (by omega)).trans (hf c q1 q2 q3)
      refine xx_aload_n (q := 35) rfl rfl rfl ?_
      refine xx_iload_n (q := 36) rfl rfl rfl ?_
      refine xx_aload_n (q := 37) rfl rfl rfl ?_
      refine xx_getR (q := 40) rfl rfl rfl xS_479 (Nat.le_of_ble_eq_true rfl) rfl (hR.1 479 33 rfl) ?_
      refine xx_iload_n (q := 41) rfl rfl rfl ?_
      refine xx_iaz (v := (((rfC (L.take i)).length + l.2.1.length : Nat) : Int)) (q := 42) rfl rfl xS_502 (by omega) (by omega) (by rw [show ((16 * 1) + (i : Int)).toNat = 16 * 1 + i by omega]; exact (hD 502 _ (by omega)).trans hln.2.2.1) ?_
      refine xx_aload_n (q := 43) rfl rfl rfl ?_
      refine xx_getR (q := 46) rfl rfl rfl xS_479 (Nat.le_of_ble_eq_true rfl) rfl (hR.1 479 34 rfl) ?_
      refine xx_iload_n (q := 47) rfl rfl rfl ?_
      refine xx_iaz (v := (((rfC (L.take i)).length + (rf1 l).length : Nat) : Int)) (q := 48) rfl rfl xS_503 (by omega) (by omega) (by rw [show ((16 * 1) + (i : Int)).toNat = 16 * 1 + i by omega]; exact (hD 503 _ (by omega)).trans hln.2.2.2) ?_
      obtain ⟨D1, hx1, hF1⟩ := r_runsH (n := n) (a := (((rfC (L.take i)).length + l.2.1.length : Nat) : Int)) (b := (((rfC (L.take i)).length + (rf1 l).length : Nat) : Int)) ((rfC (L.take i)).length + l.2.1.length) ((rfC (L.take i)).length + (rf1 l).length) hR hfD rfl rfl (by omega) (by omega) hcc (fun k q => vlX_s (ok1_c hkl hc) (by omega) f [] k (by show 0 + 23 ≤ 64; omega) q)
      refine xx_callV (q := 51) (As := [_, _, _]) (rest := []) rfl rfl rfl (Or.inl rfl) rfl rfl (Nat.le_of_ble_eq_true rfl) xS_479 (XCm hx1 rfl) rfl ?_
      refine xx_if_eq (q := 56) (q2 := 54) rfl rfl rfl (fun h51 => ?_) (fun h51 => ?_)
      · refine xx_incz (q := 59) (loc2 := [_, _, _, _]) rfl rfl rfl (by omega) (by omega) rfl rfl ?_
        refine xx_goto (q := 2) rfl rfl ?_
        exact ih (k - 1) (by omega) (i + 1) _ _ (by omega) (fun x j hx => (hF1 x j hx).trans (hD x j hx)) (fun o => by rw [hq o, hwa o, if_pos (by rw [hlb]; omega)])
      · refine xx_iload_n (q := 55) rfl rfl rfl ?_
        exact xx_iret rfl trivial ⟨_, _, rfl, rfl, fun x j hx => (hF1 x j hx).trans (hD x j hx), Or.inr ⟨i, l, hl, by show _ = ((16 * 1 + i : Nat) : Int); omega, fun o => by rw [hq o, hwa o, if_neg (by rw [hlb]; omega)]⟩⟩
