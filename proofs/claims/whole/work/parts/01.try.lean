theorem tr_1 : (1 : Nat) + 1 = 2 := rfl
