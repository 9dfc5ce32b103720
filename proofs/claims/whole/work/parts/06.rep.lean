def xok (z : Int) : Prop := -2147483648 ≤ z ∧ z < 2147483648
theorem xok_to (x : Int32) : xok x.toInt := by
  have h1 := Int32.le_toInt x
  have h2 := Int32.toInt_lt x
  exact ⟨by omega, by omega⟩
theorem nrm_of (z : Int) : (Int32.ofInt z).toInt = nrm z := Int32.toInt_ofInt
theorem nrm_ok (z : Int) : xok (nrm z) := by rw [← nrm_of]; exact xok_to _
theorem toInt_of {z : Int} (h : xok z) : (Int32.ofInt z).toInt = z := Int32.toInt_ofInt_of_le h.1 h.2
theorem nrm_id {z : Int} (h : xok z) : nrm z = z := by rw [← nrm_of]; exact toInt_of h
theorem of_nrm (z : Int) : Int32.ofInt (nrm z) = Int32.ofInt z := by rw [← nrm_of, Int32.ofInt_toInt]
theorem of_lt {a b : Int} (ha : xok a) (hb : xok b) : Int32.ofInt a < Int32.ofInt b ↔ a < b := by rw [Int32.lt_iff_toInt_lt, toInt_of ha, toInt_of hb]
theorem of_le {a b : Int} (ha : xok a) (hb : xok b) : Int32.ofInt a ≤ Int32.ofInt b ↔ a ≤ b := by rw [Int32.le_iff_toInt_le, toInt_of ha, toInt_of hb]
theorem of_eq {a b : Int} (ha : xok a) (hb : xok b) : Int32.ofInt a = Int32.ofInt b ↔ a = b := by rw [← Int32.toInt_inj, toInt_of ha, toInt_of hb]
theorem xok_0 : xok 0 := by decide +kernel
theorem of_0 : Int32.ofInt 0 = 0 := by decide +kernel
theorem of_clamp {j : Int} (h0 : 0 ≤ j) (h : xok j) : (Int32.ofInt j).toNatClampNeg = j.toNat := by
  show (Int32.ofInt j).toInt.toNat = j.toNat
  rw [toInt_of h]
theorem of_in {j : Int} {n : Nat} (h0 : 0 ≤ j) (h : xok j) (hn : j < (n : Int)) : vp_in (Int32.ofInt j) n := by
  rw [vp_in_iff, toInt_of h]; exact ⟨h0, hn⟩
theorem of_neg {j : Int} (h0 : 0 ≤ j) (h : xok j) : ¬ Int32.ofInt j < 0 := by
  rw [← of_0, of_lt h xok_0]; omega
theorem of_div (a b : Int32) : Int32.ofInt (xdiv a.toInt b.toInt) = a / b := by
  rw [← Int32.toInt_inj, Int32.toInt_div]
  show _ = nrm _
  unfold xdiv
  rw [of_nrm, nrm_of]
theorem of_rem (a b : Int32) : Int32.ofInt (xrem a.toInt b.toInt) = a - a / b * b := by
  have h : a - a / b * b = a % b := by
    have e : a / b * b + a % b = a := Int32.ofInt_toInt a ▸ Int32.ofInt_toInt b ▸ by
      rw [← Int32.toInt_inj]
      simp only [Int32.toInt_add, Int32.toInt_mul, Int32.toInt_div, Int32.toInt_mod]
      rw [Int.bmod_add_bmod, Int.bmod_mul_bmod, Int.bmod_add_bmod, Int.mul_comm, Int.mul_tdiv_add_tmod]
    generalize a / b * b = u at e ⊢
    rw [← e, Int32.add_comm u, Int32.add_sub_cancel]
  rw [h, ← Int32.toInt_inj, Int32.toInt_mod]
  unfold xrem
  rw [nrm_of, nrm_id]
  rw [← Int32.toInt_mod]
  exact xok_to _
