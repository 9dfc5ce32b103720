def xok (z : Int) : Prop := -2147483648 ≤ z ∧ z < 2147483648
theorem xok_to (x : Int32) : xok x.toInt := by
  have h1 := Int32.le_toInt x
  have h2 := Int32.toInt_lt x
  exact ⟨by omega, by omega⟩
theorem nrm_of (z : Int) : (Int32.ofInt z).toInt = nrm z := Int32.toInt_ofInt
theorem nrm_ok (z : Int) : xok (nrm z) := by rw [← nrm_of]; exact xok_to _
theorem xo_to {z : Int} (h : xok z) : (Int32.ofInt z).toInt = z := Int32.toInt_ofInt_of_le h.1 h.2
theorem nrm_id {z : Int} (h : xok z) : nrm z = z := by rw [← nrm_of]; exact xo_to h
theorem xo_nrm (z : Int) : Int32.ofInt (nrm z) = Int32.ofInt z := by rw [← nrm_of, Int32.ofInt_toInt]
theorem xo_lt {a b : Int} (ha : xok a) (hb : xok b) : Int32.ofInt a < Int32.ofInt b ↔ a < b := by rw [Int32.lt_iff_toInt_lt, xo_to ha, xo_to hb]
theorem xo_le {a b : Int} (ha : xok a) (hb : xok b) : Int32.ofInt a ≤ Int32.ofInt b ↔ a ≤ b := by rw [Int32.le_iff_toInt_le, xo_to ha, xo_to hb]
theorem xo_eq {a b : Int} (ha : xok a) (hb : xok b) : Int32.ofInt a = Int32.ofInt b ↔ a = b := by rw [← Int32.toInt_inj, xo_to ha, xo_to hb]
theorem xok_0 : xok 0 := ⟨by omega, by omega⟩
theorem xo_0 : Int32.ofInt 0 = 0 := by decide +kernel
theorem xo_cl {j : Int} (h0 : 0 ≤ j) (h : xok j) : (Int32.ofInt j).toNatClampNeg = j.toNat := by
  show (Int32.ofInt j).toInt.toNat = j.toNat
  rw [xo_to h]
theorem xo_in {j : Int} {n : Nat} (h0 : 0 ≤ j) (h : xok j) (hn : j < (n : Int)) : vp_in (Int32.ofInt j) n := by
  rw [vp_in_iff, xo_to h]; exact ⟨h0, hn⟩
theorem xo_ng {j : Int} (h0 : 0 ≤ j) (h : xok j) : ¬ Int32.ofInt j < 0 := by
  rw [← xo_0, xo_lt h xok_0]; omega
theorem xo_div (a b : Int32) : Int32.ofInt (xdiv a.toInt b.toInt) = a / b := by
  rw [← Int32.toInt_inj, Int32.toInt_div]
  show _ = nrm _
  unfold xdiv
  rw [xo_nrm, nrm_of]
theorem xo_rem (a b : Int32) : Int32.ofInt (xrem a.toInt b.toInt) = a - a / b * b := by
  have h1 : Int32.ofInt (a.toInt.tdiv b.toInt) = a / b := by rw [← xo_div]; unfold xdiv; rw [xo_nrm]
  rw [← h1]
  unfold xrem
  rw [Int.tmod_def, Int32.ofInt_sub, Int32.ofInt_mul, Int32.ofInt_toInt, Int32.ofInt_toInt, Int32.mul_comm]
theorem xrem_ok {a b : Int} (ha : xok a) (hb : xok b) : xok (xrem a b) := by
  have h := Int32.toInt_mod (Int32.ofInt a) (Int32.ofInt b)
  rw [xo_to ha, xo_to hb] at h
  unfold xrem
  rw [← h]
  exact xok_to _
