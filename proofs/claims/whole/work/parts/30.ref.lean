/-! The reference's canal. Made by gen30.py. -/
def RW (K : KK) (b : Int) (f : Nat → Int) : Prop := f 0 = K 0 1 ∧ f 1 = K 0 2 ∧ f 2 = K 0 3 ∧ f 3 = b ∧ (∀ i, i < 10 → f (4 + i) = K 1 i - 100) ∧ (∀ i, i < 9 → f (14 + i) = K 5 i) ∧ (∀ i, i < 9 → f (23 + i) = K 10 i) ∧ (∀ i, i < 9 → f (32 + i) = K 8 i) ∧ (∀ i, i < 54 → f (41 + i) = K 12 i) ∧ (∀ i : Nat, (i : Int) < K 13 0 → f (95 + i) = K 14 i) ∧ (∀ i, i < 24 → f (101 + i) = K 17 i)
def RCf (K D : KK) : Prop := D 479 6 = K 0 0 ∧ D 479 7 = K 13 0 ∧ (∀ i, i < 9 → D 483 i = K 2 i - 10) ∧ (∀ i, i < 9 → D 484 i = K 3 i) ∧ (∀ i, i < 9 → D 485 i = K 4 i - 4) ∧ (∀ i, i < 9 → D 486 i = K 9 i + 1) ∧ (∀ i, i < 36 → D 487 i = K 11 i) ∧ (∀ i, i < 6 → D 488 i = K 15 i) ∧ (∀ i, i < 6 → D 489 i = K 16 i) ∧ (∀ i, i < 5 → D 490 i = K 6 i)
theorem fset_s {f : Nat → Int} {j : Nat} {v : Int} : fset f j v j = v := if_pos rfl
theorem fset_n {f : Nat → Int} {j k : Nat} {v : Int} (h : ¬ k = j) : fset f j v k = f k := if_neg h
theorem xui_f {D : KK} {a j : Nat} {v : Int} : xui D a j v a = fset (D a) j v := by
  funext k
  show (if a = a ∧ k = j then v else D a k) = if k = j then v else D a k
  rcases Classical.em (k = j) with q | q
  · rw [if_pos q, if_pos ⟨rfl, q⟩]
  · rw [if_neg q, if_neg (fun r => q r.2)]
theorem RW_h {K : KK} {b v : Int} {f : Nat → Int} (h : RW K b f) : RW (xui K 0 1 v) b (fset f 0 v) := ⟨fset_s.trans xui_s.symm, (fset_n (by omega)).trans h.2.1, (fset_n (by omega)).trans h.2.2.1, (fset_n (by omega)).trans h.2.2.2.1, fun i hi => (fset_n (by omega)).trans (h.2.2.2.2.1 i hi), fun i hi => (fset_n (by omega)).trans (h.2.2.2.2.2.1 i hi), fun i hi => (fset_n (by omega)).trans (h.2.2.2.2.2.2.1 i hi), fun i hi => (fset_n (by omega)).trans (h.2.2.2.2.2.2.2.1 i hi), fun i hi => (fset_n (by omega)).trans (h.2.2.2.2.2.2.2.2.1 i hi), fun i hi => (fset_n (by omega)).trans (h.2.2.2.2.2.2.2.2.2.1 i hi), fun i hi => (fset_n (by omega)).trans (h.2.2.2.2.2.2.2.2.2.2 i hi)⟩
theorem RW_s {K : KK} {b v : Int} {f : Nat → Int} (h : RW K b f) : RW (xui K 0 2 v) b (fset f 1 v) := ⟨(fset_n (by omega)).trans h.1, fset_s.trans xui_s.symm, (fset_n (by omega)).trans h.2.2.1, (fset_n (by omega)).trans h.2.2.2.1, fun i hi => (fset_n (by omega)).trans (h.2.2.2.2.1 i hi), fun i hi => (fset_n (by omega)).trans (h.2.2.2.2.2.1 i hi), fun i hi => (fset_n (by omega)).trans (h.2.2.2.2.2.2.1 i hi), fun i hi => (fset_n (by omega)).trans (h.2.2.2.2.2.2.2.1 i hi), fun i hi => (fset_n (by omega)).trans (h.2.2.2.2.2.2.2.2.1 i hi), fun i hi => (fset_n (by omega)).trans (h.2.2.2.2.2.2.2.2.2.1 i hi), fun i hi => (fset_n (by omega)).trans (h.2.2.2.2.2.2.2.2.2.2 i hi)⟩
theorem RW_d {K : KK} {b v : Int} {f : Nat → Int} (h : RW K b f) : RW (xui K 0 3 v) b (fset f 2 v) := ⟨(fset_n (by omega)).trans h.1, (fset_n (by omega)).trans h.2.1, fset_s.trans xui_s.symm, (fset_n (by omega)).trans h.2.2.2.1, fun i hi => (fset_n (by omega)).trans (h.2.2.2.2.1 i hi), fun i hi => (fset_n (by omega)).trans (h.2.2.2.2.2.1 i hi), fun i hi => (fset_n (by omega)).trans (h.2.2.2.2.2.2.1 i hi), fun i hi => (fset_n (by omega)).trans (h.2.2.2.2.2.2.2.1 i hi), fun i hi => (fset_n (by omega)).trans (h.2.2.2.2.2.2.2.2.1 i hi), fun i hi => (fset_n (by omega)).trans (h.2.2.2.2.2.2.2.2.2.1 i hi), fun i hi => (fset_n (by omega)).trans (h.2.2.2.2.2.2.2.2.2.2 i hi)⟩
theorem RW_b {K : KK} {b v : Int} {f : Nat → Int} (h : RW K b f) : RW K v (fset f 3 v) := ⟨(fset_n (by omega)).trans h.1, (fset_n (by omega)).trans h.2.1, (fset_n (by omega)).trans h.2.2.1, fset_s, fun i hi => (fset_n (by omega)).trans (h.2.2.2.2.1 i hi), fun i hi => (fset_n (by omega)).trans (h.2.2.2.2.2.1 i hi), fun i hi => (fset_n (by omega)).trans (h.2.2.2.2.2.2.1 i hi), fun i hi => (fset_n (by omega)).trans (h.2.2.2.2.2.2.2.1 i hi), fun i hi => (fset_n (by omega)).trans (h.2.2.2.2.2.2.2.2.1 i hi), fun i hi => (fset_n (by omega)).trans (h.2.2.2.2.2.2.2.2.2.1 i hi), fun i hi => (fset_n (by omega)).trans (h.2.2.2.2.2.2.2.2.2.2 i hi)⟩
theorem RW_1 {K : KK} {b v w : Int} {f : Nat → Int} {p : Nat} (h : RW K b f) (h6 : K 13 0 ≤ 6) (hp : p < 10) (hv : w = v - 100) : RW (xui K 1 p v) b (fset f (4 + p) w) := ⟨(fset_n (by omega)).trans h.1, (fset_n (by omega)).trans h.2.1, (fset_n (by omega)).trans h.2.2.1, (fset_n (by omega)).trans h.2.2.2.1, fun i hi => by
  rcases Classical.em (i = p) with rfl | q
  · rw [fset_s, xui_s, hv]
  · rw [fset_n (by omega), xui_j q]; exact h.2.2.2.2.1 i hi, fun i hi => (fset_n (by omega)).trans (h.2.2.2.2.2.1 i hi), fun i hi => (fset_n (by omega)).trans (h.2.2.2.2.2.2.1 i hi), fun i hi => (fset_n (by omega)).trans (h.2.2.2.2.2.2.2.1 i hi), fun i hi => (fset_n (by omega)).trans (h.2.2.2.2.2.2.2.2.1 i hi), fun i hi => (fset_n (by have h6 := h6; have hi2 : (i : Int) < K 13 0 := hi; omega)).trans (h.2.2.2.2.2.2.2.2.2.1 i hi), fun i hi => (fset_n (by omega)).trans (h.2.2.2.2.2.2.2.2.2.2 i hi)⟩
theorem RW_5 {K : KK} {b v w : Int} {f : Nat → Int} {p : Nat} (h : RW K b f) (h6 : K 13 0 ≤ 6) (hp : p < 9) (hv : w = v) : RW (xui K 5 p v) b (fset f (14 + p) w) := ⟨(fset_n (by omega)).trans h.1, (fset_n (by omega)).trans h.2.1, (fset_n (by omega)).trans h.2.2.1, (fset_n (by omega)).trans h.2.2.2.1, fun i hi => (fset_n (by omega)).trans (h.2.2.2.2.1 i hi), fun i hi => by
  rcases Classical.em (i = p) with rfl | q
  · rw [fset_s, xui_s, hv]
  · rw [fset_n (by omega), xui_j q]; exact h.2.2.2.2.2.1 i hi, fun i hi => (fset_n (by omega)).trans (h.2.2.2.2.2.2.1 i hi), fun i hi => (fset_n (by omega)).trans (h.2.2.2.2.2.2.2.1 i hi), fun i hi => (fset_n (by omega)).trans (h.2.2.2.2.2.2.2.2.1 i hi), fun i hi => (fset_n (by have h6 := h6; have hi2 : (i : Int) < K 13 0 := hi; omega)).trans (h.2.2.2.2.2.2.2.2.2.1 i hi), fun i hi => (fset_n (by omega)).trans (h.2.2.2.2.2.2.2.2.2.2 i hi)⟩
theorem RW_10 {K : KK} {b v w : Int} {f : Nat → Int} {p : Nat} (h : RW K b f) (h6 : K 13 0 ≤ 6) (hp : p < 9) (hv : w = v) : RW (xui K 10 p v) b (fset f (23 + p) w) := ⟨(fset_n (by omega)).trans h.1, (fset_n (by omega)).trans h.2.1, (fset_n (by omega)).trans h.2.2.1, (fset_n (by omega)).trans h.2.2.2.1, fun i hi => (fset_n (by omega)).trans (h.2.2.2.2.1 i hi), fun i hi => (fset_n (by omega)).trans (h.2.2.2.2.2.1 i hi), fun i hi => by
  rcases Classical.em (i = p) with rfl | q
  · rw [fset_s, xui_s, hv]
  · rw [fset_n (by omega), xui_j q]; exact h.2.2.2.2.2.2.1 i hi, fun i hi => (fset_n (by omega)).trans (h.2.2.2.2.2.2.2.1 i hi), fun i hi => (fset_n (by omega)).trans (h.2.2.2.2.2.2.2.2.1 i hi), fun i hi => (fset_n (by have h6 := h6; have hi2 : (i : Int) < K 13 0 := hi; omega)).trans (h.2.2.2.2.2.2.2.2.2.1 i hi), fun i hi => (fset_n (by omega)).trans (h.2.2.2.2.2.2.2.2.2.2 i hi)⟩
theorem RW_8 {K : KK} {b v w : Int} {f : Nat → Int} {p : Nat} (h : RW K b f) (h6 : K 13 0 ≤ 6) (hp : p < 9) (hv : w = v) : RW (xui K 8 p v) b (fset f (32 + p) w) := ⟨(fset_n (by omega)).trans h.1, (fset_n (by omega)).trans h.2.1, (fset_n (by omega)).trans h.2.2.1, (fset_n (by omega)).trans h.2.2.2.1, fun i hi => (fset_n (by omega)).trans (h.2.2.2.2.1 i hi), fun i hi => (fset_n (by omega)).trans (h.2.2.2.2.2.1 i hi), fun i hi => (fset_n (by omega)).trans (h.2.2.2.2.2.2.1 i hi), fun i hi => by
  rcases Classical.em (i = p) with rfl | q
  · rw [fset_s, xui_s, hv]
  · rw [fset_n (by omega), xui_j q]; exact h.2.2.2.2.2.2.2.1 i hi, fun i hi => (fset_n (by omega)).trans (h.2.2.2.2.2.2.2.2.1 i hi), fun i hi => (fset_n (by have h6 := h6; have hi2 : (i : Int) < K 13 0 := hi; omega)).trans (h.2.2.2.2.2.2.2.2.2.1 i hi), fun i hi => (fset_n (by omega)).trans (h.2.2.2.2.2.2.2.2.2.2 i hi)⟩
theorem RW_12 {K : KK} {b v w : Int} {f : Nat → Int} {p : Nat} (h : RW K b f) (h6 : K 13 0 ≤ 6) (hp : p < 54) (hv : w = v) : RW (xui K 12 p v) b (fset f (41 + p) w) := ⟨(fset_n (by omega)).trans h.1, (fset_n (by omega)).trans h.2.1, (fset_n (by omega)).trans h.2.2.1, (fset_n (by omega)).trans h.2.2.2.1, fun i hi => (fset_n (by omega)).trans (h.2.2.2.2.1 i hi), fun i hi => (fset_n (by omega)).trans (h.2.2.2.2.2.1 i hi), fun i hi => (fset_n (by omega)).trans (h.2.2.2.2.2.2.1 i hi), fun i hi => (fset_n (by omega)).trans (h.2.2.2.2.2.2.2.1 i hi), fun i hi => by
  rcases Classical.em (i = p) with rfl | q
  · rw [fset_s, xui_s, hv]
  · rw [fset_n (by omega), xui_j q]; exact h.2.2.2.2.2.2.2.2.1 i hi, fun i hi => (fset_n (by have h6 := h6; have hi2 : (i : Int) < K 13 0 := hi; omega)).trans (h.2.2.2.2.2.2.2.2.2.1 i hi), fun i hi => (fset_n (by omega)).trans (h.2.2.2.2.2.2.2.2.2.2 i hi)⟩
theorem RW_14 {K : KK} {b v w : Int} {f : Nat → Int} {p : Nat} (h : RW K b f) (h6 : K 13 0 ≤ 6) (hp : (p : Int) < K 13 0) (hv : w = v) : RW (xui K 14 p v) b (fset f (95 + p) w) := ⟨(fset_n (by omega)).trans h.1, (fset_n (by omega)).trans h.2.1, (fset_n (by omega)).trans h.2.2.1, (fset_n (by omega)).trans h.2.2.2.1, fun i hi => (fset_n (by omega)).trans (h.2.2.2.2.1 i hi), fun i hi => (fset_n (by omega)).trans (h.2.2.2.2.2.1 i hi), fun i hi => (fset_n (by omega)).trans (h.2.2.2.2.2.2.1 i hi), fun i hi => (fset_n (by omega)).trans (h.2.2.2.2.2.2.2.1 i hi), fun i hi => (fset_n (by omega)).trans (h.2.2.2.2.2.2.2.2.1 i hi), fun i hi => by
  rcases Classical.em (i = p) with rfl | q
  · rw [fset_s, xui_s, hv]
  · rw [fset_n (by omega), xui_j q]; exact h.2.2.2.2.2.2.2.2.2.1 i hi, fun i hi => (fset_n (by omega)).trans (h.2.2.2.2.2.2.2.2.2.2 i hi)⟩
theorem RW_17 {K : KK} {b v w : Int} {f : Nat → Int} {p : Nat} (h : RW K b f) (h6 : K 13 0 ≤ 6) (hp : p < 24) (hv : w = v) : RW (xui K 17 p v) b (fset f (101 + p) w) := ⟨(fset_n (by omega)).trans h.1, (fset_n (by omega)).trans h.2.1, (fset_n (by omega)).trans h.2.2.1, (fset_n (by omega)).trans h.2.2.2.1, fun i hi => (fset_n (by omega)).trans (h.2.2.2.2.1 i hi), fun i hi => (fset_n (by omega)).trans (h.2.2.2.2.2.1 i hi), fun i hi => (fset_n (by omega)).trans (h.2.2.2.2.2.2.1 i hi), fun i hi => (fset_n (by omega)).trans (h.2.2.2.2.2.2.2.1 i hi), fun i hi => (fset_n (by omega)).trans (h.2.2.2.2.2.2.2.2.1 i hi), fun i hi => (fset_n (by have h6 := h6; have hi2 : (i : Int) < K 13 0 := hi; omega)).trans (h.2.2.2.2.2.2.2.2.2.1 i hi), fun i hi => by
  rcases Classical.em (i = p) with rfl | q
  · rw [fset_s, xui_s, hv]
  · rw [fset_n (by omega), xui_j q]; exact h.2.2.2.2.2.2.2.2.2.2 i hi⟩
def RU (U : UU) (D : KK) : Prop := U.length ≤ 10 ∧ D 479 3 = (U.length : Int) ∧ ∀ (i : Nat) (u : KK × Int), U[i]? = some u → KI u.1 ∧ (0 ≤ u.2 ∧ u.2 ≤ 150) ∧ RW u.1 u.2 (fun j => D 481 (125 * (U.length - 1 - i) + j))
def FV (D E : KK) : Prop := ∀ b k, b ≠ 480 → b ≠ 481 → b ≠ 496 → b ≠ 508 → b ≠ 509 → (b = 479 → k ≠ 3) → E b k = D b k
theorem FV.rf {D : KK} : FV D D := fun _ _ _ _ _ _ _ _ => rfl
theorem FV.trans {D E F : KK} (h : FV D E) (g : FV E F) : FV D F := fun b k h1 h2 h3 h4 h5 h6 => (g b k h1 h2 h3 h4 h5 h6).trans (h b k h1 h2 h3 h4 h5 h6)
/-- the reference's world: t = 1 in thought -/
def RV (t : Int) (K : KK) (b : Int) (B : Nat → Int) (U : UU) (D0 D : KK) : Prop := RW K b (D 480) ∧ RCf K D ∧ D 479 5 = t ∧ (0 ≤ b ∧ b ≤ 150) ∧ (∀ k, k < 750 → D 496 k = B k) ∧ RU U D ∧ FV D0 D
section RVs
variable {t : Int} {K : KK} {b : Int} {B : Nat → Int} {U : UU} {D0 D : KK} (h : RV t K b B U D0 D)
theorem rv_L (h : RV t K b B U D0 D) : D 479 6 = K 0 0 := h.2.1.1
theorem rv_B (h : RV t K b B U D0 D) : D 479 7 = K 13 0 := h.2.1.2.1
theorem rv_t (h : RV t K b B U D0 D) : D 479 5 = t := h.2.2.1
theorem rv_h (h : RV t K b B U D0 D) : D 480 0 = K 0 1 := h.1.1
theorem rv_s (h : RV t K b B U D0 D) : D 480 1 = K 0 2 := h.1.2.1
theorem rv_d (h : RV t K b B U D0 D) : D 480 2 = K 0 3 := h.1.2.2.1
theorem rv_b (h : RV t K b B U D0 D) : D 480 3 = b := h.1.2.2.2.1
theorem rv_1 (h : RV t K b B U D0 D) {p : Int} (h0 : 0 ≤ p) (h1 : p < 10) : D 480 (4 + p).toNat = K 1 p.toNat - 100 := by
  have e : (4 + p).toNat = 4 + p.toNat := by omega
  rw [e]
  exact h.1.2.2.2.2.1 _ (by omega)
theorem rv_5 (h : RV t K b B U D0 D) {p : Int} (h0 : 0 ≤ p) (h1 : p < 9) : D 480 (14 + p).toNat = K 5 p.toNat := by
  have e : (14 + p).toNat = 14 + p.toNat := by omega
  rw [e]
  exact h.1.2.2.2.2.2.1 _ (by omega)
theorem rv_10 (h : RV t K b B U D0 D) {p : Int} (h0 : 0 ≤ p) (h1 : p < 9) : D 480 (23 + p).toNat = K 10 p.toNat := by
  have e : (23 + p).toNat = 23 + p.toNat := by omega
  rw [e]
  exact h.1.2.2.2.2.2.2.1 _ (by omega)
theorem rv_8 (h : RV t K b B U D0 D) {p : Int} (h0 : 0 ≤ p) (h1 : p < 9) : D 480 (32 + p).toNat = K 8 p.toNat := by
  have e : (32 + p).toNat = 32 + p.toNat := by omega
  rw [e]
  exact h.1.2.2.2.2.2.2.2.1 _ (by omega)
theorem rv_12 (h : RV t K b B U D0 D) {l c : Int} (h0 : 0 ≤ l) (h1 : l < 9) (h2 : 0 ≤ c) (h3 : c < 6) : D 480 ((41 + (6 * l)) + c).toNat = K 12 (l * 6 + c).toNat := by
  have e : ((41 + (6 * l)) + c).toNat = 41 + (l * 6 + c).toNat := by omega
  rw [e]
  exact h.1.2.2.2.2.2.2.2.2.1 _ (by omega)
theorem rv_14 (h : RV t K b B U D0 D) {p : Int} (h0 : 0 ≤ p) (h1 : p < K 13 0) : D 480 (95 + p).toNat = K 14 p.toNat := by
  have e : (95 + p).toNat = 95 + p.toNat := by omega
  rw [e]
  exact h.1.2.2.2.2.2.2.2.2.2.1 _ (by omega)
theorem rv_17 (h : RV t K b B U D0 D) {l c : Int} (h0 : 0 ≤ l) (h1 : l < 6) (h2 : 0 ≤ c) (h3 : c < 4) : D 480 ((101 + (4 * l)) + c).toNat = K 17 (l * 4 + c).toNat := by
  have e : ((101 + (4 * l)) + c).toNat = 101 + (l * 4 + c).toNat := by omega
  rw [e]
  exact h.1.2.2.2.2.2.2.2.2.2.2 _ (by omega)
theorem rv_483 (h : RV t K b B U D0 D) {p : Int} (h0 : 0 ≤ p) (h1 : p < 9) : D 483 p.toNat = K 2 p.toNat - 10 := h.2.1.2.2.1 _ (by omega)
theorem rv_484 (h : RV t K b B U D0 D) {p : Int} (h0 : 0 ≤ p) (h1 : p < 9) : D 484 p.toNat = K 3 p.toNat := h.2.1.2.2.2.1 _ (by omega)
theorem rv_485 (h : RV t K b B U D0 D) {p : Int} (h0 : 0 ≤ p) (h1 : p < 9) : D 485 p.toNat = K 4 p.toNat - 4 := h.2.1.2.2.2.2.1 _ (by omega)
theorem rv_486 (h : RV t K b B U D0 D) {p : Int} (h0 : 0 ≤ p) (h1 : p < 9) : D 486 p.toNat = K 9 p.toNat + 1 := h.2.1.2.2.2.2.2.1 _ (by omega)
theorem rv_487 (h : RV t K b B U D0 D) {p : Int} (h0 : 0 ≤ p) (h1 : p < 36) : D 487 p.toNat = K 11 p.toNat := h.2.1.2.2.2.2.2.2.1 _ (by omega)
theorem rv_488 (h : RV t K b B U D0 D) {p : Int} (h0 : 0 ≤ p) (h1 : p < 6) : D 488 p.toNat = K 15 p.toNat := h.2.1.2.2.2.2.2.2.2.1 _ (by omega)
theorem rv_489 (h : RV t K b B U D0 D) {p : Int} (h0 : 0 ≤ p) (h1 : p < 6) : D 489 p.toNat = K 16 p.toNat := h.2.1.2.2.2.2.2.2.2.2.1 _ (by omega)
theorem rv_490 (h : RV t K b B U D0 D) {p : Int} (h0 : 0 ≤ p) (h1 : p < 5) : D 490 p.toNat = K 6 p.toNat := h.2.1.2.2.2.2.2.2.2.2.2 _ (by omega)
theorem FV.up {E : KK} {a j : Nat} {w : Int} (h : FV D E) (ha : a = 480 ∨ a = 481 ∨ a = 496 ∨ a = 508 ∨ a = 509) : FV D (xui E a j w) := fun b k h1 h2 h3 h4 h5 h6 => (xui_a (by omega)).trans (h b k h1 h2 h3 h4 h5 h6)
theorem RU.up {E : KK} (h : RU U D) (g : ∀ k, E 481 k = D 481 k) (g2 : E 479 3 = D 479 3) : RU U E := ⟨h.1, g2.trans h.2.1, fun i u hu => by
  have e : (fun j => E 481 (125 * (U.length - 1 - i) + j)) = fun j => D 481 (125 * (U.length - 1 - i) + j) := funext (fun j => g _)
  rw [e]
  exact h.2.2 i u hu⟩
theorem RCf.up {K2 E : KK} (h : RCf K D) (g : ∀ a k, a ≠ 480 → a ≠ 481 → a ≠ 496 → a ≠ 508 → a ≠ 509 → (a = 479 → k ≠ 3) → E a k = D a k) (e : ∀ o k, ((o = 0 ∧ k = 0) ∨ o = 13 ∨ o = 2 ∨ o = 3 ∨ o = 4 ∨ o = 9 ∨ o = 11 ∨ o = 15 ∨ o = 16 ∨ o = 6) → K2 o k = K o k) : RCf K2 E := by
  unfold RCf at h ⊢
  obtain ⟨h0, h1, h2, h3, h4, h5, h6, h7, h8, h9⟩ := h
  refine ⟨(g 479 6 (by omega) (by omega) (by omega) (by omega) (by omega) (by omega)).trans (h0.trans (e 0 0 (by omega)).symm), (g 479 7 (by omega) (by omega) (by omega) (by omega) (by omega) (by omega)).trans (h1.trans (e 13 0 (by omega)).symm), fun i hi => ?_, fun i hi => ?_, fun i hi => ?_, fun i hi => ?_, fun i hi => ?_, fun i hi => ?_, fun i hi => ?_, fun i hi => ?_⟩
  · rw [g 483 i (by omega) (by omega) (by omega) (by omega) (by omega) (by omega), e 2 i (by omega)]; exact h2 i hi
  · rw [g 484 i (by omega) (by omega) (by omega) (by omega) (by omega) (by omega), e 3 i (by omega)]; exact h3 i hi
  · rw [g 485 i (by omega) (by omega) (by omega) (by omega) (by omega) (by omega), e 4 i (by omega)]; exact h4 i hi
  · rw [g 486 i (by omega) (by omega) (by omega) (by omega) (by omega) (by omega), e 9 i (by omega)]; exact h5 i hi
  · rw [g 487 i (by omega) (by omega) (by omega) (by omega) (by omega) (by omega), e 11 i (by omega)]; exact h6 i hi
  · rw [g 488 i (by omega) (by omega) (by omega) (by omega) (by omega) (by omega), e 15 i (by omega)]; exact h7 i hi
  · rw [g 489 i (by omega) (by omega) (by omega) (by omega) (by omega) (by omega), e 16 i (by omega)]; exact h8 i hi
  · rw [g 490 i (by omega) (by omega) (by omega) (by omega) (by omega) (by omega), e 6 i (by omega)]; exact h9 i hi
/-- a change of the row -/
theorem RV.row {K2 : KK} {b2 w : Int} {j : Nat} (h : RV t K b B U D0 D) (hr : RW K2 b2 (fset (D 480) j w)) (hb : 0 ≤ b2 ∧ b2 ≤ 150) (e : ∀ o k, ((o = 0 ∧ k = 0) ∨ o = 13 ∨ o = 2 ∨ o = 3 ∨ o = 4 ∨ o = 9 ∨ o = 11 ∨ o = 15 ∨ o = 16 ∨ o = 6) → K2 o k = K o k) : RV t K2 b2 B U D0 (xui D 480 j w) := ⟨by rw [xui_f]; exact hr, h.2.1.up (fun a k h1 _ _ _ _ _ => xui_a h1) e, (xui_a (by omega)).trans h.2.2.1, hb, fun k hk => (xui_a (by omega)).trans (h.2.2.2.2.1 k hk), h.2.2.2.2.2.1.up (fun k => xui_a (by omega)) (xui_a (by omega)), h.2.2.2.2.2.2.up (by omega)⟩
theorem RV.scr {w : Int} {a j : Nat} (h : RV t K b B U D0 D) (ha : a = 508 ∨ a = 509) : RV t K b B U D0 (xui D a j w) := ⟨by rw [show xui D a j w 480 = D 480 from funext (fun k => xui_a (by omega))]; exact h.1, h.2.1.up (fun x k h1 h2 h3 h4 h5 h6 => xui_a (by omega)) (fun _ _ _ => rfl), (xui_a (by omega)).trans h.2.2.1, h.2.2.2.1, fun k hk => (xui_a (by omega)).trans (h.2.2.2.2.1 k hk), h.2.2.2.2.2.1.up (fun k => xui_a (by omega)) (xui_a (by omega)), h.2.2.2.2.2.2.up (by omega)⟩
theorem RV.scrE {E : KK} (h : RV t K b B U D0 D) (g : ∀ x k, x ≠ 508 → x ≠ 509 → E x k = D x k) : RV t K b B U D0 E := ⟨by rw [show E 480 = D 480 from funext (fun k => g _ _ (by omega) (by omega))]; exact h.1, h.2.1.up (fun x k h1 h2 h3 h4 h5 h6 => g _ _ h4 h5) (fun _ _ _ => rfl), (g _ _ (by omega) (by omega)).trans h.2.2.1, h.2.2.2.1, fun k hk => (g _ _ (by omega) (by omega)).trans (h.2.2.2.2.1 k hk), h.2.2.2.2.2.1.up (fun k => g _ _ (by omega) (by omega)) (g _ _ (by omega) (by omega)), fun b k h1 h2 h3 h4 h5 h6 => (g b k h4 h5).trans (h.2.2.2.2.2.2 b k h1 h2 h3 h4 h5 h6)⟩
theorem rs_h {w : Int} (h : RV t K b B U D0 D) : RV t (xui K 0 1 w) b B U D0 (xui D 480 0 w) := h.row (RW_h h.1) h.2.2.2.1 (fun o k q => if_neg (fun r => by omega))
theorem rs_s {w : Int} (h : RV t K b B U D0 D) : RV t (xui K 0 2 w) b B U D0 (xui D 480 1 w) := h.row (RW_s h.1) h.2.2.2.1 (fun o k q => if_neg (fun r => by omega))
theorem rs_d {w : Int} (h : RV t K b B U D0 D) : RV t (xui K 0 3 w) b B U D0 (xui D 480 2 w) := h.row (RW_d h.1) h.2.2.2.1 (fun o k q => if_neg (fun r => by omega))
theorem rs_b {w : Int} (h : RV t K b B U D0 D) (hw : 0 ≤ w ∧ w ≤ 150) : RV t K w B U D0 (xui D 480 3 w) := h.row (RW_b h.1) hw (fun _ _ _ => rfl)
theorem rs_1 {v w p : Int} (h : RV t K b B U D0 D) (hI : KI K) (h0 : 0 ≤ p) (h1 : p < 10) (hv : w = v - 100) : RV t (xui K 1 p.toNat v) b B U D0 (xui D 480 (4 + p).toNat w) := by
  have e : (4 + p).toNat = 4 + p.toNat := by omega
  rw [e]
  exact h.row (RW_1 h.1 (ki_B hI).2 (by omega) hv) h.2.2.2.1 (fun o k q => xui_a (by omega))
theorem rs_5 {v w p : Int} (h : RV t K b B U D0 D) (hI : KI K) (h0 : 0 ≤ p) (h1 : p < 9) (hv : w = v) : RV t (xui K 5 p.toNat v) b B U D0 (xui D 480 (14 + p).toNat w) := by
  have e : (14 + p).toNat = 14 + p.toNat := by omega
  rw [e]
  exact h.row (RW_5 h.1 (ki_B hI).2 (by omega) hv) h.2.2.2.1 (fun o k q => xui_a (by omega))
theorem rs_10 {v w p : Int} (h : RV t K b B U D0 D) (hI : KI K) (h0 : 0 ≤ p) (h1 : p < 9) (hv : w = v) : RV t (xui K 10 p.toNat v) b B U D0 (xui D 480 (23 + p).toNat w) := by
  have e : (23 + p).toNat = 23 + p.toNat := by omega
  rw [e]
  exact h.row (RW_10 h.1 (ki_B hI).2 (by omega) hv) h.2.2.2.1 (fun o k q => xui_a (by omega))
theorem rs_8 {v w p : Int} (h : RV t K b B U D0 D) (hI : KI K) (h0 : 0 ≤ p) (h1 : p < 9) (hv : w = v) : RV t (xui K 8 p.toNat v) b B U D0 (xui D 480 (32 + p).toNat w) := by
  have e : (32 + p).toNat = 32 + p.toNat := by omega
  rw [e]
  exact h.row (RW_8 h.1 (ki_B hI).2 (by omega) hv) h.2.2.2.1 (fun o k q => xui_a (by omega))
theorem rs_12 {v w l c : Int} (h : RV t K b B U D0 D) (hI : KI K) (h0 : 0 ≤ l) (h1 : l < 9) (h2 : 0 ≤ c) (h3 : c < 6) (hv : w = v) : RV t (xui K 12 (l * 6 + c).toNat v) b B U D0 (xui D 480 ((41 + (6 * l)) + c).toNat w) := by
  have e : ((41 + (6 * l)) + c).toNat = 41 + (l * 6 + c).toNat := by omega
  rw [e]
  exact h.row (RW_12 h.1 (ki_B hI).2 (by omega) hv) h.2.2.2.1 (fun o k q => xui_a (by omega))
theorem rs_14 {v w p : Int} (h : RV t K b B U D0 D) (hI : KI K) (h0 : 0 ≤ p) (h1 : p < K 13 0) (hv : w = v) : RV t (xui K 14 p.toNat v) b B U D0 (xui D 480 (95 + p).toNat w) := by
  have e : (95 + p).toNat = 95 + p.toNat := by omega
  rw [e]
  exact h.row (RW_14 h.1 (ki_B hI).2 (by omega) hv) h.2.2.2.1 (fun o k q => xui_a (by omega))
theorem rs_17 {v w l c : Int} (h : RV t K b B U D0 D) (hI : KI K) (h0 : 0 ≤ l) (h1 : l < 6) (h2 : 0 ≤ c) (h3 : c < 4) (hv : w = v) : RV t (xui K 17 (l * 4 + c).toNat v) b B U D0 (xui D 480 ((101 + (4 * l)) + c).toNat w) := by
  have e : ((101 + (4 * l)) + c).toNat = 101 + (l * 4 + c).toNat := by omega
  rw [e]
  exact h.row (RW_17 h.1 (ki_B hI).2 (by omega) hv) h.2.2.2.1 (fun o k q => xui_a (by omega))
end RVs
theorem xr_isz {C : XCal} {i : Nat} {Q : XQ} {pc q : Nat} {loc : XLc} {st : List XV} {sh : List (Nat × Nat)} {rf : Nat → Nat → Option Nat} {dt : KK} (P : KK → Prop) {a N : Nat} {z v : Int} (h : xi i pc = some (.iastore, 1)) (hq : pc + 1 = q) (hs : sh[a]? = some (0, N)) (h0 : 0 ≤ z) (h1 : z < (N : Int)) (hu : P (xui dt a z.toNat v)) (k : ∀ d2, P d2 → XX C i Q q loc st (sh, rf, d2)) : XX C i Q pc loc (.inl v :: .inl z :: .inr (some a) :: st) (sh, rf, dt) := xx_isz h hq hs h0 h1 rfl (k _ hu)
theorem xr_puz {C : XCal} {i : Nat} {Q : XQ} {pc q : Nat} {loc : XLc} {st : List XV} {sh : List (Nat × Nat)} {rf : Nat → Nat → Option Nat} {dt : KK} (P : KK → Prop) {idx a ci kf pl N : Nat} {z : Int} (h : xi i pc = some (.putfield idx, 3)) (hq : pc + 3 = q) (hl : xlk (xfo (xow i)) idx = some (ci, kf, pl)) (hs : sh[a]? = some (ci + 2, N)) (hk : kf < N) (hc : ci < 13) (hf : xff ci kf = true → xow i = ci ∧ (xpl i).2.2.2.2 = 3) (ht : xft ci kf = 0 ∨ (xft ci kf = 1 ∧ (z = 0 ∨ z = 1))) (hu : P (xui dt a kf z)) (k : ∀ d2, P d2 → XX C i Q q loc st (sh, rf, d2)) : XX C i Q pc loc (.inl z :: .inr (some a) :: st) (sh, rf, dt) := xx_puz h hq hl hs hk hc hf ht rfl (k _ hu)
