/-! numbers: Java's ints by their integers -/
theorem i_lt {x y : Int32} {a b : Int} (hx : x.toInt = a) (hy : y.toInt = b) : x < y ↔ a < b := by rw [Int32.lt_iff_toInt_lt, hx, hy]
theorem i_le {x y : Int32} {a b : Int} (hx : x.toInt = a) (hy : y.toInt = b) : x ≤ y ↔ a ≤ b := by rw [Int32.le_iff_toInt_le, hx, hy]
theorem i_eq {x y : Int32} {a b : Int} (hx : x.toInt = a) (hy : y.toInt = b) : x = y ↔ a = b := by rw [← Int32.toInt_inj, hx, hy]
theorem l_lt {x y : Int64} {a b : Int} (hx : x.toInt = a) (hy : y.toInt = b) : x < y ↔ a < b := by rw [Int64.lt_iff_toInt_lt, hx, hy]
theorem l_le {x y : Int64} {a b : Int} (hx : x.toInt = a) (hy : y.toInt = b) : x ≤ y ↔ a ≤ b := by rw [Int64.le_iff_toInt_le, hx, hy]
theorem l_eq {x y : Int64} {a b : Int} (hx : x.toInt = a) (hy : y.toInt = b) : x = y ↔ a = b := by rw [← Int64.toInt_inj, hx, hy]
theorem i_rng (x : Int32) : -2147483648 ≤ x.toInt ∧ x.toInt ≤ 2147483647 := ⟨Int32.le_toInt x, by have := Int32.toInt_lt x; omega⟩
theorem bm32 {n : Int} (h1 : -2147483648 ≤ n) (h2 : n ≤ 2147483647) : n.bmod (2 ^ 32) = n := by
  rw [Int.bmod_def]; omega
theorem i_add {x y : Int32} {a b : Int} (hx : x.toInt = a) (hy : y.toInt = b) (h1 : -2147483648 ≤ a + b) (h2 : a + b ≤ 2147483647) : (x + y).toInt = a + b := by
  rw [Int32.toInt_add, hx, hy, bm32 h1 h2]
theorem i_sub {x y : Int32} {a b : Int} (hx : x.toInt = a) (hy : y.toInt = b) (h1 : -2147483648 ≤ a - b) (h2 : a - b ≤ 2147483647) : (x - y).toInt = a - b := by
  rw [Int32.toInt_sub, hx, hy, bm32 h1 h2]
theorem i_mul {x y : Int32} {a b : Int} (hx : x.toInt = a) (hy : y.toInt = b) (h1 : -2147483648 ≤ a * b) (h2 : a * b ≤ 2147483647) : (x * y).toInt = a * b := by
  rw [Int32.toInt_mul, hx, hy, bm32 h1 h2]
theorem i_div {x y : Int32} {a b : Int} (hx : x.toInt = a) (hy : y.toInt = b) (h0 : 0 ≤ a) (hb : 0 < b) : (x / y).toInt = a / b := by
  rw [Int32.toInt_div_of_ne_right _ _ (fun h => by subst h; simp at hy; omega), hx, hy, Int.tdiv_eq_ediv_of_nonneg h0]
theorem i_rem {x y : Int32} {a b : Int} (hx : x.toInt = a) (hy : y.toInt = b) (h0 : 0 ≤ a) (hb : 0 < b) : (x - x / y * y).toInt = a % b := by
  have hd := i_div hx hy h0 hb
  have hr := i_rng x
  have h1 : a / b * b ≤ a := Int.ediv_mul_le a (by omega)
  have h2 : 0 ≤ a / b * b := Int.mul_nonneg (Int.ediv_nonneg h0 (by omega)) (by omega)
  rw [hx] at hr
  have hm := i_mul hd hy (by omega) (by omega)
  rw [i_sub hx hm (by omega) (by omega), Int.emod_def, Int.mul_comm]
theorem i_wide {x : Int32} {a : Int} (hx : x.toInt = a) : x.toInt64.toInt = a := by rw [Int32.toInt_toInt64, hx]
theorem i_in {x : Int32} {a : Int} {n : Nat} (hx : x.toInt = a) (h1 : 0 ≤ a) (h2 : a < n) : vp_in x n := vp_in_iff.mpr ⟨by omega, by omega⟩
theorem i_cl {x : Int32} {n : Nat} (h : vp_in x n) : x.toNatClampNeg < n := Nat.not_le.mp (fun q => h (Or.inr q))
/-- an answer that is 1 or 0 -/
def B01 (P : Prop) [Decidable P] : Int32 := if P then 1 else 0
theorem b0 {P : Prop} [Decidable P] (h : B01 P = 0) : ¬ P := fun q => by unfold B01 at h; rw [if_pos q] at h; exact absurd h (by decide)
theorem b1 {P : Prop} [Decidable P] (h : ¬ B01 P = 0) : P := by
  by_cases q : P
  · exact q
  · exact absurd (by unfold B01; rw [if_neg q]) h
theorem b_t {P : Prop} [Decidable P] (h : P) : (1 : Int32) = B01 P := by unfold B01; rw [if_pos h]
theorem b_f {P : Prop} [Decidable P] (h : ¬ P) : (0 : Int32) = B01 P := by unfold B01; rw [if_neg h]
theorem b_nar {P : Prop} [Decidable P] : narrow .boolean (.int (B01 P)) = .int (B01 P) := by
  by_cases h : P
  · rw [← b_t h]; decide
  · rw [← b_f h]; decide
theorem sh0 (x : Int32) : (0 : Int32) >>> x = 0 := by
  apply Int32.toBitVec_inj.mp
  simp [Int32.toBitVec_shiftRight]
theorem and0 (x : Int32) : x &&& 0 = 0 := by
  apply Int32.toBitVec_inj.mp
  simp
theorem and0' (x : Int32) : 0 &&& x = 0 := by
  apply Int32.toBitVec_inj.mp
  simp
