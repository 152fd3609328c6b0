/-! INTS: what they come to as numbers -/
section PcInt
variable {x y : Int32}
theorem i_rng (x : Int32) : -2147483648 ≤ x.toInt ∧ x.toInt ≤ 2147483647 := ⟨Int32.le_toInt x, Int32.toInt_le x⟩
theorem i_bm {z : Int} (h : -2147483648 ≤ z ∧ z ≤ 2147483647) : z.bmod 4294967296 = z := by
  rw [Int.bmod_def]; omega
theorem i_add (h : -2147483648 ≤ x.toInt + y.toInt ∧ x.toInt + y.toInt ≤ 2147483647) : (x + y).toInt = x.toInt + y.toInt := by
  rw [Int32.toInt_add]; exact i_bm h
theorem i_sub (h : -2147483648 ≤ x.toInt - y.toInt ∧ x.toInt - y.toInt ≤ 2147483647) : (x - y).toInt = x.toInt - y.toInt := by
  rw [Int32.toInt_sub]; exact i_bm h
theorem i_mul (h : -2147483648 ≤ x.toInt * y.toInt ∧ x.toInt * y.toInt ≤ 2147483647) : (x * y).toInt = x.toInt * y.toInt := by
  rw [Int32.toInt_mul]; exact i_bm h
theorem i_lt : x < y ↔ x.toInt < y.toInt := Int32.lt_iff_toInt_lt
theorem i_le : x ≤ y ↔ x.toInt ≤ y.toInt := Int32.le_iff_toInt_le
theorem i_eq : x = y ↔ x.toInt = y.toInt := Int32.toInt_inj.symm
theorem i_ix : x.toNatClampNeg = x.toInt.toNat := rfl
theorem i_ixn {p : Nat} (h : x.toInt = p) : x.toNatClampNeg = p := by rw [i_ix, h]; rfl
theorem i_of {p : Nat} (h : p ≤ 2147483647) : (Int32.ofNat p).toInt = p := Int32.toInt_ofNat_of_lt (by omega)
end PcInt
