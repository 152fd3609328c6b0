/-! SYMBOLIC RUNS, IV: arithmetic of bounds -/
section SxD
variable {Γ : Nat → Option Nat} {sets : List (List Int)} {vs : List Value} {ro : Nat → Option MC}
theorem z_rng (x : Int32) : -2147483648 ≤ x.toInt ∧ x.toInt ≤ 2147483647 := by
  have h1 := x.toInt_lt
  have h2 := x.le_toInt
  omega
theorem z_rngL (x : Int64) : -9223372036854775808 ≤ x.toInt ∧ x.toInt ≤ 9223372036854775807 := by
  have h1 := x.toInt_lt
  have h2 := x.le_toInt
  omega
theorem z_bm {z : Int} (h1 : -2147483648 ≤ z) (h2 : z ≤ 2147483647) : z.bmod (2 ^ 32) = z := by
  unfold Int.bmod
  simp only
  split <;> omega
theorem z_add {x y : Int32} (h1 : -2147483648 ≤ x.toInt + y.toInt) (h2 : x.toInt + y.toInt ≤ 2147483647) : (x + y).toInt = x.toInt + y.toInt := by
  rw [Int32.toInt_add]; exact z_bm h1 h2
theorem z_sub {x y : Int32} (h1 : -2147483648 ≤ x.toInt - y.toInt) (h2 : x.toInt - y.toInt ≤ 2147483647) : (x - y).toInt = x.toInt - y.toInt := by
  rw [Int32.toInt_sub]; exact z_bm h1 h2
theorem z_mul {x y : Int32} (h1 : -2147483648 ≤ x.toInt * y.toInt) (h2 : x.toInt * y.toInt ≤ 2147483647) : (x * y).toInt = x.toInt * y.toInt := by
  rw [Int32.toInt_mul]; exact z_bm h1 h2
theorem z_of (x : Int32) {c : Int} (h : x.toInt = c) : x = Int32.ofInt c := by rw [← h]; exact (Int32.ofInt_toInt x).symm
theorem z_ofL (x : Int64) {c : Int} (h : x.toInt = c) : x = Int64.ofInt c := by rw [← h]; exact (Int64.ofInt_toInt x).symm
theorem z_nI {x : Int32} (h : 0 ≤ x.toInt) : ∃ j : Nat, j < 2 ^ 31 ∧ x = nI j ∧ (j : Int) = x.toInt := by
  have h0 : ¬ x < 0 := by rw [Int32.lt_iff_toInt_lt, Int32.toInt_zero]; omega
  obtain ⟨j, hj, e⟩ := nI_of h0
  exact ⟨j, hj, e, by rw [e, nI_toInt hj]⟩
theorem z_div {x y : Int32} (hx : 0 ≤ x.toInt) (hy : 1 ≤ y.toInt) : (x / y).toInt = x.toInt / y.toInt := by
  obtain ⟨j, h1, h2, h3⟩ := z_nI hx
  obtain ⟨k, g1, g2, g3⟩ := z_nI (x := y) (by omega)
  have hk : 0 < k := by omega
  rw [h2, g2, pk_div h1 hk g1, nI_toInt (Nat.lt_of_le_of_lt (Nat.div_le_self _ _) h1), nI_toInt h1, nI_toInt g1]
  exact Int.natCast_ediv j k
theorem z_rem {x y : Int32} (hx : 0 ≤ x.toInt) (hy : 1 ≤ y.toInt) : (x - x / y * y).toInt = x.toInt % y.toInt := by
  obtain ⟨j, h1, h2, h3⟩ := z_nI hx
  obtain ⟨k, g1, g2, g3⟩ := z_nI (x := y) (by omega)
  have hk : 0 < k := by omega
  rw [h2, g2, pk_rem h1 hk g1, nI_toInt (Nat.lt_of_le_of_lt (Nat.mod_le _ _) h1), nI_toInt h1, nI_toInt g1]
  exact Int.natCast_emod j k
theorem z_and {x y : Int32} (hy : 0 ≤ y.toInt) : 0 ≤ (x &&& y).toInt ∧ (x &&& y).toInt ≤ y.toInt := by
  have hr := z_rng y
  have e1 : (y.toBitVec.toNat : Int) = y.toInt := by
    have := BitVec.toInt_eq_toNat_cond y.toBitVec
    have h2 : y.toInt = y.toBitVec.toInt := rfl
    rw [h2] at hy ⊢
    have h3 := y.toBitVec.isLt
    split at this <;> omega
  have e2 : (x &&& y).toBitVec.toNat ≤ y.toBitVec.toNat := by
    show (x.toBitVec &&& y.toBitVec).toNat ≤ _
    rw [BitVec.toNat_and]
    exact Nat.and_le_right
  have e3 : (x &&& y).toInt = ((x &&& y).toBitVec.toNat : Int) := by
    show (x &&& y).toBitVec.toInt = _
    rw [BitVec.toInt_eq_toNat_cond]
    have h3 := y.toBitVec.isLt
    split
    · rfl
    · omega
  omega
theorem z_andc {x y : Int32} (hx : 0 ≤ x.toInt) : 0 ≤ (x &&& y).toInt ∧ (x &&& y).toInt ≤ x.toInt := by
  rw [Int32.and_comm]; exact z_and hx
/-- bounds, if they are an int's; else an int's -/
def r_i (l h : Int) : Int × Int := if -2147483648 ≤ l ∧ h ≤ 2147483647 then (l, h) else (-2147483648, 2147483647)
theorem r_i_ok {l h : Int} {x : Int32} (hx : (-2147483648 ≤ l ∧ h ≤ 2147483647) → l ≤ x.toInt ∧ x.toInt ≤ h) : (r_i l h).1 ≤ x.toInt ∧ x.toInt ≤ (r_i l h).2 := by
  unfold r_i
  split
  · rename_i q; exact hx q
  · exact z_rng x
def isC (a : AV) : Bool := a.2.1 == 0 && a.2.2.1 == a.2.2.2.1
theorem isC_spec {a : AV} {v : Value} (h : isC a = true) (ho : okE Γ sets a.2.1 a.2.2.1 a.2.2.2.1 v) : v = .int (Int32.ofInt a.2.2.1) := by
  simp only [isC, Bool.and_eq_true, beq_iff_eq] at h
  unfold okE at ho
  rw [if_pos h.1] at ho
  obtain ⟨⟨x, rfl⟩, h1, h2⟩ := ho
  have h3 : x.toInt = a.2.2.1 := by simp only [vz] at h1 h2; omega
  rw [← z_of x h3]
def sh (c : Int) (r : List (Nat × Int × Int)) : List (Nat × Int × Int) := r.map fun q => (q.1, q.2.1 + c, q.2.2 + c)
/-- bounds of what two ints come to, and how it differs from them -/
def b_iv (i : Instr) (x y : AV) : (Int × Int) × List (Nat × Int × Int) := match i with
  | .iadd => if -2147483648 ≤ x.2.2.1 + y.2.2.1 ∧ x.2.2.2.1 + y.2.2.2.1 ≤ 2147483647 then ((x.2.2.1 + y.2.2.1, x.2.2.2.1 + y.2.2.2.1), if y.2.2.1 = y.2.2.2.1 then (x.1, y.2.2.1, y.2.2.1) :: (sh y.2.2.1 x.2.2.2.2).take 4 else if x.2.2.1 = x.2.2.2.1 then (y.1, x.2.2.1, x.2.2.1) :: (sh x.2.2.1 y.2.2.2.2).take 4 else [(x.1, y.2.2.1, y.2.2.2.1)]) else ((-2147483648, 2147483647), [])
  | .isub => if -2147483648 ≤ x.2.2.1 - y.2.2.2.1 ∧ x.2.2.2.1 - y.2.2.1 ≤ 2147483647 then (a_diff x y, if y.2.2.1 = y.2.2.2.1 then (x.1, -y.2.2.1, -y.2.2.1) :: (sh (-y.2.2.1) x.2.2.2.2).take 4 else [(x.1, -y.2.2.2.1, -y.2.2.1)]) else ((-2147483648, 2147483647), [])
  | .imul => if 0 ≤ x.2.2.1 ∧ 0 ≤ y.2.2.1 then (r_i (x.2.2.1 * y.2.2.1) (x.2.2.2.1 * y.2.2.2.1), []) else ((-2147483648, 2147483647), [])
  | .iand => if 0 ≤ y.2.2.1 then ((0, y.2.2.2.1), []) else if 0 ≤ x.2.2.1 then ((0, x.2.2.2.1), []) else ((-2147483648, 2147483647), [])
  | .idiv => if 0 ≤ x.2.2.1 ∧ 1 ≤ y.2.2.1 then (if y.2.2.1 = y.2.2.2.1 then ((x.2.2.1 / y.2.2.1, x.2.2.2.1 / y.2.2.1), []) else ((0, x.2.2.2.1), [])) else ((-2147483648, 2147483647), [])
  | .irem => if 0 ≤ x.2.2.1 ∧ 1 ≤ y.2.2.1 then (if x.2.2.2.1 < y.2.2.1 then ((x.2.2.1, x.2.2.2.1), [(x.1, 0, 0)]) else if x.2.2.1 = x.2.2.2.1 ∧ y.2.2.1 = y.2.2.2.1 then ((x.2.2.1 % y.2.2.1, x.2.2.1 % y.2.2.1), []) else ((0, min x.2.2.2.1 (y.2.2.2.1 - 1)), [])) else ((-2147483648, 2147483647), [])
  | _ => ((-2147483648, 2147483647), [])
end SxD
