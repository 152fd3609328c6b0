/-! A NODE IN PIECES -/
def fr210 : List (Nat × Nat × SS) := sxg tGam tSets tRoles tFty tMT tAt tAn nd210 3 5000 nd210.dep (n_st nd210)
def fk210 (j : Nat) : Bool := match fr210[j]? with | some q => sx tGam tSets tRoles tFty tMT tAt tAn nd210 q.1 q.2.1 q.2.2 | none => true
set_option maxRecDepth 100000 in
theorem fr210_len : fr210.length ≤ 24 := by decide +kernel
set_option maxRecDepth 100000 in
theorem fk210_0 : fk210 0 = true := by decide +kernel
set_option maxRecDepth 100000 in
theorem fk210_1 : fk210 1 = true := by decide +kernel
set_option maxRecDepth 100000 in
theorem fk210_2 : fk210 2 = true := by decide +kernel
set_option maxRecDepth 100000 in
theorem fk210_3 : fk210 3 = true := by decide +kernel
set_option maxRecDepth 100000 in
theorem fk210_4 : fk210 4 = true := by decide +kernel
set_option maxRecDepth 100000 in
theorem fk210_5 : fk210 5 = true := by decide +kernel
set_option maxRecDepth 100000 in
theorem fk210_6 : fk210 6 = true := by decide +kernel
set_option maxRecDepth 100000 in
theorem fk210_7 : fk210 7 = true := by decide +kernel
set_option maxRecDepth 100000 in
theorem fk210_8 : fk210 8 = true := by decide +kernel
set_option maxRecDepth 100000 in
theorem fk210_9 : fk210 9 = true := by decide +kernel
set_option maxRecDepth 100000 in
theorem fk210_10 : fk210 10 = true := by decide +kernel
set_option maxRecDepth 100000 in
theorem fk210_11 : fk210 11 = true := by decide +kernel
set_option maxRecDepth 100000 in
theorem fk210_12 : fk210 12 = true := by decide +kernel
set_option maxRecDepth 100000 in
theorem fk210_13 : fk210 13 = true := by decide +kernel
set_option maxRecDepth 100000 in
theorem fk210_14 : fk210 14 = true := by decide +kernel
set_option maxRecDepth 100000 in
theorem fk210_15 : fk210 15 = true := by decide +kernel
set_option maxRecDepth 100000 in
theorem fk210_16 : fk210 16 = true := by decide +kernel
set_option maxRecDepth 100000 in
theorem fk210_17 : fk210 17 = true := by decide +kernel
set_option maxRecDepth 100000 in
theorem fk210_18 : fk210 18 = true := by decide +kernel
set_option maxRecDepth 100000 in
theorem fk210_19 : fk210 19 = true := by decide +kernel
set_option maxRecDepth 100000 in
theorem fk210_20 : fk210 20 = true := by decide +kernel
set_option maxRecDepth 100000 in
theorem fk210_21 : fk210 21 = true := by decide +kernel
set_option maxRecDepth 100000 in
theorem fk210_22 : fk210 22 = true := by decide +kernel
set_option maxRecDepth 100000 in
theorem fk210_23 : fk210 23 = true := by decide +kernel
theorem fk210_all : ∀ j, j < 24 → fk210 j = true
  | 0, _ => fk210_0
  | 1, _ => fk210_1
  | 2, _ => fk210_2
  | 3, _ => fk210_3
  | 4, _ => fk210_4
  | 5, _ => fk210_5
  | 6, _ => fk210_6
  | 7, _ => fk210_7
  | 8, _ => fk210_8
  | 9, _ => fk210_9
  | 10, _ => fk210_10
  | 11, _ => fk210_11
  | 12, _ => fk210_12
  | 13, _ => fk210_13
  | 14, _ => fk210_14
  | 15, _ => fk210_15
  | 16, _ => fk210_16
  | 17, _ => fk210_17
  | 18, _ => fk210_18
  | 19, _ => fk210_19
  | 20, _ => fk210_20
  | 21, _ => fk210_21
  | 22, _ => fk210_22
  | 23, _ => fk210_23
  | n + 24, h => absurd h (by omega)
theorem ck210 : n_chk tGam tSets tRoles tFty tMT tAt tAn 5000 nd210 = true := by
  unfold n_chk
  rw [Bool.and_eq_true]
  refine ⟨by decide +kernel, sxg_ok 3 5000 nd210.dep (n_st nd210) (fun q hq => ?_)⟩
  obtain ⟨j, hj⟩ := List.getElem?_of_mem hq
  have hl : j < fr210.length := (List.getElem?_eq_some_iff.mp hj).1
  have := fk210_all j (by have := fr210_len; omega)
  unfold fk210 at this
  rw [show fr210[j]? = some q from hj] at this
  exact this
