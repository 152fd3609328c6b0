/-! A NODE IN PIECES -/
def fr219 : List (Nat × Nat × SS) := sxg tGam tSets tRoles tFty tMT tAt tAn nd219 3 5000 nd219.dep (n_st nd219)
def fk219 (j : Nat) : Bool := match fr219[j]? with | some q => sx tGam tSets tRoles tFty tMT tAt tAn nd219 q.1 q.2.1 q.2.2 | none => true
set_option maxRecDepth 100000 in
theorem fr219_len : fr219.length ≤ 24 := by decide +kernel
set_option maxRecDepth 100000 in
theorem fk219_0 : fk219 0 = true := by decide +kernel
set_option maxRecDepth 100000 in
theorem fk219_1 : fk219 1 = true := by decide +kernel
set_option maxRecDepth 100000 in
theorem fk219_2 : fk219 2 = true := by decide +kernel
set_option maxRecDepth 100000 in
theorem fk219_3 : fk219 3 = true := by decide +kernel
set_option maxRecDepth 100000 in
theorem fk219_4 : fk219 4 = true := by decide +kernel
set_option maxRecDepth 100000 in
theorem fk219_5 : fk219 5 = true := by decide +kernel
set_option maxRecDepth 100000 in
theorem fk219_6 : fk219 6 = true := by decide +kernel
set_option maxRecDepth 100000 in
theorem fk219_7 : fk219 7 = true := by decide +kernel
set_option maxRecDepth 100000 in
theorem fk219_8 : fk219 8 = true := by decide +kernel
set_option maxRecDepth 100000 in
theorem fk219_9 : fk219 9 = true := by decide +kernel
set_option maxRecDepth 100000 in
theorem fk219_10 : fk219 10 = true := by decide +kernel
set_option maxRecDepth 100000 in
theorem fk219_11 : fk219 11 = true := by decide +kernel
set_option maxRecDepth 100000 in
theorem fk219_12 : fk219 12 = true := by decide +kernel
set_option maxRecDepth 100000 in
theorem fk219_13 : fk219 13 = true := by decide +kernel
set_option maxRecDepth 100000 in
theorem fk219_14 : fk219 14 = true := by decide +kernel
set_option maxRecDepth 100000 in
theorem fk219_15 : fk219 15 = true := by decide +kernel
set_option maxRecDepth 100000 in
theorem fk219_16 : fk219 16 = true := by decide +kernel
set_option maxRecDepth 100000 in
theorem fk219_17 : fk219 17 = true := by decide +kernel
set_option maxRecDepth 100000 in
theorem fk219_18 : fk219 18 = true := by decide +kernel
set_option maxRecDepth 100000 in
theorem fk219_19 : fk219 19 = true := by decide +kernel
set_option maxRecDepth 100000 in
theorem fk219_20 : fk219 20 = true := by decide +kernel
set_option maxRecDepth 100000 in
theorem fk219_21 : fk219 21 = true := by decide +kernel
set_option maxRecDepth 100000 in
theorem fk219_22 : fk219 22 = true := by decide +kernel
set_option maxRecDepth 100000 in
theorem fk219_23 : fk219 23 = true := by decide +kernel
theorem fk219_all : ∀ j, j < 24 → fk219 j = true
  | 0, _ => fk219_0
  | 1, _ => fk219_1
  | 2, _ => fk219_2
  | 3, _ => fk219_3
  | 4, _ => fk219_4
  | 5, _ => fk219_5
  | 6, _ => fk219_6
  | 7, _ => fk219_7
  | 8, _ => fk219_8
  | 9, _ => fk219_9
  | 10, _ => fk219_10
  | 11, _ => fk219_11
  | 12, _ => fk219_12
  | 13, _ => fk219_13
  | 14, _ => fk219_14
  | 15, _ => fk219_15
  | 16, _ => fk219_16
  | 17, _ => fk219_17
  | 18, _ => fk219_18
  | 19, _ => fk219_19
  | 20, _ => fk219_20
  | 21, _ => fk219_21
  | 22, _ => fk219_22
  | 23, _ => fk219_23
  | n + 24, h => absurd h (by omega)
theorem ck219 : n_chk tGam tSets tRoles tFty tMT tAt tAn 5000 nd219 = true := by
  unfold n_chk
  rw [Bool.and_eq_true]
  refine ⟨by decide +kernel, sxg_ok 3 5000 nd219.dep (n_st nd219) (fun q hq => ?_)⟩
  obtain ⟨j, hj⟩ := List.getElem?_of_mem hq
  have hl : j < fr219.length := (List.getElem?_eq_some_iff.mp hj).1
  have := fk219_all j (by have := fr219_len; omega)
  unfold fk219 at this
  rw [show fr219[j]? = some q from hj] at this
  exact this
