/-! A NODE IN PIECES -/
noncomputable def fr227 : List (Nat × Nat × SS) := sxg tGam tSets tRoles tFty tMT tAt tAn nd227 3 5000 nd227.dep (n_st nd227)
noncomputable def fk227 (j : Nat) : Bool := match fr227[j]? with | some q => sx tGam tSets tRoles tFty tMT tAt tAn nd227 q.1 q.2.1 q.2.2 | none => true
set_option maxRecDepth 100000 in
theorem fr227_len : fr227.length ≤ 24 := by decide +kernel
set_option maxRecDepth 100000 in
theorem fk227_0 : fk227 0 = true := by decide +kernel
set_option maxRecDepth 100000 in
theorem fk227_1 : fk227 1 = true := by decide +kernel
set_option maxRecDepth 100000 in
theorem fk227_2 : fk227 2 = true := by decide +kernel
set_option maxRecDepth 100000 in
theorem fk227_3 : fk227 3 = true := by decide +kernel
set_option maxRecDepth 100000 in
theorem fk227_4 : fk227 4 = true := by decide +kernel
set_option maxRecDepth 100000 in
theorem fk227_5 : fk227 5 = true := by decide +kernel
set_option maxRecDepth 100000 in
theorem fk227_6 : fk227 6 = true := by decide +kernel
set_option maxRecDepth 100000 in
theorem fk227_7 : fk227 7 = true := by decide +kernel
set_option maxRecDepth 100000 in
theorem fk227_8 : fk227 8 = true := by decide +kernel
set_option maxRecDepth 100000 in
theorem fk227_9 : fk227 9 = true := by decide +kernel
set_option maxRecDepth 100000 in
theorem fk227_10 : fk227 10 = true := by decide +kernel
set_option maxRecDepth 100000 in
theorem fk227_11 : fk227 11 = true := by decide +kernel
set_option maxRecDepth 100000 in
theorem fk227_12 : fk227 12 = true := by decide +kernel
set_option maxRecDepth 100000 in
theorem fk227_13 : fk227 13 = true := by decide +kernel
set_option maxRecDepth 100000 in
theorem fk227_14 : fk227 14 = true := by decide +kernel
set_option maxRecDepth 100000 in
theorem fk227_15 : fk227 15 = true := by decide +kernel
set_option maxRecDepth 100000 in
theorem fk227_16 : fk227 16 = true := by decide +kernel
set_option maxRecDepth 100000 in
theorem fk227_17 : fk227 17 = true := by decide +kernel
set_option maxRecDepth 100000 in
theorem fk227_18 : fk227 18 = true := by decide +kernel
set_option maxRecDepth 100000 in
theorem fk227_19 : fk227 19 = true := by decide +kernel
set_option maxRecDepth 100000 in
theorem fk227_20 : fk227 20 = true := by decide +kernel
set_option maxRecDepth 100000 in
theorem fk227_21 : fk227 21 = true := by decide +kernel
set_option maxRecDepth 100000 in
theorem fk227_22 : fk227 22 = true := by decide +kernel
set_option maxRecDepth 100000 in
theorem fk227_23 : fk227 23 = true := by decide +kernel
theorem fk227_all : ∀ j, j < 24 → fk227 j = true
  | 0, _ => fk227_0
  | 1, _ => fk227_1
  | 2, _ => fk227_2
  | 3, _ => fk227_3
  | 4, _ => fk227_4
  | 5, _ => fk227_5
  | 6, _ => fk227_6
  | 7, _ => fk227_7
  | 8, _ => fk227_8
  | 9, _ => fk227_9
  | 10, _ => fk227_10
  | 11, _ => fk227_11
  | 12, _ => fk227_12
  | 13, _ => fk227_13
  | 14, _ => fk227_14
  | 15, _ => fk227_15
  | 16, _ => fk227_16
  | 17, _ => fk227_17
  | 18, _ => fk227_18
  | 19, _ => fk227_19
  | 20, _ => fk227_20
  | 21, _ => fk227_21
  | 22, _ => fk227_22
  | 23, _ => fk227_23
  | n + 24, h => absurd h (by omega)
theorem ck227 : n_chk tGam tSets tRoles tFty tMT tAt tAn 5000 nd227 = true := by
  unfold n_chk
  rw [Bool.and_eq_true]
  refine ⟨by decide +kernel, sxg_ok 3 5000 nd227.dep (n_st nd227) (fun q hq => ?_)⟩
  obtain ⟨j, hj⟩ := List.getElem?_of_mem hq
  have hl : j < fr227.length := (List.getElem?_eq_some_iff.mp hj).1
  have := fk227_all j (by have := fr227_len; omega)
  unfold fk227 at this
  rw [show fr227[j]? = some q from hj] at this
  exact this
