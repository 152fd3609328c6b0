/-! A NODE IN PIECES -/
def fr223 : List (Nat × Nat × SS) := sxg tGam tSets tRoles tFty tMT tAt tAn nd223 3 5000 nd223.dep (n_st nd223)
def fk223 (j : Nat) : Bool := match fr223[j]? with | some q => sx tGam tSets tRoles tFty tMT tAt tAn nd223 q.1 q.2.1 q.2.2 | none => true
set_option maxRecDepth 100000 in
theorem fr223_len : fr223.length ≤ 24 := by decide +kernel
set_option maxRecDepth 100000 in
theorem fk223_0 : fk223 0 = true := by decide +kernel
set_option maxRecDepth 100000 in
theorem fk223_1 : fk223 1 = true := by decide +kernel
set_option maxRecDepth 100000 in
theorem fk223_2 : fk223 2 = true := by decide +kernel
set_option maxRecDepth 100000 in
theorem fk223_3 : fk223 3 = true := by decide +kernel
set_option maxRecDepth 100000 in
theorem fk223_4 : fk223 4 = true := by decide +kernel
set_option maxRecDepth 100000 in
theorem fk223_5 : fk223 5 = true := by decide +kernel
set_option maxRecDepth 100000 in
theorem fk223_6 : fk223 6 = true := by decide +kernel
set_option maxRecDepth 100000 in
theorem fk223_7 : fk223 7 = true := by decide +kernel
set_option maxRecDepth 100000 in
theorem fk223_8 : fk223 8 = true := by decide +kernel
set_option maxRecDepth 100000 in
theorem fk223_9 : fk223 9 = true := by decide +kernel
set_option maxRecDepth 100000 in
theorem fk223_10 : fk223 10 = true := by decide +kernel
set_option maxRecDepth 100000 in
theorem fk223_11 : fk223 11 = true := by decide +kernel
set_option maxRecDepth 100000 in
theorem fk223_12 : fk223 12 = true := by decide +kernel
set_option maxRecDepth 100000 in
theorem fk223_13 : fk223 13 = true := by decide +kernel
set_option maxRecDepth 100000 in
theorem fk223_14 : fk223 14 = true := by decide +kernel
set_option maxRecDepth 100000 in
theorem fk223_15 : fk223 15 = true := by decide +kernel
set_option maxRecDepth 100000 in
theorem fk223_16 : fk223 16 = true := by decide +kernel
set_option maxRecDepth 100000 in
theorem fk223_17 : fk223 17 = true := by decide +kernel
set_option maxRecDepth 100000 in
theorem fk223_18 : fk223 18 = true := by decide +kernel
set_option maxRecDepth 100000 in
theorem fk223_19 : fk223 19 = true := by decide +kernel
set_option maxRecDepth 100000 in
theorem fk223_20 : fk223 20 = true := by decide +kernel
set_option maxRecDepth 100000 in
theorem fk223_21 : fk223 21 = true := by decide +kernel
set_option maxRecDepth 100000 in
theorem fk223_22 : fk223 22 = true := by decide +kernel
set_option maxRecDepth 100000 in
theorem fk223_23 : fk223 23 = true := by decide +kernel
theorem fk223_all : ∀ j, j < 24 → fk223 j = true
  | 0, _ => fk223_0
  | 1, _ => fk223_1
  | 2, _ => fk223_2
  | 3, _ => fk223_3
  | 4, _ => fk223_4
  | 5, _ => fk223_5
  | 6, _ => fk223_6
  | 7, _ => fk223_7
  | 8, _ => fk223_8
  | 9, _ => fk223_9
  | 10, _ => fk223_10
  | 11, _ => fk223_11
  | 12, _ => fk223_12
  | 13, _ => fk223_13
  | 14, _ => fk223_14
  | 15, _ => fk223_15
  | 16, _ => fk223_16
  | 17, _ => fk223_17
  | 18, _ => fk223_18
  | 19, _ => fk223_19
  | 20, _ => fk223_20
  | 21, _ => fk223_21
  | 22, _ => fk223_22
  | 23, _ => fk223_23
  | n + 24, h => absurd h (by omega)
theorem ck223 : n_chk tGam tSets tRoles tFty tMT tAt tAn 5000 nd223 = true := by
  unfold n_chk
  rw [Bool.and_eq_true]
  refine ⟨by decide +kernel, sxg_ok 3 5000 nd223.dep (n_st nd223) (fun q hq => ?_)⟩
  obtain ⟨j, hj⟩ := List.getElem?_of_mem hq
  have hl : j < fr223.length := (List.getElem?_eq_some_iff.mp hj).1
  have := fk223_all j (by have := fr223_len; omega)
  unfold fk223 at this
  rw [show fr223[j]? = some q from hj] at this
  exact this
