/-! A NODE IN PIECES -/
def fr206 : List (Nat × Nat × SS) := sxg tGam tSets tRoles tFty tMT tA nd206 3 5000 nd206.dep (n_st nd206)
def fk206 (j : Nat) : Bool := match fr206[j]? with | some q => sx tGam tSets tRoles tFty tMT tA nd206 q.1 q.2.1 q.2.2 | none => true
set_option maxRecDepth 100000 in
theorem fr206_len : fr206.length ≤ 24 := by decide +kernel
set_option maxRecDepth 100000 in
theorem fk206_0 : fk206 0 = true := by decide +kernel
set_option maxRecDepth 100000 in
theorem fk206_1 : fk206 1 = true := by decide +kernel
set_option maxRecDepth 100000 in
theorem fk206_2 : fk206 2 = true := by decide +kernel
set_option maxRecDepth 100000 in
theorem fk206_3 : fk206 3 = true := by decide +kernel
set_option maxRecDepth 100000 in
theorem fk206_4 : fk206 4 = true := by decide +kernel
set_option maxRecDepth 100000 in
theorem fk206_5 : fk206 5 = true := by decide +kernel
set_option maxRecDepth 100000 in
theorem fk206_6 : fk206 6 = true := by decide +kernel
set_option maxRecDepth 100000 in
theorem fk206_7 : fk206 7 = true := by decide +kernel
set_option maxRecDepth 100000 in
theorem fk206_8 : fk206 8 = true := by decide +kernel
set_option maxRecDepth 100000 in
theorem fk206_9 : fk206 9 = true := by decide +kernel
set_option maxRecDepth 100000 in
theorem fk206_10 : fk206 10 = true := by decide +kernel
set_option maxRecDepth 100000 in
theorem fk206_11 : fk206 11 = true := by decide +kernel
set_option maxRecDepth 100000 in
theorem fk206_12 : fk206 12 = true := by decide +kernel
set_option maxRecDepth 100000 in
theorem fk206_13 : fk206 13 = true := by decide +kernel
set_option maxRecDepth 100000 in
theorem fk206_14 : fk206 14 = true := by decide +kernel
set_option maxRecDepth 100000 in
theorem fk206_15 : fk206 15 = true := by decide +kernel
set_option maxRecDepth 100000 in
theorem fk206_16 : fk206 16 = true := by decide +kernel
set_option maxRecDepth 100000 in
theorem fk206_17 : fk206 17 = true := by decide +kernel
set_option maxRecDepth 100000 in
theorem fk206_18 : fk206 18 = true := by decide +kernel
set_option maxRecDepth 100000 in
theorem fk206_19 : fk206 19 = true := by decide +kernel
set_option maxRecDepth 100000 in
theorem fk206_20 : fk206 20 = true := by decide +kernel
set_option maxRecDepth 100000 in
theorem fk206_21 : fk206 21 = true := by decide +kernel
set_option maxRecDepth 100000 in
theorem fk206_22 : fk206 22 = true := by decide +kernel
set_option maxRecDepth 100000 in
theorem fk206_23 : fk206 23 = true := by decide +kernel
theorem fk206_all : ∀ j, j < 24 → fk206 j = true
  | 0, _ => fk206_0
  | 1, _ => fk206_1
  | 2, _ => fk206_2
  | 3, _ => fk206_3
  | 4, _ => fk206_4
  | 5, _ => fk206_5
  | 6, _ => fk206_6
  | 7, _ => fk206_7
  | 8, _ => fk206_8
  | 9, _ => fk206_9
  | 10, _ => fk206_10
  | 11, _ => fk206_11
  | 12, _ => fk206_12
  | 13, _ => fk206_13
  | 14, _ => fk206_14
  | 15, _ => fk206_15
  | 16, _ => fk206_16
  | 17, _ => fk206_17
  | 18, _ => fk206_18
  | 19, _ => fk206_19
  | 20, _ => fk206_20
  | 21, _ => fk206_21
  | 22, _ => fk206_22
  | 23, _ => fk206_23
  | n + 24, h => absurd h (by omega)
theorem ck206 : n_chk tGam tSets tRoles tFty tMT tA 5000 nd206 = true := by
  unfold n_chk
  rw [Bool.and_eq_true]
  refine ⟨by decide +kernel, sxg_ok 3 5000 nd206.dep (n_st nd206) (fun q hq => ?_)⟩
  obtain ⟨j, hj⟩ := List.getElem?_of_mem hq
  have hl : j < fr206.length := (List.getElem?_eq_some_iff.mp hj).1
  have := fk206_all j (by have := fr206_len; omega)
  unfold fk206 at this
  rw [show fr206[j]? = some q from hj] at this
  exact this
