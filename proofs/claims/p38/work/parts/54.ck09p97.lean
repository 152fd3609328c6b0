/-! A NODE IN PIECES -/
noncomputable def fr97 : List (Nat × Nat × SS) := sxg tGam tSets tRoles tFty tMT tAt tAn nd97 12 5000 nd97.dep (n_st nd97)
noncomputable def fk97 (j : Nat) : Bool := match fr97[j]? with | some q => sx tGam tSets tRoles tFty tMT tAt tAn nd97 q.1 q.2.1 q.2.2 | none => true
set_option maxRecDepth 100000 in
theorem fr97_len : fr97.length ≤ 42 := by decide +kernel
set_option maxRecDepth 100000 in
theorem fk97_0 : fk97 0 = true := by decide +kernel
set_option maxRecDepth 100000 in
theorem fk97_1 : fk97 1 = true := by decide +kernel
set_option maxRecDepth 100000 in
theorem fk97_2 : fk97 2 = true := by decide +kernel
set_option maxRecDepth 100000 in
theorem fk97_3 : fk97 3 = true := by decide +kernel
set_option maxRecDepth 100000 in
theorem fk97_4 : fk97 4 = true := by decide +kernel
set_option maxRecDepth 100000 in
theorem fk97_5 : fk97 5 = true := by decide +kernel
set_option maxRecDepth 100000 in
theorem fk97_6 : fk97 6 = true := by decide +kernel
set_option maxRecDepth 100000 in
theorem fk97_7 : fk97 7 = true := by decide +kernel
set_option maxRecDepth 100000 in
theorem fk97_8 : fk97 8 = true := by decide +kernel
set_option maxRecDepth 100000 in
theorem fk97_9 : fk97 9 = true := by decide +kernel
set_option maxRecDepth 100000 in
theorem fk97_10 : fk97 10 = true := by decide +kernel
set_option maxRecDepth 100000 in
theorem fk97_11 : fk97 11 = true := by decide +kernel
set_option maxRecDepth 100000 in
theorem fk97_12 : fk97 12 = true := by decide +kernel
set_option maxRecDepth 100000 in
theorem fk97_13 : fk97 13 = true := by decide +kernel
set_option maxRecDepth 100000 in
theorem fk97_14 : fk97 14 = true := by decide +kernel
set_option maxRecDepth 100000 in
theorem fk97_15 : fk97 15 = true := by decide +kernel
set_option maxRecDepth 100000 in
theorem fk97_16 : fk97 16 = true := by decide +kernel
set_option maxRecDepth 100000 in
theorem fk97_17 : fk97 17 = true := by decide +kernel
set_option maxRecDepth 100000 in
theorem fk97_18 : fk97 18 = true := by decide +kernel
set_option maxRecDepth 100000 in
theorem fk97_19 : fk97 19 = true := by decide +kernel
set_option maxRecDepth 100000 in
theorem fk97_20 : fk97 20 = true := by decide +kernel
set_option maxRecDepth 100000 in
theorem fk97_21 : fk97 21 = true := by decide +kernel
set_option maxRecDepth 100000 in
theorem fk97_22 : fk97 22 = true := by decide +kernel
set_option maxRecDepth 100000 in
theorem fk97_23 : fk97 23 = true := by decide +kernel
set_option maxRecDepth 100000 in
theorem fk97_24 : fk97 24 = true := by decide +kernel
set_option maxRecDepth 100000 in
theorem fk97_25 : fk97 25 = true := by decide +kernel
set_option maxRecDepth 100000 in
theorem fk97_26 : fk97 26 = true := by decide +kernel
set_option maxRecDepth 100000 in
theorem fk97_27 : fk97 27 = true := by decide +kernel
set_option maxRecDepth 100000 in
theorem fk97_28 : fk97 28 = true := by decide +kernel
set_option maxRecDepth 100000 in
theorem fk97_29 : fk97 29 = true := by decide +kernel
set_option maxRecDepth 100000 in
theorem fk97_30 : fk97 30 = true := by decide +kernel
set_option maxRecDepth 100000 in
theorem fk97_31 : fk97 31 = true := by decide +kernel
set_option maxRecDepth 100000 in
theorem fk97_32 : fk97 32 = true := by decide +kernel
set_option maxRecDepth 100000 in
theorem fk97_33 : fk97 33 = true := by decide +kernel
set_option maxRecDepth 100000 in
theorem fk97_34 : fk97 34 = true := by decide +kernel
set_option maxRecDepth 100000 in
theorem fk97_35 : fk97 35 = true := by decide +kernel
set_option maxRecDepth 100000 in
theorem fk97_36 : fk97 36 = true := by decide +kernel
set_option maxRecDepth 100000 in
theorem fk97_37 : fk97 37 = true := by decide +kernel
set_option maxRecDepth 100000 in
theorem fk97_38 : fk97 38 = true := by decide +kernel
set_option maxRecDepth 100000 in
theorem fk97_39 : fk97 39 = true := by decide +kernel
set_option maxRecDepth 100000 in
theorem fk97_40 : fk97 40 = true := by decide +kernel
set_option maxRecDepth 100000 in
theorem fk97_41 : fk97 41 = true := by decide +kernel
theorem fk97_all : ∀ j, j < 42 → fk97 j = true
  | 0, _ => fk97_0
  | 1, _ => fk97_1
  | 2, _ => fk97_2
  | 3, _ => fk97_3
  | 4, _ => fk97_4
  | 5, _ => fk97_5
  | 6, _ => fk97_6
  | 7, _ => fk97_7
  | 8, _ => fk97_8
  | 9, _ => fk97_9
  | 10, _ => fk97_10
  | 11, _ => fk97_11
  | 12, _ => fk97_12
  | 13, _ => fk97_13
  | 14, _ => fk97_14
  | 15, _ => fk97_15
  | 16, _ => fk97_16
  | 17, _ => fk97_17
  | 18, _ => fk97_18
  | 19, _ => fk97_19
  | 20, _ => fk97_20
  | 21, _ => fk97_21
  | 22, _ => fk97_22
  | 23, _ => fk97_23
  | 24, _ => fk97_24
  | 25, _ => fk97_25
  | 26, _ => fk97_26
  | 27, _ => fk97_27
  | 28, _ => fk97_28
  | 29, _ => fk97_29
  | 30, _ => fk97_30
  | 31, _ => fk97_31
  | 32, _ => fk97_32
  | 33, _ => fk97_33
  | 34, _ => fk97_34
  | 35, _ => fk97_35
  | 36, _ => fk97_36
  | 37, _ => fk97_37
  | 38, _ => fk97_38
  | 39, _ => fk97_39
  | 40, _ => fk97_40
  | 41, _ => fk97_41
  | n + 42, h => absurd h (by omega)
theorem ck97 : n_chk tGam tSets tRoles tFty tMT tAt tAn 5000 nd97 = true := by
  unfold n_chk
  rw [Bool.and_eq_true]
  refine ⟨by decide +kernel, sxg_ok 12 5000 nd97.dep (n_st nd97) (fun q hq => ?_)⟩
  obtain ⟨j, hj⟩ := List.getElem?_of_mem hq
  have hl : j < fr97.length := (List.getElem?_eq_some_iff.mp hj).1
  have := fk97_all j (by have := fr97_len; omega)
  unfold fk97 at this
  rw [show fr97[j]? = some q from hj] at this
  exact this
