/-! A NODE IN PIECES -/
def fr96 : List (Nat × Nat × SS) := sxg tGam tSets tRoles tFty tMT tAt tAn nd96 12 5000 nd96.dep (n_st nd96)
def fk96 (j : Nat) : Bool := match fr96[j]? with | some q => sx tGam tSets tRoles tFty tMT tAt tAn nd96 q.1 q.2.1 q.2.2 | none => true
set_option maxRecDepth 100000 in
theorem fr96_len : fr96.length ≤ 42 := by decide +kernel
set_option maxRecDepth 100000 in
theorem fk96_0 : fk96 0 = true := by decide +kernel
set_option maxRecDepth 100000 in
theorem fk96_1 : fk96 1 = true := by decide +kernel
set_option maxRecDepth 100000 in
theorem fk96_2 : fk96 2 = true := by decide +kernel
set_option maxRecDepth 100000 in
theorem fk96_3 : fk96 3 = true := by decide +kernel
set_option maxRecDepth 100000 in
theorem fk96_4 : fk96 4 = true := by decide +kernel
set_option maxRecDepth 100000 in
theorem fk96_5 : fk96 5 = true := by decide +kernel
set_option maxRecDepth 100000 in
theorem fk96_6 : fk96 6 = true := by decide +kernel
set_option maxRecDepth 100000 in
theorem fk96_7 : fk96 7 = true := by decide +kernel
set_option maxRecDepth 100000 in
theorem fk96_8 : fk96 8 = true := by decide +kernel
set_option maxRecDepth 100000 in
theorem fk96_9 : fk96 9 = true := by decide +kernel
set_option maxRecDepth 100000 in
theorem fk96_10 : fk96 10 = true := by decide +kernel
set_option maxRecDepth 100000 in
theorem fk96_11 : fk96 11 = true := by decide +kernel
set_option maxRecDepth 100000 in
theorem fk96_12 : fk96 12 = true := by decide +kernel
set_option maxRecDepth 100000 in
theorem fk96_13 : fk96 13 = true := by decide +kernel
set_option maxRecDepth 100000 in
theorem fk96_14 : fk96 14 = true := by decide +kernel
set_option maxRecDepth 100000 in
theorem fk96_15 : fk96 15 = true := by decide +kernel
set_option maxRecDepth 100000 in
theorem fk96_16 : fk96 16 = true := by decide +kernel
set_option maxRecDepth 100000 in
theorem fk96_17 : fk96 17 = true := by decide +kernel
set_option maxRecDepth 100000 in
theorem fk96_18 : fk96 18 = true := by decide +kernel
set_option maxRecDepth 100000 in
theorem fk96_19 : fk96 19 = true := by decide +kernel
set_option maxRecDepth 100000 in
theorem fk96_20 : fk96 20 = true := by decide +kernel
set_option maxRecDepth 100000 in
theorem fk96_21 : fk96 21 = true := by decide +kernel
set_option maxRecDepth 100000 in
theorem fk96_22 : fk96 22 = true := by decide +kernel
set_option maxRecDepth 100000 in
theorem fk96_23 : fk96 23 = true := by decide +kernel
set_option maxRecDepth 100000 in
theorem fk96_24 : fk96 24 = true := by decide +kernel
set_option maxRecDepth 100000 in
theorem fk96_25 : fk96 25 = true := by decide +kernel
set_option maxRecDepth 100000 in
theorem fk96_26 : fk96 26 = true := by decide +kernel
set_option maxRecDepth 100000 in
theorem fk96_27 : fk96 27 = true := by decide +kernel
set_option maxRecDepth 100000 in
theorem fk96_28 : fk96 28 = true := by decide +kernel
set_option maxRecDepth 100000 in
theorem fk96_29 : fk96 29 = true := by decide +kernel
set_option maxRecDepth 100000 in
theorem fk96_30 : fk96 30 = true := by decide +kernel
set_option maxRecDepth 100000 in
theorem fk96_31 : fk96 31 = true := by decide +kernel
set_option maxRecDepth 100000 in
theorem fk96_32 : fk96 32 = true := by decide +kernel
set_option maxRecDepth 100000 in
theorem fk96_33 : fk96 33 = true := by decide +kernel
set_option maxRecDepth 100000 in
theorem fk96_34 : fk96 34 = true := by decide +kernel
set_option maxRecDepth 100000 in
theorem fk96_35 : fk96 35 = true := by decide +kernel
set_option maxRecDepth 100000 in
theorem fk96_36 : fk96 36 = true := by decide +kernel
set_option maxRecDepth 100000 in
theorem fk96_37 : fk96 37 = true := by decide +kernel
set_option maxRecDepth 100000 in
theorem fk96_38 : fk96 38 = true := by decide +kernel
set_option maxRecDepth 100000 in
theorem fk96_39 : fk96 39 = true := by decide +kernel
set_option maxRecDepth 100000 in
theorem fk96_40 : fk96 40 = true := by decide +kernel
set_option maxRecDepth 100000 in
theorem fk96_41 : fk96 41 = true := by decide +kernel
theorem fk96_all : ∀ j, j < 42 → fk96 j = true
  | 0, _ => fk96_0
  | 1, _ => fk96_1
  | 2, _ => fk96_2
  | 3, _ => fk96_3
  | 4, _ => fk96_4
  | 5, _ => fk96_5
  | 6, _ => fk96_6
  | 7, _ => fk96_7
  | 8, _ => fk96_8
  | 9, _ => fk96_9
  | 10, _ => fk96_10
  | 11, _ => fk96_11
  | 12, _ => fk96_12
  | 13, _ => fk96_13
  | 14, _ => fk96_14
  | 15, _ => fk96_15
  | 16, _ => fk96_16
  | 17, _ => fk96_17
  | 18, _ => fk96_18
  | 19, _ => fk96_19
  | 20, _ => fk96_20
  | 21, _ => fk96_21
  | 22, _ => fk96_22
  | 23, _ => fk96_23
  | 24, _ => fk96_24
  | 25, _ => fk96_25
  | 26, _ => fk96_26
  | 27, _ => fk96_27
  | 28, _ => fk96_28
  | 29, _ => fk96_29
  | 30, _ => fk96_30
  | 31, _ => fk96_31
  | 32, _ => fk96_32
  | 33, _ => fk96_33
  | 34, _ => fk96_34
  | 35, _ => fk96_35
  | 36, _ => fk96_36
  | 37, _ => fk96_37
  | 38, _ => fk96_38
  | 39, _ => fk96_39
  | 40, _ => fk96_40
  | 41, _ => fk96_41
  | n + 42, h => absurd h (by omega)
theorem ck96 : n_chk tGam tSets tRoles tFty tMT tAt tAn 5000 nd96 = true := by
  unfold n_chk
  rw [Bool.and_eq_true]
  refine ⟨by decide +kernel, sxg_ok 12 5000 nd96.dep (n_st nd96) (fun q hq => ?_)⟩
  obtain ⟨j, hj⟩ := List.getElem?_of_mem hq
  have hl : j < fr96.length := (List.getElem?_eq_some_iff.mp hj).1
  have := fk96_all j (by have := fr96_len; omega)
  unfold fk96 at this
  rw [show fr96[j]? = some q from hj] at this
  exact this
