/-! NODES: ways looked at one by one, also behind the use of nodes, calls and returns -/
def sxg (Γ : Nat → Option Nat) (sets : List (List Int)) (roles : List RD) (fty : Nat → Nat → FieldType) (MT : List MM) (A : AN) (N : ND) : Nat → Nat → Nat → SS → List (Nat × Nat × SS)
  | 0, n, d, S => [(n, d, S)]
  | _ + 1, 0, d, S => [(0, d, S)]
  | k + 1, n + 1, d, S => match x_try sets roles N d S (an_at A S.1.1).1 with
    | some [q] => (match x_pop q.1 q.2 with
      | some S3 => sxg Γ sets roles fty MT A N k n (d + 1) S3
      | none => [(n + 1, d, S)])
    | some _ => [(n + 1, d, S)]
    | none => match x_spl sets S (an_at A S.1.1).2 with
      | some L => L.flatMap (fun S3 => sxg Γ sets roles fty MT A N k n d S3)
      | none => match m_at MT S.1.1 S.1.2.1 with
        | none => [(n + 1, d, S)]
        | some E => match x_stp Γ sets roles fty MT N.ms S E.1 with
          | some L => L.flatMap (fun S3 => sxg Γ sets roles fty MT A N k n d S3)
          | none => match x_ret E.2 E.1.2.1 S.1.2.2.2 with
            | some _ => [(n + 1, d, S)]
            | none => match x_max S E.1 with
              | some _ => [(n + 1, d, S)]
              | none => match x_call MT roles S E.1 with
                | some S3 => (match d with | 0 => [(n + 1, 0, S)] | d' + 1 => sxg Γ sets roles fty MT A N k n d' S3)
                | none => [(n + 1, d, S)]
theorem sxg_ok {Γ : Nat → Option Nat} {sets : List (List Int)} {roles : List RD} {fty : Nat → Nat → FieldType} {MT : List MM} {A : AN} {N : ND} : ∀ (k n d : Nat) (S : SS), (∀ q ∈ sxg Γ sets roles fty MT A N k n d S, sx Γ sets roles fty MT A N q.1 q.2.1 q.2.2 = true) → sx Γ sets roles fty MT A N n d S = true
  | 0, n, d, S, h => h (n, d, S) (by rw [sxg]; exact List.mem_cons_self)
  | k + 1, 0, d, S, h => h (0, d, S) (by rw [sxg]; exact List.mem_cons_self)
  | k + 1, n + 1, d, S, h => by
    have stop : ∀ d, (∀ q ∈ [(n + 1, d, S)], sx Γ sets roles fty MT A N q.1 q.2.1 q.2.2 = true) → sx Γ sets roles fty MT A N (n + 1) d S = true := fun d h => h _ List.mem_cons_self
    rw [sxg] at h
    split at h
    · rename_i q h1
      split at h
      · rename_i S3 h2
        rw [sx, h1]; simp only [List.all_cons, List.all_nil, Bool.and_true]; rw [h2]
        exact sxg_ok k n (d + 1) S3 h
      · exact stop d h
    · exact stop d h
    · rename_i h1
      split at h
      · rename_i L h2
        rw [sx, h1]; simp only; rw [h2]
        exact List.all_eq_true.mpr (fun S3 h3 => sxg_ok k n d S3 (fun q hq => h q (List.mem_flatMap.mpr ⟨S3, h3, hq⟩)))
      · rename_i h2
        split at h
        · exact stop d h
        · rename_i E hE
          split at h
          · rename_i L h3
            rw [sx, h1]; simp only; rw [h2]; simp only; rw [hE]; simp only; rw [h3]
            exact List.all_eq_true.mpr (fun S3 h4 => sxg_ok k n d S3 (fun q hq => h q (List.mem_flatMap.mpr ⟨S3, h4, hq⟩)))
          · rename_i h3
            split at h
            · exact stop d h
            · rename_i h4
              split at h
              · exact stop d h
              · rename_i h5
                split at h
                · rename_i S3 h6
                  split at h
                  · exact stop 0 h
                  · rename_i d'
                    rw [sx, h1]; simp only; rw [h2]; simp only; rw [hE]; simp only; rw [h3]; simp only; rw [h4]; simp only; rw [h5]; simp only; rw [h6]
                    exact sxg_ok k n d' S3 h
                · exact stop d h
def fr211 : List (Nat × Nat × SS) := sxg tGam tSets tRoles tFty tMT tA nd211 3 5000 nd211.dep (n_st nd211)
def fk211 (j : Nat) : Bool := match fr211[j]? with | some q => sx tGam tSets tRoles tFty tMT tA nd211 q.1 q.2.1 q.2.2 | none => true
set_option maxRecDepth 100000 in
theorem fr211_len : fr211.length ≤ 24 := by decide +kernel
set_option maxRecDepth 100000 in
theorem fk211_0 : fk211 0 = true := by decide +kernel
set_option maxRecDepth 100000 in
theorem fk211_1 : fk211 1 = true := by decide +kernel
set_option maxRecDepth 100000 in
theorem fk211_2 : fk211 2 = true := by decide +kernel
set_option maxRecDepth 100000 in
theorem fk211_3 : fk211 3 = true := by decide +kernel
set_option maxRecDepth 100000 in
theorem fk211_4 : fk211 4 = true := by decide +kernel
set_option maxRecDepth 100000 in
theorem fk211_5 : fk211 5 = true := by decide +kernel
set_option maxRecDepth 100000 in
theorem fk211_6 : fk211 6 = true := by decide +kernel
set_option maxRecDepth 100000 in
theorem fk211_7 : fk211 7 = true := by decide +kernel
set_option maxRecDepth 100000 in
theorem fk211_8 : fk211 8 = true := by decide +kernel
set_option maxRecDepth 100000 in
theorem fk211_9 : fk211 9 = true := by decide +kernel
set_option maxRecDepth 100000 in
theorem fk211_10 : fk211 10 = true := by decide +kernel
set_option maxRecDepth 100000 in
theorem fk211_11 : fk211 11 = true := by decide +kernel
set_option maxRecDepth 100000 in
theorem fk211_12 : fk211 12 = true := by decide +kernel
set_option maxRecDepth 100000 in
theorem fk211_13 : fk211 13 = true := by decide +kernel
set_option maxRecDepth 100000 in
theorem fk211_14 : fk211 14 = true := by decide +kernel
set_option maxRecDepth 100000 in
theorem fk211_15 : fk211 15 = true := by decide +kernel
set_option maxRecDepth 100000 in
theorem fk211_16 : fk211 16 = true := by decide +kernel
set_option maxRecDepth 100000 in
theorem fk211_17 : fk211 17 = true := by decide +kernel
set_option maxRecDepth 100000 in
theorem fk211_18 : fk211 18 = true := by decide +kernel
set_option maxRecDepth 100000 in
theorem fk211_19 : fk211 19 = true := by decide +kernel
set_option maxRecDepth 100000 in
theorem fk211_20 : fk211 20 = true := by decide +kernel
set_option maxRecDepth 100000 in
theorem fk211_21 : fk211 21 = true := by decide +kernel
set_option maxRecDepth 100000 in
theorem fk211_22 : fk211 22 = true := by decide +kernel
set_option maxRecDepth 100000 in
theorem fk211_23 : fk211 23 = true := by decide +kernel
theorem fk211_all : ∀ j, j < 24 → fk211 j = true
  | 0, _ => fk211_0
  | 1, _ => fk211_1
  | 2, _ => fk211_2
  | 3, _ => fk211_3
  | 4, _ => fk211_4
  | 5, _ => fk211_5
  | 6, _ => fk211_6
  | 7, _ => fk211_7
  | 8, _ => fk211_8
  | 9, _ => fk211_9
  | 10, _ => fk211_10
  | 11, _ => fk211_11
  | 12, _ => fk211_12
  | 13, _ => fk211_13
  | 14, _ => fk211_14
  | 15, _ => fk211_15
  | 16, _ => fk211_16
  | 17, _ => fk211_17
  | 18, _ => fk211_18
  | 19, _ => fk211_19
  | 20, _ => fk211_20
  | 21, _ => fk211_21
  | 22, _ => fk211_22
  | 23, _ => fk211_23
  | n + 24, h => absurd h (by omega)
theorem ck211 : n_chk tGam tSets tRoles tFty tMT tA 5000 nd211 = true := by
  unfold n_chk
  rw [Bool.and_eq_true]
  refine ⟨by decide +kernel, sxg_ok 3 5000 nd211.dep (n_st nd211) (fun q hq => ?_)⟩
  obtain ⟨j, hj⟩ := List.getElem?_of_mem hq
  have hl : j < fr211.length := (List.getElem?_eq_some_iff.mp hj).1
  have := fk211_all j (by have := fr211_len; omega)
  unfold fk211 at this
  rw [show fr211[j]? = some q from hj] at this
  exact this
