/-! NODES: ways looked at one by one, also behind the use of nodes, calls and returns -/
noncomputable def sxg (Γ : Nat → Option Nat) (sets : List (List Int)) (roles : List RD) (fty : Nat → Nat → FieldType) (MT : List MM) (at_ : AT) (an : Nat → List ND × List SP) (N : ND) : Nat → Nat → Nat → SS → List (Nat × Nat × SS)
  | 0, n, d, S => [(n, d, S)]
  | _ + 1, 0, d, S => [(0, d, S)]
  | k + 1, n + 1, d, S => match x_try sets roles N d S (an S.1.1).1 with
    | some [q] => (match x_pop q.1 q.2 with
      | some S3 => sxg Γ sets roles fty MT at_ an N k n (d + 1) S3
      | none => [(n + 1, d, S)])
    | some _ => [(n + 1, d, S)]
    | none => match x_spl sets S (an S.1.1).2 with
      | some L => L.flatMap (fun S3 => sxg Γ sets roles fty MT at_ an N k n d S3)
      | none => match at_ S.1.1 S.1.2.1 with
        | none => [(n + 1, d, S)]
        | some E => match x_stp Γ sets roles fty MT N.ms S E.1 with
          | some L => L.flatMap (fun S3 => sxg Γ sets roles fty MT at_ an N k n d S3)
          | none => match x_ret E.2 E.1.2.1 S.1.2.2.2 with
            | some _ => [(n + 1, d, S)]
            | none => match x_max S E.1 with
              | some _ => [(n + 1, d, S)]
              | none => match x_call MT roles S E.1 with
                | some S3 => (match d with | 0 => [(n + 1, 0, S)] | d' + 1 => sxg Γ sets roles fty MT at_ an N k n d' S3)
                | none => [(n + 1, d, S)]
theorem sxg_ok {Γ : Nat → Option Nat} {sets : List (List Int)} {roles : List RD} {fty : Nat → Nat → FieldType} {MT : List MM} {at_ : AT} {an : Nat → List ND × List SP} {N : ND} : ∀ (k n d : Nat) (S : SS), (∀ q ∈ sxg Γ sets roles fty MT at_ an N k n d S, sx Γ sets roles fty MT at_ an N q.1 q.2.1 q.2.2 = true) → sx Γ sets roles fty MT at_ an N n d S = true
  | 0, n, d, S, h => h (n, d, S) (by rw [sxg]; exact List.mem_cons_self)
  | k + 1, 0, d, S, h => h (0, d, S) (by rw [sxg]; exact List.mem_cons_self)
  | k + 1, n + 1, d, S, h => by
    have stop : ∀ d, (∀ q ∈ [(n + 1, d, S)], sx Γ sets roles fty MT at_ an N q.1 q.2.1 q.2.2 = true) → sx Γ sets roles fty MT at_ an N (n + 1) d S = true := fun d h => h _ List.mem_cons_self
    rw [sxg] at h
    split at h
    · rename_i q h1
      split at h
      · rename_i S3 h2
        rw [sx, h1]; simp only [List.all_cons, List.all_nil, Bool.and_true]; rw [h2]
        exact sxg_ok k n (d + 1) S3 h
      · exact stop d h
    · exact stop d h
    · rename_i h1
      split at h
      · rename_i L h2
        rw [sx, h1]; simp only; rw [h2]
        exact List.all_eq_true.mpr (fun S3 h3 => sxg_ok k n d S3 (fun q hq => h q (List.mem_flatMap.mpr ⟨S3, h3, hq⟩)))
      · rename_i h2
        split at h
        · exact stop d h
        · rename_i E hE
          split at h
          · rename_i L h3
            rw [sx, h1]; simp only; rw [h2]; simp only; rw [hE]; simp only; rw [h3]
            exact List.all_eq_true.mpr (fun S3 h4 => sxg_ok k n d S3 (fun q hq => h q (List.mem_flatMap.mpr ⟨S3, h4, hq⟩)))
          · rename_i h3
            split at h
            · exact stop d h
            · rename_i h4
              split at h
              · exact stop d h
              · rename_i h5
                split at h
                · rename_i S3 h6
                  split at h
                  · exact stop 0 h
                  · rename_i d'
                    rw [sx, h1]; simp only; rw [h2]; simp only; rw [hE]; simp only; rw [h3]; simp only; rw [h4]; simp only; rw [h5]; simp only; rw [h6]
                    exact sxg_ok k n d' S3 h
                · exact stop d h
