section
/-! THE SHAPE of the cells behind the constructors (written by a program) -/
noncomputable def shB0 : MH := [.inl (0, [.ref 1, .ref 22, .ref 24, .ref 44, .ref 85, .ref 86, .ref 101, .ref 119, .ref 120, .int 0, .int 0, .int 0, .int 0]),
  .inl (1, [.ref 2, .ref 22, .int 0, .int 0, .int 0]),
  .inl (2, [.ref 3, .ref 18, .int 0, .ref 19, .ref 20, .ref 21, .int 0]),
  .inl (3, [.ref 4, .ref 9, .int 0, .int 0, .int 0, .int 0]),
  .inr (.inr (3, [some 5, some 6, some 7, some 8])),
  .inl (4, [.int 0, .int 0, .int 0, .int 0]),
  .inl (4, [.int 0, .int 0, .int 0, .int 0]),
  .inl (4, [.int 0, .int 0, .int 0, .int 0]),
  .inl (4, [.int 0, .int 0, .int 0, .int 0]),
  .inr (.inr (4, [some 10, some 12, some 14, some 16])),
  .inl (5, [.ref 11, .int 0, .int 0, .int 0]),
  .inr (.inl (0, List.replicate 6 0)),
  .inl (5, [.ref 13, .int 0, .int 0, .int 0]),
  .inr (.inl (0, List.replicate 6 0)),
  .inl (5, [.ref 15, .int 0, .int 0, .int 0]),
  .inr (.inl (0, List.replicate 6 0))]
noncomputable def shB1 : MH := [.inl (5, [.ref 17, .int 0, .int 0, .int 0]),
  .inr (.inl (0, List.replicate 6 0)),
  .inr (.inl (0, List.replicate 8 0)),
  .inr (.inl (0, List.replicate 6 0)),
  .inr (.inl (0, List.replicate 6 0)),
  .inr (.inl (0, List.replicate 6 0)),
  .inl (6, [.ref 23, .int 0, .int 0, .int 0, .int 0, .int 0]),
  .inr (.inl (0, List.replicate 160 0)),
  .inl (2, [.ref 25, .ref 40, .int 0, .ref 41, .ref 42, .ref 43, .int 0]),
  .inl (3, [.ref 26, .ref 31, .int 0, .int 0, .int 0, .int 0]),
  .inr (.inr (3, [some 27, some 28, some 29, some 30])),
  .inl (4, [.int 0, .int 0, .int 0, .int 0]),
  .inl (4, [.int 0, .int 0, .int 0, .int 0]),
  .inl (4, [.int 0, .int 0, .int 0, .int 0]),
  .inl (4, [.int 0, .int 0, .int 0, .int 0]),
  .inr (.inr (4, [some 32, some 34, some 36, some 38]))]
noncomputable def shB2 : MH := [.inl (5, [.ref 33, .int 0, .int 0, .int 0]),
  .inr (.inl (0, List.replicate 6 0)),
  .inl (5, [.ref 35, .int 0, .int 0, .int 0]),
  .inr (.inl (0, List.replicate 6 0)),
  .inl (5, [.ref 37, .int 0, .int 0, .int 0]),
  .inr (.inl (0, List.replicate 6 0)),
  .inl (5, [.ref 39, .int 0, .int 0, .int 0]),
  .inr (.inl (0, List.replicate 6 0)),
  .inr (.inl (0, List.replicate 8 0)),
  .inr (.inl (0, List.replicate 6 0)),
  .inr (.inl (0, List.replicate 6 0)),
  .inr (.inl (0, List.replicate 6 0)),
  .inr (.inr (5, [some 45, some 65])),
  .inl (2, [.ref 46, .ref 61, .int 0, .ref 62, .ref 63, .ref 64, .int 0]),
  .inl (3, [.ref 47, .ref 52, .int 0, .int 0, .int 0, .int 0]),
  .inr (.inr (3, [some 48, some 49, some 50, some 51]))]
noncomputable def shB3 : MH := [.inl (4, [.int 0, .int 0, .int 0, .int 0]),
  .inl (4, [.int 0, .int 0, .int 0, .int 0]),
  .inl (4, [.int 0, .int 0, .int 0, .int 0]),
  .inl (4, [.int 0, .int 0, .int 0, .int 0]),
  .inr (.inr (4, [some 53, some 55, some 57, some 59])),
  .inl (5, [.ref 54, .int 0, .int 0, .int 0]),
  .inr (.inl (0, List.replicate 6 0)),
  .inl (5, [.ref 56, .int 0, .int 0, .int 0]),
  .inr (.inl (0, List.replicate 6 0)),
  .inl (5, [.ref 58, .int 0, .int 0, .int 0]),
  .inr (.inl (0, List.replicate 6 0)),
  .inl (5, [.ref 60, .int 0, .int 0, .int 0]),
  .inr (.inl (0, List.replicate 6 0)),
  .inr (.inl (0, List.replicate 8 0)),
  .inr (.inl (0, List.replicate 6 0)),
  .inr (.inl (0, List.replicate 6 0))]
noncomputable def shB4 : MH := [.inr (.inl (0, List.replicate 6 0)),
  .inl (2, [.ref 66, .ref 81, .int 0, .ref 82, .ref 83, .ref 84, .int 0]),
  .inl (3, [.ref 67, .ref 72, .int 0, .int 0, .int 0, .int 0]),
  .inr (.inr (3, [some 68, some 69, some 70, some 71])),
  .inl (4, [.int 0, .int 0, .int 0, .int 0]),
  .inl (4, [.int 0, .int 0, .int 0, .int 0]),
  .inl (4, [.int 0, .int 0, .int 0, .int 0]),
  .inl (4, [.int 0, .int 0, .int 0, .int 0]),
  .inr (.inr (4, [some 73, some 75, some 77, some 79])),
  .inl (5, [.ref 74, .int 0, .int 0, .int 0]),
  .inr (.inl (0, List.replicate 6 0)),
  .inl (5, [.ref 76, .int 0, .int 0, .int 0]),
  .inr (.inl (0, List.replicate 6 0)),
  .inl (5, [.ref 78, .int 0, .int 0, .int 0]),
  .inr (.inl (0, List.replicate 6 0)),
  .inl (5, [.ref 80, .int 0, .int 0, .int 0])]
noncomputable def shB5 : MH := [.inr (.inl (0, List.replicate 6 0)),
  .inr (.inl (0, List.replicate 8 0)),
  .inr (.inl (0, List.replicate 6 0)),
  .inr (.inl (0, List.replicate 6 0)),
  .inr (.inl (0, List.replicate 6 0)),
  .inr (.inl (1, List.replicate 2 0)),
  .inl (3, [.ref 87, .ref 92, .int 0, .int 0, .int 0, .int 0]),
  .inr (.inr (3, [some 88, some 89, some 90, some 91])),
  .inl (4, [.int 0, .int 0, .int 0, .int 0]),
  .inl (4, [.int 0, .int 0, .int 0, .int 0]),
  .inl (4, [.int 0, .int 0, .int 0, .int 0]),
  .inl (4, [.int 0, .int 0, .int 0, .int 0]),
  .inr (.inr (4, [some 93, some 95, some 97, some 99])),
  .inl (5, [.ref 94, .int 0, .int 0, .int 0]),
  .inr (.inl (0, List.replicate 6 0)),
  .inl (5, [.ref 96, .int 0, .int 0, .int 0])]
noncomputable def shB6 : MH := [.inr (.inl (0, List.replicate 6 0)),
  .inl (5, [.ref 98, .int 0, .int 0, .int 0]),
  .inr (.inl (0, List.replicate 6 0)),
  .inl (5, [.ref 100, .int 0, .int 0, .int 0]),
  .inr (.inl (0, List.replicate 6 0)),
  .inl (7, [.ref 102, .ref 117, .ref 118, .int 0, .int 0, .int 0, .int 0]),
  .inl (3, [.ref 103, .ref 108, .int 0, .int 0, .int 0, .int 0]),
  .inr (.inr (3, [some 104, some 105, some 106, some 107])),
  .inl (4, [.int 0, .int 0, .int 0, .int 0]),
  .inl (4, [.int 0, .int 0, .int 0, .int 0]),
  .inl (4, [.int 0, .int 0, .int 0, .int 0]),
  .inl (4, [.int 0, .int 0, .int 0, .int 0]),
  .inr (.inr (4, [some 109, some 111, some 113, some 115])),
  .inl (5, [.ref 110, .int 0, .int 0, .int 0]),
  .inr (.inl (0, List.replicate 6 0)),
  .inl (5, [.ref 112, .int 0, .int 0, .int 0])]
noncomputable def shB7 : MH := [.inr (.inl (0, List.replicate 6 0)),
  .inl (5, [.ref 114, .int 0, .int 0, .int 0]),
  .inr (.inl (0, List.replicate 6 0)),
  .inl (5, [.ref 116, .int 0, .int 0, .int 0]),
  .inr (.inl (0, List.replicate 6 0)),
  .inr (.inl (0, List.replicate 3 0)),
  .inr (.inl (0, List.replicate 3 0)),
  .inr (.inl (0, List.replicate 5 0)),
  .inr (.inr (6, [some 121, some 123, some 125, some 127])),
  .inl (8, [.ref 122, .int 0, .int 0]),
  .inr (.inl (0, List.replicate 40 0)),
  .inl (8, [.ref 124, .int 0, .int 0]),
  .inr (.inl (0, List.replicate 40 0)),
  .inl (8, [.ref 126, .int 0, .int 0]),
  .inr (.inl (0, List.replicate 40 0)),
  .inl (8, [.ref 128, .int 0, .int 0])]
noncomputable def shB8 : MH := [.inr (.inl (0, List.replicate 40 0)),
  .inl (9, [.ref 130, .ref 131, .ref 132, .int 0, .int 0, .ref 133, .int 0, .int 0, .int 0, .int 0, .int 0, .ref 134, .ref 135, .int 0, .int 0, .int 0, .int 0, .int 0, .int 0, .int 0, .int 0, .int 0, .int 0, .int 0, .ref 136, .long 0, .long 0, .long 0, .ref 137, .ref 138, .ref 139, .int 0, .ref 140]),
  .inr (.inl (0, List.replicate 240 0)),
  .inr (.inl (0, List.replicate 80 0)),
  .inr (.inl (1, List.replicate 2 0)),
  .inr (.inl (0, List.replicate 80 0)),
  .inr (.inl (0, List.replicate 4 0)),
  .inr (.inl (0, List.replicate 160 0)),
  .inr (.inl (0, List.replicate 5 0)),
  .inr (.inl (0, List.replicate 4 0)),
  .inr (.inl (0, List.replicate 4 0)),
  .inr (.inl (0, List.replicate 160 0)),
  .inr (.inl (0, List.replicate 80 0))]
noncomputable def sh0 : MH := shB0 ++ shB1 ++ shB2 ++ shB3 ++ shB4 ++ shB5 ++ shB6 ++ shB7 ++ shB8
end
section
/-! PARTIAL CORRECTNESS, I: what every run that ends comes to, over the cells -/
section PcA
variable {ro : Nat → Option MC} {n mi pc : Nat} {lv : LVs} {st : List Value} {F : MH} {Q Q2 : Option Value → MH → Prop}
/-- every run from here that ends, ends so -/
noncomputable def PF (ro : Nat → Option MC) (n mi pc : Nat) (lv : LVs) (st : List Value) (F : MH) (Q : Option Value → MH → Prop) : Prop := ∀ d z, ex tMT ro tFty tDfl n d mi F pc lv st = some z → Q z.1 z.2
theorem PF.zero : PF ro 0 mi pc lv st F Q := fun d z h => by cases h
theorem PF.weak (h : PF ro (n + 1) mi pc lv st F Q) : PF ro n mi pc lv st F Q := fun d z hx => h d z (ex_mono _ _ _ _ _ _ _ _ hx _ _ (Nat.le_succ n) (Nat.le_refl d))
theorem PF.imp (h : PF ro n mi pc lv st F Q) (hq : ∀ v F1, Q v F1 → Q2 v F1) : PF ro n mi pc lv st F Q2 := fun d z hx => hq _ _ (h d z hx)
theorem PF.one {E : MI × Option FieldType} {q : MS} (hE : m_at tMT mi pc = some E) (hq : m_one ro tFty tDfl E.1 F lv st = some q) (h : PF ro n mi q.2.1 q.2.2.1 q.2.2.2 q.1 Q) : PF ro (n + 1) mi pc lv st F Q := by
  intro d z hx
  rw [ex, hE] at hx
  simp only at hx
  rw [hq] at hx
  exact h d z hx
theorem PF.heap {E : MI × Option FieldType} (hE : m_at tMT mi pc = some E) (hv : m_ret E.2 E.1 st = none) (hi : m_inv ro F E.1 st = none) (h : ∀ q, m_one ro tFty tDfl E.1 F lv st = some q → PF ro n mi q.2.1 q.2.2.1 q.2.2.2 q.1 Q) : PF ro (n + 1) mi pc lv st F Q := by
  intro d z hx
  rw [ex, hE] at hx
  simp only at hx
  split at hx
  · rename_i q hq
    exact h q hq d z hx
  · rw [hv] at hx
    simp only at hx
    rw [hi] at hx
    cases hx
theorem PF.ret {E : MI × Option FieldType} (hE : m_at tMT mi pc = some E) (ho : m_one ro tFty tDfl E.1 F lv st = none) (hi : m_inv ro F E.1 st = none) (h : ∀ v, m_ret E.2 E.1 st = some v → Q v F) : PF ro (n + 1) mi pc lv st F Q := by
  intro d z hx
  rw [ex, hE] at hx
  simp only at hx
  rw [ho] at hx
  simp only at hx
  split at hx
  · rename_i v hv
    cases hx
    exact h v hv
  · rw [hi] at hx
    cases hx
theorem PF.call {E : MI × Option FieldType} {j : Nat} {args rest : List Value} (hE : m_at tMT mi pc = some E) (ho : m_one ro tFty tDfl E.1 F lv st = none) (hv : m_ret E.2 E.1 st = none) (hi : ∀ q, m_inv ro F E.1 st = some q → q = (j, args, rest)) (h9 : ¬ j = 9999) (h8 : ¬ j = 9998) (h : PF ro n j 0 (lv_args 0 args) [] F (fun v F1 => PF ro n mi (pc + 3) lv (v.toList ++ rest) F1 Q)) : PF ro (n + 1) mi pc lv st F Q := by
  intro d z hx
  rw [ex, hE] at hx
  simp only at hx
  rw [ho] at hx
  simp only at hx
  rw [hv] at hx
  simp only at hx
  split at hx
  · cases hx
  · rename_i q hq
    have e := hi q hq
    subst e
    simp only at hx
    rw [if_neg h9, if_neg h8] at hx
    split at hx
    · split at hx
      · cases hx
      · rename_i d'
        split at hx
        · cases hx
        · rename_i z1 hz
          exact h d' z1 hz (d' + 1) z hx
    · cases hx
/-- a step that hangs on locals and stack alone -/
noncomputable def m_pure (E : MI) (lv : LVs) (st : List Value) : Option (Nat × LVs × List Value) :=
  match m_push E lv with
  | some v => some (E.1 + E.2.2.1, lv, v :: st)
  | none => match m_cst E with
  | some v => some (E.1 + E.2.2.1, lv, v :: st)
  | none => match m_store E lv st with
  | some q => some (E.1 + E.2.2.1, q.1, q.2)
  | none => match m_alu E.2.1 st with
  | some st1 => some (E.1 + E.2.2.1, lv, st1)
  | none => match m_br E st with
  | some q => some (q.1, lv, q.2)
  | none => none
theorem pure_one {fty : Nat → Nat → FieldType} {dfl : Nat → List Value} {E : MI} {q : Nat × LVs × List Value} (h : m_pure E lv st = some q) (F : MH) : m_one ro fty dfl E F lv st = some (F, q.1, q.2.1, q.2.2) := by
  unfold m_pure at h
  unfold m_one
  split at h
  · rename_i h1; cases h; rw [h1]
  rename_i h1; rw [h1]; simp only
  split at h
  · rename_i h2; cases h; rw [h2]
  rename_i h2; rw [h2]; simp only
  split at h
  · rename_i h3; cases h; rw [h3]
  rename_i h3; rw [h3]; simp only
  split at h
  · rename_i h4; cases h; rw [h4]
  rename_i h4; rw [h4]; simp only
  split at h
  · rename_i h5; cases h; rw [h5]
  · cases h
/-- a row of such steps -/
noncomputable def m_pr : Nat → Nat → Nat → LVs → List Value → Option (Nat × LVs × List Value)
  | 0, _, pc, lv, st => some (pc, lv, st)
  | k + 1, mi, pc, lv, st => match t_at tT mi pc with
    | none => none
    | some E => match m_pure E.1 lv st with
      | none => none
      | some q => m_pr k mi q.1 q.2.1 q.2.2
theorem PF.pr : ∀ {k pc : Nat} {lv : LVs} {st : List Value} {pc' : Nat} {lv' : LVs} {st' : List Value}, m_pr k mi pc lv st = some (pc', lv', st') → PF ro n mi pc' lv' st' F Q → PF ro n mi pc lv st F Q
  | 0, pc, lv, st, pc', lv', st', h, hp => by cases h; exact hp
  | k + 1, pc, lv, st, pc', lv', st', h, hp => by
    rw [m_pr] at h
    split at h
    · cases h
    · rename_i E hE
      split at h
      · cases h
      · rename_i q hq
        exact (PF.one (n := n) (tT_ok _ _ _ hE) (pure_one hq F) (PF.pr h hp)).weak
theorem PF.pr1 {k pc : Nat} {lv : LVs} {st : List Value} {pc' : Nat} {lv' : LVs} {st' : List Value} (h : m_pr (k + 1) mi pc lv st = some (pc', lv', st')) (hp : PF ro n mi pc' lv' st' F Q) : PF ro (n + 1) mi pc lv st F Q := by
  rw [m_pr] at h
  split at h
  · cases h
  · rename_i E hE
    split at h
    · cases h
    · rename_i q hq
      exact PF.one (n := n) (tT_ok _ _ _ hE) (pure_one hq F) (PF.pr h hp)
end PcA
end
section
/-! PARTIAL CORRECTNESS, II: the shape of the cells, which stays; the ints in them -/
noncomputable def tByt : List (List Int32) := [[100, 111, 111, 114], [110, 111, 116], [112, 108, 97, 110], [112, 108, 97, 105, 110], [112, 114, 105, 101, 115, 116], [109, 105, 115, 101, 114], [115, 112, 121]]
noncomputable def tRo (xl : List Int32) (k : Nat) : Option MC := if k = 0 then some (.inr (.inl (0, xl))) else if k ≤ 14 then (if k % 2 = 1 then some (.inl (99, [.ref (KB + (k + 1)), .int 0])) else some (.inr (.inl (2, tByt.getD (k / 2 - 1) [])))) else none
noncomputable def zv (v : Value) : Value := match v with
  | .int _ => .int 0
  | .long _ => .long 0
  | w => w
noncomputable def zc (c : MC) : MC := match c with
  | .inl o => .inl (o.1, o.2.map zv)
  | .inr (.inl q) => .inr (.inl (q.1, q.2.map (fun _ => 0)))
  | .inr (.inr q) => .inr (.inr q)
/-- the ints: address, place -/
abbrev IS : Type := Nat → Nat → Int32
noncomputable def iv (F : MH) : IS := fun a j => match F[a]? with
  | some (.inl o) => (match o.2[j]? with | some (.int x) => x | _ => 0)
  | some (.inr (.inl q)) => q.2.getD j 0
  | _ => 0
noncomputable def up (ι : IS) (a j : Nat) (x : Int32) : IS := fun b k => if b = a ∧ k = j then x else ι b k
theorem up_same (ι : IS) (a j : Nat) (x : Int32) : up ι a j x a j = x := by simp [up]
theorem up_ne {ι : IS} {a j b k : Nat} {x : Int32} (h : ¬ (b = a ∧ k = j)) : up ι a j x b k = ι b k := by simp only [up, if_neg h]
/-- references, lengths of rows, references in rows: by the shape -/
noncomputable def rf (a j : Nat) : Nat := match sh0[a]? with
  | some (.inl o) => (match o.2[j]? with | some (.ref p) => p | _ => 0)
  | _ => 0
noncomputable def ln (a : Nat) : Nat := match sh0[a]? with
  | some (.inr (.inl q)) => q.2.length
  | _ => 0
noncomputable def re (a j : Nat) : Nat := match sh0[a]? with
  | some (.inr (.inr q)) => (q.2.getD j none).getD 0
  | _ => 0
noncomputable def lr (a : Nat) : Nat := match sh0[a]? with
  | some (.inr (.inr q)) => q.2.length
  | _ => 0
noncomputable def kindT (ty : FieldType) : Nat := match ty with
  | .int => 0
  | .boolean => 0
  | .long => 1
  | .object _ => 2
  | .array _ => 2
  | _ => 9
noncomputable def tyB (c : MC) : Bool := match c with
  | .inl o => (List.range o.2.length).all (fun j => match o.2[j]? with
    | some (.int _) => kindT (tFty o.1 j) == 0
    | some (.long _) => kindT (tFty o.1 j) == 1
    | some (.ref p) => kindT (tFty o.1 j) == 2 && decide (p < KB)
    | _ => false)
  | .inr (.inl _) => true
  | .inr (.inr q) => q.2.all (fun o => match o with | some p => decide (p < KB) | none => false)
set_option maxRecDepth 100000 in
theorem tyB_ok : sh0.all tyB = true := by decide +kernel
section PcB
variable {F : MH} {a j : Nat} {c : MC}
theorem sh_get (hs : F.map zc = sh0) (h : F[a]? = some c) : sh0[a]? = some (zc c) := by
  rw [← hs, List.getElem?_map, h]; rfl
theorem sh_ty (hs : F.map zc = sh0) (h : F[a]? = some c) : tyB (zc c) = true := List.all_eq_true.mp tyB_ok _ (List.mem_of_getElem? (sh_get hs h))
theorem sh_fld (hs : F.map zc = sh0) {ci : Nat} {fs : List Value} {v : Value} (h : F[a]? = some (.inl (ci, fs))) (hv : fs[j]? = some v) : (kindT (tFty ci j) = 0 → v = .int (iv F a j)) ∧ (kindT (tFty ci j) = 1 → ∃ x, v = .long x) ∧ (kindT (tFty ci j) = 2 → v = .ref (rf a j) ∧ rf a j < KB) := by
  have h1 := sh_ty hs h
  have hl : j < fs.length := (List.getElem?_eq_some_iff.mp hv).1
  have h2 := List.all_eq_true.mp h1 j (List.mem_range.mpr (by simpa using hl))
  have h3 : ((fs.map zv)[j]?) = some (zv v) := by rw [List.getElem?_map, hv]; rfl
  simp only [zc] at h2
  rw [h3] at h2
  have h4 : rf a j = (match (fs.map zv)[j]? with | some (.ref p) => p | _ => 0) := by
    unfold rf; rw [sh_get hs h]; rfl
  rw [h3] at h4
  have h5 : iv F a j = (match fs[j]? with | some (.int x) => x | _ => 0) := by
    unfold iv; rw [h]
  rw [hv] at h5
  cases v <;> simp only [zv] at h2 h4 h5 <;> (try (cases h2; done))
  · simp only [beq_iff_eq] at h2
    exact ⟨fun _ => by rw [h5], fun h => by omega, fun h => by omega⟩
  · simp only [beq_iff_eq] at h2
    exact ⟨fun h => by omega, fun _ => ⟨_, rfl⟩, fun h => by omega⟩
  · simp only [Bool.and_eq_true, beq_iff_eq, decide_eq_true_eq] at h2
    exact ⟨fun h => by omega, fun h => by omega, fun _ => ⟨by rw [h4], by rw [h4]; exact h2.2⟩⟩
theorem sh_row (hs : F.map zc = sh0) {q : Nat × List Int32} (h : F[a]? = some (.inr (.inl q))) : q.2.length = ln a ∧ ∀ k, q.2.getD k 0 = iv F a k := by
  refine ⟨?_, fun k => ?_⟩
  · unfold ln; rw [sh_get hs h]; simp [zc]
  · unfold iv; rw [h]
theorem sh_ref (hs : F.map zc = sh0) {q : Nat × List (Option Nat)} (h : F[a]? = some (.inr (.inr q))) : q.2.length = lr a ∧ ∀ k, k < q.2.length → q.2.getD k none = some (re a k) ∧ re a k < KB := by
  have h1 := sh_ty hs h
  have h2 := sh_get hs h
  refine ⟨?_, fun k hk => ?_⟩
  · unfold lr; rw [h2]; rfl
  · have h3 : re a k = (q.2.getD k none).getD 0 := by unfold re; rw [h2]; rfl
    simp only [zc, tyB] at h1
    have h4 : q.2[k] ∈ q.2 := List.getElem_mem hk
    have h5 := List.all_eq_true.mp h1 _ h4
    have h6 : q.2.getD k none = q.2[k] := by simp [hk]
    rw [h6] at h3 ⊢
    cases hq : q.2[k] with
    | none => rw [hq] at h5; cases h5
    | some p =>
      rw [hq] at h5 h3
      simp only [Option.getD_some] at h3
      rw [h3]
      exact ⟨rfl, of_decide_eq_true h5⟩
theorem iv_setO {ci : Nat} {fs : List Value} {x : Int32} (h : F[a]? = some (.inl (ci, fs))) (hj : j < fs.length) : iv (F.set a (.inl (ci, fs.set j (.int x)))) = up (iv F) a j x := by
  have ha : a < F.length := (List.getElem?_eq_some_iff.mp h).1
  funext b k
  simp only [iv, up]
  by_cases hb : b = a
  · subst hb
    rw [List.getElem?_set_self ha, h]
    simp only [true_and]
    by_cases hk : k = j
    · subst hk
      rw [List.getElem?_set_self hj, if_pos rfl]
    · rw [List.getElem?_set_ne (fun e => hk e.symm), if_neg hk]
  · rw [List.getElem?_set_ne (fun e => hb e.symm), if_neg (fun e => hb e.1)]
theorem iv_setR {k : Nat} {xs : List Int32} {x : Int32} (h : F[a]? = some (.inr (.inl (k, xs)))) (hj : j < xs.length) : iv (F.set a (.inr (.inl (k, xs.set j x)))) = up (iv F) a j x := by
  have ha : a < F.length := (List.getElem?_eq_some_iff.mp h).1
  funext b i
  simp only [iv, up]
  by_cases hb : b = a
  · subst hb
    rw [List.getElem?_set_self ha, h]
    simp only [true_and]
    by_cases hk : i = j
    · subst hk
      rw [if_pos rfl, List.getD_eq_getElem?_getD, List.getElem?_set_self hj]; rfl
    · rw [if_neg hk, List.getD_eq_getElem?_getD, List.getD_eq_getElem?_getD, List.getElem?_set_ne (fun e => hk e.symm)]
  · rw [List.getElem?_set_ne (fun e => hb e.symm), if_neg (fun e => hb e.1)]
theorem map_set_same {F : MH} {a : Nat} {c c2 : MC} (h : F[a]? = some c) (hz : zc c2 = zc c) : (F.set a c2).map zc = F.map zc := by
  apply List.ext_getElem?
  intro i
  rw [List.getElem?_map, List.getElem?_map]
  by_cases hi : i = a
  · subst hi
    rw [List.getElem?_set_self (List.getElem?_eq_some_iff.mp h).1, h]
    simp [hz]
  · rw [List.getElem?_set_ne (fun e => hi e.symm)]
theorem zc_setO {ci : Nat} {fs : List Value} {x y : Int32} (hj : fs[j]? = some (.int y)) : zc (.inl (ci, fs.set j (.int x))) = zc (.inl (ci, fs)) := by
  have : (fs.set j (.int x)).map zv = fs.map zv := by
    apply List.ext_getElem?
    intro i
    rw [List.getElem?_map, List.getElem?_map]
    by_cases hi : i = j
    · subst hi
      rw [List.getElem?_set_self (List.getElem?_eq_some_iff.mp hj).1, hj]; rfl
    · rw [List.getElem?_set_ne (fun e => hi e.symm)]
  simp only [zc, this]
theorem zc_setJ {ci : Nat} {fs : List Value} {x y : Int64} (hj : fs[j]? = some (.long y)) : zc (.inl (ci, fs.set j (.long x))) = zc (.inl (ci, fs)) := by
  have : (fs.set j (.long x)).map zv = fs.map zv := by
    apply List.ext_getElem?
    intro i
    rw [List.getElem?_map, List.getElem?_map]
    by_cases hi : i = j
    · subst hi
      rw [List.getElem?_set_self (List.getElem?_eq_some_iff.mp hj).1, hj]; rfl
    · rw [List.getElem?_set_ne (fun e => hi e.symm)]
  simp only [zc, this]
theorem zc_setR {k : Nat} {xs : List Int32} {x : Int32} : zc (.inr (.inl (k, xs.set j x))) = zc (.inr (.inl (k, xs))) := by
  have : (xs.set j x).map (fun _ => (0 : Int32)) = xs.map (fun _ => (0 : Int32)) := by
    apply List.ext_getElem?
    intro i
    rw [List.getElem?_map, List.getElem?_map]
    by_cases hi : i = j
    · subst hi
      by_cases hl : i < xs.length
      · rw [List.getElem?_set_self hl]; simp [hl]
      · rw [List.getElem?_eq_none (by simpa using hl), List.getElem?_eq_none (by omega)]
    · rw [List.getElem?_set_ne (fun e => hi e.symm)]
  simp only [zc, this]
/-- instructions that leave the shape as it is -/
noncomputable def okS1 (E : MI) : Bool := match E.2.1 with
  | .new _ => false
  | .newarray _ => false
  | .anewarray _ => false
  | .aastore => false
  | .putfield _ => kindT (tFty E.2.2.2.1 E.2.2.2.2.1) == 0 || kindT (tFty E.2.2.2.1 E.2.2.2.2.1) == 1
  | _ => true
noncomputable def sP (mi : Nat) : Bool := match tMT[mi]? with | some M => M.2.2.2.2.all okS1 | none => false
noncomputable def ivI (i : Instr) : Bool := match i with | .invokestatic _ => true | .invokespecial _ => true | .invokevirtual _ => true | _ => false
noncomputable def sTg (E : MI) : Bool := !(ivI E.2.1) || (E.2.2.2.1 == 9999 || (E.2.2.2.1 == 9998 || sP E.2.2.2.1))
set_option maxRecDepth 100000 in
theorem sP_all : tMT.all (fun M => !(M.2.2.2.2.all okS1) || M.2.2.2.2.all sTg) = true := by decide +kernel
theorem fits_int {ty : FieldType} {v : Value} (hk : kindT ty = 0) (h : fits ty v = true) : ∃ x, v = .int x := by
  cases ty <;> simp only [kindT] at hk <;> (try omega) <;> cases v <;> first | exact ⟨_, rfl⟩ | (cases h; done)
theorem fits_long {ty : FieldType} {v : Value} (hk : kindT ty = 1) (h : fits ty v = true) : ∃ x, v = .long x := by
  cases ty <;> simp only [kindT] at hk <;> (try omega) <;> cases v <;> first | exact ⟨_, rfl⟩ | (cases h; done)
theorem wr_sh {E : MI} {st : List Value} {q : MH × List Value} (hs : F.map zc = sh0) (ho : okS1 E = true) (h : m_wr tFty tDfl F E st = some q) : q.1.map zc = sh0 := by
  unfold m_wr at h
  split at h
  · rename_i he
    unfold okS1 at ho
    rw [he] at ho
    simp only [Bool.or_eq_true, beq_iff_eq] at ho
    split at h
    · split at h
      · rename_i ci fs hc
        split at h
        · rename_i v a r hw
          cases h
          obtain ⟨hw1, hw2, hw3, hw4, hw5⟩ := hw
          subst hw2
          have hold : ∃ v, fs[E.2.2.2.2.1]? = some v := ⟨_, List.getElem?_eq_getElem hw3⟩
          obtain ⟨v0, hv0⟩ := hold
          have hf := sh_fld hs hc hv0
          rw [← hs]
          rcases ho with hk | hk
          · obtain ⟨x, rfl⟩ := fits_int hk hw5
            have e0 := hf.1 hk
            subst e0
            exact map_set_same hc (zc_setO hv0)
          · obtain ⟨x, rfl⟩ := fits_long hk hw5
            obtain ⟨y, e0⟩ := hf.2.1 hk
            subst e0
            exact map_set_same hc (zc_setJ hv0)
        · cases h
      · cases h
    · cases h
  · split at h
    · split at h
      · rename_i hc
        split at h
        · cases h
          rw [← hs]
          exact map_set_same hc zc_setR
        · cases h
      · cases h
    · cases h
  · split at h
    · split at h
      · rename_i hc
        split at h
        · cases h
          rw [← hs]
          exact map_set_same hc zc_setR
        · cases h
      · cases h
    · cases h
  · rename_i he; unfold okS1 at ho; rw [he] at ho; cases ho
  · rename_i he; unfold okS1 at ho; rw [he] at ho; cases ho
  · rename_i he; unfold okS1 at ho; rw [he] at ho; cases ho
  · rename_i he; unfold okS1 at ho; rw [he] at ho; cases ho
  · cases h
theorem one_sh {ro : Nat → Option MC} {E : MI} {lv : LVs} {st : List Value} {q : MS} (hs : F.map zc = sh0) (ho : okS1 E = true) (h : m_one ro tFty tDfl E F lv st = some q) : q.1.map zc = sh0 := by
  unfold m_one at h
  split at h
  · cases h; exact hs
  split at h
  · cases h; exact hs
  split at h
  · cases h; exact hs
  split at h
  · cases h; exact hs
  split at h
  · cases h; exact hs
  split at h
  · cases h; exact hs
  split at h
  · rename_i hw
    cases h
    exact wr_sh hs ho hw
  · cases h
theorem inv_q {ro : Nat → Option MC} {E : MI} {st : List Value} {q : Nat × List Value × List Value} (h : m_inv ro F E st = some q) : q = (E.2.2.2.1, (st.take E.2.2.2.2.1).reverse, st.drop E.2.2.2.2.1) ∧ ivI E.2.1 = true := by
  have iv : ∀ f, m_iv E st f = some q → q = (E.2.2.2.1, (st.take E.2.2.2.2.1).reverse, st.drop E.2.2.2.2.1) := by
    intro f h
    unfold m_iv at h
    split at h
    · split at h
      · rename_i he
        split at h
        · cases h; rw [he]
        · cases h
      · cases h
    · cases h
  unfold m_inv at h
  split at h
  · rename_i he
    split at h
    · cases h; exact ⟨rfl, by rw [he]; rfl⟩
    · cases h
  · rename_i he; exact ⟨iv _ h, by rw [he]; rfl⟩
  · rename_i he; exact ⟨iv _ h, by rw [he]; rfl⟩
  · cases h
theorem at_mem {mi pc : Nat} {E : MI × Option FieldType} (h : m_at tMT mi pc = some E) : ∃ M, tMT[mi]? = some M ∧ E.1 ∈ M.2.2.2.2 ∧ E.2 = M.2.2.2.1 := by
  unfold m_at at h
  split at h
  · rename_i M hM
    obtain ⟨E0, hf, rfl⟩ := Option.map_eq_some_iff.mp h
    exact ⟨M, hM, List.mem_of_find?_eq_some hf, rfl⟩
  · cases h
/-- the shape stays -/
theorem ex_sh {ro : Nat → Option MC} : ∀ (n d mi : Nat) (F : MH) (pc : Nat) (lv : LVs) (st : List Value) (z : Option Value × MH), sP mi = true → F.map zc = sh0 → ex tMT ro tFty tDfl n d mi F pc lv st = some z → z.2.map zc = sh0 := by
  intro n
  induction n with
  | zero => intro d mi F pc lv st z _ _ h; cases h
  | succ n ih =>
    intro d mi F pc lv st z hp hs h
    rw [ex] at h
    split at h
    · cases h
    · rename_i E hE
      obtain ⟨M, hM, hm, -⟩ := at_mem hE
      have hall : M.2.2.2.2.all okS1 = true := by unfold sP at hp; rw [hM] at hp; exact hp
      have ho := List.all_eq_true.mp hall _ hm
      have ht := List.all_eq_true.mp sP_all M (List.mem_of_getElem? hM)
      rw [hall] at ht
      simp only [Bool.not_true, Bool.false_or] at ht
      have ht := List.all_eq_true.mp ht _ hm
      split at h
      · rename_i q hq
        exact ih _ _ _ _ _ _ _ hp (one_sh hs ho hq) h
      · split at h
        · cases h; exact hs
        · split at h
          · cases h
          · rename_i q hi
            obtain ⟨hq, hI⟩ := inv_q hi
            unfold sTg at ht
            rw [hI] at ht
            simp only [Bool.not_true, Bool.false_or, Bool.or_eq_true, beq_iff_eq] at ht
            have hq1 : q.1 = E.1.2.2.2.1 := by rw [hq]
            rw [← hq1] at ht
            split at h
            · split at h
              · split at h
                · exact ih _ _ _ _ _ _ _ hp hs h
                · cases h
              · cases h
            · rename_i h9
              split at h
              · split at h
                · exact ih _ _ _ _ _ _ _ hp hs h
                · cases h
              · rename_i h8
                split at h
                · split at h
                  · cases h
                  · split at h
                    · cases h
                    · rename_i z1 hz1
                      exact ih _ _ _ _ _ _ _ hp (ih _ _ _ _ _ _ _ ((ht.resolve_left h9).resolve_left h8) hs hz1) h
                · cases h
end PcB
end
section
/-! PARTIAL CORRECTNESS, III: over the ints; a rule an instruction -/
section PcC
variable {xl : List Int32} {n mi pc : Nat} {lv : LVs} {st r : List Value} {ι κ : IS} {Q Q2 : Option Value → IS → Prop} {rt : Option FieldType} {a : Nat} {x y i : Int32}
/-- every run from here, over cells of the shape with these ints, that ends, ends so -/
noncomputable def PC (xl : List Int32) (n mi pc : Nat) (lv : LVs) (st : List Value) (ι : IS) (Q : Option Value → IS → Prop) : Prop := ∀ F, F.map zc = sh0 → iv F = ι → PF (tRo xl) n mi pc lv st F (fun v F1 => Q v (iv F1))
theorem PC.zero : PC xl 0 mi pc lv st ι Q := fun _ _ _ => PF.zero
theorem PC.weak (h : PC xl (n + 1) mi pc lv st ι Q) : PC xl n mi pc lv st ι Q := fun F hs hi => (h F hs hi).weak
theorem PC.imp (h : PC xl n mi pc lv st ι Q) (hq : ∀ v κ, Q v κ → Q2 v κ) : PC xl n mi pc lv st ι Q2 := fun F hs hi => (h F hs hi).imp fun v F1 q => hq v (iv F1) q
theorem PC.swap {n2 mi2 pc2 : Nat} {lv2 : LVs} {st2 : List Value} {P : Option Value → IS → Option Value → IS → Prop} (h : PC xl n mi pc lv st ι (fun v1 κ1 => PC xl n2 mi2 pc2 lv2 st2 κ (fun v2 κ2 => P v1 κ1 v2 κ2))) : PC xl n2 mi2 pc2 lv2 st2 κ (fun v2 κ2 => PC xl n mi pc lv st ι (fun v1 κ1 => P v1 κ1 v2 κ2)) :=
  fun F2 s2 i2 d2 z2 x2 F1 s1 i1 d1 z1 x1 => h F1 s1 i1 d1 z1 x1 F2 s2 i2 d2 z2 x2
theorem PC.le {m : Nat} (h : PC xl m mi pc lv st ι Q) (hm : n ≤ m) : PC xl n mi pc lv st ι Q := by
  induction m with
  | zero => rw [Nat.le_zero.mp hm]; exact h
  | succ m ih =>
    by_cases e : n = m + 1
    · rw [e]; exact h
    · exact ih h.weak (by omega)
theorem PC.pr {k pc' : Nat} {lv' : LVs} {st' : List Value} (hk : m_pr k mi pc lv st = some (pc', lv', st')) (h : PC xl n mi pc' lv' st' ι Q) : PC xl n mi pc lv st ι Q := fun F hs hi => PF.pr hk (h F hs hi)
theorem PC.pr1 {k pc' : Nat} {lv' : LVs} {st' : List Value} (hk : m_pr (k + 1) mi pc lv st = some (pc', lv', st')) (h : PC xl n mi pc' lv' st' ι Q) : PC xl (n + 1) mi pc lv st ι Q := fun F hs hi => PF.pr1 hk (h F hs hi)
theorem tRo_obj {k c : Nat} {fs : List Value} (h : tRo xl k = some (.inl (c, fs))) : c = 99 := by
  unfold tRo at h
  split at h
  · cases h
  · split at h
    · split at h
      · cases h; rfl
      · cases h
    · cases h
theorem PC.gI {k ci j : Nat} {z : Int} (hE : t_at tT mi pc = some ((pc, .getfield k, 3, ci, j, z), rt)) (hk : kindT (tFty ci j) = 0) (hc : ¬ ci = 99) (h : PC xl n mi (pc + 3) lv (.int (ι a j) :: r) ι Q) : PC xl n mi pc lv (.ref a :: r) ι Q := by
  intro F hs hi
  refine (PF.heap (n := n) (tT_ok _ _ _ hE) rfl rfl ?_).weak
  intro q hq
  have hq : (match m_rd (tRo xl) F (pc, .getfield k, 3, ci, j, z) (.ref a :: r) with | some st1 => some (F, pc + 3, lv, st1) | none => none) = some q := hq
  split at hq
  · rename_i st1 h1
    cases hq
    simp only [m_rd] at h1
    split at h1
    · rename_i c fs hcell
      split at h1
      · rename_i hci
        split at h1
        · rename_i v hv
          cases h1
          unfold m_cell at hcell
          split at hcell
          · subst hci
            have e := (sh_fld hs hcell hv).1 hk
            subst e
            rw [hi]
            exact h F hs hi
          · exact absurd (hci ▸ tRo_obj hcell) hc
        · cases h1
      · cases h1
    · cases h1
  · cases hq
theorem PC.gR {k ci j : Nat} {z : Int} (hE : t_at tT mi pc = some ((pc, .getfield k, 3, ci, j, z), rt)) (hk : kindT (tFty ci j) = 2) (hc : ¬ ci = 99) (h : PC xl n mi (pc + 3) lv (.ref (rf a j) :: r) ι Q) : PC xl n mi pc lv (.ref a :: r) ι Q := by
  intro F hs hi
  refine (PF.heap (n := n) (tT_ok _ _ _ hE) rfl rfl ?_).weak
  intro q hq
  have hq : (match m_rd (tRo xl) F (pc, .getfield k, 3, ci, j, z) (.ref a :: r) with | some st1 => some (F, pc + 3, lv, st1) | none => none) = some q := hq
  split at hq
  · rename_i st1 h1
    cases hq
    simp only [m_rd] at h1
    split at h1
    · rename_i c fs hcell
      split at h1
      · rename_i hci
        split at h1
        · rename_i v hv
          cases h1
          unfold m_cell at hcell
          split at hcell
          · subst hci
            have e := ((sh_fld hs hcell hv).2.2 hk).1
            subst e
            exact h F hs hi
          · exact absurd (hci ▸ tRo_obj hcell) hc
        · cases h1
      · cases h1
    · cases h1
  · cases hq
theorem in_ok {i : Int32} {l : Nat} (h : m_in i l = true) : 0 ≤ i.toInt ∧ i.toInt < l ∧ i.toNatClampNeg < l := by
  have h1 : 0 ≤ i.toInt ∧ i.toInt < l := of_decide_eq_true h
  refine ⟨h1.1, h1.2, ?_⟩
  have : i.toNatClampNeg = i.toInt.toNat := rfl
  omega
theorem PC.rd {z1 z2 : Nat} {z : Int} (hE : t_at tT mi pc = some ((pc, .iaload, 1, z1, z2, z), rt)) (ha : a < KB) (h : 0 ≤ i.toInt → i.toInt < ln a → PC xl n mi (pc + 1) lv (.int (ι a i.toNatClampNeg) :: r) ι Q) : PC xl n mi pc lv (.int i :: .ref a :: r) ι Q := by
  intro F hs hi
  refine (PF.heap (n := n) (tT_ok _ _ _ hE) rfl rfl ?_).weak
  intro q hq
  have hq : (match m_rd (tRo xl) F (pc, .iaload, 1, z1, z2, z) (.int i :: .ref a :: r) with | some st1 => some (F, pc + 1, lv, st1) | none => none) = some q := hq
  split at hq
  · rename_i st1 h1
    cases hq
    simp only [m_rd] at h1
    split at h1
    · rename_i k xs hcell
      split at h1
      · rename_i hw
        cases h1
        unfold m_cell at hcell
        rw [if_pos ha] at hcell
        obtain ⟨e1, e2⟩ := sh_row hs hcell
        have hl := in_ok hw.2
        simp only at e1 e2
        rw [e2, hi]
        exact h hl.1 (by rw [← e1]; exact hl.2.1) F hs hi
      · cases h1
    · cases h1
  · cases hq
theorem PC.ba {z1 z2 : Nat} {z : Int} (hE : t_at tT mi pc = some ((pc, .baload, 1, z1, z2, z), rt)) (ha : a < KB) (h : 0 ≤ i.toInt → i.toInt < ln a → PC xl n mi (pc + 1) lv (.int (ι a i.toNatClampNeg) :: r) ι Q) : PC xl n mi pc lv (.int i :: .ref a :: r) ι Q := by
  intro F hs hi
  refine (PF.heap (n := n) (tT_ok _ _ _ hE) rfl rfl ?_).weak
  intro q hq
  have hq : (match m_rd (tRo xl) F (pc, .baload, 1, z1, z2, z) (.int i :: .ref a :: r) with | some st1 => some (F, pc + 1, lv, st1) | none => none) = some q := hq
  split at hq
  · rename_i st1 h1
    cases hq
    simp only [m_rd] at h1
    split at h1
    · rename_i k xs hcell
      split at h1
      · rename_i hw
        cases h1
        unfold m_cell at hcell
        rw [if_pos ha] at hcell
        obtain ⟨e1, e2⟩ := sh_row hs hcell
        have hl := in_ok hw.2
        simp only at e1 e2
        rw [e2, hi]
        exact h hl.1 (by rw [← e1]; exact hl.2.1) F hs hi
      · cases h1
    · cases h1
  · cases hq
theorem PC.ra {z1 z2 : Nat} {z : Int} (hE : t_at tT mi pc = some ((pc, .aaload, 1, z1, z2, z), rt)) (h : 0 ≤ i.toInt → i.toInt < lr a → PC xl n mi (pc + 1) lv (.ref (re a i.toNatClampNeg) :: r) ι Q) : PC xl n mi pc lv (.int i :: .ref a :: r) ι Q := by
  intro F hs hi
  refine (PF.heap (n := n) (tT_ok _ _ _ hE) rfl rfl ?_).weak
  intro q hq
  have hq : (match m_rd (tRo xl) F (pc, .aaload, 1, z1, z2, z) (.int i :: .ref a :: r) with | some st1 => some (F, pc + 1, lv, st1) | none => none) = some q := hq
  split at hq
  · rename_i st1 h1
    cases hq
    simp only [m_rd] at h1
    split at h1
    · rename_i k os hcell
      split at h1
      · rename_i hw
        cases h1
        unfold m_cell at hcell
        rw [if_pos hw.1] at hcell
        obtain ⟨e1, e2⟩ := sh_ref hs hcell
        have hl := in_ok hw.2.2.2
        simp only at e1 e2
        rw [(e2 _ hl.2.2).1]
        exact h hl.1 (by rw [← e1]; exact hl.2.1) F hs hi
      · cases h1
    · cases h1
  · cases hq
theorem PC.pI {k ci j : Nat} {z : Int} (hE : t_at tT mi pc = some ((pc, .putfield k, 3, ci, j, z), rt)) (hk : kindT (tFty ci j) = 0) (h : PC xl n mi (pc + 3) lv r (up ι a j x) Q) : PC xl n mi pc lv (.int x :: .ref a :: r) ι Q := by
  intro F hs hi
  refine (PF.heap (n := n) (tT_ok _ _ _ hE) rfl rfl ?_).weak
  intro q hq
  have hq : (match m_wr tFty tDfl F (pc, .putfield k, 3, ci, j, z) (.int x :: .ref a :: r) with | some q => some (q.1, pc + 3, lv, q.2) | none => none) = some q := hq
  split at hq
  · rename_i q1 h1
    cases hq
    have hsh := wr_sh hs (E := (pc, .putfield k, 3, ci, j, z)) (by simp [okS1, hk]) h1
    simp only [m_wr] at h1
    split at h1
    · rename_i c fs hcell
      split at h1
      · rename_i hw
        cases h1
        obtain ⟨hw1, hw2, hw3, -, -⟩ := hw
        refine h _ hsh ?_
        rw [iv_setO hcell hw3, hi]
      · cases h1
    · cases h1
  · cases hq
theorem PC.wI {z1 z2 : Nat} {z : Int} (hE : t_at tT mi pc = some ((pc, .iastore, 1, z1, z2, z), rt)) (h : 0 ≤ i.toInt → i.toInt < ln a → PC xl n mi (pc + 1) lv r (up ι a i.toNatClampNeg x) Q) : PC xl n mi pc lv (.int x :: .int i :: .ref a :: r) ι Q := by
  intro F hs hi
  refine (PF.heap (n := n) (tT_ok _ _ _ hE) rfl rfl ?_).weak
  intro q hq
  have hq : (match m_wr tFty tDfl F (pc, .iastore, 1, z1, z2, z) (.int x :: .int i :: .ref a :: r) with | some q => some (q.1, pc + 1, lv, q.2) | none => none) = some q := hq
  split at hq
  · rename_i q1 h1
    cases hq
    have hsh := wr_sh hs (E := (pc, .iastore, 1, z1, z2, z)) rfl h1
    simp only [m_wr] at h1
    split at h1
    · rename_i c fs hcell
      split at h1
      · rename_i hw
        cases h1
        have hl := in_ok hw.2.2
        refine h hl.1 (by rw [← (sh_row hs hcell).1]; exact hl.2.1) _ hsh ?_
        rw [iv_setR hcell hl.2.2, hi]
      · cases h1
    · cases h1
  · cases hq
theorem PC.wB {z1 z2 : Nat} {z : Int} (hE : t_at tT mi pc = some ((pc, .bastore, 1, z1, z2, z), rt)) (h : 0 ≤ i.toInt → i.toInt < ln a → PC xl n mi (pc + 1) lv r (up ι a i.toNatClampNeg (vp_nar .boolean x)) Q) : PC xl n mi pc lv (.int x :: .int i :: .ref a :: r) ι Q := by
  intro F hs hi
  refine (PF.heap (n := n) (tT_ok _ _ _ hE) rfl rfl ?_).weak
  intro q hq
  have hq : (match m_wr tFty tDfl F (pc, .bastore, 1, z1, z2, z) (.int x :: .int i :: .ref a :: r) with | some q => some (q.1, pc + 1, lv, q.2) | none => none) = some q := hq
  split at hq
  · rename_i q1 h1
    cases hq
    have hsh := wr_sh hs (E := (pc, .bastore, 1, z1, z2, z)) rfl h1
    simp only [m_wr] at h1
    split at h1
    · rename_i c fs hcell
      split at h1
      · rename_i hw
        cases h1
        have hl := in_ok hw.2.2
        refine h hl.1 (by rw [← (sh_row hs hcell).1]; exact hl.2.1) _ hsh ?_
        rw [iv_setR hcell hl.2.2, hi]
      · cases h1
    · cases h1
  · cases hq
/-- a branch on one int -/
theorem PC.if1 {c : ClassFile.Cond} {off : Int} {z1 z2 t : Nat} {z : Int} (hE : t_at tT mi pc = some ((pc, .ifCond c off, 3, z1, z2, z), rt)) (ht : m_to pc off = some t) (h1 : m_cmp c x 0 = true → PC xl n mi t lv r ι Q) (h2 : m_cmp c x 0 = false → PC xl n mi (pc + 3) lv r ι Q) : PC xl n mi pc lv (.int x :: r) ι Q := by
  intro F hs hi
  have hm : m_one (tRo xl) tFty tDfl (pc, .ifCond c off, 3, z1, z2, z) F lv (.int x :: r) = some (F, if m_cmp c x 0 = true then t else pc + 3, lv, r) := by
    show (match (m_to pc off).map (fun t => (if m_cmp c x 0 = true then t else pc + 3, r)) with | some q => some (F, q.1, lv, q.2) | none => _) = _
    rw [ht]; rfl
  refine (PF.one (n := n) (tT_ok _ _ _ hE) hm ?_).weak
  simp only
  cases hb : m_cmp c x 0 with
  | true => rw [if_pos rfl]; exact h1 hb F hs hi
  | false => rw [if_neg (by simp)]; exact h2 hb F hs hi
/-- a branch on two ints -/
theorem PC.if2 {c : ClassFile.Cond} {off : Int} {z1 z2 t : Nat} {z : Int} (hE : t_at tT mi pc = some ((pc, .if_icmp c off, 3, z1, z2, z), rt)) (ht : m_to pc off = some t) (h1 : m_cmp c x y = true → PC xl n mi t lv r ι Q) (h2 : m_cmp c x y = false → PC xl n mi (pc + 3) lv r ι Q) : PC xl n mi pc lv (.int y :: .int x :: r) ι Q := by
  intro F hs hi
  have hm : m_one (tRo xl) tFty tDfl (pc, .if_icmp c off, 3, z1, z2, z) F lv (.int y :: .int x :: r) = some (F, if m_cmp c x y = true then t else pc + 3, lv, r) := by
    show (match (m_to pc off).map (fun t => (if m_cmp c x y = true then t else pc + 3, r)) with | some q => some (F, q.1, lv, q.2) | none => _) = _
    rw [ht]; rfl
  refine (PF.one (n := n) (tT_ok _ _ _ hE) hm ?_).weak
  simp only
  cases hb : m_cmp c x y with
  | true => rw [if_pos rfl]; exact h1 hb F hs hi
  | false => rw [if_neg (by simp)]; exact h2 hb F hs hi
theorem cmp_eq : (m_cmp .eq x y = true ↔ x = y) ∧ (m_cmp .eq x y = false ↔ ¬ x = y) := by simp [m_cmp]
theorem cmp_ne : (m_cmp .ne x y = true ↔ ¬ x = y) ∧ (m_cmp .ne x y = false ↔ x = y) := by simp [m_cmp]
theorem cmp_lt : (m_cmp .lt x y = true ↔ x < y) ∧ (m_cmp .lt x y = false ↔ ¬ x < y) := by simp [m_cmp]
theorem cmp_ge : (m_cmp .ge x y = true ↔ ¬ x < y) ∧ (m_cmp .ge x y = false ↔ x < y) := by simp [m_cmp, Int32.not_le]
theorem cmp_gt : (m_cmp .gt x y = true ↔ y < x) ∧ (m_cmp .gt x y = false ↔ ¬ y < x) := by simp [m_cmp]
theorem cmp_le : (m_cmp .le x y = true ↔ ¬ y < x) ∧ (m_cmp .le x y = false ↔ y < x) := by simp [m_cmp, Int32.not_le]
theorem PC.retI {z1 z2 : Nat} {z : Int} (hE : t_at tT mi pc = some ((pc, .ireturn, 1, z1, z2, z), rt)) (h : Q (some (.int x)) ι) : PC xl n mi pc lv [.int x] ι Q := by
  intro F hs hi
  refine (PF.ret (n := n) (tT_ok _ _ _ hE) rfl rfl ?_).weak
  intro v hv
  simp only [m_ret] at hv
  split at hv
  · split at hv
    · cases hv; rw [hi]; exact h
    · cases hv
  · cases hv
theorem PC.retJ {x : Int64} {z1 z2 : Nat} {z : Int} (hE : t_at tT mi pc = some ((pc, .lreturn, 1, z1, z2, z), rt)) (h : Q (some (.long x)) ι) : PC xl n mi pc lv [.long x] ι Q := by
  intro F hs hi
  refine (PF.ret (n := n) (tT_ok _ _ _ hE) rfl rfl ?_).weak
  intro v hv
  simp only [m_ret] at hv
  split at hv
  · cases hv; rw [hi]; exact h
  · cases hv
theorem PC.retV {z1 z2 : Nat} {z : Int} (hE : t_at tT mi pc = some ((pc, .return_, 1, z1, z2, z), rt)) (h : Q none ι) : PC xl n mi pc lv [] ι Q := by
  intro F hs hi
  refine (PF.ret (n := n) (tT_ok _ _ _ hE) rfl rfl ?_).weak
  intro v hv
  simp only [m_ret] at hv
  split at hv
  · cases hv; rw [hi]; exact h
  · cases hv
theorem one_ivI {ro : Nat → Option MC} {E : MI} {F : MH} (h : ivI E.2.1 = true) : m_one ro tFty tDfl E F lv st = none ∧ ∀ rt, m_ret rt E st = none := by
  obtain ⟨p, i, l, z1, z2, z3⟩ := E
  cases i <;> first | (cases h; done) | exact ⟨rfl, fun _ => rfl⟩
theorem PC.call {E : MI × Option FieldType} {j : Nat} {args rest : List Value} (hE : t_at tT mi pc = some E) (hI : ivI E.1.2.1 = true) (hj : E.1.2.2.2.1 = j) (ha : (st.take E.1.2.2.2.2.1).reverse = args) (hr : st.drop E.1.2.2.2.2.1 = rest) (h9 : sP j = true) (h8 : ¬ j = 9999 ∧ ¬ j = 9998) (h : PC xl n j 0 (lv_args 0 args) [] ι (fun v κ => PC xl n mi (pc + 3) lv (v.toList ++ rest) κ Q)) : PC xl (n + 1) mi pc lv st ι Q := by
  intro F hs hi
  have ho := one_ivI (ro := tRo xl) (F := F) (lv := lv) (st := st) hI
  refine PF.call (n := n) (args := args) (rest := rest) (tT_ok _ _ _ hE) ho.1 (ho.2 _) (fun q hq => ?_) h8.1 h8.2 ?_
  · rw [(inv_q hq).1, hj, ha, hr]
  · intro d z hx
    exact h F hs hi d z hx z.2 (ex_sh _ _ _ _ _ _ _ _ h9 hs hx) rfl
/-- what a method returns, by its word -/
noncomputable def rtK (rt : Option FieldType) (v : Option Value) : Prop := match rt with
  | none => v = none
  | some .long => ∃ x, v = some (.long x)
  | some _ => ∃ x, v = some (.int x)
theorem ret_k {rt : Option FieldType} {E : MI} {v : Option Value} (h : m_ret rt E st = some v) : (rt = none → v = none) ∧ (∀ ty, rt = some ty → ¬ ty = .long → ∃ x, v = some (.int x)) := by
  unfold m_ret at h
  split at h
  · split at h
    · split at h
      · split at h
        · cases h; exact ⟨fun e => (by cases e), fun ty e _ => ⟨_, rfl⟩⟩
        · cases h
      · cases h
    · cases h
  · split at h
    · split at h
      · rename_i e; cases h; exact ⟨fun e2 => (by rw [e] at e2; cases e2), fun ty e2 h2 => (by rw [e] at e2; cases e2; exact absurd rfl h2)⟩
      · cases h
    · cases h
  · split at h
    · split at h
      · rename_i e; cases h; exact ⟨fun _ => rfl, fun ty e2 => (by rw [e] at e2; cases e2)⟩
      · cases h
    · cases h
  · cases h
theorem ex_k {ro : Nat → Option MC} {M : MM} (hM : tMT[mi]? = some M) : ∀ (n d : Nat) (F : MH) (pc : Nat) (lv : LVs) (st : List Value) (z : Option Value × MH), ex tMT ro tFty tDfl n d mi F pc lv st = some z → (M.2.2.2.1 = none → z.1 = none) ∧ (∀ ty, M.2.2.2.1 = some ty → ¬ ty = .long → ∃ x, z.1 = some (.int x)) := by
  intro n
  induction n with
  | zero => intro d F pc lv st z h; cases h
  | succ n ih =>
    intro d F pc lv st z h
    rw [ex] at h
    split at h
    · cases h
    · rename_i E hE
      obtain ⟨M', hM', -, hE2⟩ := at_mem hE
      have e : M' = M := Option.some.inj (hM'.symm.trans hM)
      subst e
      split at h
      · exact ih _ _ _ _ _ _ h
      · split at h
        · rename_i v hv
          cases h
          rw [hE2] at hv
          exact ret_k hv
        · split at h
          · cases h
          · split at h
            · split at h
              · split at h
                · exact ih _ _ _ _ _ _ h
                · cases h
              · cases h
            · split at h
              · split at h
                · exact ih _ _ _ _ _ _ h
                · cases h
              · split at h
                · split at h
                  · cases h
                  · split at h
                    · cases h
                    · exact ih _ _ _ _ _ _ h
                · cases h
theorem PC.callI {E : MI × Option FieldType} {j : Nat} {args rest : List Value} {M : MM} {ty : FieldType} (hE : t_at tT mi pc = some E) (hI : ivI E.1.2.1 = true) (hj : E.1.2.2.2.1 = j) (ha : (st.take E.1.2.2.2.2.1).reverse = args) (hr : st.drop E.1.2.2.2.2.1 = rest) (h9 : sP j = true) (h8 : ¬ j = 9999 ∧ ¬ j = 9998) (hM : tMT[j]? = some M) (hty : M.2.2.2.1 = some ty) (hl : ¬ ty = .long) (h : PC xl n j 0 (lv_args 0 args) [] ι (fun v κ => ∀ x, v = some (.int x) → PC xl n mi (pc + 3) lv (.int x :: rest) κ Q)) : PC xl (n + 1) mi pc lv st ι Q := by
  refine PC.call hE hI hj ha hr h9 h8 ?_
  intro F hs hi d z hx
  obtain ⟨x, e⟩ := (ex_k hM _ _ _ _ _ _ _ hx).2 ty hty hl
  have := h F hs hi d z hx x e
  rw [e]
  exact this
theorem PC.callV {E : MI × Option FieldType} {j : Nat} {args rest : List Value} {M : MM} (hE : t_at tT mi pc = some E) (hI : ivI E.1.2.1 = true) (hj : E.1.2.2.2.1 = j) (ha : (st.take E.1.2.2.2.2.1).reverse = args) (hr : st.drop E.1.2.2.2.2.1 = rest) (h9 : sP j = true) (h8 : ¬ j = 9999 ∧ ¬ j = 9998) (hM : tMT[j]? = some M) (hty : M.2.2.2.1 = none) (h : PC xl n j 0 (lv_args 0 args) [] ι (fun _ κ => PC xl n mi (pc + 3) lv rest κ Q)) : PC xl (n + 1) mi pc lv st ι Q := by
  refine PC.call hE hI hj ha hr h9 h8 ?_
  intro F hs hi d z hx
  have e := (ex_k hM _ _ _ _ _ _ _ hx).1 hty
  have := h F hs hi d z hx
  rw [e]
  exact this
end PcC
end
