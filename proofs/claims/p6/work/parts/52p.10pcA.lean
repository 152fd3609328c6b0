/-! PARTIAL CORRECTNESS, I: what every run that ends comes to, over the cells -/
section PcA
variable {ro : Nat → Option MC} {n mi pc : Nat} {lv : LVs} {st : List Value} {F : MH} {Q Q2 : Option Value → MH → Prop}
/-- every run from here that ends, ends so -/
def PF (ro : Nat → Option MC) (n mi pc : Nat) (lv : LVs) (st : List Value) (F : MH) (Q : Option Value → MH → Prop) : Prop := ∀ d z, ex tMT ro tFty tDfl n d mi F pc lv st = some z → Q z.1 z.2
theorem PF.zero : PF ro 0 mi pc lv st F Q := fun d z h => by cases h
theorem PF.weak (h : PF ro (n + 1) mi pc lv st F Q) : PF ro n mi pc lv st F Q := fun d z hx => h d z (ex_mono _ _ _ _ _ _ _ _ hx _ _ (Nat.le_succ n) (Nat.le_refl d))
theorem PF.imp (h : PF ro n mi pc lv st F Q) (hq : ∀ v F1, Q v F1 → Q2 v F1) : PF ro n mi pc lv st F Q2 := fun d z hx => hq _ _ (h d z hx)
theorem PF.one {E : MI × Option FieldType} {q : MS} (hE : m_at tMT mi pc = some E) (hq : m_one ro tFty tDfl E.1 F lv st = some q) (h : PF ro n mi q.2.1 q.2.2.1 q.2.2.2 q.1 Q) : PF ro (n + 1) mi pc lv st F Q := by
  intro d z hx
  rw [ex, hE] at hx
  simp only at hx
  rw [hq] at hx
  exact h d z hx
theorem PF.heap {E : MI × Option FieldType} (hE : m_at tMT mi pc = some E) (hv : m_ret E.2 E.1 st = none) (hi : m_inv ro F E.1 st = none) (h : ∀ q, m_one ro tFty tDfl E.1 F lv st = some q → PF ro n mi q.2.1 q.2.2.1 q.2.2.2 q.1 Q) : PF ro (n + 1) mi pc lv st F Q := by
  intro d z hx
  rw [ex, hE] at hx
  simp only at hx
  split at hx
  · rename_i q hq
    exact h q hq d z hx
  · rw [hv] at hx
    simp only at hx
    rw [hi] at hx
    cases hx
theorem PF.ret {E : MI × Option FieldType} (hE : m_at tMT mi pc = some E) (ho : m_one ro tFty tDfl E.1 F lv st = none) (hi : m_inv ro F E.1 st = none) (h : ∀ v, m_ret E.2 E.1 st = some v → Q v F) : PF ro (n + 1) mi pc lv st F Q := by
  intro d z hx
  rw [ex, hE] at hx
  simp only at hx
  rw [ho] at hx
  simp only at hx
  split at hx
  · rename_i v hv
    cases hx
    exact h v hv
  · rw [hi] at hx
    cases hx
theorem PF.call {E : MI × Option FieldType} {j : Nat} {args rest : List Value} (hE : m_at tMT mi pc = some E) (ho : m_one ro tFty tDfl E.1 F lv st = none) (hv : m_ret E.2 E.1 st = none) (hi : ∀ q, m_inv ro F E.1 st = some q → q = (j, args, rest)) (h9 : ¬ j = 9999) (h8 : ¬ j = 9998) (h : PF ro n j 0 (lv_args 0 args) [] F (fun v F1 => PF ro n mi (pc + 3) lv (v.toList ++ rest) F1 Q)) : PF ro (n + 1) mi pc lv st F Q := by
  intro d z hx
  rw [ex, hE] at hx
  simp only at hx
  rw [ho] at hx
  simp only at hx
  rw [hv] at hx
  simp only at hx
  split at hx
  · cases hx
  · rename_i q hq
    have e := hi q hq
    subst e
    simp only at hx
    rw [if_neg h9, if_neg h8] at hx
    split at hx
    · split at hx
      · cases hx
      · rename_i d'
        split at hx
        · cases hx
        · rename_i z1 hz
          exact h d' z1 hz (d' + 1) z hx
    · cases hx
/-- a step that hangs on locals and stack alone -/
def m_pure (E : MI) (lv : LVs) (st : List Value) : Option (Nat × LVs × List Value) :=
  match m_push E lv with
  | some v => some (E.1 + E.2.2.1, lv, v :: st)
  | none => match m_cst E with
  | some v => some (E.1 + E.2.2.1, lv, v :: st)
  | none => match m_store E lv st with
  | some q => some (E.1 + E.2.2.1, q.1, q.2)
  | none => match m_alu E.2.1 st with
  | some st1 => some (E.1 + E.2.2.1, lv, st1)
  | none => match m_br E st with
  | some q => some (q.1, lv, q.2)
  | none => none
theorem pure_one {fty : Nat → Nat → FieldType} {dfl : Nat → List Value} {E : MI} {q : Nat × LVs × List Value} (h : m_pure E lv st = some q) (F : MH) : m_one ro fty dfl E F lv st = some (F, q.1, q.2.1, q.2.2) := by
  unfold m_pure at h
  unfold m_one
  split at h
  · rename_i h1; cases h; rw [h1]
  rename_i h1; rw [h1]; simp only
  split at h
  · rename_i h2; cases h; rw [h2]
  rename_i h2; rw [h2]; simp only
  split at h
  · rename_i h3; cases h; rw [h3]
  rename_i h3; rw [h3]; simp only
  split at h
  · rename_i h4; cases h; rw [h4]
  rename_i h4; rw [h4]; simp only
  split at h
  · rename_i h5; cases h; rw [h5]
  · cases h
/-- a row of such steps -/
def m_pr : Nat → Nat → Nat → LVs → List Value → Option (Nat × LVs × List Value)
  | 0, _, pc, lv, st => some (pc, lv, st)
  | k + 1, mi, pc, lv, st => match t_at tT mi pc with
    | none => none
    | some E => match m_pure E.1 lv st with
      | none => none
      | some q => m_pr k mi q.1 q.2.1 q.2.2
theorem PF.pr : ∀ {k pc : Nat} {lv : LVs} {st : List Value} {pc' : Nat} {lv' : LVs} {st' : List Value}, m_pr k mi pc lv st = some (pc', lv', st') → PF ro n mi pc' lv' st' F Q → PF ro n mi pc lv st F Q
  | 0, pc, lv, st, pc', lv', st', h, hp => by cases h; exact hp
  | k + 1, pc, lv, st, pc', lv', st', h, hp => by
    rw [m_pr] at h
    split at h
    · cases h
    · rename_i E hE
      split at h
      · cases h
      · rename_i q hq
        exact (PF.one (n := n) (tT_ok _ _ _ hE) (pure_one hq F) (PF.pr h hp)).weak
theorem PF.pr1 {k pc : Nat} {lv : LVs} {st : List Value} {pc' : Nat} {lv' : LVs} {st' : List Value} (h : m_pr (k + 1) mi pc lv st = some (pc', lv', st')) (hp : PF ro n mi pc' lv' st' F Q) : PF ro (n + 1) mi pc lv st F Q := by
  rw [m_pr] at h
  split at h
  · cases h
  · rename_i E hE
    split at h
    · cases h
    · rename_i q hq
      exact PF.one (n := n) (tT_ok _ _ _ hE) (pure_one hq F) (PF.pr h hp)
end PcA
