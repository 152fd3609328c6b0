/-! PARTIAL CORRECTNESS, VI: switches, quotients, calls that answer longs; methods that write nothing -/
section PcF
variable {xl : List Int32} {n mi pc : Nat} {lv : LVs} {st r : List Value} {ι κ : IS} {Q Q2 : Option Value → IS → Prop} {rt : Option FieldType} {x y : Int32}
theorem PC.lsw {d : Int} {ps : Array (Int × Int)} {len z1 z2 : Nat} {z : Int} (hE : t_at tT mi pc = some ((pc, .lookupswitch d ps, len, z1, z2, z), rt)) (h : ∀ o t, Op.lookupswitch.offset ps.toList d x.toInt = o → m_to pc o = some t → PC xl n mi t lv r ι Q) : PC xl n mi pc lv (.int x :: r) ι Q := by
  intro F hs hi2
  refine (PF.heap (n := n) (tT_ok _ _ _ hE) rfl rfl ?_).weak
  intro q hq
  have hq : (match m_br (pc, .lookupswitch d ps, len, z1, z2, z) (.int x :: r) with | some q => some (F, q.1, lv, q.2) | Option.none => Option.none) = some q := hq
  split at hq
  · rename_i q1 hb
    cases hq
    simp only [m_br] at hb
    split at hb
    · obtain ⟨t, ht, rfl⟩ := Option.map_eq_some_iff.mp hb
      exact h _ t rfl ht F hs hi2
    · cases hb
  · cases hq
theorem PC.idv {z1 z2 : Nat} {z : Int} (hE : t_at tT mi pc = some ((pc, .idiv, 1, z1, z2, z), rt)) (h : ¬ y = 0 → PC xl n mi (pc + 1) lv (.int (x / y) :: r) ι Q) : PC xl n mi pc lv (.int y :: .int x :: r) ι Q := by
  intro F hs hi
  refine (PF.heap (n := n) (tT_ok _ _ _ hE) rfl rfl ?_).weak
  intro q hq
  have hq : (match (if y = 0 then Option.none else some (Value.int (x / y) :: r)) with | some st1 => some (F, pc + 1, lv, st1) | Option.none => Option.none) = some q := hq
  split at hq
  · rename_i st1 h1
    cases hq
    split at h1
    · cases h1
    · rename_i hy
      cases h1
      exact h hy F hs hi
  · cases hq
theorem PC.irm {z1 z2 : Nat} {z : Int} (hE : t_at tT mi pc = some ((pc, .irem, 1, z1, z2, z), rt)) (h : ¬ y = 0 → PC xl n mi (pc + 1) lv (.int (x - x / y * y) :: r) ι Q) : PC xl n mi pc lv (.int y :: .int x :: r) ι Q := by
  intro F hs hi
  refine (PF.heap (n := n) (tT_ok _ _ _ hE) rfl rfl ?_).weak
  intro q hq
  have hq : (match (if y = 0 then Option.none else some (Value.int (x - x / y * y) :: r)) with | some st1 => some (F, pc + 1, lv, st1) | Option.none => Option.none) = some q := hq
  split at hq
  · rename_i st1 h1
    cases hq
    split at h1
    · cases h1
    · rename_i hy
      cases h1
      exact h hy F hs hi
  · cases hq
theorem PC.ldv {x y : Int64} {z1 z2 : Nat} {z : Int} (hE : t_at tT mi pc = some ((pc, .ldiv, 1, z1, z2, z), rt)) (h : ¬ y = 0 → PC xl n mi (pc + 1) lv (.long (x / y) :: r) ι Q) : PC xl n mi pc lv (.long y :: .long x :: r) ι Q := by
  intro F hs hi
  refine (PF.heap (n := n) (tT_ok _ _ _ hE) rfl rfl ?_).weak
  intro q hq
  have hq : (match (if y = 0 then Option.none else some (Value.long (x / y) :: r)) with | some st1 => some (F, pc + 1, lv, st1) | Option.none => Option.none) = some q := hq
  split at hq
  · rename_i st1 h1
    cases hq
    split at h1
    · cases h1
    · rename_i hy
      cases h1
      exact h hy F hs hi
  · cases hq
theorem PC.lrm {x y : Int64} {z1 z2 : Nat} {z : Int} (hE : t_at tT mi pc = some ((pc, .lrem, 1, z1, z2, z), rt)) (h : ¬ y = 0 → PC xl n mi (pc + 1) lv (.long (x - x / y * y) :: r) ι Q) : PC xl n mi pc lv (.long y :: .long x :: r) ι Q := by
  intro F hs hi
  refine (PF.heap (n := n) (tT_ok _ _ _ hE) rfl rfl ?_).weak
  intro q hq
  have hq : (match (if y = 0 then Option.none else some (Value.long (x - x / y * y) :: r)) with | some st1 => some (F, pc + 1, lv, st1) | Option.none => Option.none) = some q := hq
  split at hq
  · rename_i st1 h1
    cases hq
    split at h1
    · cases h1
    · rename_i hy
      cases h1
      exact h hy F hs hi
  · cases hq
theorem PC.callJ {E : MI × Option FieldType} {j : Nat} {args rest : List Value} {M : MM} (hE : t_at tT mi pc = some E) (hI : ivI E.1.2.1 = true) (hj : E.1.2.2.2.1 = j) (ha : (st.take E.1.2.2.2.2.1).reverse = args) (hr : st.drop E.1.2.2.2.2.1 = rest) (h9 : sP j = true) (h8 : ¬ j = 9999 ∧ ¬ j = 9998) (hM : tMT[j]? = some M) (hJ : M.2.2.2.1 = some .long) (hno : M.2.2.2.2.all (fun E => !(isIr E.2.1)) = true) (h : PC xl n j 0 (lv_args 0 args) [] ι (fun v κ => ∀ x, v = some (.long x) → PC xl n mi (pc + 3) lv (.long x :: rest) κ Q)) : PC xl (n + 1) mi pc lv st ι Q := by
  refine PC.call hE hI hj ha hr h9 h8 ?_
  intro F hs hi d z hx
  obtain ⟨x, e⟩ := ex_kJ hM hJ hno _ _ _ _ _ _ _ hx
  have := h F hs hi d z hx x e
  rw [e]
  exact this
/-- an instruction that writes nothing, and calls what P holds -/
def nwE (P : Nat → Bool) (E : MI) : Bool := (match E.2.1 with
  | .new _ => false
  | .newarray _ => false
  | .anewarray _ => false
  | .aastore => false
  | .iastore => false
  | .bastore => false
  | .putfield _ => false
  | _ => true) && (!(ivI E.2.1) || (E.2.2.2.1 == 9999 || (E.2.2.2.1 == 9998 || P E.2.2.2.1)))
def nwChk (P : Nat → Bool) : Bool := (tMT.zip (List.range tMT.length)).all (fun q => !(P q.2) || q.1.2.2.2.2.all (nwE P))
theorem wr_nw {P : Nat → Bool} {F : MH} {E : MI} (h : nwE P E = true) : m_wr tFty tDfl F E st = none := by
  obtain ⟨p, i, l, z1, z2, z3⟩ := E
  cases i <;> first | (cases h; done) | rfl
theorem one_nw {P : Nat → Bool} {ro : Nat → Option MC} {F : MH} {E : MI} {q : MS} (hE : nwE P E = true) (h : m_one ro tFty tDfl E F lv st = some q) : q.1 = F := by
  unfold m_one at h
  split at h
  · cases h; rfl
  split at h
  · cases h; rfl
  split at h
  · cases h; rfl
  split at h
  · cases h; rfl
  split at h
  · cases h; rfl
  split at h
  · cases h; rfl
  rw [wr_nw hE] at h
  cases h
theorem ex_nw {P : Nat → Bool} {ro : Nat → Option MC} (hk : nwChk P = true) : ∀ (n d mi : Nat) (F : MH) (pc : Nat) (lv : LVs) (st : List Value) (z : Option Value × MH), P mi = true → ex tMT ro tFty tDfl n d mi F pc lv st = some z → z.2 = F := by
  intro n
  induction n with
  | zero => intro d mi F pc lv st z _ h; cases h
  | succ n ih =>
    intro d mi F pc lv st z hp h
    rw [ex] at h
    split at h
    · cases h
    · rename_i E hE
      obtain ⟨M, hM, hm, -⟩ := at_mem hE
      have h1 := List.all_eq_true.mp hk _ (zip_mem hM)
      simp only [hp, Bool.not_true, Bool.false_or] at h1
      have ho := List.all_eq_true.mp h1 _ hm
      split at h
      · rename_i q hq
        rw [ih _ _ _ _ _ _ _ hp h, one_nw ho hq]
      · split at h
        · cases h; rfl
        · split at h
          · cases h
          · rename_i q hi
            obtain ⟨hq, hI⟩ := inv_q hi
            have ht : E.1.2.2.2.1 = 9999 ∨ E.1.2.2.2.1 = 9998 ∨ P E.1.2.2.2.1 = true := by
              unfold nwE at ho
              simp only [Bool.and_eq_true] at ho
              have h3 := ho.2
              rw [hI] at h3
              simpa using h3
            have hq1 : q.1 = E.1.2.2.2.1 := by rw [hq]
            rw [← hq1] at ht
            split at h
            · split at h
              · split at h
                · exact ih _ _ _ _ _ _ _ hp h
                · cases h
              · cases h
            · rename_i h9
              split at h
              · split at h
                · exact ih _ _ _ _ _ _ _ hp h
                · cases h
              · rename_i h8
                split at h
                · split at h
                  · cases h
                  · split at h
                    · cases h
                    · rename_i z1 hz1
                      rw [ih _ _ _ _ _ _ _ hp h, ih _ _ _ _ _ _ _ ((ht.resolve_left h9).resolve_left h8) hz1]
                · cases h
theorem PC.nw {P : Nat → Bool} (hk : nwChk P = true) (hp : P mi = true) : PC xl n mi pc lv st ι (fun _ κ => κ = ι) := fun F _ hi d z hx => by
  rw [ex_nw hk n d mi F pc lv st z hp hx]; exact hi
end PcF
