/-! THE SMALL MACHINE IS THE MACHINE, VIII: what holds at every method's start; constants; writes; growth -/
def aoC : List String := ["DoorPaints$Visitor", "DoorPaints$Door", "DoorPaints$Told", "DoorPaints$Sheet"]
abbrev StrT : Type := List (String × Nat × Nat)
abbrev NestT : Type := List (String × Nat × MethodName × String)
def CTX (cls : List vw_C) (strT : StrT) (nestT : NestT) (ro : Nat → Option MC) (rA : Nat → Nat) (sio : Value) (b0 : Nat) (dC : Nat → ClassId) (dI : Nat → Nat → Nat) (cA : Nat → ClassId) (U : State) : Prop :=
  va_K (dC, dI) cls (tysL cA) U ∧ (∀ j x, ro j = some x → roC rA sio (fun q => b0 ≤ q) U U.heap j x) ∧ va_Z "java/lang/String" "COMPACT_STRINGS" "Z" (.int 1) (fun q => b0 ≤ q) U U.heap ∧ va_Z "jdk/internal/util/Preconditions" "SIOOBE_FORMATTER" "Ljava/util/function/BiFunction;" sio (fun q => b0 ≤ q) U U.heap ∧
  (∀ q ∈ strT, ∃ tx, vk_R q.1 q.2.1 tx (rA (KB + q.2.2)) U) ∧ (∀ q ∈ nestT, va_Nw (.methodLinkNest q.1 q.2.1 q.2.2.1 q.2.2.2) U) ∧ (∀ C ∈ aoC, va_AO C U)
theorem roC.go {rA : Nat → Nat} {sio : Value} {A : Nat → Prop} {s U : State} {j : Nat} {x : MC} (h : roC rA sio A s s.heap j x) (hvm : s.vm.Alike U.vm) (hq : ∀ a : Nat, a < s.heap.size → ¬ A a → U.heap[a]? = s.heap[a]?) : roC rA sio A U U.heap j x := by
  match x, h with
  | .inl o, h =>
    obtain ⟨h1, v, h2, h3, h4, h5⟩ := h
    exact ⟨h1, v, h2, (h3.moved hvm).kept hq, (h4.moved hvm).kept hq, (h5.moved hvm).kept hq⟩
  | .inr (.inl q), h =>
    rcases h with ⟨h1, h2⟩ | ⟨h1, h2⟩
    · exact Or.inl ⟨h1, (h2.moved hvm).kept hq⟩
    · exact Or.inr ⟨h1, (h2.moved hvm).kept hq⟩
  | .inr (.inr q), h => exact h.elim
theorem CTX.go {cls : List vw_C} {strT : StrT} {nestT : NestT} {ro : Nat → Option MC} {rA : Nat → Nat} {sio : Value} {b0 : Nat} {dC : Nat → ClassId} {dI : Nat → Nat → Nat} {cA : Nat → ClassId} {s U : State} (h : CTX cls strT nestT ro rA sio b0 dC dI cA s) (hW : s.WarmedH U.vm) (hq : ∀ a : Nat, a < s.heap.size → ¬ b0 ≤ a → U.heap[a]? = s.heap[a]?) : CTX cls strT nestT ro rA sio b0 dC dI cA U := by
  obtain ⟨h1, h2, h3, h4, h5, h6, h7⟩ := h
  exact ⟨h1.moved hW.alike, fun j x hx => (h2 j x hx).go hW.alike hq, (h3.moved hW.alike).kept hq, (h4.moved hW.alike).kept hq, fun q hm => (h5 q hm).imp fun tx hz => hz.warm hW, fun q hm => va_Nw.warmM hW (h6 q hm), fun C hm => (h7 C hm).moved hW.alike⟩
/-- what is checked of a constant -/
def cstOK (own : String) (E : MI) (ws : List Cond) (strT : StrT) : Prop := match E.2.1 with
  | .ldc idx => (E.2.2.2.1 = 0 ∧ Cond.constant own idx (Int32.ofInt E.2.2.2.2.2) ∈ ws) ∨ (¬ E.2.2.2.1 = 0 ∧ ¬ E.2.2.2.2.1 = 100 ∧ (own, idx, E.2.2.2.2.1) ∈ strT)
  | .ldc_w idx => Cond.constant own idx (Int32.ofInt E.2.2.2.2.2) ∈ ws
  | .ldc2_w idx => Cond.constantLong own idx (Int64.ofInt E.2.2.2.2.2) ∈ ws
  | .getstatic idx => (E.2.2.2.1 = 0 ∧ E.2.2.2.2.2 = 1 ∧ Cond.fieldLink own idx "java/lang/String" "COMPACT_STRINGS" "Z" ∈ ws) ∨ (¬ E.2.2.2.1 = 0 ∧ E.2.2.2.2.1 = 100 ∧ Cond.fieldLink own idx "jdk/internal/util/Preconditions" "SIOOBE_FORMATTER" "Ljava/util/function/BiFunction;" ∈ ws)
  | _ => True
section SimH
variable {p : Program} {l : Launch} {e : Env} {R : Room} {s : State} {m : MethodId} {args : Array Value} {below : List Frame} {meth : Method} {c : Code} {H : Heap} {locs : List Loc} {cells slots : Nat} {Q : State → Prop}
variable {cc : ByteArray} {ls : Array Slot} {nL : Nat} {rA : Nat → Nat} {sio : Value} {cA : Nat → ClassId} {dC : Nat → ClassId} {dI : Nat → Nat → Nat} {cls : List vw_C} {b0 : Nat} {strT : StrT} {nestT : NestT} {ro : Nat → Option MC}
theorem s_cst (hx : p.tables.exec = Jvm.exec) (hb : c.code = cc) {ws : List Cond} {own : String} (hts : ∀ w ∈ ws, w.before args s = true) (hown : s.vm.findClass own = some m.cls) {E : MI} {v : Value} {rest : List Value} (hdg : decode cc E.1 = .ok (E.2.1, E.2.2.1)) (hlen : m_len E.2.1 = 0 ∨ m_len E.2.1 = E.2.2.1) (hX : CTX cls strT nestT ro rA sio b0 dC dI cA s) (hok : cstOK own E ws strT) (hS : va_S (fun q => b0 ≤ q) s.heap H locs) (h : m_cst E = some v)
    (k : W p l e R s m args below meth c H locs cells slots Q (F0 m (E.1 + E.2.2.1) ls (trv rA sio v :: rest))) : W p l e R s m args below meth c H locs cells slots Q (F0 m E.1 ls rest) := by
  obtain ⟨pc, i, len, a0, b1, z⟩ := E
  obtain ⟨-, -, hZ1, hZ2, hstr, -, -⟩ := hX
  simp only at hdg hlen k h hok ⊢
  cases i
  case ldc idx =>
    simp only [m_len] at hlen
    obtain rfl : len = 2 := by omega
    simp only [m_cst] at h
    simp only [cstOK] at hok
    split at h
    · rename_i ha
      cases h
      rcases hok with ⟨-, q⟩ | ⟨q, -⟩
      · exact lv_ldc hx hb hown (hts _ q) hdg k
      · exact absurd ha q
    · rename_i ha
      cases h
      rcases hok with ⟨q, -⟩ | ⟨-, q1, q2⟩
      · exact absurd q ha
      · obtain ⟨tx, hR⟩ := hstr _ q2
        have e1 : trv rA sio (.ref (KB + b1)) = .ref (rA (KB + b1)) := by
          have : ¬ KB + b1 = KB + 100 := by omega
          simp only [trv, if_neg this]
        rw [e1] at k
        exact va_ldcS hx hb hown hR hdg k
  case ldc_w idx =>
    simp only [m_len] at hlen
    obtain rfl : len = 3 := by omega
    simp only [m_cst] at h
    simp only [cstOK] at hok
    cases h
    exact lv_ldcw hx hb hown (hts _ hok) hdg k
  case ldc2_w idx =>
    simp only [m_len] at hlen
    obtain rfl : len = 3 := by omega
    simp only [m_cst] at h
    simp only [cstOK] at hok
    cases h
    exact lv_ldc2 hx hb hown (hts _ hok) hdg k
  case getstatic idx =>
    simp only [m_len] at hlen
    obtain rfl : len = 3 := by omega
    simp only [m_cst] at h
    simp only [cstOK] at hok
    split at h
    · rename_i ha
      cases h
      rcases hok with ⟨-, q1, q2⟩ | ⟨q, -⟩
      · subst q1
        exact va_gets hx hb hZ1 hS hown (hts _ q2) (fun _ h9 => h9) hdg k
      · exact absurd ha q
    · rename_i ha
      cases h
      rcases hok with ⟨q, -⟩ | ⟨-, q1, q2⟩
      · exact absurd q ha
      · subst q1
        have e1 : trv rA sio (.ref (KB + 100)) = sio := by simp only [trv, if_true]
        rw [e1] at k
        exact va_gets hx hb hZ2 hS hown (hts _ q2) (fun _ h9 => h9) hdg k
  all_goals (simp only [m_cst, reduceCtorEq] at h)
/-- what a write leaves: as many cells or more, rows of references stay as they should -/
theorem wr_grow {fty : Nat → Nat → FieldType} {dfl : Nat → List Value} {F : MH} {E : MI} {st : List Value} {q : MH × List Value} (h : m_wr fty dfl F E st = some q) : F.length ≤ q.1.length ∧ mz F ≤ mz q.1 ∧ (rowsOK F → rowsOK q.1) := by
  have hset : ∀ (a : Nat) (c0 c1 : MC), F[a]? = some c0 → mzC c1 = mzC c0 → (∀ k os, c1 = .inr (.inr (k, os)) → ∃ o i os0, c0 = .inr (.inr (k, os0)) ∧ os = os0.set i (some o) ∧ o < KB) → F.length ≤ (F.set a c1).length ∧ mz F ≤ mz (F.set a c1) ∧ (rowsOK F → rowsOK (F.set a c1)) := by
    intro a c0 c1 h0 h1 h2
    refine ⟨by rw [List.length_set]; exact Nat.le_refl _, by rw [mz_set F a c0 c1 h0 h1]; exact Nat.le_refl _, fun hR a' k os ha' o ho x hx => ?_⟩
    rw [List.getElem?_set] at ha'
    split at ha'
    · split at ha'
      · have e1 : c1 = .inr (.inr (k, os)) := Option.some.inj ha'
        obtain ⟨oo, i, os0, e2, e3, e4⟩ := h2 k os e1
        rw [e2] at h0
        rw [e3] at ho
        rcases List.mem_or_eq_of_mem_set ho with h5 | h5
        · exact hR a k os0 h0 o h5 x hx
        · rw [h5] at hx; cases hx; exact e4
      · cases ha'
    · exact hR a' k os ha' o ho x hx
  have happ : ∀ (c1 : MC), (∀ k os, c1 = .inr (.inr (k, os)) → ∀ o ∈ os, o = none) → F.length ≤ (F ++ [c1]).length ∧ mz F ≤ mz (F ++ [c1]) ∧ (rowsOK F → rowsOK (F ++ [c1])) := by
    intro c1 h2
    refine ⟨by rw [List.length_append]; exact Nat.le_add_right _ _, by rw [mz_app]; exact Nat.le_add_right _ _, fun hR a' k os ha' o ho x hx => ?_⟩
    by_cases hl : a' < F.length
    · rw [List.getElem?_append_left hl] at ha'
      exact hR a' k os ha' o ho x hx
    · rw [List.getElem?_append_right (by omega)] at ha'
      have hz : a' - F.length < 1 := (List.getElem?_eq_some_iff.mp ha').1
      rw [show a' - F.length = 0 by omega] at ha'
      have e1 : c1 = .inr (.inr (k, os)) := by simpa using ha'
      rw [h2 k os e1 o ho] at hx
      cases hx
  obtain ⟨pc, i, len, a0, b1, z⟩ := E
  unfold m_wr at h
  split at h
  · split at h
    · split at h
      · split at h
        · rename_i hc _
          cases h
          exact hset _ _ _ hc (by simp only [mzC, List.length_set]) (fun k os e => by cases e)
        · cases h
      · cases h
    · cases h
  · split at h
    · split at h
      · split at h
        · rename_i hc _
          cases h
          exact hset _ _ _ hc (by simp only [mzC, List.length_set]) (fun k os e => by cases e)
        · cases h
      · cases h
    · cases h
  · split at h
    · split at h
      · split at h
        · rename_i hc _
          cases h
          exact hset _ _ _ hc (by simp only [mzC, List.length_set]) (fun k os e => by cases e)
        · cases h
      · cases h
    · cases h
  · split at h
    · split at h
      · split at h
        · rename_i hc _ hq
          cases h
          exact hset _ _ _ hc (by simp only [mzC, List.length_set]) (fun k os e => by cases e; exact ⟨_, _, _, rfl, rfl, hq.2.1⟩)
        · cases h
      · cases h
    · cases h
  · split at h
    · cases h
      exact happ _ (fun k os e => by cases e)
    · cases h
  · split at h
    · split at h
      · cases h
        exact happ _ (fun k os e => by cases e)
      · cases h
    · cases h
  · split at h
    · split at h
      · cases h
        exact happ _ (fun k os e => by cases e; intro o ho; exact (List.mem_replicate.mp ho).2)
      · cases h
    · cases h
  · cases h
theorem one_grow {fty : Nat → Nat → FieldType} {dfl : Nat → List Value} {F : MH} {E : MI} {lv : LVs} {st : List Value} {q : MS} (h : m_one ro fty dfl E F lv st = some q) : F.length ≤ q.1.length ∧ mz F ≤ mz q.1 ∧ (rowsOK F → rowsOK q.1) := by
  have same : F.length ≤ F.length ∧ mz F ≤ mz F ∧ (rowsOK F → rowsOK F) := ⟨Nat.le_refl _, Nat.le_refl _, id⟩
  unfold m_one at h
  split at h
  · cases h; exact same
  · split at h
    · cases h; exact same
    · split at h
      · cases h; exact same
      · split at h
        · cases h; exact same
        · split at h
          · cases h; exact same
          · split at h
            · cases h; exact same
            · split at h
              · rename_i hw
                cases h; exact wr_grow hw
              · cases h
theorem ex_grow {MT : List MM} {fty : Nat → Nat → FieldType} {dfl : Nat → List Value} : ∀ (n d mi : Nat) (F : MH) (pc : Nat) (lv : LVs) (st : List Value) (z : Option Value × MH), ex MT ro fty dfl n d mi F pc lv st = some z → F.length ≤ z.2.length ∧ mz F ≤ mz z.2 ∧ (rowsOK F → rowsOK z.2) := by
  intro n
  induction n with
  | zero => intro d mi F pc lv st z h; cases h
  | succ n ih =>
    intro d mi F pc lv st z h
    rw [ex] at h
    split at h
    · cases h
    · split at h
      · rename_i q hq
        have h1 := one_grow hq
        have h2 := ih _ _ _ _ _ _ _ h
        exact ⟨Nat.le_trans h1.1 h2.1, Nat.le_trans h1.2.1 h2.2.1, fun hR => h2.2.2 (h1.2.2 hR)⟩
      · split at h
        · cases h; exact ⟨Nat.le_refl _, Nat.le_refl _, id⟩
        · split at h
          · cases h
          · split at h
            · split at h
              · split at h
                · exact ih _ _ _ _ _ _ _ h
                · cases h
              · cases h
            · split at h
              · split at h
                · exact ih _ _ _ _ _ _ _ h
                · cases h
              · split at h
                rotate_left
                · cases h
                split at h
                · cases h
                · split at h
                  · cases h
                  · rename_i z1 hz
                    have h1 := ih _ _ _ _ _ _ _ hz
                    have h2 := ih _ _ _ _ _ _ _ h
                    exact ⟨Nat.le_trans h1.1 h2.1, Nat.le_trans h1.2.1 h2.2.1, fun hR => h2.2.2 (h1.2.2 hR)⟩
end SimH
