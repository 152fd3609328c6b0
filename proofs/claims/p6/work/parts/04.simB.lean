/-! THE SMALL MACHINE IS THE MACHINE, II: pushes, stores, arithmetic, branches -/
def m_len (i : Instr) : Nat := match i with
  | .tableswitch _ _ _ _ => 0
  | .lookupswitch _ _ => 0
  | .bipush _ | .iload _ | .lload _ | .aload _ | .istore _ | .lstore _ | .astore _ | .ldc _ | .newarray _ => 2
  | .sipush _ | .ldc_w _ | .ldc2_w _ | .iinc _ _ | .ifCond _ _ | .if_icmp _ _ | .goto _ | .ifnull _ | .ifnonnull _ | .getfield _ | .putfield _ | .getstatic _ | .invokestatic _ | .invokevirtual _ | .invokespecial _ | .new _ | .anewarray _ => 3
  | _ => 1
section SimB
variable {p : Program} {l : Launch} {e : Env} {R : Room} {s : State} {m : MethodId} {args : Array Value} {below : List Frame} {meth : Method} {c : Code} {H : Heap} {locs : List Loc} {cells slots : Nat} {Q : State → Prop}
variable {cc : ByteArray} {ls : Array Slot} {nL : Nat} {rA : Nat → Nat} {sio : Value}
def trl (rA : Nat → Nat) (sio : Value) (lv : LVs) : LVs := lv.map (fun q => (q.1, trv rA sio q.2))
def trs (rA : Nat → Nat) (sio : Value) (st : List Value) : List Value := st.map (trv rA sio)
theorem m_get_mem {lv : LVs} {i : Nat} {v : Value} (h : m_get lv i = some v) : (i, v) ∈ lv := by
  unfold m_get at h
  cases hf : lv.find? (fun q => q.1 == i) with
  | none => rw [hf] at h; cases h
  | some q =>
    rw [hf] at h
    have h1 := List.mem_of_find?_eq_some hf
    have h2 : (q.1 == i) = true := by have := List.find?_some hf; exact this
    have h3 : q.2 = v := Option.some.inj h
    have h4 : q.1 = i := by simpa using h2
    rw [← h3, ← h4]; exact h1
theorem trl_get {lv : LVs} {i : Nat} {v : Value} (hl : lv_has ls nL (trl rA sio lv)) (h : m_get lv i = some v) : ls[i]? = some (.val (trv rA sio v)) :=
  hl.2.2 (i, trv rA sio v) (List.mem_map.mpr ⟨(i, v), m_get_mem h, rfl⟩)
theorem filt_get {lv : LVs} {i : Nat} {v : Value} {P : Value → Bool} (h : (m_get lv i).filter P = some v) : m_get lv i = some v ∧ P v = true := by
  cases hg : m_get lv i with
  | none => rw [hg] at h; cases h
  | some w =>
    rw [hg] at h
    simp only [Option.filter] at h
    split at h
    · cases h; exact ⟨rfl, by assumption⟩
    · cases h
theorem s_push (hx : p.tables.exec = Jvm.exec) (hb : c.code = cc) {E : MI} {lv : LVs} {v : Value} {rest : List Value} (hs : sioOK sio) (hdg : decode cc E.1 = .ok (E.2.1, E.2.2.1)) (hlen : m_len E.2.1 = 0 ∨ m_len E.2.1 = E.2.2.1) (hl : lv_has ls nL (trl rA sio lv)) (h : m_push E lv = some v)
    (k : W p l e R s m args below meth c H locs cells slots Q (F0 m (E.1 + E.2.2.1) ls (trv rA sio v :: rest))) : W p l e R s m args below meth c H locs cells slots Q (F0 m E.1 ls rest) := by
  obtain ⟨pc, i, len, a, b, z⟩ := E
  simp only at hdg hlen k h ⊢
  cases i
  case iconst n =>
    simp only [m_len] at hlen
    obtain rfl : len = 1 := by omega
    simp only [m_push] at h; cases h
    exact lv_iconst hx hb hdg rfl k
  case bipush n =>
    simp only [m_len] at hlen
    obtain rfl : len = 2 := by omega
    simp only [m_push] at h; cases h
    exact lv_bipush hx hb hdg rfl k
  case sipush n =>
    simp only [m_len] at hlen
    obtain rfl : len = 3 := by omega
    simp only [m_push] at h; cases h
    exact lv_sipush hx hb hdg rfl k
  case lconst n =>
    simp only [m_len] at hlen
    obtain rfl : len = 1 := by omega
    simp only [m_push] at h; cases h
    exact lv_lconst hx hb hdg rfl k
  case aconst_null =>
    simp only [m_len] at hlen
    obtain rfl : len = 1 := by omega
    simp only [m_push] at h; cases h
    exact lv_null hx hb hdg k
  case iload n =>
    simp only [m_len] at hlen
    obtain rfl : len = 2 := by omega
    simp only [m_push] at h
    obtain ⟨h1, h2⟩ := filt_get h
    have h3 := trl_get hl h1
    cases v <;> simp only [m_isI, Bool.false_eq_true] at h2
    exact lv_iload hx hb hdg h3 k
  case iload_n n =>
    simp only [m_len] at hlen
    obtain rfl : len = 1 := by omega
    simp only [m_push] at h
    obtain ⟨h1, h2⟩ := filt_get h
    have h3 := trl_get hl h1
    cases v <;> simp only [m_isI, Bool.false_eq_true] at h2
    exact lv_iload_n hx hb hdg rfl h3 k
  case lload n =>
    simp only [m_len] at hlen
    obtain rfl : len = 2 := by omega
    simp only [m_push] at h
    obtain ⟨h1, h2⟩ := filt_get h
    have h3 := trl_get hl h1
    cases v <;> simp only [m_isL, Bool.false_eq_true] at h2
    exact lv_lload hx hb hdg h3 k
  case lload_n n =>
    simp only [m_len] at hlen
    obtain rfl : len = 1 := by omega
    simp only [m_push] at h
    obtain ⟨h1, h2⟩ := filt_get h
    have h3 := trl_get hl h1
    cases v <;> simp only [m_isL, Bool.false_eq_true] at h2
    exact lv_lload_n hx hb hdg rfl h3 k
  case aload n =>
    simp only [m_len] at hlen
    obtain rfl : len = 2 := by omega
    simp only [m_push] at h
    obtain ⟨h1, h2⟩ := filt_get h
    have h3 := trl_get hl h1
    have h4 : sioOK (trv rA sio v) := by
      cases v <;> simp only [m_isA, Bool.false_eq_true] at h2
      · exact Or.inl rfl
      · rename_i a
        by_cases q : a = KB + 100
        · simp only [trv, if_pos q]; exact hs
        · simp only [trv, if_neg q]; exact Or.inr ⟨_, rfl⟩
    rcases h4 with h4 | ⟨y, h4⟩
    · rw [h4] at h3 k; exact lv_aloadN hx hb hdg h3 k
    · rw [h4] at h3 k; exact lv_aload hx hb hdg h3 k
  case aload_n n =>
    simp only [m_len] at hlen
    obtain rfl : len = 1 := by omega
    simp only [m_push] at h
    obtain ⟨h1, h2⟩ := filt_get h
    have h3 := trl_get hl h1
    have h4 : sioOK (trv rA sio v) := by
      cases v <;> simp only [m_isA, Bool.false_eq_true] at h2
      · exact Or.inl rfl
      · rename_i a
        by_cases q : a = KB + 100
        · simp only [trv, if_pos q]; exact hs
        · simp only [trv, if_neg q]; exact Or.inr ⟨_, rfl⟩
    rcases h4 with h4 | ⟨y, h4⟩
    · rw [h4] at h3 k; exact lv_aload_nN hx hb hdg rfl h3 k
    · rw [h4] at h3 k; exact lv_aload_n hx hb hdg rfl h3 k
  all_goals (simp only [m_push, reduceCtorEq] at h)
end SimB
