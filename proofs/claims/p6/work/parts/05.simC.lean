/-! THE SMALL MACHINE IS THE MACHINE, III: stores into locals, arithmetic -/
def m_sl (i : Instr) (nL : Nat) : Bool := match i with
  | .istore i => decide (i < nL)
  | .istore_n i => decide ((i : Nat) < nL)
  | .astore i => decide (i < nL)
  | .astore_n i => decide ((i : Nat) < nL)
  | .lstore i => decide (i + 1 < nL)
  | .lstore_n i => decide ((i : Nat) + 1 < nL)
  | .iinc i _ => decide (i < nL)
  | _ => true
section SimC
variable {p : Program} {l : Launch} {e : Env} {R : Room} {s : State} {m : MethodId} {args : Array Value} {below : List Frame} {meth : Method} {c : Code} {H : Heap} {locs : List Loc} {cells slots : Nat} {Q : State → Prop}
variable {cc : ByteArray} {ls : Array Slot} {nL : Nat} {rA : Nat → Nat} {sio : Value}
theorem trl_put1 (hs : sioOK sio) (lv : LVs) (i : Nat) (v : Value) : (i, trv rA sio v) :: (trl rA sio lv).filter (fun q => !(q.1 == i) && !(q.1 + 1 == i && q.2.category == 2)) = trl rA sio (m_put1 lv i v) := by
  unfold trl m_put1
  rw [List.map_cons, List.filter_map]
  congr 2
  apply List.filter_congr
  intro q hq
  simp only [Function.comp, trv_cat hs]
theorem trl_put2 (hs : sioOK sio) (lv : LVs) (i : Nat) (v : Value) : (i, trv rA sio v) :: (trl rA sio lv).filter (fun q => !(q.1 == i) && (!(q.1 == i + 1) && !(q.1 + 1 == i && q.2.category == 2))) = trl rA sio (m_put2 lv i v) := by
  unfold trl m_put2
  rw [List.map_cons, List.filter_map]
  congr 2
  apply List.filter_congr
  intro q hq
  simp only [Function.comp, trv_cat hs]
theorem s_astore (hx : p.tables.exec = Jvm.exec) (hb : c.code = cc) {pc i : Nat} {lv : LVs} {v : Value} {r : List Value} (hs : sioOK sio) (hv : sioOK (trv rA sio v)) (hdg : decode cc pc = .ok (.astore i, 2)) (hi : i < nL) (hl : lv_has ls nL (trl rA sio lv))
    (k : ∀ ls', lv_has ls' nL (trl rA sio (m_put1 lv i v)) → W p l e R s m args below meth c H locs cells slots Q (F0 m (pc + 2) ls' r)) : W p l e R s m args below meth c H locs cells slots Q (F0 m pc ls (trv rA sio v :: r)) := by
  have e1 := trl_put1 (rA := rA) hs lv i v
  rcases hv with h | ⟨y, h⟩
  · rw [h] at e1 ⊢; exact lv_astoreN hx hb hdg hl hi e1 k
  · rw [h] at e1 ⊢; exact lv_astore hx hb hdg hl hi e1 k
theorem s_astore_n (hx : p.tables.exec = Jvm.exec) (hb : c.code = cc) {pc : Nat} {i : Fin 4} {lv : LVs} {v : Value} {r : List Value} (hs : sioOK sio) (hv : sioOK (trv rA sio v)) (hdg : decode cc pc = .ok (.astore_n i, 1)) (hi : (i : Nat) < nL) (hl : lv_has ls nL (trl rA sio lv))
    (k : ∀ ls', lv_has ls' nL (trl rA sio (m_put1 lv i v)) → W p l e R s m args below meth c H locs cells slots Q (F0 m (pc + 1) ls' r)) : W p l e R s m args below meth c H locs cells slots Q (F0 m pc ls (trv rA sio v :: r)) := by
  have e1 := trl_put1 (rA := rA) hs lv i v
  rcases hv with h | ⟨y, h⟩
  · rw [h] at e1 ⊢; exact lv_astore_nN hx hb hdg rfl hl hi e1 k
  · rw [h] at e1 ⊢; exact lv_astore_n hx hb hdg rfl hl hi e1 k
theorem trv_sio (hs : sioOK sio) (a : Nat) : sioOK (trv rA sio (.ref a)) := by
  by_cases q : a = KB + 100
  · simp only [trv, if_pos q]; exact hs
  · simp only [trv, if_neg q]; exact Or.inr ⟨_, rfl⟩
theorem s_store (hx : p.tables.exec = Jvm.exec) (hb : c.code = cc) {E : MI} {lv : LVs} {st : List Value} {q : LVs × List Value} (hs : sioOK sio) (hdg : decode cc E.1 = .ok (E.2.1, E.2.2.1)) (hlen : m_len E.2.1 = 0 ∨ m_len E.2.1 = E.2.2.1) (hsl : m_sl E.2.1 nL = true) (hl : lv_has ls nL (trl rA sio lv)) (h : m_store E lv st = some q)
    (k : ∀ ls', lv_has ls' nL (trl rA sio q.1) → W p l e R s m args below meth c H locs cells slots Q (F0 m (E.1 + E.2.2.1) ls' (trs rA sio q.2))) : W p l e R s m args below meth c H locs cells slots Q (F0 m E.1 ls (trs rA sio st)) := by
  obtain ⟨pc, i, len, a, b, z⟩ := E
  simp only at hdg hlen hsl k h ⊢
  cases i
  case istore n =>
    simp only [m_len] at hlen
    obtain rfl : len = 2 := by omega
    simp only [m_sl, decide_eq_true_eq] at hsl
    simp only [m_store] at h
    split at h
    · cases h
      exact lv_istore hx hb hdg hl hsl (trl_put1 hs lv n (.int _)) k
    · cases h
  case istore_n n =>
    simp only [m_len] at hlen
    obtain rfl : len = 1 := by omega
    simp only [m_sl, decide_eq_true_eq] at hsl
    simp only [m_store] at h
    split at h
    · cases h
      exact lv_istore_n hx hb hdg rfl hl hsl (trl_put1 hs lv n (.int _)) k
    · cases h
  case lstore n =>
    simp only [m_len] at hlen
    obtain rfl : len = 2 := by omega
    simp only [m_sl, decide_eq_true_eq] at hsl
    simp only [m_store] at h
    split at h
    · cases h
      exact lv_lstore hx hb hdg hl hsl (trl_put2 hs lv n (.long _)) k
    · cases h
  case lstore_n n =>
    simp only [m_len] at hlen
    obtain rfl : len = 1 := by omega
    simp only [m_sl, decide_eq_true_eq] at hsl
    simp only [m_store] at h
    split at h
    · cases h
      exact lv_lstore_n hx hb hdg rfl hl hsl (trl_put2 hs lv n (.long _)) k
    · cases h
  case astore n =>
    simp only [m_len] at hlen
    obtain rfl : len = 2 := by omega
    simp only [m_sl, decide_eq_true_eq] at hsl
    simp only [m_store] at h
    split at h
    · cases h
      exact s_astore hx hb hs (trv_sio hs _) hdg hsl hl k
    · cases h
      exact s_astore (v := .null) hx hb hs (Or.inl rfl) hdg hsl hl k
    · cases h
  case astore_n n =>
    simp only [m_len] at hlen
    obtain rfl : len = 1 := by omega
    simp only [m_sl, decide_eq_true_eq] at hsl
    simp only [m_store] at h
    split at h
    · cases h
      exact s_astore_n hx hb hs (trv_sio hs _) hdg hsl hl k
    · cases h
      exact s_astore_n (v := .null) hx hb hs (Or.inl rfl) hdg hsl hl k
    · cases h
  case iinc n z =>
    simp only [m_len] at hlen
    obtain rfl : len = 3 := by omega
    simp only [m_sl, decide_eq_true_eq] at hsl
    simp only [m_store] at h
    split at h
    · rename_i x hg
      cases h
      have h1 : (n, Value.int x) ∈ trl rA sio lv := List.mem_map.mpr ⟨(n, .int x), m_get_mem hg, rfl⟩
      obtain ⟨j, hj⟩ := List.getElem?_of_mem h1
      exact lv_iinc hx hb hdg hl hj rfl hsl (trl_put1 hs lv n (.int _)) k
    · cases h
  all_goals (simp only [m_store, reduceCtorEq] at h)
theorem s_b32 (hx : p.tables.exec = Jvm.exec) (hb : c.code = cc) {pc len : Nat} {i : Instr} {f : Int32 → Int32 → Int32} {x y : Int32} {r : List Value} (hdg : decode cc pc = .ok (i, len)) (hlen : m_len i = 0 ∨ m_len i = len) (h : m_b32 i = some f)
    (k : W p l e R s m args below meth c H locs cells slots Q (F0 m (pc + len) ls (.int (f x y) :: r))) : W p l e R s m args below meth c H locs cells slots Q (F0 m pc ls (.int y :: .int x :: r)) := by
  cases i <;> simp only [m_b32, reduceCtorEq] at h <;> (simp only [m_len] at hlen; obtain rfl : len = 1 := by omega) <;> cases h
  · exact lv_iadd hx hb hdg k
  · exact lv_iand hx hb hdg k
  · exact lv_imul hx hb hdg k
  · exact lv_ior hx hb hdg k
  · exact lv_ishl hx hb hdg k
  · exact lv_ishr hx hb hdg k
  · exact lv_isub hx hb hdg k
  · exact lv_iushr hx hb hdg rfl k
  · exact lv_ixor hx hb hdg k
theorem s_d32 (hx : p.tables.exec = Jvm.exec) (hb : c.code = cc) {pc len : Nat} {i : Instr} {f : Int32 → Int32 → Int32} {x y : Int32} {r : List Value} (hdg : decode cc pc = .ok (i, len)) (hlen : m_len i = 0 ∨ m_len i = len) (h : m_d32 i = some f) (hy : ¬ y = 0)
    (k : W p l e R s m args below meth c H locs cells slots Q (F0 m (pc + len) ls (.int (f x y) :: r))) : W p l e R s m args below meth c H locs cells slots Q (F0 m pc ls (.int y :: .int x :: r)) := by
  cases i <;> simp only [m_d32, reduceCtorEq] at h <;> (simp only [m_len] at hlen; obtain rfl : len = 1 := by omega) <;> cases h
  · exact lv_idiv hx hb hdg hy k
  · exact lv_irem hx hb hdg hy k
theorem s_b64 (hx : p.tables.exec = Jvm.exec) (hb : c.code = cc) {pc len : Nat} {i : Instr} {f : Int64 → Int64 → Int64} {x y : Int64} {r : List Value} (hdg : decode cc pc = .ok (i, len)) (hlen : m_len i = 0 ∨ m_len i = len) (h : m_b64 i = some f)
    (k : W p l e R s m args below meth c H locs cells slots Q (F0 m (pc + len) ls (.long (f x y) :: r))) : W p l e R s m args below meth c H locs cells slots Q (F0 m pc ls (.long y :: .long x :: r)) := by
  cases i <;> simp only [m_b64, reduceCtorEq] at h <;> (simp only [m_len] at hlen; obtain rfl : len = 1 := by omega) <;> cases h
  · exact lv_ladd hx hb hdg k
  · exact lv_land hx hb hdg k
  · exact lv_lmul hx hb hdg k
  · exact lv_lor hx hb hdg k
  · exact lv_lsub hx hb hdg k
  · exact lv_lxor hx hb hdg k
theorem s_d64 (hx : p.tables.exec = Jvm.exec) (hb : c.code = cc) {pc len : Nat} {i : Instr} {f : Int64 → Int64 → Int64} {x y : Int64} {r : List Value} (hdg : decode cc pc = .ok (i, len)) (hlen : m_len i = 0 ∨ m_len i = len) (h : m_d64 i = some f) (hy : ¬ y = 0)
    (k : W p l e R s m args below meth c H locs cells slots Q (F0 m (pc + len) ls (.long (f x y) :: r))) : W p l e R s m args below meth c H locs cells slots Q (F0 m pc ls (.long y :: .long x :: r)) := by
  cases i <;> simp only [m_d64, reduceCtorEq] at h <;> (simp only [m_len] at hlen; obtain rfl : len = 1 := by omega) <;> cases h
  · exact lv_ldiv hx hb hdg hy k
  · exact lv_lrem hx hb hdg hy k
theorem s_u32 (hx : p.tables.exec = Jvm.exec) (hb : c.code = cc) {pc len : Nat} {i : Instr} {f : Int32 → Value} {x : Int32} {r : List Value} (hdg : decode cc pc = .ok (i, len)) (hlen : m_len i = 0 ∨ m_len i = len) (h : m_u32 i = some f)
    (k : W p l e R s m args below meth c H locs cells slots Q (F0 m (pc + len) ls (trv rA sio (f x) :: r))) : W p l e R s m args below meth c H locs cells slots Q (F0 m pc ls (.int x :: r)) := by
  cases i <;> simp only [m_u32, reduceCtorEq] at h <;> (simp only [m_len] at hlen; obtain rfl : len = 1 := by omega) <;> cases h
  · exact lv_i2b hx hb hdg rfl k
  · exact lv_i2c hx hb hdg rfl k
  · exact lv_i2l hx hb hdg rfl k
  · exact lv_i2s hx hb hdg rfl k
  · exact lv_ineg hx hb hdg k
theorem s_stk (hx : p.tables.exec = Jvm.exec) (hb : c.code = cc) {pc len : Nat} {i : Instr} {st st1 : List Value} (hs : sioOK sio) (hdg : decode cc pc = .ok (i, len)) (hlen : m_len i = 0 ∨ m_len i = len) (h : m_stk i st = some st1)
    (k : W p l e R s m args below meth c H locs cells slots Q (F0 m (pc + len) ls (trs rA sio st1))) : W p l e R s m args below meth c H locs cells slots Q (F0 m pc ls (trs rA sio st)) := by
  cases i <;> simp only [m_stk, reduceCtorEq] at h <;> (simp only [m_len] at hlen; obtain rfl : len = 1 := by omega)
  case dup =>
    split at h
    · split at h
      · cases h
        exact lv_dup hx hb hdg ((trv_cat hs _).trans (by assumption)) k
      · cases h
    · cases h
  case dup_x1 =>
    split at h
    · split at h
      · rename_i hc
        cases h
        exact lv_dup_x1 hx hb hdg ((trv_cat hs _).trans hc.1) ((trv_cat hs _).trans hc.2) k
      · cases h
    · cases h
  case dup_x2 =>
    split at h
    · split at h
      · rename_i hc
        cases h
        exact lv_dup_x2 hx hb hdg ((trv_cat hs _).trans hc.1) ((trv_cat hs _).trans hc.2.1) ((trv_cat hs _).trans hc.2.2) k
      · cases h
    · cases h
  case dup2 =>
    split at h
    · split at h
      · rename_i hc
        cases h
        exact lv_dup2_11 hx hb hdg ((trv_cat hs _).trans hc.1) ((trv_cat hs _).trans hc.2) k
      · cases h
    · cases h
  case l2i =>
    split at h
    · cases h
      exact lv_l2i hx hb hdg rfl k
    · cases h
  case lcmp =>
    split at h
    · cases h
      exact W.lcmp hx hb hdg k
    · cases h
  case pop =>
    split at h
    · split at h
      · cases h
        exact lv_pop hx hb hdg ((trv_cat hs _).trans (by assumption)) k
      · cases h
    · cases h
  case pop2 =>
    split at h
    · split at h
      · cases h
        exact lv_pop2_2 hx hb hdg ((trv_cat hs _).trans (by assumption)) k
      · cases h
    · cases h
theorem s_alu (hx : p.tables.exec = Jvm.exec) (hb : c.code = cc) {pc len : Nat} {i : Instr} {st st1 : List Value} (hs : sioOK sio) (hdg : decode cc pc = .ok (i, len)) (hlen : m_len i = 0 ∨ m_len i = len) (h : m_alu i st = some st1)
    (k : W p l e R s m args below meth c H locs cells slots Q (F0 m (pc + len) ls (trs rA sio st1))) : W p l e R s m args below meth c H locs cells slots Q (F0 m pc ls (trs rA sio st)) := by
  unfold m_alu at h
  split at h
  · split at h
    · cases h
      exact s_b32 hx hb hdg hlen (by assumption) k
    · cases h
  · split at h
    · split at h
      · split at h
        · cases h
        · cases h
          exact s_d32 hx hb hdg hlen (by assumption) (by assumption) k
      · cases h
    · split at h
      · split at h
        · cases h
          exact s_b64 hx hb hdg hlen (by assumption) k
        · cases h
      · split at h
        · split at h
          · split at h
            · cases h
            · cases h
              exact s_d64 hx hb hdg hlen (by assumption) (by assumption) k
          · cases h
        · split at h
          · split at h
            · cases h
              exact s_u32 (rA := rA) (sio := sio) hx hb hdg hlen (by assumption) k
            · cases h
          · exact s_stk hx hb hs hdg hlen h k
end SimC
