/-! THE SMALL MACHINE IS THE MACHINE, IV: branches -/
section SimD
variable {p : Program} {l : Launch} {e : Env} {R : Room} {s : State} {m : MethodId} {args : Array Value} {below : List Frame} {meth : Method} {c : Code} {H : Heap} {locs : List Loc} {cells slots : Nat} {Q : State → Prop}
variable {cc : ByteArray} {ls : Array Slot} {nL : Nat} {rA : Nat → Nat} {sio : Value}
theorem m_to_spec {pc t : Nat} {off : Int} (h : m_to pc off = some t) : (pc : Int) + off = (t : Int) := by
  unfold m_to at h
  split at h
  · cases h; omega
  · cases h
theorem m_jmp {pc : Nat} {off : Int} {r : List Value} {q : Nat × List Value} (h : (m_to pc off).map (fun t => (t, r)) = some q) : (pc : Int) + off = (q.1 : Int) ∧ q.2 = r := by
  cases ht : m_to pc off with
  | none => rw [ht] at h; cases h
  | some t => rw [ht] at h; cases h; exact ⟨m_to_spec ht, rfl⟩
theorem m_if_spec {pc : Nat} {off : Int} {b : Bool} {r : List Value} {q : Nat × List Value} (h : m_if pc off b r = some q) : ∃ t : Nat, (pc : Int) + off = (t : Int) ∧ q.1 = (if b = true then t else pc + 3) ∧ q.2 = r := by
  unfold m_if at h
  cases ht : m_to pc off with
  | none => rw [ht] at h; cases h
  | some t => rw [ht] at h; cases h; exact ⟨t, m_to_spec ht, rfl, rfl⟩
theorem s_if (hx : p.tables.exec = Jvm.exec) (hb : c.code = cc) {pc : Nat} {cd : ClassFile.Cond} {off : Int} {x : Int32} {r : List Value} {q : Nat × List Value} (hdg : decode cc pc = .ok (.ifCond cd off, 3)) (h : m_if pc off (m_cmp cd x 0) r = some q)
    (k : W p l e R s m args below meth c H locs cells slots Q (F0 m q.1 ls (trs rA sio q.2))) : W p l e R s m args below meth c H locs cells slots Q (F0 m pc ls (.int x :: trs rA sio r)) := by
  obtain ⟨t, h1, h2, h3⟩ := m_if_spec h
  rw [h2, h3] at k
  cases cd <;> simp only [m_cmp, decide_eq_true_eq] at k
  · exact lv_if_eq hx hb hdg h1 (fun n => by rw [if_pos n] at k; exact k) (fun n => by rw [if_neg n] at k; exact k)
  · exact lv_if_ne hx hb hdg h1 (fun n => by rw [if_pos n] at k; exact k) (fun n => by rw [if_neg (fun z => z n)] at k; exact k)
  · exact lv_if_lt hx hb hdg h1 (fun n => by rw [if_pos n] at k; exact k) (fun n => by rw [if_neg n] at k; exact k)
  · exact lv_if_ge hx hb hdg h1 (fun n => by rw [if_pos n] at k; exact k) (fun n => by rw [if_neg n] at k; exact k)
  · exact lv_if_gt hx hb hdg h1 (fun n => by rw [if_pos n] at k; exact k) (fun n => by rw [if_neg n] at k; exact k)
  · exact lv_if_le hx hb hdg h1 (fun n => by rw [if_pos n] at k; exact k) (fun n => by rw [if_neg n] at k; exact k)
theorem s_icmp (hx : p.tables.exec = Jvm.exec) (hb : c.code = cc) {pc : Nat} {cd : ClassFile.Cond} {off : Int} {x y : Int32} {r : List Value} {q : Nat × List Value} (hdg : decode cc pc = .ok (.if_icmp cd off, 3)) (h : m_if pc off (m_cmp cd x y) r = some q)
    (k : W p l e R s m args below meth c H locs cells slots Q (F0 m q.1 ls (trs rA sio q.2))) : W p l e R s m args below meth c H locs cells slots Q (F0 m pc ls (.int y :: .int x :: trs rA sio r)) := by
  obtain ⟨t, h1, h2, h3⟩ := m_if_spec h
  rw [h2, h3] at k
  cases cd <;> simp only [m_cmp, decide_eq_true_eq] at k
  · exact lv_icmp_eq hx hb hdg h1 (fun n => by rw [if_pos n] at k; exact k) (fun n => by rw [if_neg n] at k; exact k)
  · exact lv_icmp_ne hx hb hdg h1 (fun n => by rw [if_pos n] at k; exact k) (fun n => by rw [if_neg (fun z => z n)] at k; exact k)
  · exact lv_icmp_lt hx hb hdg h1 (fun n => by rw [if_pos n] at k; exact k) (fun n => by rw [if_neg n] at k; exact k)
  · exact lv_icmp_ge hx hb hdg h1 (fun n => by rw [if_pos n] at k; exact k) (fun n => by rw [if_neg n] at k; exact k)
  · exact lv_icmp_gt hx hb hdg h1 (fun n => by rw [if_pos n] at k; exact k) (fun n => by rw [if_neg n] at k; exact k)
  · exact lv_icmp_le hx hb hdg h1 (fun n => by rw [if_pos n] at k; exact k) (fun n => by rw [if_neg n] at k; exact k)
theorem s_br (hx : p.tables.exec = Jvm.exec) (hb : c.code = cc) {E : MI} {st : List Value} {q : Nat × List Value} (hs : sioOK sio) (hdg : decode cc E.1 = .ok (E.2.1, E.2.2.1)) (hlen : m_len E.2.1 = 0 ∨ m_len E.2.1 = E.2.2.1) (h : m_br E st = some q)
    (k : W p l e R s m args below meth c H locs cells slots Q (F0 m q.1 ls (trs rA sio q.2))) : W p l e R s m args below meth c H locs cells slots Q (F0 m E.1 ls (trs rA sio st)) := by
  obtain ⟨pc, i, len, a, b, z⟩ := E
  simp only at hdg hlen k h ⊢
  cases i
  case goto off =>
    simp only [m_len] at hlen
    obtain rfl : len = 3 := by omega
    simp only [m_br] at h
    obtain ⟨h1, h2⟩ := m_jmp h
    rw [h2] at k
    exact lv_goto hx hb hdg h1 k
  case ifCond cd off =>
    simp only [m_len] at hlen
    obtain rfl : len = 3 := by omega
    simp only [m_br] at h
    split at h
    · exact s_if hx hb hdg h k
    · cases h
  case if_icmp cd off =>
    simp only [m_len] at hlen
    obtain rfl : len = 3 := by omega
    simp only [m_br] at h
    split at h
    · exact s_icmp hx hb hdg h k
    · cases h
  case tableswitch d lo hi offs =>
    simp only [m_br] at h
    split at h
    · split at h
      · rename_i hc
        obtain ⟨h1, h2⟩ := m_jmp h
        rw [h2] at k
        exact lv_tableOut hx hb hdg hc h1 k
      · rename_i hc
        split at h
        · rename_i off ho
          obtain ⟨h1, h2⟩ := m_jmp h
          rw [h2] at k
          exact lv_tableIn hx hb hdg (fun n => hc (Or.inl n)) (fun n => hc (Or.inr n)) ho h1 k
        · cases h
    · cases h
  case lookupswitch d ps =>
    simp only [m_br] at h
    split at h
    · split at h
      · rename_i hc
        obtain ⟨h1, h2⟩ := m_jmp h
        rw [h2] at k
        exact lv_lookup hx hb hdg hc rfl h1 k
      · cases h
    · cases h
  all_goals (simp only [m_br, reduceCtorEq] at h)
end SimD
