/-! A WINDOW: an instruction is read alike where the bytes are alike, and the place is further on by a multiple of four -/
section Win
variable {c w : ByteArray} {k : Nat} {α β : Type}
noncomputable def ShW (c w : ByteArray) (k : Nat) {α : Type} (m m2 : Jvm.ClassFile.Decoder α) : Prop := ∀ p a q, m2 w p = .ok (a, q) → m c (p + k) = .ok (a, q + k)
theorem run_pure (a : α) (c : ByteArray) (p : Nat) : (pure a : Jvm.ClassFile.Decoder α) c p = .ok (a, p) := rfl
theorem run_bind (m : Jvm.ClassFile.Decoder α) (f : α → Jvm.ClassFile.Decoder β) (c : ByteArray) (p : Nat) : (m >>= f) c p = (match m c p with | .ok x => f x.1 c x.2 | .error e => .error e) := by
  show (m c p >>= fun x => match x with | (a, s) => f a c s) = _
  cases m c p with
  | error e => rfl
  | ok x => rfl
theorem ShW.pure (a : α) : ShW c w k (Pure.pure a) (Pure.pure a) := by
  intro p b q h
  rw [run_pure] at h ⊢
  cases h
  rfl
theorem ShW.bind {m m2 : Jvm.ClassFile.Decoder α} {f f2 : α → Jvm.ClassFile.Decoder β} (h1 : ShW c w k m m2) (h2 : ∀ a, ShW c w k (f a) (f2 a)) : ShW c w k (m >>= f) (m2 >>= f2) := by
  intro p b q h
  rw [run_bind] at h ⊢
  cases hm : m2 w p with
  | error e => rw [hm] at h; cases h
  | ok x =>
    obtain ⟨a, s⟩ := x
    rw [hm] at h
    rw [h1 p a s hm]
    exact h2 a s b q h
theorem ShW.thr {m : Jvm.ClassFile.Decoder α} {e : Jvm.ClassFile.DecodeError} : ShW c w k m (throw e) := by
  intro p b q h
  cases h
theorem ShW.map {m m2 : Jvm.ClassFile.Decoder α} {f : α → β} (h1 : ShW c w k m m2) : ShW c w k (f <$> m) (f <$> m2) := by
  rw [← bind_pure_comp, ← bind_pure_comp]
  exact ShW.bind h1 (fun a => ShW.pure _)
theorem run_u1 (c : ByteArray) (p : Nat) : (Jvm.ClassFile.Reader.u1 : Jvm.ClassFile.Decoder Nat) c p = if h : p < c.size then .ok (c[p].toNat, p + 1) else .error (.truncated p) := by
  show (if h : p < c.size then (do set (p + 1); pure c[p].toNat : Jvm.ClassFile.Decoder Nat) else throw (Jvm.ClassFile.HasTruncated.truncated p)) c p = _
  by_cases h : p < c.size
  · rw [dif_pos h, dif_pos h]; rfl
  · rw [dif_neg h, dif_neg h]; rfl
theorem ShW.u1 (hw : ∀ i (h : i < w.size), ∃ h2 : i + k < c.size, c[i + k] = w[i]) : ShW c w k Jvm.ClassFile.Reader.u1 Jvm.ClassFile.Reader.u1 := by
  intro p a q h
  rw [run_u1] at h ⊢
  by_cases g : p < w.size
  · obtain ⟨g2, e⟩ := hw p g
    rw [dif_pos g] at h
    rw [dif_pos g2, e]
    cases h
    rw [Nat.add_right_comm]
  · rw [dif_neg g] at h; cases h
theorem ShW.u2 (hw : ∀ i (h : i < w.size), ∃ h2 : i + k < c.size, c[i + k] = w[i]) : ShW c w k Jvm.ClassFile.Reader.u2 Jvm.ClassFile.Reader.u2 :=
  ShW.bind (ShW.u1 hw) (fun _ => ShW.bind (ShW.u1 hw) (fun _ => ShW.pure _))
theorem ShW.u4 (hw : ∀ i (h : i < w.size), ∃ h2 : i + k < c.size, c[i + k] = w[i]) : ShW c w k Jvm.ClassFile.Reader.u4 Jvm.ClassFile.Reader.u4 :=
  ShW.bind (ShW.u2 hw) (fun _ => ShW.bind (ShW.u2 hw) (fun _ => ShW.pure _))
theorem ShW.s1 (hw : ∀ i (h : i < w.size), ∃ h2 : i + k < c.size, c[i + k] = w[i]) : ShW c w k Jvm.ClassFile.Reader.s1 Jvm.ClassFile.Reader.s1 := ShW.map (ShW.u1 hw)
theorem ShW.s2 (hw : ∀ i (h : i < w.size), ∃ h2 : i + k < c.size, c[i + k] = w[i]) : ShW c w k Jvm.ClassFile.Reader.s2 Jvm.ClassFile.Reader.s2 := ShW.map (ShW.u2 hw)
/-- opcodes whose operands are plain, those that are met often -/
noncomputable def opL : List Nat := [2, 3, 4, 5, 6, 16, 21, 26, 27, 28, 29, 42, 43, 44, 46, 50, 54, 60, 61, 62, 79, 87, 89, 96, 100, 104, 132, 133, 153, 154, 155, 160, 161, 162, 164, 167, 172, 177, 180, 181, 182, 184]
noncomputable def opG (op : Nat) : Bool := opL.any (fun x => Nat.beq x op)
theorem ins_go {F G : Nat → Jvm.ClassFile.Decoder β} (hw : ∀ i (h : i < w.size), ∃ h2 : i + k < c.size, c[i + k] = w[i]) {p q : Nat} {b : UInt8} {a : β} (hp : ∃ g : p < w.size, w[p] = b) (hF : ShW c w k (F b.toNat) (G b.toNat)) (h : ((Jvm.ClassFile.Reader.u1 : Jvm.ClassFile.Decoder Nat) >>= G) w p = .ok (a, q)) : ((Jvm.ClassFile.Reader.u1 : Jvm.ClassFile.Decoder Nat) >>= F) c (p + k) = .ok (a, q + k) := by
  obtain ⟨g, rfl⟩ := hp
  obtain ⟨g2, e⟩ := hw p g
  rw [run_bind, run_u1, dif_pos g] at h
  rw [run_bind, run_u1, dif_pos g2, e]
  have h3 := hF (p + 1) a q h
  rw [Nat.add_right_comm p 1 k] at h3
  exact h3
set_option maxHeartbeats 4000000 in
set_option maxRecDepth 100000 in
theorem ins_sh (hw : ∀ i (h : i < w.size), ∃ h2 : i + k < c.size, c[i + k] = w[i]) {pc pc2 p q : Nat} {b : UInt8} {a : Instr} (hp : ∃ g : p < w.size, w[p] = b) (hg : opG b.toNat = true) (h : Jvm.ClassFile.Decoder.instr pc2 w p = .ok (a, q)) : Jvm.ClassFile.Decoder.instr pc c (p + k) = .ok (a, q + k) := by
  delta Jvm.ClassFile.Decoder.instr at h ⊢
  refine ins_go hw hp ?_ h
  clear h
  generalize b.toNat = op at hg ⊢
  obtain ⟨x, hx, hg⟩ := List.any_eq_true.mp hg
  have hg := Nat.eq_of_beq_eq_true hg
  subst hg
  simp only [opL, List.mem_cons, List.not_mem_nil, or_false] at hx
  rcases hx with rfl | rfl | rfl | rfl | rfl | rfl | rfl | rfl | rfl | rfl | rfl | rfl | rfl | rfl | rfl | rfl | rfl | rfl | rfl | rfl | rfl | rfl | rfl | rfl | rfl | rfl | rfl | rfl | rfl | rfl | rfl | rfl | rfl | rfl | rfl | rfl | rfl | rfl | rfl | rfl | rfl | rfl
  · exact ShW.pure _
  · exact ShW.pure _
  · exact ShW.pure _
  · exact ShW.pure _
  · exact ShW.pure _
  · exact ShW.bind (ShW.s1 hw) (fun _ => ShW.pure _)
  · exact ShW.bind (ShW.u1 hw) (fun _ => ShW.pure _)
  · exact ShW.pure _
  · exact ShW.pure _
  · exact ShW.pure _
  · exact ShW.pure _
  · exact ShW.pure _
  · exact ShW.pure _
  · exact ShW.pure _
  · exact ShW.pure _
  · exact ShW.pure _
  · exact ShW.bind (ShW.u1 hw) (fun _ => ShW.pure _)
  · exact ShW.pure _
  · exact ShW.pure _
  · exact ShW.pure _
  · exact ShW.pure _
  · exact ShW.pure _
  · exact ShW.pure _
  · exact ShW.pure _
  · exact ShW.pure _
  · exact ShW.pure _
  · exact ShW.bind (ShW.u1 hw) (fun _ => ShW.bind (ShW.s1 hw) (fun _ => ShW.pure _))
  · exact ShW.pure _
  · exact ShW.bind (ShW.s2 hw) (fun _ => ShW.pure _)
  · exact ShW.bind (ShW.s2 hw) (fun _ => ShW.pure _)
  · exact ShW.bind (ShW.s2 hw) (fun _ => ShW.pure _)
  · exact ShW.bind (ShW.s2 hw) (fun _ => ShW.pure _)
  · exact ShW.bind (ShW.s2 hw) (fun _ => ShW.pure _)
  · exact ShW.bind (ShW.s2 hw) (fun _ => ShW.pure _)
  · exact ShW.bind (ShW.s2 hw) (fun _ => ShW.pure _)
  · exact ShW.bind (ShW.s2 hw) (fun _ => ShW.pure _)
  · exact ShW.pure _
  · exact ShW.pure _
  · exact ShW.bind (ShW.u2 hw) (fun _ => ShW.pure _)
  · exact ShW.bind (ShW.u2 hw) (fun _ => ShW.pure _)
  · exact ShW.bind (ShW.u2 hw) (fun _ => ShW.pure _)
  · exact ShW.bind (ShW.u2 hw) (fun _ => ShW.pure _)
theorem dec_sh (hw : ∀ i (h : i < w.size), ∃ h2 : i + k < c.size, c[i + k] = w[i]) {p len : Nat} {b : UInt8} {a : Instr} (hp : ∃ g : p < w.size, w[p] = b) (hg : opG b.toNat = true) (h : decode w p = .ok (a, len)) : decode c (p + k) = .ok (a, len) := by
  have e1 : ∀ (c : ByteArray) (p : Nat), decode c p = (match Jvm.ClassFile.Decoder.instr p c p with | .ok x => .ok (x.1, x.2 - p) | .error e => .error e) := by
    intro c p
    show (Jvm.ClassFile.Decoder.instr p c p >>= fun x => match x with | (i, n) => (Except.ok (i, n - p) : Except Jvm.ClassFile.DecodeError (Instr × Nat))) = _
    cases Jvm.ClassFile.Decoder.instr p c p <;> rfl
  rw [e1] at h ⊢
  cases hm : Jvm.ClassFile.Decoder.instr p w p with
  | error e => rw [hm] at h; cases h
  | ok x =>
    obtain ⟨i, n⟩ := x
    rw [hm] at h
    rw [ins_sh hw hp hg hm]
    have h : (Except.ok (i, n - p) : Except Jvm.ClassFile.DecodeError (Instr × Nat)) = .ok (a, len) := h
    have h3 : n + k - (p + k) = n - p := by omega
    show (Except.ok (i, n + k - (p + k)) : Except Jvm.ClassFile.DecodeError (Instr × Nat)) = _
    rw [h3]; exact h
/-- a window of a code -/
noncomputable def winB (c : ByteArray) (k n : Nat) : ByteArray := ⟨⟨(c.data.toList.drop k).take n⟩⟩
theorem winB_ok {n : Nat} : ∀ i (h : i < (winB c k n).size), ∃ h2 : i + k < c.size, c[i + k] = (winB c k n)[i] := by
  intro i h
  obtain ⟨⟨l⟩⟩ := c
  have h1 : i < ((l.drop k).take n).length := h
  rw [List.length_take, List.length_drop] at h1
  have h2 : i + k < l.length := by omega
  refine ⟨h2, ?_⟩
  have key : ∀ h3 : i < ((l.drop k).take n).length, l[i + k] = ((l.drop k).take n)[i]'h3 := by
    intro h3
    have e : l[i + k]? = ((l.drop k).take n)[i]? := by
      rw [List.getElem?_take, if_pos (by omega), List.getElem?_drop, Nat.add_comm]
    rw [List.getElem?_eq_getElem h2, List.getElem?_eq_getElem h3] at e
    exact Option.some.inj e
  exact key h
noncomputable def dW1 (c w : ByteArray) (k nL : Nat) (E : MI) : Bool := ((match w.data.toList[E.1 - k]? with
    | some b => opG b.toNat && (Nat.ble k E.1 && decide (decode w (E.1 - k) = .ok (E.2.1, E.2.2.1)))
    | none => false) || decide (decode c E.1 = .ok (E.2.1, E.2.2.1))) && (m_len E.2.1 == 0 || m_len E.2.1 == E.2.2.1) && m_sl E.2.1 nL
noncomputable def dOK (cc : ByteArray) (nL : Nat) (L : List MI) : Bool := L.all fun E => decide (decode cc E.1 = .ok (E.2.1, E.2.2.1)) && (m_len E.2.1 == 0 || m_len E.2.1 == E.2.2.1) && m_sl E.2.1 nL
theorem dOK_w {nL : Nat} {L : List MI} (hw : ∀ i (h : i < w.size), ∃ h2 : i + k < c.size, c[i + k] = w[i]) (h : L.all (dW1 c w k nL) = true) : dOK c nL L = true := by
  unfold dOK
  refine List.all_eq_true.mpr (fun E hE => ?_)
  have h1 := List.all_eq_true.mp h E hE
  unfold dW1 at h1
  rw [Bool.and_eq_true, Bool.and_eq_true] at h1 ⊢
  refine ⟨⟨?_, h1.1.2⟩, h1.2⟩
  rcases Bool.or_eq_true _ _ ▸ h1.1.1 with g | g
  · split at g
    · rename_i b hb
      rw [Bool.and_eq_true, Bool.and_eq_true, decide_eq_true_eq] at g
      obtain ⟨g1, g2, g3⟩ := g
      have g4 : k ≤ E.1 := Nat.le_of_ble_eq_true g2
      have hb2 := List.getElem?_eq_some_iff.mp hb
      have := dec_sh hw (p := E.1 - k) (b := b) ⟨hb2.1, hb2.2⟩ g1 g3
      rw [Nat.sub_add_cancel g4] at this
      exact decide_eq_true this
    · cases g
  · exact g
/-- blocks of 16 bytes, each by a window of its own -/
noncomputable def dGo (c g : ByteArray) (k nL : Nat) : List (List MI) → Nat → Bool
  | [], _ => true
  | L :: Ls, j => L.all (dW1 c (winB g j 40) (j + k) nL) && dGo c g k nL Ls (j + 16)
theorem dGo_ok {nL m : Nat} : ∀ {Ls : List (List MI)} {j : Nat}, dGo c (winB c k m) k nL Ls j = true → ∀ L ∈ Ls, dOK c nL L = true
  | [], _, _, L, hL => by cases hL
  | L0 :: Ls, j, h, L, hL => by
    rw [dGo, Bool.and_eq_true] at h
    rcases List.mem_cons.mp hL with rfl | hL
    · refine dOK_w (fun i hi => ?_) h.1
      obtain ⟨h2, e2⟩ := winB_ok (c := winB c k m) (k := j) (n := 40) i hi
      obtain ⟨h3, e3⟩ := winB_ok (c := c) (k := k) (n := m) (i + j) h2
      have e : i + (j + k) = i + j + k := by omega
      have key : ∀ a b (ha : a < c.size) (hb : b < c.size), a = b → c[a] = c[b] := by
        intro a b ha hb e
        subst e
        rfl
      exact ⟨by rw [e]; exact h3, (key _ _ _ h3 e).trans (e3.trans e2)⟩
    · exact dGo_ok h.2 L hL
theorem dOK_fl {nL : Nat} {R : List MI} {Ls : List (List MI)} (hR : R = Ls.flatten) (h : ∀ L ∈ Ls, dOK c nL L = true) : dOK c nL R = true := by
  subst hR
  unfold dOK
  refine List.all_eq_true.mpr (fun E hE => ?_)
  obtain ⟨L, hL, hE⟩ := List.mem_flatten.mp hE
  exact List.all_eq_true.mp (h L hL) E hE
theorem dOK_app {cc : ByteArray} {nL : Nat} {L L2 : List MI} (h : dOK cc nL L = true) (h2 : dOK cc nL L2 = true) : dOK cc nL (L ++ L2) = true := by
  unfold dOK at *
  rw [List.all_append, h, h2]; rfl
end Win
