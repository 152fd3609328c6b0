/-! THE SMALL MACHINE IS THE MACHINE, X: calls, returns, runs -/
/-- what is checked of a call -/
def invOK (cls : List vw_C) (MT : List MM) (ws : List Cond) (nestT : NestT) (own : String) (E : MI) : Prop := match E.2.1 with
  | .invokestatic idx => ¬ E.2.2.2.1 = 9999 ∧ ((E.2.2.2.1 = 9998 ∧ E.2.2.2.2.1 = 2 ∧ Cond.methodLink own idx Lib.Math.max.name ∈ ws ∧ Cond.static Lib.Math.max.name ∈ ws ∧ Cond.initialized "java/lang/Math" ∈ ws ∧ Cond.code Lib.Math.max.name Lib.Math.max.code 2 (some .int) ∈ ws) ∨ ∃ M, MT[E.2.2.2.1]? = some M ∧ (Cond.methodLink own idx M.1 ∈ ws ∨ ∃ host, (own, idx, M.1, host) ∈ nestT) ∧ Cond.static M.1 ∈ ws ∧ Cond.initialized M.1.cls ∈ ws ∧ M.1.cls ≠ "java/lang/invoke/MethodHandle" ∧ M.1.cls ≠ "java/lang/invoke/VarHandle" ∧ (parseMethodDescriptor M.1.desc).map (fun d => d.parameters.length) = some E.2.2.2.2.1)
  | .invokespecial idx => (E.2.2.2.1 = 9999 ∧ E.2.2.2.2.1 = 1 ∧ Cond.methodLink own idx Lib.objectInit ∈ ws ∧ Cond.instanceMethod Lib.objectInit ∈ ws ∧ Cond.code Lib.objectInit ⟨#[0xb1]⟩ 1 none ∈ ws) ∨
    (¬ E.2.2.2.1 = 9999 ∧ ∃ M, MT[E.2.2.2.1]? = some M ∧ M.2.2.2.1 = none ∧ M.1.name = "<init>" ∧ (Cond.methodLink own idx M.1 ∈ ws ∨ ∃ host, (own, idx, M.1, host) ∈ nestT) ∧ Cond.instanceMethod M.1 ∈ ws ∧ Cond.initialized M.1.cls ∈ ws ∧ M.1.cls ≠ "java/lang/invoke/MethodHandle" ∧ M.1.cls ≠ "java/lang/invoke/VarHandle" ∧ (parseMethodDescriptor M.1.desc).map (fun d => d.parameters.length) = some (E.2.2.2.2.1 - 1))
  | .invokevirtual idx => ¬ E.2.2.2.1 = 9999 ∧ ∃ M, MT[E.2.2.2.1]? = some M ∧ Cond.methodLink own idx M.1 ∈ ws ∧ Cond.instanceMethod M.1 ∈ ws ∧ Cond.selects M.1.cls M.1 M.1 ∈ ws ∧ Cond.initialized M.1.cls ∈ ws ∧ M.1.cls ≠ "java/lang/invoke/MethodHandle" ∧ M.1.cls ≠ "java/lang/invoke/VarHandle" ∧ (parseMethodDescriptor M.1.desc).map (fun d => d.parameters.length) = some (E.2.2.2.2.1 - 1) ∧
    ((∃ (ci : Nat) (q : vw_C), (ci : Int) = E.2.2.2.2.2 ∧ cls[ci]? = some q ∧ q.1 = M.1.cls) ∨ (E.2.2.2.2.2 = 99 ∧ M.1.cls = "java/lang/String"))
  | _ => True
def bodyOK (cls : List vw_C) (fty : Nat → Nat → FieldType) (MT : List MM) (ws : List Cond) (strT : StrT) (nestT : NestT) (M : MM) : Prop := ∀ E ∈ M.2.2.2.2, insOK cls fty M.1 M.2.1 M.2.2.1 ws strT E ∧ invOK cls MT ws nestT M.1.cls E
def callOK (ws : List Cond) (M : MM) : Prop := Cond.code M.1 M.2.1 M.2.2.1 M.2.2.2.1 ∈ ws ∧ M.2.2.1 ≤ 45 ∧ plainName M.1.cls = true
section SimJ
variable {p : Program} {l : Launch} {e : Env} {R : Room} {s : State} {m : MethodId} {args : Array Value} {below : List Frame} {meth : Method} {c : Code} {H : Heap} {locs : List Loc} {cells slots : Nat} {Q : State → Prop}
variable {cc : ByteArray} {ls : Array Slot} {nL : Nat} {rA : Nat → Nat} {sio : Value} {cA : Nat → ClassId} {dC : Nat → ClassId} {dI : Nat → Nat → Nat} {cls : List vw_C} {b0 : Nat} {strT : StrT} {nestT : NestT} {ro : Nat → Option MC}
def Pm (cls : List vw_C) (strT : StrT) (nestT : NestT) (ro : Nat → Option MC) (rA : Nat → Nat) (sio : Value) (b0 : Nat) (dC : Nat → ClassId) (dI : Nat → Nat → Nat) (cA : Nat → ClassId) (as : List Value) (F : MH) : Array Value → State → Prop :=
  va_Pc (trs rA sio as) (fun U => U.heap.size = b0 + F.length ∧ va_P (dC, dI) cls (wsF (trE rA sio cA) b0 F) U.heap ∧ CTX cls strT nestT ro rA sio b0 dC dI cA U)
def Qm (cls : List vw_C) (rA : Nat → Nat) (sio : Value) (b0 : Nat) (dC : Nat → ClassId) (dI : Nat → Nat → Nat) (cA : Nat → ClassId) (v : Option Value) (F1 : MH) : Array Value → State → Outcome → State → Prop := fun _ st o t =>
  o = .returned (v.map (trv rA sio)) ∧ va_P (dC, dI) cls (wsF (trE rA sio cA) b0 F1) t.heap ∧ b0 + F1.length ≤ t.heap.size ∧ va_F (fun q => b0 ≤ q) st t
theorem Pm_blind (as : List Value) (F : MH) : FrameBlind (Pm cls strT nestT ro rA sio b0 dC dI cA as F) := by
  intro a U g mk h
  obtain ⟨h0, h1, h2, h3⟩ := h
  exact ⟨h0, h1, h2, h3.go (U := U.calling g mk a) (State.WarmedH.refl U) (fun _ _ _ => rfl)⟩
theorem s_callgo {pc mc ms : Nat} {st0 rest : List Value} {v : Option Value} {F1 : MH} {a : Array Value} (hr : va_Run p l e R s m args below meth c H locs cells slots mc ms (F0 m pc ls st0) rest (Qm cls rA sio b0 dC dI cA v F1 a) (fun q => b0 ≤ q)) (hS : va_S (fun q => b0 ≤ q) s.heap H locs)
    (k : ∀ (H1 : Heap) (l1 : List Loc), va_P (dC, dI) cls (wsF (trE rA sio cA) b0 F1) H1 → b0 + F1.length ≤ H1.size → va_S (fun q => b0 ≤ q) s.heap H1 l1 → W p l e R s m args below meth c H1 l1 (cells + mc) (slots + ms) Q (F0 m (pc + 3) ls ((v.map (trv rA sio)).toList ++ rest))) :
    W p l e R s m args below meth c H locs cells slots Q (F0 m pc ls st0) := by
  intro T hT X
  obtain ⟨v', st₀, t, T', L, h0, X', hL, e1, e2, ⟨hv, hq1, hq2, hz, hk⟩, st⟩ := hr T hT X
  cases hv
  rw [h0] at hz hk
  obtain ⟨t2, a1, b1⟩ := k T'.heap (locs ++ L) (by rw [e1]; exact hq1) (by rw [e1]; exact hq2)
    ⟨Nat.le_trans hS.1 (by rw [e1]; exact hz), fun q h1 h2 => by rw [e1, hk q (Nat.lt_of_lt_of_le h1 hS.1) h2]; exact hS.2.1 q h1 h2, fun q hq => by
      rcases List.mem_append.mp hq with h | h
      · exact hS.2.2 q h
      · exact hL q h⟩ T' rfl X'
  exact ⟨t2, st t2 a1, b1⟩
theorem sl_len (hs : sioOK sio) : ∀ as : List Value, (lg_sl (trs rA sio as)).length = (as.map fun v => v.category).sum
  | [] => rfl
  | v :: t => by
    have ih := sl_len hs t
    simp only [trs, lg_sl, List.map_cons, List.flatMap_cons, List.length_append, List.sum_cons] at ih ⊢
    rw [ih, trv_cat hs]
    rcases lv_cat v with h | h <;> rw [h] <;> simp
theorem args_tr (hs : sioOK sio) : ∀ (as : List Value) (i : Nat), lv_args i (trs rA sio as) = trl rA sio (lv_args i as)
  | [], i => rfl
  | v :: t, i => by
    have ih := args_tr hs t
    simp only [trs, trl, List.map_cons, lv_args] at ih ⊢
    rw [trv_cat hs, ih]
theorem m_at_spec {MT : List MM} {mi pc : Nat} {z : MI × Option FieldType} (h : m_at MT mi pc = some z) : ∃ M, MT[mi]? = some M ∧ z.1 ∈ M.2.2.2.2 ∧ z.1.1 = pc ∧ z.2 = M.2.2.2.1 := by
  unfold m_at at h
  split at h
  · rename_i M hM
    cases hf : M.2.2.2.2.find? (fun E => E.1 == pc) with
    | none => rw [hf] at h; cases h
    | some E =>
      rw [hf] at h
      cases h
      have h2 : (E.1 == pc) = true := by have := List.find?_some hf; exact this
      exact ⟨M, hM, List.mem_of_find?_eq_some hf, by simpa using h2, rfl⟩
  · cases h
/-- a contract out of runs of its body -/
theorem met_of {M : MM} {ws : List Cond} {d mc ms : Nat} {as : List Value} {F F1 : MH} {v : Option Value} (hs : sioOK sio) (hpl : plainName M.1.cls = true) (hw : (as.map fun v => v.category).sum ≤ M.2.2.1)
    (body : ∀ {p : Program} {e : Env} {s : State} {m : MethodId} {args : Array Value} {below : List Frame} {meth : Method} {c : Code} {ls : Array Slot}, p.tables.exec = Jvm.exec → c.code = M.2.1 → c.maxLocals = M.2.2.1 → s.vm.findClass M.1.cls = some m.cls → meth.name = M.1.name → meth.sig.returnType = M.2.2.2.1 → meth.locks = false → (∀ w ∈ ws, w.before args s = true) → CTX cls strT nestT ro rA sio b0 dC dI cA s → s.heap.size = b0 + F.length → va_P (dC, dI) cls (wsF (trE rA sio cA) b0 F) s.heap → lv_has ls M.2.2.1 (trl rA sio (lv_args 0 as)) →
      W p l e ({ frames := d + 1, cells := mc, slots := ms, locals := 64 * (d + 1) } : Room) s m args below meth c s.heap [] 0 0 (MQ below (Qm cls rA sio b0 dC dI cA v F1) args s mc ms (fun q => b0 ≤ q)) (F0 m 0 ls [])) :
    Met l M.1 (Cond.code M.1 M.2.1 M.2.2.1 M.2.2.2.1 :: ws) ({ frames := d + 1, cells := mc, slots := ms, locals := 64 * (d + 1) } : Room) (Pm cls strT nestT ro rA sio b0 dC dI cA as F) (Qm cls rA sio b0 dC dI cA v F1) mc ms (fun q => b0 ≤ q) := by
  refine Met.ofW (cc := M.2.1) (maxL := M.2.2.1) (ret := M.2.2.2.1) hpl rfl ?_
  intro p e s m args below meth c s₁ B hml hv
  obtain ⟨rfl, hsz, hP, hX⟩ := hv
  have hts := atoms_spec (ws := Cond.code M.1 M.2.1 M.2.2.1 M.2.2.2.1 :: ws) B.pre
  have hown : s.vm.findClass M.1.cls = some m.cls := findClass_of_methodNamed B.named
  have hin : meth.name = M.1.name := (name_of_methodNamed B.named B.method).1
  have hl := lv_entry (trs rA sio as) (n := M.2.2.1) (by rw [sl_len hs]; exact hw)
  rw [args_tr hs] at hl
  rw [lg_entry_eq]
  exact body B.exec B.bytes hml hown hin B.returns B.notSynchronized (fun w h => hts w (List.mem_cons_of_mem _ h)) hX hsz hP hl
/-- a return -/
theorem s_ret (hx : p.tables.exec = Jvm.exec) (hb : c.code = cc) {rt : Option FieldType} (hr : meth.sig.returnType = rt) (hlk : meth.locks = false) {E : MI} {st : List Value} {v : Option Value} {F1 : MH} (hdg : decode cc E.1 = .ok (E.2.1, E.2.2.1)) (hlen : m_len E.2.1 = 0 ∨ m_len E.2.1 = E.2.2.1) (h : m_ret rt E st = some v) (hP : va_P (dC, dI) cls (wsF (trE rA sio cA) b0 F1) H) (hsz : b0 + F1.length ≤ H.size) (hS : va_S (fun q => b0 ≤ q) s.heap H locs) :
    W p l e R s m args below meth c H locs cells slots (MQ below (Qm cls rA sio b0 dC dI cA v F1) args s cells slots (fun q => b0 ≤ q)) (F0 m E.1 ls (trs rA sio st)) := by
  have hq : ∀ t : State, t.heap = H → s.WarmedH t.vm → Qm cls rA sio b0 dC dI cA v F1 args s (.returned (v.map (trv rA sio))) t := fun t ht _ => ⟨rfl, by rw [ht]; exact hP, by rw [ht]; exact hsz, hS.F ht⟩
  obtain ⟨pc, i, len, a0, b1, z⟩ := E
  simp only at hdg hlen h ⊢
  cases i
  case ireturn =>
    simp only [m_len] at hlen
    obtain rfl : len = 1 := by omega
    simp only [m_ret] at h
    split at h
    · split at h
      · split at h
        · rename_i hn
          cases h
          exact W.zret hx hb hr hn hq hS.2.2 hdg hlk
        · cases h
      · cases h
    · cases h
  case lreturn =>
    simp only [m_len] at hlen
    obtain rfl : len = 1 := by omega
    simp only [m_ret] at h
    split at h
    · split at h
      · rename_i hn
        cases h
        exact W.lret hx hb (hr.trans hn) hq hS.2.2 hdg hlk
      · cases h
    · cases h
  case return_ =>
    simp only [m_len] at hlen
    obtain rfl : len = 1 := by omega
    simp only [m_ret] at h
    split at h
    · split at h
      · rename_i hn
        cases h
        exact W.vret hx hb (hr.trans hn) hq hS.2.2 hdg hlk
      · cases h
    · cases h
  all_goals (simp only [m_ret, reduceCtorEq] at h)
end SimJ
